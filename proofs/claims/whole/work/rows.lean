section
-- ===== PART A: goes FIRST, ahead of the names: the tables' words, and 'selects' of the private methods out of them =====
/-- a private method of a class that the tables say can be made, by its rows of tables_1 -/
def lw_okq (q : MethodName × Nat) : Prop := (q.1.cls ≠ "java/lang/invoke/MethodHandle" ∧ q.1.cls ≠ "java/lang/invoke/VarHandle") ∧ Cond.instantiable q.1.cls q.2 ∈ tables_1 ∧ Cond.privateMethod q.1 ∈ tables_1 ∧ Cond.instanceMethod q.1 ∈ tables_1
theorem lw_p0 : lw_okq (⟨"ProvedTable$Reader", "advance", "()V"⟩, 8) := ⟨⟨by decide +kernel, by decide +kernel⟩, List.mem_of_getElem? (i := 26) (by decide +kernel), List.mem_of_getElem? (i := 324) (by decide +kernel), List.mem_of_getElem? (i := 325) (by decide +kernel)⟩
theorem lw_p1 : lw_okq (⟨"ProvedTable$Reader", "kindAt", "(I)I"⟩, 8) := ⟨⟨by decide +kernel, by decide +kernel⟩, List.mem_of_getElem? (i := 26) (by decide +kernel), List.mem_of_getElem? (i := 328) (by decide +kernel), List.mem_of_getElem? (i := 329) (by decide +kernel)⟩
theorem lw_p2 : lw_okq (⟨"ProvedTable$Reader", "readLine", "(LProvedTable$Table;)Z"⟩, 8) := ⟨⟨by decide +kernel, by decide +kernel⟩, List.mem_of_getElem? (i := 26) (by decide +kernel), List.mem_of_getElem? (i := 336) (by decide +kernel), List.mem_of_getElem? (i := 337) (by decide +kernel)⟩
theorem lw_p3 : lw_okq (⟨"ProvedTable$Reader", "readHead", "(LProvedTable$Table;)Z"⟩, 8) := ⟨⟨by decide +kernel, by decide +kernel⟩, List.mem_of_getElem? (i := 26) (by decide +kernel), List.mem_of_getElem? (i := 340) (by decide +kernel), List.mem_of_getElem? (i := 341) (by decide +kernel)⟩
theorem lw_p4 : lw_okq (⟨"ProvedTable$Reader", "readWord", "(Ljava/lang/String;)Z"⟩, 8) := ⟨⟨by decide +kernel, by decide +kernel⟩, List.mem_of_getElem? (i := 26) (by decide +kernel), List.mem_of_getElem? (i := 345) (by decide +kernel), List.mem_of_getElem? (i := 346) (by decide +kernel)⟩
theorem lw_p5 : lw_okq (⟨"ProvedTable$Reader", "isWord", "(Ljava/lang/String;)Z"⟩, 8) := ⟨⟨by decide +kernel, by decide +kernel⟩, List.mem_of_getElem? (i := 26) (by decide +kernel), List.mem_of_getElem? (i := 349) (by decide +kernel), List.mem_of_getElem? (i := 350) (by decide +kernel)⟩
theorem lw_p6 : lw_okq (⟨"ProvedTable$Reader", "fail", "(I)Z"⟩, 8) := ⟨⟨by decide +kernel, by decide +kernel⟩, List.mem_of_getElem? (i := 26) (by decide +kernel), List.mem_of_getElem? (i := 401) (by decide +kernel), List.mem_of_getElem? (i := 402) (by decide +kernel)⟩
theorem lw_p7 : lw_okq (⟨"ProvedTable$Reader", "readNamed", "(Ljava/lang/String;II)I"⟩, 8) := ⟨⟨by decide +kernel, by decide +kernel⟩, List.mem_of_getElem? (i := 26) (by decide +kernel), List.mem_of_getElem? (i := 406) (by decide +kernel), List.mem_of_getElem? (i := 407) (by decide +kernel)⟩
theorem lw_p8 : lw_okq (⟨"ProvedTable$Reader", "readNumber", "(II)I"⟩, 8) := ⟨⟨by decide +kernel, by decide +kernel⟩, List.mem_of_getElem? (i := 26) (by decide +kernel), List.mem_of_getElem? (i := 410) (by decide +kernel), List.mem_of_getElem? (i := 411) (by decide +kernel)⟩
theorem lw_p9 : lw_okq (⟨"ProvedTable$Reader", "readClaim", "(LProvedTable$Table;)Z"⟩, 8) := ⟨⟨by decide +kernel, by decide +kernel⟩, List.mem_of_getElem? (i := 26) (by decide +kernel), List.mem_of_getElem? (i := 417) (by decide +kernel), List.mem_of_getElem? (i := 418) (by decide +kernel)⟩
theorem lw_p10 : lw_okq (⟨"ProvedTable$Reader", "readForm", "(LProvedTable$Table;I)I"⟩, 8) := ⟨⟨by decide +kernel, by decide +kernel⟩, List.mem_of_getElem? (i := 26) (by decide +kernel), List.mem_of_getElem? (i := 422) (by decide +kernel), List.mem_of_getElem? (i := 423) (by decide +kernel)⟩
theorem lw_p11 : lw_okq (⟨"ProvedTable$Reader", "worldsOfLeaf", "(LProvedTable$Table;)I"⟩, 8) := ⟨⟨by decide +kernel, by decide +kernel⟩, List.mem_of_getElem? (i := 26) (by decide +kernel), List.mem_of_getElem? (i := 426) (by decide +kernel), List.mem_of_getElem? (i := 427) (by decide +kernel)⟩
theorem lw_p12 : lw_okq (⟨"ProvedTable$Reader", "operatorHere", "()I"⟩, 8) := ⟨⟨by decide +kernel, by decide +kernel⟩, List.mem_of_getElem? (i := 26) (by decide +kernel), List.mem_of_getElem? (i := 440) (by decide +kernel), List.mem_of_getElem? (i := 441) (by decide +kernel)⟩
theorem lw_p13 : lw_okq (⟨"ProvedTable$Reader", "readParts", "(LProvedTable$Table;II)I"⟩, 8) := ⟨⟨by decide +kernel, by decide +kernel⟩, List.mem_of_getElem? (i := 26) (by decide +kernel), List.mem_of_getElem? (i := 448) (by decide +kernel), List.mem_of_getElem? (i := 449) (by decide +kernel)⟩
theorem lw_p14 : lw_okq (⟨"ProvedTable$Reader", "readSalt", "(LProvedTable$Table;)Z"⟩, 8) := ⟨⟨by decide +kernel, by decide +kernel⟩, List.mem_of_getElem? (i := 26) (by decide +kernel), List.mem_of_getElem? (i := 453) (by decide +kernel), List.mem_of_getElem? (i := 454) (by decide +kernel)⟩
theorem lw_p15 : lw_okq (⟨"ProvedTable$Reader", "isNumberOf", "(I)Z"⟩, 8) := ⟨⟨by decide +kernel, by decide +kernel⟩, List.mem_of_getElem? (i := 26) (by decide +kernel), List.mem_of_getElem? (i := 457) (by decide +kernel), List.mem_of_getElem? (i := 458) (by decide +kernel)⟩
def lw_privs_1 : List (MethodName × Nat) := [(⟨"ProvedTable$Reader", "advance", "()V"⟩, 8), (⟨"ProvedTable$Reader", "kindAt", "(I)I"⟩, 8), (⟨"ProvedTable$Reader", "readLine", "(LProvedTable$Table;)Z"⟩, 8), (⟨"ProvedTable$Reader", "readHead", "(LProvedTable$Table;)Z"⟩, 8), (⟨"ProvedTable$Reader", "readWord", "(Ljava/lang/String;)Z"⟩, 8), (⟨"ProvedTable$Reader", "isWord", "(Ljava/lang/String;)Z"⟩, 8), (⟨"ProvedTable$Reader", "fail", "(I)Z"⟩, 8), (⟨"ProvedTable$Reader", "readNamed", "(Ljava/lang/String;II)I"⟩, 8), (⟨"ProvedTable$Reader", "readNumber", "(II)I"⟩, 8), (⟨"ProvedTable$Reader", "readClaim", "(LProvedTable$Table;)Z"⟩, 8), (⟨"ProvedTable$Reader", "readForm", "(LProvedTable$Table;I)I"⟩, 8), (⟨"ProvedTable$Reader", "worldsOfLeaf", "(LProvedTable$Table;)I"⟩, 8), (⟨"ProvedTable$Reader", "operatorHere", "()I"⟩, 8), (⟨"ProvedTable$Reader", "readParts", "(LProvedTable$Table;II)I"⟩, 8), (⟨"ProvedTable$Reader", "readSalt", "(LProvedTable$Table;)Z"⟩, 8), (⟨"ProvedTable$Reader", "isNumberOf", "(I)Z"⟩, 8)]
theorem lw_r1 : ∀ q ∈ lw_privs_1, lw_okq q := List.forall_mem_cons.mpr ⟨lw_p0, List.forall_mem_cons.mpr ⟨lw_p1, List.forall_mem_cons.mpr ⟨lw_p2, List.forall_mem_cons.mpr ⟨lw_p3, List.forall_mem_cons.mpr ⟨lw_p4, List.forall_mem_cons.mpr ⟨lw_p5, List.forall_mem_cons.mpr ⟨lw_p6, List.forall_mem_cons.mpr ⟨lw_p7, List.forall_mem_cons.mpr ⟨lw_p8, List.forall_mem_cons.mpr ⟨lw_p9, List.forall_mem_cons.mpr ⟨lw_p10, List.forall_mem_cons.mpr ⟨lw_p11, List.forall_mem_cons.mpr ⟨lw_p12, List.forall_mem_cons.mpr ⟨lw_p13, List.forall_mem_cons.mpr ⟨lw_p14, List.forall_mem_cons.mpr ⟨lw_p15, fun _ h => absurd h List.not_mem_nil⟩⟩⟩⟩⟩⟩⟩⟩⟩⟩⟩⟩⟩⟩⟩⟩
theorem lw_p16 : lw_okq (⟨"ProvedTable$Reader", "readStep", "(LProvedTable$Table;)Z"⟩, 8) := ⟨⟨by decide +kernel, by decide +kernel⟩, List.mem_of_getElem? (i := 26) (by decide +kernel), List.mem_of_getElem? (i := 462) (by decide +kernel), List.mem_of_getElem? (i := 463) (by decide +kernel)⟩
theorem lw_p17 : lw_okq (⟨"ProvedTable$Reader", "readSet", "(II)I"⟩, 8) := ⟨⟨by decide +kernel, by decide +kernel⟩, List.mem_of_getElem? (i := 26) (by decide +kernel), List.mem_of_getElem? (i := 467) (by decide +kernel), List.mem_of_getElem? (i := 468) (by decide +kernel)⟩
theorem lw_p18 : lw_okq (⟨"ProvedTable$Reader", "readGuest", "(LProvedTable$Table;)Z"⟩, 8) := ⟨⟨by decide +kernel, by decide +kernel⟩, List.mem_of_getElem? (i := 26) (by decide +kernel), List.mem_of_getElem? (i := 482) (by decide +kernel), List.mem_of_getElem? (i := 483) (by decide +kernel)⟩
theorem lw_p19 : lw_okq (⟨"ProvedTable$Reader", "readSign", "()Z"⟩, 8) := ⟨⟨by decide +kernel, by decide +kernel⟩, List.mem_of_getElem? (i := 26) (by decide +kernel), List.mem_of_getElem? (i := 488) (by decide +kernel), List.mem_of_getElem? (i := 489) (by decide +kernel)⟩
theorem lw_p20 : lw_okq (⟨"ProvedTable", "provedByAll", "()I"⟩, 12) := ⟨⟨by decide +kernel, by decide +kernel⟩, List.mem_of_getElem? (i := 18) (by decide +kernel), List.mem_of_getElem? (i := 592) (by decide +kernel), List.mem_of_getElem? (i := 593) (by decide +kernel)⟩
theorem lw_p21 : lw_okq (⟨"ProvedTable", "freshProofs", "()LProvedTable$Sheet;"⟩, 12) := ⟨⟨by decide +kernel, by decide +kernel⟩, List.mem_of_getElem? (i := 18) (by decide +kernel), List.mem_of_getElem? (i := 596) (by decide +kernel), List.mem_of_getElem? (i := 597) (by decide +kernel)⟩
theorem lw_p22 : lw_okq (⟨"ProvedTable", "refusalOfSteps", "(I)I"⟩, 12) := ⟨⟨by decide +kernel, by decide +kernel⟩, List.mem_of_getElem? (i := 18) (by decide +kernel), List.mem_of_getElem? (i := 644) (by decide +kernel), List.mem_of_getElem? (i := 645) (by decide +kernel)⟩
theorem lw_p23 : lw_okq (⟨"ProvedTable", "refusalOfSlot", "(I)I"⟩, 12) := ⟨⟨by decide +kernel, by decide +kernel⟩, List.mem_of_getElem? (i := 18) (by decide +kernel), List.mem_of_getElem? (i := 648) (by decide +kernel), List.mem_of_getElem? (i := 649) (by decide +kernel)⟩
theorem lw_p24 : lw_okq (⟨"ProvedTable$Reading", "reasonAgainst", "(LProvedTable$Table;I)I"⟩, 4) := ⟨⟨by decide +kernel, by decide +kernel⟩, List.mem_of_getElem? (i := 195) (by decide +kernel), List.mem_of_getElem? (i := 663) (by decide +kernel), List.mem_of_getElem? (i := 664) (by decide +kernel)⟩
theorem lw_p25 : lw_okq (⟨"ProvedTable$Reading", "usedForAll", "(LProvedTable$Table;I)I"⟩, 4) := ⟨⟨by decide +kernel, by decide +kernel⟩, List.mem_of_getElem? (i := 195) (by decide +kernel), List.mem_of_getElem? (i := 667) (by decide +kernel), List.mem_of_getElem? (i := 668) (by decide +kernel)⟩
theorem lw_p26 : lw_okq (⟨"ProvedTable", "shortestSet", "(I)I"⟩, 12) := ⟨⟨by decide +kernel, by decide +kernel⟩, List.mem_of_getElem? (i := 18) (by decide +kernel), List.mem_of_getElem? (i := 706) (by decide +kernel), List.mem_of_getElem? (i := 707) (by decide +kernel)⟩
theorem lw_p27 : lw_okq (⟨"ProvedTable$Sheet", "isLeast", "(II)Z"⟩, 1) := ⟨⟨by decide +kernel, by decide +kernel⟩, List.mem_of_getElem? (i := 184) (by decide +kernel), List.mem_of_getElem? (i := 737) (by decide +kernel), List.mem_of_getElem? (i := 738) (by decide +kernel)⟩
theorem lw_p28 : lw_okq (⟨"ProvedTable", "provedWithout", "(I)I"⟩, 12) := ⟨⟨by decide +kernel, by decide +kernel⟩, List.mem_of_getElem? (i := 18) (by decide +kernel), List.mem_of_getElem? (i := 745) (by decide +kernel), List.mem_of_getElem? (i := 746) (by decide +kernel)⟩
theorem lw_p29 : lw_okq (⟨"ProvedTable", "menuWorth", "(II)I"⟩, 12) := ⟨⟨by decide +kernel, by decide +kernel⟩, List.mem_of_getElem? (i := 18) (by decide +kernel), List.mem_of_getElem? (i := 757) (by decide +kernel), List.mem_of_getElem? (i := 758) (by decide +kernel)⟩
theorem lw_p30 : lw_okq (⟨"ProvedTable", "menuSet", "(II)I"⟩, 12) := ⟨⟨by decide +kernel, by decide +kernel⟩, List.mem_of_getElem? (i := 18) (by decide +kernel), List.mem_of_getElem? (i := 761) (by decide +kernel), List.mem_of_getElem? (i := 762) (by decide +kernel)⟩
theorem lw_p31 : lw_okq (⟨"ProvedTable", "guestsProving", "(I)I"⟩, 12) := ⟨⟨by decide +kernel, by decide +kernel⟩, List.mem_of_getElem? (i := 18) (by decide +kernel), List.mem_of_getElem? (i := 792) (by decide +kernel), List.mem_of_getElem? (i := 793) (by decide +kernel)⟩
def lw_privs_2 : List (MethodName × Nat) := [(⟨"ProvedTable$Reader", "readStep", "(LProvedTable$Table;)Z"⟩, 8), (⟨"ProvedTable$Reader", "readSet", "(II)I"⟩, 8), (⟨"ProvedTable$Reader", "readGuest", "(LProvedTable$Table;)Z"⟩, 8), (⟨"ProvedTable$Reader", "readSign", "()Z"⟩, 8), (⟨"ProvedTable", "provedByAll", "()I"⟩, 12), (⟨"ProvedTable", "freshProofs", "()LProvedTable$Sheet;"⟩, 12), (⟨"ProvedTable", "refusalOfSteps", "(I)I"⟩, 12), (⟨"ProvedTable", "refusalOfSlot", "(I)I"⟩, 12), (⟨"ProvedTable$Reading", "reasonAgainst", "(LProvedTable$Table;I)I"⟩, 4), (⟨"ProvedTable$Reading", "usedForAll", "(LProvedTable$Table;I)I"⟩, 4), (⟨"ProvedTable", "shortestSet", "(I)I"⟩, 12), (⟨"ProvedTable$Sheet", "isLeast", "(II)Z"⟩, 1), (⟨"ProvedTable", "provedWithout", "(I)I"⟩, 12), (⟨"ProvedTable", "menuWorth", "(II)I"⟩, 12), (⟨"ProvedTable", "menuSet", "(II)I"⟩, 12), (⟨"ProvedTable", "guestsProving", "(I)I"⟩, 12)]
theorem lw_r2 : ∀ q ∈ lw_privs_2, lw_okq q := List.forall_mem_cons.mpr ⟨lw_p16, List.forall_mem_cons.mpr ⟨lw_p17, List.forall_mem_cons.mpr ⟨lw_p18, List.forall_mem_cons.mpr ⟨lw_p19, List.forall_mem_cons.mpr ⟨lw_p20, List.forall_mem_cons.mpr ⟨lw_p21, List.forall_mem_cons.mpr ⟨lw_p22, List.forall_mem_cons.mpr ⟨lw_p23, List.forall_mem_cons.mpr ⟨lw_p24, List.forall_mem_cons.mpr ⟨lw_p25, List.forall_mem_cons.mpr ⟨lw_p26, List.forall_mem_cons.mpr ⟨lw_p27, List.forall_mem_cons.mpr ⟨lw_p28, List.forall_mem_cons.mpr ⟨lw_p29, List.forall_mem_cons.mpr ⟨lw_p30, List.forall_mem_cons.mpr ⟨lw_p31, fun _ h => absurd h List.not_mem_nil⟩⟩⟩⟩⟩⟩⟩⟩⟩⟩⟩⟩⟩⟩⟩⟩
theorem lw_p32 : lw_okq (⟨"ProvedTable", "worthWithLemma", "(II)I"⟩, 12) := ⟨⟨by decide +kernel, by decide +kernel⟩, List.mem_of_getElem? (i := 18) (by decide +kernel), List.mem_of_getElem? (i := 808) (by decide +kernel), List.mem_of_getElem? (i := 809) (by decide +kernel)⟩
theorem lw_p33 : lw_okq (⟨"ProvedTable", "doesTeamProve", "(II)Z"⟩, 12) := ⟨⟨by decide +kernel, by decide +kernel⟩, List.mem_of_getElem? (i := 18) (by decide +kernel), List.mem_of_getElem? (i := 830) (by decide +kernel), List.mem_of_getElem? (i := 831) (by decide +kernel)⟩
theorem lw_p34 : lw_okq (⟨"ProvedTable", "leastTeam", "(I)I"⟩, 12) := ⟨⟨by decide +kernel, by decide +kernel⟩, List.mem_of_getElem? (i := 18) (by decide +kernel), List.mem_of_getElem? (i := 842) (by decide +kernel), List.mem_of_getElem? (i := 843) (by decide +kernel)⟩
theorem lw_p35 : lw_okq (⟨"ProvedTable", "refusalOfPairs", "(I)I"⟩, 12) := ⟨⟨by decide +kernel, by decide +kernel⟩, List.mem_of_getElem? (i := 18) (by decide +kernel), List.mem_of_getElem? (i := 869) (by decide +kernel), List.mem_of_getElem? (i := 870) (by decide +kernel)⟩
theorem lw_p36 : lw_okq (⟨"ProvedTable$Kitchen", "open", "(LProvedTable$Table;)V"⟩, 7) := ⟨⟨by decide +kernel, by decide +kernel⟩, List.mem_of_getElem? (i := 218) (by decide +kernel), List.mem_of_getElem? (i := 881) (by decide +kernel), List.mem_of_getElem? (i := 882) (by decide +kernel)⟩
theorem lw_p37 : lw_okq (⟨"ProvedTable$Kitchen", "cookPair", "(LProvedTable$Table;II)Z"⟩, 7) := ⟨⟨by decide +kernel, by decide +kernel⟩, List.mem_of_getElem? (i := 218) (by decide +kernel), List.mem_of_getElem? (i := 885) (by decide +kernel), List.mem_of_getElem? (i := 886) (by decide +kernel)⟩
theorem lw_p38 : lw_okq (⟨"ProvedTable$Kitchen", "hourOfAll", "(LProvedTable$Table;I)I"⟩, 7) := ⟨⟨by decide +kernel, by decide +kernel⟩, List.mem_of_getElem? (i := 218) (by decide +kernel), List.mem_of_getElem? (i := 889) (by decide +kernel), List.mem_of_getElem? (i := 890) (by decide +kernel)⟩
theorem lw_p39 : lw_okq (⟨"ProvedTable$Kitchen", "give", "(III)V"⟩, 7) := ⟨⟨by decide +kernel, by decide +kernel⟩, List.mem_of_getElem? (i := 218) (by decide +kernel), List.mem_of_getElem? (i := 896) (by decide +kernel), List.mem_of_getElem? (i := 897) (by decide +kernel)⟩
theorem lw_p40 : lw_okq (⟨"ProvedTable", "lengthOfDuel", "()I"⟩, 12) := ⟨⟨by decide +kernel, by decide +kernel⟩, List.mem_of_getElem? (i := 18) (by decide +kernel), List.mem_of_getElem? (i := 916) (by decide +kernel), List.mem_of_getElem? (i := 917) (by decide +kernel)⟩
theorem lw_p41 : lw_okq (⟨"ProvedTable", "coreSet", "()I"⟩, 12) := ⟨⟨by decide +kernel, by decide +kernel⟩, List.mem_of_getElem? (i := 18) (by decide +kernel), List.mem_of_getElem? (i := 936) (by decide +kernel), List.mem_of_getElem? (i := 937) (by decide +kernel)⟩
theorem lw_p42 : lw_okq (⟨"ProvedTable", "leastSaltFor", "(I)I"⟩, 12) := ⟨⟨by decide +kernel, by decide +kernel⟩, List.mem_of_getElem? (i := 18) (by decide +kernel), List.mem_of_getElem? (i := 988) (by decide +kernel), List.mem_of_getElem? (i := 989) (by decide +kernel)⟩
theorem lw_p43 : lw_okq (⟨"ProvedTable", "refusalOfDishes", "(I)I"⟩, 12) := ⟨⟨by decide +kernel, by decide +kernel⟩, List.mem_of_getElem? (i := 18) (by decide +kernel), List.mem_of_getElem? (i := 1012) (by decide +kernel), List.mem_of_getElem? (i := 1013) (by decide +kernel)⟩
theorem lw_p44 : lw_okq (⟨"ProvedTable", "rowsThere", "()I"⟩, 12) := ⟨⟨by decide +kernel, by decide +kernel⟩, List.mem_of_getElem? (i := 18) (by decide +kernel), List.mem_of_getElem? (i := 1074) (by decide +kernel), List.mem_of_getElem? (i := 1075) (by decide +kernel)⟩
theorem lw_p45 : lw_okq (⟨"ProvedTableModel", "advance", "()V"⟩, 34) := ⟨⟨by decide +kernel, by decide +kernel⟩, List.mem_of_getElem? (i := 1107) (by decide +kernel), List.mem_of_getElem? (i := 1243) (by decide +kernel), List.mem_of_getElem? (i := 1244) (by decide +kernel)⟩
theorem lw_p46 : lw_okq (⟨"ProvedTableModel", "see", "(I)I"⟩, 34) := ⟨⟨by decide +kernel, by decide +kernel⟩, List.mem_of_getElem? (i := 1107) (by decide +kernel), List.mem_of_getElem? (i := 1247) (by decide +kernel), List.mem_of_getElem? (i := 1248) (by decide +kernel)⟩
theorem lw_p47 : lw_okq (⟨"ProvedTableModel", "good", "()Z"⟩, 34) := ⟨⟨by decide +kernel, by decide +kernel⟩, List.mem_of_getElem? (i := 1107) (by decide +kernel), List.mem_of_getElem? (i := 1257) (by decide +kernel), List.mem_of_getElem? (i := 1258) (by decide +kernel)⟩
def lw_privs_3 : List (MethodName × Nat) := [(⟨"ProvedTable", "worthWithLemma", "(II)I"⟩, 12), (⟨"ProvedTable", "doesTeamProve", "(II)Z"⟩, 12), (⟨"ProvedTable", "leastTeam", "(I)I"⟩, 12), (⟨"ProvedTable", "refusalOfPairs", "(I)I"⟩, 12), (⟨"ProvedTable$Kitchen", "open", "(LProvedTable$Table;)V"⟩, 7), (⟨"ProvedTable$Kitchen", "cookPair", "(LProvedTable$Table;II)Z"⟩, 7), (⟨"ProvedTable$Kitchen", "hourOfAll", "(LProvedTable$Table;I)I"⟩, 7), (⟨"ProvedTable$Kitchen", "give", "(III)V"⟩, 7), (⟨"ProvedTable", "lengthOfDuel", "()I"⟩, 12), (⟨"ProvedTable", "coreSet", "()I"⟩, 12), (⟨"ProvedTable", "leastSaltFor", "(I)I"⟩, 12), (⟨"ProvedTable", "refusalOfDishes", "(I)I"⟩, 12), (⟨"ProvedTable", "rowsThere", "()I"⟩, 12), (⟨"ProvedTableModel", "advance", "()V"⟩, 34), (⟨"ProvedTableModel", "see", "(I)I"⟩, 34), (⟨"ProvedTableModel", "good", "()Z"⟩, 34)]
theorem lw_r3 : ∀ q ∈ lw_privs_3, lw_okq q := List.forall_mem_cons.mpr ⟨lw_p32, List.forall_mem_cons.mpr ⟨lw_p33, List.forall_mem_cons.mpr ⟨lw_p34, List.forall_mem_cons.mpr ⟨lw_p35, List.forall_mem_cons.mpr ⟨lw_p36, List.forall_mem_cons.mpr ⟨lw_p37, List.forall_mem_cons.mpr ⟨lw_p38, List.forall_mem_cons.mpr ⟨lw_p39, List.forall_mem_cons.mpr ⟨lw_p40, List.forall_mem_cons.mpr ⟨lw_p41, List.forall_mem_cons.mpr ⟨lw_p42, List.forall_mem_cons.mpr ⟨lw_p43, List.forall_mem_cons.mpr ⟨lw_p44, List.forall_mem_cons.mpr ⟨lw_p45, List.forall_mem_cons.mpr ⟨lw_p46, List.forall_mem_cons.mpr ⟨lw_p47, fun _ h => absurd h List.not_mem_nil⟩⟩⟩⟩⟩⟩⟩⟩⟩⟩⟩⟩⟩⟩⟩⟩
theorem lw_p48 : lw_okq (⟨"ProvedTableModel", "readLine", "()V"⟩, 34) := ⟨⟨by decide +kernel, by decide +kernel⟩, List.mem_of_getElem? (i := 1107) (by decide +kernel), List.mem_of_getElem? (i := 1261) (by decide +kernel), List.mem_of_getElem? (i := 1262) (by decide +kernel)⟩
theorem lw_p49 : lw_okq (⟨"ProvedTableModel", "needs", "(Ljava/lang/String;)V"⟩, 34) := ⟨⟨by decide +kernel, by decide +kernel⟩, List.mem_of_getElem? (i := 1107) (by decide +kernel), List.mem_of_getElem? (i := 1266) (by decide +kernel), List.mem_of_getElem? (i := 1267) (by decide +kernel)⟩
theorem lw_p50 : lw_okq (⟨"ProvedTableModel", "takes", "(Ljava/lang/String;)Z"⟩, 34) := ⟨⟨by decide +kernel, by decide +kernel⟩, List.mem_of_getElem? (i := 1107) (by decide +kernel), List.mem_of_getElem? (i := 1270) (by decide +kernel), List.mem_of_getElem? (i := 1271) (by decide +kernel)⟩
theorem lw_p51 : lw_okq (⟨"ProvedTableModel", "is", "(Ljava/lang/String;)Z"⟩, 34) := ⟨⟨by decide +kernel, by decide +kernel⟩, List.mem_of_getElem? (i := 1107) (by decide +kernel), List.mem_of_getElem? (i := 1274) (by decide +kernel), List.mem_of_getElem? (i := 1275) (by decide +kernel)⟩
theorem lw_p52 : lw_okq (⟨"ProvedTableModel", "errs", "(I)V"⟩, 34) := ⟨⟨by decide +kernel, by decide +kernel⟩, List.mem_of_getElem? (i := 1107) (by decide +kernel), List.mem_of_getElem? (i := 1280) (by decide +kernel), List.mem_of_getElem? (i := 1281) (by decide +kernel)⟩
theorem lw_p53 : lw_okq (⟨"ProvedTableModel", "told", "(Ljava/lang/String;II)I"⟩, 34) := ⟨⟨by decide +kernel, by decide +kernel⟩, List.mem_of_getElem? (i := 1107) (by decide +kernel), List.mem_of_getElem? (i := 1285) (by decide +kernel), List.mem_of_getElem? (i := 1286) (by decide +kernel)⟩
theorem lw_p54 : lw_okq (⟨"ProvedTableModel", "number", "(II)I"⟩, 34) := ⟨⟨by decide +kernel, by decide +kernel⟩, List.mem_of_getElem? (i := 1107) (by decide +kernel), List.mem_of_getElem? (i := 1289) (by decide +kernel), List.mem_of_getElem? (i := 1290) (by decide +kernel)⟩
theorem lw_p55 : lw_okq (⟨"ProvedTableModel", "readNext", "()V"⟩, 34) := ⟨⟨by decide +kernel, by decide +kernel⟩, List.mem_of_getElem? (i := 1107) (by decide +kernel), List.mem_of_getElem? (i := 1295) (by decide +kernel), List.mem_of_getElem? (i := 1296) (by decide +kernel)⟩
theorem lw_p56 : lw_okq (⟨"ProvedTableModel", "readClaim", "()V"⟩, 34) := ⟨⟨by decide +kernel, by decide +kernel⟩, List.mem_of_getElem? (i := 1107) (by decide +kernel), List.mem_of_getElem? (i := 1303) (by decide +kernel), List.mem_of_getElem? (i := 1304) (by decide +kernel)⟩
theorem lw_p57 : lw_okq (⟨"ProvedTableModel", "form", "()I"⟩, 34) := ⟨⟨by decide +kernel, by decide +kernel⟩, List.mem_of_getElem? (i := 1107) (by decide +kernel), List.mem_of_getElem? (i := 1308) (by decide +kernel), List.mem_of_getElem? (i := 1309) (by decide +kernel)⟩
theorem lw_p58 : lw_okq (⟨"ProvedTableModel", "formWord", "()I"⟩, 34) := ⟨⟨by decide +kernel, by decide +kernel⟩, List.mem_of_getElem? (i := 1107) (by decide +kernel), List.mem_of_getElem? (i := 1312) (by decide +kernel), List.mem_of_getElem? (i := 1313) (by decide +kernel)⟩
theorem lw_p59 : lw_okq (⟨"ProvedTableModel", "freshAll", "()I"⟩, 34) := ⟨⟨by decide +kernel, by decide +kernel⟩, List.mem_of_getElem? (i := 1107) (by decide +kernel), List.mem_of_getElem? (i := 1321) (by decide +kernel), List.mem_of_getElem? (i := 1322) (by decide +kernel)⟩
theorem lw_p60 : lw_okq (⟨"ProvedTableModel", "atomWorlds", "(I)I"⟩, 34) := ⟨⟨by decide +kernel, by decide +kernel⟩, List.mem_of_getElem? (i := 1107) (by decide +kernel), List.mem_of_getElem? (i := 1326) (by decide +kernel), List.mem_of_getElem? (i := 1327) (by decide +kernel)⟩
theorem lw_p61 : lw_okq (⟨"ProvedTableModel", "joined", "(III)I"⟩, 34) := ⟨⟨by decide +kernel, by decide +kernel⟩, List.mem_of_getElem? (i := 1107) (by decide +kernel), List.mem_of_getElem? (i := 1333) (by decide +kernel), List.mem_of_getElem? (i := 1334) (by decide +kernel)⟩
theorem lw_p62 : lw_okq (⟨"ProvedTableModel", "readSalt", "()V"⟩, 34) := ⟨⟨by decide +kernel, by decide +kernel⟩, List.mem_of_getElem? (i := 1107) (by decide +kernel), List.mem_of_getElem? (i := 1337) (by decide +kernel), List.mem_of_getElem? (i := 1338) (by decide +kernel)⟩
theorem lw_p63 : lw_okq (⟨"ProvedTableModel", "isNextIn", "(I)Z"⟩, 34) := ⟨⟨by decide +kernel, by decide +kernel⟩, List.mem_of_getElem? (i := 1107) (by decide +kernel), List.mem_of_getElem? (i := 1341) (by decide +kernel), List.mem_of_getElem? (i := 1342) (by decide +kernel)⟩
def lw_privs_4 : List (MethodName × Nat) := [(⟨"ProvedTableModel", "readLine", "()V"⟩, 34), (⟨"ProvedTableModel", "needs", "(Ljava/lang/String;)V"⟩, 34), (⟨"ProvedTableModel", "takes", "(Ljava/lang/String;)Z"⟩, 34), (⟨"ProvedTableModel", "is", "(Ljava/lang/String;)Z"⟩, 34), (⟨"ProvedTableModel", "errs", "(I)V"⟩, 34), (⟨"ProvedTableModel", "told", "(Ljava/lang/String;II)I"⟩, 34), (⟨"ProvedTableModel", "number", "(II)I"⟩, 34), (⟨"ProvedTableModel", "readNext", "()V"⟩, 34), (⟨"ProvedTableModel", "readClaim", "()V"⟩, 34), (⟨"ProvedTableModel", "form", "()I"⟩, 34), (⟨"ProvedTableModel", "formWord", "()I"⟩, 34), (⟨"ProvedTableModel", "freshAll", "()I"⟩, 34), (⟨"ProvedTableModel", "atomWorlds", "(I)I"⟩, 34), (⟨"ProvedTableModel", "joined", "(III)I"⟩, 34), (⟨"ProvedTableModel", "readSalt", "()V"⟩, 34), (⟨"ProvedTableModel", "isNextIn", "(I)Z"⟩, 34)]
theorem lw_r4 : ∀ q ∈ lw_privs_4, lw_okq q := List.forall_mem_cons.mpr ⟨lw_p48, List.forall_mem_cons.mpr ⟨lw_p49, List.forall_mem_cons.mpr ⟨lw_p50, List.forall_mem_cons.mpr ⟨lw_p51, List.forall_mem_cons.mpr ⟨lw_p52, List.forall_mem_cons.mpr ⟨lw_p53, List.forall_mem_cons.mpr ⟨lw_p54, List.forall_mem_cons.mpr ⟨lw_p55, List.forall_mem_cons.mpr ⟨lw_p56, List.forall_mem_cons.mpr ⟨lw_p57, List.forall_mem_cons.mpr ⟨lw_p58, List.forall_mem_cons.mpr ⟨lw_p59, List.forall_mem_cons.mpr ⟨lw_p60, List.forall_mem_cons.mpr ⟨lw_p61, List.forall_mem_cons.mpr ⟨lw_p62, List.forall_mem_cons.mpr ⟨lw_p63, fun _ h => absurd h List.not_mem_nil⟩⟩⟩⟩⟩⟩⟩⟩⟩⟩⟩⟩⟩⟩⟩⟩
theorem lw_p64 : lw_okq (⟨"ProvedTableModel", "freshClaim", "()I"⟩, 34) := ⟨⟨by decide +kernel, by decide +kernel⟩, List.mem_of_getElem? (i := 1107) (by decide +kernel), List.mem_of_getElem? (i := 1345) (by decide +kernel), List.mem_of_getElem? (i := 1346) (by decide +kernel)⟩
theorem lw_p65 : lw_okq (⟨"ProvedTableModel", "readStep", "()V"⟩, 34) := ⟨⟨by decide +kernel, by decide +kernel⟩, List.mem_of_getElem? (i := 1107) (by decide +kernel), List.mem_of_getElem? (i := 1349) (by decide +kernel), List.mem_of_getElem? (i := 1350) (by decide +kernel)⟩
theorem lw_p66 : lw_okq (⟨"ProvedTableModel", "readGuest", "()V"⟩, 34) := ⟨⟨by decide +kernel, by decide +kernel⟩, List.mem_of_getElem? (i := 1107) (by decide +kernel), List.mem_of_getElem? (i := 1354) (by decide +kernel), List.mem_of_getElem? (i := 1355) (by decide +kernel)⟩
theorem lw_p67 : lw_okq (⟨"ProvedTableModel", "isClaim", "(J)Z"⟩, 34) := ⟨⟨by decide +kernel, by decide +kernel⟩, List.mem_of_getElem? (i := 1107) (by decide +kernel), List.mem_of_getElem? (i := 1364) (by decide +kernel), List.mem_of_getElem? (i := 1365) (by decide +kernel)⟩
theorem lw_p68 : lw_okq (⟨"ProvedTableModel", "ofClaim", "(II)I"⟩, 34) := ⟨⟨by decide +kernel, by decide +kernel⟩, List.mem_of_getElem? (i := 1107) (by decide +kernel), List.mem_of_getElem? (i := 1368) (by decide +kernel), List.mem_of_getElem? (i := 1369) (by decide +kernel)⟩
theorem lw_p69 : lw_okq (⟨"ProvedTableModel", "isStep", "(J)Z"⟩, 34) := ⟨⟨by decide +kernel, by decide +kernel⟩, List.mem_of_getElem? (i := 1107) (by decide +kernel), List.mem_of_getElem? (i := 1387) (by decide +kernel), List.mem_of_getElem? (i := 1388) (by decide +kernel)⟩
theorem lw_p70 : lw_okq (⟨"ProvedTableModel", "ofStep", "(II)I"⟩, 34) := ⟨⟨by decide +kernel, by decide +kernel⟩, List.mem_of_getElem? (i := 1107) (by decide +kernel), List.mem_of_getElem? (i := 1391) (by decide +kernel), List.mem_of_getElem? (i := 1392) (by decide +kernel)⟩
theorem lw_p71 : lw_okq (⟨"ProvedTableModel", "falseIn", "(I)I"⟩, 34) := ⟨⟨by decide +kernel, by decide +kernel⟩, List.mem_of_getElem? (i := 1107) (by decide +kernel), List.mem_of_getElem? (i := 1395) (by decide +kernel), List.mem_of_getElem? (i := 1396) (by decide +kernel)⟩
theorem lw_p72 : lw_okq (⟨"ProvedTableModel", "saltedBy", "(I)I"⟩, 34) := ⟨⟨by decide +kernel, by decide +kernel⟩, List.mem_of_getElem? (i := 1107) (by decide +kernel), List.mem_of_getElem? (i := 1399) (by decide +kernel), List.mem_of_getElem? (i := 1400) (by decide +kernel)⟩
theorem lw_p73 : lw_okq (⟨"ProvedTableModel", "allWorlds", "()I"⟩, 34) := ⟨⟨by decide +kernel, by decide +kernel⟩, List.mem_of_getElem? (i := 1107) (by decide +kernel), List.mem_of_getElem? (i := 1403) (by decide +kernel), List.mem_of_getElem? (i := 1404) (by decide +kernel)⟩
theorem lw_p74 : lw_okq (⟨"ProvedTableModel", "worlds", "()I"⟩, 34) := ⟨⟨by decide +kernel, by decide +kernel⟩, List.mem_of_getElem? (i := 1107) (by decide +kernel), List.mem_of_getElem? (i := 1407) (by decide +kernel), List.mem_of_getElem? (i := 1408) (by decide +kernel)⟩
theorem lw_p75 : lw_okq (⟨"ProvedTableModel", "isGuest", "(J)Z"⟩, 34) := ⟨⟨by decide +kernel, by decide +kernel⟩, List.mem_of_getElem? (i := 1107) (by decide +kernel), List.mem_of_getElem? (i := 1415) (by decide +kernel), List.mem_of_getElem? (i := 1416) (by decide +kernel)⟩
theorem lw_p76 : lw_okq (⟨"ProvedTableModel", "ofGuest", "(II)I"⟩, 34) := ⟨⟨by decide +kernel, by decide +kernel⟩, List.mem_of_getElem? (i := 1107) (by decide +kernel), List.mem_of_getElem? (i := 1419) (by decide +kernel), List.mem_of_getElem? (i := 1420) (by decide +kernel)⟩
theorem lw_p77 : lw_okq (⟨"ProvedTableModel", "canDo", "(I)I"⟩, 34) := ⟨⟨by decide +kernel, by decide +kernel⟩, List.mem_of_getElem? (i := 1107) (by decide +kernel), List.mem_of_getElem? (i := 1423) (by decide +kernel), List.mem_of_getElem? (i := 1424) (by decide +kernel)⟩
theorem lw_p78 : lw_okq (⟨"ProvedTableModel", "isTable", "()Z"⟩, 34) := ⟨⟨by decide +kernel, by decide +kernel⟩, List.mem_of_getElem? (i := 1107) (by decide +kernel), List.mem_of_getElem? (i := 1431) (by decide +kernel), List.mem_of_getElem? (i := 1432) (by decide +kernel)⟩
theorem lw_p79 : lw_okq (⟨"ProvedTableModel", "saltedNow", "()I"⟩, 34) := ⟨⟨by decide +kernel, by decide +kernel⟩, List.mem_of_getElem? (i := 1107) (by decide +kernel), List.mem_of_getElem? (i := 1435) (by decide +kernel), List.mem_of_getElem? (i := 1436) (by decide +kernel)⟩
def lw_privs_5 : List (MethodName × Nat) := [(⟨"ProvedTableModel", "freshClaim", "()I"⟩, 34), (⟨"ProvedTableModel", "readStep", "()V"⟩, 34), (⟨"ProvedTableModel", "readGuest", "()V"⟩, 34), (⟨"ProvedTableModel", "isClaim", "(J)Z"⟩, 34), (⟨"ProvedTableModel", "ofClaim", "(II)I"⟩, 34), (⟨"ProvedTableModel", "isStep", "(J)Z"⟩, 34), (⟨"ProvedTableModel", "ofStep", "(II)I"⟩, 34), (⟨"ProvedTableModel", "falseIn", "(I)I"⟩, 34), (⟨"ProvedTableModel", "saltedBy", "(I)I"⟩, 34), (⟨"ProvedTableModel", "allWorlds", "()I"⟩, 34), (⟨"ProvedTableModel", "worlds", "()I"⟩, 34), (⟨"ProvedTableModel", "isGuest", "(J)Z"⟩, 34), (⟨"ProvedTableModel", "ofGuest", "(II)I"⟩, 34), (⟨"ProvedTableModel", "canDo", "(I)I"⟩, 34), (⟨"ProvedTableModel", "isTable", "()Z"⟩, 34), (⟨"ProvedTableModel", "saltedNow", "()I"⟩, 34)]
theorem lw_r5 : ∀ q ∈ lw_privs_5, lw_okq q := List.forall_mem_cons.mpr ⟨lw_p64, List.forall_mem_cons.mpr ⟨lw_p65, List.forall_mem_cons.mpr ⟨lw_p66, List.forall_mem_cons.mpr ⟨lw_p67, List.forall_mem_cons.mpr ⟨lw_p68, List.forall_mem_cons.mpr ⟨lw_p69, List.forall_mem_cons.mpr ⟨lw_p70, List.forall_mem_cons.mpr ⟨lw_p71, List.forall_mem_cons.mpr ⟨lw_p72, List.forall_mem_cons.mpr ⟨lw_p73, List.forall_mem_cons.mpr ⟨lw_p74, List.forall_mem_cons.mpr ⟨lw_p75, List.forall_mem_cons.mpr ⟨lw_p76, List.forall_mem_cons.mpr ⟨lw_p77, List.forall_mem_cons.mpr ⟨lw_p78, List.forall_mem_cons.mpr ⟨lw_p79, fun _ h => absurd h List.not_mem_nil⟩⟩⟩⟩⟩⟩⟩⟩⟩⟩⟩⟩⟩⟩⟩⟩
theorem lw_p80 : lw_okq (⟨"ProvedTableModel", "saltNow", "()I"⟩, 34) := ⟨⟨by decide +kernel, by decide +kernel⟩, List.mem_of_getElem? (i := 1107) (by decide +kernel), List.mem_of_getElem? (i := 1439) (by decide +kernel), List.mem_of_getElem? (i := 1440) (by decide +kernel)⟩
theorem lw_p81 : lw_okq (⟨"ProvedTableModel", "isFollowing", "(I)Z"⟩, 34) := ⟨⟨by decide +kernel, by decide +kernel⟩, List.mem_of_getElem? (i := 1107) (by decide +kernel), List.mem_of_getElem? (i := 1447) (by decide +kernel), List.mem_of_getElem? (i := 1448) (by decide +kernel)⟩
theorem lw_p82 : lw_okq (⟨"ProvedTableModel", "provedNow", "()I"⟩, 34) := ⟨⟨by decide +kernel, by decide +kernel⟩, List.mem_of_getElem? (i := 1107) (by decide +kernel), List.mem_of_getElem? (i := 1474) (by decide +kernel), List.mem_of_getElem? (i := 1475) (by decide +kernel)⟩
theorem lw_p83 : lw_okq (⟨"ProvedTableModel", "allSteps", "()I"⟩, 34) := ⟨⟨by decide +kernel, by decide +kernel⟩, List.mem_of_getElem? (i := 1107) (by decide +kernel), List.mem_of_getElem? (i := 1478) (by decide +kernel), List.mem_of_getElem? (i := 1479) (by decide +kernel)⟩
theorem lw_p84 : lw_okq (⟨"ProvedTableModel", "provedBy", "(II)I"⟩, 34) := ⟨⟨by decide +kernel, by decide +kernel⟩, List.mem_of_getElem? (i := 1107) (by decide +kernel), List.mem_of_getElem? (i := 1482) (by decide +kernel), List.mem_of_getElem? (i := 1483) (by decide +kernel)⟩
theorem lw_p85 : lw_okq (⟨"ProvedTableModel", "goes", "(II)Z"⟩, 34) := ⟨⟨by decide +kernel, by decide +kernel⟩, List.mem_of_getElem? (i := 1107) (by decide +kernel), List.mem_of_getElem? (i := 1486) (by decide +kernel), List.mem_of_getElem? (i := 1487) (by decide +kernel)⟩
theorem lw_p86 : lw_okq (⟨"ProvedTableModel", "following", "()I"⟩, 34) := ⟨⟨by decide +kernel, by decide +kernel⟩, List.mem_of_getElem? (i := 1107) (by decide +kernel), List.mem_of_getElem? (i := 1494) (by decide +kernel), List.mem_of_getElem? (i := 1495) (by decide +kernel)⟩
theorem lw_p87 : lw_okq (⟨"ProvedTableModel", "asksRow", "(IZ)I"⟩, 34) := ⟨⟨by decide +kernel, by decide +kernel⟩, List.mem_of_getElem? (i := 1107) (by decide +kernel), List.mem_of_getElem? (i := 1506) (by decide +kernel), List.mem_of_getElem? (i := 1507) (by decide +kernel)⟩
theorem lw_p88 : lw_okq (⟨"ProvedTableModel", "numberAt", "(II)J"⟩, 34) := ⟨⟨by decide +kernel, by decide +kernel⟩, List.mem_of_getElem? (i := 1107) (by decide +kernel), List.mem_of_getElem? (i := 1514) (by decide +kernel), List.mem_of_getElem? (i := 1515) (by decide +kernel)⟩
theorem lw_p89 : lw_okq (⟨"ProvedTableModel", "readRow", "(I)V"⟩, 34) := ⟨⟨by decide +kernel, by decide +kernel⟩, List.mem_of_getElem? (i := 1107) (by decide +kernel), List.mem_of_getElem? (i := 1518) (by decide +kernel), List.mem_of_getElem? (i := 1519) (by decide +kernel)⟩
theorem lw_p90 : lw_okq (⟨"ProvedTableModel", "usedBy", "(II)I"⟩, 34) := ⟨⟨by decide +kernel, by decide +kernel⟩, List.mem_of_getElem? (i := 1107) (by decide +kernel), List.mem_of_getElem? (i := 1538) (by decide +kernel), List.mem_of_getElem? (i := 1539) (by decide +kernel)⟩
theorem lw_p91 : lw_okq (⟨"ProvedTableModel", "proofOf", "(I)I"⟩, 34) := ⟨⟨by decide +kernel, by decide +kernel⟩, List.mem_of_getElem? (i := 1107) (by decide +kernel), List.mem_of_getElem? (i := 1550) (by decide +kernel), List.mem_of_getElem? (i := 1551) (by decide +kernel)⟩
theorem lw_p92 : lw_okq (⟨"ProvedTableModel", "fewestSteps", "(III)I"⟩, 34) := ⟨⟨by decide +kernel, by decide +kernel⟩, List.mem_of_getElem? (i := 1107) (by decide +kernel), List.mem_of_getElem? (i := 1554) (by decide +kernel), List.mem_of_getElem? (i := 1555) (by decide +kernel)⟩
theorem lw_p93 : lw_okq (⟨"ProvedTableModel", "isLeastProof", "(II)Z"⟩, 34) := ⟨⟨by decide +kernel, by decide +kernel⟩, List.mem_of_getElem? (i := 1107) (by decide +kernel), List.mem_of_getElem? (i := 1570) (by decide +kernel), List.mem_of_getElem? (i := 1571) (by decide +kernel)⟩
theorem lw_p94 : lw_okq (⟨"ProvedTableModel", "isProvedBy", "(II)Z"⟩, 34) := ⟨⟨by decide +kernel, by decide +kernel⟩, List.mem_of_getElem? (i := 1107) (by decide +kernel), List.mem_of_getElem? (i := 1574) (by decide +kernel), List.mem_of_getElem? (i := 1575) (by decide +kernel)⟩
theorem lw_p95 : lw_okq (⟨"ProvedTableModel", "menuOf", "(I)I"⟩, 34) := ⟨⟨by decide +kernel, by decide +kernel⟩, List.mem_of_getElem? (i := 1107) (by decide +kernel), List.mem_of_getElem? (i := 1590) (by decide +kernel), List.mem_of_getElem? (i := 1591) (by decide +kernel)⟩
def lw_privs_6 : List (MethodName × Nat) := [(⟨"ProvedTableModel", "saltNow", "()I"⟩, 34), (⟨"ProvedTableModel", "isFollowing", "(I)Z"⟩, 34), (⟨"ProvedTableModel", "provedNow", "()I"⟩, 34), (⟨"ProvedTableModel", "allSteps", "()I"⟩, 34), (⟨"ProvedTableModel", "provedBy", "(II)I"⟩, 34), (⟨"ProvedTableModel", "goes", "(II)Z"⟩, 34), (⟨"ProvedTableModel", "following", "()I"⟩, 34), (⟨"ProvedTableModel", "asksRow", "(IZ)I"⟩, 34), (⟨"ProvedTableModel", "numberAt", "(II)J"⟩, 34), (⟨"ProvedTableModel", "readRow", "(I)V"⟩, 34), (⟨"ProvedTableModel", "usedBy", "(II)I"⟩, 34), (⟨"ProvedTableModel", "proofOf", "(I)I"⟩, 34), (⟨"ProvedTableModel", "fewestSteps", "(III)I"⟩, 34), (⟨"ProvedTableModel", "isLeastProof", "(II)Z"⟩, 34), (⟨"ProvedTableModel", "isProvedBy", "(II)Z"⟩, 34), (⟨"ProvedTableModel", "menuOf", "(I)I"⟩, 34)]
theorem lw_r6 : ∀ q ∈ lw_privs_6, lw_okq q := List.forall_mem_cons.mpr ⟨lw_p80, List.forall_mem_cons.mpr ⟨lw_p81, List.forall_mem_cons.mpr ⟨lw_p82, List.forall_mem_cons.mpr ⟨lw_p83, List.forall_mem_cons.mpr ⟨lw_p84, List.forall_mem_cons.mpr ⟨lw_p85, List.forall_mem_cons.mpr ⟨lw_p86, List.forall_mem_cons.mpr ⟨lw_p87, List.forall_mem_cons.mpr ⟨lw_p88, List.forall_mem_cons.mpr ⟨lw_p89, List.forall_mem_cons.mpr ⟨lw_p90, List.forall_mem_cons.mpr ⟨lw_p91, List.forall_mem_cons.mpr ⟨lw_p92, List.forall_mem_cons.mpr ⟨lw_p93, List.forall_mem_cons.mpr ⟨lw_p94, List.forall_mem_cons.mpr ⟨lw_p95, fun _ h => absurd h List.not_mem_nil⟩⟩⟩⟩⟩⟩⟩⟩⟩⟩⟩⟩⟩⟩⟩⟩
theorem lw_p96 : lw_okq (⟨"ProvedTableModel", "mostBy", "(III)I"⟩, 34) := ⟨⟨by decide +kernel, by decide +kernel⟩, List.mem_of_getElem? (i := 1107) (by decide +kernel), List.mem_of_getElem? (i := 1594) (by decide +kernel), List.mem_of_getElem? (i := 1595) (by decide +kernel)⟩
theorem lw_p97 : lw_okq (⟨"ProvedTableModel", "worthsOf", "(I)I"⟩, 34) := ⟨⟨by decide +kernel, by decide +kernel⟩, List.mem_of_getElem? (i := 1107) (by decide +kernel), List.mem_of_getElem? (i := 1598) (by decide +kernel), List.mem_of_getElem? (i := 1599) (by decide +kernel)⟩
theorem lw_p98 : lw_okq (⟨"ProvedTableModel", "areClaims", "(I)Z"⟩, 34) := ⟨⟨by decide +kernel, by decide +kernel⟩, List.mem_of_getElem? (i := 1107) (by decide +kernel), List.mem_of_getElem? (i := 1614) (by decide +kernel), List.mem_of_getElem? (i := 1615) (by decide +kernel)⟩
theorem lw_p99 : lw_okq (⟨"ProvedTableModel", "allClaims", "()I"⟩, 34) := ⟨⟨by decide +kernel, by decide +kernel⟩, List.mem_of_getElem? (i := 1107) (by decide +kernel), List.mem_of_getElem? (i := 1618) (by decide +kernel), List.mem_of_getElem? (i := 1619) (by decide +kernel)⟩
theorem lw_p100 : lw_okq (⟨"ProvedTableModel", "whoOf", "(I)I"⟩, 34) := ⟨⟨by decide +kernel, by decide +kernel⟩, List.mem_of_getElem? (i := 1107) (by decide +kernel), List.mem_of_getElem? (i := 1626) (by decide +kernel), List.mem_of_getElem? (i := 1627) (by decide +kernel)⟩
theorem lw_p101 : lw_okq (⟨"ProvedTableModel", "canProve", "(II)Z"⟩, 34) := ⟨⟨by decide +kernel, by decide +kernel⟩, List.mem_of_getElem? (i := 1107) (by decide +kernel), List.mem_of_getElem? (i := 1630) (by decide +kernel), List.mem_of_getElem? (i := 1631) (by decide +kernel)⟩
theorem lw_p102 : lw_okq (⟨"ProvedTableModel", "areGuests", "(I)Z"⟩, 34) := ⟨⟨by decide +kernel, by decide +kernel⟩, List.mem_of_getElem? (i := 1107) (by decide +kernel), List.mem_of_getElem? (i := 1638) (by decide +kernel), List.mem_of_getElem? (i := 1639) (by decide +kernel)⟩
theorem lw_p103 : lw_okq (⟨"ProvedTableModel", "allGuests", "()I"⟩, 34) := ⟨⟨by decide +kernel, by decide +kernel⟩, List.mem_of_getElem? (i := 1107) (by decide +kernel), List.mem_of_getElem? (i := 1642) (by decide +kernel), List.mem_of_getElem? (i := 1643) (by decide +kernel)⟩
theorem lw_p104 : lw_okq (⟨"ProvedTableModel", "lemmaOf", "(I)I"⟩, 34) := ⟨⟨by decide +kernel, by decide +kernel⟩, List.mem_of_getElem? (i := 1107) (by decide +kernel), List.mem_of_getElem? (i := 1650) (by decide +kernel), List.mem_of_getElem? (i := 1651) (by decide +kernel)⟩
theorem lw_p105 : lw_okq (⟨"ProvedTableModel", "strengthOf", "(I)I"⟩, 34) := ⟨⟨by decide +kernel, by decide +kernel⟩, List.mem_of_getElem? (i := 1107) (by decide +kernel), List.mem_of_getElem? (i := 1662) (by decide +kernel), List.mem_of_getElem? (i := 1663) (by decide +kernel)⟩
theorem lw_p106 : lw_okq (⟨"ProvedTableModel", "canTogether", "(II)Z"⟩, 34) := ⟨⟨by decide +kernel, by decide +kernel⟩, List.mem_of_getElem? (i := 1107) (by decide +kernel), List.mem_of_getElem? (i := 1670) (by decide +kernel), List.mem_of_getElem? (i := 1671) (by decide +kernel)⟩
theorem lw_p107 : lw_okq (⟨"ProvedTableModel", "teamOf", "(I)I"⟩, 34) := ⟨⟨by decide +kernel, by decide +kernel⟩, List.mem_of_getElem? (i := 1107) (by decide +kernel), List.mem_of_getElem? (i := 1678) (by decide +kernel), List.mem_of_getElem? (i := 1679) (by decide +kernel)⟩
theorem lw_p108 : lw_okq (⟨"ProvedTableModel", "fillDoubt", "(II)V"⟩, 34) := ⟨⟨by decide +kernel, by decide +kernel⟩, List.mem_of_getElem? (i := 1107) (by decide +kernel), List.mem_of_getElem? (i := 1690) (by decide +kernel), List.mem_of_getElem? (i := 1691) (by decide +kernel)⟩
theorem lw_p109 : lw_okq (⟨"ProvedTableModel", "asksKitchen", "(IZ)I"⟩, 34) := ⟨⟨by decide +kernel, by decide +kernel⟩, List.mem_of_getElem? (i := 1107) (by decide +kernel), List.mem_of_getElem? (i := 1702) (by decide +kernel), List.mem_of_getElem? (i := 1703) (by decide +kernel)⟩
theorem lw_p110 : lw_okq (⟨"ProvedTableModel", "goKitchen", "(I)V"⟩, 34) := ⟨⟨by decide +kernel, by decide +kernel⟩, List.mem_of_getElem? (i := 1107) (by decide +kernel), List.mem_of_getElem? (i := 1706) (by decide +kernel), List.mem_of_getElem? (i := 1707) (by decide +kernel)⟩
theorem lw_p111 : lw_okq (⟨"ProvedTableModel", "cooks", "(II)Z"⟩, 34) := ⟨⟨by decide +kernel, by decide +kernel⟩, List.mem_of_getElem? (i := 1107) (by decide +kernel), List.mem_of_getElem? (i := 1710) (by decide +kernel), List.mem_of_getElem? (i := 1711) (by decide +kernel)⟩
def lw_privs_7 : List (MethodName × Nat) := [(⟨"ProvedTableModel", "mostBy", "(III)I"⟩, 34), (⟨"ProvedTableModel", "worthsOf", "(I)I"⟩, 34), (⟨"ProvedTableModel", "areClaims", "(I)Z"⟩, 34), (⟨"ProvedTableModel", "allClaims", "()I"⟩, 34), (⟨"ProvedTableModel", "whoOf", "(I)I"⟩, 34), (⟨"ProvedTableModel", "canProve", "(II)Z"⟩, 34), (⟨"ProvedTableModel", "areGuests", "(I)Z"⟩, 34), (⟨"ProvedTableModel", "allGuests", "()I"⟩, 34), (⟨"ProvedTableModel", "lemmaOf", "(I)I"⟩, 34), (⟨"ProvedTableModel", "strengthOf", "(I)I"⟩, 34), (⟨"ProvedTableModel", "canTogether", "(II)Z"⟩, 34), (⟨"ProvedTableModel", "teamOf", "(I)I"⟩, 34), (⟨"ProvedTableModel", "fillDoubt", "(II)V"⟩, 34), (⟨"ProvedTableModel", "asksKitchen", "(IZ)I"⟩, 34), (⟨"ProvedTableModel", "goKitchen", "(I)V"⟩, 34), (⟨"ProvedTableModel", "cooks", "(II)Z"⟩, 34)]
theorem lw_r7 : ∀ q ∈ lw_privs_7, lw_okq q := List.forall_mem_cons.mpr ⟨lw_p96, List.forall_mem_cons.mpr ⟨lw_p97, List.forall_mem_cons.mpr ⟨lw_p98, List.forall_mem_cons.mpr ⟨lw_p99, List.forall_mem_cons.mpr ⟨lw_p100, List.forall_mem_cons.mpr ⟨lw_p101, List.forall_mem_cons.mpr ⟨lw_p102, List.forall_mem_cons.mpr ⟨lw_p103, List.forall_mem_cons.mpr ⟨lw_p104, List.forall_mem_cons.mpr ⟨lw_p105, List.forall_mem_cons.mpr ⟨lw_p106, List.forall_mem_cons.mpr ⟨lw_p107, List.forall_mem_cons.mpr ⟨lw_p108, List.forall_mem_cons.mpr ⟨lw_p109, List.forall_mem_cons.mpr ⟨lw_p110, List.forall_mem_cons.mpr ⟨lw_p111, fun _ h => absurd h List.not_mem_nil⟩⟩⟩⟩⟩⟩⟩⟩⟩⟩⟩⟩⟩⟩⟩⟩
theorem lw_p112 : lw_okq (⟨"ProvedTableModel", "fillDuel", "()V"⟩, 34) := ⟨⟨by decide +kernel, by decide +kernel⟩, List.mem_of_getElem? (i := 1107) (by decide +kernel), List.mem_of_getElem? (i := 1731) (by decide +kernel), List.mem_of_getElem? (i := 1732) (by decide +kernel)⟩
theorem lw_p113 : lw_okq (⟨"ProvedTableModel", "coreOf", "()I"⟩, 34) := ⟨⟨by decide +kernel, by decide +kernel⟩, List.mem_of_getElem? (i := 1107) (by decide +kernel), List.mem_of_getElem? (i := 1754) (by decide +kernel), List.mem_of_getElem? (i := 1755) (by decide +kernel)⟩
theorem lw_p114 : lw_okq (⟨"ProvedTableModel", "askOf", "()I"⟩, 34) := ⟨⟨by decide +kernel, by decide +kernel⟩, List.mem_of_getElem? (i := 1107) (by decide +kernel), List.mem_of_getElem? (i := 1776) (by decide +kernel), List.mem_of_getElem? (i := 1777) (by decide +kernel)⟩
theorem lw_p115 : lw_okq (⟨"ProvedTableModel", "worstOf", "(I)I"⟩, 34) := ⟨⟨by decide +kernel, by decide +kernel⟩, List.mem_of_getElem? (i := 1107) (by decide +kernel), List.mem_of_getElem? (i := 1780) (by decide +kernel), List.mem_of_getElem? (i := 1781) (by decide +kernel)⟩
theorem lw_p116 : lw_okq (⟨"ProvedTableModel", "spareOf", "(I)I"⟩, 34) := ⟨⟨by decide +kernel, by decide +kernel⟩, List.mem_of_getElem? (i := 1107) (by decide +kernel), List.mem_of_getElem? (i := 1800) (by decide +kernel), List.mem_of_getElem? (i := 1801) (by decide +kernel)⟩
theorem lw_p117 : lw_okq (⟨"ProvedTableModel", "asksEaten", "(IZ)I"⟩, 34) := ⟨⟨by decide +kernel, by decide +kernel⟩, List.mem_of_getElem? (i := 1107) (by decide +kernel), List.mem_of_getElem? (i := 1816) (by decide +kernel), List.mem_of_getElem? (i := 1817) (by decide +kernel)⟩
theorem lw_p118 : lw_okq (⟨"ProvedTableModel", "eatenBy", "(I)I"⟩, 34) := ⟨⟨by decide +kernel, by decide +kernel⟩, List.mem_of_getElem? (i := 1107) (by decide +kernel), List.mem_of_getElem? (i := 1820) (by decide +kernel), List.mem_of_getElem? (i := 1821) (by decide +kernel)⟩
theorem lw_p119 : lw_okq (⟨"ProvedTableModel", "holesBy", "(J)I"⟩, 34) := ⟨⟨by decide +kernel, by decide +kernel⟩, List.mem_of_getElem? (i := 1107) (by decide +kernel), List.mem_of_getElem? (i := 1852) (by decide +kernel), List.mem_of_getElem? (i := 1853) (by decide +kernel)⟩
theorem lw_p120 : lw_okq (⟨"ProvedTableModel", "feastOf", "(JI)I"⟩, 34) := ⟨⟨by decide +kernel, by decide +kernel⟩, List.mem_of_getElem? (i := 1107) (by decide +kernel), List.mem_of_getElem? (i := 1865) (by decide +kernel), List.mem_of_getElem? (i := 1866) (by decide +kernel)⟩
def lw_privs_8 : List (MethodName × Nat) := [(⟨"ProvedTableModel", "fillDuel", "()V"⟩, 34), (⟨"ProvedTableModel", "coreOf", "()I"⟩, 34), (⟨"ProvedTableModel", "askOf", "()I"⟩, 34), (⟨"ProvedTableModel", "worstOf", "(I)I"⟩, 34), (⟨"ProvedTableModel", "spareOf", "(I)I"⟩, 34), (⟨"ProvedTableModel", "asksEaten", "(IZ)I"⟩, 34), (⟨"ProvedTableModel", "eatenBy", "(I)I"⟩, 34), (⟨"ProvedTableModel", "holesBy", "(J)I"⟩, 34), (⟨"ProvedTableModel", "feastOf", "(JI)I"⟩, 34)]
theorem lw_r8 : ∀ q ∈ lw_privs_8, lw_okq q := List.forall_mem_cons.mpr ⟨lw_p112, List.forall_mem_cons.mpr ⟨lw_p113, List.forall_mem_cons.mpr ⟨lw_p114, List.forall_mem_cons.mpr ⟨lw_p115, List.forall_mem_cons.mpr ⟨lw_p116, List.forall_mem_cons.mpr ⟨lw_p117, List.forall_mem_cons.mpr ⟨lw_p118, List.forall_mem_cons.mpr ⟨lw_p119, List.forall_mem_cons.mpr ⟨lw_p120, fun _ h => absurd h List.not_mem_nil⟩⟩⟩⟩⟩⟩⟩⟩⟩
def lw_privs : List (MethodName × Nat) := lw_privs_1 ++ (lw_privs_2 ++ (lw_privs_3 ++ (lw_privs_4 ++ (lw_privs_5 ++ (lw_privs_6 ++ (lw_privs_7 ++ (lw_privs_8)))))))
def lw_tbl : List Cond := k2_sels lw_privs ++ tables_1
theorem lw_privs_ok : ∀ q ∈ lw_privs, lw_okq q := by
  show ∀ q ∈ lw_privs_1 ++ (lw_privs_2 ++ (lw_privs_3 ++ (lw_privs_4 ++ (lw_privs_5 ++ (lw_privs_6 ++ (lw_privs_7 ++ (lw_privs_8))))))), lw_okq q
  exact List.forall_mem_append.mpr ⟨lw_r1, List.forall_mem_append.mpr ⟨lw_r2, List.forall_mem_append.mpr ⟨lw_r3, List.forall_mem_append.mpr ⟨lw_r4, List.forall_mem_append.mpr ⟨lw_r5, List.forall_mem_append.mpr ⟨lw_r6, List.forall_mem_append.mpr ⟨lw_r7, lw_r8⟩⟩⟩⟩⟩⟩⟩
def RX0 : String := "ProvedTable$Doubt"
def TX0 : u_T := fun k => match k with
  | _ => ("ProvedTable$Doubt", "worldFrom", "[I", true)
def tyX0 : Nat → FieldType := fun k => match k with
  | _ => .array .int
theorem nmX0 : ∀ a, a < 1 → ∀ b, b < 1 → a ≠ b → (TX0 a).2.1 ≠ (TX0 b).2.1 := by decide +kernel
theorem tyX0_ok : ∀ k, k < 1 → parseFieldDescriptor (TX0 k).2.2.1 = some (tyX0 k) := by decide +kernel
abbrev cX0_init : ByteArray := prog_2_method_1_code
def yX0_init : MethodName := ⟨RX0, "<init>", "()V"⟩
abbrev cX0_worldThatComes : ByteArray := prog_2_method_2_code
def yX0_worldThatComes : MethodName := ⟨RX0, "worldThatComes", "(LProvedTable$Table;II)I"⟩
def RX1 : String := "ProvedTable$Kitchen"
def TX1 : u_T := fun k => match k with
  | 0 => ("ProvedTable$Kitchen", "pairs", "I", false)
  | 1 => ("ProvedTable$Kitchen", "lastHour", "I", false)
  | 2 => ("ProvedTable$Kitchen", "given", "I", false)
  | 3 => ("ProvedTable$Kitchen", "hourOf", "[I", true)
  | 4 => ("ProvedTable$Kitchen", "giversOf", "[I", true)
  | 5 => ("ProvedTable$Kitchen", "throughAt", "[I", true)
  | _ => ("ProvedTable$Kitchen", "workOf", "[I", true)
def tyX1 : Nat → FieldType := fun k => match k with
  | 0 => .int
  | 1 => .int
  | 2 => .int
  | 3 => .array .int
  | 4 => .array .int
  | 5 => .array .int
  | _ => .array .int
theorem nmX1 : ∀ a, a < 7 → ∀ b, b < 7 → a ≠ b → (TX1 a).2.1 ≠ (TX1 b).2.1 := by decide +kernel
theorem tyX1_ok : ∀ k, k < 7 → parseFieldDescriptor (TX1 k).2.2.1 = some (tyX1 k) := by decide +kernel
abbrev cX1_init : ByteArray := prog_3_method_1_code
def yX1_init : MethodName := ⟨RX1, "<init>", "()V"⟩
abbrev cX1_cook : ByteArray := prog_3_method_2_code
def yX1_cook : MethodName := ⟨RX1, "cook", "(LProvedTable$Table;LProvedTable$Row;)V"⟩
abbrev cX1_open : ByteArray := prog_3_method_3_code
def yX1_open : MethodName := ⟨RX1, "open", "(LProvedTable$Table;)V"⟩
abbrev cX1_cookPair : ByteArray := prog_3_method_4_code
def yX1_cookPair : MethodName := ⟨RX1, "cookPair", "(LProvedTable$Table;II)Z"⟩
abbrev cX1_hourOfAll : ByteArray := prog_3_method_5_code
def yX1_hourOfAll : MethodName := ⟨RX1, "hourOfAll", "(LProvedTable$Table;I)I"⟩
abbrev cX1_give : ByteArray := prog_3_method_6_code
def yX1_give : MethodName := ⟨RX1, "give", "(III)V"⟩
def RX2 : String := "ProvedTable$Reader"
def TX2 : u_T := fun k => match k with
  | 0 => ("ProvedTable$Reader", "bytes", "[B", true)
  | 1 => ("ProvedTable$Reader", "length", "I", false)
  | 2 => ("ProvedTable$Reader", "fault", "I", false)
  | 3 => ("ProvedTable$Reader", "place", "I", false)
  | 4 => ("ProvedTable$Reader", "kind", "I", false)
  | 5 => ("ProvedTable$Reader", "start", "I", false)
  | 6 => ("ProvedTable$Reader", "stop", "I", false)
  | _ => ("ProvedTable$Reader", "value", "I", false)
def tyX2 : Nat → FieldType := fun k => match k with
  | 0 => .array .byte
  | 1 => .int
  | 2 => .int
  | 3 => .int
  | 4 => .int
  | 5 => .int
  | 6 => .int
  | _ => .int
theorem nmX2 : ∀ a, a < 8 → ∀ b, b < 8 → a ≠ b → (TX2 a).2.1 ≠ (TX2 b).2.1 := by decide +kernel
theorem tyX2_ok : ∀ k, k < 8 → parseFieldDescriptor (TX2 k).2.2.1 = some (tyX2 k) := by decide +kernel
abbrev cX2_init : ByteArray := prog_4_method_1_code
def yX2_init : MethodName := ⟨RX2, "<init>", "()V"⟩
abbrev cX2_append : ByteArray := prog_4_method_2_code
def yX2_append : MethodName := ⟨RX2, "append", "(I)V"⟩
abbrev cX2_readTable : ByteArray := prog_4_method_3_code
def yX2_readTable : MethodName := ⟨RX2, "readTable", "(LProvedTable$Table;)Z"⟩
abbrev cX2_readLine : ByteArray := prog_4_method_4_code
def yX2_readLine : MethodName := ⟨RX2, "readLine", "(LProvedTable$Table;)Z"⟩
abbrev cX2_readHead : ByteArray := prog_4_method_5_code
def yX2_readHead : MethodName := ⟨RX2, "readHead", "(LProvedTable$Table;)Z"⟩
abbrev cX2_readClaim : ByteArray := prog_4_method_6_code
def yX2_readClaim : MethodName := ⟨RX2, "readClaim", "(LProvedTable$Table;)Z"⟩
abbrev cX2_readSalt : ByteArray := prog_4_method_7_code
def yX2_readSalt : MethodName := ⟨RX2, "readSalt", "(LProvedTable$Table;)Z"⟩
abbrev cX2_readStep : ByteArray := prog_4_method_8_code
def yX2_readStep : MethodName := ⟨RX2, "readStep", "(LProvedTable$Table;)Z"⟩
abbrev cX2_readGuest : ByteArray := prog_4_method_9_code
def yX2_readGuest : MethodName := ⟨RX2, "readGuest", "(LProvedTable$Table;)Z"⟩
abbrev cX2_readSet : ByteArray := prog_4_method_10_code
def yX2_readSet : MethodName := ⟨RX2, "readSet", "(II)I"⟩
abbrev cX2_readForm : ByteArray := prog_4_method_11_code
def yX2_readForm : MethodName := ⟨RX2, "readForm", "(LProvedTable$Table;I)I"⟩
abbrev cX2_readParts : ByteArray := prog_4_method_12_code
def yX2_readParts : MethodName := ⟨RX2, "readParts", "(LProvedTable$Table;II)I"⟩
abbrev cX2_worldsOfLeaf : ByteArray := prog_4_method_13_code
def yX2_worldsOfLeaf : MethodName := ⟨RX2, "worldsOfLeaf", "(LProvedTable$Table;)I"⟩
abbrev cX2_operatorHere : ByteArray := prog_4_method_14_code
def yX2_operatorHere : MethodName := ⟨RX2, "operatorHere", "()I"⟩
abbrev cX2_readSign : ByteArray := prog_4_method_15_code
def yX2_readSign : MethodName := ⟨RX2, "readSign", "()Z"⟩
abbrev cX2_readWord : ByteArray := prog_4_method_16_code
def yX2_readWord : MethodName := ⟨RX2, "readWord", "(Ljava/lang/String;)Z"⟩
abbrev cX2_readNamed : ByteArray := prog_4_method_17_code
def yX2_readNamed : MethodName := ⟨RX2, "readNamed", "(Ljava/lang/String;II)I"⟩
abbrev cX2_readNumber : ByteArray := prog_4_method_18_code
def yX2_readNumber : MethodName := ⟨RX2, "readNumber", "(II)I"⟩
abbrev cX2_isNumberOf : ByteArray := prog_4_method_19_code
def yX2_isNumberOf : MethodName := ⟨RX2, "isNumberOf", "(I)Z"⟩
abbrev cX2_isWord : ByteArray := prog_4_method_20_code
def yX2_isWord : MethodName := ⟨RX2, "isWord", "(Ljava/lang/String;)Z"⟩
abbrev cX2_fail : ByteArray := prog_4_method_21_code
def yX2_fail : MethodName := ⟨RX2, "fail", "(I)Z"⟩
abbrev cX2_advance : ByteArray := prog_4_method_22_code
def yX2_advance : MethodName := ⟨RX2, "advance", "()V"⟩
abbrev cX2_kindAt : ByteArray := prog_4_method_23_code
def yX2_kindAt : MethodName := ⟨RX2, "kindAt", "(I)I"⟩
def RX3 : String := "ProvedTable$Reading"
def TX3 : u_T := fun k => match k with
  | 0 => ("ProvedTable$Reading", "going", "I", false)
  | 1 => ("ProvedTable$Reading", "reason", "I", false)
  | 2 => ("ProvedTable$Reading", "proved", "I", false)
  | _ => ("ProvedTable$Reading", "usedFor", "[I", true)
def tyX3 : Nat → FieldType := fun k => match k with
  | 0 => .int
  | 1 => .int
  | 2 => .int
  | _ => .array .int
theorem nmX3 : ∀ a, a < 4 → ∀ b, b < 4 → a ≠ b → (TX3 a).2.1 ≠ (TX3 b).2.1 := by decide +kernel
theorem tyX3_ok : ∀ k, k < 4 → parseFieldDescriptor (TX3 k).2.2.1 = some (tyX3 k) := by decide +kernel
abbrev cX3_init : ByteArray := prog_5_method_1_code
def yX3_init : MethodName := ⟨RX3, "<init>", "()V"⟩
abbrev cX3_read : ByteArray := prog_5_method_2_code
def yX3_read : MethodName := ⟨RX3, "read", "(LProvedTable$Table;LProvedTable$Row;)V"⟩
abbrev cX3_reasonAgainst : ByteArray := prog_5_method_3_code
def yX3_reasonAgainst : MethodName := ⟨RX3, "reasonAgainst", "(LProvedTable$Table;I)I"⟩
abbrev cX3_usedForAll : ByteArray := prog_5_method_4_code
def yX3_usedForAll : MethodName := ⟨RX3, "usedForAll", "(LProvedTable$Table;I)I"⟩
abbrev cX3_worthEaten : ByteArray := prog_5_method_5_code
def yX3_worthEaten : MethodName := ⟨RX3, "worthEaten", "(LProvedTable$Table;LProvedTable$Row;I)I"⟩
def RX4 : String := "ProvedTable$Row"
def TX4 : u_T := fun k => match k with
  | 0 => ("ProvedTable$Row", "isThere", "Z", false)
  | 1 => ("ProvedTable$Row", "width", "I", false)
  | 2 => ("ProvedTable$Row", "n", "I", false)
  | _ => ("ProvedTable$Row", "numbers", "[J", true)
def tyX4 : Nat → FieldType := fun k => match k with
  | 0 => .boolean
  | 1 => .int
  | 2 => .int
  | _ => .array .long
theorem nmX4 : ∀ a, a < 4 → ∀ b, b < 4 → a ≠ b → (TX4 a).2.1 ≠ (TX4 b).2.1 := by decide +kernel
theorem tyX4_ok : ∀ k, k < 4 → parseFieldDescriptor (TX4 k).2.2.1 = some (tyX4 k) := by decide +kernel
abbrev cX4_init : ByteArray := prog_6_method_1_code
def yX4_init : MethodName := ⟨RX4, "<init>", "()V"⟩
abbrev cX4_begin : ByteArray := prog_6_method_2_code
def yX4_begin : MethodName := ⟨RX4, "begin", "(II)V"⟩
abbrev cX4_cut : ByteArray := prog_6_method_3_code
def yX4_cut : MethodName := ⟨RX4, "cut", "(J)J"⟩
abbrev cX4_areAllBelow : ByteArray := prog_6_method_4_code
def yX4_areAllBelow : MethodName := ⟨RX4, "areAllBelow", "(I)Z"⟩
abbrev cX4_arePairsBelow : ByteArray := prog_6_method_5_code
def yX4_arePairsBelow : MethodName := ⟨RX4, "arePairsBelow", "(II)Z"⟩
abbrev cX4_asSet : ByteArray := prog_6_method_6_code
def yX4_asSet : MethodName := ⟨RX4, "asSet", "()I"⟩
def RX5 : String := "ProvedTable$Sheet"
def TX5 : u_T := fun k => match k with
  | _ => ("ProvedTable$Sheet", "at", "[I", true)
def tyX5 : Nat → FieldType := fun k => match k with
  | _ => .array .int
theorem nmX5 : ∀ a, a < 1 → ∀ b, b < 1 → a ≠ b → (TX5 a).2.1 ≠ (TX5 b).2.1 := by decide +kernel
theorem tyX5_ok : ∀ k, k < 1 → parseFieldDescriptor (TX5 k).2.2.1 = some (tyX5 k) := by decide +kernel
abbrev cX5_init : ByteArray := prog_7_method_1_code
def yX5_init : MethodName := ⟨RX5, "<init>", "()V"⟩
abbrev cX5_subsetsOf : ByteArray := prog_7_method_2_code
def yX5_subsetsOf : MethodName := ⟨RX5, "subsetsOf", "(I)I"⟩
abbrev cX5_subsetBehind : ByteArray := prog_7_method_3_code
def yX5_subsetBehind : MethodName := ⟨RX5, "subsetBehind", "(II)I"⟩
abbrev cX5_withoutLowest : ByteArray := prog_7_method_4_code
def yX5_withoutLowest : MethodName := ⟨RX5, "withoutLowest", "(I)I"⟩
abbrev cX5_fillWithProofs : ByteArray := prog_7_method_5_code
def yX5_fillWithProofs : MethodName := ⟨RX5, "fillWithProofs", "(LProvedTable$Table;II)V"⟩
abbrev cX5_fillWithSaltProofs : ByteArray := prog_7_method_6_code
def yX5_fillWithSaltProofs : MethodName := ⟨RX5, "fillWithSaltProofs", "(LProvedTable$Table;)V"⟩
abbrev cX5_fillWithRuledOut : ByteArray := prog_7_method_7_code
def yX5_fillWithRuledOut : MethodName := ⟨RX5, "fillWithRuledOut", "(LProvedTable$Table;)V"⟩
abbrev cX5_leastSet : ByteArray := prog_7_method_8_code
def yX5_leastSet : MethodName := ⟨RX5, "leastSet", "(II)I"⟩
abbrev cX5_countLeast : ByteArray := prog_7_method_9_code
def yX5_countLeast : MethodName := ⟨RX5, "countLeast", "(II)I"⟩
abbrev cX5_isLeast : ByteArray := prog_7_method_10_code
def yX5_isLeast : MethodName := ⟨RX5, "isLeast", "(II)Z"⟩
abbrev cX5_menuSet : ByteArray := prog_7_method_11_code
def yX5_menuSet : MethodName := ⟨RX5, "menuSet", "(LProvedTable$Table;II)I"⟩
def RX6 : String := "ProvedTable$Table"
def TX6 : u_T := fun k => match k with
  | 0 => ("ProvedTable$Table", "lines", "I", false)
  | 1 => ("ProvedTable$Table", "atoms", "I", false)
  | 2 => ("ProvedTable$Table", "hours", "I", false)
  | 3 => ("ProvedTable$Table", "holes", "I", false)
  | 4 => ("ProvedTable$Table", "claims", "I", false)
  | 5 => ("ProvedTable$Table", "steps", "I", false)
  | 6 => ("ProvedTable$Table", "guests", "I", false)
  | 7 => ("ProvedTable$Table", "salt", "I", false)
  | 8 => ("ProvedTable$Table", "worth", "[I", true)
  | 9 => ("ProvedTable$Table", "holds", "[I", true)
  | 10 => ("ProvedTable$Table", "gives", "[I", true)
  | 11 => ("ProvedTable$Table", "premises", "[I", true)
  | 12 => ("ProvedTable$Table", "speed", "[I", true)
  | _ => ("ProvedTable$Table", "knows", "[I", true)
def tyX6 : Nat → FieldType := fun k => match k with
  | 0 => .int
  | 1 => .int
  | 2 => .int
  | 3 => .int
  | 4 => .int
  | 5 => .int
  | 6 => .int
  | 7 => .int
  | 8 => .array .int
  | 9 => .array .int
  | 10 => .array .int
  | 11 => .array .int
  | 12 => .array .int
  | _ => .array .int
theorem nmX6 : ∀ a, a < 14 → ∀ b, b < 14 → a ≠ b → (TX6 a).2.1 ≠ (TX6 b).2.1 := by decide +kernel
theorem tyX6_ok : ∀ k, k < 14 → parseFieldDescriptor (TX6 k).2.2.1 = some (tyX6 k) := by decide +kernel
abbrev cX6_init : ByteArray := prog_8_method_1_code
def yX6_init : MethodName := ⟨RX6, "<init>", "()V"⟩
abbrev cX6_clear : ByteArray := prog_8_method_2_code
def yX6_clear : MethodName := ⟨RX6, "clear", "()V"⟩
abbrev cX6_copyFrom : ByteArray := prog_8_method_3_code
def yX6_copyFrom : MethodName := ⟨RX6, "copyFrom", "(LProvedTable$Table;)V"⟩
abbrev cX6_isTold : ByteArray := prog_8_method_4_code
def yX6_isTold : MethodName := ⟨RX6, "isTold", "()Z"⟩
abbrev cX6_hasClaim : ByteArray := prog_8_method_5_code
def yX6_hasClaim : MethodName := ⟨RX6, "hasClaim", "(I)Z"⟩
abbrev cX6_hasStep : ByteArray := prog_8_method_6_code
def yX6_hasStep : MethodName := ⟨RX6, "hasStep", "(I)Z"⟩
abbrev cX6_hasGuest : ByteArray := prog_8_method_7_code
def yX6_hasGuest : MethodName := ⟨RX6, "hasGuest", "(I)Z"⟩
abbrev cX6_isClaimSet : ByteArray := prog_8_method_8_code
def yX6_isClaimSet : MethodName := ⟨RX6, "isClaimSet", "(I)Z"⟩
abbrev cX6_isGuestSet : ByteArray := prog_8_method_9_code
def yX6_isGuestSet : MethodName := ⟨RX6, "isGuestSet", "(I)Z"⟩
abbrev cX6_allSteps : ByteArray := prog_8_method_10_code
def yX6_allSteps : MethodName := ⟨RX6, "allSteps", "()I"⟩
abbrev cX6_allWorlds : ByteArray := prog_8_method_11_code
def yX6_allWorlds : MethodName := ⟨RX6, "allWorlds", "()I"⟩
abbrev cX6_worldsOfAtom : ByteArray := prog_8_method_12_code
def yX6_worldsOfAtom : MethodName := ⟨RX6, "worldsOfAtom", "(I)I"⟩
abbrev cX6_worldsOf : ByteArray := prog_8_method_13_code
def yX6_worldsOf : MethodName := ⟨RX6, "worldsOf", "(I)I"⟩
abbrev cX6_followsFrom : ByteArray := prog_8_method_14_code
def yX6_followsFrom : MethodName := ⟨RX6, "followsFrom", "(II)Z"⟩
abbrev cX6_following : ByteArray := prog_8_method_15_code
def yX6_following : MethodName := ⟨RX6, "following", "()I"⟩
abbrev cX6_claimsHoldingIn : ByteArray := prog_8_method_16_code
def yX6_claimsHoldingIn : MethodName := ⟨RX6, "claimsHoldingIn", "(I)I"⟩
abbrev cX6_falseWorlds : ByteArray := prog_8_method_17_code
def yX6_falseWorlds : MethodName := ⟨RX6, "falseWorlds", "(I)I"⟩
abbrev cX6_leftAtWorst : ByteArray := prog_8_method_18_code
def yX6_leftAtWorst : MethodName := ⟨RX6, "leftAtWorst", "(I)I"⟩
abbrev cX6_goes : ByteArray := prog_8_method_19_code
def yX6_goes : MethodName := ⟨RX6, "goes", "(II)Z"⟩
abbrev cX6_firstGoing : ByteArray := prog_8_method_20_code
def yX6_firstGoing : MethodName := ⟨RX6, "firstGoing", "(II)I"⟩
abbrev cX6_spread : ByteArray := prog_8_method_21_code
def yX6_spread : MethodName := ⟨RX6, "spread", "(II)I"⟩
abbrev cX6_worthOf : ByteArray := prog_8_method_22_code
def yX6_worthOf : MethodName := ⟨RX6, "worthOf", "(I)I"⟩
abbrev cX6_canDo : ByteArray := prog_8_method_23_code
def yX6_canDo : MethodName := ⟨RX6, "canDo", "(I)I"⟩
abbrev cX6_teamCanDo : ByteArray := prog_8_method_24_code
def yX6_teamCanDo : MethodName := ⟨RX6, "teamCanDo", "(I)I"⟩
abbrev cX6_teamKnows : ByteArray := prog_8_method_25_code
def yX6_teamKnows : MethodName := ⟨RX6, "teamKnows", "(I)I"⟩
abbrev cX6_addStep : ByteArray := prog_8_method_26_code
def yX6_addStep : MethodName := ⟨RX6, "addStep", "(II)V"⟩
abbrev cX6_dropStep : ByteArray := prog_8_method_27_code
def yX6_dropStep : MethodName := ⟨RX6, "dropStep", "()V"⟩
abbrev cX6_holedSteps : ByteArray := prog_8_method_28_code
def yX6_holedSteps : MethodName := ⟨RX6, "holedSteps", "(I)I"⟩
def RX7 : String := "ProvedTable"
def TX7 : u_T := fun k => match k with
  | 0 => ("ProvedTable", "reader", "LProvedTable$Reader;", true)
  | 1 => ("ProvedTable", "table", "LProvedTable$Table;", true)
  | 2 => ("ProvedTable", "draft", "LProvedTable$Table;", true)
  | 3 => ("ProvedTable", "images", "[LProvedTable$Table;", true)
  | 4 => ("ProvedTable", "isKept", "[Z", true)
  | 5 => ("ProvedTable", "rows", "[LProvedTable$Row;", true)
  | 6 => ("ProvedTable", "proofSheet", "LProvedTable$Sheet;", true)
  | 7 => ("ProvedTable", "isProofSheetStale", "Z", false)
  | 8 => ("ProvedTable", "scratch", "LProvedTable$Sheet;", true)
  | 9 => ("ProvedTable", "reading", "LProvedTable$Reading;", true)
  | 10 => ("ProvedTable", "kitchenRun", "LProvedTable$Kitchen;", true)
  | _ => ("ProvedTable", "doubt", "LProvedTable$Doubt;", true)
def tyX7 : Nat → FieldType := fun k => match k with
  | 0 => .object "ProvedTable$Reader"
  | 1 => .object "ProvedTable$Table"
  | 2 => .object "ProvedTable$Table"
  | 3 => .array (.object "ProvedTable$Table")
  | 4 => .array .boolean
  | 5 => .array (.object "ProvedTable$Row")
  | 6 => .object "ProvedTable$Sheet"
  | 7 => .boolean
  | 8 => .object "ProvedTable$Sheet"
  | 9 => .object "ProvedTable$Reading"
  | 10 => .object "ProvedTable$Kitchen"
  | _ => .object "ProvedTable$Doubt"
theorem nmX7 : ∀ a, a < 12 → ∀ b, b < 12 → a ≠ b → (TX7 a).2.1 ≠ (TX7 b).2.1 := by decide +kernel
theorem tyX7_ok : ∀ k, k < 12 → parseFieldDescriptor (TX7 k).2.2.1 = some (tyX7 k) := by decide +kernel
abbrev cX7_init : ByteArray := prog_1_method_1_code
def yX7_init : MethodName := ⟨RX7, "<init>", "()V"⟩
abbrev cX7_feed : ByteArray := prog_1_method_2_code
def yX7_feed : MethodName := ⟨RX7, "feed", "(IIIII)I"⟩
abbrev cX7_end : ByteArray := prog_1_method_3_code
def yX7_end : MethodName := ⟨RX7, "end", "(I)I"⟩
abbrev cX7_table : ByteArray := prog_1_method_4_code
def yX7_table : MethodName := ⟨RX7, "table", "()I"⟩
abbrev cX7_fault : ByteArray := prog_1_method_5_code
def yX7_fault : MethodName := ⟨RX7, "fault", "(I)I"⟩
abbrev cX7_claim : ByteArray := prog_1_method_6_code
def yX7_claim : MethodName := ⟨RX7, "claim", "(II)I"⟩
abbrev cX7_holds : ByteArray := prog_1_method_7_code
def yX7_holds : MethodName := ⟨RX7, "holds", "(I)I"⟩
abbrev cX7_step : ByteArray := prog_1_method_8_code
def yX7_step : MethodName := ⟨RX7, "step", "(II)I"⟩
abbrev cX7_guest : ByteArray := prog_1_method_9_code
def yX7_guest : MethodName := ⟨RX7, "guest", "(II)I"⟩
abbrev cX7_salted : ByteArray := prog_1_method_10_code
def yX7_salted : MethodName := ⟨RX7, "salted", "()I"⟩
abbrev cX7_follows : ByteArray := prog_1_method_11_code
def yX7_follows : MethodName := ⟨RX7, "follows", "(I)I"⟩
abbrev cX7_counter : ByteArray := prog_1_method_12_code
def yX7_counter : MethodName := ⟨RX7, "counter", "(I)I"⟩
abbrev cX7_entails : ByteArray := prog_1_method_13_code
def yX7_entails : MethodName := ⟨RX7, "entails", "(II)I"⟩
abbrev cX7_alike : ByteArray := prog_1_method_14_code
def yX7_alike : MethodName := ⟨RX7, "alike", "(I)I"⟩
abbrev cX7_falsity : ByteArray := prog_1_method_15_code
def yX7_falsity : MethodName := ⟨RX7, "falsity", "(I)I"⟩
abbrev cX7_proved : ByteArray := prog_1_method_16_code
def yX7_proved : MethodName := ⟨RX7, "proved", "()I"⟩
abbrev cX7_wrong : ByteArray := prog_1_method_17_code
def yX7_wrong : MethodName := ⟨RX7, "wrong", "()I"⟩
abbrev cX7_covered : ByteArray := prog_1_method_18_code
def yX7_covered : MethodName := ⟨RX7, "covered", "()I"⟩
abbrev cX7_reads : ByteArray := prog_1_method_19_code
def yX7_reads : MethodName := ⟨RX7, "reads", "(I)I"⟩
abbrev cX7_why : ByteArray := prog_1_method_20_code
def yX7_why : MethodName := ⟨RX7, "why", "(I)I"⟩
abbrev cX7_reached : ByteArray := prog_1_method_21_code
def yX7_reached : MethodName := ⟨RX7, "reached", "(I)I"⟩
abbrev cX7_eats : ByteArray := prog_1_method_22_code
def yX7_eats : MethodName := ⟨RX7, "eats", "(II)I"⟩
abbrev cX7_used : ByteArray := prog_1_method_23_code
def yX7_used : MethodName := ⟨RX7, "used", "(II)I"⟩
abbrev cX7_same : ByteArray := prog_1_method_24_code
def yX7_same : MethodName := ⟨RX7, "same", "(III)I"⟩
abbrev cX7_shortest : ByteArray := prog_1_method_25_code
def yX7_shortest : MethodName := ⟨RX7, "shortest", "(I)I"⟩
abbrev cX7_proof : ByteArray := prog_1_method_26_code
def yX7_proof : MethodName := ⟨RX7, "proof", "(I)I"⟩
abbrev cX7_bite : ByteArray := prog_1_method_27_code
def yX7_bite : MethodName := ⟨RX7, "bite", "(II)I"⟩
abbrev cX7_proofs : ByteArray := prog_1_method_28_code
def yX7_proofs : MethodName := ⟨RX7, "proofs", "(I)I"⟩
abbrev cX7_needs : ByteArray := prog_1_method_29_code
def yX7_needs : MethodName := ⟨RX7, "needs", "(I)I"⟩
abbrev cX7_rests : ByteArray := prog_1_method_30_code
def yX7_rests : MethodName := ⟨RX7, "rests", "(I)I"⟩
abbrev cX7_menu : ByteArray := prog_1_method_31_code
def yX7_menu : MethodName := ⟨RX7, "menu", "(I)I"⟩
abbrev cX7_course : ByteArray := prog_1_method_32_code
def yX7_course : MethodName := ⟨RX7, "course", "(I)I"⟩
abbrev cX7_dishes : ByteArray := prog_1_method_33_code
def yX7_dishes : MethodName := ⟨RX7, "dishes", "(I)I"⟩
abbrev cX7_takes : ByteArray := prog_1_method_34_code
def yX7_takes : MethodName := ⟨RX7, "takes", "(II)I"⟩
abbrev cX7_who : ByteArray := prog_1_method_35_code
def yX7_who : MethodName := ⟨RX7, "who", "(I)I"⟩
abbrev cX7_host : ByteArray := prog_1_method_36_code
def yX7_host : MethodName := ⟨RX7, "host", "(I)I"⟩
abbrev cX7_lemma : ByteArray := prog_1_method_37_code
def yX7_lemma : MethodName := ⟨RX7, "lemma", "(I)I"⟩
abbrev cX7_brings : ByteArray := prog_1_method_38_code
def yX7_brings : MethodName := ⟨RX7, "brings", "(I)I"⟩
abbrev cX7_strength : ByteArray := prog_1_method_39_code
def yX7_strength : MethodName := ⟨RX7, "strength", "(I)I"⟩
abbrev cX7_together : ByteArray := prog_1_method_40_code
def yX7_together : MethodName := ⟨RX7, "together", "(II)I"⟩
abbrev cX7_fewest : ByteArray := prog_1_method_41_code
def yX7_fewest : MethodName := ⟨RX7, "fewest", "(I)I"⟩
abbrev cX7_team : ByteArray := prog_1_method_42_code
def yX7_team : MethodName := ⟨RX7, "team", "(I)I"⟩
abbrev cX7_claims : ByteArray := prog_1_method_43_code
def yX7_claims : MethodName := ⟨RX7, "claims", "(II)I"⟩
abbrev cX7_outcome : ByteArray := prog_1_method_44_code
def yX7_outcome : MethodName := ⟨RX7, "outcome", "(II)I"⟩
abbrev cX7_kitchen : ByteArray := prog_1_method_45_code
def yX7_kitchen : MethodName := ⟨RX7, "kitchen", "(II)I"⟩
abbrev cX7_when : ByteArray := prog_1_method_46_code
def yX7_when : MethodName := ⟨RX7, "when", "(II)I"⟩
abbrev cX7_shares : ByteArray := prog_1_method_47_code
def yX7_shares : MethodName := ⟨RX7, "shares", "(II)I"⟩
abbrev cX7_busy : ByteArray := prog_1_method_48_code
def yX7_busy : MethodName := ⟨RX7, "busy", "(III)I"⟩
abbrev cX7_duel : ByteArray := prog_1_method_49_code
def yX7_duel : MethodName := ⟨RX7, "duel", "()I"⟩
abbrev cX7_move : ByteArray := prog_1_method_50_code
def yX7_move : MethodName := ⟨RX7, "move", "()I"⟩
abbrev cX7_lasts : ByteArray := prog_1_method_51_code
def yX7_lasts : MethodName := ⟨RX7, "lasts", "()I"⟩
abbrev cX7_idle : ByteArray := prog_1_method_52_code
def yX7_idle : MethodName := ⟨RX7, "idle", "()I"⟩
abbrev cX7_core : ByteArray := prog_1_method_53_code
def yX7_core : MethodName := ⟨RX7, "core", "()I"⟩
abbrev cX7_cored : ByteArray := prog_1_method_54_code
def yX7_cored : MethodName := ⟨RX7, "cored", "()I"⟩
abbrev cX7_likely : ByteArray := prog_1_method_55_code
def yX7_likely : MethodName := ⟨RX7, "likely", "(II)I"⟩
abbrev cX7_ask : ByteArray := prog_1_method_56_code
def yX7_ask : MethodName := ⟨RX7, "ask", "()I"⟩
abbrev cX7_leaves : ByteArray := prog_1_method_57_code
def yX7_leaves : MethodName := ⟨RX7, "leaves", "()I"⟩
abbrev cX7_unlike : ByteArray := prog_1_method_58_code
def yX7_unlike : MethodName := ⟨RX7, "unlike", "()I"⟩
abbrev cX7_falls : ByteArray := prog_1_method_59_code
def yX7_falls : MethodName := ⟨RX7, "falls", "(I)I"⟩
abbrev cX7_spare : ByteArray := prog_1_method_60_code
def yX7_spare : MethodName := ⟨RX7, "spare", "(I)I"⟩
abbrev cX7_spared : ByteArray := prog_1_method_61_code
def yX7_spared : MethodName := ⟨RX7, "spared", "(I)I"⟩
abbrev cX7_salt : ByteArray := prog_1_method_62_code
def yX7_salt : MethodName := ⟨RX7, "salt", "(II)I"⟩
abbrev cX7_ate : ByteArray := prog_1_method_63_code
def yX7_ate : MethodName := ⟨RX7, "ate", "(I)I"⟩
abbrev cX7_borrowed : ByteArray := prog_1_method_64_code
def yX7_borrowed : MethodName := ⟨RX7, "borrowed", "(II)I"⟩
abbrev cX7_lent : ByteArray := prog_1_method_65_code
def yX7_lent : MethodName := ⟨RX7, "lent", "(II)I"⟩
abbrev cX7_adds : ByteArray := prog_1_method_66_code
def yX7_adds : MethodName := ⟨RX7, "adds", "(II)I"⟩
abbrev cX7_drops : ByteArray := prog_1_method_67_code
def yX7_drops : MethodName := ⟨RX7, "drops", "()I"⟩
abbrev cX7_teach : ByteArray := prog_1_method_68_code
def yX7_teach : MethodName := ⟨RX7, "teach", "(III)I"⟩
abbrev cX7_drawn : ByteArray := prog_1_method_69_code
def yX7_drawn : MethodName := ⟨RX7, "drawn", "(I)I"⟩
abbrev cX7_feast : ByteArray := prog_1_method_70_code
def yX7_feast : MethodName := ⟨RX7, "feast", "(II)I"⟩
abbrev cX7_mean : ByteArray := prog_1_method_71_code
def yX7_mean : MethodName := ⟨RX7, "mean", "(IIII)I"⟩
abbrev cX7_count : ByteArray := prog_1_method_72_code
def yX7_count : MethodName := ⟨RX7, "count", "(I)I"⟩
abbrev cX7_image : ByteArray := prog_1_method_73_code
def yX7_image : MethodName := ⟨RX7, "image", "(I)I"⟩
abbrev cX7_back : ByteArray := prog_1_method_74_code
def yX7_back : MethodName := ⟨RX7, "back", "(I)I"⟩
abbrev cX7_row : ByteArray := prog_1_method_75_code
def yX7_row : MethodName := ⟨RX7, "row", "(III)I"⟩
abbrev cX7_write : ByteArray := prog_1_method_76_code
def yX7_write : MethodName := ⟨RX7, "write", "(IIJ)I"⟩
abbrev cX7_paste : ByteArray := prog_1_method_77_code
def yX7_paste : MethodName := ⟨RX7, "paste", "(IIIII)I"⟩
abbrev cX7_bit : ByteArray := prog_1_method_78_code
def yX7_bit : MethodName := ⟨RX7, "bit", "(Z)I"⟩
abbrev cX7_isBit : ByteArray := prog_1_method_79_code
def yX7_isBit : MethodName := ⟨RX7, "isBit", "(I)Z"⟩
abbrev cX7_withBit : ByteArray := prog_1_method_80_code
def yX7_withBit : MethodName := ⟨RX7, "withBit", "(III)I"⟩
abbrev cX7_lowestBit : ByteArray := prog_1_method_81_code
def yX7_lowestBit : MethodName := ⟨RX7, "lowestBit", "(I)I"⟩
abbrev cX7_sizeOrNone : ByteArray := prog_1_method_82_code
def yX7_sizeOrNone : MethodName := ⟨RX7, "sizeOrNone", "(I)I"⟩
abbrev cX7_isSlot : ByteArray := prog_1_method_83_code
def yX7_isSlot : MethodName := ⟨RX7, "isSlot", "(I)Z"⟩
abbrev cX7_isSeed : ByteArray := prog_1_method_84_code
def yX7_isSeed : MethodName := ⟨RX7, "isSeed", "(I)Z"⟩
abbrev cX7_greatestDivisor : ByteArray := prog_1_method_85_code
def yX7_greatestDivisor : MethodName := ⟨RX7, "greatestDivisor", "(II)I"⟩
abbrev cX7_partOfFraction : ByteArray := prog_1_method_86_code
def yX7_partOfFraction : MethodName := ⟨RX7, "partOfFraction", "(III)I"⟩
abbrev cX7_rowsThere : ByteArray := prog_1_method_87_code
def yX7_rowsThere : MethodName := ⟨RX7, "rowsThere", "()I"⟩
abbrev cX7_refusalOfSlot : ByteArray := prog_1_method_88_code
def yX7_refusalOfSlot : MethodName := ⟨RX7, "refusalOfSlot", "(I)I"⟩
abbrev cX7_refusalOfSteps : ByteArray := prog_1_method_89_code
def yX7_refusalOfSteps : MethodName := ⟨RX7, "refusalOfSteps", "(I)I"⟩
abbrev cX7_refusalOfPairs : ByteArray := prog_1_method_90_code
def yX7_refusalOfPairs : MethodName := ⟨RX7, "refusalOfPairs", "(I)I"⟩
abbrev cX7_refusalOfDishes : ByteArray := prog_1_method_91_code
def yX7_refusalOfDishes : MethodName := ⟨RX7, "refusalOfDishes", "(I)I"⟩
abbrev cX7_freshProofs : ByteArray := prog_1_method_92_code
def yX7_freshProofs : MethodName := ⟨RX7, "freshProofs", "()LProvedTable$Sheet;"⟩
abbrev cX7_provedByAll : ByteArray := prog_1_method_93_code
def yX7_provedByAll : MethodName := ⟨RX7, "provedByAll", "()I"⟩
abbrev cX7_provedWithout : ByteArray := prog_1_method_94_code
def yX7_provedWithout : MethodName := ⟨RX7, "provedWithout", "(I)I"⟩
abbrev cX7_shortestSet : ByteArray := prog_1_method_95_code
def yX7_shortestSet : MethodName := ⟨RX7, "shortestSet", "(I)I"⟩
abbrev cX7_menuSet : ByteArray := prog_1_method_96_code
def yX7_menuSet : MethodName := ⟨RX7, "menuSet", "(II)I"⟩
abbrev cX7_menuWorth : ByteArray := prog_1_method_97_code
def yX7_menuWorth : MethodName := ⟨RX7, "menuWorth", "(II)I"⟩
abbrev cX7_worthWithLemma : ByteArray := prog_1_method_98_code
def yX7_worthWithLemma : MethodName := ⟨RX7, "worthWithLemma", "(II)I"⟩
abbrev cX7_guestsProving : ByteArray := prog_1_method_99_code
def yX7_guestsProving : MethodName := ⟨RX7, "guestsProving", "(I)I"⟩
abbrev cX7_doesTeamProve : ByteArray := prog_1_method_100_code
def yX7_doesTeamProve : MethodName := ⟨RX7, "doesTeamProve", "(II)Z"⟩
abbrev cX7_leastTeam : ByteArray := prog_1_method_101_code
def yX7_leastTeam : MethodName := ⟨RX7, "leastTeam", "(I)I"⟩
abbrev cX7_lengthOfDuel : ByteArray := prog_1_method_102_code
def yX7_lengthOfDuel : MethodName := ⟨RX7, "lengthOfDuel", "()I"⟩
abbrev cX7_coreSet : ByteArray := prog_1_method_103_code
def yX7_coreSet : MethodName := ⟨RX7, "coreSet", "()I"⟩
abbrev cX7_leastSaltFor : ByteArray := prog_1_method_104_code
def yX7_leastSaltFor : MethodName := ⟨RX7, "leastSaltFor", "(I)I"⟩
def RX8 : String := "ProvedTableModel"
def TX8 : u_T := fun k => match k with
  | 0 => ("ProvedTableModel", "thrown", "I", false)
  | 1 => ("ProvedTableModel", "world", "[I", true)
  | 2 => ("ProvedTableModel", "images", "[I", true)
  | 3 => ("ProvedTableModel", "hasImage", "[Z", true)
  | 4 => ("ProvedTableModel", "tape", "[B", true)
  | 5 => ("ProvedTableModel", "taped", "I", false)
  | 6 => ("ProvedTableModel", "five", "[I", true)
  | 7 => ("ProvedTableModel", "size", "I", false)
  | 8 => ("ProvedTableModel", "at", "I", false)
  | 9 => ("ProvedTableModel", "from", "I", false)
  | 10 => ("ProvedTableModel", "token", "I", false)
  | 11 => ("ProvedTableModel", "value", "I", false)
  | 12 => ("ProvedTableModel", "faultKind", "I", false)
  | 13 => ("ProvedTableModel", "faultPlace", "I", false)
  | 14 => ("ProvedTableModel", "fresh", "[I", true)
  | 15 => ("ProvedTableModel", "openWord", "[I", true)
  | 16 => ("ProvedTableModel", "hasFirst", "[Z", true)
  | 17 => ("ProvedTableModel", "firstPart", "[I", true)
  | 18 => ("ProvedTableModel", "leaf", "I", false)
  | 19 => ("ProvedTableModel", "readMany", "I", false)
  | 20 => ("ProvedTableModel", "readProved", "I", false)
  | 21 => ("ProvedTableModel", "menuSet", "I", false)
  | 22 => ("ProvedTableModel", "bringsAbout", "[Z", true)
  | 23 => ("ProvedTableModel", "provedAt", "[I", true)
  | 24 => ("ProvedTableModel", "gaveIt", "[I", true)
  | 25 => ("ProvedTableModel", "throughAt", "[I", true)
  | 26 => ("ProvedTableModel", "worked", "[I", true)
  | 27 => ("ProvedTableModel", "pairsGone", "I", false)
  | 28 => ("ProvedTableModel", "allThrough", "I", false)
  | 29 => ("ProvedTableModel", "duels", "[I", true)
  | 30 => ("ProvedTableModel", "many", "[I", true)
  | 31 => ("ProvedTableModel", "width", "[I", true)
  | 32 => ("ProvedTableModel", "numbers", "[J", true)
  | _ => ("ProvedTableModel", "moving", "[J", true)
def tyX8 : Nat → FieldType := fun k => match k with
  | 0 => .int
  | 1 => .array .int
  | 2 => .array .int
  | 3 => .array .boolean
  | 4 => .array .byte
  | 5 => .int
  | 6 => .array .int
  | 7 => .int
  | 8 => .int
  | 9 => .int
  | 10 => .int
  | 11 => .int
  | 12 => .int
  | 13 => .int
  | 14 => .array .int
  | 15 => .array .int
  | 16 => .array .boolean
  | 17 => .array .int
  | 18 => .int
  | 19 => .int
  | 20 => .int
  | 21 => .int
  | 22 => .array .boolean
  | 23 => .array .int
  | 24 => .array .int
  | 25 => .array .int
  | 26 => .array .int
  | 27 => .int
  | 28 => .int
  | 29 => .array .int
  | 30 => .array .int
  | 31 => .array .int
  | 32 => .array .long
  | _ => .array .long
theorem nmX8 : ∀ a, a < 34 → ∀ b, b < 34 → a ≠ b → (TX8 a).2.1 ≠ (TX8 b).2.1 := by decide +kernel
theorem tyX8_ok : ∀ k, k < 34 → parseFieldDescriptor (TX8 k).2.2.1 = some (tyX8 k) := by decide +kernel
abbrev cX8_init : ByteArray := prog_10_method_1_code
def yX8_init : MethodName := ⟨RX8, "<init>", "()V"⟩
abbrev cX8_in : ByteArray := prog_10_method_3_code
def yX8_in : MethodName := ⟨RX8, "in", "(JJJ)Z"⟩
abbrev cX8_bits : ByteArray := prog_10_method_4_code
def yX8_bits : MethodName := ⟨RX8, "bits", "(I)I"⟩
abbrev cX8_bit : ByteArray := prog_10_method_5_code
def yX8_bit : MethodName := ⟨RX8, "bit", "(II)I"⟩
abbrev cX8_image : ByteArray := prog_10_method_6_code
def yX8_image : MethodName := ⟨RX8, "image", "(I)I"⟩
abbrev cX8_back : ByteArray := prog_10_method_7_code
def yX8_back : MethodName := ⟨RX8, "back", "(I)I"⟩
abbrev cX8_isTable : ByteArray := prog_10_method_8_code
def yX8_isTable : MethodName := ⟨RX8, "isTable", "()Z"⟩
abbrev cX8_isClaim : ByteArray := prog_10_method_9_code
def yX8_isClaim : MethodName := ⟨RX8, "isClaim", "(J)Z"⟩
abbrev cX8_isStep : ByteArray := prog_10_method_10_code
def yX8_isStep : MethodName := ⟨RX8, "isStep", "(J)Z"⟩
abbrev cX8_isGuest : ByteArray := prog_10_method_11_code
def yX8_isGuest : MethodName := ⟨RX8, "isGuest", "(J)Z"⟩
abbrev cX8_ofClaim : ByteArray := prog_10_method_12_code
def yX8_ofClaim : MethodName := ⟨RX8, "ofClaim", "(II)I"⟩
abbrev cX8_ofStep : ByteArray := prog_10_method_13_code
def yX8_ofStep : MethodName := ⟨RX8, "ofStep", "(II)I"⟩
abbrev cX8_ofGuest : ByteArray := prog_10_method_14_code
def yX8_ofGuest : MethodName := ⟨RX8, "ofGuest", "(II)I"⟩
abbrev cX8_allClaims : ByteArray := prog_10_method_15_code
def yX8_allClaims : MethodName := ⟨RX8, "allClaims", "()I"⟩
abbrev cX8_allSteps : ByteArray := prog_10_method_16_code
def yX8_allSteps : MethodName := ⟨RX8, "allSteps", "()I"⟩
abbrev cX8_allGuests : ByteArray := prog_10_method_17_code
def yX8_allGuests : MethodName := ⟨RX8, "allGuests", "()I"⟩
abbrev cX8_worlds : ByteArray := prog_10_method_18_code
def yX8_worlds : MethodName := ⟨RX8, "worlds", "()I"⟩
abbrev cX8_allWorlds : ByteArray := prog_10_method_19_code
def yX8_allWorlds : MethodName := ⟨RX8, "allWorlds", "()I"⟩
abbrev cX8_saltNow : ByteArray := prog_10_method_20_code
def yX8_saltNow : MethodName := ⟨RX8, "saltNow", "()I"⟩
abbrev cX8_feed : ByteArray := prog_10_method_21_code
def yX8_feed : MethodName := ⟨RX8, "feed", "(IIIII)I"⟩
abbrev cX8_end : ByteArray := prog_10_method_22_code
def yX8_end : MethodName := ⟨RX8, "end", "(I)I"⟩
abbrev cX8_see : ByteArray := prog_10_method_23_code
def yX8_see : MethodName := ⟨RX8, "see", "(I)I"⟩
abbrev cX8_advance : ByteArray := prog_10_method_24_code
def yX8_advance : MethodName := ⟨RX8, "advance", "()V"⟩
abbrev cX8_good : ByteArray := prog_10_method_25_code
def yX8_good : MethodName := ⟨RX8, "good", "()Z"⟩
abbrev cX8_errs : ByteArray := prog_10_method_26_code
def yX8_errs : MethodName := ⟨RX8, "errs", "(I)V"⟩
abbrev cX8_is : ByteArray := prog_10_method_27_code
def yX8_is : MethodName := ⟨RX8, "is", "(Ljava/lang/String;)Z"⟩
abbrev cX8_takes : ByteArray := prog_10_method_28_code
def yX8_takes : MethodName := ⟨RX8, "takes", "(Ljava/lang/String;)Z"⟩
abbrev cX8_needs : ByteArray := prog_10_method_29_code
def yX8_needs : MethodName := ⟨RX8, "needs", "(Ljava/lang/String;)V"⟩
abbrev cX8_number : ByteArray := prog_10_method_30_code
def yX8_number : MethodName := ⟨RX8, "number", "(II)I"⟩
abbrev cX8_told : ByteArray := prog_10_method_31_code
def yX8_told : MethodName := ⟨RX8, "told", "(Ljava/lang/String;II)I"⟩
abbrev cX8_fault : ByteArray := prog_10_method_32_code
def yX8_fault : MethodName := ⟨RX8, "fault", "(I)I"⟩
abbrev cX8_freshAll : ByteArray := prog_10_method_33_code
def yX8_freshAll : MethodName := ⟨RX8, "freshAll", "()I"⟩
abbrev cX8_atomWorlds : ByteArray := prog_10_method_34_code
def yX8_atomWorlds : MethodName := ⟨RX8, "atomWorlds", "(I)I"⟩
abbrev cX8_formWord : ByteArray := prog_10_method_35_code
def yX8_formWord : MethodName := ⟨RX8, "formWord", "()I"⟩
abbrev cX8_joined : ByteArray := prog_10_method_36_code
def yX8_joined : MethodName := ⟨RX8, "joined", "(III)I"⟩
abbrev cX8_form : ByteArray := prog_10_method_37_code
def yX8_form : MethodName := ⟨RX8, "form", "()I"⟩
abbrev cX8_freshClaim : ByteArray := prog_10_method_38_code
def yX8_freshClaim : MethodName := ⟨RX8, "freshClaim", "()I"⟩
abbrev cX8_readClaim : ByteArray := prog_10_method_39_code
def yX8_readClaim : MethodName := ⟨RX8, "readClaim", "()V"⟩
abbrev cX8_isNextIn : ByteArray := prog_10_method_40_code
def yX8_isNextIn : MethodName := ⟨RX8, "isNextIn", "(I)Z"⟩
abbrev cX8_readSalt : ByteArray := prog_10_method_41_code
def yX8_readSalt : MethodName := ⟨RX8, "readSalt", "()V"⟩
abbrev cX8_readStep : ByteArray := prog_10_method_42_code
def yX8_readStep : MethodName := ⟨RX8, "readStep", "()V"⟩
abbrev cX8_readGuest : ByteArray := prog_10_method_43_code
def yX8_readGuest : MethodName := ⟨RX8, "readGuest", "()V"⟩
abbrev cX8_readNext : ByteArray := prog_10_method_44_code
def yX8_readNext : MethodName := ⟨RX8, "readNext", "()V"⟩
abbrev cX8_readLine : ByteArray := prog_10_method_45_code
def yX8_readLine : MethodName := ⟨RX8, "readLine", "()V"⟩
abbrev cX8_table : ByteArray := prog_10_method_46_code
def yX8_table : MethodName := ⟨RX8, "table", "()I"⟩
abbrev cX8_saltedBy : ByteArray := prog_10_method_47_code
def yX8_saltedBy : MethodName := ⟨RX8, "saltedBy", "(I)I"⟩
abbrev cX8_saltedNow : ByteArray := prog_10_method_48_code
def yX8_saltedNow : MethodName := ⟨RX8, "saltedNow", "()I"⟩
abbrev cX8_lowest : ByteArray := prog_10_method_49_code
def yX8_lowest : MethodName := ⟨RX8, "lowest", "(I)I"⟩
abbrev cX8_falseIn : ByteArray := prog_10_method_50_code
def yX8_falseIn : MethodName := ⟨RX8, "falseIn", "(I)I"⟩
abbrev cX8_isFollowing : ByteArray := prog_10_method_51_code
def yX8_isFollowing : MethodName := ⟨RX8, "isFollowing", "(I)Z"⟩
abbrev cX8_claim : ByteArray := prog_10_method_52_code
def yX8_claim : MethodName := ⟨RX8, "claim", "(II)I"⟩
abbrev cX8_holds : ByteArray := prog_10_method_53_code
def yX8_holds : MethodName := ⟨RX8, "holds", "(I)I"⟩
abbrev cX8_step : ByteArray := prog_10_method_54_code
def yX8_step : MethodName := ⟨RX8, "step", "(II)I"⟩
abbrev cX8_canDo : ByteArray := prog_10_method_55_code
def yX8_canDo : MethodName := ⟨RX8, "canDo", "(I)I"⟩
abbrev cX8_guest : ByteArray := prog_10_method_56_code
def yX8_guest : MethodName := ⟨RX8, "guest", "(II)I"⟩
abbrev cX8_salted : ByteArray := prog_10_method_57_code
def yX8_salted : MethodName := ⟨RX8, "salted", "()I"⟩
abbrev cX8_follows : ByteArray := prog_10_method_58_code
def yX8_follows : MethodName := ⟨RX8, "follows", "(I)I"⟩
abbrev cX8_counter : ByteArray := prog_10_method_59_code
def yX8_counter : MethodName := ⟨RX8, "counter", "(I)I"⟩
abbrev cX8_entails : ByteArray := prog_10_method_60_code
def yX8_entails : MethodName := ⟨RX8, "entails", "(II)I"⟩
abbrev cX8_alike : ByteArray := prog_10_method_61_code
def yX8_alike : MethodName := ⟨RX8, "alike", "(I)I"⟩
abbrev cX8_falsity : ByteArray := prog_10_method_62_code
def yX8_falsity : MethodName := ⟨RX8, "falsity", "(I)I"⟩
abbrev cX8_goes : ByteArray := prog_10_method_63_code
def yX8_goes : MethodName := ⟨RX8, "goes", "(II)Z"⟩
abbrev cX8_provedBy : ByteArray := prog_10_method_64_code
def yX8_provedBy : MethodName := ⟨RX8, "provedBy", "(II)I"⟩
abbrev cX8_provedNow : ByteArray := prog_10_method_65_code
def yX8_provedNow : MethodName := ⟨RX8, "provedNow", "()I"⟩
abbrev cX8_following : ByteArray := prog_10_method_66_code
def yX8_following : MethodName := ⟨RX8, "following", "()I"⟩
abbrev cX8_proved : ByteArray := prog_10_method_67_code
def yX8_proved : MethodName := ⟨RX8, "proved", "()I"⟩
abbrev cX8_wrong : ByteArray := prog_10_method_68_code
def yX8_wrong : MethodName := ⟨RX8, "wrong", "()I"⟩
abbrev cX8_covered : ByteArray := prog_10_method_69_code
def yX8_covered : MethodName := ⟨RX8, "covered", "()I"⟩
abbrev cX8_numberAt : ByteArray := prog_10_method_70_code
def yX8_numberAt : MethodName := ⟨RX8, "numberAt", "(II)J"⟩
abbrev cX8_asksRow : ByteArray := prog_10_method_71_code
def yX8_asksRow : MethodName := ⟨RX8, "asksRow", "(IZ)I"⟩
abbrev cX8_readRow : ByteArray := prog_10_method_72_code
def yX8_readRow : MethodName := ⟨RX8, "readRow", "(I)V"⟩
abbrev cX8_reads : ByteArray := prog_10_method_73_code
def yX8_reads : MethodName := ⟨RX8, "reads", "(I)I"⟩
abbrev cX8_why : ByteArray := prog_10_method_74_code
def yX8_why : MethodName := ⟨RX8, "why", "(I)I"⟩
abbrev cX8_reached : ByteArray := prog_10_method_75_code
def yX8_reached : MethodName := ⟨RX8, "reached", "(I)I"⟩
abbrev cX8_eats : ByteArray := prog_10_method_76_code
def yX8_eats : MethodName := ⟨RX8, "eats", "(II)I"⟩
abbrev cX8_usedBy : ByteArray := prog_10_method_77_code
def yX8_usedBy : MethodName := ⟨RX8, "usedBy", "(II)I"⟩
abbrev cX8_used : ByteArray := prog_10_method_78_code
def yX8_used : MethodName := ⟨RX8, "used", "(II)I"⟩
abbrev cX8_same : ByteArray := prog_10_method_79_code
def yX8_same : MethodName := ⟨RX8, "same", "(III)I"⟩
abbrev cX8_fewestSteps : ByteArray := prog_10_method_80_code
def yX8_fewestSteps : MethodName := ⟨RX8, "fewestSteps", "(III)I"⟩
abbrev cX8_proofOf : ByteArray := prog_10_method_81_code
def yX8_proofOf : MethodName := ⟨RX8, "proofOf", "(I)I"⟩
abbrev cX8_shortest : ByteArray := prog_10_method_82_code
def yX8_shortest : MethodName := ⟨RX8, "shortest", "(I)I"⟩
abbrev cX8_proof : ByteArray := prog_10_method_83_code
def yX8_proof : MethodName := ⟨RX8, "proof", "(I)I"⟩
abbrev cX8_bite : ByteArray := prog_10_method_84_code
def yX8_bite : MethodName := ⟨RX8, "bite", "(II)I"⟩
abbrev cX8_isProvedBy : ByteArray := prog_10_method_85_code
def yX8_isProvedBy : MethodName := ⟨RX8, "isProvedBy", "(II)Z"⟩
abbrev cX8_isLeastProof : ByteArray := prog_10_method_86_code
def yX8_isLeastProof : MethodName := ⟨RX8, "isLeastProof", "(II)Z"⟩
abbrev cX8_proofs : ByteArray := prog_10_method_87_code
def yX8_proofs : MethodName := ⟨RX8, "proofs", "(I)I"⟩
abbrev cX8_needs_ : ByteArray := prog_10_method_88_code
def yX8_needs_ : MethodName := ⟨RX8, "needs", "(I)I"⟩
abbrev cX8_rests : ByteArray := prog_10_method_89_code
def yX8_rests : MethodName := ⟨RX8, "rests", "(I)I"⟩
abbrev cX8_worthsOf : ByteArray := prog_10_method_90_code
def yX8_worthsOf : MethodName := ⟨RX8, "worthsOf", "(I)I"⟩
abbrev cX8_mostBy : ByteArray := prog_10_method_91_code
def yX8_mostBy : MethodName := ⟨RX8, "mostBy", "(III)I"⟩
abbrev cX8_menuOf : ByteArray := prog_10_method_92_code
def yX8_menuOf : MethodName := ⟨RX8, "menuOf", "(I)I"⟩
abbrev cX8_menu : ByteArray := prog_10_method_93_code
def yX8_menu : MethodName := ⟨RX8, "menu", "(I)I"⟩
abbrev cX8_course : ByteArray := prog_10_method_94_code
def yX8_course : MethodName := ⟨RX8, "course", "(I)I"⟩
abbrev cX8_dishes : ByteArray := prog_10_method_95_code
def yX8_dishes : MethodName := ⟨RX8, "dishes", "(I)I"⟩
abbrev cX8_areClaims : ByteArray := prog_10_method_96_code
def yX8_areClaims : MethodName := ⟨RX8, "areClaims", "(I)Z"⟩
abbrev cX8_takes_ : ByteArray := prog_10_method_97_code
def yX8_takes_ : MethodName := ⟨RX8, "takes", "(II)I"⟩
abbrev cX8_canProve : ByteArray := prog_10_method_98_code
def yX8_canProve : MethodName := ⟨RX8, "canProve", "(II)Z"⟩
abbrev cX8_whoOf : ByteArray := prog_10_method_99_code
def yX8_whoOf : MethodName := ⟨RX8, "whoOf", "(I)I"⟩
abbrev cX8_who : ByteArray := prog_10_method_100_code
def yX8_who : MethodName := ⟨RX8, "who", "(I)I"⟩
abbrev cX8_areGuests : ByteArray := prog_10_method_101_code
def yX8_areGuests : MethodName := ⟨RX8, "areGuests", "(I)Z"⟩
abbrev cX8_host : ByteArray := prog_10_method_102_code
def yX8_host : MethodName := ⟨RX8, "host", "(I)I"⟩
abbrev cX8_lemmaOf : ByteArray := prog_10_method_103_code
def yX8_lemmaOf : MethodName := ⟨RX8, "lemmaOf", "(I)I"⟩
abbrev cX8_lemma : ByteArray := prog_10_method_104_code
def yX8_lemma : MethodName := ⟨RX8, "lemma", "(I)I"⟩
abbrev cX8_brings : ByteArray := prog_10_method_105_code
def yX8_brings : MethodName := ⟨RX8, "brings", "(I)I"⟩
abbrev cX8_strengthOf : ByteArray := prog_10_method_106_code
def yX8_strengthOf : MethodName := ⟨RX8, "strengthOf", "(I)I"⟩
abbrev cX8_canTogether : ByteArray := prog_10_method_107_code
def yX8_canTogether : MethodName := ⟨RX8, "canTogether", "(II)Z"⟩
abbrev cX8_strength : ByteArray := prog_10_method_108_code
def yX8_strength : MethodName := ⟨RX8, "strength", "(I)I"⟩
abbrev cX8_together : ByteArray := prog_10_method_109_code
def yX8_together : MethodName := ⟨RX8, "together", "(II)I"⟩
abbrev cX8_teamOf : ByteArray := prog_10_method_110_code
def yX8_teamOf : MethodName := ⟨RX8, "teamOf", "(I)I"⟩
abbrev cX8_fewest : ByteArray := prog_10_method_111_code
def yX8_fewest : MethodName := ⟨RX8, "fewest", "(I)I"⟩
abbrev cX8_team : ByteArray := prog_10_method_112_code
def yX8_team : MethodName := ⟨RX8, "team", "(I)I"⟩
abbrev cX8_fillDoubt : ByteArray := prog_10_method_113_code
def yX8_fillDoubt : MethodName := ⟨RX8, "fillDoubt", "(II)V"⟩
abbrev cX8_claims : ByteArray := prog_10_method_114_code
def yX8_claims : MethodName := ⟨RX8, "claims", "(II)I"⟩
abbrev cX8_outcome : ByteArray := prog_10_method_115_code
def yX8_outcome : MethodName := ⟨RX8, "outcome", "(II)I"⟩
abbrev cX8_asksKitchen : ByteArray := prog_10_method_116_code
def yX8_asksKitchen : MethodName := ⟨RX8, "asksKitchen", "(IZ)I"⟩
abbrev cX8_cooks : ByteArray := prog_10_method_117_code
def yX8_cooks : MethodName := ⟨RX8, "cooks", "(II)Z"⟩
abbrev cX8_goKitchen : ByteArray := prog_10_method_118_code
def yX8_goKitchen : MethodName := ⟨RX8, "goKitchen", "(I)V"⟩
abbrev cX8_kitchen : ByteArray := prog_10_method_119_code
def yX8_kitchen : MethodName := ⟨RX8, "kitchen", "(II)I"⟩
abbrev cX8_when : ByteArray := prog_10_method_120_code
def yX8_when : MethodName := ⟨RX8, "when", "(II)I"⟩
abbrev cX8_shares : ByteArray := prog_10_method_121_code
def yX8_shares : MethodName := ⟨RX8, "shares", "(II)I"⟩
abbrev cX8_busy : ByteArray := prog_10_method_122_code
def yX8_busy : MethodName := ⟨RX8, "busy", "(III)I"⟩
abbrev cX8_mine : ByteArray := prog_10_method_123_code
def yX8_mine : MethodName := ⟨RX8, "mine", "(I)I"⟩
abbrev cX8_fillDuel : ByteArray := prog_10_method_124_code
def yX8_fillDuel : MethodName := ⟨RX8, "fillDuel", "()V"⟩
abbrev cX8_duel : ByteArray := prog_10_method_125_code
def yX8_duel : MethodName := ⟨RX8, "duel", "()I"⟩
abbrev cX8_move : ByteArray := prog_10_method_126_code
def yX8_move : MethodName := ⟨RX8, "move", "()I"⟩
abbrev cX8_lasts : ByteArray := prog_10_method_127_code
def yX8_lasts : MethodName := ⟨RX8, "lasts", "()I"⟩
abbrev cX8_idle : ByteArray := prog_10_method_128_code
def yX8_idle : MethodName := ⟨RX8, "idle", "()I"⟩
abbrev cX8_coreOf : ByteArray := prog_10_method_129_code
def yX8_coreOf : MethodName := ⟨RX8, "coreOf", "()I"⟩
abbrev cX8_core : ByteArray := prog_10_method_130_code
def yX8_core : MethodName := ⟨RX8, "core", "()I"⟩
abbrev cX8_cored : ByteArray := prog_10_method_131_code
def yX8_cored : MethodName := ⟨RX8, "cored", "()I"⟩
abbrev cX8_divisor : ByteArray := prog_10_method_132_code
def yX8_divisor : MethodName := ⟨RX8, "divisor", "(II)I"⟩
abbrev cX8_part : ByteArray := prog_10_method_133_code
def yX8_part : MethodName := ⟨RX8, "part", "(III)I"⟩
abbrev cX8_likely : ByteArray := prog_10_method_134_code
def yX8_likely : MethodName := ⟨RX8, "likely", "(II)I"⟩
abbrev cX8_worstOf : ByteArray := prog_10_method_135_code
def yX8_worstOf : MethodName := ⟨RX8, "worstOf", "(I)I"⟩
abbrev cX8_askOf : ByteArray := prog_10_method_136_code
def yX8_askOf : MethodName := ⟨RX8, "askOf", "()I"⟩
abbrev cX8_ask : ByteArray := prog_10_method_137_code
def yX8_ask : MethodName := ⟨RX8, "ask", "()I"⟩
abbrev cX8_leaves : ByteArray := prog_10_method_138_code
def yX8_leaves : MethodName := ⟨RX8, "leaves", "()I"⟩
abbrev cX8_unlike : ByteArray := prog_10_method_139_code
def yX8_unlike : MethodName := ⟨RX8, "unlike", "()I"⟩
abbrev cX8_falls : ByteArray := prog_10_method_140_code
def yX8_falls : MethodName := ⟨RX8, "falls", "(I)I"⟩
abbrev cX8_spareOf : ByteArray := prog_10_method_141_code
def yX8_spareOf : MethodName := ⟨RX8, "spareOf", "(I)I"⟩
abbrev cX8_spare : ByteArray := prog_10_method_142_code
def yX8_spare : MethodName := ⟨RX8, "spare", "(I)I"⟩
abbrev cX8_spared : ByteArray := prog_10_method_143_code
def yX8_spared : MethodName := ⟨RX8, "spared", "(I)I"⟩
abbrev cX8_salt : ByteArray := prog_10_method_144_code
def yX8_salt : MethodName := ⟨RX8, "salt", "(II)I"⟩
abbrev cX8_asksEaten : ByteArray := prog_10_method_145_code
def yX8_asksEaten : MethodName := ⟨RX8, "asksEaten", "(IZ)I"⟩
abbrev cX8_eatenBy : ByteArray := prog_10_method_146_code
def yX8_eatenBy : MethodName := ⟨RX8, "eatenBy", "(I)I"⟩
abbrev cX8_ate : ByteArray := prog_10_method_147_code
def yX8_ate : MethodName := ⟨RX8, "ate", "(I)I"⟩
abbrev cX8_borrowed : ByteArray := prog_10_method_148_code
def yX8_borrowed : MethodName := ⟨RX8, "borrowed", "(II)I"⟩
abbrev cX8_lent : ByteArray := prog_10_method_149_code
def yX8_lent : MethodName := ⟨RX8, "lent", "(II)I"⟩
abbrev cX8_adds : ByteArray := prog_10_method_150_code
def yX8_adds : MethodName := ⟨RX8, "adds", "(II)I"⟩
abbrev cX8_drops : ByteArray := prog_10_method_151_code
def yX8_drops : MethodName := ⟨RX8, "drops", "()I"⟩
abbrev cX8_teach : ByteArray := prog_10_method_152_code
def yX8_teach : MethodName := ⟨RX8, "teach", "(III)I"⟩
abbrev cX8_holesBy : ByteArray := prog_10_method_153_code
def yX8_holesBy : MethodName := ⟨RX8, "holesBy", "(J)I"⟩
abbrev cX8_isSeed : ByteArray := prog_10_method_154_code
def yX8_isSeed : MethodName := ⟨RX8, "isSeed", "(I)Z"⟩
abbrev cX8_drawn : ByteArray := prog_10_method_155_code
def yX8_drawn : MethodName := ⟨RX8, "drawn", "(I)I"⟩
abbrev cX8_feastOf : ByteArray := prog_10_method_156_code
def yX8_feastOf : MethodName := ⟨RX8, "feastOf", "(JI)I"⟩
abbrev cX8_feast : ByteArray := prog_10_method_157_code
def yX8_feast : MethodName := ⟨RX8, "feast", "(II)I"⟩
abbrev cX8_mean : ByteArray := prog_10_method_158_code
def yX8_mean : MethodName := ⟨RX8, "mean", "(IIII)I"⟩
abbrev cX8_count : ByteArray := prog_10_method_159_code
def yX8_count : MethodName := ⟨RX8, "count", "(I)I"⟩
abbrev cX8_isSlot : ByteArray := prog_10_method_160_code
def yX8_isSlot : MethodName := ⟨RX8, "isSlot", "(I)Z"⟩
abbrev cX8_cut : ByteArray := prog_10_method_161_code
def yX8_cut : MethodName := ⟨RX8, "cut", "(JI)J"⟩
abbrev cX8_row : ByteArray := prog_10_method_162_code
def yX8_row : MethodName := ⟨RX8, "row", "(III)I"⟩
abbrev cX8_write : ByteArray := prog_10_method_163_code
def yX8_write : MethodName := ⟨RX8, "write", "(IIJ)I"⟩
abbrev cX8_paste : ByteArray := prog_10_method_164_code
def yX8_paste : MethodName := ⟨RX8, "paste", "(IIIII)I"⟩
def RJ6 : String := "java/lang/Integer"
def TJ6 : u_T := fun k => match k with
  | _ => ("", "", "", false)
def tyJ6 : Nat → FieldType := fun k => match k with
  | _ => .int
theorem nmJ6 : ∀ a, a < 0 → ∀ b, b < 0 → a ≠ b → (TJ6 a).2.1 ≠ (TJ6 b).2.1 := by decide +kernel
theorem tyJ6_ok : ∀ k, k < 0 → parseFieldDescriptor (TJ6 k).2.2.1 = some (tyJ6 k) := by decide +kernel
abbrev cJ6_bitCount_0f7a4 : ByteArray := prog_11_method_49_code
def yJ6_bitCount_0f7a4 : MethodName := ⟨RJ6, "bitCount", "(I)I"⟩
def RJ9 : String := "java/lang/Math"
def TJ9 : u_T := fun k => match k with
  | _ => ("", "", "", false)
def tyJ9 : Nat → FieldType := fun k => match k with
  | _ => .int
theorem nmJ9 : ∀ a, a < 0 → ∀ b, b < 0 → a ≠ b → (TJ9 a).2.1 ≠ (TJ9 b).2.1 := by decide +kernel
theorem tyJ9_ok : ∀ k, k < 0 → parseFieldDescriptor (TJ9 k).2.2.1 = some (tyJ9 k) := by decide +kernel
abbrev cJ9_max_7cf53 : ByteArray := prog_12_method_65_code
def yJ9_max_7cf53 : MethodName := ⟨RJ9, "max", "(II)I"⟩
abbrev cJ9_min_7cf53 : ByteArray := prog_12_method_69_code
def yJ9_min_7cf53 : MethodName := ⟨RJ9, "min", "(II)I"⟩
def RJ0 : String := "java/lang/String"
def TJ0 : u_T := fun k => match k with
  | _ => ("", "", "", false)
def tyJ0 : Nat → FieldType := fun k => match k with
  | _ => .int
theorem nmJ0 : ∀ a, a < 0 → ∀ b, b < 0 → a ≠ b → (TJ0 a).2.1 ≠ (TJ0 b).2.1 := by decide +kernel
theorem tyJ0_ok : ∀ k, k < 0 → parseFieldDescriptor (TJ0 k).2.2.1 = some (tyJ0 k) := by decide +kernel
abbrev cJ0_length_8abf5 : ByteArray := prog_13_method_54_code
def yJ0_length_8abf5 : MethodName := ⟨RJ0, "length", "()I"⟩
abbrev cJ0_charAt_5068e : ByteArray := prog_13_method_56_code
def yJ0_charAt_5068e : MethodName := ⟨RJ0, "charAt", "(I)C"⟩
abbrev cJ0_coder_7d493 : ByteArray := prog_13_method_152_code
def yJ0_coder_7d493 : MethodName := ⟨RJ0, "coder", "()B"⟩
abbrev cJ0_isLatin1_aae02 : ByteArray := prog_13_method_154_code
def yJ0_isLatin1_aae02 : MethodName := ⟨RJ0, "isLatin1", "()Z"⟩
abbrev cJ0_checkIndex_df160 : ByteArray := prog_13_method_155_code
def yJ0_checkIndex_df160 : MethodName := ⟨RJ0, "checkIndex", "(II)V"⟩
def RJ1 : String := "java/lang/StringLatin1"
def TJ1 : u_T := fun k => match k with
  | _ => ("", "", "", false)
def tyJ1 : Nat → FieldType := fun k => match k with
  | _ => .int
theorem nmJ1 : ∀ a, a < 0 → ∀ b, b < 0 → a ≠ b → (TJ1 a).2.1 ≠ (TJ1 b).2.1 := by decide +kernel
theorem tyJ1_ok : ∀ k, k < 0 → parseFieldDescriptor (TJ1 k).2.2.1 = some (tyJ1 k) := by decide +kernel
abbrev cJ1_charAt_3b067 : ByteArray := prog_14_method_2_code
def yJ1_charAt_3b067 : MethodName := ⟨RJ1, "charAt", "([BI)C"⟩
def RJ2 : String := "java/lang/StringUTF16"
def TJ2 : u_T := fun k => match k with
  | _ => ("", "", "", false)
def tyJ2 : Nat → FieldType := fun k => match k with
  | _ => .int
theorem nmJ2 : ∀ a, a < 0 → ∀ b, b < 0 → a ≠ b → (TJ2 a).2.1 ≠ (TJ2 b).2.1 := by decide +kernel
theorem tyJ2_ok : ∀ k, k < 0 → parseFieldDescriptor (TJ2 k).2.2.1 = some (tyJ2 k) := by decide +kernel
abbrev cJ2_getChar_3b067 : ByteArray := prog_15_method_5_code
def yJ2_getChar_3b067 : MethodName := ⟨RJ2, "getChar", "([BI)C"⟩
abbrev cJ2_length_9d52b : ByteArray := prog_15_method_6_code
def yJ2_length_9d52b : MethodName := ⟨RJ2, "length", "([B)I"⟩
abbrev cJ2_charAt_3b067 : ByteArray := prog_15_method_83_code
def yJ2_charAt_3b067 : MethodName := ⟨RJ2, "charAt", "([BI)C"⟩
abbrev cJ2_checkIndex_2214a : ByteArray := prog_15_method_91_code
def yJ2_checkIndex_2214a : MethodName := ⟨RJ2, "checkIndex", "(I[B)V"⟩
def RJ10 : String := "java/lang/System"
def TJ10 : u_T := fun k => match k with
  | _ => ("", "", "", false)
def tyJ10 : Nat → FieldType := fun k => match k with
  | _ => .int
theorem nmJ10 : ∀ a, a < 0 → ∀ b, b < 0 → a ≠ b → (TJ10 a).2.1 ≠ (TJ10 b).2.1 := by decide +kernel
theorem tyJ10_ok : ∀ k, k < 0 → parseFieldDescriptor (TJ10 k).2.2.1 = some (tyJ10 k) := by decide +kernel
def RJ3 : String := "jdk/internal/util/Preconditions"
def TJ3 : u_T := fun k => match k with
  | _ => ("", "", "", false)
def tyJ3 : Nat → FieldType := fun k => match k with
  | _ => .int
theorem nmJ3 : ∀ a, a < 0 → ∀ b, b < 0 → a ≠ b → (TJ3 a).2.1 ≠ (TJ3 b).2.1 := by decide +kernel
theorem tyJ3_ok : ∀ k, k < 0 → parseFieldDescriptor (TJ3 k).2.2.1 = some (tyJ3 k) := by decide +kernel
abbrev cJ3_checkIndex_8e157 : ByteArray := prog_17_method_11_code
def yJ3_checkIndex_8e157 : MethodName := ⟨RJ3, "checkIndex", "(IILjava/util/function/BiFunction;)I"⟩
def RL : String := "ProvedTableLaw"
abbrev cL_law : ByteArray := code
def yL_law : MethodName := ⟨RL, "law", "([I)Z"⟩

/-- the words of the tables that hold at every call -/
def TBL : List Cond := lw_tbl.filter goodWord
theorem tbl_lw : ∀ w ∈ TBL, w ∈ lw_tbl := fun _ h => (List.mem_filter.mp h).1
theorem tbl_good : ∀ w ∈ TBL, (w.onTables && w.keeps) = true ∨ ∃ ty, w = .arrayClass ty := fun _ h => good_of_word (List.mem_filter.mp h).2
theorem tm {w : Cond} (i : Nat) (h : lw_tbl[i]? = some w) (g : goodWord w = true) : w ∈ TBL := List.mem_filter.mpr ⟨List.mem_of_getElem? h, g⟩
end
section
theorem dJ6_bitCount_0f7a4_0 : decode cJ6_bitCount_0f7a4 0 = .ok (.iload_n 0, 1) := by decide +kernel
theorem dJ6_bitCount_0f7a4_1 : decode cJ6_bitCount_0f7a4 1 = .ok (.iload_n 0, 1) := by decide +kernel
theorem dJ6_bitCount_0f7a4_2 : decode cJ6_bitCount_0f7a4 2 = .ok (.iconst 1, 1) := by decide +kernel
theorem dJ6_bitCount_0f7a4_3 : decode cJ6_bitCount_0f7a4 3 = .ok (.iushr, 1) := by decide +kernel
theorem dJ6_bitCount_0f7a4_4 : decode cJ6_bitCount_0f7a4 4 = .ok (.ldc_w 265, 3) := by decide +kernel
theorem dJ6_bitCount_0f7a4_7 : decode cJ6_bitCount_0f7a4 7 = .ok (.iand, 1) := by decide +kernel
theorem dJ6_bitCount_0f7a4_8 : decode cJ6_bitCount_0f7a4 8 = .ok (.isub, 1) := by decide +kernel
theorem dJ6_bitCount_0f7a4_9 : decode cJ6_bitCount_0f7a4 9 = .ok (.istore_n 0, 1) := by decide +kernel
theorem dJ6_bitCount_0f7a4_10 : decode cJ6_bitCount_0f7a4 10 = .ok (.iload_n 0, 1) := by decide +kernel
theorem dJ6_bitCount_0f7a4_11 : decode cJ6_bitCount_0f7a4 11 = .ok (.ldc_w 266, 3) := by decide +kernel
theorem dJ6_bitCount_0f7a4_14 : decode cJ6_bitCount_0f7a4 14 = .ok (.iand, 1) := by decide +kernel
theorem dJ6_bitCount_0f7a4_15 : decode cJ6_bitCount_0f7a4 15 = .ok (.iload_n 0, 1) := by decide +kernel
theorem dJ6_bitCount_0f7a4_16 : decode cJ6_bitCount_0f7a4 16 = .ok (.iconst 2, 1) := by decide +kernel
theorem dJ6_bitCount_0f7a4_17 : decode cJ6_bitCount_0f7a4 17 = .ok (.iushr, 1) := by decide +kernel
theorem dJ6_bitCount_0f7a4_18 : decode cJ6_bitCount_0f7a4 18 = .ok (.ldc_w 266, 3) := by decide +kernel
theorem dJ6_bitCount_0f7a4_21 : decode cJ6_bitCount_0f7a4 21 = .ok (.iand, 1) := by decide +kernel
theorem dJ6_bitCount_0f7a4_22 : decode cJ6_bitCount_0f7a4 22 = .ok (.iadd, 1) := by decide +kernel
theorem dJ6_bitCount_0f7a4_23 : decode cJ6_bitCount_0f7a4 23 = .ok (.istore_n 0, 1) := by decide +kernel
theorem dJ6_bitCount_0f7a4_24 : decode cJ6_bitCount_0f7a4 24 = .ok (.iload_n 0, 1) := by decide +kernel
theorem dJ6_bitCount_0f7a4_25 : decode cJ6_bitCount_0f7a4 25 = .ok (.iload_n 0, 1) := by decide +kernel
theorem dJ6_bitCount_0f7a4_26 : decode cJ6_bitCount_0f7a4 26 = .ok (.iconst 4, 1) := by decide +kernel
theorem dJ6_bitCount_0f7a4_27 : decode cJ6_bitCount_0f7a4 27 = .ok (.iushr, 1) := by decide +kernel
theorem dJ6_bitCount_0f7a4_28 : decode cJ6_bitCount_0f7a4 28 = .ok (.iadd, 1) := by decide +kernel
theorem dJ6_bitCount_0f7a4_29 : decode cJ6_bitCount_0f7a4 29 = .ok (.ldc_w 267, 3) := by decide +kernel
theorem dJ6_bitCount_0f7a4_32 : decode cJ6_bitCount_0f7a4 32 = .ok (.iand, 1) := by decide +kernel
theorem dJ6_bitCount_0f7a4_33 : decode cJ6_bitCount_0f7a4 33 = .ok (.istore_n 0, 1) := by decide +kernel
theorem dJ6_bitCount_0f7a4_34 : decode cJ6_bitCount_0f7a4 34 = .ok (.iload_n 0, 1) := by decide +kernel
theorem dJ6_bitCount_0f7a4_35 : decode cJ6_bitCount_0f7a4 35 = .ok (.iload_n 0, 1) := by decide +kernel
theorem dJ6_bitCount_0f7a4_36 : decode cJ6_bitCount_0f7a4 36 = .ok (.bipush 8, 2) := by decide +kernel
theorem dJ6_bitCount_0f7a4_38 : decode cJ6_bitCount_0f7a4 38 = .ok (.iushr, 1) := by decide +kernel
theorem dJ6_bitCount_0f7a4_39 : decode cJ6_bitCount_0f7a4 39 = .ok (.iadd, 1) := by decide +kernel
theorem dJ6_bitCount_0f7a4_40 : decode cJ6_bitCount_0f7a4 40 = .ok (.istore_n 0, 1) := by decide +kernel
theorem dJ6_bitCount_0f7a4_41 : decode cJ6_bitCount_0f7a4 41 = .ok (.iload_n 0, 1) := by decide +kernel
theorem dJ6_bitCount_0f7a4_42 : decode cJ6_bitCount_0f7a4 42 = .ok (.iload_n 0, 1) := by decide +kernel
theorem dJ6_bitCount_0f7a4_43 : decode cJ6_bitCount_0f7a4 43 = .ok (.bipush 16, 2) := by decide +kernel
theorem dJ6_bitCount_0f7a4_45 : decode cJ6_bitCount_0f7a4 45 = .ok (.iushr, 1) := by decide +kernel
theorem dJ6_bitCount_0f7a4_46 : decode cJ6_bitCount_0f7a4 46 = .ok (.iadd, 1) := by decide +kernel
theorem dJ6_bitCount_0f7a4_47 : decode cJ6_bitCount_0f7a4 47 = .ok (.istore_n 0, 1) := by decide +kernel
theorem dJ6_bitCount_0f7a4_48 : decode cJ6_bitCount_0f7a4 48 = .ok (.iload_n 0, 1) := by decide +kernel
theorem dJ6_bitCount_0f7a4_49 : decode cJ6_bitCount_0f7a4 49 = .ok (.bipush 63, 2) := by decide +kernel
theorem dJ6_bitCount_0f7a4_51 : decode cJ6_bitCount_0f7a4 51 = .ok (.iand, 1) := by decide +kernel
theorem dJ6_bitCount_0f7a4_52 : decode cJ6_bitCount_0f7a4 52 = .ok (.ireturn, 1) := by decide +kernel
theorem dJ9_max_7cf53_0 : decode cJ9_max_7cf53 0 = .ok (.iload_n 0, 1) := by decide +kernel
theorem dJ9_max_7cf53_1 : decode cJ9_max_7cf53 1 = .ok (.iload_n 1, 1) := by decide +kernel
theorem dJ9_max_7cf53_2 : decode cJ9_max_7cf53 2 = .ok (.if_icmp .lt 7, 3) := by decide +kernel
theorem dJ9_max_7cf53_5 : decode cJ9_max_7cf53 5 = .ok (.iload_n 0, 1) := by decide +kernel
theorem dJ9_max_7cf53_6 : decode cJ9_max_7cf53 6 = .ok (.goto 4, 3) := by decide +kernel
theorem dJ9_max_7cf53_9 : decode cJ9_max_7cf53 9 = .ok (.iload_n 1, 1) := by decide +kernel
theorem dJ9_max_7cf53_10 : decode cJ9_max_7cf53 10 = .ok (.ireturn, 1) := by decide +kernel
theorem dJ9_min_7cf53_0 : decode cJ9_min_7cf53 0 = .ok (.iload_n 0, 1) := by decide +kernel
theorem dJ9_min_7cf53_1 : decode cJ9_min_7cf53 1 = .ok (.iload_n 1, 1) := by decide +kernel
theorem dJ9_min_7cf53_2 : decode cJ9_min_7cf53 2 = .ok (.if_icmp .gt 7, 3) := by decide +kernel
theorem dJ9_min_7cf53_5 : decode cJ9_min_7cf53 5 = .ok (.iload_n 0, 1) := by decide +kernel
theorem dJ9_min_7cf53_6 : decode cJ9_min_7cf53 6 = .ok (.goto 4, 3) := by decide +kernel
theorem dJ9_min_7cf53_9 : decode cJ9_min_7cf53 9 = .ok (.iload_n 1, 1) := by decide +kernel
theorem dJ9_min_7cf53_10 : decode cJ9_min_7cf53 10 = .ok (.ireturn, 1) := by decide +kernel
theorem dJ0_length_8abf5_0 : decode cJ0_length_8abf5 0 = .ok (.aload_n 0, 1) := by decide +kernel
theorem dJ0_length_8abf5_1 : decode cJ0_length_8abf5 1 = .ok (.getfield 9, 3) := by decide +kernel
theorem dJ0_length_8abf5_4 : decode cJ0_length_8abf5 4 = .ok (.arraylength, 1) := by decide +kernel
theorem dJ0_length_8abf5_5 : decode cJ0_length_8abf5 5 = .ok (.aload_n 0, 1) := by decide +kernel
theorem dJ0_length_8abf5_6 : decode cJ0_length_8abf5 6 = .ok (.invokevirtual 335, 3) := by decide +kernel
theorem dJ0_length_8abf5_9 : decode cJ0_length_8abf5 9 = .ok (.ishr, 1) := by decide +kernel
theorem dJ0_length_8abf5_10 : decode cJ0_length_8abf5 10 = .ok (.ireturn, 1) := by decide +kernel
theorem dJ0_charAt_5068e_0 : decode cJ0_charAt_5068e 0 = .ok (.aload_n 0, 1) := by decide +kernel
theorem dJ0_charAt_5068e_1 : decode cJ0_charAt_5068e 1 = .ok (.invokevirtual 492, 3) := by decide +kernel
theorem dJ0_charAt_5068e_4 : decode cJ0_charAt_5068e 4 = .ok (.ifCond .eq 12, 3) := by decide +kernel
theorem dJ0_charAt_5068e_7 : decode cJ0_charAt_5068e 7 = .ok (.aload_n 0, 1) := by decide +kernel
theorem dJ0_charAt_5068e_8 : decode cJ0_charAt_5068e 8 = .ok (.getfield 9, 3) := by decide +kernel
theorem dJ0_charAt_5068e_11 : decode cJ0_charAt_5068e 11 = .ok (.iload_n 1, 1) := by decide +kernel
theorem dJ0_charAt_5068e_12 : decode cJ0_charAt_5068e 12 = .ok (.invokestatic 495, 3) := by decide +kernel
theorem dJ0_charAt_5068e_15 : decode cJ0_charAt_5068e 15 = .ok (.ireturn, 1) := by decide +kernel
theorem dJ0_charAt_5068e_16 : decode cJ0_charAt_5068e 16 = .ok (.aload_n 0, 1) := by decide +kernel
theorem dJ0_charAt_5068e_17 : decode cJ0_charAt_5068e 17 = .ok (.getfield 9, 3) := by decide +kernel
theorem dJ0_charAt_5068e_20 : decode cJ0_charAt_5068e 20 = .ok (.iload_n 1, 1) := by decide +kernel
theorem dJ0_charAt_5068e_21 : decode cJ0_charAt_5068e 21 = .ok (.invokestatic 498, 3) := by decide +kernel
theorem dJ0_charAt_5068e_24 : decode cJ0_charAt_5068e 24 = .ok (.ireturn, 1) := by decide +kernel
theorem dJ0_coder_7d493_0 : decode cJ0_coder_7d493 0 = .ok (.getstatic 38, 3) := by decide +kernel
theorem dJ0_coder_7d493_3 : decode cJ0_coder_7d493 3 = .ok (.ifCond .eq 10, 3) := by decide +kernel
theorem dJ0_coder_7d493_6 : decode cJ0_coder_7d493 6 = .ok (.aload_n 0, 1) := by decide +kernel
theorem dJ0_coder_7d493_7 : decode cJ0_coder_7d493 7 = .ok (.getfield 15, 3) := by decide +kernel
theorem dJ0_coder_7d493_10 : decode cJ0_coder_7d493 10 = .ok (.goto 4, 3) := by decide +kernel
theorem dJ0_coder_7d493_13 : decode cJ0_coder_7d493 13 = .ok (.iconst 1, 1) := by decide +kernel
theorem dJ0_coder_7d493_14 : decode cJ0_coder_7d493 14 = .ok (.ireturn, 1) := by decide +kernel
theorem dJ0_isLatin1_aae02_0 : decode cJ0_isLatin1_aae02 0 = .ok (.getstatic 38, 3) := by decide +kernel
theorem dJ0_isLatin1_aae02_3 : decode cJ0_isLatin1_aae02 3 = .ok (.ifCond .eq 14, 3) := by decide +kernel
theorem dJ0_isLatin1_aae02_6 : decode cJ0_isLatin1_aae02 6 = .ok (.aload_n 0, 1) := by decide +kernel
theorem dJ0_isLatin1_aae02_7 : decode cJ0_isLatin1_aae02 7 = .ok (.getfield 15, 3) := by decide +kernel
theorem dJ0_isLatin1_aae02_10 : decode cJ0_isLatin1_aae02 10 = .ok (.ifCond .ne 7, 3) := by decide +kernel
theorem dJ0_isLatin1_aae02_13 : decode cJ0_isLatin1_aae02 13 = .ok (.iconst 1, 1) := by decide +kernel
theorem dJ0_isLatin1_aae02_14 : decode cJ0_isLatin1_aae02 14 = .ok (.goto 4, 3) := by decide +kernel
theorem dJ0_isLatin1_aae02_17 : decode cJ0_isLatin1_aae02 17 = .ok (.iconst 0, 1) := by decide +kernel
theorem dJ0_isLatin1_aae02_18 : decode cJ0_isLatin1_aae02 18 = .ok (.ireturn, 1) := by decide +kernel
theorem dJ0_checkIndex_df160_0 : decode cJ0_checkIndex_df160 0 = .ok (.iload_n 0, 1) := by decide +kernel
theorem dJ0_checkIndex_df160_1 : decode cJ0_checkIndex_df160 1 = .ok (.iload_n 1, 1) := by decide +kernel
theorem dJ0_checkIndex_df160_2 : decode cJ0_checkIndex_df160 2 = .ok (.getstatic 1053, 3) := by decide +kernel
theorem dJ0_checkIndex_df160_5 : decode cJ0_checkIndex_df160 5 = .ok (.invokestatic 1059, 3) := by decide +kernel
theorem dJ0_checkIndex_df160_8 : decode cJ0_checkIndex_df160 8 = .ok (.pop, 1) := by decide +kernel
theorem dJ0_checkIndex_df160_9 : decode cJ0_checkIndex_df160 9 = .ok (.return_, 1) := by decide +kernel
theorem dJ1_charAt_3b067_0 : decode cJ1_charAt_3b067 0 = .ok (.iload_n 1, 1) := by decide +kernel
theorem dJ1_charAt_3b067_1 : decode cJ1_charAt_3b067 1 = .ok (.aload_n 0, 1) := by decide +kernel
theorem dJ1_charAt_3b067_2 : decode cJ1_charAt_3b067 2 = .ok (.arraylength, 1) := by decide +kernel
theorem dJ1_charAt_3b067_3 : decode cJ1_charAt_3b067 3 = .ok (.invokestatic 9, 3) := by decide +kernel
theorem dJ1_charAt_3b067_6 : decode cJ1_charAt_3b067 6 = .ok (.aload_n 0, 1) := by decide +kernel
theorem dJ1_charAt_3b067_7 : decode cJ1_charAt_3b067 7 = .ok (.iload_n 1, 1) := by decide +kernel
theorem dJ1_charAt_3b067_8 : decode cJ1_charAt_3b067 8 = .ok (.baload, 1) := by decide +kernel
theorem dJ1_charAt_3b067_9 : decode cJ1_charAt_3b067 9 = .ok (.sipush 255, 3) := by decide +kernel
theorem dJ1_charAt_3b067_12 : decode cJ1_charAt_3b067 12 = .ok (.iand, 1) := by decide +kernel
theorem dJ1_charAt_3b067_13 : decode cJ1_charAt_3b067 13 = .ok (.i2c, 1) := by decide +kernel
theorem dJ1_charAt_3b067_14 : decode cJ1_charAt_3b067 14 = .ok (.ireturn, 1) := by decide +kernel
theorem dJ2_getChar_3b067_0 : decode cJ2_getChar_3b067 0 = .ok (.getstatic 44, 3) := by decide +kernel
theorem dJ2_getChar_3b067_3 : decode cJ2_getChar_3b067 3 = .ok (.ifCond .ne 25, 3) := by decide +kernel
theorem dJ2_getChar_3b067_6 : decode cJ2_getChar_3b067 6 = .ok (.iload_n 1, 1) := by decide +kernel
theorem dJ2_getChar_3b067_7 : decode cJ2_getChar_3b067 7 = .ok (.ifCond .lt 11, 3) := by decide +kernel
theorem dJ2_getChar_3b067_10 : decode cJ2_getChar_3b067 10 = .ok (.iload_n 1, 1) := by decide +kernel
theorem dJ2_getChar_3b067_11 : decode cJ2_getChar_3b067 11 = .ok (.aload_n 0, 1) := by decide +kernel
theorem dJ2_getChar_3b067_12 : decode cJ2_getChar_3b067 12 = .ok (.invokestatic 48, 3) := by decide +kernel
theorem dJ2_getChar_3b067_15 : decode cJ2_getChar_3b067 15 = .ok (.if_icmp .lt 13, 3) := by decide +kernel
theorem dJ2_getChar_3b067_18 : decode cJ2_getChar_3b067 18 = .ok (.new 52, 3) := by decide +kernel
theorem dJ2_getChar_3b067_21 : decode cJ2_getChar_3b067 21 = .ok (.dup, 1) := by decide +kernel
theorem dJ2_getChar_3b067_22 : decode cJ2_getChar_3b067 22 = .ok (.ldc 54, 2) := by decide +kernel
theorem dJ2_getChar_3b067_24 : decode cJ2_getChar_3b067 24 = .ok (.invokespecial 56, 3) := by decide +kernel
theorem dJ2_getChar_3b067_27 : decode cJ2_getChar_3b067 27 = .ok (.athrow, 1) := by decide +kernel
theorem dJ2_getChar_3b067_28 : decode cJ2_getChar_3b067 28 = .ok (.iload_n 1, 1) := by decide +kernel
theorem dJ2_getChar_3b067_29 : decode cJ2_getChar_3b067 29 = .ok (.iconst 1, 1) := by decide +kernel
theorem dJ2_getChar_3b067_30 : decode cJ2_getChar_3b067 30 = .ok (.ishl, 1) := by decide +kernel
theorem dJ2_getChar_3b067_31 : decode cJ2_getChar_3b067 31 = .ok (.istore_n 1, 1) := by decide +kernel
theorem dJ2_getChar_3b067_32 : decode cJ2_getChar_3b067 32 = .ok (.aload_n 0, 1) := by decide +kernel
theorem dJ2_getChar_3b067_33 : decode cJ2_getChar_3b067 33 = .ok (.iload_n 1, 1) := by decide +kernel
theorem dJ2_getChar_3b067_34 : decode cJ2_getChar_3b067 34 = .ok (.iinc 1 1, 3) := by decide +kernel
theorem dJ2_getChar_3b067_37 : decode cJ2_getChar_3b067 37 = .ok (.baload, 1) := by decide +kernel
theorem dJ2_getChar_3b067_38 : decode cJ2_getChar_3b067 38 = .ok (.sipush 255, 3) := by decide +kernel
theorem dJ2_getChar_3b067_41 : decode cJ2_getChar_3b067 41 = .ok (.iand, 1) := by decide +kernel
theorem dJ2_getChar_3b067_42 : decode cJ2_getChar_3b067 42 = .ok (.getstatic 59, 3) := by decide +kernel
theorem dJ2_getChar_3b067_45 : decode cJ2_getChar_3b067 45 = .ok (.ishl, 1) := by decide +kernel
theorem dJ2_getChar_3b067_46 : decode cJ2_getChar_3b067 46 = .ok (.aload_n 0, 1) := by decide +kernel
theorem dJ2_getChar_3b067_47 : decode cJ2_getChar_3b067 47 = .ok (.iload_n 1, 1) := by decide +kernel
theorem dJ2_getChar_3b067_48 : decode cJ2_getChar_3b067 48 = .ok (.baload, 1) := by decide +kernel
theorem dJ2_getChar_3b067_49 : decode cJ2_getChar_3b067 49 = .ok (.sipush 255, 3) := by decide +kernel
theorem dJ2_getChar_3b067_52 : decode cJ2_getChar_3b067 52 = .ok (.iand, 1) := by decide +kernel
theorem dJ2_getChar_3b067_53 : decode cJ2_getChar_3b067 53 = .ok (.getstatic 63, 3) := by decide +kernel
theorem dJ2_getChar_3b067_56 : decode cJ2_getChar_3b067 56 = .ok (.ishl, 1) := by decide +kernel
theorem dJ2_getChar_3b067_57 : decode cJ2_getChar_3b067 57 = .ok (.ior, 1) := by decide +kernel
theorem dJ2_getChar_3b067_58 : decode cJ2_getChar_3b067 58 = .ok (.i2c, 1) := by decide +kernel
theorem dJ2_getChar_3b067_59 : decode cJ2_getChar_3b067 59 = .ok (.ireturn, 1) := by decide +kernel
theorem dJ2_length_9d52b_0 : decode cJ2_length_9d52b 0 = .ok (.aload_n 0, 1) := by decide +kernel
theorem dJ2_length_9d52b_1 : decode cJ2_length_9d52b 1 = .ok (.arraylength, 1) := by decide +kernel
theorem dJ2_length_9d52b_2 : decode cJ2_length_9d52b 2 = .ok (.iconst 1, 1) := by decide +kernel
theorem dJ2_length_9d52b_3 : decode cJ2_length_9d52b 3 = .ok (.ishr, 1) := by decide +kernel
theorem dJ2_length_9d52b_4 : decode cJ2_length_9d52b 4 = .ok (.ireturn, 1) := by decide +kernel
theorem dJ2_charAt_3b067_0 : decode cJ2_charAt_3b067 0 = .ok (.iload_n 1, 1) := by decide +kernel
theorem dJ2_charAt_3b067_1 : decode cJ2_charAt_3b067 1 = .ok (.aload_n 0, 1) := by decide +kernel
theorem dJ2_charAt_3b067_2 : decode cJ2_charAt_3b067 2 = .ok (.invokestatic 67, 3) := by decide +kernel
theorem dJ2_charAt_3b067_5 : decode cJ2_charAt_3b067 5 = .ok (.aload_n 0, 1) := by decide +kernel
theorem dJ2_charAt_3b067_6 : decode cJ2_charAt_3b067 6 = .ok (.iload_n 1, 1) := by decide +kernel
theorem dJ2_charAt_3b067_7 : decode cJ2_charAt_3b067 7 = .ok (.invokestatic 71, 3) := by decide +kernel
theorem dJ2_charAt_3b067_10 : decode cJ2_charAt_3b067 10 = .ok (.ireturn, 1) := by decide +kernel
theorem dJ2_checkIndex_2214a_0 : decode cJ2_checkIndex_2214a 0 = .ok (.iload_n 0, 1) := by decide +kernel
theorem dJ2_checkIndex_2214a_1 : decode cJ2_checkIndex_2214a 1 = .ok (.aload_n 1, 1) := by decide +kernel
theorem dJ2_checkIndex_2214a_2 : decode cJ2_checkIndex_2214a 2 = .ok (.invokestatic 48, 3) := by decide +kernel
theorem dJ2_checkIndex_2214a_5 : decode cJ2_checkIndex_2214a 5 = .ok (.invokestatic 414, 3) := by decide +kernel
theorem dJ2_checkIndex_2214a_8 : decode cJ2_checkIndex_2214a 8 = .ok (.return_, 1) := by decide +kernel
theorem dJ3_checkIndex_8e157_0 : decode cJ3_checkIndex_8e157 0 = .ok (.iload_n 0, 1) := by decide +kernel
theorem dJ3_checkIndex_8e157_1 : decode cJ3_checkIndex_8e157 1 = .ok (.ifCond .lt 8, 3) := by decide +kernel
theorem dJ3_checkIndex_8e157_4 : decode cJ3_checkIndex_8e157 4 = .ok (.iload_n 0, 1) := by decide +kernel
theorem dJ3_checkIndex_8e157_5 : decode cJ3_checkIndex_8e157 5 = .ok (.iload_n 1, 1) := by decide +kernel
theorem dJ3_checkIndex_8e157_6 : decode cJ3_checkIndex_8e157 6 = .ok (.if_icmp .lt 10, 3) := by decide +kernel
theorem dJ3_checkIndex_8e157_9 : decode cJ3_checkIndex_8e157 9 = .ok (.aload_n 2, 1) := by decide +kernel
theorem dJ3_checkIndex_8e157_10 : decode cJ3_checkIndex_8e157 10 = .ok (.iload_n 0, 1) := by decide +kernel
theorem dJ3_checkIndex_8e157_11 : decode cJ3_checkIndex_8e157 11 = .ok (.iload_n 1, 1) := by decide +kernel
theorem dJ3_checkIndex_8e157_12 : decode cJ3_checkIndex_8e157 12 = .ok (.invokestatic 95, 3) := by decide +kernel
theorem dJ3_checkIndex_8e157_15 : decode cJ3_checkIndex_8e157 15 = .ok (.athrow, 1) := by decide +kernel
theorem dJ3_checkIndex_8e157_16 : decode cJ3_checkIndex_8e157 16 = .ok (.iload_n 0, 1) := by decide +kernel
theorem dJ3_checkIndex_8e157_17 : decode cJ3_checkIndex_8e157 17 = .ok (.ireturn, 1) := by decide +kernel
end
section
abbrev St : Type := (Nat → Nat → Int32) × (Nat → Nat → Int64)
def setI (σ : St) (k j : Nat) (v : Int32) : St := (fun a b => if a = k ∧ b = j then v else σ.1 a b, σ.2)
def setL (σ : St) (k j : Nat) (v : Int64) : St := (σ.1, fun a b => if a = k ∧ b = j then v else σ.2 a b)
/-- a place's shape: a row of numbers (kind, length), an object (class, fields), a row of objects (kind, places) -/
abbrev Sh : Type := (Nat × Nat) ⊕ ((Nat × List (Option Nat)) ⊕ (Nat × List Nat))
def clz : List vw_C := [(RX0, TX0, 1), (RX1, TX1, 7), (RX2, TX2, 8), (RX3, TX3, 4), (RX4, TX4, 4), (RX5, TX5, 1), (RX6, TX6, 14), (RX7, TX7, 12), (RX8, TX8, 34)]
def tyz (ca : Nat → ClassId) : List (ClassId × FieldType) := [(ca 0, .int), (ca 1, .boolean), (ca 2, .byte), (ca 3, .long), (ca 4, .object RX6), (ca 5, .object RX4)]
def shp : List Sh := [.inr (.inl (7, [some 1, some 3, some 10, some 17, some 39, some 40, some 49, none, some 51, some 53, some 55, some 60])), .inr (.inl (2, [some 2, none, none, none, none, none, none, none])), .inl (2, 1600), .inr (.inl (6, [none, none, none, none, none, none, none, none, some 4, some 5, some 6, some 7, some 8, some 9])), .inl (0, 12), .inl (0, 12), .inl (0, 12), .inl (0, 12), .inl (0, 5), .inl (0, 5), .inr (.inl (6, [none, none, none, none, none, none, none, none, some 11, some 12, some 13, some 14, some 15, some 16])), .inl (0, 12), .inl (0, 12), .inl (0, 12), .inl (0, 12), .inl (0, 5), .inl (0, 5), .inr (.inr (4, [18, 25, 32])), .inr (.inl (6, [none, none, none, none, none, none, none, none, some 19, some 20, some 21, some 22, some 23, some 24])), .inl (0, 12), .inl (0, 12), .inl (0, 12), .inl (0, 12), .inl (0, 5), .inl (0, 5), .inr (.inl (6, [none, none, none, none, none, none, none, none, some 26, some 27, some 28, some 29, some 30, some 31])), .inl (0, 12), .inl (0, 12), .inl (0, 12), .inl (0, 12), .inl (0, 5), .inl (0, 5), .inr (.inl (6, [none, none, none, none, none, none, none, none, some 33, some 34, some 35, some 36, some 37, some 38])), .inl (0, 12), .inl (0, 12), .inl (0, 12), .inl (0, 12), .inl (0, 5), .inl (0, 5), .inl (1, 3), .inr (.inr (5, [41, 43, 45, 47])), .inr (.inl (4, [none, none, none, some 42])), .inl (3, 60), .inr (.inl (4, [none, none, none, some 44])), .inl (3, 60), .inr (.inl (4, [none, none, none, some 46])), .inl (3, 60), .inr (.inl (4, [none, none, none, some 48])), .inl (3, 60), .inr (.inl (5, [some 50])), .inl (0, 4096), .inr (.inl (5, [some 52])), .inl (0, 4096), .inr (.inl (3, [none, none, none, some 54])), .inl (0, 12), .inr (.inl (1, [none, none, none, some 56, some 57, some 58, some 59])), .inl (0, 12), .inl (0, 12), .inl (0, 5), .inl (0, 5), .inr (.inl (0, [some 61])), .inl (0, 16), .inr (.inl (8, [none, some 63, some 64, some 65, some 66, none, some 67, none, none, none, none, none, none, none, some 68, some 69, some 70, some 71, none, none, none, none, some 72, some 73, some 74, some 75, some 76, none, none, some 77, some 78, some 79, some 80, some 81])), .inl (0, 70), .inl (0, 210), .inl (1, 3), .inl (2, 1600), .inl (0, 5), .inl (0, 70), .inl (0, 8), .inl (1, 8), .inl (0, 8), .inl (1, 32), .inl (0, 12), .inl (0, 12), .inl (0, 5), .inl (0, 5), .inl (0, 4096), .inl (0, 4), .inl (0, 4), .inl (3, 240), .inl (3, 60)]
def slen : List Nat := [5, 5, 5, 5, 5, 5, 3, 2, 3, 2, 2, 3, 4, 4, 4, 5, 5, 5]
def sbyt : List (List Int32) := [[116, 97, 98, 108, 101], [97, 116, 111, 109, 115], [104, 111, 117, 114, 115], [104, 111, 108, 101, 115], [99, 108, 97, 105, 109], [119, 111, 114, 116, 104], [121, 101, 115], [110, 111], [97, 110, 100], [111, 114], [105, 102], [110, 111, 116], [115, 97, 108, 116], [115, 116, 101, 112], [102, 114, 111, 109], [103, 117, 101, 115, 116], [115, 112, 101, 101, 100], [107, 110, 111, 119, 115]]
def sldc : List (String × Nat × String × Nat) := [("ProvedTable$Reader", 81, "table", 0), ("ProvedTable$Reader", 86, "atoms", 1), ("ProvedTable$Reader", 94, "hours", 2), ("ProvedTable$Reader", 98, "holes", 3), ("ProvedTable$Reader", 53, "claim", 4), ("ProvedTable$Reader", 105, "worth", 5), ("ProvedTable$Reader", 173, "yes", 6), ("ProvedTable$Reader", 175, "no", 7), ("ProvedTable$Reader", 183, "and", 8), ("ProvedTable$Reader", 185, "or", 9), ("ProvedTable$Reader", 187, "if", 10), ("ProvedTable$Reader", 189, "not", 11), ("ProvedTable$Reader", 62, "salt", 12), ("ProvedTable$Reader", 67, "step", 13), ("ProvedTable$Reader", 132, "from", 14), ("ProvedTable$Reader", 72, "guest", 15), ("ProvedTable$Reader", 144, "speed", 16), ("ProvedTable$Reader", 146, "knows", 17), ("ProvedTableModel", 240, "table", 0), ("ProvedTableModel", 242, "atoms", 1), ("ProvedTableModel", 244, "hours", 2), ("ProvedTableModel", 246, "holes", 3), ("ProvedTableModel", 220, "claim", 4), ("ProvedTableModel", 222, "salt", 12), ("ProvedTableModel", 224, "step", 13), ("ProvedTableModel", 226, "guest", 15), ("ProvedTableModel", 199, "worth", 5), ("ProvedTableModel", 171, "and", 8), ("ProvedTableModel", 173, "or", 9), ("ProvedTableModel", 175, "if", 10), ("ProvedTableModel", 177, "not", 11), ("ProvedTableModel", 179, "yes", 6), ("ProvedTableModel", 184, "no", 7), ("ProvedTableModel", 215, "from", 14), ("ProvedTableModel", 216, "speed", 16), ("ProvedTableModel", 218, "knows", 17)]
abbrev GT : Type := Launch × va_G × (Nat → Nat) × (Nat → ClassId) × (Nat → Nat) × (Nat → Nat)
def gad (G : GT) : Nat → Nat := G.2.2.1
def gca (G : GT) : Nat → ClassId := G.2.2.2.1
def gsk (G : GT) : Nat → Nat := G.2.2.2.2.1
def gsv (G : GT) : Nat → Nat := G.2.2.2.2.2
def fld (G : GT) (σ : St) (k : Nat) (j : Nat) (f : Option Nat) : Value := match f with
  | none => .int (σ.1 k j)
  | some q => .ref (gad G q)
def cel (G : GT) (σ : St) (k : Nat) (h : Sh) : va_E := match h with
  | .inl (kd, n) => .inl (gca G kd, n, if kd = 3 then .inr (.inl (σ.2 k)) else .inl (σ.1 k))
  | .inr (.inl (ci, fs)) => .inr (ci, fs.mapIdx (fld G σ k))
  | .inr (.inr (kd, rs)) => .inl (gca G kd, rs.length, .inr (.inr (.inr (.inr (fun i => (rs[i]?).map (gad G))))))
def wld (G : GT) (σ : St) : va_W := shp.mapIdx (fun k h => (gad G k, cel G σ k h))
theorem wld_at {G : GT} {σ : St} {k : Nat} {h : Sh} (hs : shp[k]? = some h) : (wld G σ)[k]? = some (gad G k, cel G σ k h) := by
  simp [wld, List.getElem?_mapIdx, hs]
theorem wld_ad {G : GT} {σ : St} {k : Nat} {q : Nat × va_E} (h : (wld G σ)[k]? = some q) : ∃ s, shp[k]? = some s ∧ q = (gad G k, cel G σ k s) := by
  simp only [wld, List.getElem?_mapIdx] at h
  cases hs : shp[k]? with
  | none => rw [hs] at h; cases h
  | some s => rw [hs] at h; exact ⟨s, rfl, (Option.some.inj h).symm⟩
theorem wld_D {G : GT} {σ σ' : St} {A : Nat → Prop} (h : va_D A (wld G σ)) : va_D A (wld G σ') := by
  have key : ∀ (k : Nat) (q : Nat × va_E), (wld G σ')[k]? = some q → ∃ q' : Nat × va_E, (wld G σ)[k]? = some q' ∧ q'.1 = q.1 := fun k q hq => by
    obtain ⟨s, hs, rfl⟩ := wld_ad hq
    exact ⟨_, wld_at hs, rfl⟩
  refine ⟨fun i j p q hi hj e => ?_, fun k q hq => ?_⟩
  · obtain ⟨p', hp', ep⟩ := key i p hi
    obtain ⟨q', hq', eq⟩ := key j q hj
    exact h.1 i j p' q' hp' hq' (by rw [ep, eq, e])
  · obtain ⟨q', hq', eq⟩ := key k q hq
    rw [← eq]
    exact h.2 k q' hq'
theorem cel_congr {G : GT} {σ σ' : St} {k : Nat} (h : Sh) (h1 : σ'.1 k = σ.1 k) (h2 : σ'.2 k = σ.2 k) : cel G σ' k h = cel G σ k h := by
  have hf : fld G σ' k = fld G σ k := by
    funext j f
    cases f with
    | none => simp [fld, h1]
    | some q => rfl
  rcases h with ⟨kd, n⟩ | ⟨ci, fs⟩ | ⟨kd, rs⟩
  · simp only [cel, h1, h2]
  · simp only [cel, hf]
  · rfl
theorem wld_set {G : GT} {σ σ' : St} {k : Nat} {h : Sh} {e : va_E} (hs : shp[k]? = some h) (he : cel G σ' k h = e) (ho : ∀ q, q ≠ k → σ'.1 q = σ.1 q ∧ σ'.2 q = σ.2 q) : (wld G σ).set k (gad G k, e) = wld G σ' := by
  apply List.ext_getElem?
  intro i
  rw [List.getElem?_set]
  by_cases hi : k = i
  · subst hi
    have lt : k < (wld G σ).length := (List.getElem?_eq_some_iff.mp (wld_at (G := G) (σ := σ) hs)).1
    simp [lt, wld_at hs, he]
  · rw [if_neg hi]
    simp only [wld, List.getElem?_mapIdx]
    cases shp[i]? with
    | none => rfl
    | some s => simp only [Option.map_some, cel_congr s (ho i (fun h => hi h.symm)).1 (ho i (fun h => hi h.symm)).2]
theorem setI_ne {σ : St} {k j : Nat} {v : Int32} {q : Nat} (h : q ≠ k) : (setI σ k j v).1 q = σ.1 q ∧ (setI σ k j v).2 q = σ.2 q := by
  refine ⟨?_, rfl⟩
  funext b
  exact if_neg (fun z => h z.1)
theorem setL_ne {σ : St} {k j : Nat} {v : Int64} {q : Nat} (h : q ≠ k) : (setL σ k j v).1 q = σ.1 q ∧ (setL σ k j v).2 q = σ.2 q := by
  refine ⟨rfl, ?_⟩
  funext b
  exact if_neg (fun z => h z.1)
theorem setI_row {σ : St} {k j : Nat} {v : Int32} : (setI σ k j v).1 k = upd (σ.1 k) j v := by
  funext b
  simp [setI, upd]
theorem setL_row {σ : St} {k j : Nat} {v : Int64} : (setL σ k j v).2 k = vp_updL (σ.2 k) j v := by
  funext b
  simp [setL, vp_updL]
theorem wld_setF {G : GT} {σ : St} {k j ci : Nat} {fs : List (Option Nat)} {v : Int32} (hs : shp[k]? = some (.inr (.inl (ci, fs)))) (hf : fs[j]? = some none) : (wld G σ).set k (gad G k, .inr (ci, (fs.mapIdx (fld G σ k)).set j (.int v))) = wld G (setI σ k j v) := by
  refine wld_set hs ?_ (fun q h => setI_ne h)
  simp only [cel]
  congr 2
  apply List.ext_getElem?
  intro i
  rw [List.getElem?_set, List.getElem?_mapIdx, List.getElem?_mapIdx]
  by_cases hi : j = i
  · subst hi
    obtain ⟨lt, hfj⟩ := List.getElem?_eq_some_iff.mp hf
    simp [hf, lt, fld, setI, hfj]
  · rw [if_neg hi]
    cases fs[i]? with
    | none => rfl
    | some f =>
      cases f with
      | none => simp [fld, setI]; intro h; exact absurd h.symm hi
      | some q => rfl
theorem wld_setA {G : GT} {σ : St} {k j kd n : Nat} {v : Int32} (hs : shp[k]? = some (.inl (kd, n))) (hk : kd ≠ 3) : (wld G σ).set k (gad G k, .inl (gca G kd, n, .inl (upd (σ.1 k) j v))) = wld G (setI σ k j v) := by
  refine wld_set hs ?_ (fun q h => setI_ne h)
  simp only [cel, if_neg hk, setI_row]
theorem wld_setJ {G : GT} {σ : St} {k j n : Nat} {v : Int64} (hs : shp[k]? = some (.inl (3, n))) : (wld G σ).set k (gad G k, .inl (gca G 3, n, .inr (.inl (vp_updL (σ.2 k) j v)))) = wld G (setL σ k j v) := by
  refine wld_set hs ?_ (fun q h => setL_ne h)
  simp only [cel, setL_row, if_true]
/-- what holds of a state beside the world: the classes, the world's addresses, the literals -/
def STR (G : GT) (A : Nat → Prop) (U : State) (H : Heap) : Prop := va_Nw (Cond.methodLinkNest RX5 31 yX7_lowestBit "ProvedTable") U ∧ vk_S 18 slen sbyt (gsk G) (gsv G) A U H ∧ (∀ q ∈ sldc, vk_R q.1 q.2.1 q.2.2.1 (gsk G q.2.2.2) U) ∧ va_Z "java/lang/String" "COMPACT_STRINGS" "Z" (.int 1) A U H ∧ va_Zq "jdk/internal/util/Preconditions" "SIOOBE_FORMATTER" "Ljava/util/function/BiFunction;" A U H
def GOOD (G : GT) (A : Nat → Prop) (U : State) (H : Heap) : Prop := va_K G.2.1 clz (tyz (gca G)) U ∧ (∀ σ, va_D A (wld G σ)) ∧ STR G A U H
theorem STR.warm {G : GT} {A : Nat → Prop} {u U : State} {H : Heap} (hW : u.WarmedH U.vm) (h : STR G A u H) : STR G A U H :=
  ⟨va_Nw.warmM hW h.1, h.2.1.moved hW.alike, fun q hq => (h.2.2.1 q hq).warm hW, h.2.2.2.1.moved hW.alike, h.2.2.2.2.moved hW.alike⟩
theorem STR.kept {G : GT} {A : Nat → Prop} {U : State} {H H1 : Heap} (h : STR G A U H) (hq : ∀ a : Nat, a < H.size → ¬ A a → H1[a]? = H[a]?) : STR G A U H1 :=
  ⟨h.1, h.2.1.kept hq, h.2.2.1, h.2.2.2.1.kept hq, h.2.2.2.2.kept hq⟩
theorem STR.narrow {G : GT} {A B : Nat → Prop} {U : State} {H : Heap} (h : STR G A U H) (hAB : ∀ q, B q → A q) : STR G B U H :=
  ⟨h.1, h.2.1.narrow hAB, h.2.2.1, h.2.2.2.1.narrow hAB, h.2.2.2.2.narrow hAB⟩
theorem STR.calling {G : GT} {A : Nat → Prop} {U : State} {H : Heap} (g : JFrame) (mk : MethodId) (a : Array Value) (h : STR G A U H) : STR G A (U.calling g mk a) H :=
  ⟨va_Nw.same (u := U) rfl rfl h.1, h.2.1.moved (Vm.Alike.refl U.vm), fun q hq => (h.2.2.1 q hq).same (u := U) rfl, h.2.2.2.1.moved (u := U) (Vm.Alike.refl U.vm), h.2.2.2.2.moved (u := U) (Vm.Alike.refl U.vm)⟩
def rmL (k : Nat) : Room := { frames := k, cells := 0, slots := 0, locals := 64 * k }
/-- a method's contract: from the world σ it ends with rv, in the world σ' -/
def MCt (G : GT) (k : Nat) (y : MethodName) (b : ByteArray) (nL : Nat) (rt : Option FieldType) (as : List Value) (σ : St) (rv : Option Value) (σ' : St) : Prop :=
  ∀ sz : Nat, Met G.1 y (.code y b nL rt :: TBL) (rmL k) (va_Pc as (fun U => U.heap.size = sz ∧ va_P G.2.1 clz (wld G σ) U.heap ∧ GOOD G (va_A (wld G σ) sz) U U.heap)) (fun _ st oc t => oc = .returned rv ∧ va_P G.2.1 clz (wld G σ') t.heap ∧ va_F (va_A (wld G σ) sz) st t) 0 0 (va_A (wld G σ) sz)
abbrev ir (i : Int32) (n : Nat) : Prop := 0 ≤ i.toInt ∧ i.toInt < (n : Int)
abbrev CT : Type := Program × Env × Room × State × MethodId × Array Value × List Frame × Method × Code × (State → Prop) × (Nat → Prop) × Nat × Nat
def WW (G : GT) (X : CT) (nL : Nat) (σ : St) (lv : List (Nat × Value)) (pc : Nat) (st : List Value) : Prop := match X with
  | (p, e, R, s, m, args, below, meth, c, Q, A, ck, sk) => ∀ (H : Heap) (locs : List Loc) (ls : Array Slot), lv_has ls nL lv → va_P G.2.1 clz (wld G σ) H → va_S A s.heap H locs → W p G.1 e R s m args below meth c H locs ck sk Q (F0 m pc ls st)
def Cx (G : GT) (X : CT) (own : String) (cc : ByteArray) (nL n : Nat) : Prop := match X with
  | (p, _, R, s, m, args, _, _, c, _, A, ck, sk) => p.tables.exec = Jvm.exec ∧ c.code = cc ∧ c.maxLocals = nL ∧ s.vm.findClass own = some m.cls ∧ (∀ w ∈ TBL, w.before args s = true) ∧ GOOD G A s s.heap ∧ (∀ q, s.heap.size ≤ q → A q) ∧ (ck ≤ R.cells ∧ sk ≤ R.slots) ∧ (n ≤ R.frames ∧ 64 * n ≤ R.locals)
def lt {α β : Type} (a : α) (k : α → β) : β := k a
def gd {β : Type} (c : Prop) [Decidable c] (x : Option β) : Option β := if c then x else none
def bp {α β : Type} (x : Option α) (k : α → Option β) : Option β := match x with
  | some a => k a
  | none => none
def bs {α β : Type} (x : Option (α × St)) (k : α → St → Option β) : Option β := match x with
  | some (a, s) => k a s
  | none => none
theorem gd_some {β : Type} {c : Prop} [Decidable c] {x : Option β} {o : β} (h : gd c x = some o) : c ∧ x = some o := by
  unfold gd at h
  by_cases hc : c
  · rw [if_pos hc] at h; exact ⟨hc, h⟩
  · rw [if_neg hc] at h; cases h
theorem bp_some {α β : Type} {x : Option α} {k : α → Option β} {o : β} (h : bp x k = some o) : ∃ a, x = some a ∧ k a = some o := by
  cases x with
  | none => cases h
  | some a => exact ⟨a, rfl, h⟩
theorem bs_some {α β : Type} {x : Option (α × St)} {k : α → St → Option β} {o : β} (h : bs x k = some o) : ∃ a s, x = some (a, s) ∧ k a s = some o := by
  cases x with
  | none => cases h
  | some a => exact ⟨a.1, a.2, rfl, h⟩
theorem it_t {β : Type} {c : Prop} {d : Decidable c} {a b : Option β} {o : β} (h : c) (hF : @ite _ c d a b = some o) : a = some o := by rwa [if_pos h] at hF
theorem it_f {β : Type} {c : Prop} {d : Decidable c} {a b : Option β} {o : β} (h : ¬ c) (hF : @ite _ c d a b = some o) : b = some o := by rwa [if_neg h] at hF

theorem ww_iconst {G : GT} {X : CT} {own : String} {cc : ByteArray} {nL n : Nat} {σ : St} {lv : List (Nat × Value)} {pc : Nat} {st : List Value} {z : Int} {v : Int32} (cx : Cx G X own cc nL n) (hdg : decode cc pc = .ok (.iconst z, 1)) (hv : Int32.ofInt z = v) (k : WW G X nL σ lv (pc + 1) (.int v :: st)) : WW G X nL σ lv pc (st) := by
  obtain ⟨p, e, R, s, m, args, below, meth, c, Q, A, ck, sk⟩ := X
  obtain ⟨hx, hb, hml, hown, hts, hG, hA, hck, hlv⟩ := cx
  intro H locs ls hl hP hS
  exact lv_iconst hx hb hdg hv (k H locs ls hl hP hS)

theorem ww_bipush {G : GT} {X : CT} {own : String} {cc : ByteArray} {nL n : Nat} {σ : St} {lv : List (Nat × Value)} {pc : Nat} {st : List Value} {z : Int} {v : Int32} (cx : Cx G X own cc nL n) (hdg : decode cc pc = .ok (.bipush z, 2)) (hv : (Int8.ofInt z).toInt32 = v) (k : WW G X nL σ lv (pc + 2) (.int v :: st)) : WW G X nL σ lv pc (st) := by
  obtain ⟨p, e, R, s, m, args, below, meth, c, Q, A, ck, sk⟩ := X
  obtain ⟨hx, hb, hml, hown, hts, hG, hA, hck, hlv⟩ := cx
  intro H locs ls hl hP hS
  exact lv_bipush hx hb hdg hv (k H locs ls hl hP hS)

theorem ww_sipush {G : GT} {X : CT} {own : String} {cc : ByteArray} {nL n : Nat} {σ : St} {lv : List (Nat × Value)} {pc : Nat} {st : List Value} {z : Int} {v : Int32} (cx : Cx G X own cc nL n) (hdg : decode cc pc = .ok (.sipush z, 3)) (hv : (Int16.ofInt z).toInt32 = v) (k : WW G X nL σ lv (pc + 3) (.int v :: st)) : WW G X nL σ lv pc (st) := by
  obtain ⟨p, e, R, s, m, args, below, meth, c, Q, A, ck, sk⟩ := X
  obtain ⟨hx, hb, hml, hown, hts, hG, hA, hck, hlv⟩ := cx
  intro H locs ls hl hP hS
  exact lv_sipush hx hb hdg hv (k H locs ls hl hP hS)

theorem ww_lconst {G : GT} {X : CT} {own : String} {cc : ByteArray} {nL n : Nat} {σ : St} {lv : List (Nat × Value)} {pc : Nat} {st : List Value} {z : Fin 2} {v : Int64} (cx : Cx G X own cc nL n) (hdg : decode cc pc = .ok (.lconst z, 1)) (hv : Int64.ofNat (z : Nat) = v) (k : WW G X nL σ lv (pc + 1) (.long v :: st)) : WW G X nL σ lv pc (st) := by
  obtain ⟨p, e, R, s, m, args, below, meth, c, Q, A, ck, sk⟩ := X
  obtain ⟨hx, hb, hml, hown, hts, hG, hA, hck, hlv⟩ := cx
  intro H locs ls hl hP hS
  exact lv_lconst hx hb hdg hv (k H locs ls hl hP hS)

theorem ww_ldc {G : GT} {X : CT} {own : String} {cc : ByteArray} {nL n : Nat} {σ : St} {lv : List (Nat × Value)} {pc : Nat} {st : List Value} {ix : Nat} {v : Int32} (cx : Cx G X own cc nL n) (hdg : decode cc pc = .ok (.ldc ix, 2)) (hw : Cond.constant own ix v ∈ TBL) (k : WW G X nL σ lv (pc + 2) (.int v :: st)) : WW G X nL σ lv pc (st) := by
  obtain ⟨p, e, R, s, m, args, below, meth, c, Q, A, ck, sk⟩ := X
  obtain ⟨hx, hb, hml, hown, hts, hG, hA, hck, hlv⟩ := cx
  intro H locs ls hl hP hS
  exact lv_ldc hx hb hown (hts _ hw) hdg (k H locs ls hl hP hS)

theorem ww_ldc2 {G : GT} {X : CT} {own : String} {cc : ByteArray} {nL n : Nat} {σ : St} {lv : List (Nat × Value)} {pc : Nat} {st : List Value} {ix : Nat} {v : Int64} (cx : Cx G X own cc nL n) (hdg : decode cc pc = .ok (.ldc2_w ix, 3)) (hw : Cond.constantLong own ix v ∈ TBL) (k : WW G X nL σ lv (pc + 3) (.long v :: st)) : WW G X nL σ lv pc (st) := by
  obtain ⟨p, e, R, s, m, args, below, meth, c, Q, A, ck, sk⟩ := X
  obtain ⟨hx, hb, hml, hown, hts, hG, hA, hck, hlv⟩ := cx
  intro H locs ls hl hP hS
  exact lv_ldc2 hx hb hown (hts _ hw) hdg (k H locs ls hl hP hS)

theorem ww_iadd {G : GT} {X : CT} {own : String} {cc : ByteArray} {nL n : Nat} {σ : St} {lv : List (Nat × Value)} {pc : Nat} {st : List Value} {x y : Int32} (cx : Cx G X own cc nL n) (hdg : decode cc pc = .ok (.iadd, 1)) (k : WW G X nL σ lv (pc + 1) (.int (x + y) :: st)) : WW G X nL σ lv pc (.int y :: .int x :: st) := by
  obtain ⟨p, e, R, s, m, args, below, meth, c, Q, A, ck, sk⟩ := X
  obtain ⟨hx, hb, hml, hown, hts, hG, hA, hck, hlv⟩ := cx
  intro H locs ls hl hP hS
  exact lv_iadd hx hb hdg (k H locs ls hl hP hS)

theorem ww_isub {G : GT} {X : CT} {own : String} {cc : ByteArray} {nL n : Nat} {σ : St} {lv : List (Nat × Value)} {pc : Nat} {st : List Value} {x y : Int32} (cx : Cx G X own cc nL n) (hdg : decode cc pc = .ok (.isub, 1)) (k : WW G X nL σ lv (pc + 1) (.int (x - y) :: st)) : WW G X nL σ lv pc (.int y :: .int x :: st) := by
  obtain ⟨p, e, R, s, m, args, below, meth, c, Q, A, ck, sk⟩ := X
  obtain ⟨hx, hb, hml, hown, hts, hG, hA, hck, hlv⟩ := cx
  intro H locs ls hl hP hS
  exact lv_isub hx hb hdg (k H locs ls hl hP hS)

theorem ww_imul {G : GT} {X : CT} {own : String} {cc : ByteArray} {nL n : Nat} {σ : St} {lv : List (Nat × Value)} {pc : Nat} {st : List Value} {x y : Int32} (cx : Cx G X own cc nL n) (hdg : decode cc pc = .ok (.imul, 1)) (k : WW G X nL σ lv (pc + 1) (.int (x * y) :: st)) : WW G X nL σ lv pc (.int y :: .int x :: st) := by
  obtain ⟨p, e, R, s, m, args, below, meth, c, Q, A, ck, sk⟩ := X
  obtain ⟨hx, hb, hml, hown, hts, hG, hA, hck, hlv⟩ := cx
  intro H locs ls hl hP hS
  exact lv_imul hx hb hdg (k H locs ls hl hP hS)

theorem ww_iand {G : GT} {X : CT} {own : String} {cc : ByteArray} {nL n : Nat} {σ : St} {lv : List (Nat × Value)} {pc : Nat} {st : List Value} {x y : Int32} (cx : Cx G X own cc nL n) (hdg : decode cc pc = .ok (.iand, 1)) (k : WW G X nL σ lv (pc + 1) (.int (x &&& y) :: st)) : WW G X nL σ lv pc (.int y :: .int x :: st) := by
  obtain ⟨p, e, R, s, m, args, below, meth, c, Q, A, ck, sk⟩ := X
  obtain ⟨hx, hb, hml, hown, hts, hG, hA, hck, hlv⟩ := cx
  intro H locs ls hl hP hS
  exact lv_iand hx hb hdg (k H locs ls hl hP hS)

theorem ww_ior {G : GT} {X : CT} {own : String} {cc : ByteArray} {nL n : Nat} {σ : St} {lv : List (Nat × Value)} {pc : Nat} {st : List Value} {x y : Int32} (cx : Cx G X own cc nL n) (hdg : decode cc pc = .ok (.ior, 1)) (k : WW G X nL σ lv (pc + 1) (.int (x ||| y) :: st)) : WW G X nL σ lv pc (.int y :: .int x :: st) := by
  obtain ⟨p, e, R, s, m, args, below, meth, c, Q, A, ck, sk⟩ := X
  obtain ⟨hx, hb, hml, hown, hts, hG, hA, hck, hlv⟩ := cx
  intro H locs ls hl hP hS
  exact lv_ior hx hb hdg (k H locs ls hl hP hS)

theorem ww_ixor {G : GT} {X : CT} {own : String} {cc : ByteArray} {nL n : Nat} {σ : St} {lv : List (Nat × Value)} {pc : Nat} {st : List Value} {x y : Int32} (cx : Cx G X own cc nL n) (hdg : decode cc pc = .ok (.ixor, 1)) (k : WW G X nL σ lv (pc + 1) (.int (x ^^^ y) :: st)) : WW G X nL σ lv pc (.int y :: .int x :: st) := by
  obtain ⟨p, e, R, s, m, args, below, meth, c, Q, A, ck, sk⟩ := X
  obtain ⟨hx, hb, hml, hown, hts, hG, hA, hck, hlv⟩ := cx
  intro H locs ls hl hP hS
  exact lv_ixor hx hb hdg (k H locs ls hl hP hS)

theorem ww_ishl {G : GT} {X : CT} {own : String} {cc : ByteArray} {nL n : Nat} {σ : St} {lv : List (Nat × Value)} {pc : Nat} {st : List Value} {x y : Int32} (cx : Cx G X own cc nL n) (hdg : decode cc pc = .ok (.ishl, 1)) (k : WW G X nL σ lv (pc + 1) (.int (x <<< (y &&& 31)) :: st)) : WW G X nL σ lv pc (.int y :: .int x :: st) := by
  obtain ⟨p, e, R, s, m, args, below, meth, c, Q, A, ck, sk⟩ := X
  obtain ⟨hx, hb, hml, hown, hts, hG, hA, hck, hlv⟩ := cx
  intro H locs ls hl hP hS
  exact lv_ishl hx hb hdg (k H locs ls hl hP hS)

theorem ww_ishr {G : GT} {X : CT} {own : String} {cc : ByteArray} {nL n : Nat} {σ : St} {lv : List (Nat × Value)} {pc : Nat} {st : List Value} {x y : Int32} (cx : Cx G X own cc nL n) (hdg : decode cc pc = .ok (.ishr, 1)) (k : WW G X nL σ lv (pc + 1) (.int (x >>> (y &&& 31)) :: st)) : WW G X nL σ lv pc (.int y :: .int x :: st) := by
  obtain ⟨p, e, R, s, m, args, below, meth, c, Q, A, ck, sk⟩ := X
  obtain ⟨hx, hb, hml, hown, hts, hG, hA, hck, hlv⟩ := cx
  intro H locs ls hl hP hS
  exact lv_ishr hx hb hdg (k H locs ls hl hP hS)

theorem ww_iushr {G : GT} {X : CT} {own : String} {cc : ByteArray} {nL n : Nat} {σ : St} {lv : List (Nat × Value)} {pc : Nat} {st : List Value} {x y : Int32} (cx : Cx G X own cc nL n) (hdg : decode cc pc = .ok (.iushr, 1)) (k : WW G X nL σ lv (pc + 1) (.int ((x.toUInt32 >>> (y.toUInt32 &&& Int32.toUInt32 31)).toInt32) :: st)) : WW G X nL σ lv pc (.int y :: .int x :: st) := by
  obtain ⟨p, e, R, s, m, args, below, meth, c, Q, A, ck, sk⟩ := X
  obtain ⟨hx, hb, hml, hown, hts, hG, hA, hck, hlv⟩ := cx
  intro H locs ls hl hP hS
  exact lv_iushr hx hb hdg rfl (k H locs ls hl hP hS)

theorem ww_ineg {G : GT} {X : CT} {own : String} {cc : ByteArray} {nL n : Nat} {σ : St} {lv : List (Nat × Value)} {pc : Nat} {st : List Value} {x : Int32} (cx : Cx G X own cc nL n) (hdg : decode cc pc = .ok (.ineg, 1)) (k : WW G X nL σ lv (pc + 1) (.int (-x) :: st)) : WW G X nL σ lv pc (.int x :: st) := by
  obtain ⟨p, e, R, s, m, args, below, meth, c, Q, A, ck, sk⟩ := X
  obtain ⟨hx, hb, hml, hown, hts, hG, hA, hck, hlv⟩ := cx
  intro H locs ls hl hP hS
  exact lv_ineg hx hb hdg (k H locs ls hl hP hS)

theorem ww_ladd {G : GT} {X : CT} {own : String} {cc : ByteArray} {nL n : Nat} {σ : St} {lv : List (Nat × Value)} {pc : Nat} {st : List Value} {x y : Int64} (cx : Cx G X own cc nL n) (hdg : decode cc pc = .ok (.ladd, 1)) (k : WW G X nL σ lv (pc + 1) (.long (x + y) :: st)) : WW G X nL σ lv pc (.long y :: .long x :: st) := by
  obtain ⟨p, e, R, s, m, args, below, meth, c, Q, A, ck, sk⟩ := X
  obtain ⟨hx, hb, hml, hown, hts, hG, hA, hck, hlv⟩ := cx
  intro H locs ls hl hP hS
  exact lv_ladd hx hb hdg (k H locs ls hl hP hS)

theorem ww_lsub {G : GT} {X : CT} {own : String} {cc : ByteArray} {nL n : Nat} {σ : St} {lv : List (Nat × Value)} {pc : Nat} {st : List Value} {x y : Int64} (cx : Cx G X own cc nL n) (hdg : decode cc pc = .ok (.lsub, 1)) (k : WW G X nL σ lv (pc + 1) (.long (x - y) :: st)) : WW G X nL σ lv pc (.long y :: .long x :: st) := by
  obtain ⟨p, e, R, s, m, args, below, meth, c, Q, A, ck, sk⟩ := X
  obtain ⟨hx, hb, hml, hown, hts, hG, hA, hck, hlv⟩ := cx
  intro H locs ls hl hP hS
  exact lv_lsub hx hb hdg (k H locs ls hl hP hS)

theorem ww_lmul {G : GT} {X : CT} {own : String} {cc : ByteArray} {nL n : Nat} {σ : St} {lv : List (Nat × Value)} {pc : Nat} {st : List Value} {x y : Int64} (cx : Cx G X own cc nL n) (hdg : decode cc pc = .ok (.lmul, 1)) (k : WW G X nL σ lv (pc + 1) (.long (x * y) :: st)) : WW G X nL σ lv pc (.long y :: .long x :: st) := by
  obtain ⟨p, e, R, s, m, args, below, meth, c, Q, A, ck, sk⟩ := X
  obtain ⟨hx, hb, hml, hown, hts, hG, hA, hck, hlv⟩ := cx
  intro H locs ls hl hP hS
  exact lv_lmul hx hb hdg (k H locs ls hl hP hS)

theorem ww_land {G : GT} {X : CT} {own : String} {cc : ByteArray} {nL n : Nat} {σ : St} {lv : List (Nat × Value)} {pc : Nat} {st : List Value} {x y : Int64} (cx : Cx G X own cc nL n) (hdg : decode cc pc = .ok (.land, 1)) (k : WW G X nL σ lv (pc + 1) (.long (x &&& y) :: st)) : WW G X nL σ lv pc (.long y :: .long x :: st) := by
  obtain ⟨p, e, R, s, m, args, below, meth, c, Q, A, ck, sk⟩ := X
  obtain ⟨hx, hb, hml, hown, hts, hG, hA, hck, hlv⟩ := cx
  intro H locs ls hl hP hS
  exact lv_land hx hb hdg (k H locs ls hl hP hS)

theorem ww_lor {G : GT} {X : CT} {own : String} {cc : ByteArray} {nL n : Nat} {σ : St} {lv : List (Nat × Value)} {pc : Nat} {st : List Value} {x y : Int64} (cx : Cx G X own cc nL n) (hdg : decode cc pc = .ok (.lor, 1)) (k : WW G X nL σ lv (pc + 1) (.long (x ||| y) :: st)) : WW G X nL σ lv pc (.long y :: .long x :: st) := by
  obtain ⟨p, e, R, s, m, args, below, meth, c, Q, A, ck, sk⟩ := X
  obtain ⟨hx, hb, hml, hown, hts, hG, hA, hck, hlv⟩ := cx
  intro H locs ls hl hP hS
  exact lv_lor hx hb hdg (k H locs ls hl hP hS)

theorem ww_lshl {G : GT} {X : CT} {own : String} {cc : ByteArray} {nL n : Nat} {σ : St} {lv : List (Nat × Value)} {pc : Nat} {st : List Value} {x : Int64} {y : Int32} (cx : Cx G X own cc nL n) (hdg : decode cc pc = .ok (.lshl, 1)) (k : WW G X nL σ lv (pc + 1) (.long (x <<< (y.toInt64 &&& 63)) :: st)) : WW G X nL σ lv pc (.int y :: .long x :: st) := by
  obtain ⟨p, e, R, s, m, args, below, meth, c, Q, A, ck, sk⟩ := X
  obtain ⟨hx, hb, hml, hown, hts, hG, hA, hck, hlv⟩ := cx
  intro H locs ls hl hP hS
  exact lv_lshl hx hb hdg rfl (k H locs ls hl hP hS)

theorem ww_lshr {G : GT} {X : CT} {own : String} {cc : ByteArray} {nL n : Nat} {σ : St} {lv : List (Nat × Value)} {pc : Nat} {st : List Value} {x : Int64} {y : Int32} (cx : Cx G X own cc nL n) (hdg : decode cc pc = .ok (.lshr, 1)) (k : WW G X nL σ lv (pc + 1) (.long (x >>> (y.toInt64 &&& 63)) :: st)) : WW G X nL σ lv pc (.int y :: .long x :: st) := by
  obtain ⟨p, e, R, s, m, args, below, meth, c, Q, A, ck, sk⟩ := X
  obtain ⟨hx, hb, hml, hown, hts, hG, hA, hck, hlv⟩ := cx
  intro H locs ls hl hP hS
  exact lv_lshr hx hb hdg rfl (k H locs ls hl hP hS)

theorem ww_i2l {G : GT} {X : CT} {own : String} {cc : ByteArray} {nL n : Nat} {σ : St} {lv : List (Nat × Value)} {pc : Nat} {st : List Value} {x : Int32} (cx : Cx G X own cc nL n) (hdg : decode cc pc = .ok (.i2l, 1)) (k : WW G X nL σ lv (pc + 1) (.long (x.toInt64) :: st)) : WW G X nL σ lv pc (.int x :: st) := by
  obtain ⟨p, e, R, s, m, args, below, meth, c, Q, A, ck, sk⟩ := X
  obtain ⟨hx, hb, hml, hown, hts, hG, hA, hck, hlv⟩ := cx
  intro H locs ls hl hP hS
  exact lv_i2l hx hb hdg rfl (k H locs ls hl hP hS)

theorem ww_l2i {G : GT} {X : CT} {own : String} {cc : ByteArray} {nL n : Nat} {σ : St} {lv : List (Nat × Value)} {pc : Nat} {st : List Value} {x : Int64} (cx : Cx G X own cc nL n) (hdg : decode cc pc = .ok (.l2i, 1)) (k : WW G X nL σ lv (pc + 1) (.int (x.toInt32) :: st)) : WW G X nL σ lv pc (.long x :: st) := by
  obtain ⟨p, e, R, s, m, args, below, meth, c, Q, A, ck, sk⟩ := X
  obtain ⟨hx, hb, hml, hown, hts, hG, hA, hck, hlv⟩ := cx
  intro H locs ls hl hP hS
  exact lv_l2i hx hb hdg rfl (k H locs ls hl hP hS)

theorem ww_i2b {G : GT} {X : CT} {own : String} {cc : ByteArray} {nL n : Nat} {σ : St} {lv : List (Nat × Value)} {pc : Nat} {st : List Value} {x : Int32} (cx : Cx G X own cc nL n) (hdg : decode cc pc = .ok (.i2b, 1)) (k : WW G X nL σ lv (pc + 1) (.int (x.toInt8.toInt32) :: st)) : WW G X nL σ lv pc (.int x :: st) := by
  obtain ⟨p, e, R, s, m, args, below, meth, c, Q, A, ck, sk⟩ := X
  obtain ⟨hx, hb, hml, hown, hts, hG, hA, hck, hlv⟩ := cx
  intro H locs ls hl hP hS
  exact lv_i2b hx hb hdg rfl (k H locs ls hl hP hS)

theorem ww_i2s {G : GT} {X : CT} {own : String} {cc : ByteArray} {nL n : Nat} {σ : St} {lv : List (Nat × Value)} {pc : Nat} {st : List Value} {x : Int32} (cx : Cx G X own cc nL n) (hdg : decode cc pc = .ok (.i2s, 1)) (k : WW G X nL σ lv (pc + 1) (.int (x.toInt16.toInt32) :: st)) : WW G X nL σ lv pc (.int x :: st) := by
  obtain ⟨p, e, R, s, m, args, below, meth, c, Q, A, ck, sk⟩ := X
  obtain ⟨hx, hb, hml, hown, hts, hG, hA, hck, hlv⟩ := cx
  intro H locs ls hl hP hS
  exact lv_i2s hx hb hdg rfl (k H locs ls hl hP hS)

theorem ww_i2c {G : GT} {X : CT} {own : String} {cc : ByteArray} {nL n : Nat} {σ : St} {lv : List (Nat × Value)} {pc : Nat} {st : List Value} {x : Int32} (cx : Cx G X own cc nL n) (hdg : decode cc pc = .ok (.i2c, 1)) (k : WW G X nL σ lv (pc + 1) (.int ((x.toUInt32 % 65536).toInt32) :: st)) : WW G X nL σ lv pc (.int x :: st) := by
  obtain ⟨p, e, R, s, m, args, below, meth, c, Q, A, ck, sk⟩ := X
  obtain ⟨hx, hb, hml, hown, hts, hG, hA, hck, hlv⟩ := cx
  intro H locs ls hl hP hS
  exact lv_i2c hx hb hdg rfl (k H locs ls hl hP hS)

theorem ww_idiv {G : GT} {X : CT} {own : String} {cc : ByteArray} {nL n : Nat} {σ : St} {lv : List (Nat × Value)} {pc : Nat} {st : List Value} {x y : Int32} {β : Type} {F : Option β} {o : β} (cx : Cx G X own cc nL n) (hdg : decode cc pc = .ok (.idiv, 1)) (hF : gd (¬ y = 0) F = some o) (k : F = some o → WW G X nL σ lv (pc + 1) (.int (x / y) :: st)) : WW G X nL σ lv pc (.int y :: .int x :: st) := by
  obtain ⟨p, e, R, s, m, args, below, meth, c, Q, A, ck, sk⟩ := X
  obtain ⟨hx, hb, hml, hown, hts, hG, hA, hck, hlv⟩ := cx
  intro H locs ls hl hP hS
  exact lv_idiv hx hb hdg (gd_some hF).1 (k (gd_some hF).2 H locs ls hl hP hS)

theorem ww_irem {G : GT} {X : CT} {own : String} {cc : ByteArray} {nL n : Nat} {σ : St} {lv : List (Nat × Value)} {pc : Nat} {st : List Value} {x y : Int32} {β : Type} {F : Option β} {o : β} (cx : Cx G X own cc nL n) (hdg : decode cc pc = .ok (.irem, 1)) (hF : gd (¬ y = 0) F = some o) (k : F = some o → WW G X nL σ lv (pc + 1) (.int (x - x / y * y) :: st)) : WW G X nL σ lv pc (.int y :: .int x :: st) := by
  obtain ⟨p, e, R, s, m, args, below, meth, c, Q, A, ck, sk⟩ := X
  obtain ⟨hx, hb, hml, hown, hts, hG, hA, hck, hlv⟩ := cx
  intro H locs ls hl hP hS
  exact lv_irem hx hb hdg (gd_some hF).1 (k (gd_some hF).2 H locs ls hl hP hS)

theorem ww_ldiv {G : GT} {X : CT} {own : String} {cc : ByteArray} {nL n : Nat} {σ : St} {lv : List (Nat × Value)} {pc : Nat} {st : List Value} {x y : Int64} {β : Type} {F : Option β} {o : β} (cx : Cx G X own cc nL n) (hdg : decode cc pc = .ok (.ldiv, 1)) (hF : gd (¬ y = 0) F = some o) (k : F = some o → WW G X nL σ lv (pc + 1) (.long (x / y) :: st)) : WW G X nL σ lv pc (.long y :: .long x :: st) := by
  obtain ⟨p, e, R, s, m, args, below, meth, c, Q, A, ck, sk⟩ := X
  obtain ⟨hx, hb, hml, hown, hts, hG, hA, hck, hlv⟩ := cx
  intro H locs ls hl hP hS
  exact lv_ldiv hx hb hdg (gd_some hF).1 (k (gd_some hF).2 H locs ls hl hP hS)

theorem ww_lrem {G : GT} {X : CT} {own : String} {cc : ByteArray} {nL n : Nat} {σ : St} {lv : List (Nat × Value)} {pc : Nat} {st : List Value} {x y : Int64} {β : Type} {F : Option β} {o : β} (cx : Cx G X own cc nL n) (hdg : decode cc pc = .ok (.lrem, 1)) (hF : gd (¬ y = 0) F = some o) (k : F = some o → WW G X nL σ lv (pc + 1) (.long (x - x / y * y) :: st)) : WW G X nL σ lv pc (.long y :: .long x :: st) := by
  obtain ⟨p, e, R, s, m, args, below, meth, c, Q, A, ck, sk⟩ := X
  obtain ⟨hx, hb, hml, hown, hts, hG, hA, hck, hlv⟩ := cx
  intro H locs ls hl hP hS
  exact lv_lrem hx hb hdg (gd_some hF).1 (k (gd_some hF).2 H locs ls hl hP hS)

theorem ww_dup {G : GT} {X : CT} {own : String} {cc : ByteArray} {nL n : Nat} {σ : St} {lv : List (Nat × Value)} {pc : Nat} {st : List Value} {va : Value} (cx : Cx G X own cc nL n) (hdg : decode cc pc = .ok (.dup, 1)) (h1 : va.category = 1) (k : WW G X nL σ lv (pc + 1) (va :: va :: st)) : WW G X nL σ lv pc (va :: st) := by
  obtain ⟨p, e, R, s, m, args, below, meth, c, Q, A, ck, sk⟩ := X
  obtain ⟨hx, hb, hml, hown, hts, hG, hA, hck, hlv⟩ := cx
  intro H locs ls hl hP hS
  exact lv_dup hx hb hdg h1 (k H locs ls hl hP hS)

theorem ww_pop {G : GT} {X : CT} {own : String} {cc : ByteArray} {nL n : Nat} {σ : St} {lv : List (Nat × Value)} {pc : Nat} {st : List Value} {va : Value} (cx : Cx G X own cc nL n) (hdg : decode cc pc = .ok (.pop, 1)) (h1 : va.category = 1) (k : WW G X nL σ lv (pc + 1) (st)) : WW G X nL σ lv pc (va :: st) := by
  obtain ⟨p, e, R, s, m, args, below, meth, c, Q, A, ck, sk⟩ := X
  obtain ⟨hx, hb, hml, hown, hts, hG, hA, hck, hlv⟩ := cx
  intro H locs ls hl hP hS
  exact lv_pop hx hb hdg h1 (k H locs ls hl hP hS)

theorem ww_dup_x1 {G : GT} {X : CT} {own : String} {cc : ByteArray} {nL n : Nat} {σ : St} {lv : List (Nat × Value)} {pc : Nat} {st : List Value} {va vb : Value} (cx : Cx G X own cc nL n) (hdg : decode cc pc = .ok (.dup_x1, 1)) (h1 : va.category = 1) (h2 : vb.category = 1) (k : WW G X nL σ lv (pc + 1) (va :: vb :: va :: st)) : WW G X nL σ lv pc (va :: vb :: st) := by
  obtain ⟨p, e, R, s, m, args, below, meth, c, Q, A, ck, sk⟩ := X
  obtain ⟨hx, hb, hml, hown, hts, hG, hA, hck, hlv⟩ := cx
  intro H locs ls hl hP hS
  exact lv_dup_x1 hx hb hdg h1 h2 (k H locs ls hl hP hS)

theorem ww_dup_x2 {G : GT} {X : CT} {own : String} {cc : ByteArray} {nL n : Nat} {σ : St} {lv : List (Nat × Value)} {pc : Nat} {st : List Value} {va vb vd : Value} (cx : Cx G X own cc nL n) (hdg : decode cc pc = .ok (.dup_x2, 1)) (h1 : va.category = 1) (h2 : vb.category = 1) (h3 : vd.category = 1) (k : WW G X nL σ lv (pc + 1) (va :: vb :: vd :: va :: st)) : WW G X nL σ lv pc (va :: vb :: vd :: st) := by
  obtain ⟨p, e, R, s, m, args, below, meth, c, Q, A, ck, sk⟩ := X
  obtain ⟨hx, hb, hml, hown, hts, hG, hA, hck, hlv⟩ := cx
  intro H locs ls hl hP hS
  exact lv_dup_x2 hx hb hdg h1 h2 h3 (k H locs ls hl hP hS)

theorem ww_dup2 {G : GT} {X : CT} {own : String} {cc : ByteArray} {nL n : Nat} {σ : St} {lv : List (Nat × Value)} {pc : Nat} {st : List Value} {va vb : Value} (cx : Cx G X own cc nL n) (hdg : decode cc pc = .ok (.dup2, 1)) (h1 : va.category = 1) (h2 : vb.category = 1) (k : WW G X nL σ lv (pc + 1) (va :: vb :: va :: vb :: st)) : WW G X nL σ lv pc (va :: vb :: st) := by
  obtain ⟨p, e, R, s, m, args, below, meth, c, Q, A, ck, sk⟩ := X
  obtain ⟨hx, hb, hml, hown, hts, hG, hA, hck, hlv⟩ := cx
  intro H locs ls hl hP hS
  exact lv_dup2_11 hx hb hdg h1 h2 (k H locs ls hl hP hS)

theorem ww_iload_n {G : GT} {X : CT} {own : String} {cc : ByteArray} {nL n : Nat} {σ : St} {lv : List (Nat × Value)} {pc : Nat} {st : List Value} {z : Fin 4} {i : Nat} {x : Int32} (cx : Cx G X own cc nL n) (hdg : decode cc pc = .ok (.iload_n z, 1)) (hi : (z : Nat) = i) (j : Nat) (hj : lv[j]? = some (i, .int x)) (k : WW G X nL σ lv (pc + 1) (.int x :: st)) : WW G X nL σ lv pc st := by
  obtain ⟨p, e, R, s, m, args, below, meth, c, Q, A, ck, sk⟩ := X
  obtain ⟨hx, hb, hml, hown, hts, hG, hA, hck, hlv⟩ := cx
  intro H locs ls hl hP hS
  exact lv_iload_n hx hb hdg hi (lv_at hl j hj) (k H locs ls hl hP hS)

theorem ww_iload {G : GT} {X : CT} {own : String} {cc : ByteArray} {nL n : Nat} {σ : St} {lv : List (Nat × Value)} {pc : Nat} {st : List Value} {i : Nat} {x : Int32} (cx : Cx G X own cc nL n) (hdg : decode cc pc = .ok (.iload i, 2)) (j : Nat) (hj : lv[j]? = some (i, .int x)) (k : WW G X nL σ lv (pc + 2) (.int x :: st)) : WW G X nL σ lv pc st := by
  obtain ⟨p, e, R, s, m, args, below, meth, c, Q, A, ck, sk⟩ := X
  obtain ⟨hx, hb, hml, hown, hts, hG, hA, hck, hlv⟩ := cx
  intro H locs ls hl hP hS
  exact lv_iload hx hb hdg (lv_at hl j hj) (k H locs ls hl hP hS)

theorem ww_lload_n {G : GT} {X : CT} {own : String} {cc : ByteArray} {nL n : Nat} {σ : St} {lv : List (Nat × Value)} {pc : Nat} {st : List Value} {z : Fin 4} {i : Nat} {x : Int64} (cx : Cx G X own cc nL n) (hdg : decode cc pc = .ok (.lload_n z, 1)) (hi : (z : Nat) = i) (j : Nat) (hj : lv[j]? = some (i, .long x)) (k : WW G X nL σ lv (pc + 1) (.long x :: st)) : WW G X nL σ lv pc st := by
  obtain ⟨p, e, R, s, m, args, below, meth, c, Q, A, ck, sk⟩ := X
  obtain ⟨hx, hb, hml, hown, hts, hG, hA, hck, hlv⟩ := cx
  intro H locs ls hl hP hS
  exact lv_lload_n hx hb hdg hi (lv_at hl j hj) (k H locs ls hl hP hS)

theorem ww_lload {G : GT} {X : CT} {own : String} {cc : ByteArray} {nL n : Nat} {σ : St} {lv : List (Nat × Value)} {pc : Nat} {st : List Value} {i : Nat} {x : Int64} (cx : Cx G X own cc nL n) (hdg : decode cc pc = .ok (.lload i, 2)) (j : Nat) (hj : lv[j]? = some (i, .long x)) (k : WW G X nL σ lv (pc + 2) (.long x :: st)) : WW G X nL σ lv pc st := by
  obtain ⟨p, e, R, s, m, args, below, meth, c, Q, A, ck, sk⟩ := X
  obtain ⟨hx, hb, hml, hown, hts, hG, hA, hck, hlv⟩ := cx
  intro H locs ls hl hP hS
  exact lv_lload hx hb hdg (lv_at hl j hj) (k H locs ls hl hP hS)

theorem ww_aload_n {G : GT} {X : CT} {own : String} {cc : ByteArray} {nL n : Nat} {σ : St} {lv : List (Nat × Value)} {pc : Nat} {st : List Value} {z : Fin 4} {i : Nat} {x : Nat} (cx : Cx G X own cc nL n) (hdg : decode cc pc = .ok (.aload_n z, 1)) (hi : (z : Nat) = i) (j : Nat) (hj : lv[j]? = some (i, .ref x)) (k : WW G X nL σ lv (pc + 1) (.ref x :: st)) : WW G X nL σ lv pc st := by
  obtain ⟨p, e, R, s, m, args, below, meth, c, Q, A, ck, sk⟩ := X
  obtain ⟨hx, hb, hml, hown, hts, hG, hA, hck, hlv⟩ := cx
  intro H locs ls hl hP hS
  exact lv_aload_n hx hb hdg hi (lv_at hl j hj) (k H locs ls hl hP hS)

theorem ww_aload {G : GT} {X : CT} {own : String} {cc : ByteArray} {nL n : Nat} {σ : St} {lv : List (Nat × Value)} {pc : Nat} {st : List Value} {i : Nat} {x : Nat} (cx : Cx G X own cc nL n) (hdg : decode cc pc = .ok (.aload i, 2)) (j : Nat) (hj : lv[j]? = some (i, .ref x)) (k : WW G X nL σ lv (pc + 2) (.ref x :: st)) : WW G X nL σ lv pc st := by
  obtain ⟨p, e, R, s, m, args, below, meth, c, Q, A, ck, sk⟩ := X
  obtain ⟨hx, hb, hml, hown, hts, hG, hA, hck, hlv⟩ := cx
  intro H locs ls hl hP hS
  exact lv_aload hx hb hdg (lv_at hl j hj) (k H locs ls hl hP hS)

theorem ww_istore_n {G : GT} {X : CT} {own : String} {cc : ByteArray} {nL n : Nat} {σ : St} {lv : List (Nat × Value)} {pc : Nat} {st : List Value} {z : Fin 4} {i : Nat} {x : Int32} {ks : List Nat} {lv' : Int32 → List (Nat × Value)} {β : Type} {F : Int32 → Option β} {o : β} (cx : Cx G X own cc nL n) (hdg : decode cc pc = .ok (.istore_n z, 1)) (hi : (z : Nat) = i) (hn : i < nL) (hF : lt x F = some o) (hlv : ∀ v : Int32, lv_pick ((i, .int v) :: lv.filter (fun q => !(q.1 == i) && !(q.1 + 1 == i && q.2.category == 2))) ks = lv' v) (k : ∀ v : Int32, F v = some o → WW G X nL σ (lv' v) (pc + 1) st) : WW G X nL σ lv pc (.int x :: st) := by
  obtain ⟨p, e, R, s, m, args, below, meth, c, Q, A, ck, sk⟩ := X
  obtain ⟨hx, hb, hml, hown, hts, hG, hA, hck, hlm⟩ := cx
  intro H locs ls hl hP hS
  exact lv_istore_n hx hb hdg hi hl hn rfl (fun ls2 hl2 => k x hF H locs ls2 (lv_sub hl2 ks (hlv x)) hP hS)

theorem ww_istore {G : GT} {X : CT} {own : String} {cc : ByteArray} {nL n : Nat} {σ : St} {lv : List (Nat × Value)} {pc : Nat} {st : List Value} {i : Nat} {x : Int32} {ks : List Nat} {lv' : Int32 → List (Nat × Value)} {β : Type} {F : Int32 → Option β} {o : β} (cx : Cx G X own cc nL n) (hdg : decode cc pc = .ok (.istore i, 2)) (hn : i < nL) (hF : lt x F = some o) (hlv : ∀ v : Int32, lv_pick ((i, .int v) :: lv.filter (fun q => !(q.1 == i) && !(q.1 + 1 == i && q.2.category == 2))) ks = lv' v) (k : ∀ v : Int32, F v = some o → WW G X nL σ (lv' v) (pc + 2) st) : WW G X nL σ lv pc (.int x :: st) := by
  obtain ⟨p, e, R, s, m, args, below, meth, c, Q, A, ck, sk⟩ := X
  obtain ⟨hx, hb, hml, hown, hts, hG, hA, hck, hlm⟩ := cx
  intro H locs ls hl hP hS
  exact lv_istore hx hb hdg hl hn rfl (fun ls2 hl2 => k x hF H locs ls2 (lv_sub hl2 ks (hlv x)) hP hS)

theorem ww_lstore_n {G : GT} {X : CT} {own : String} {cc : ByteArray} {nL n : Nat} {σ : St} {lv : List (Nat × Value)} {pc : Nat} {st : List Value} {z : Fin 4} {i : Nat} {x : Int64} {ks : List Nat} {lv' : Int64 → List (Nat × Value)} {β : Type} {F : Int64 → Option β} {o : β} (cx : Cx G X own cc nL n) (hdg : decode cc pc = .ok (.lstore_n z, 1)) (hi : (z : Nat) = i) (hn : i + 1 < nL) (hF : lt x F = some o) (hlv : ∀ v : Int64, lv_pick ((i, .long v) :: lv.filter (fun q => !(q.1 == i) && (!(q.1 == i + 1) && !(q.1 + 1 == i && q.2.category == 2)))) ks = lv' v) (k : ∀ v : Int64, F v = some o → WW G X nL σ (lv' v) (pc + 1) st) : WW G X nL σ lv pc (.long x :: st) := by
  obtain ⟨p, e, R, s, m, args, below, meth, c, Q, A, ck, sk⟩ := X
  obtain ⟨hx, hb, hml, hown, hts, hG, hA, hck, hlm⟩ := cx
  intro H locs ls hl hP hS
  exact lv_lstore_n hx hb hdg hi hl hn rfl (fun ls2 hl2 => k x hF H locs ls2 (lv_sub hl2 ks (hlv x)) hP hS)

theorem ww_lstore {G : GT} {X : CT} {own : String} {cc : ByteArray} {nL n : Nat} {σ : St} {lv : List (Nat × Value)} {pc : Nat} {st : List Value} {i : Nat} {x : Int64} {ks : List Nat} {lv' : Int64 → List (Nat × Value)} {β : Type} {F : Int64 → Option β} {o : β} (cx : Cx G X own cc nL n) (hdg : decode cc pc = .ok (.lstore i, 2)) (hn : i + 1 < nL) (hF : lt x F = some o) (hlv : ∀ v : Int64, lv_pick ((i, .long v) :: lv.filter (fun q => !(q.1 == i) && (!(q.1 == i + 1) && !(q.1 + 1 == i && q.2.category == 2)))) ks = lv' v) (k : ∀ v : Int64, F v = some o → WW G X nL σ (lv' v) (pc + 2) st) : WW G X nL σ lv pc (.long x :: st) := by
  obtain ⟨p, e, R, s, m, args, below, meth, c, Q, A, ck, sk⟩ := X
  obtain ⟨hx, hb, hml, hown, hts, hG, hA, hck, hlm⟩ := cx
  intro H locs ls hl hP hS
  exact lv_lstore hx hb hdg hl hn rfl (fun ls2 hl2 => k x hF H locs ls2 (lv_sub hl2 ks (hlv x)) hP hS)

theorem ww_astore_n {G : GT} {X : CT} {own : String} {cc : ByteArray} {nL n : Nat} {σ : St} {lv : List (Nat × Value)} {pc : Nat} {st : List Value} {z : Fin 4} {i x : Nat} {ks : List Nat} {lv' : List (Nat × Value)} (cx : Cx G X own cc nL n) (hdg : decode cc pc = .ok (.astore_n z, 1)) (hi : (z : Nat) = i) (hn : i < nL) (hlv : lv_pick ((i, .ref x) :: lv.filter (fun q => !(q.1 == i) && !(q.1 + 1 == i && q.2.category == 2))) ks = lv') (k : WW G X nL σ lv' (pc + 1) st) : WW G X nL σ lv pc (.ref x :: st) := by
  obtain ⟨p, e, R, s, m, args, below, meth, c, Q, A, ck, sk⟩ := X
  obtain ⟨hx, hb, hml, hown, hts, hG, hA, hck, hlm⟩ := cx
  intro H locs ls hl hP hS
  exact lv_astore_n hx hb hdg hi hl hn rfl (fun ls2 hl2 => k H locs ls2 (lv_sub hl2 ks hlv) hP hS)

theorem ww_astore {G : GT} {X : CT} {own : String} {cc : ByteArray} {nL n : Nat} {σ : St} {lv : List (Nat × Value)} {pc : Nat} {st : List Value} {i x : Nat} {ks : List Nat} {lv' : List (Nat × Value)} (cx : Cx G X own cc nL n) (hdg : decode cc pc = .ok (.astore i, 2)) (hn : i < nL) (hlv : lv_pick ((i, .ref x) :: lv.filter (fun q => !(q.1 == i) && !(q.1 + 1 == i && q.2.category == 2))) ks = lv') (k : WW G X nL σ lv' (pc + 2) st) : WW G X nL σ lv pc (.ref x :: st) := by
  obtain ⟨p, e, R, s, m, args, below, meth, c, Q, A, ck, sk⟩ := X
  obtain ⟨hx, hb, hml, hown, hts, hG, hA, hck, hlm⟩ := cx
  intro H locs ls hl hP hS
  exact lv_astore hx hb hdg hl hn rfl (fun ls2 hl2 => k H locs ls2 (lv_sub hl2 ks hlv) hP hS)

theorem ww_iinc {G : GT} {X : CT} {own : String} {cc : ByteArray} {nL n : Nat} {σ : St} {lv : List (Nat × Value)} {pc : Nat} {st : List Value} {i j : Nat} {z : Int} {x w : Int32} {ks : List Nat} {lv' : Int32 → List (Nat × Value)} {β : Type} {F : Int32 → Option β} {o : β} (cx : Cx G X own cc nL n) (hdg : decode cc pc = .ok (.iinc i z, 3)) (hn : i < nL) (hj : lv[j]? = some (i, .int x)) (hw : Int32.ofInt z = w) (hF : lt (x + w) F = some o) (hlv : ∀ v : Int32, lv_pick ((i, .int v) :: lv.filter (fun q => !(q.1 == i) && !(q.1 + 1 == i && q.2.category == 2))) ks = lv' v) (k : ∀ v : Int32, F v = some o → WW G X nL σ (lv' v) (pc + 3) st) : WW G X nL σ lv pc st := by
  obtain ⟨p, e, R, s, m, args, below, meth, c, Q, A, ck, sk⟩ := X
  obtain ⟨hx, hb, hml, hown, hts, hG, hA, hck, hlm⟩ := cx
  intro H locs ls hl hP hS
  exact lv_iinc (v := x + w) hx hb hdg hl hj (by rw [hw]) hn rfl (fun ls2 hl2 => k (x + w) hF H locs ls2 (lv_sub hl2 ks (hlv (x + w))) hP hS)

theorem ww_sub {G : GT} {X : CT} {nL : Nat} {σ : St} {lv : List (Nat × Value)} {pc : Nat} {st : List Value} {lv' : List (Nat × Value)} (ks : List Nat) (hlv : lv_pick lv ks = lv') (k : WW G X nL σ lv' pc st) : WW G X nL σ lv pc st := by
  obtain ⟨p, e, R, s, m, args, below, meth, c, Q, A, ck, sk⟩ := X
  intro H locs ls hl hP hS
  exact k H locs ls (lv_sub hl ks hlv) hP hS

theorem ww_if_eq {G : GT} {X : CT} {own : String} {cc : ByteArray} {nL n : Nat} {σ : St} {lv : List (Nat × Value)} {pc : Nat} {st : List Value} {x : Int32} {off : Int} {tgt : Nat} {β : Type} {dd : Decidable (x = 0)} {a b : Option β} {o : β} (cx : Cx G X own cc nL n) (hdg : decode cc pc = .ok (.ifCond .eq off, 3)) (ht : (pc : Int) + off = (tgt : Int)) (hF : @ite _ (x = 0) dd a b = some o) (kt : a = some o → WW G X nL σ lv tgt st) (kf : b = some o → WW G X nL σ lv (pc + 3) st) : WW G X nL σ lv pc (.int x :: st) := by
  obtain ⟨p, e, R, s, m, args, below, meth, c, Q, A, ck, sk⟩ := X
  obtain ⟨hx, hb, hml, hown, hts, hG, hA, hck, hlv⟩ := cx
  intro H locs ls hl hP hS
  exact lv_if_eq hx hb hdg ht (fun h => kt (it_t h hF) H locs ls hl hP hS) (fun h => kf (it_f h hF) H locs ls hl hP hS)

theorem ww_if_ne {G : GT} {X : CT} {own : String} {cc : ByteArray} {nL n : Nat} {σ : St} {lv : List (Nat × Value)} {pc : Nat} {st : List Value} {x : Int32} {off : Int} {tgt : Nat} {β : Type} {dd : Decidable (x = 0)} {a b : Option β} {o : β} (cx : Cx G X own cc nL n) (hdg : decode cc pc = .ok (.ifCond .ne off, 3)) (ht : (pc : Int) + off = (tgt : Int)) (hF : @ite _ (x = 0) dd a b = some o) (kt : b = some o → WW G X nL σ lv tgt st) (kf : a = some o → WW G X nL σ lv (pc + 3) st) : WW G X nL σ lv pc (.int x :: st) := by
  obtain ⟨p, e, R, s, m, args, below, meth, c, Q, A, ck, sk⟩ := X
  obtain ⟨hx, hb, hml, hown, hts, hG, hA, hck, hlv⟩ := cx
  intro H locs ls hl hP hS
  exact lv_if_ne hx hb hdg ht (fun h => kt (it_f h hF) H locs ls hl hP hS) (fun h => kf (it_t h hF) H locs ls hl hP hS)

theorem ww_if_lt {G : GT} {X : CT} {own : String} {cc : ByteArray} {nL n : Nat} {σ : St} {lv : List (Nat × Value)} {pc : Nat} {st : List Value} {x : Int32} {off : Int} {tgt : Nat} {β : Type} {dd : Decidable (x < 0)} {a b : Option β} {o : β} (cx : Cx G X own cc nL n) (hdg : decode cc pc = .ok (.ifCond .lt off, 3)) (ht : (pc : Int) + off = (tgt : Int)) (hF : @ite _ (x < 0) dd a b = some o) (kt : a = some o → WW G X nL σ lv tgt st) (kf : b = some o → WW G X nL σ lv (pc + 3) st) : WW G X nL σ lv pc (.int x :: st) := by
  obtain ⟨p, e, R, s, m, args, below, meth, c, Q, A, ck, sk⟩ := X
  obtain ⟨hx, hb, hml, hown, hts, hG, hA, hck, hlv⟩ := cx
  intro H locs ls hl hP hS
  exact lv_if_lt hx hb hdg ht (fun h => kt (it_t h hF) H locs ls hl hP hS) (fun h => kf (it_f h hF) H locs ls hl hP hS)

theorem ww_if_ge {G : GT} {X : CT} {own : String} {cc : ByteArray} {nL n : Nat} {σ : St} {lv : List (Nat × Value)} {pc : Nat} {st : List Value} {x : Int32} {off : Int} {tgt : Nat} {β : Type} {dd : Decidable (0 ≤ x)} {a b : Option β} {o : β} (cx : Cx G X own cc nL n) (hdg : decode cc pc = .ok (.ifCond .ge off, 3)) (ht : (pc : Int) + off = (tgt : Int)) (hF : @ite _ (0 ≤ x) dd a b = some o) (kt : a = some o → WW G X nL σ lv tgt st) (kf : b = some o → WW G X nL σ lv (pc + 3) st) : WW G X nL σ lv pc (.int x :: st) := by
  obtain ⟨p, e, R, s, m, args, below, meth, c, Q, A, ck, sk⟩ := X
  obtain ⟨hx, hb, hml, hown, hts, hG, hA, hck, hlv⟩ := cx
  intro H locs ls hl hP hS
  exact lv_if_ge hx hb hdg ht (fun h => kt (it_t h hF) H locs ls hl hP hS) (fun h => kf (it_f h hF) H locs ls hl hP hS)

theorem ww_if_gt {G : GT} {X : CT} {own : String} {cc : ByteArray} {nL n : Nat} {σ : St} {lv : List (Nat × Value)} {pc : Nat} {st : List Value} {x : Int32} {off : Int} {tgt : Nat} {β : Type} {dd : Decidable (0 < x)} {a b : Option β} {o : β} (cx : Cx G X own cc nL n) (hdg : decode cc pc = .ok (.ifCond .gt off, 3)) (ht : (pc : Int) + off = (tgt : Int)) (hF : @ite _ (0 < x) dd a b = some o) (kt : a = some o → WW G X nL σ lv tgt st) (kf : b = some o → WW G X nL σ lv (pc + 3) st) : WW G X nL σ lv pc (.int x :: st) := by
  obtain ⟨p, e, R, s, m, args, below, meth, c, Q, A, ck, sk⟩ := X
  obtain ⟨hx, hb, hml, hown, hts, hG, hA, hck, hlv⟩ := cx
  intro H locs ls hl hP hS
  exact lv_if_gt hx hb hdg ht (fun h => kt (it_t h hF) H locs ls hl hP hS) (fun h => kf (it_f h hF) H locs ls hl hP hS)

theorem ww_if_le {G : GT} {X : CT} {own : String} {cc : ByteArray} {nL n : Nat} {σ : St} {lv : List (Nat × Value)} {pc : Nat} {st : List Value} {x : Int32} {off : Int} {tgt : Nat} {β : Type} {dd : Decidable (x ≤ 0)} {a b : Option β} {o : β} (cx : Cx G X own cc nL n) (hdg : decode cc pc = .ok (.ifCond .le off, 3)) (ht : (pc : Int) + off = (tgt : Int)) (hF : @ite _ (x ≤ 0) dd a b = some o) (kt : a = some o → WW G X nL σ lv tgt st) (kf : b = some o → WW G X nL σ lv (pc + 3) st) : WW G X nL σ lv pc (.int x :: st) := by
  obtain ⟨p, e, R, s, m, args, below, meth, c, Q, A, ck, sk⟩ := X
  obtain ⟨hx, hb, hml, hown, hts, hG, hA, hck, hlv⟩ := cx
  intro H locs ls hl hP hS
  exact lv_if_le hx hb hdg ht (fun h => kt (it_t h hF) H locs ls hl hP hS) (fun h => kf (it_f h hF) H locs ls hl hP hS)

theorem ww_icmp_eq {G : GT} {X : CT} {own : String} {cc : ByteArray} {nL n : Nat} {σ : St} {lv : List (Nat × Value)} {pc : Nat} {st : List Value} {x y : Int32} {off : Int} {tgt : Nat} {β : Type} {dd : Decidable (x = y)} {a b : Option β} {o : β} (cx : Cx G X own cc nL n) (hdg : decode cc pc = .ok (.if_icmp .eq off, 3)) (ht : (pc : Int) + off = (tgt : Int)) (hF : @ite _ (x = y) dd a b = some o) (kt : a = some o → WW G X nL σ lv tgt st) (kf : b = some o → WW G X nL σ lv (pc + 3) st) : WW G X nL σ lv pc (.int y :: .int x :: st) := by
  obtain ⟨p, e, R, s, m, args, below, meth, c, Q, A, ck, sk⟩ := X
  obtain ⟨hx, hb, hml, hown, hts, hG, hA, hck, hlv⟩ := cx
  intro H locs ls hl hP hS
  exact lv_icmp_eq hx hb hdg ht (fun h => kt (it_t h hF) H locs ls hl hP hS) (fun h => kf (it_f h hF) H locs ls hl hP hS)

theorem ww_icmp_ne {G : GT} {X : CT} {own : String} {cc : ByteArray} {nL n : Nat} {σ : St} {lv : List (Nat × Value)} {pc : Nat} {st : List Value} {x y : Int32} {off : Int} {tgt : Nat} {β : Type} {dd : Decidable (x = y)} {a b : Option β} {o : β} (cx : Cx G X own cc nL n) (hdg : decode cc pc = .ok (.if_icmp .ne off, 3)) (ht : (pc : Int) + off = (tgt : Int)) (hF : @ite _ (x = y) dd a b = some o) (kt : b = some o → WW G X nL σ lv tgt st) (kf : a = some o → WW G X nL σ lv (pc + 3) st) : WW G X nL σ lv pc (.int y :: .int x :: st) := by
  obtain ⟨p, e, R, s, m, args, below, meth, c, Q, A, ck, sk⟩ := X
  obtain ⟨hx, hb, hml, hown, hts, hG, hA, hck, hlv⟩ := cx
  intro H locs ls hl hP hS
  exact lv_icmp_ne hx hb hdg ht (fun h => kt (it_f h hF) H locs ls hl hP hS) (fun h => kf (it_t h hF) H locs ls hl hP hS)

theorem ww_icmp_lt {G : GT} {X : CT} {own : String} {cc : ByteArray} {nL n : Nat} {σ : St} {lv : List (Nat × Value)} {pc : Nat} {st : List Value} {x y : Int32} {off : Int} {tgt : Nat} {β : Type} {dd : Decidable (x < y)} {a b : Option β} {o : β} (cx : Cx G X own cc nL n) (hdg : decode cc pc = .ok (.if_icmp .lt off, 3)) (ht : (pc : Int) + off = (tgt : Int)) (hF : @ite _ (x < y) dd a b = some o) (kt : a = some o → WW G X nL σ lv tgt st) (kf : b = some o → WW G X nL σ lv (pc + 3) st) : WW G X nL σ lv pc (.int y :: .int x :: st) := by
  obtain ⟨p, e, R, s, m, args, below, meth, c, Q, A, ck, sk⟩ := X
  obtain ⟨hx, hb, hml, hown, hts, hG, hA, hck, hlv⟩ := cx
  intro H locs ls hl hP hS
  exact lv_icmp_lt hx hb hdg ht (fun h => kt (it_t h hF) H locs ls hl hP hS) (fun h => kf (it_f h hF) H locs ls hl hP hS)

theorem ww_icmp_ge {G : GT} {X : CT} {own : String} {cc : ByteArray} {nL n : Nat} {σ : St} {lv : List (Nat × Value)} {pc : Nat} {st : List Value} {x y : Int32} {off : Int} {tgt : Nat} {β : Type} {dd : Decidable (y ≤ x)} {a b : Option β} {o : β} (cx : Cx G X own cc nL n) (hdg : decode cc pc = .ok (.if_icmp .ge off, 3)) (ht : (pc : Int) + off = (tgt : Int)) (hF : @ite _ (y ≤ x) dd a b = some o) (kt : a = some o → WW G X nL σ lv tgt st) (kf : b = some o → WW G X nL σ lv (pc + 3) st) : WW G X nL σ lv pc (.int y :: .int x :: st) := by
  obtain ⟨p, e, R, s, m, args, below, meth, c, Q, A, ck, sk⟩ := X
  obtain ⟨hx, hb, hml, hown, hts, hG, hA, hck, hlv⟩ := cx
  intro H locs ls hl hP hS
  exact lv_icmp_ge hx hb hdg ht (fun h => kt (it_t h hF) H locs ls hl hP hS) (fun h => kf (it_f h hF) H locs ls hl hP hS)

theorem ww_icmp_gt {G : GT} {X : CT} {own : String} {cc : ByteArray} {nL n : Nat} {σ : St} {lv : List (Nat × Value)} {pc : Nat} {st : List Value} {x y : Int32} {off : Int} {tgt : Nat} {β : Type} {dd : Decidable (y < x)} {a b : Option β} {o : β} (cx : Cx G X own cc nL n) (hdg : decode cc pc = .ok (.if_icmp .gt off, 3)) (ht : (pc : Int) + off = (tgt : Int)) (hF : @ite _ (y < x) dd a b = some o) (kt : a = some o → WW G X nL σ lv tgt st) (kf : b = some o → WW G X nL σ lv (pc + 3) st) : WW G X nL σ lv pc (.int y :: .int x :: st) := by
  obtain ⟨p, e, R, s, m, args, below, meth, c, Q, A, ck, sk⟩ := X
  obtain ⟨hx, hb, hml, hown, hts, hG, hA, hck, hlv⟩ := cx
  intro H locs ls hl hP hS
  exact lv_icmp_gt hx hb hdg ht (fun h => kt (it_t h hF) H locs ls hl hP hS) (fun h => kf (it_f h hF) H locs ls hl hP hS)

theorem ww_icmp_le {G : GT} {X : CT} {own : String} {cc : ByteArray} {nL n : Nat} {σ : St} {lv : List (Nat × Value)} {pc : Nat} {st : List Value} {x y : Int32} {off : Int} {tgt : Nat} {β : Type} {dd : Decidable (x ≤ y)} {a b : Option β} {o : β} (cx : Cx G X own cc nL n) (hdg : decode cc pc = .ok (.if_icmp .le off, 3)) (ht : (pc : Int) + off = (tgt : Int)) (hF : @ite _ (x ≤ y) dd a b = some o) (kt : a = some o → WW G X nL σ lv tgt st) (kf : b = some o → WW G X nL σ lv (pc + 3) st) : WW G X nL σ lv pc (.int y :: .int x :: st) := by
  obtain ⟨p, e, R, s, m, args, below, meth, c, Q, A, ck, sk⟩ := X
  obtain ⟨hx, hb, hml, hown, hts, hG, hA, hck, hlv⟩ := cx
  intro H locs ls hl hP hS
  exact lv_icmp_le hx hb hdg ht (fun h => kt (it_t h hF) H locs ls hl hP hS) (fun h => kf (it_f h hF) H locs ls hl hP hS)

theorem ww_goto {G : GT} {X : CT} {own : String} {cc : ByteArray} {nL n : Nat} {σ : St} {lv : List (Nat × Value)} {pc : Nat} {st : List Value} {off : Int} {tgt : Nat} (cx : Cx G X own cc nL n) (hdg : decode cc pc = .ok (.goto off, 3)) (ht : (pc : Int) + off = (tgt : Int)) (k : WW G X nL σ lv tgt st) : WW G X nL σ lv pc st := by
  obtain ⟨p, e, R, s, m, args, below, meth, c, Q, A, ck, sk⟩ := X
  obtain ⟨hx, hb, hml, hown, hts, hG, hA, hck, hlv⟩ := cx
  intro H locs ls hl hP hS
  exact lv_goto hx hb hdg ht (k H locs ls hl hP hS)

theorem ww_get {G : GT} {X : CT} {own : String} {cc : ByteArray} {nL n : Nat} {σ : St} {lv : List (Nat × Value)} {pc : Nat} {st : List Value} {t j ci index : Nat} {fs : List (Option Nat)} {f : Option Nat} {C : String} {T : u_T} {N : Nat} (hc : clz[ci]? = some (C, T, N)) (hin : ∀ w ∈ u_ws C T N, w ∈ TBL) (hj : j < N) (hlink : Cond.fieldLink own index (T j).1 (T j).2.1 (T j).2.2.1 ∈ TBL) (cx : Cx G X own cc nL n) (hs : shp[t]? = some (.inr (.inl (ci, fs)))) (hf : fs[j]? = some f) (hdg : decode cc pc = .ok (.getfield index, 3)) (k : WW G X nL σ lv (pc + 3) (fld G σ t j f :: st)) : WW G X nL σ lv pc (.ref (gad G t) :: st) := by
  obtain ⟨p, e, R, s, m, args, below, meth, c, Q, A, ck, sk⟩ := X
  obtain ⟨hx, hb, hml, hown, hts, hG, hA, hck, hlv⟩ := cx
  intro H locs ls hl hP hS
  exact va_get (C := C) (T := T) (N := N) (ref := (T j).1) (fs := fs.mapIdx (fld G σ t)) hx hb hts hin hown hG.1 hP t (wld_at hs) hc j hj (hts _ hlink) (fun _ h => h) (by rw [List.getElem?_mapIdx, hf]; rfl) hdg (k H locs ls hl hP hS)

theorem ww_put {G : GT} {X : CT} {own : String} {cc : ByteArray} {nL n : Nat} {σ : St} {lv : List (Nat × Value)} {pc : Nat} {st : List Value} {t j ci index : Nat} {fs : List (Option Nat)} {C : String} {T : u_T} {N : Nat} {x : Int32} {β : Type} {F : St → Option β} {o : β} (hc : clz[ci]? = some (C, T, N)) (hin : ∀ w ∈ u_ws C T N, w ∈ TBL) (ty0 : Nat → FieldType) (hty : ∀ k, k < N → parseFieldDescriptor (T k).2.2.1 = some (ty0 k)) (hnm : ∀ a, a < N → ∀ b, b < N → a ≠ b → (T a).2.1 ≠ (T b).2.1) (hj : j < N) (hlink : Cond.fieldLink own index (T j).1 (T j).2.1 (T j).2.2.1 ∈ TBL) (hfin : (T j).2.2.2 = false) (hd : parseFieldDescriptor (T j).2.2.1 = some .int) (cx : Cx G X own cc nL n) (hs : shp[t]? = some (.inr (.inl (ci, fs)))) (hf : fs[j]? = some none) (hdg : decode cc pc = .ok (.putfield index, 3)) (hF : lt (setI σ t j x) F = some o) (k : ∀ σ1 : St, F σ1 = some o → WW G X nL σ1 lv (pc + 3) st) : WW G X nL σ lv pc (.int x :: .ref (gad G t) :: st) := by
  obtain ⟨p, e, R, s, m, args, below, meth, c, Q, A, ck, sk⟩ := X
  obtain ⟨hx, hb, hml, hown, hts, hG, hA, hck, hlv⟩ := cx
  intro H locs ls hl hP hS
  have lt2 : j < (fs.mapIdx (fld G σ t)).length := by rw [List.length_mapIdx]; exact (List.getElem?_eq_some_iff.mp hf).1
  exact va_put (C := C) (T := T) (N := N) (ref := (T j).1) (fs := fs.mapIdx (fld G σ t)) (ty := .int) hx hb hts hin ty0 hty hnm hown hG.1 hP (hG.2.1 σ) hS t (wld_at hs) hc j hj (hts _ hlink) (fun _ h => h) hfin hd rfl rfl lt2 hdg (fun H1 locs1 hP1 _ hS1 => k _ hF H1 locs1 ls hl (by rw [wld_setF hs hf] at hP1; exact hP1) hS1)
theorem ww_putZ {G : GT} {X : CT} {own : String} {cc : ByteArray} {nL n : Nat} {σ : St} {lv : List (Nat × Value)} {pc : Nat} {st : List Value} {t j ci index : Nat} {fs : List (Option Nat)} {C : String} {T : u_T} {N : Nat} {x : Int32} {β : Type} {F : St → Option β} {o : β} (hc : clz[ci]? = some (C, T, N)) (hin : ∀ w ∈ u_ws C T N, w ∈ TBL) (ty0 : Nat → FieldType) (hty : ∀ k, k < N → parseFieldDescriptor (T k).2.2.1 = some (ty0 k)) (hnm : ∀ a, a < N → ∀ b, b < N → a ≠ b → (T a).2.1 ≠ (T b).2.1) (hj : j < N) (hlink : Cond.fieldLink own index (T j).1 (T j).2.1 (T j).2.2.1 ∈ TBL) (hfin : (T j).2.2.2 = false) (hd : parseFieldDescriptor (T j).2.2.1 = some .boolean) (cx : Cx G X own cc nL n) (hs : shp[t]? = some (.inr (.inl (ci, fs)))) (hf : fs[j]? = some none) (hdg : decode cc pc = .ok (.putfield index, 3)) (hF : gd (x = 0 ∨ x = 1) (lt (setI σ t j x) F) = some o) (k : ∀ σ1 : St, F σ1 = some o → WW G X nL σ1 lv (pc + 3) st) : WW G X nL σ lv pc (.int x :: .ref (gad G t) :: st) := by
  obtain ⟨p, e, R, s, m, args, below, meth, c, Q, A, ck, sk⟩ := X
  obtain ⟨hx, hb, hml, hown, hts, hG, hA, hck, hlv⟩ := cx
  intro H locs ls hl hP hS
  have lt2 : j < (fs.mapIdx (fld G σ t)).length := by rw [List.length_mapIdx]; exact (List.getElem?_eq_some_iff.mp hf).1
  obtain ⟨hz, hF⟩ := gd_some hF
  exact va_put (C := C) (T := T) (N := N) (ref := (T j).1) (fs := fs.mapIdx (fld G σ t)) (ty := .boolean) hx hb hts hin ty0 hty hnm hown hG.1 hP (hG.2.1 σ) hS t (wld_at hs) hc j hj (hts _ hlink) (fun _ h => h) hfin hd (by rcases hz with rfl | rfl <;> rfl) (by rcases hz with rfl | rfl <;> rfl) lt2 hdg (fun H1 locs1 hP1 _ hS1 => k _ hF H1 locs1 ls hl (by rw [wld_setF hs hf] at hP1; exact hP1) hS1)

theorem ww_iald {G : GT} {X : CT} {own : String} {cc : ByteArray} {nL n : Nat} {σ : St} {lv : List (Nat × Value)} {pc : Nat} {st : List Value} {t N : Nat} {i : Int32} {β : Type} {F : Option β} {o : β} (cx : Cx G X own cc nL n) (hs : shp[t]? = some (.inl (0, N))) (hdg : decode cc pc = .ok (.iaload, 1)) (hF : gd (ir i N) F = some o) (k : F = some o → WW G X nL σ lv (pc + 1) (.int (σ.1 t i.toNatClampNeg) :: st)) : WW G X nL σ lv pc (.int i :: .ref (gad G t) :: st) := by
  obtain ⟨p, e, R, s, m, args, below, meth, c, Q, A, ck, sk⟩ := X
  obtain ⟨hx, hb, hml, hown, hts, hG, hA, hck, hlv⟩ := cx
  intro H locs ls hl hP hS
  exact va_iald hx hb hG.1 hP t 0 (cA := gca G 0) (n := N) (f := σ.1 t) (wld_at hs) rfl (vp_in_iff.mpr (gd_some hF).1) hdg (k (gd_some hF).2 H locs ls hl hP hS)

theorem ww_zald {G : GT} {X : CT} {own : String} {cc : ByteArray} {nL n : Nat} {σ : St} {lv : List (Nat × Value)} {pc : Nat} {st : List Value} {t N : Nat} {i : Int32} {β : Type} {F : Option β} {o : β} (cx : Cx G X own cc nL n) (hs : shp[t]? = some (.inl (1, N))) (hdg : decode cc pc = .ok (.baload, 1)) (hF : gd (ir i N) F = some o) (k : F = some o → WW G X nL σ lv (pc + 1) (.int (σ.1 t i.toNatClampNeg) :: st)) : WW G X nL σ lv pc (.int i :: .ref (gad G t) :: st) := by
  obtain ⟨p, e, R, s, m, args, below, meth, c, Q, A, ck, sk⟩ := X
  obtain ⟨hx, hb, hml, hown, hts, hG, hA, hck, hlv⟩ := cx
  intro H locs ls hl hP hS
  exact va_zald hx hb hG.1 hP t 1 (cA := gca G 1) (n := N) (f := σ.1 t) (wld_at hs) rfl (vp_in_iff.mpr (gd_some hF).1) hdg (k (gd_some hF).2 H locs ls hl hP hS)

theorem ww_bald {G : GT} {X : CT} {own : String} {cc : ByteArray} {nL n : Nat} {σ : St} {lv : List (Nat × Value)} {pc : Nat} {st : List Value} {t N : Nat} {i : Int32} {β : Type} {F : Option β} {o : β} (cx : Cx G X own cc nL n) (hs : shp[t]? = some (.inl (2, N))) (hdg : decode cc pc = .ok (.baload, 1)) (hF : gd (ir i N) F = some o) (k : F = some o → WW G X nL σ lv (pc + 1) (.int (σ.1 t i.toNatClampNeg) :: st)) : WW G X nL σ lv pc (.int i :: .ref (gad G t) :: st) := by
  obtain ⟨p, e, R, s, m, args, below, meth, c, Q, A, ck, sk⟩ := X
  obtain ⟨hx, hb, hml, hown, hts, hG, hA, hck, hlv⟩ := cx
  intro H locs ls hl hP hS
  exact va_bald hx hb hG.1 hP t 2 (cA := gca G 2) (n := N) (f := σ.1 t) (wld_at hs) rfl (vp_in_iff.mpr (gd_some hF).1) hdg (k (gd_some hF).2 H locs ls hl hP hS)

theorem ww_lald {G : GT} {X : CT} {own : String} {cc : ByteArray} {nL n : Nat} {σ : St} {lv : List (Nat × Value)} {pc : Nat} {st : List Value} {t N : Nat} {i : Int32} {β : Type} {F : Option β} {o : β} (cx : Cx G X own cc nL n) (hs : shp[t]? = some (.inl (3, N))) (hdg : decode cc pc = .ok (.laload, 1)) (hF : gd (ir i N) F = some o) (k : F = some o → WW G X nL σ lv (pc + 1) (.long (σ.2 t i.toNatClampNeg) :: st)) : WW G X nL σ lv pc (.int i :: .ref (gad G t) :: st) := by
  obtain ⟨p, e, R, s, m, args, below, meth, c, Q, A, ck, sk⟩ := X
  obtain ⟨hx, hb, hml, hown, hts, hG, hA, hck, hlv⟩ := cx
  intro H locs ls hl hP hS
  exact va_lald hx hb hG.1 hP t 3 (cA := gca G 3) (n := N) (f := σ.2 t) (wld_at hs) rfl (vp_in_iff.mpr (gd_some hF).1) hdg (k (gd_some hF).2 H locs ls hl hP hS)
theorem ww_iast {G : GT} {X : CT} {own : String} {cc : ByteArray} {nL n : Nat} {σ : St} {lv : List (Nat × Value)} {pc : Nat} {st : List Value} {t N : Nat} {i x : Int32} {β : Type} {F : St → Option β} {o : β} (cx : Cx G X own cc nL n) (hs : shp[t]? = some (.inl (0, N))) (hdg : decode cc pc = .ok (.iastore, 1)) (hF : gd (ir i N) (lt (setI σ t i.toNatClampNeg x) F) = some o) (k : ∀ σ1 : St, F σ1 = some o → WW G X nL σ1 lv (pc + 1) st) : WW G X nL σ lv pc (.int x :: .int i :: .ref (gad G t) :: st) := by
  obtain ⟨p, e, R, s, m, args, below, meth, c, Q, A, ck, sk⟩ := X
  obtain ⟨hx, hb, hml, hown, hts, hG, hA, hck, hlv⟩ := cx
  intro H locs ls hl hP hS
  exact va_iast hx hb hG.1 hP (hG.2.1 σ) hS t 0 (cA := gca G 0) (n := N) (f := σ.1 t) (wld_at hs) rfl (vp_in_iff.mpr (gd_some hF).1) hdg (fun H1 locs1 hP1 _ hS1 => k _ (gd_some hF).2 H1 locs1 ls hl (by rw [wld_setA hs (by decide)] at hP1; exact hP1) hS1)
theorem ww_bast {G : GT} {X : CT} {own : String} {cc : ByteArray} {nL n : Nat} {σ : St} {lv : List (Nat × Value)} {pc : Nat} {st : List Value} {t N : Nat} {i x : Int32} {β : Type} {F : St → Option β} {o : β} (cx : Cx G X own cc nL n) (hs : shp[t]? = some (.inl (2, N))) (hdg : decode cc pc = .ok (.bastore, 1)) (hF : gd (ir i N) (lt (setI σ t i.toNatClampNeg x.toInt8.toInt32) F) = some o) (k : ∀ σ1 : St, F σ1 = some o → WW G X nL σ1 lv (pc + 1) st) : WW G X nL σ lv pc (.int x :: .int i :: .ref (gad G t) :: st) := by
  obtain ⟨p, e, R, s, m, args, below, meth, c, Q, A, ck, sk⟩ := X
  obtain ⟨hx, hb, hml, hown, hts, hG, hA, hck, hlv⟩ := cx
  intro H locs ls hl hP hS
  exact va_bast hx hb hG.1 hP (hG.2.1 σ) hS t 2 (cA := gca G 2) (n := N) (f := σ.1 t) (wld_at hs) rfl (vp_in_iff.mpr (gd_some hF).1) hdg (fun H1 locs1 hP1 _ hS1 => k _ (gd_some hF).2 H1 locs1 ls hl (by rw [wld_setA hs (by decide)] at hP1; exact hP1) hS1)
theorem ww_zast {G : GT} {X : CT} {own : String} {cc : ByteArray} {nL n : Nat} {σ : St} {lv : List (Nat × Value)} {pc : Nat} {st : List Value} {t N : Nat} {i x : Int32} {β : Type} {F : St → Option β} {o : β} (cx : Cx G X own cc nL n) (hs : shp[t]? = some (.inl (1, N))) (hdg : decode cc pc = .ok (.bastore, 1)) (hF : gd (ir i N) (gd (x = 0 ∨ x = 1) (lt (setI σ t i.toNatClampNeg x) F)) = some o) (k : ∀ σ1 : St, F σ1 = some o → WW G X nL σ1 lv (pc + 1) st) : WW G X nL σ lv pc (.int x :: .int i :: .ref (gad G t) :: st) := by
  obtain ⟨p, e, R, s, m, args, below, meth, c, Q, A, ck, sk⟩ := X
  obtain ⟨hx, hb, hml, hown, hts, hG, hA, hck, hlv⟩ := cx
  intro H locs ls hl hP hS
  obtain ⟨hi, hF⟩ := gd_some hF
  obtain ⟨hz, hF⟩ := gd_some hF
  have hn : vp_nar .boolean x = x := by rcases hz with rfl | rfl <;> rfl
  exact va_zast hx hb hG.1 hP (hG.2.1 σ) hS t 1 (cA := gca G 1) (n := N) (f := σ.1 t) (wld_at hs) rfl (vp_in_iff.mpr hi) hdg (fun H1 locs1 hP1 _ hS1 => k _ hF H1 locs1 ls hl (by rw [hn, wld_setA hs (by decide)] at hP1; exact hP1) hS1)
theorem ww_last {G : GT} {X : CT} {own : String} {cc : ByteArray} {nL n : Nat} {σ : St} {lv : List (Nat × Value)} {pc : Nat} {st : List Value} {t N : Nat} {i : Int32} {x : Int64} {β : Type} {F : St → Option β} {o : β} (cx : Cx G X own cc nL n) (hs : shp[t]? = some (.inl (3, N))) (hdg : decode cc pc = .ok (.lastore, 1)) (hF : gd (ir i N) (lt (setL σ t i.toNatClampNeg x) F) = some o) (k : ∀ σ1 : St, F σ1 = some o → WW G X nL σ1 lv (pc + 1) st) : WW G X nL σ lv pc (.long x :: .int i :: .ref (gad G t) :: st) := by
  obtain ⟨p, e, R, s, m, args, below, meth, c, Q, A, ck, sk⟩ := X
  obtain ⟨hx, hb, hml, hown, hts, hG, hA, hck, hlv⟩ := cx
  intro H locs ls hl hP hS
  exact va_last hx hb hG.1 hP (hG.2.1 σ) hS t 3 (cA := gca G 3) (n := N) (f := σ.2 t) (wld_at hs) rfl (vp_in_iff.mpr (gd_some hF).1) hdg (fun H1 locs1 hP1 _ hS1 => k _ (gd_some hF).2 H1 locs1 ls hl (by rw [wld_setJ hs] at hP1; exact hP1) hS1)
theorem ww_aald {G : GT} {X : CT} {own : String} {cc : ByteArray} {nL n : Nat} {σ : St} {lv : List (Nat × Value)} {pc : Nat} {st : List Value} {t kd : Nat} {rs : List Nat} {C : String} {i : Int32} {f : Nat → Nat} {β : Type} {F : Option β} {o : β} (hty : ∀ ca : Nat → ClassId, (tyz ca)[kd]? = some (ca kd, .object C)) (hr : ∀ j, j < rs.length → rs[j]? = some (f j)) (cx : Cx G X own cc nL n) (hs : shp[t]? = some (.inr (.inr (kd, rs)))) (hdg : decode cc pc = .ok (.aaload, 1)) (hF : gd (ir i rs.length) F = some o) (k : i.toNatClampNeg < rs.length → F = some o → WW G X nL σ lv (pc + 1) (.ref (gad G (f i.toNatClampNeg)) :: st)) : WW G X nL σ lv pc (.int i :: .ref (gad G t) :: st) := by
  obtain ⟨p, e, R, s, m, args, below, meth, c, Q, A, ck, sk⟩ := X
  obtain ⟨hx, hb, hml, hown, hts, hG, hA, hck, hlv⟩ := cx
  intro H locs ls hl hP hS
  have hlt : i.toNatClampNeg < rs.length := by
    have h := vp_in_iff.mpr (gd_some hF).1
    unfold vp_in at h
    omega
  refine va_aldq hx hb hG.1 hP t kd (cA := gca G kd) (n := rs.length) (f := fun i => (rs[i]?).map (gad G)) (wld_at hs) (hty _) (vp_in_iff.mpr (gd_some hF).1) hdg ?_
  rw [hr _ hlt]
  exact k hlt (gd_some hF).2 H locs ls hl hP hS

theorem ww_lcmp {G : GT} {X : CT} {own : String} {cc : ByteArray} {nL n : Nat} {σ : St} {lv : List (Nat × Value)} {pc : Nat} {st : List Value} {x y : Int64} (cx : Cx G X own cc nL n) (hdg : decode cc pc = .ok (.lcmp, 1)) (k : WW G X nL σ lv (pc + 1) (.int (lg_cmp x y) :: st)) : WW G X nL σ lv pc (.long y :: .long x :: st) := by
  obtain ⟨p, e, R, s, m, args, below, meth, c, Q, A, ck, sk⟩ := X
  obtain ⟨hx, hb, hml, hown, hts, hG, hA, hck, hlv⟩ := cx
  intro H locs ls hl hP hS
  exact W.lcmp hx hb hdg (k H locs ls hl hP hS)

/-- what the tables say of a call of y at an entry of own's pool -/
def CallV (own : String) (ix : Nat) (C : String) (y : MethodName) (b : ByteArray) (nL : Nat) (rt : Option FieldType) (na : Nat) : Prop :=
  GoodIn TBL (wsV own ix C y (.code y b nL rt :: TBL)) ∧ (y.cls = C ∧ y.cls ≠ "java/lang/invoke/MethodHandle" ∧ y.cls ≠ "java/lang/invoke/VarHandle" ∧ (parseMethodDescriptor y.desc).map (fun d => d.parameters.length) = some na)
theorem tg {w : Cond} (h : w ∈ TBL) : w ∈ TBL ∧ ((w.onTables && w.keeps) = true ∨ ∃ ty, w = .arrayClass ty) := ⟨h, tbl_good w h⟩
theorem callV_of {own : String} {ix : Nat} {C : String} {y : MethodName} {b : ByteArray} {nL : Nat} {rt : Option FieldType} {na : Nat} (h1 : Cond.methodLink own ix y ∈ TBL) (h2 : Cond.instanceMethod y ∈ TBL) (h3 : Cond.selects C y y ∈ TBL) (h4 : Cond.initialized C ∈ TBL) (h5 : Cond.code y b nL rt ∈ TBL) (hd : y.cls = C ∧ y.cls ≠ "java/lang/invoke/MethodHandle" ∧ y.cls ≠ "java/lang/invoke/VarHandle" ∧ (parseMethodDescriptor y.desc).map (fun d => d.parameters.length) = some na) : CallV own ix C y b nL rt na := by
  refine ⟨fun w hw => ?_, hd⟩
  rcases List.mem_append.mp hw with h | h
  · simp only [List.mem_cons, List.not_mem_nil, or_false] at h
    rcases h with rfl | rfl | rfl | rfl
    · exact tg h1
    · exact tg h2
    · exact tg h3
    · exact tg h4
  · rcases List.mem_cons.mp h with rfl | h
    · exact tg h5
    · exact tg h
def CallS (own : String) (ix : Nat) (y : MethodName) (b : ByteArray) (nL : Nat) (rt : Option FieldType) (na : Nat) : Prop :=
  GoodIn TBL (va_wsS own ix y (.code y b nL rt :: TBL)) ∧ (y.cls ≠ "java/lang/invoke/MethodHandle" ∧ y.cls ≠ "java/lang/invoke/VarHandle" ∧ (parseMethodDescriptor y.desc).map (fun d => d.parameters.length) = some na)
theorem callS_of {own : String} {ix : Nat} {y : MethodName} {b : ByteArray} {nL : Nat} {rt : Option FieldType} {na : Nat} (h1 : Cond.methodLink own ix y ∈ TBL) (h2 : Cond.static y ∈ TBL) (h4 : Cond.initialized y.cls ∈ TBL) (h5 : Cond.code y b nL rt ∈ TBL) (hd : y.cls ≠ "java/lang/invoke/MethodHandle" ∧ y.cls ≠ "java/lang/invoke/VarHandle" ∧ (parseMethodDescriptor y.desc).map (fun d => d.parameters.length) = some na) : CallS own ix y b nL rt na := by
  refine ⟨fun w hw => ?_, hd⟩
  rcases List.mem_append.mp hw with h | h
  · simp only [List.mem_cons, List.not_mem_nil, or_false] at h
    rcases h with rfl | rfl | rfl
    · exact tg h1
    · exact tg h2
    · exact tg h4
  · rcases List.mem_cons.mp h with rfl | h
    · exact tg h5
    · exact tg h
theorem pc_blind {G : GT} {σ : St} {sz : Nat} {A : Nat → Prop} {as : List Value} : FrameBlind (va_Pc as (fun U => U.heap.size = sz ∧ va_P G.2.1 clz (wld G σ) U.heap ∧ GOOD G A U U.heap)) :=
  fun a U g mk q => by
    obtain ⟨q0, q1, qP, qK, qD, qS⟩ := q
    exact ⟨q0, q1, qP, va_K.moved (u := U) (U := U.calling g mk a) (Vm.Alike.refl U.vm) qK, qD, qS.calling g mk a⟩
/-- what a callee finds -/
theorem pc_at {G : GT} {A : Nat → Prop} {s : State} {H : Heap} {locs : List Loc} {σ : St} {as : List Value} (hG : GOOD G A s s.heap) (hA : ∀ q, s.heap.size ≤ q → A q) (hP : va_P G.2.1 clz (wld G σ) H) (hS : va_S A s.heap H locs) (U : State) (hU : U.heap = H) (hW : s.WarmedH U.vm) : va_Pc as (fun U => U.heap.size = H.size ∧ va_P G.2.1 clz (wld G σ) U.heap ∧ GOOD G (va_A (wld G σ) H.size) U U.heap) as.toArray U := by
  have hD : ∀ σ', va_D (va_A (wld G σ) H.size) (wld G σ') := fun σ' => wld_D (σ := σ) (hG.2.1 σ).self
  refine ⟨rfl, by rw [hU], by rw [hU]; exact hP, va_K.moved hW.alike hG.1, hD, ?_⟩
  rw [hU]
  refine ((hG.2.2.kept hS.2.1).warm hW).narrow (fun q h => ?_)
  rcases h with ⟨k, e, h⟩ | h
  · exact (hG.2.1 σ).2 k _ h
  · exact hA q (Nat.le_trans hS.1 h)
theorem va_A_sub {G : GT} {A : Nat → Prop} {s : State} {H : Heap} {locs : List Loc} {σ : St} (hG : GOOD G A s s.heap) (hA : ∀ q, s.heap.size ≤ q → A q) (hS : va_S A s.heap H locs) : ∀ q, va_A (wld G σ) H.size q → A q := fun q h => by
  rcases h with ⟨k, e, h⟩ | h
  · exact (hG.2.1 σ).2 k _ h
  · exact hA q (Nat.le_trans hS.1 h)
theorem ww_back {p : Program} {l : Launch} {e : Env} {R : Room} {s : State} {m : MethodId} {args : Array Value} {below : List Frame} {meth : Method} {c : Code} {Q : State → Prop} {A A1 : Nat → Prop} {ck sk pc : Nat} {H : Heap} {locs : List Loc} {ls : Array Slot} {st0 st : List Value} {rv : Option Value} {G : GT} {σ1 : St} (hr : va_Run p l e R s m args below meth c H locs ck sk 0 0 (F0 m pc ls st0) st (fun st oc t => oc = .returned rv ∧ va_P G.2.1 clz (wld G σ1) t.heap ∧ va_F A1 st t) A1) (hS : va_S A s.heap H locs) (hA1 : ∀ q, A1 q → A q) (kk : ∀ (H1 : Heap) (locs1 : List Loc), va_P G.2.1 clz (wld G σ1) H1 → va_S A s.heap H1 locs1 → W p l e R s m args below meth c H1 locs1 ck sk Q (F0 m (pc + 3) ls (rv.toList ++ st))) : W p l e R s m args below meth c H locs ck sk Q (F0 m pc ls st0) := by
  intro T hT X
  obtain ⟨v, st₀, t, T', L, h0, X', hL, e1, e2, ⟨hv, hp, hz, hk⟩, st⟩ := hr T hT X
  cases hv
  rw [h0] at hz hk
  obtain ⟨t2, a1, b1⟩ := kk T'.heap (locs ++ L) (by rw [e1]; exact hp)
    ⟨Nat.le_trans hS.1 (by rw [e1]; exact hz), fun q h1 h2 => by rw [e1, hk q (Nat.lt_of_lt_of_le h1 hS.1) (fun z => h2 (hA1 q z))]; exact hS.2.1 q h1 h2, fun q hq => by
      rcases List.mem_append.mp hq with h | h
      · exact hS.2.2 q h
      · exact hA1 _ (hL q h)⟩ T' rfl X'
  exact ⟨t2, st t2 a1, b1⟩
theorem lv_room8 {m : MethodId} {pc : Nat} {ls : Array Slot} {st0 st : List Value} (h : (st.map fun v => v.category).sum ≤ 8) : 2 * (F0 m pc ls st0).monitorRoom + (st.map fun v => v.category).sum ≤ 8 := lv_room h

theorem ww_callV {G : GT} {X : CT} {own : String} {cc : ByteArray} {nL n : Nat} {σ : St} {lv : List (Nat × Value)} {pc : Nat} {st : List Value} {k ix nL' na t ci : Nat} {C : String} {y : MethodName} {b : ByteArray} {rt : Option FieldType} {As st0 : List Value} {fs : List (Option Nat)} {T : u_T} {N : Nat} {rv : Option Value} {σ1 : St} (hC : CallV own ix C y b nL' rt na) (hc : clz[ci]? = some (C, T, N)) (cx : Cx G X own cc nL n) (hs : shp[t]? = some (.inr (.inl (ci, fs)))) (hk : k + 1 ≤ n ∧ nL' ≤ 45) (hst : (st.map fun v => v.category).sum ≤ 8) (hlen : As.length = na) (hst0 : st0 = As.reverse ++ .ref (gad G t) :: st) (hdg : decode cc pc = .ok (.invokevirtual ix, 3)) (hM : MCt G k y b nL' rt (.ref (gad G t) :: As) σ rv σ1) (kk : WW G X nL σ1 lv (pc + 3) (rv.toList ++ st)) : WW G X nL σ lv pc st0 := by
  obtain ⟨p, e, R, s, m, args, below, meth, c, Q, A, ck, sk⟩ := X
  obtain ⟨hx, hb, hml, hown, hts, hG, hA, hck, hlv⟩ := cx
  intro H locs ls hl hP hS
  exact ww_back (va_runV (As := As) (rest := st) ⟨hx, hb, hml, hown, hts⟩ (hM H.size) (cwV na hts hC.1 rfl rfl rfl hC.2 ⟨by simp only [rmL]; omega, by simp only [rmL]; omega⟩) ⟨pc_blind, va_recv hG.1 hP hc (wld_at hs), pc_at hG hA hP hS⟩ rfl hlen hl.1 hst0 (lv_room8 hst) hdg hck) hS (va_A_sub hG hA hS) (fun H1 locs1 hP1 hS1 => kk H1 locs1 ls hl hP1 hS1)
theorem ww_callS {G : GT} {X : CT} {own : String} {cc : ByteArray} {nL n : Nat} {σ : St} {lv : List (Nat × Value)} {pc : Nat} {st : List Value} {k ix nL' na : Nat} {y : MethodName} {b : ByteArray} {rt : Option FieldType} {As st0 : List Value} {rv : Option Value} {σ1 : St} (hC : CallS own ix y b nL' rt na) (cx : Cx G X own cc nL n) (hk : k + 1 ≤ n ∧ nL' ≤ 45) (hst : (st.map fun v => v.category).sum ≤ 8) (hlen : As.length = na) (hst0 : st0 = As.reverse ++ st) (hdg : decode cc pc = .ok (.invokestatic ix, 3)) (hM : MCt G k y b nL' rt As σ rv σ1) (kk : WW G X nL σ1 lv (pc + 3) (rv.toList ++ st)) : WW G X nL σ lv pc st0 := by
  obtain ⟨p, e, R, s, m, args, below, meth, c, Q, A, ck, sk⟩ := X
  obtain ⟨hx, hb, hml, hown, hts, hG, hA, hck, hlv⟩ := cx
  intro H locs ls hl hP hS
  have ok : ∀ w ∈ va_wsS own ix y (.code y b nL' rt :: TBL), w.before args s = true := fun w h => hts w (hC.1 w h).1
  exact ww_back (va_runS (As := As) (rest := st) ⟨hx, hb, hml, hown, hts⟩ (hM H.size) ⟨callB_of na hts (fun w h => hC.1 w (List.mem_append_right _ h)) rfl rfl rfl (ok _ (by simp [va_wsS])) (ok _ (by simp [va_wsS])) hC.2 ⟨by simp only [rmL]; omega, by simp only [rmL]; omega⟩, ok _ (by simp [va_wsS])⟩ ⟨pc_blind, pc_at hG hA hP hS⟩ rfl hlen hl.1 hst0 (lv_room8 hst) hdg hck) hS (va_A_sub hG hA hS) (fun H1 locs1 hP1 hS1 => kk H1 locs1 ls hl hP1 hS1)

theorem ww_V0_pi {G : GT} {X : CT} {own : String} {cc : ByteArray} {nL n : Nat} {σ : St} {lv : List (Nat × Value)} {pc : Nat} {st : List Value} {k ix nL' t ci : Nat} {C : String} {fs : List (Option Nat)} {T : u_T} {N : Nat} {y : MethodName} {b : ByteArray} {rt : Option FieldType} {β : Type} {F : Option Int32} {K : Int32 → Option β} {o : β} (hC : CallV own ix C y b nL' rt 0) (hc : clz[ci]? = some (C, T, N)) (cx : Cx G X own cc nL n) (hs : shp[t]? = some (.inr (.inl (ci, fs)))) (hk : k + 1 ≤ n ∧ nL' ≤ 45) (hst : (st.map fun v => v.category).sum ≤ 8) (hdg : decode cc pc = .ok (.invokevirtual ix, 3)) (hM : ∀ r : Int32, F = some r → MCt G k y b nL' rt (.ref (gad G t) :: []) σ (some (.int r)) σ) (hF : bp F K = some o) (kk : ∀ r : Int32, K r = some o → WW G X nL σ lv (pc + 3) (.int r :: st)) : WW G X nL σ lv pc (.ref (gad G t) :: st) := by
  obtain ⟨r, h1, h2⟩ := bp_some hF
  exact ww_callV hC hc cx hs hk hst rfl rfl hdg (hM r h1) (kk r h2)

theorem ww_V0_pl {G : GT} {X : CT} {own : String} {cc : ByteArray} {nL n : Nat} {σ : St} {lv : List (Nat × Value)} {pc : Nat} {st : List Value} {k ix nL' t ci : Nat} {C : String} {fs : List (Option Nat)} {T : u_T} {N : Nat} {y : MethodName} {b : ByteArray} {rt : Option FieldType} {β : Type} {F : Option Int64} {K : Int64 → Option β} {o : β} (hC : CallV own ix C y b nL' rt 0) (hc : clz[ci]? = some (C, T, N)) (cx : Cx G X own cc nL n) (hs : shp[t]? = some (.inr (.inl (ci, fs)))) (hk : k + 1 ≤ n ∧ nL' ≤ 45) (hst : (st.map fun v => v.category).sum ≤ 8) (hdg : decode cc pc = .ok (.invokevirtual ix, 3)) (hM : ∀ r : Int64, F = some r → MCt G k y b nL' rt (.ref (gad G t) :: []) σ (some (.long r)) σ) (hF : bp F K = some o) (kk : ∀ r : Int64, K r = some o → WW G X nL σ lv (pc + 3) (.long r :: st)) : WW G X nL σ lv pc (.ref (gad G t) :: st) := by
  obtain ⟨r, h1, h2⟩ := bp_some hF
  exact ww_callV hC hc cx hs hk hst rfl rfl hdg (hM r h1) (kk r h2)

theorem ww_V0_si {G : GT} {X : CT} {own : String} {cc : ByteArray} {nL n : Nat} {σ : St} {lv : List (Nat × Value)} {pc : Nat} {st : List Value} {k ix nL' t ci : Nat} {C : String} {fs : List (Option Nat)} {T : u_T} {N : Nat} {y : MethodName} {b : ByteArray} {rt : Option FieldType} {β : Type} {F : Option (Int32 × St)} {K : Int32 → St → Option β} {o : β} (hC : CallV own ix C y b nL' rt 0) (hc : clz[ci]? = some (C, T, N)) (cx : Cx G X own cc nL n) (hs : shp[t]? = some (.inr (.inl (ci, fs)))) (hk : k + 1 ≤ n ∧ nL' ≤ 45) (hst : (st.map fun v => v.category).sum ≤ 8) (hdg : decode cc pc = .ok (.invokevirtual ix, 3)) (hM : ∀ (r : Int32) (σ1 : St), F = some (r, σ1) → MCt G k y b nL' rt (.ref (gad G t) :: []) σ (some (.int r)) σ1) (hF : bs F K = some o) (kk : ∀ (r : Int32) (σ1 : St), K r σ1 = some o → WW G X nL σ1 lv (pc + 3) (.int r :: st)) : WW G X nL σ lv pc (.ref (gad G t) :: st) := by
  obtain ⟨r, σ1, h1, h2⟩ := bs_some hF
  exact ww_callV hC hc cx hs hk hst rfl rfl hdg (hM r σ1 h1) (kk r σ1 h2)

theorem ww_V0_sv {G : GT} {X : CT} {own : String} {cc : ByteArray} {nL n : Nat} {σ : St} {lv : List (Nat × Value)} {pc : Nat} {st : List Value} {k ix nL' t ci : Nat} {C : String} {fs : List (Option Nat)} {T : u_T} {N : Nat} {y : MethodName} {b : ByteArray} {rt : Option FieldType} {β : Type} {F : Option St} {K : St → Option β} {o : β} (hC : CallV own ix C y b nL' rt 0) (hc : clz[ci]? = some (C, T, N)) (cx : Cx G X own cc nL n) (hs : shp[t]? = some (.inr (.inl (ci, fs)))) (hk : k + 1 ≤ n ∧ nL' ≤ 45) (hst : (st.map fun v => v.category).sum ≤ 8) (hdg : decode cc pc = .ok (.invokevirtual ix, 3)) (hM : ∀ σ1 : St, F = some σ1 → MCt G k y b nL' rt (.ref (gad G t) :: []) σ none σ1) (hF : bp F K = some o) (kk : ∀ σ1 : St, K σ1 = some o → WW G X nL σ1 lv (pc + 3) st) : WW G X nL σ lv pc (.ref (gad G t) :: st) := by
  obtain ⟨σ1, h1, h2⟩ := bp_some hF
  exact ww_callV hC hc cx hs hk hst rfl rfl hdg (hM σ1 h1) (kk σ1 h2)

theorem ww_V0_sr {G : GT} {X : CT} {own : String} {cc : ByteArray} {nL n : Nat} {σ : St} {lv : List (Nat × Value)} {pc : Nat} {st : List Value} {k ix nL' t ci : Nat} {C : String} {fs : List (Option Nat)} {T : u_T} {N : Nat} {y : MethodName} {b : ByteArray} {rt : Option FieldType} {a : Nat} {β : Type} {F : Option St} {K : St → Option β} {o : β} (hC : CallV own ix C y b nL' rt 0) (hc : clz[ci]? = some (C, T, N)) (cx : Cx G X own cc nL n) (hs : shp[t]? = some (.inr (.inl (ci, fs)))) (hk : k + 1 ≤ n ∧ nL' ≤ 45) (hst : (st.map fun v => v.category).sum ≤ 8) (hdg : decode cc pc = .ok (.invokevirtual ix, 3)) (hM : ∀ σ1 : St, F = some σ1 → MCt G k y b nL' rt (.ref (gad G t) :: []) σ (some (.ref a)) σ1) (hF : bp F K = some o) (kk : ∀ σ1 : St, K σ1 = some o → WW G X nL σ1 lv (pc + 3) (.ref a :: st)) : WW G X nL σ lv pc (.ref (gad G t) :: st) := by
  obtain ⟨σ1, h1, h2⟩ := bp_some hF
  exact ww_callV hC hc cx hs hk hst rfl rfl hdg (hM σ1 h1) (kk σ1 h2)

theorem ww_S0_pi {G : GT} {X : CT} {own : String} {cc : ByteArray} {nL n : Nat} {σ : St} {lv : List (Nat × Value)} {pc : Nat} {st : List Value} {k ix nL' : Nat} {y : MethodName} {b : ByteArray} {rt : Option FieldType} {β : Type} {F : Option Int32} {K : Int32 → Option β} {o : β} (hC : CallS own ix y b nL' rt 0) (cx : Cx G X own cc nL n) (hk : k + 1 ≤ n ∧ nL' ≤ 45) (hst : (st.map fun v => v.category).sum ≤ 8) (hdg : decode cc pc = .ok (.invokestatic ix, 3)) (hM : ∀ r : Int32, F = some r → MCt G k y b nL' rt [] σ (some (.int r)) σ) (hF : bp F K = some o) (kk : ∀ r : Int32, K r = some o → WW G X nL σ lv (pc + 3) (.int r :: st)) : WW G X nL σ lv pc (st) := by
  obtain ⟨r, h1, h2⟩ := bp_some hF
  exact ww_callS hC cx hk hst rfl rfl hdg (hM r h1) (kk r h2)

theorem ww_S0_pl {G : GT} {X : CT} {own : String} {cc : ByteArray} {nL n : Nat} {σ : St} {lv : List (Nat × Value)} {pc : Nat} {st : List Value} {k ix nL' : Nat} {y : MethodName} {b : ByteArray} {rt : Option FieldType} {β : Type} {F : Option Int64} {K : Int64 → Option β} {o : β} (hC : CallS own ix y b nL' rt 0) (cx : Cx G X own cc nL n) (hk : k + 1 ≤ n ∧ nL' ≤ 45) (hst : (st.map fun v => v.category).sum ≤ 8) (hdg : decode cc pc = .ok (.invokestatic ix, 3)) (hM : ∀ r : Int64, F = some r → MCt G k y b nL' rt [] σ (some (.long r)) σ) (hF : bp F K = some o) (kk : ∀ r : Int64, K r = some o → WW G X nL σ lv (pc + 3) (.long r :: st)) : WW G X nL σ lv pc (st) := by
  obtain ⟨r, h1, h2⟩ := bp_some hF
  exact ww_callS hC cx hk hst rfl rfl hdg (hM r h1) (kk r h2)

theorem ww_S0_si {G : GT} {X : CT} {own : String} {cc : ByteArray} {nL n : Nat} {σ : St} {lv : List (Nat × Value)} {pc : Nat} {st : List Value} {k ix nL' : Nat} {y : MethodName} {b : ByteArray} {rt : Option FieldType} {β : Type} {F : Option (Int32 × St)} {K : Int32 → St → Option β} {o : β} (hC : CallS own ix y b nL' rt 0) (cx : Cx G X own cc nL n) (hk : k + 1 ≤ n ∧ nL' ≤ 45) (hst : (st.map fun v => v.category).sum ≤ 8) (hdg : decode cc pc = .ok (.invokestatic ix, 3)) (hM : ∀ (r : Int32) (σ1 : St), F = some (r, σ1) → MCt G k y b nL' rt [] σ (some (.int r)) σ1) (hF : bs F K = some o) (kk : ∀ (r : Int32) (σ1 : St), K r σ1 = some o → WW G X nL σ1 lv (pc + 3) (.int r :: st)) : WW G X nL σ lv pc (st) := by
  obtain ⟨r, σ1, h1, h2⟩ := bs_some hF
  exact ww_callS hC cx hk hst rfl rfl hdg (hM r σ1 h1) (kk r σ1 h2)

theorem ww_S0_sv {G : GT} {X : CT} {own : String} {cc : ByteArray} {nL n : Nat} {σ : St} {lv : List (Nat × Value)} {pc : Nat} {st : List Value} {k ix nL' : Nat} {y : MethodName} {b : ByteArray} {rt : Option FieldType} {β : Type} {F : Option St} {K : St → Option β} {o : β} (hC : CallS own ix y b nL' rt 0) (cx : Cx G X own cc nL n) (hk : k + 1 ≤ n ∧ nL' ≤ 45) (hst : (st.map fun v => v.category).sum ≤ 8) (hdg : decode cc pc = .ok (.invokestatic ix, 3)) (hM : ∀ σ1 : St, F = some σ1 → MCt G k y b nL' rt [] σ none σ1) (hF : bp F K = some o) (kk : ∀ σ1 : St, K σ1 = some o → WW G X nL σ1 lv (pc + 3) st) : WW G X nL σ lv pc (st) := by
  obtain ⟨σ1, h1, h2⟩ := bp_some hF
  exact ww_callS hC cx hk hst rfl rfl hdg (hM σ1 h1) (kk σ1 h2)

theorem ww_S0_sr {G : GT} {X : CT} {own : String} {cc : ByteArray} {nL n : Nat} {σ : St} {lv : List (Nat × Value)} {pc : Nat} {st : List Value} {k ix nL' : Nat} {y : MethodName} {b : ByteArray} {rt : Option FieldType} {a : Nat} {β : Type} {F : Option St} {K : St → Option β} {o : β} (hC : CallS own ix y b nL' rt 0) (cx : Cx G X own cc nL n) (hk : k + 1 ≤ n ∧ nL' ≤ 45) (hst : (st.map fun v => v.category).sum ≤ 8) (hdg : decode cc pc = .ok (.invokestatic ix, 3)) (hM : ∀ σ1 : St, F = some σ1 → MCt G k y b nL' rt [] σ (some (.ref a)) σ1) (hF : bp F K = some o) (kk : ∀ σ1 : St, K σ1 = some o → WW G X nL σ1 lv (pc + 3) (.ref a :: st)) : WW G X nL σ lv pc (st) := by
  obtain ⟨σ1, h1, h2⟩ := bp_some hF
  exact ww_callS hC cx hk hst rfl rfl hdg (hM σ1 h1) (kk σ1 h2)

theorem ww_V1_pi {G : GT} {X : CT} {own : String} {cc : ByteArray} {nL n : Nat} {σ : St} {lv : List (Nat × Value)} {pc : Nat} {st : List Value} {k ix nL' t ci : Nat} {C : String} {fs : List (Option Nat)} {T : u_T} {N : Nat} {y : MethodName} {b : ByteArray} {rt : Option FieldType} {v0 : Value} {β : Type} {F : Option Int32} {K : Int32 → Option β} {o : β} (hC : CallV own ix C y b nL' rt 1) (hc : clz[ci]? = some (C, T, N)) (cx : Cx G X own cc nL n) (hs : shp[t]? = some (.inr (.inl (ci, fs)))) (hk : k + 1 ≤ n ∧ nL' ≤ 45) (hst : (st.map fun v => v.category).sum ≤ 8) (hdg : decode cc pc = .ok (.invokevirtual ix, 3)) (hM : ∀ r : Int32, F = some r → MCt G k y b nL' rt (.ref (gad G t) :: [v0]) σ (some (.int r)) σ) (hF : bp F K = some o) (kk : ∀ r : Int32, K r = some o → WW G X nL σ lv (pc + 3) (.int r :: st)) : WW G X nL σ lv pc (v0 :: .ref (gad G t) :: st) := by
  obtain ⟨r, h1, h2⟩ := bp_some hF
  exact ww_callV hC hc cx hs hk hst rfl rfl hdg (hM r h1) (kk r h2)

theorem ww_V1_pl {G : GT} {X : CT} {own : String} {cc : ByteArray} {nL n : Nat} {σ : St} {lv : List (Nat × Value)} {pc : Nat} {st : List Value} {k ix nL' t ci : Nat} {C : String} {fs : List (Option Nat)} {T : u_T} {N : Nat} {y : MethodName} {b : ByteArray} {rt : Option FieldType} {v0 : Value} {β : Type} {F : Option Int64} {K : Int64 → Option β} {o : β} (hC : CallV own ix C y b nL' rt 1) (hc : clz[ci]? = some (C, T, N)) (cx : Cx G X own cc nL n) (hs : shp[t]? = some (.inr (.inl (ci, fs)))) (hk : k + 1 ≤ n ∧ nL' ≤ 45) (hst : (st.map fun v => v.category).sum ≤ 8) (hdg : decode cc pc = .ok (.invokevirtual ix, 3)) (hM : ∀ r : Int64, F = some r → MCt G k y b nL' rt (.ref (gad G t) :: [v0]) σ (some (.long r)) σ) (hF : bp F K = some o) (kk : ∀ r : Int64, K r = some o → WW G X nL σ lv (pc + 3) (.long r :: st)) : WW G X nL σ lv pc (v0 :: .ref (gad G t) :: st) := by
  obtain ⟨r, h1, h2⟩ := bp_some hF
  exact ww_callV hC hc cx hs hk hst rfl rfl hdg (hM r h1) (kk r h2)

theorem ww_V1_si {G : GT} {X : CT} {own : String} {cc : ByteArray} {nL n : Nat} {σ : St} {lv : List (Nat × Value)} {pc : Nat} {st : List Value} {k ix nL' t ci : Nat} {C : String} {fs : List (Option Nat)} {T : u_T} {N : Nat} {y : MethodName} {b : ByteArray} {rt : Option FieldType} {v0 : Value} {β : Type} {F : Option (Int32 × St)} {K : Int32 → St → Option β} {o : β} (hC : CallV own ix C y b nL' rt 1) (hc : clz[ci]? = some (C, T, N)) (cx : Cx G X own cc nL n) (hs : shp[t]? = some (.inr (.inl (ci, fs)))) (hk : k + 1 ≤ n ∧ nL' ≤ 45) (hst : (st.map fun v => v.category).sum ≤ 8) (hdg : decode cc pc = .ok (.invokevirtual ix, 3)) (hM : ∀ (r : Int32) (σ1 : St), F = some (r, σ1) → MCt G k y b nL' rt (.ref (gad G t) :: [v0]) σ (some (.int r)) σ1) (hF : bs F K = some o) (kk : ∀ (r : Int32) (σ1 : St), K r σ1 = some o → WW G X nL σ1 lv (pc + 3) (.int r :: st)) : WW G X nL σ lv pc (v0 :: .ref (gad G t) :: st) := by
  obtain ⟨r, σ1, h1, h2⟩ := bs_some hF
  exact ww_callV hC hc cx hs hk hst rfl rfl hdg (hM r σ1 h1) (kk r σ1 h2)

theorem ww_V1_sv {G : GT} {X : CT} {own : String} {cc : ByteArray} {nL n : Nat} {σ : St} {lv : List (Nat × Value)} {pc : Nat} {st : List Value} {k ix nL' t ci : Nat} {C : String} {fs : List (Option Nat)} {T : u_T} {N : Nat} {y : MethodName} {b : ByteArray} {rt : Option FieldType} {v0 : Value} {β : Type} {F : Option St} {K : St → Option β} {o : β} (hC : CallV own ix C y b nL' rt 1) (hc : clz[ci]? = some (C, T, N)) (cx : Cx G X own cc nL n) (hs : shp[t]? = some (.inr (.inl (ci, fs)))) (hk : k + 1 ≤ n ∧ nL' ≤ 45) (hst : (st.map fun v => v.category).sum ≤ 8) (hdg : decode cc pc = .ok (.invokevirtual ix, 3)) (hM : ∀ σ1 : St, F = some σ1 → MCt G k y b nL' rt (.ref (gad G t) :: [v0]) σ none σ1) (hF : bp F K = some o) (kk : ∀ σ1 : St, K σ1 = some o → WW G X nL σ1 lv (pc + 3) st) : WW G X nL σ lv pc (v0 :: .ref (gad G t) :: st) := by
  obtain ⟨σ1, h1, h2⟩ := bp_some hF
  exact ww_callV hC hc cx hs hk hst rfl rfl hdg (hM σ1 h1) (kk σ1 h2)

theorem ww_V1_sr {G : GT} {X : CT} {own : String} {cc : ByteArray} {nL n : Nat} {σ : St} {lv : List (Nat × Value)} {pc : Nat} {st : List Value} {k ix nL' t ci : Nat} {C : String} {fs : List (Option Nat)} {T : u_T} {N : Nat} {y : MethodName} {b : ByteArray} {rt : Option FieldType} {v0 : Value} {a : Nat} {β : Type} {F : Option St} {K : St → Option β} {o : β} (hC : CallV own ix C y b nL' rt 1) (hc : clz[ci]? = some (C, T, N)) (cx : Cx G X own cc nL n) (hs : shp[t]? = some (.inr (.inl (ci, fs)))) (hk : k + 1 ≤ n ∧ nL' ≤ 45) (hst : (st.map fun v => v.category).sum ≤ 8) (hdg : decode cc pc = .ok (.invokevirtual ix, 3)) (hM : ∀ σ1 : St, F = some σ1 → MCt G k y b nL' rt (.ref (gad G t) :: [v0]) σ (some (.ref a)) σ1) (hF : bp F K = some o) (kk : ∀ σ1 : St, K σ1 = some o → WW G X nL σ1 lv (pc + 3) (.ref a :: st)) : WW G X nL σ lv pc (v0 :: .ref (gad G t) :: st) := by
  obtain ⟨σ1, h1, h2⟩ := bp_some hF
  exact ww_callV hC hc cx hs hk hst rfl rfl hdg (hM σ1 h1) (kk σ1 h2)

theorem ww_S1_pi {G : GT} {X : CT} {own : String} {cc : ByteArray} {nL n : Nat} {σ : St} {lv : List (Nat × Value)} {pc : Nat} {st : List Value} {k ix nL' : Nat} {y : MethodName} {b : ByteArray} {rt : Option FieldType} {v0 : Value} {β : Type} {F : Option Int32} {K : Int32 → Option β} {o : β} (hC : CallS own ix y b nL' rt 1) (cx : Cx G X own cc nL n) (hk : k + 1 ≤ n ∧ nL' ≤ 45) (hst : (st.map fun v => v.category).sum ≤ 8) (hdg : decode cc pc = .ok (.invokestatic ix, 3)) (hM : ∀ r : Int32, F = some r → MCt G k y b nL' rt [v0] σ (some (.int r)) σ) (hF : bp F K = some o) (kk : ∀ r : Int32, K r = some o → WW G X nL σ lv (pc + 3) (.int r :: st)) : WW G X nL σ lv pc (v0 :: st) := by
  obtain ⟨r, h1, h2⟩ := bp_some hF
  exact ww_callS hC cx hk hst rfl rfl hdg (hM r h1) (kk r h2)

theorem ww_S1_pl {G : GT} {X : CT} {own : String} {cc : ByteArray} {nL n : Nat} {σ : St} {lv : List (Nat × Value)} {pc : Nat} {st : List Value} {k ix nL' : Nat} {y : MethodName} {b : ByteArray} {rt : Option FieldType} {v0 : Value} {β : Type} {F : Option Int64} {K : Int64 → Option β} {o : β} (hC : CallS own ix y b nL' rt 1) (cx : Cx G X own cc nL n) (hk : k + 1 ≤ n ∧ nL' ≤ 45) (hst : (st.map fun v => v.category).sum ≤ 8) (hdg : decode cc pc = .ok (.invokestatic ix, 3)) (hM : ∀ r : Int64, F = some r → MCt G k y b nL' rt [v0] σ (some (.long r)) σ) (hF : bp F K = some o) (kk : ∀ r : Int64, K r = some o → WW G X nL σ lv (pc + 3) (.long r :: st)) : WW G X nL σ lv pc (v0 :: st) := by
  obtain ⟨r, h1, h2⟩ := bp_some hF
  exact ww_callS hC cx hk hst rfl rfl hdg (hM r h1) (kk r h2)

theorem ww_S1_si {G : GT} {X : CT} {own : String} {cc : ByteArray} {nL n : Nat} {σ : St} {lv : List (Nat × Value)} {pc : Nat} {st : List Value} {k ix nL' : Nat} {y : MethodName} {b : ByteArray} {rt : Option FieldType} {v0 : Value} {β : Type} {F : Option (Int32 × St)} {K : Int32 → St → Option β} {o : β} (hC : CallS own ix y b nL' rt 1) (cx : Cx G X own cc nL n) (hk : k + 1 ≤ n ∧ nL' ≤ 45) (hst : (st.map fun v => v.category).sum ≤ 8) (hdg : decode cc pc = .ok (.invokestatic ix, 3)) (hM : ∀ (r : Int32) (σ1 : St), F = some (r, σ1) → MCt G k y b nL' rt [v0] σ (some (.int r)) σ1) (hF : bs F K = some o) (kk : ∀ (r : Int32) (σ1 : St), K r σ1 = some o → WW G X nL σ1 lv (pc + 3) (.int r :: st)) : WW G X nL σ lv pc (v0 :: st) := by
  obtain ⟨r, σ1, h1, h2⟩ := bs_some hF
  exact ww_callS hC cx hk hst rfl rfl hdg (hM r σ1 h1) (kk r σ1 h2)

theorem ww_S1_sv {G : GT} {X : CT} {own : String} {cc : ByteArray} {nL n : Nat} {σ : St} {lv : List (Nat × Value)} {pc : Nat} {st : List Value} {k ix nL' : Nat} {y : MethodName} {b : ByteArray} {rt : Option FieldType} {v0 : Value} {β : Type} {F : Option St} {K : St → Option β} {o : β} (hC : CallS own ix y b nL' rt 1) (cx : Cx G X own cc nL n) (hk : k + 1 ≤ n ∧ nL' ≤ 45) (hst : (st.map fun v => v.category).sum ≤ 8) (hdg : decode cc pc = .ok (.invokestatic ix, 3)) (hM : ∀ σ1 : St, F = some σ1 → MCt G k y b nL' rt [v0] σ none σ1) (hF : bp F K = some o) (kk : ∀ σ1 : St, K σ1 = some o → WW G X nL σ1 lv (pc + 3) st) : WW G X nL σ lv pc (v0 :: st) := by
  obtain ⟨σ1, h1, h2⟩ := bp_some hF
  exact ww_callS hC cx hk hst rfl rfl hdg (hM σ1 h1) (kk σ1 h2)

theorem ww_S1_sr {G : GT} {X : CT} {own : String} {cc : ByteArray} {nL n : Nat} {σ : St} {lv : List (Nat × Value)} {pc : Nat} {st : List Value} {k ix nL' : Nat} {y : MethodName} {b : ByteArray} {rt : Option FieldType} {v0 : Value} {a : Nat} {β : Type} {F : Option St} {K : St → Option β} {o : β} (hC : CallS own ix y b nL' rt 1) (cx : Cx G X own cc nL n) (hk : k + 1 ≤ n ∧ nL' ≤ 45) (hst : (st.map fun v => v.category).sum ≤ 8) (hdg : decode cc pc = .ok (.invokestatic ix, 3)) (hM : ∀ σ1 : St, F = some σ1 → MCt G k y b nL' rt [v0] σ (some (.ref a)) σ1) (hF : bp F K = some o) (kk : ∀ σ1 : St, K σ1 = some o → WW G X nL σ1 lv (pc + 3) (.ref a :: st)) : WW G X nL σ lv pc (v0 :: st) := by
  obtain ⟨σ1, h1, h2⟩ := bp_some hF
  exact ww_callS hC cx hk hst rfl rfl hdg (hM σ1 h1) (kk σ1 h2)

theorem ww_V2_pi {G : GT} {X : CT} {own : String} {cc : ByteArray} {nL n : Nat} {σ : St} {lv : List (Nat × Value)} {pc : Nat} {st : List Value} {k ix nL' t ci : Nat} {C : String} {fs : List (Option Nat)} {T : u_T} {N : Nat} {y : MethodName} {b : ByteArray} {rt : Option FieldType} {v0 v1 : Value} {β : Type} {F : Option Int32} {K : Int32 → Option β} {o : β} (hC : CallV own ix C y b nL' rt 2) (hc : clz[ci]? = some (C, T, N)) (cx : Cx G X own cc nL n) (hs : shp[t]? = some (.inr (.inl (ci, fs)))) (hk : k + 1 ≤ n ∧ nL' ≤ 45) (hst : (st.map fun v => v.category).sum ≤ 8) (hdg : decode cc pc = .ok (.invokevirtual ix, 3)) (hM : ∀ r : Int32, F = some r → MCt G k y b nL' rt (.ref (gad G t) :: [v0, v1]) σ (some (.int r)) σ) (hF : bp F K = some o) (kk : ∀ r : Int32, K r = some o → WW G X nL σ lv (pc + 3) (.int r :: st)) : WW G X nL σ lv pc (v1 :: v0 :: .ref (gad G t) :: st) := by
  obtain ⟨r, h1, h2⟩ := bp_some hF
  exact ww_callV hC hc cx hs hk hst rfl rfl hdg (hM r h1) (kk r h2)

theorem ww_V2_pl {G : GT} {X : CT} {own : String} {cc : ByteArray} {nL n : Nat} {σ : St} {lv : List (Nat × Value)} {pc : Nat} {st : List Value} {k ix nL' t ci : Nat} {C : String} {fs : List (Option Nat)} {T : u_T} {N : Nat} {y : MethodName} {b : ByteArray} {rt : Option FieldType} {v0 v1 : Value} {β : Type} {F : Option Int64} {K : Int64 → Option β} {o : β} (hC : CallV own ix C y b nL' rt 2) (hc : clz[ci]? = some (C, T, N)) (cx : Cx G X own cc nL n) (hs : shp[t]? = some (.inr (.inl (ci, fs)))) (hk : k + 1 ≤ n ∧ nL' ≤ 45) (hst : (st.map fun v => v.category).sum ≤ 8) (hdg : decode cc pc = .ok (.invokevirtual ix, 3)) (hM : ∀ r : Int64, F = some r → MCt G k y b nL' rt (.ref (gad G t) :: [v0, v1]) σ (some (.long r)) σ) (hF : bp F K = some o) (kk : ∀ r : Int64, K r = some o → WW G X nL σ lv (pc + 3) (.long r :: st)) : WW G X nL σ lv pc (v1 :: v0 :: .ref (gad G t) :: st) := by
  obtain ⟨r, h1, h2⟩ := bp_some hF
  exact ww_callV hC hc cx hs hk hst rfl rfl hdg (hM r h1) (kk r h2)

theorem ww_V2_si {G : GT} {X : CT} {own : String} {cc : ByteArray} {nL n : Nat} {σ : St} {lv : List (Nat × Value)} {pc : Nat} {st : List Value} {k ix nL' t ci : Nat} {C : String} {fs : List (Option Nat)} {T : u_T} {N : Nat} {y : MethodName} {b : ByteArray} {rt : Option FieldType} {v0 v1 : Value} {β : Type} {F : Option (Int32 × St)} {K : Int32 → St → Option β} {o : β} (hC : CallV own ix C y b nL' rt 2) (hc : clz[ci]? = some (C, T, N)) (cx : Cx G X own cc nL n) (hs : shp[t]? = some (.inr (.inl (ci, fs)))) (hk : k + 1 ≤ n ∧ nL' ≤ 45) (hst : (st.map fun v => v.category).sum ≤ 8) (hdg : decode cc pc = .ok (.invokevirtual ix, 3)) (hM : ∀ (r : Int32) (σ1 : St), F = some (r, σ1) → MCt G k y b nL' rt (.ref (gad G t) :: [v0, v1]) σ (some (.int r)) σ1) (hF : bs F K = some o) (kk : ∀ (r : Int32) (σ1 : St), K r σ1 = some o → WW G X nL σ1 lv (pc + 3) (.int r :: st)) : WW G X nL σ lv pc (v1 :: v0 :: .ref (gad G t) :: st) := by
  obtain ⟨r, σ1, h1, h2⟩ := bs_some hF
  exact ww_callV hC hc cx hs hk hst rfl rfl hdg (hM r σ1 h1) (kk r σ1 h2)

theorem ww_V2_sv {G : GT} {X : CT} {own : String} {cc : ByteArray} {nL n : Nat} {σ : St} {lv : List (Nat × Value)} {pc : Nat} {st : List Value} {k ix nL' t ci : Nat} {C : String} {fs : List (Option Nat)} {T : u_T} {N : Nat} {y : MethodName} {b : ByteArray} {rt : Option FieldType} {v0 v1 : Value} {β : Type} {F : Option St} {K : St → Option β} {o : β} (hC : CallV own ix C y b nL' rt 2) (hc : clz[ci]? = some (C, T, N)) (cx : Cx G X own cc nL n) (hs : shp[t]? = some (.inr (.inl (ci, fs)))) (hk : k + 1 ≤ n ∧ nL' ≤ 45) (hst : (st.map fun v => v.category).sum ≤ 8) (hdg : decode cc pc = .ok (.invokevirtual ix, 3)) (hM : ∀ σ1 : St, F = some σ1 → MCt G k y b nL' rt (.ref (gad G t) :: [v0, v1]) σ none σ1) (hF : bp F K = some o) (kk : ∀ σ1 : St, K σ1 = some o → WW G X nL σ1 lv (pc + 3) st) : WW G X nL σ lv pc (v1 :: v0 :: .ref (gad G t) :: st) := by
  obtain ⟨σ1, h1, h2⟩ := bp_some hF
  exact ww_callV hC hc cx hs hk hst rfl rfl hdg (hM σ1 h1) (kk σ1 h2)

theorem ww_V2_sr {G : GT} {X : CT} {own : String} {cc : ByteArray} {nL n : Nat} {σ : St} {lv : List (Nat × Value)} {pc : Nat} {st : List Value} {k ix nL' t ci : Nat} {C : String} {fs : List (Option Nat)} {T : u_T} {N : Nat} {y : MethodName} {b : ByteArray} {rt : Option FieldType} {v0 v1 : Value} {a : Nat} {β : Type} {F : Option St} {K : St → Option β} {o : β} (hC : CallV own ix C y b nL' rt 2) (hc : clz[ci]? = some (C, T, N)) (cx : Cx G X own cc nL n) (hs : shp[t]? = some (.inr (.inl (ci, fs)))) (hk : k + 1 ≤ n ∧ nL' ≤ 45) (hst : (st.map fun v => v.category).sum ≤ 8) (hdg : decode cc pc = .ok (.invokevirtual ix, 3)) (hM : ∀ σ1 : St, F = some σ1 → MCt G k y b nL' rt (.ref (gad G t) :: [v0, v1]) σ (some (.ref a)) σ1) (hF : bp F K = some o) (kk : ∀ σ1 : St, K σ1 = some o → WW G X nL σ1 lv (pc + 3) (.ref a :: st)) : WW G X nL σ lv pc (v1 :: v0 :: .ref (gad G t) :: st) := by
  obtain ⟨σ1, h1, h2⟩ := bp_some hF
  exact ww_callV hC hc cx hs hk hst rfl rfl hdg (hM σ1 h1) (kk σ1 h2)

theorem ww_S2_pi {G : GT} {X : CT} {own : String} {cc : ByteArray} {nL n : Nat} {σ : St} {lv : List (Nat × Value)} {pc : Nat} {st : List Value} {k ix nL' : Nat} {y : MethodName} {b : ByteArray} {rt : Option FieldType} {v0 v1 : Value} {β : Type} {F : Option Int32} {K : Int32 → Option β} {o : β} (hC : CallS own ix y b nL' rt 2) (cx : Cx G X own cc nL n) (hk : k + 1 ≤ n ∧ nL' ≤ 45) (hst : (st.map fun v => v.category).sum ≤ 8) (hdg : decode cc pc = .ok (.invokestatic ix, 3)) (hM : ∀ r : Int32, F = some r → MCt G k y b nL' rt [v0, v1] σ (some (.int r)) σ) (hF : bp F K = some o) (kk : ∀ r : Int32, K r = some o → WW G X nL σ lv (pc + 3) (.int r :: st)) : WW G X nL σ lv pc (v1 :: v0 :: st) := by
  obtain ⟨r, h1, h2⟩ := bp_some hF
  exact ww_callS hC cx hk hst rfl rfl hdg (hM r h1) (kk r h2)

theorem ww_S2_pl {G : GT} {X : CT} {own : String} {cc : ByteArray} {nL n : Nat} {σ : St} {lv : List (Nat × Value)} {pc : Nat} {st : List Value} {k ix nL' : Nat} {y : MethodName} {b : ByteArray} {rt : Option FieldType} {v0 v1 : Value} {β : Type} {F : Option Int64} {K : Int64 → Option β} {o : β} (hC : CallS own ix y b nL' rt 2) (cx : Cx G X own cc nL n) (hk : k + 1 ≤ n ∧ nL' ≤ 45) (hst : (st.map fun v => v.category).sum ≤ 8) (hdg : decode cc pc = .ok (.invokestatic ix, 3)) (hM : ∀ r : Int64, F = some r → MCt G k y b nL' rt [v0, v1] σ (some (.long r)) σ) (hF : bp F K = some o) (kk : ∀ r : Int64, K r = some o → WW G X nL σ lv (pc + 3) (.long r :: st)) : WW G X nL σ lv pc (v1 :: v0 :: st) := by
  obtain ⟨r, h1, h2⟩ := bp_some hF
  exact ww_callS hC cx hk hst rfl rfl hdg (hM r h1) (kk r h2)

theorem ww_S2_si {G : GT} {X : CT} {own : String} {cc : ByteArray} {nL n : Nat} {σ : St} {lv : List (Nat × Value)} {pc : Nat} {st : List Value} {k ix nL' : Nat} {y : MethodName} {b : ByteArray} {rt : Option FieldType} {v0 v1 : Value} {β : Type} {F : Option (Int32 × St)} {K : Int32 → St → Option β} {o : β} (hC : CallS own ix y b nL' rt 2) (cx : Cx G X own cc nL n) (hk : k + 1 ≤ n ∧ nL' ≤ 45) (hst : (st.map fun v => v.category).sum ≤ 8) (hdg : decode cc pc = .ok (.invokestatic ix, 3)) (hM : ∀ (r : Int32) (σ1 : St), F = some (r, σ1) → MCt G k y b nL' rt [v0, v1] σ (some (.int r)) σ1) (hF : bs F K = some o) (kk : ∀ (r : Int32) (σ1 : St), K r σ1 = some o → WW G X nL σ1 lv (pc + 3) (.int r :: st)) : WW G X nL σ lv pc (v1 :: v0 :: st) := by
  obtain ⟨r, σ1, h1, h2⟩ := bs_some hF
  exact ww_callS hC cx hk hst rfl rfl hdg (hM r σ1 h1) (kk r σ1 h2)

theorem ww_S2_sv {G : GT} {X : CT} {own : String} {cc : ByteArray} {nL n : Nat} {σ : St} {lv : List (Nat × Value)} {pc : Nat} {st : List Value} {k ix nL' : Nat} {y : MethodName} {b : ByteArray} {rt : Option FieldType} {v0 v1 : Value} {β : Type} {F : Option St} {K : St → Option β} {o : β} (hC : CallS own ix y b nL' rt 2) (cx : Cx G X own cc nL n) (hk : k + 1 ≤ n ∧ nL' ≤ 45) (hst : (st.map fun v => v.category).sum ≤ 8) (hdg : decode cc pc = .ok (.invokestatic ix, 3)) (hM : ∀ σ1 : St, F = some σ1 → MCt G k y b nL' rt [v0, v1] σ none σ1) (hF : bp F K = some o) (kk : ∀ σ1 : St, K σ1 = some o → WW G X nL σ1 lv (pc + 3) st) : WW G X nL σ lv pc (v1 :: v0 :: st) := by
  obtain ⟨σ1, h1, h2⟩ := bp_some hF
  exact ww_callS hC cx hk hst rfl rfl hdg (hM σ1 h1) (kk σ1 h2)

theorem ww_S2_sr {G : GT} {X : CT} {own : String} {cc : ByteArray} {nL n : Nat} {σ : St} {lv : List (Nat × Value)} {pc : Nat} {st : List Value} {k ix nL' : Nat} {y : MethodName} {b : ByteArray} {rt : Option FieldType} {v0 v1 : Value} {a : Nat} {β : Type} {F : Option St} {K : St → Option β} {o : β} (hC : CallS own ix y b nL' rt 2) (cx : Cx G X own cc nL n) (hk : k + 1 ≤ n ∧ nL' ≤ 45) (hst : (st.map fun v => v.category).sum ≤ 8) (hdg : decode cc pc = .ok (.invokestatic ix, 3)) (hM : ∀ σ1 : St, F = some σ1 → MCt G k y b nL' rt [v0, v1] σ (some (.ref a)) σ1) (hF : bp F K = some o) (kk : ∀ σ1 : St, K σ1 = some o → WW G X nL σ1 lv (pc + 3) (.ref a :: st)) : WW G X nL σ lv pc (v1 :: v0 :: st) := by
  obtain ⟨σ1, h1, h2⟩ := bp_some hF
  exact ww_callS hC cx hk hst rfl rfl hdg (hM σ1 h1) (kk σ1 h2)

theorem ww_V3_pi {G : GT} {X : CT} {own : String} {cc : ByteArray} {nL n : Nat} {σ : St} {lv : List (Nat × Value)} {pc : Nat} {st : List Value} {k ix nL' t ci : Nat} {C : String} {fs : List (Option Nat)} {T : u_T} {N : Nat} {y : MethodName} {b : ByteArray} {rt : Option FieldType} {v0 v1 v2 : Value} {β : Type} {F : Option Int32} {K : Int32 → Option β} {o : β} (hC : CallV own ix C y b nL' rt 3) (hc : clz[ci]? = some (C, T, N)) (cx : Cx G X own cc nL n) (hs : shp[t]? = some (.inr (.inl (ci, fs)))) (hk : k + 1 ≤ n ∧ nL' ≤ 45) (hst : (st.map fun v => v.category).sum ≤ 8) (hdg : decode cc pc = .ok (.invokevirtual ix, 3)) (hM : ∀ r : Int32, F = some r → MCt G k y b nL' rt (.ref (gad G t) :: [v0, v1, v2]) σ (some (.int r)) σ) (hF : bp F K = some o) (kk : ∀ r : Int32, K r = some o → WW G X nL σ lv (pc + 3) (.int r :: st)) : WW G X nL σ lv pc (v2 :: v1 :: v0 :: .ref (gad G t) :: st) := by
  obtain ⟨r, h1, h2⟩ := bp_some hF
  exact ww_callV hC hc cx hs hk hst rfl rfl hdg (hM r h1) (kk r h2)

theorem ww_V3_si {G : GT} {X : CT} {own : String} {cc : ByteArray} {nL n : Nat} {σ : St} {lv : List (Nat × Value)} {pc : Nat} {st : List Value} {k ix nL' t ci : Nat} {C : String} {fs : List (Option Nat)} {T : u_T} {N : Nat} {y : MethodName} {b : ByteArray} {rt : Option FieldType} {v0 v1 v2 : Value} {β : Type} {F : Option (Int32 × St)} {K : Int32 → St → Option β} {o : β} (hC : CallV own ix C y b nL' rt 3) (hc : clz[ci]? = some (C, T, N)) (cx : Cx G X own cc nL n) (hs : shp[t]? = some (.inr (.inl (ci, fs)))) (hk : k + 1 ≤ n ∧ nL' ≤ 45) (hst : (st.map fun v => v.category).sum ≤ 8) (hdg : decode cc pc = .ok (.invokevirtual ix, 3)) (hM : ∀ (r : Int32) (σ1 : St), F = some (r, σ1) → MCt G k y b nL' rt (.ref (gad G t) :: [v0, v1, v2]) σ (some (.int r)) σ1) (hF : bs F K = some o) (kk : ∀ (r : Int32) (σ1 : St), K r σ1 = some o → WW G X nL σ1 lv (pc + 3) (.int r :: st)) : WW G X nL σ lv pc (v2 :: v1 :: v0 :: .ref (gad G t) :: st) := by
  obtain ⟨r, σ1, h1, h2⟩ := bs_some hF
  exact ww_callV hC hc cx hs hk hst rfl rfl hdg (hM r σ1 h1) (kk r σ1 h2)

theorem ww_V3_sv {G : GT} {X : CT} {own : String} {cc : ByteArray} {nL n : Nat} {σ : St} {lv : List (Nat × Value)} {pc : Nat} {st : List Value} {k ix nL' t ci : Nat} {C : String} {fs : List (Option Nat)} {T : u_T} {N : Nat} {y : MethodName} {b : ByteArray} {rt : Option FieldType} {v0 v1 v2 : Value} {β : Type} {F : Option St} {K : St → Option β} {o : β} (hC : CallV own ix C y b nL' rt 3) (hc : clz[ci]? = some (C, T, N)) (cx : Cx G X own cc nL n) (hs : shp[t]? = some (.inr (.inl (ci, fs)))) (hk : k + 1 ≤ n ∧ nL' ≤ 45) (hst : (st.map fun v => v.category).sum ≤ 8) (hdg : decode cc pc = .ok (.invokevirtual ix, 3)) (hM : ∀ σ1 : St, F = some σ1 → MCt G k y b nL' rt (.ref (gad G t) :: [v0, v1, v2]) σ none σ1) (hF : bp F K = some o) (kk : ∀ σ1 : St, K σ1 = some o → WW G X nL σ1 lv (pc + 3) st) : WW G X nL σ lv pc (v2 :: v1 :: v0 :: .ref (gad G t) :: st) := by
  obtain ⟨σ1, h1, h2⟩ := bp_some hF
  exact ww_callV hC hc cx hs hk hst rfl rfl hdg (hM σ1 h1) (kk σ1 h2)

theorem ww_S3_pi {G : GT} {X : CT} {own : String} {cc : ByteArray} {nL n : Nat} {σ : St} {lv : List (Nat × Value)} {pc : Nat} {st : List Value} {k ix nL' : Nat} {y : MethodName} {b : ByteArray} {rt : Option FieldType} {v0 v1 v2 : Value} {β : Type} {F : Option Int32} {K : Int32 → Option β} {o : β} (hC : CallS own ix y b nL' rt 3) (cx : Cx G X own cc nL n) (hk : k + 1 ≤ n ∧ nL' ≤ 45) (hst : (st.map fun v => v.category).sum ≤ 8) (hdg : decode cc pc = .ok (.invokestatic ix, 3)) (hM : ∀ r : Int32, F = some r → MCt G k y b nL' rt [v0, v1, v2] σ (some (.int r)) σ) (hF : bp F K = some o) (kk : ∀ r : Int32, K r = some o → WW G X nL σ lv (pc + 3) (.int r :: st)) : WW G X nL σ lv pc (v2 :: v1 :: v0 :: st) := by
  obtain ⟨r, h1, h2⟩ := bp_some hF
  exact ww_callS hC cx hk hst rfl rfl hdg (hM r h1) (kk r h2)

theorem ww_S3_si {G : GT} {X : CT} {own : String} {cc : ByteArray} {nL n : Nat} {σ : St} {lv : List (Nat × Value)} {pc : Nat} {st : List Value} {k ix nL' : Nat} {y : MethodName} {b : ByteArray} {rt : Option FieldType} {v0 v1 v2 : Value} {β : Type} {F : Option (Int32 × St)} {K : Int32 → St → Option β} {o : β} (hC : CallS own ix y b nL' rt 3) (cx : Cx G X own cc nL n) (hk : k + 1 ≤ n ∧ nL' ≤ 45) (hst : (st.map fun v => v.category).sum ≤ 8) (hdg : decode cc pc = .ok (.invokestatic ix, 3)) (hM : ∀ (r : Int32) (σ1 : St), F = some (r, σ1) → MCt G k y b nL' rt [v0, v1, v2] σ (some (.int r)) σ1) (hF : bs F K = some o) (kk : ∀ (r : Int32) (σ1 : St), K r σ1 = some o → WW G X nL σ1 lv (pc + 3) (.int r :: st)) : WW G X nL σ lv pc (v2 :: v1 :: v0 :: st) := by
  obtain ⟨r, σ1, h1, h2⟩ := bs_some hF
  exact ww_callS hC cx hk hst rfl rfl hdg (hM r σ1 h1) (kk r σ1 h2)

theorem ww_S3_sv {G : GT} {X : CT} {own : String} {cc : ByteArray} {nL n : Nat} {σ : St} {lv : List (Nat × Value)} {pc : Nat} {st : List Value} {k ix nL' : Nat} {y : MethodName} {b : ByteArray} {rt : Option FieldType} {v0 v1 v2 : Value} {β : Type} {F : Option St} {K : St → Option β} {o : β} (hC : CallS own ix y b nL' rt 3) (cx : Cx G X own cc nL n) (hk : k + 1 ≤ n ∧ nL' ≤ 45) (hst : (st.map fun v => v.category).sum ≤ 8) (hdg : decode cc pc = .ok (.invokestatic ix, 3)) (hM : ∀ σ1 : St, F = some σ1 → MCt G k y b nL' rt [v0, v1, v2] σ none σ1) (hF : bp F K = some o) (kk : ∀ σ1 : St, K σ1 = some o → WW G X nL σ1 lv (pc + 3) st) : WW G X nL σ lv pc (v2 :: v1 :: v0 :: st) := by
  obtain ⟨σ1, h1, h2⟩ := bp_some hF
  exact ww_callS hC cx hk hst rfl rfl hdg (hM σ1 h1) (kk σ1 h2)

theorem ww_V4_pi {G : GT} {X : CT} {own : String} {cc : ByteArray} {nL n : Nat} {σ : St} {lv : List (Nat × Value)} {pc : Nat} {st : List Value} {k ix nL' t ci : Nat} {C : String} {fs : List (Option Nat)} {T : u_T} {N : Nat} {y : MethodName} {b : ByteArray} {rt : Option FieldType} {v0 v1 v2 v3 : Value} {β : Type} {F : Option Int32} {K : Int32 → Option β} {o : β} (hC : CallV own ix C y b nL' rt 4) (hc : clz[ci]? = some (C, T, N)) (cx : Cx G X own cc nL n) (hs : shp[t]? = some (.inr (.inl (ci, fs)))) (hk : k + 1 ≤ n ∧ nL' ≤ 45) (hst : (st.map fun v => v.category).sum ≤ 8) (hdg : decode cc pc = .ok (.invokevirtual ix, 3)) (hM : ∀ r : Int32, F = some r → MCt G k y b nL' rt (.ref (gad G t) :: [v0, v1, v2, v3]) σ (some (.int r)) σ) (hF : bp F K = some o) (kk : ∀ r : Int32, K r = some o → WW G X nL σ lv (pc + 3) (.int r :: st)) : WW G X nL σ lv pc (v3 :: v2 :: v1 :: v0 :: .ref (gad G t) :: st) := by
  obtain ⟨r, h1, h2⟩ := bp_some hF
  exact ww_callV hC hc cx hs hk hst rfl rfl hdg (hM r h1) (kk r h2)

theorem ww_V4_si {G : GT} {X : CT} {own : String} {cc : ByteArray} {nL n : Nat} {σ : St} {lv : List (Nat × Value)} {pc : Nat} {st : List Value} {k ix nL' t ci : Nat} {C : String} {fs : List (Option Nat)} {T : u_T} {N : Nat} {y : MethodName} {b : ByteArray} {rt : Option FieldType} {v0 v1 v2 v3 : Value} {β : Type} {F : Option (Int32 × St)} {K : Int32 → St → Option β} {o : β} (hC : CallV own ix C y b nL' rt 4) (hc : clz[ci]? = some (C, T, N)) (cx : Cx G X own cc nL n) (hs : shp[t]? = some (.inr (.inl (ci, fs)))) (hk : k + 1 ≤ n ∧ nL' ≤ 45) (hst : (st.map fun v => v.category).sum ≤ 8) (hdg : decode cc pc = .ok (.invokevirtual ix, 3)) (hM : ∀ (r : Int32) (σ1 : St), F = some (r, σ1) → MCt G k y b nL' rt (.ref (gad G t) :: [v0, v1, v2, v3]) σ (some (.int r)) σ1) (hF : bs F K = some o) (kk : ∀ (r : Int32) (σ1 : St), K r σ1 = some o → WW G X nL σ1 lv (pc + 3) (.int r :: st)) : WW G X nL σ lv pc (v3 :: v2 :: v1 :: v0 :: .ref (gad G t) :: st) := by
  obtain ⟨r, σ1, h1, h2⟩ := bs_some hF
  exact ww_callV hC hc cx hs hk hst rfl rfl hdg (hM r σ1 h1) (kk r σ1 h2)

theorem ww_V4_sv {G : GT} {X : CT} {own : String} {cc : ByteArray} {nL n : Nat} {σ : St} {lv : List (Nat × Value)} {pc : Nat} {st : List Value} {k ix nL' t ci : Nat} {C : String} {fs : List (Option Nat)} {T : u_T} {N : Nat} {y : MethodName} {b : ByteArray} {rt : Option FieldType} {v0 v1 v2 v3 : Value} {β : Type} {F : Option St} {K : St → Option β} {o : β} (hC : CallV own ix C y b nL' rt 4) (hc : clz[ci]? = some (C, T, N)) (cx : Cx G X own cc nL n) (hs : shp[t]? = some (.inr (.inl (ci, fs)))) (hk : k + 1 ≤ n ∧ nL' ≤ 45) (hst : (st.map fun v => v.category).sum ≤ 8) (hdg : decode cc pc = .ok (.invokevirtual ix, 3)) (hM : ∀ σ1 : St, F = some σ1 → MCt G k y b nL' rt (.ref (gad G t) :: [v0, v1, v2, v3]) σ none σ1) (hF : bp F K = some o) (kk : ∀ σ1 : St, K σ1 = some o → WW G X nL σ1 lv (pc + 3) st) : WW G X nL σ lv pc (v3 :: v2 :: v1 :: v0 :: .ref (gad G t) :: st) := by
  obtain ⟨σ1, h1, h2⟩ := bp_some hF
  exact ww_callV hC hc cx hs hk hst rfl rfl hdg (hM σ1 h1) (kk σ1 h2)

theorem ww_S4_pi {G : GT} {X : CT} {own : String} {cc : ByteArray} {nL n : Nat} {σ : St} {lv : List (Nat × Value)} {pc : Nat} {st : List Value} {k ix nL' : Nat} {y : MethodName} {b : ByteArray} {rt : Option FieldType} {v0 v1 v2 v3 : Value} {β : Type} {F : Option Int32} {K : Int32 → Option β} {o : β} (hC : CallS own ix y b nL' rt 4) (cx : Cx G X own cc nL n) (hk : k + 1 ≤ n ∧ nL' ≤ 45) (hst : (st.map fun v => v.category).sum ≤ 8) (hdg : decode cc pc = .ok (.invokestatic ix, 3)) (hM : ∀ r : Int32, F = some r → MCt G k y b nL' rt [v0, v1, v2, v3] σ (some (.int r)) σ) (hF : bp F K = some o) (kk : ∀ r : Int32, K r = some o → WW G X nL σ lv (pc + 3) (.int r :: st)) : WW G X nL σ lv pc (v3 :: v2 :: v1 :: v0 :: st) := by
  obtain ⟨r, h1, h2⟩ := bp_some hF
  exact ww_callS hC cx hk hst rfl rfl hdg (hM r h1) (kk r h2)

theorem ww_S4_si {G : GT} {X : CT} {own : String} {cc : ByteArray} {nL n : Nat} {σ : St} {lv : List (Nat × Value)} {pc : Nat} {st : List Value} {k ix nL' : Nat} {y : MethodName} {b : ByteArray} {rt : Option FieldType} {v0 v1 v2 v3 : Value} {β : Type} {F : Option (Int32 × St)} {K : Int32 → St → Option β} {o : β} (hC : CallS own ix y b nL' rt 4) (cx : Cx G X own cc nL n) (hk : k + 1 ≤ n ∧ nL' ≤ 45) (hst : (st.map fun v => v.category).sum ≤ 8) (hdg : decode cc pc = .ok (.invokestatic ix, 3)) (hM : ∀ (r : Int32) (σ1 : St), F = some (r, σ1) → MCt G k y b nL' rt [v0, v1, v2, v3] σ (some (.int r)) σ1) (hF : bs F K = some o) (kk : ∀ (r : Int32) (σ1 : St), K r σ1 = some o → WW G X nL σ1 lv (pc + 3) (.int r :: st)) : WW G X nL σ lv pc (v3 :: v2 :: v1 :: v0 :: st) := by
  obtain ⟨r, σ1, h1, h2⟩ := bs_some hF
  exact ww_callS hC cx hk hst rfl rfl hdg (hM r σ1 h1) (kk r σ1 h2)

theorem ww_S4_sv {G : GT} {X : CT} {own : String} {cc : ByteArray} {nL n : Nat} {σ : St} {lv : List (Nat × Value)} {pc : Nat} {st : List Value} {k ix nL' : Nat} {y : MethodName} {b : ByteArray} {rt : Option FieldType} {v0 v1 v2 v3 : Value} {β : Type} {F : Option St} {K : St → Option β} {o : β} (hC : CallS own ix y b nL' rt 4) (cx : Cx G X own cc nL n) (hk : k + 1 ≤ n ∧ nL' ≤ 45) (hst : (st.map fun v => v.category).sum ≤ 8) (hdg : decode cc pc = .ok (.invokestatic ix, 3)) (hM : ∀ σ1 : St, F = some σ1 → MCt G k y b nL' rt [v0, v1, v2, v3] σ none σ1) (hF : bp F K = some o) (kk : ∀ σ1 : St, K σ1 = some o → WW G X nL σ1 lv (pc + 3) st) : WW G X nL σ lv pc (v3 :: v2 :: v1 :: v0 :: st) := by
  obtain ⟨σ1, h1, h2⟩ := bp_some hF
  exact ww_callS hC cx hk hst rfl rfl hdg (hM σ1 h1) (kk σ1 h2)

theorem ww_V5_pi {G : GT} {X : CT} {own : String} {cc : ByteArray} {nL n : Nat} {σ : St} {lv : List (Nat × Value)} {pc : Nat} {st : List Value} {k ix nL' t ci : Nat} {C : String} {fs : List (Option Nat)} {T : u_T} {N : Nat} {y : MethodName} {b : ByteArray} {rt : Option FieldType} {v0 v1 v2 v3 v4 : Value} {β : Type} {F : Option Int32} {K : Int32 → Option β} {o : β} (hC : CallV own ix C y b nL' rt 5) (hc : clz[ci]? = some (C, T, N)) (cx : Cx G X own cc nL n) (hs : shp[t]? = some (.inr (.inl (ci, fs)))) (hk : k + 1 ≤ n ∧ nL' ≤ 45) (hst : (st.map fun v => v.category).sum ≤ 8) (hdg : decode cc pc = .ok (.invokevirtual ix, 3)) (hM : ∀ r : Int32, F = some r → MCt G k y b nL' rt (.ref (gad G t) :: [v0, v1, v2, v3, v4]) σ (some (.int r)) σ) (hF : bp F K = some o) (kk : ∀ r : Int32, K r = some o → WW G X nL σ lv (pc + 3) (.int r :: st)) : WW G X nL σ lv pc (v4 :: v3 :: v2 :: v1 :: v0 :: .ref (gad G t) :: st) := by
  obtain ⟨r, h1, h2⟩ := bp_some hF
  exact ww_callV hC hc cx hs hk hst rfl rfl hdg (hM r h1) (kk r h2)

theorem ww_V5_si {G : GT} {X : CT} {own : String} {cc : ByteArray} {nL n : Nat} {σ : St} {lv : List (Nat × Value)} {pc : Nat} {st : List Value} {k ix nL' t ci : Nat} {C : String} {fs : List (Option Nat)} {T : u_T} {N : Nat} {y : MethodName} {b : ByteArray} {rt : Option FieldType} {v0 v1 v2 v3 v4 : Value} {β : Type} {F : Option (Int32 × St)} {K : Int32 → St → Option β} {o : β} (hC : CallV own ix C y b nL' rt 5) (hc : clz[ci]? = some (C, T, N)) (cx : Cx G X own cc nL n) (hs : shp[t]? = some (.inr (.inl (ci, fs)))) (hk : k + 1 ≤ n ∧ nL' ≤ 45) (hst : (st.map fun v => v.category).sum ≤ 8) (hdg : decode cc pc = .ok (.invokevirtual ix, 3)) (hM : ∀ (r : Int32) (σ1 : St), F = some (r, σ1) → MCt G k y b nL' rt (.ref (gad G t) :: [v0, v1, v2, v3, v4]) σ (some (.int r)) σ1) (hF : bs F K = some o) (kk : ∀ (r : Int32) (σ1 : St), K r σ1 = some o → WW G X nL σ1 lv (pc + 3) (.int r :: st)) : WW G X nL σ lv pc (v4 :: v3 :: v2 :: v1 :: v0 :: .ref (gad G t) :: st) := by
  obtain ⟨r, σ1, h1, h2⟩ := bs_some hF
  exact ww_callV hC hc cx hs hk hst rfl rfl hdg (hM r σ1 h1) (kk r σ1 h2)

theorem ww_V5_sv {G : GT} {X : CT} {own : String} {cc : ByteArray} {nL n : Nat} {σ : St} {lv : List (Nat × Value)} {pc : Nat} {st : List Value} {k ix nL' t ci : Nat} {C : String} {fs : List (Option Nat)} {T : u_T} {N : Nat} {y : MethodName} {b : ByteArray} {rt : Option FieldType} {v0 v1 v2 v3 v4 : Value} {β : Type} {F : Option St} {K : St → Option β} {o : β} (hC : CallV own ix C y b nL' rt 5) (hc : clz[ci]? = some (C, T, N)) (cx : Cx G X own cc nL n) (hs : shp[t]? = some (.inr (.inl (ci, fs)))) (hk : k + 1 ≤ n ∧ nL' ≤ 45) (hst : (st.map fun v => v.category).sum ≤ 8) (hdg : decode cc pc = .ok (.invokevirtual ix, 3)) (hM : ∀ σ1 : St, F = some σ1 → MCt G k y b nL' rt (.ref (gad G t) :: [v0, v1, v2, v3, v4]) σ none σ1) (hF : bp F K = some o) (kk : ∀ σ1 : St, K σ1 = some o → WW G X nL σ1 lv (pc + 3) st) : WW G X nL σ lv pc (v4 :: v3 :: v2 :: v1 :: v0 :: .ref (gad G t) :: st) := by
  obtain ⟨σ1, h1, h2⟩ := bp_some hF
  exact ww_callV hC hc cx hs hk hst rfl rfl hdg (hM σ1 h1) (kk σ1 h2)

theorem ww_S5_pi {G : GT} {X : CT} {own : String} {cc : ByteArray} {nL n : Nat} {σ : St} {lv : List (Nat × Value)} {pc : Nat} {st : List Value} {k ix nL' : Nat} {y : MethodName} {b : ByteArray} {rt : Option FieldType} {v0 v1 v2 v3 v4 : Value} {β : Type} {F : Option Int32} {K : Int32 → Option β} {o : β} (hC : CallS own ix y b nL' rt 5) (cx : Cx G X own cc nL n) (hk : k + 1 ≤ n ∧ nL' ≤ 45) (hst : (st.map fun v => v.category).sum ≤ 8) (hdg : decode cc pc = .ok (.invokestatic ix, 3)) (hM : ∀ r : Int32, F = some r → MCt G k y b nL' rt [v0, v1, v2, v3, v4] σ (some (.int r)) σ) (hF : bp F K = some o) (kk : ∀ r : Int32, K r = some o → WW G X nL σ lv (pc + 3) (.int r :: st)) : WW G X nL σ lv pc (v4 :: v3 :: v2 :: v1 :: v0 :: st) := by
  obtain ⟨r, h1, h2⟩ := bp_some hF
  exact ww_callS hC cx hk hst rfl rfl hdg (hM r h1) (kk r h2)

theorem ww_S5_si {G : GT} {X : CT} {own : String} {cc : ByteArray} {nL n : Nat} {σ : St} {lv : List (Nat × Value)} {pc : Nat} {st : List Value} {k ix nL' : Nat} {y : MethodName} {b : ByteArray} {rt : Option FieldType} {v0 v1 v2 v3 v4 : Value} {β : Type} {F : Option (Int32 × St)} {K : Int32 → St → Option β} {o : β} (hC : CallS own ix y b nL' rt 5) (cx : Cx G X own cc nL n) (hk : k + 1 ≤ n ∧ nL' ≤ 45) (hst : (st.map fun v => v.category).sum ≤ 8) (hdg : decode cc pc = .ok (.invokestatic ix, 3)) (hM : ∀ (r : Int32) (σ1 : St), F = some (r, σ1) → MCt G k y b nL' rt [v0, v1, v2, v3, v4] σ (some (.int r)) σ1) (hF : bs F K = some o) (kk : ∀ (r : Int32) (σ1 : St), K r σ1 = some o → WW G X nL σ1 lv (pc + 3) (.int r :: st)) : WW G X nL σ lv pc (v4 :: v3 :: v2 :: v1 :: v0 :: st) := by
  obtain ⟨r, σ1, h1, h2⟩ := bs_some hF
  exact ww_callS hC cx hk hst rfl rfl hdg (hM r σ1 h1) (kk r σ1 h2)

theorem ww_S5_sv {G : GT} {X : CT} {own : String} {cc : ByteArray} {nL n : Nat} {σ : St} {lv : List (Nat × Value)} {pc : Nat} {st : List Value} {k ix nL' : Nat} {y : MethodName} {b : ByteArray} {rt : Option FieldType} {v0 v1 v2 v3 v4 : Value} {β : Type} {F : Option St} {K : St → Option β} {o : β} (hC : CallS own ix y b nL' rt 5) (cx : Cx G X own cc nL n) (hk : k + 1 ≤ n ∧ nL' ≤ 45) (hst : (st.map fun v => v.category).sum ≤ 8) (hdg : decode cc pc = .ok (.invokestatic ix, 3)) (hM : ∀ σ1 : St, F = some σ1 → MCt G k y b nL' rt [v0, v1, v2, v3, v4] σ none σ1) (hF : bp F K = some o) (kk : ∀ σ1 : St, K σ1 = some o → WW G X nL σ1 lv (pc + 3) st) : WW G X nL σ lv pc (v4 :: v3 :: v2 :: v1 :: v0 :: st) := by
  obtain ⟨σ1, h1, h2⟩ := bp_some hF
  exact ww_callS hC cx hk hst rfl rfl hdg (hM σ1 h1) (kk σ1 h2)

theorem met_core {G : GT} {k : Nat} {y : MethodName} {b : ByteArray} {nL : Nat} {rt : Option FieldType} {as : List Value} {σ : St} {rv : Option Value} {σ1 : St} {EndP : CT → Prop} (hy : plainName y.cls = true) (hsl : (lg_sl as).length ≤ nL)
    (hEnd : ∀ (p : Program) (e : Env) (R : Room) (s : State) (m : MethodId) (args : Array Value) (below : List Frame) (meth : Method) (c : Code) (A : Nat → Prop), p.tables.exec = Jvm.exec → c.code = b → meth.sig.returnType = rt → meth.locks = false → EndP (p, e, R, s, m, args, below, meth, c, MQ below (fun _ st oc t => oc = .returned rv ∧ va_P G.2.1 clz (wld G σ1) t.heap ∧ va_F A st t) args s 0 0 A, A, 0, 0))
    (body : ∀ X : CT, Cx G X y.cls b nL k → EndP X → WW G X nL σ (lv_args 0 as) 0 []) : MCt G k y b nL rt as σ rv σ1 := by
  intro sz
  refine Met.ofW (cc := b) (maxL := nL) (ret := rt) hy rfl ?_
  intro p e s m args below meth c s₁ B hml hv
  obtain ⟨rfl, hsz, hP, hG⟩ := hv
  have hts := atoms_spec (ws := .code y b nL rt :: TBL) B.pre
  subst hsz
  generalize hAe : va_A (wld G σ) s.heap.size = A at hG ⊢
  have hA : ∀ q : Nat, s.heap.size ≤ q → A q := fun q h => by rw [← hAe]; exact Or.inr h
  have hl := lv_entry as hsl
  rw [lg_entry_eq]
  have h0 := body (p, e, rmL k, s, m, as.toArray, below, meth, c, MQ below (fun _ st oc t => oc = .returned rv ∧ va_P G.2.1 clz (wld G σ1) t.heap ∧ va_F A st t) as.toArray s 0 0 A, A, 0, 0) ⟨B.exec, B.bytes, hml, findClass_of_methodNamed B.named, fun w hw => hts w (List.mem_cons_of_mem _ hw), hG, hA, ⟨Nat.le_refl _, Nat.le_refl _⟩, ⟨Nat.le_refl _, Nat.le_refl _⟩⟩ (hEnd _ _ _ _ _ _ _ _ _ _ B.exec B.bytes B.returns B.notSynchronized)
  exact h0 s.heap [] _ hl hP va_S.rf

theorem met_i {G : GT} {k : Nat} {y : MethodName} {b : ByteArray} {nL : Nat} {as : List Value} {σ : St} {r : Int32} {σ1 : St} (hy : plainName y.cls = true) (hsl : (lg_sl as).length ≤ nL) (body : ∀ X : CT, Cx G X y.cls b nL k → (∀ (lv : List (Nat × Value)) (pc : Nat), decode b pc = .ok (.ireturn, 1) → WW G X nL σ1 lv pc [.int r]) → WW G X nL σ (lv_args 0 as) 0 []) : MCt G k y b nL (some .int) as σ (some (.int r)) σ1 :=
  met_core (EndP := fun X => ∀ (lv : List (Nat × Value)) (pc : Nat), decode b pc = .ok (.ireturn, 1) → WW G X nL σ1 lv pc [.int r]) hy hsl (fun p e R s m args below meth c A hx hb hr hlocks lv pc hdg H locs ls hl hP hS => W.iret hx hb hr (fun t ht hW => ⟨rfl, by rw [ht]; exact hP, hS.F ht⟩) hS.2.2 hdg) body

theorem met_z {G : GT} {k : Nat} {y : MethodName} {b : ByteArray} {nL : Nat} {as : List Value} {σ : St} {r : Int32} {σ1 : St} (hy : plainName y.cls = true) (hsl : (lg_sl as).length ≤ nL) (hz : r = 0 ∨ r = 1) (body : ∀ X : CT, Cx G X y.cls b nL k → (∀ (lv : List (Nat × Value)) (pc : Nat), decode b pc = .ok (.ireturn, 1) → WW G X nL σ1 lv pc [.int r]) → WW G X nL σ (lv_args 0 as) 0 []) : MCt G k y b nL (some .boolean) as σ (some (.int r)) σ1 :=
  met_core (EndP := fun X => ∀ (lv : List (Nat × Value)) (pc : Nat), decode b pc = .ok (.ireturn, 1) → WW G X nL σ1 lv pc [.int r]) hy hsl (fun p e R s m args below meth c A hx hb hr hlocks lv pc hdg H locs ls hl hP hS => W.zret hx hb hr (by rcases hz with rfl | rfl <;> rfl) (fun t ht hW => ⟨rfl, by rw [ht]; exact hP, hS.F ht⟩) hS.2.2 hdg) body

theorem met_v {G : GT} {k : Nat} {y : MethodName} {b : ByteArray} {nL : Nat} {as : List Value} {σ : St} {σ1 : St} (hy : plainName y.cls = true) (hsl : (lg_sl as).length ≤ nL) (body : ∀ X : CT, Cx G X y.cls b nL k → (∀ (lv : List (Nat × Value)) (pc : Nat), decode b pc = .ok (.return_, 1) → WW G X nL σ1 lv pc []) → WW G X nL σ (lv_args 0 as) 0 []) : MCt G k y b nL (none) as σ (none) σ1 :=
  met_core (EndP := fun X => ∀ (lv : List (Nat × Value)) (pc : Nat), decode b pc = .ok (.return_, 1) → WW G X nL σ1 lv pc []) hy hsl (fun p e R s m args below meth c A hx hb hr hlocks lv pc hdg H locs ls hl hP hS => W.vret hx hb hr (fun t ht hW => ⟨rfl, by rw [ht]; exact hP, hS.F ht⟩) hS.2.2 hdg) body

theorem met_l {G : GT} {k : Nat} {y : MethodName} {b : ByteArray} {nL : Nat} {as : List Value} {σ : St} {r : Int64} {σ1 : St} (hy : plainName y.cls = true) (hsl : (lg_sl as).length ≤ nL) (body : ∀ X : CT, Cx G X y.cls b nL k → (∀ (lv : List (Nat × Value)) (pc : Nat), decode b pc = .ok (.lreturn, 1) → WW G X nL σ1 lv pc [.long r]) → WW G X nL σ (lv_args 0 as) 0 []) : MCt G k y b nL (some .long) as σ (some (.long r)) σ1 :=
  met_core (EndP := fun X => ∀ (lv : List (Nat × Value)) (pc : Nat), decode b pc = .ok (.lreturn, 1) → WW G X nL σ1 lv pc [.long r]) hy hsl (fun p e R s m args below meth c A hx hb hr hlocks lv pc hdg H locs ls hl hP hS => W.lret hx hb hr (fun t ht hW => ⟨rfl, by rw [ht]; exact hP, hS.F ht⟩) hS.2.2 hdg) body

theorem met_a {G : GT} {k : Nat} {y : MethodName} {b : ByteArray} {nL : Nat} {as : List Value} {σ : St} {a : Nat} {C : String} {σ1 : St} (hy : plainName y.cls = true) (hsl : (lg_sl as).length ≤ nL) (body : ∀ X : CT, Cx G X y.cls b nL k → (∀ (lv : List (Nat × Value)) (pc : Nat), decode b pc = .ok (.areturn, 1) → WW G X nL σ1 lv pc [.ref a]) → WW G X nL σ (lv_args 0 as) 0 []) : MCt G k y b nL (some (.object C)) as σ (some (.ref a)) σ1 :=
  met_core (EndP := fun X => ∀ (lv : List (Nat × Value)) (pc : Nat), decode b pc = .ok (.areturn, 1) → WW G X nL σ1 lv pc [.ref a]) hy hsl (fun p e R s m args below meth c A hx hb hr hlocks lv pc hdg H locs ls hl hP hS => W.aret hx hb hr (Or.inl ⟨_, rfl⟩) (Or.inr ⟨_, rfl⟩) (fun t ht hW => ⟨rfl, by rw [ht]; exact hP, hS.F ht⟩) hS.2.2 hdg) body
end
section
theorem mm_max_s : Cond.static Lib.Math.max.name ∈ TBL := tm 1014 (by decide +kernel) (by decide +kernel)
theorem mm_max_c : Cond.code Lib.Math.max.name Lib.Math.max.code 2 (some .int) ∈ TBL := tm 1015 (by decide +kernel) (by decide +kernel)
theorem mm_min_s : Cond.static Lib.Math.min.name ∈ TBL := tm 454 (by decide +kernel) (by decide +kernel)
theorem mm_min_c : Cond.code Lib.Math.min.name Lib.Math.min.code 2 (some .int) ∈ TBL := tm 455 (by decide +kernel) (by decide +kernel)
theorem mm_i : Cond.initialized "java/lang/Math" ∈ TBL := tm 131 (by decide +kernel) (by decide +kernel)
theorem ac_n : Cond.native arraycopyName ∈ TBL := tm 618 (by decide +kernel) (by decide +kernel)
theorem ac_s : Cond.static arraycopyName ∈ TBL := tm 617 (by decide +kernel) (by decide +kernel)
theorem ac_i : Cond.initialized "java/lang/System" ∈ TBL := tm 137 (by decide +kernel) (by decide +kernel)
theorem wi0 : ∀ w ∈ u_ws RX0 TX0 1, w ∈ TBL := by
  intro w hw
  have key : u_ws RX0 TX0 1 = [380].filterMap (fun i => lw_tbl[i]?) := by decide +kernel
  have hg : (u_ws RX0 TX0 1).all goodWord = true := by decide +kernel
  refine List.mem_filter.mpr ⟨?_, List.all_eq_true.mp hg w hw⟩
  rw [key] at hw
  obtain ⟨i, -, hi⟩ := List.mem_filterMap.mp hw
  exact List.mem_of_getElem? hi
theorem wi1 : ∀ w ∈ u_ws RX1 TX1 7, w ∈ TBL := by
  intro w hw
  have key : u_ws RX1 TX1 7 = [358, 360, 362, 364, 366, 368, 370].filterMap (fun i => lw_tbl[i]?) := by decide +kernel
  have hg : (u_ws RX1 TX1 7).all goodWord = true := by decide +kernel
  refine List.mem_filter.mpr ⟨?_, List.all_eq_true.mp hg w hw⟩
  rw [key] at hw
  obtain ⟨i, -, hi⟩ := List.mem_filterMap.mp hw
  exact List.mem_of_getElem? hi
theorem wi2 : ∀ w ∈ u_ws RX2 TX2 8, w ∈ TBL := by
  intro w hw
  have key : u_ws RX2 TX2 8 = [163, 165, 167, 169, 171, 173, 175, 177].filterMap (fun i => lw_tbl[i]?) := by decide +kernel
  have hg : (u_ws RX2 TX2 8).all goodWord = true := by decide +kernel
  refine List.mem_filter.mpr ⟨?_, List.all_eq_true.mp hg w hw⟩
  rw [key] at hw
  obtain ⟨i, -, hi⟩ := List.mem_filterMap.mp hw
  exact List.mem_of_getElem? hi
theorem wi3 : ∀ w ∈ u_ws RX3 TX3 4, w ∈ TBL := by
  intro w hw
  have key : u_ws RX3 TX3 4 = [329, 331, 333, 335].filterMap (fun i => lw_tbl[i]?) := by decide +kernel
  have hg : (u_ws RX3 TX3 4).all goodWord = true := by decide +kernel
  refine List.mem_filter.mpr ⟨?_, List.all_eq_true.mp hg w hw⟩
  rw [key] at hw
  obtain ⟨i, -, hi⟩ := List.mem_filterMap.mp hw
  exact List.mem_of_getElem? hi
theorem wi4 : ∀ w ∈ u_ws RX4 TX4 4, w ∈ TBL := by
  intro w hw
  have key : u_ws RX4 TX4 4 = [293, 295, 297, 299].filterMap (fun i => lw_tbl[i]?) := by decide +kernel
  have hg : (u_ws RX4 TX4 4).all goodWord = true := by decide +kernel
  refine List.mem_filter.mpr ⟨?_, List.all_eq_true.mp hg w hw⟩
  rw [key] at hw
  obtain ⟨i, -, hi⟩ := List.mem_filterMap.mp hw
  exact List.mem_of_getElem? hi
theorem wi5 : ∀ w ∈ u_ws RX5 TX5 1, w ∈ TBL := by
  intro w hw
  have key : u_ws RX5 TX5 1 = [312].filterMap (fun i => lw_tbl[i]?) := by decide +kernel
  have hg : (u_ws RX5 TX5 1).all goodWord = true := by decide +kernel
  refine List.mem_filter.mpr ⟨?_, List.all_eq_true.mp hg w hw⟩
  rw [key] at hw
  obtain ⟨i, -, hi⟩ := List.mem_filterMap.mp hw
  exact List.mem_of_getElem? hi
theorem wi6 : ∀ w ∈ u_ws RX6 TX6 14, w ∈ TBL := by
  intro w hw
  have key : u_ws RX6 TX6 14 = [243, 245, 247, 249, 251, 253, 255, 257, 259, 261, 263, 265, 267, 269].filterMap (fun i => lw_tbl[i]?) := by decide +kernel
  have hg : (u_ws RX6 TX6 14).all goodWord = true := by decide +kernel
  refine List.mem_filter.mpr ⟨?_, List.all_eq_true.mp hg w hw⟩
  rw [key] at hw
  obtain ⟨i, -, hi⟩ := List.mem_filterMap.mp hw
  exact List.mem_of_getElem? hi
theorem wi7 : ∀ w ∈ u_ws RX7 TX7 12, w ∈ TBL := by
  intro w hw
  have key : u_ws RX7 TX7 12 = [395, 397, 399, 401, 403, 405, 407, 409, 411, 413, 415, 417].filterMap (fun i => lw_tbl[i]?) := by decide +kernel
  have hg : (u_ws RX7 TX7 12).all goodWord = true := by decide +kernel
  refine List.mem_filter.mpr ⟨?_, List.all_eq_true.mp hg w hw⟩
  rw [key] at hw
  obtain ⟨i, -, hi⟩ := List.mem_filterMap.mp hw
  exact List.mem_of_getElem? hi
theorem wi8 : ∀ w ∈ u_ws RX8 TX8 34, w ∈ TBL := by
  intro w hw
  have key : u_ws RX8 TX8 34 = [1266, 1268, 1270, 1272, 1274, 1276, 1278, 1280, 1282, 1284, 1286, 1288, 1290, 1292, 1294, 1296, 1298, 1300, 1302, 1304, 1306, 1308, 1310, 1312, 1314, 1316, 1318, 1320, 1322, 1324, 1326, 1328, 1330, 1332].filterMap (fun i => lw_tbl[i]?) := by decide +kernel
  have hg : (u_ws RX8 TX8 34).all goodWord = true := by decide +kernel
  refine List.mem_filter.mpr ⟨?_, List.all_eq_true.mp hg w hw⟩
  rw [key] at hw
  obtain ⟨i, -, hi⟩ := List.mem_filterMap.mp hw
  exact List.mem_of_getElem? hi
end
section
def FU : Nat := 100000
theorem sh_0 : shp[0]? = some (.inr (.inl (7, [some 1, some 3, some 10, some 17, some 39, some 40, some 49, none, some 51, some 53, some 55, some 60]))) := rfl
theorem sh_1 : shp[1]? = some (.inr (.inl (2, [some 2, none, none, none, none, none, none, none]))) := rfl
theorem sh_2 : shp[2]? = some (.inl (2, 1600)) := rfl
theorem sh_3 : shp[3]? = some (.inr (.inl (6, [none, none, none, none, none, none, none, none, some 4, some 5, some 6, some 7, some 8, some 9]))) := rfl
theorem sh_4 : shp[4]? = some (.inl (0, 12)) := rfl
theorem sh_5 : shp[5]? = some (.inl (0, 12)) := rfl
theorem sh_6 : shp[6]? = some (.inl (0, 12)) := rfl
theorem sh_7 : shp[7]? = some (.inl (0, 12)) := rfl
theorem sh_8 : shp[8]? = some (.inl (0, 5)) := rfl
theorem sh_9 : shp[9]? = some (.inl (0, 5)) := rfl
theorem sh_10 : shp[10]? = some (.inr (.inl (6, [none, none, none, none, none, none, none, none, some 11, some 12, some 13, some 14, some 15, some 16]))) := rfl
theorem sh_11 : shp[11]? = some (.inl (0, 12)) := rfl
theorem sh_12 : shp[12]? = some (.inl (0, 12)) := rfl
theorem sh_13 : shp[13]? = some (.inl (0, 12)) := rfl
theorem sh_14 : shp[14]? = some (.inl (0, 12)) := rfl
theorem sh_15 : shp[15]? = some (.inl (0, 5)) := rfl
theorem sh_16 : shp[16]? = some (.inl (0, 5)) := rfl
theorem sh_17 : shp[17]? = some (.inr (.inr (4, [18, 25, 32]))) := rfl
theorem sh_18 : shp[18]? = some (.inr (.inl (6, [none, none, none, none, none, none, none, none, some 19, some 20, some 21, some 22, some 23, some 24]))) := rfl
theorem sh_19 : shp[19]? = some (.inl (0, 12)) := rfl
theorem sh_20 : shp[20]? = some (.inl (0, 12)) := rfl
theorem sh_21 : shp[21]? = some (.inl (0, 12)) := rfl
theorem sh_22 : shp[22]? = some (.inl (0, 12)) := rfl
theorem sh_23 : shp[23]? = some (.inl (0, 5)) := rfl
theorem sh_24 : shp[24]? = some (.inl (0, 5)) := rfl
theorem sh_25 : shp[25]? = some (.inr (.inl (6, [none, none, none, none, none, none, none, none, some 26, some 27, some 28, some 29, some 30, some 31]))) := rfl
theorem sh_26 : shp[26]? = some (.inl (0, 12)) := rfl
theorem sh_27 : shp[27]? = some (.inl (0, 12)) := rfl
theorem sh_28 : shp[28]? = some (.inl (0, 12)) := rfl
theorem sh_29 : shp[29]? = some (.inl (0, 12)) := rfl
theorem sh_30 : shp[30]? = some (.inl (0, 5)) := rfl
theorem sh_31 : shp[31]? = some (.inl (0, 5)) := rfl
theorem sh_32 : shp[32]? = some (.inr (.inl (6, [none, none, none, none, none, none, none, none, some 33, some 34, some 35, some 36, some 37, some 38]))) := rfl
theorem sh_33 : shp[33]? = some (.inl (0, 12)) := rfl
theorem sh_34 : shp[34]? = some (.inl (0, 12)) := rfl
theorem sh_35 : shp[35]? = some (.inl (0, 12)) := rfl
theorem sh_36 : shp[36]? = some (.inl (0, 12)) := rfl
theorem sh_37 : shp[37]? = some (.inl (0, 5)) := rfl
theorem sh_38 : shp[38]? = some (.inl (0, 5)) := rfl
theorem sh_39 : shp[39]? = some (.inl (1, 3)) := rfl
theorem sh_40 : shp[40]? = some (.inr (.inr (5, [41, 43, 45, 47]))) := rfl
theorem sh_41 : shp[41]? = some (.inr (.inl (4, [none, none, none, some 42]))) := rfl
theorem sh_42 : shp[42]? = some (.inl (3, 60)) := rfl
theorem sh_43 : shp[43]? = some (.inr (.inl (4, [none, none, none, some 44]))) := rfl
theorem sh_44 : shp[44]? = some (.inl (3, 60)) := rfl
theorem sh_45 : shp[45]? = some (.inr (.inl (4, [none, none, none, some 46]))) := rfl
theorem sh_46 : shp[46]? = some (.inl (3, 60)) := rfl
theorem sh_47 : shp[47]? = some (.inr (.inl (4, [none, none, none, some 48]))) := rfl
theorem sh_48 : shp[48]? = some (.inl (3, 60)) := rfl
theorem sh_49 : shp[49]? = some (.inr (.inl (5, [some 50]))) := rfl
theorem sh_50 : shp[50]? = some (.inl (0, 4096)) := rfl
theorem sh_51 : shp[51]? = some (.inr (.inl (5, [some 52]))) := rfl
theorem sh_52 : shp[52]? = some (.inl (0, 4096)) := rfl
theorem sh_53 : shp[53]? = some (.inr (.inl (3, [none, none, none, some 54]))) := rfl
theorem sh_54 : shp[54]? = some (.inl (0, 12)) := rfl
theorem sh_55 : shp[55]? = some (.inr (.inl (1, [none, none, none, some 56, some 57, some 58, some 59]))) := rfl
theorem sh_56 : shp[56]? = some (.inl (0, 12)) := rfl
theorem sh_57 : shp[57]? = some (.inl (0, 12)) := rfl
theorem sh_58 : shp[58]? = some (.inl (0, 5)) := rfl
theorem sh_59 : shp[59]? = some (.inl (0, 5)) := rfl
theorem sh_60 : shp[60]? = some (.inr (.inl (0, [some 61]))) := rfl
theorem sh_61 : shp[61]? = some (.inl (0, 16)) := rfl
theorem sh_62 : shp[62]? = some (.inr (.inl (8, [none, some 63, some 64, some 65, some 66, none, some 67, none, none, none, none, none, none, none, some 68, some 69, some 70, some 71, none, none, none, none, some 72, some 73, some 74, some 75, some 76, none, none, some 77, some 78, some 79, some 80, some 81]))) := rfl
theorem sh_63 : shp[63]? = some (.inl (0, 70)) := rfl
theorem sh_64 : shp[64]? = some (.inl (0, 210)) := rfl
theorem sh_65 : shp[65]? = some (.inl (1, 3)) := rfl
theorem sh_66 : shp[66]? = some (.inl (2, 1600)) := rfl
theorem sh_67 : shp[67]? = some (.inl (0, 5)) := rfl
theorem sh_68 : shp[68]? = some (.inl (0, 70)) := rfl
theorem sh_69 : shp[69]? = some (.inl (0, 8)) := rfl
theorem sh_70 : shp[70]? = some (.inl (1, 8)) := rfl
theorem sh_71 : shp[71]? = some (.inl (0, 8)) := rfl
theorem sh_72 : shp[72]? = some (.inl (1, 32)) := rfl
theorem sh_73 : shp[73]? = some (.inl (0, 12)) := rfl
theorem sh_74 : shp[74]? = some (.inl (0, 12)) := rfl
theorem sh_75 : shp[75]? = some (.inl (0, 5)) := rfl
theorem sh_76 : shp[76]? = some (.inl (0, 5)) := rfl
theorem sh_77 : shp[77]? = some (.inl (0, 4096)) := rfl
theorem sh_78 : shp[78]? = some (.inl (0, 4)) := rfl
theorem sh_79 : shp[79]? = some (.inl (0, 4)) := rfl
theorem sh_80 : shp[80]? = some (.inl (3, 240)) := rfl
theorem sh_81 : shp[81]? = some (.inl (3, 60)) := rfl
def sTab (t : Nat) : List (Option Nat) := [none, none, none, none, none, none, none, none, some (t + 1), some (t + 2), some (t + 3), some (t + 4), some (t + 5), some (t + 6)]
def isTab (t : Nat) : Prop := shp[t]? = some (.inr (.inl (6, sTab t))) ∧ shp[t + 1]? = some (.inl (0, 12)) ∧ shp[t + 2]? = some (.inl (0, 12)) ∧ shp[t + 3]? = some (.inl (0, 12)) ∧ shp[t + 4]? = some (.inl (0, 12)) ∧ shp[t + 5]? = some (.inl (0, 5)) ∧ shp[t + 6]? = some (.inl (0, 5))
def isRow (w : Nat) : Prop := shp[w]? = some (.inr (.inl (4, [none, none, none, some (w + 1)]))) ∧ shp[w + 1]? = some (.inl (3, 60))
def isShe (h : Nat) : Prop := shp[h]? = some (.inr (.inl (5, [some (h + 1)]))) ∧ shp[h + 1]? = some (.inl (0, 4096))
def imgp (i : Nat) : Nat := 18 + 7 * i
def rowp (i : Nat) : Nat := 41 + 2 * i
theorem imgp_ok : ∀ i, i < 3 → isTab (imgp i) := fun i hi => by
  have : i = 0 ∨ i = 1 ∨ i = 2 := by omega
  rcases this with rfl | rfl | rfl <;> exact ⟨rfl, rfl, rfl, rfl, rfl, rfl, rfl⟩
theorem rowp_ok : ∀ i, i < 4 → isRow (rowp i) := fun i hi => by
  have : i = 0 ∨ i = 1 ∨ i = 2 ∨ i = 3 := by omega
  rcases this with rfl | rfl | rfl | rfl <;> exact ⟨rfl, rfl⟩
theorem isTab_3 : isTab 3 := ⟨rfl, rfl, rfl, rfl, rfl, rfl, rfl⟩
theorem isTab_10 : isTab 10 := ⟨rfl, rfl, rfl, rfl, rfl, rfl, rfl⟩
theorem isTab_18 : isTab 18 := ⟨rfl, rfl, rfl, rfl, rfl, rfl, rfl⟩
theorem isTab_25 : isTab 25 := ⟨rfl, rfl, rfl, rfl, rfl, rfl, rfl⟩
theorem isTab_32 : isTab 32 := ⟨rfl, rfl, rfl, rfl, rfl, rfl, rfl⟩
theorem isRow_41 : isRow 41 := ⟨rfl, rfl⟩
theorem isRow_43 : isRow 43 := ⟨rfl, rfl⟩
theorem isRow_45 : isRow 45 := ⟨rfl, rfl⟩
theorem isRow_47 : isRow 47 := ⟨rfl, rfl⟩
theorem isShe_49 : isShe 49 := ⟨rfl, rfl⟩
theorem isShe_51 : isShe 51 := ⟨rfl, rfl⟩
theorem ar_X6_8 {t : Nat} (h : isTab t) : shp[t + 1]? = some (.inl (0, 12)) := h.2.1
theorem ar_X6_9 {t : Nat} (h : isTab t) : shp[t + 2]? = some (.inl (0, 12)) := h.2.2.1
theorem ar_X6_10 {t : Nat} (h : isTab t) : shp[t + 3]? = some (.inl (0, 12)) := h.2.2.2.1
theorem ar_X6_11 {t : Nat} (h : isTab t) : shp[t + 4]? = some (.inl (0, 12)) := h.2.2.2.2.1
theorem ar_X6_12 {t : Nat} (h : isTab t) : shp[t + 5]? = some (.inl (0, 5)) := h.2.2.2.2.2.1
theorem ar_X6_13 {t : Nat} (h : isTab t) : shp[t + 6]? = some (.inl (0, 5)) := h.2.2.2.2.2.2
theorem ar_X4_3 {w : Nat} (h : isRow w) : shp[w + 1]? = some (.inl (3, 60)) := h.2
theorem ar_X5_0 {h : Nat} (q : isShe h) : shp[h + 1]? = some (.inl (0, 4096)) := q.2
theorem ww_rip {G : GT} {X : CT} {cc : ByteArray} {nL : Nat} {σ : St} {lv : List (Nat × Value)} {pc : Nat} {x r : Int32} (hE : ∀ (lv : List (Nat × Value)) (pc : Nat), decode cc pc = .ok (.ireturn, 1) → WW G X nL σ lv pc [.int r]) (hdg : decode cc pc = .ok (.ireturn, 1)) (hF : some x = some r) : WW G X nL σ lv pc [.int x] := by
  cases hF
  exact hE lv pc hdg
theorem ww_ris {G : GT} {X : CT} {cc : ByteArray} {nL : Nat} {σ : St} {lv : List (Nat × Value)} {pc : Nat} {x r : Int32} {σo : St} (hE : ∀ (lv : List (Nat × Value)) (pc : Nat), decode cc pc = .ok (.ireturn, 1) → WW G X nL σo lv pc [.int r]) (hdg : decode cc pc = .ok (.ireturn, 1)) (hF : some (x, σ) = some (r, σo)) : WW G X nL σ lv pc [.int x] := by
  cases hF
  exact hE lv pc hdg
theorem ww_rzp {G : GT} {X : CT} {cc : ByteArray} {nL : Nat} {σ : St} {lv : List (Nat × Value)} {pc : Nat} {x r : Int32} (hE : ∀ (lv : List (Nat × Value)) (pc : Nat), decode cc pc = .ok (.ireturn, 1) → (r = 0 ∨ r = 1) → WW G X nL σ lv pc [.int r]) (hdg : decode cc pc = .ok (.ireturn, 1)) (hF : gd (x = 0 ∨ x = 1) (some x) = some r) : WW G X nL σ lv pc [.int x] := by
  obtain ⟨hz, hF⟩ := gd_some hF
  cases hF
  exact hE lv pc hdg hz
theorem ww_rzs {G : GT} {X : CT} {cc : ByteArray} {nL : Nat} {σ : St} {lv : List (Nat × Value)} {pc : Nat} {x r : Int32} {σo : St} (hE : ∀ (lv : List (Nat × Value)) (pc : Nat), decode cc pc = .ok (.ireturn, 1) → (r = 0 ∨ r = 1) → WW G X nL σo lv pc [.int r]) (hdg : decode cc pc = .ok (.ireturn, 1)) (hF : gd (x = 0 ∨ x = 1) (some (x, σ)) = some (r, σo)) : WW G X nL σ lv pc [.int x] := by
  obtain ⟨hz, hF⟩ := gd_some hF
  cases hF
  exact hE lv pc hdg hz
theorem ww_rlp {G : GT} {X : CT} {cc : ByteArray} {nL : Nat} {σ : St} {lv : List (Nat × Value)} {pc : Nat} {x r : Int64} (hE : ∀ (lv : List (Nat × Value)) (pc : Nat), decode cc pc = .ok (.lreturn, 1) → WW G X nL σ lv pc [.long r]) (hdg : decode cc pc = .ok (.lreturn, 1)) (hF : some x = some r) : WW G X nL σ lv pc [.long x] := by
  cases hF
  exact hE lv pc hdg
theorem ww_rvs {G : GT} {X : CT} {cc : ByteArray} {nL : Nat} {σ : St} {lv : List (Nat × Value)} {pc : Nat} {σo : St} (hE : ∀ (lv : List (Nat × Value)) (pc : Nat), decode cc pc = .ok (.return_, 1) → WW G X nL σo lv pc []) (hdg : decode cc pc = .ok (.return_, 1)) (hF : some σ = some σo) : WW G X nL σ lv pc [] := by
  cases hF
  exact hE lv pc hdg
theorem ww_ras {G : GT} {X : CT} {cc : ByteArray} {nL : Nat} {σ : St} {lv : List (Nat × Value)} {pc : Nat} {b : Nat} {σo : St} (hE : ∀ (lv : List (Nat × Value)) (pc : Nat), decode cc pc = .ok (.areturn, 1) → WW G X nL σo lv pc [.ref b]) (hdg : decode cc pc = .ok (.areturn, 1)) (hF : some σ = some σo) : WW G X nL σ lv pc [.ref b] := by
  cases hF
  exact hE lv pc hdg
theorem ww_tsIn {G : GT} {X : CT} {own : String} {cc : ByteArray} {nL n : Nat} {σ : St} {lv : List (Nat × Value)} {pc : Nat} {st : List Value} {dflt lo hi : Int} {offs : Array Int} {len : Nat} {x v : Int32} {off : Int} {tgt : Nat} (cx : Cx G X own cc nL n) (hdg : decode cc pc = .ok (.tableswitch dflt lo hi offs, len)) (h : x = v) (h1 : ¬ v.toInt < lo) (h2 : ¬ hi < v.toInt) (ho : offs[(v.toInt - lo).toNat]? = some off) (ht : (pc : Int) + off = (tgt : Int)) (k : WW G X nL σ lv tgt st) : WW G X nL σ lv pc (.int x :: st) := by
  subst h
  obtain ⟨p, e, R, s, m, args, below, meth, c, Q, A, ck, sk⟩ := X
  obtain ⟨hx, hb, hml, hown, hts, hG, hA, hck, hlm⟩ := cx
  intro H locs ls hl hP hS
  exact lv_tableIn hx hb hdg h1 h2 ho ht (k H locs ls hl hP hS)
theorem ww_tsOut {G : GT} {X : CT} {own : String} {cc : ByteArray} {nL n : Nat} {σ : St} {lv : List (Nat × Value)} {pc : Nat} {st : List Value} {dflt lo hi : Int} {offs : Array Int} {len : Nat} {x : Int32} {tgt : Nat} (cx : Cx G X own cc nL n) (hdg : decode cc pc = .ok (.tableswitch dflt lo hi offs, len)) (h : x.toInt < lo ∨ hi < x.toInt) (ht : (pc : Int) + dflt = (tgt : Int)) (k : WW G X nL σ lv tgt st) : WW G X nL σ lv pc (.int x :: st) := by
  obtain ⟨p, e, R, s, m, args, below, meth, c, Q, A, ck, sk⟩ := X
  obtain ⟨hx, hb, hml, hown, hts, hG, hA, hck, hlm⟩ := cx
  intro H locs ls hl hP hS
  exact lv_tableOut hx hb hdg h ht (k H locs ls hl hP hS)
theorem ww_lsIn {G : GT} {X : CT} {own : String} {cc : ByteArray} {nL n : Nat} {σ : St} {lv : List (Nat × Value)} {pc : Nat} {st : List Value} {dflt : Int} {ps : Array (Int × Int)} {len : Nat} {x v : Int32} {off : Int} {tgt : Nat} (cx : Cx G X own cc nL n) (hdg : decode cc pc = .ok (.lookupswitch dflt ps, len)) (h : x = v) (hp : (ps.toList.zip (ps.toList.drop 1)).all (fun (a, next) => a.1 < next.1) = true) (ho : Op.lookupswitch.offset ps.toList dflt v.toInt = off) (ht : (pc : Int) + off = (tgt : Int)) (k : WW G X nL σ lv tgt st) : WW G X nL σ lv pc (.int x :: st) := by
  subst h
  obtain ⟨p, e, R, s, m, args, below, meth, c, Q, A, ck, sk⟩ := X
  obtain ⟨hx, hb, hml, hown, hts, hG, hA, hck, hlm⟩ := cx
  intro H locs ls hl hP hS
  exact lv_lookup hx hb hdg hp ho ht (k H locs ls hl hP hS)
theorem ww_lsOut {G : GT} {X : CT} {own : String} {cc : ByteArray} {nL n : Nat} {σ : St} {lv : List (Nat × Value)} {pc : Nat} {st : List Value} {dflt : Int} {ps : Array (Int × Int)} {len : Nat} {x : Int32} {tgt : Nat} (cx : Cx G X own cc nL n) (hdg : decode cc pc = .ok (.lookupswitch dflt ps, len)) (hp : (ps.toList.zip (ps.toList.drop 1)).all (fun (a, next) => a.1 < next.1) = true) (ho : Op.lookupswitch.offset ps.toList dflt x.toInt = dflt) (ht : (pc : Int) + dflt = (tgt : Int)) (k : WW G X nL σ lv tgt st) : WW G X nL σ lv pc (.int x :: st) := by
  obtain ⟨p, e, R, s, m, args, below, meth, c, Q, A, ck, sk⟩ := X
  obtain ⟨hx, hb, hml, hown, hts, hG, hA, hck, hlm⟩ := cx
  intro H locs ls hl hP hS
  exact lv_lookup hx hb hdg hp ho ht (k H locs ls hl hP hS)
theorem i32_ne {x y : Int32} (h : ¬ x = y) : x.toInt ≠ y.toInt := fun e => h (Int32.toInt_inj.mp e)
theorem ls_out2 {x v0 v1 : Int32} {k0 k1 dflt o0 o1 : Int} (h0 : ¬ x = v0) (h1 : ¬ x = v1) (e0 : v0.toInt = k0 := by decide) (e1 : v1.toInt = k1 := by decide) : Op.lookupswitch.offset [(k0, o0), (k1, o1)] dflt x.toInt = dflt := by
  have a0 := i32_ne h0
  have a1 := i32_ne h1
  rw [e0] at a0
  rw [e1] at a1
  rw [Op.lookupswitch.offset_cons, if_neg (fun h => a0 h.symm), Op.lookupswitch.offset_cons, if_neg (fun h => a1 h.symm), Op.lookupswitch.offset_nil]
theorem ts_out3 {x : Int32} (h0 : ¬ x = 0) (h1 : ¬ x = 1) (h2 : ¬ x = 2) : x.toInt < 0 ∨ 2 < x.toInt := by
  have a0 := i32_ne h0
  rw [show ((0 : Int32)).toInt = 0 from by decide] at a0
  have a1 := i32_ne h1
  rw [show ((1 : Int32)).toInt = 1 from by decide] at a1
  have a2 := i32_ne h2
  rw [show ((2 : Int32)).toInt = 2 from by decide] at a2
  omega
theorem ts_out9 {x : Int32} (h0 : ¬ x = 0) (h1 : ¬ x = 1) (h2 : ¬ x = 2) (h3 : ¬ x = 3) (h4 : ¬ x = 4) (h5 : ¬ x = 5) (h6 : ¬ x = 6) (h7 : ¬ x = 7) (h8 : ¬ x = 8) : x.toInt < 0 ∨ 8 < x.toInt := by
  have a0 := i32_ne h0
  rw [show ((0 : Int32)).toInt = 0 from by decide] at a0
  have a1 := i32_ne h1
  rw [show ((1 : Int32)).toInt = 1 from by decide] at a1
  have a2 := i32_ne h2
  rw [show ((2 : Int32)).toInt = 2 from by decide] at a2
  have a3 := i32_ne h3
  rw [show ((3 : Int32)).toInt = 3 from by decide] at a3
  have a4 := i32_ne h4
  rw [show ((4 : Int32)).toInt = 4 from by decide] at a4
  have a5 := i32_ne h5
  rw [show ((5 : Int32)).toInt = 5 from by decide] at a5
  have a6 := i32_ne h6
  rw [show ((6 : Int32)).toInt = 6 from by decide] at a6
  have a7 := i32_ne h7
  rw [show ((7 : Int32)).toInt = 7 from by decide] at a7
  have a8 := i32_ne h8
  rw [show ((8 : Int32)).toInt = 8 from by decide] at a8
  omega
theorem ww_mmax {G : GT} {X : CT} {own : String} {cc : ByteArray} {nL n : Nat} {σ : St} {lv : List (Nat × Value)} {pc : Nat} {st : List Value} {ix : Nat} {x y : Int32} (cx : Cx G X own cc nL n) (hw : Cond.methodLink own ix Lib.Math.max.name ∈ TBL) (hn : 1 ≤ n) (hst : (st.map fun v => v.category).sum ≤ 8) (hdg : decode cc pc = .ok (.invokestatic ix, 3)) (k : WW G X nL σ lv (pc + 3) (.int (if x < y then y else x) :: st)) : WW G X nL σ lv pc (.int y :: .int x :: st) := by
  obtain ⟨p, e, R, s, m, args, below, meth, c, Q, A, ck, sk⟩ := X
  obtain ⟨hx, hb, hml, hown, hts, hG, hA, hck, hlm⟩ := cx
  intro H locs ls hl hP hS
  exact va_mmax hx hb (by rw [hl.1]; exact hml) hown (hts _ hw) (hts _ mm_max_s) (hts _ mm_i) (hts _ mm_max_c) (by omega) (by omega) hck.1 hck.2 hdg (k H locs ls hl hP hS)
theorem ww_mmin {G : GT} {X : CT} {own : String} {cc : ByteArray} {nL n : Nat} {σ : St} {lv : List (Nat × Value)} {pc : Nat} {st : List Value} {ix : Nat} {x y : Int32} (cx : Cx G X own cc nL n) (hw : Cond.methodLink own ix Lib.Math.min.name ∈ TBL) (hn : 1 ≤ n) (hst : (st.map fun v => v.category).sum ≤ 8) (hdg : decode cc pc = .ok (.invokestatic ix, 3)) (k : WW G X nL σ lv (pc + 3) (.int (if y < x then y else x) :: st)) : WW G X nL σ lv pc (.int y :: .int x :: st) := by
  obtain ⟨p, e, R, s, m, args, below, meth, c, Q, A, ck, sk⟩ := X
  obtain ⟨hx, hb, hml, hown, hts, hG, hA, hck, hlm⟩ := cx
  intro H locs ls hl hP hS
  exact va_mmin hx hb (by rw [hl.1]; exact hml) hown (hts _ hw) (hts _ mm_min_s) (hts _ mm_i) (hts _ mm_min_c) (by omega) (by omega) hck.1 hck.2 hdg (k H locs ls hl hP hS)
def cpok (sp dp n : Int32) (N0 N1 : Nat) : Prop := 0 ≤ sp.toInt ∧ 0 ≤ dp.toInt ∧ 0 ≤ n.toInt ∧ sp.toInt + n.toInt ≤ (N0 : Int) ∧ dp.toInt + n.toInt ≤ (N1 : Int)
abbrev cpokD (sp dp n : Int32) (N0 N1 : Nat) : Prop := 0 ≤ sp.toInt ∧ 0 ≤ dp.toInt ∧ 0 ≤ n.toInt ∧ sp.toInt + n.toInt ≤ (N0 : Int) ∧ dp.toInt + n.toInt ≤ (N1 : Int)
def cpyI (σ : St) (q0 q1 sp dp n : Nat) : St := (fun a => if a = q1 then va_cpy (σ.1 q0) (σ.1 q1) sp dp n else σ.1 a, σ.2)
def cpyJ (σ : St) (q0 q1 sp dp n : Nat) : St := (σ.1, fun a => if a = q1 then va_cpy (σ.2 q0) (σ.2 q1) sp dp n else σ.2 a)
theorem clamp_toInt {x : Int32} (h : 0 ≤ x.toInt) : (x.toNatClampNeg : Int) = x.toInt := by
  unfold Int32.toNatClampNeg
  exact Int.toNat_of_nonneg h
theorem nlt0 {x : Int32} (h : 0 ≤ x.toInt) : ¬ x < 0 := by
  rw [Int32.lt_iff_toInt_lt, Int32.toInt_zero]
  omega
theorem ww_copyI {G : GT} {X : CT} {own : String} {cc : ByteArray} {nL nn : Nat} {σ : St} {lv : List (Nat × Value)} {pc : Nat} {st : List Value} {ix q0 q1 N0 N1 : Nat} {sp dp n : Int32} {β : Type} {F : St → Option β} {o : β} (cx : Cx G X own cc nL nn) (hw : Cond.methodLink own ix arraycopyName ∈ TBL) (h0 : shp[q0]? = some (.inl (0, N0))) (h1 : shp[q1]? = some (.inl (0, N1))) (hn : 1 ≤ nn) (hst : (st.map fun v => v.category).sum ≤ 8) (hdg : decode cc pc = .ok (.invokestatic ix, 3)) (hF : gd (cpokD sp dp n N0 N1) (lt (cpyI σ q0 q1 sp.toNatClampNeg dp.toNatClampNeg n.toNatClampNeg) F) = some o) (k : ∀ σ1 : St, F σ1 = some o → WW G X nL σ1 lv (pc + 3) st) : WW G X nL σ lv pc (.int n :: .int dp :: .ref (gad G q1) :: .int sp :: .ref (gad G q0) :: st) := by
  obtain ⟨p, e, R, s, m, args, below, meth, c, Q, A, ck, sk⟩ := X
  obtain ⟨hx, hb, hml, hown, hts, hG, hA, hck, hlm⟩ := cx
  intro H locs ls hl hP hS
  obtain ⟨⟨g1, g2, g3, g4, g5⟩, hF⟩ := gd_some hF
  have c1 := clamp_toInt g1
  have c2 := clamp_toInt g2
  have c3 := clamp_toInt g3
  have hnw : nativeFrameWords "java/lang/System" "arraycopy" 5 + 11 ≤ 50 := by decide +kernel
  refine va_copyi hx hb (by rw [hl.1]; exact hml) hown (hts _ hw) (hts _ ac_n) (hts _ ac_s) (hts _ ac_i) hG.1 hP (hG.2.1 σ) hS q0 q1 0 0 (c0 := gca G 0) (c1 := gca G 0) (n0 := N0) (n1 := N1) (f := σ.1 q0) (g := σ.1 q1) (ty := .int) (wld_at h0) (wld_at h1) rfl rfl rfl (nlt0 g1) (nlt0 g2) (nlt0 g3) (by omega) (by omega) (fun _ _ => rfl) (by omega) (by omega) hdg (fun H1 locs1 hP1 _ hS1 => k _ hF H1 locs1 ls hl ?_ hS1)
  rw [wld_set (σ' := cpyI σ q0 q1 sp.toNatClampNeg dp.toNatClampNeg n.toNatClampNeg) h1 (by simp [cel, cpyI]) (fun q hq => by simp [cpyI, hq])] at hP1
  exact hP1
theorem ww_copyJ {G : GT} {X : CT} {own : String} {cc : ByteArray} {nL nn : Nat} {σ : St} {lv : List (Nat × Value)} {pc : Nat} {st : List Value} {ix q0 q1 N0 N1 : Nat} {sp dp n : Int32} {β : Type} {F : St → Option β} {o : β} (cx : Cx G X own cc nL nn) (hw : Cond.methodLink own ix arraycopyName ∈ TBL) (h0 : shp[q0]? = some (.inl (3, N0))) (h1 : shp[q1]? = some (.inl (3, N1))) (hn : 1 ≤ nn) (hst : (st.map fun v => v.category).sum ≤ 8) (hdg : decode cc pc = .ok (.invokestatic ix, 3)) (hF : gd (cpokD sp dp n N0 N1) (lt (cpyJ σ q0 q1 sp.toNatClampNeg dp.toNatClampNeg n.toNatClampNeg) F) = some o) (k : ∀ σ1 : St, F σ1 = some o → WW G X nL σ1 lv (pc + 3) st) : WW G X nL σ lv pc (.int n :: .int dp :: .ref (gad G q1) :: .int sp :: .ref (gad G q0) :: st) := by
  obtain ⟨p, e, R, s, m, args, below, meth, c, Q, A, ck, sk⟩ := X
  obtain ⟨hx, hb, hml, hown, hts, hG, hA, hck, hlm⟩ := cx
  intro H locs ls hl hP hS
  obtain ⟨⟨g1, g2, g3, g4, g5⟩, hF⟩ := gd_some hF
  have c1 := clamp_toInt g1
  have c2 := clamp_toInt g2
  have c3 := clamp_toInt g3
  have hnw : nativeFrameWords "java/lang/System" "arraycopy" 5 + 11 ≤ 50 := by decide +kernel
  refine va_copyl hx hb (by rw [hl.1]; exact hml) hown (hts _ hw) (hts _ ac_n) (hts _ ac_s) (hts _ ac_i) hG.1 hP (hG.2.1 σ) hS q0 q1 3 3 (c0 := gca G 3) (c1 := gca G 3) (n0 := N0) (n1 := N1) (f := σ.2 q0) (g := σ.2 q1) (ty := .long) (wld_at h0) (wld_at h1) rfl rfl rfl (nlt0 g1) (nlt0 g2) (nlt0 g3) (by omega) (by omega) (fun _ _ => rfl) (by omega) (by omega) hdg (fun H1 locs1 hP1 _ hS1 => k _ hF H1 locs1 ls hl ?_ hS1)
  rw [wld_set (σ' := cpyJ σ q0 q1 sp.toNatClampNeg dp.toNatClampNeg n.toNatClampNeg) h1 (by simp [cel, cpyJ]) (fun q hq => by simp [cpyJ, hq])] at hP1
  exact hP1
theorem img_r (j : Nat) (hj : j < [18, 25, 32].length) : [18, 25, 32][j]? = some (imgp j) := by
  have h2 : j < 3 := hj
  have : j = 0 ∨ j = 1 ∨ j = 2 := by omega
  rcases this with rfl | rfl | rfl <;> rfl
theorem row_r (j : Nat) (hj : j < [41, 43, 45, 47].length) : [41, 43, 45, 47][j]? = some (rowp j) := by
  have h2 : j < 4 := hj
  have : j = 0 ∨ j = 1 ∨ j = 2 ∨ j = 3 := by omega
  rcases this with rfl | rfl | rfl | rfl <;> rfl
theorem ww_aaldT {G : GT} {X : CT} {own : String} {cc : ByteArray} {nL n : Nat} {σ : St} {lv : List (Nat × Value)} {pc : Nat} {st : List Value} {i : Int32} {β : Type} {F : Nat → Option β} {o : β} (cx : Cx G X own cc nL n) (hdg : decode cc pc = .ok (.aaload, 1)) (hF : gd (ir i 3) (lt (imgp i.toNatClampNeg) F) = some o) (k : ∀ k : Nat, isTab k → F k = some o → WW G X nL σ lv (pc + 1) (.ref (gad G k) :: st)) : WW G X nL σ lv pc (.int i :: .ref (gad G 17) :: st) :=
  ww_aald (C := RX6) (f := imgp) (fun _ => rfl) img_r cx sh_17 hdg hF (fun h hF => k _ (imgp_ok _ h) hF)
theorem ww_aaldR {G : GT} {X : CT} {own : String} {cc : ByteArray} {nL n : Nat} {σ : St} {lv : List (Nat × Value)} {pc : Nat} {st : List Value} {i : Int32} {β : Type} {F : Nat → Option β} {o : β} (cx : Cx G X own cc nL n) (hdg : decode cc pc = .ok (.aaload, 1)) (hF : gd (ir i 4) (lt (rowp i.toNatClampNeg) F) = some o) (k : ∀ k : Nat, isRow k → F k = some o → WW G X nL σ lv (pc + 1) (.ref (gad G k) :: st)) : WW G X nL σ lv pc (.int i :: .ref (gad G 40) :: st) :=
  ww_aald (C := RX4) (f := rowp) (fun _ => rfl) row_r cx sh_40 hdg hF (fun h hF => k _ (rowp_ok _ h) hF)
theorem ww_ldcw {G : GT} {X : CT} {own : String} {cc : ByteArray} {nL n : Nat} {σ : St} {lv : List (Nat × Value)} {pc : Nat} {st : List Value} {ix : Nat} {v : Int32} (cx : Cx G X own cc nL n) (hdg : decode cc pc = .ok (.ldc_w ix, 3)) (hw : Cond.constant own ix v ∈ TBL) (k : WW G X nL σ lv (pc + 3) (.int v :: st)) : WW G X nL σ lv pc (st) := by
  obtain ⟨p, e, R, s, m, args, below, meth, c, Q, A, ck, sk⟩ := X
  obtain ⟨hx, hb, hml, hown, hts, hG, hA, hck, hlm⟩ := cx
  intro H locs ls hl hP hS
  exact lv_ldcw hx hb hown (hts _ hw) hdg (k H locs ls hl hP hS)
theorem ww_ldcS {G : GT} {X : CT} {own : String} {cc : ByteArray} {nL n : Nat} {σ : St} {lv : List (Nat × Value)} {pc : Nat} {st : List Value} {ix w : Nat} {tx : String} (cx : Cx G X own cc nL n) (hm : (own, ix, tx, w) ∈ sldc) (hdg : decode cc pc = .ok (.ldc ix, 2)) (k : WW G X nL σ lv (pc + 2) (.ref (gsk G w) :: st)) : WW G X nL σ lv pc st := by
  obtain ⟨p, e, R, s, m, args, below, meth, c, Q, A, ck, sk⟩ := X
  obtain ⟨hx, hb, hml, hown, hts, hG, hA, hck, hlm⟩ := cx
  intro H locs ls hl hP hS
  exact va_ldcS hx hb hown (hG.2.2.2.2.1 _ hm) hdg (k H locs ls hl hP hS)
def slenI (w : Nat) : Int32 := nI (slen.getD w 0)
def scha (w k : Nat) : Int32 := (((sbyt.getD w []).getD k 0 &&& 255).toUInt32 % 65536).toInt32
def CallN (y : MethodName) (b : ByteArray) (nL : Nat) (rt : Option FieldType) (na : Nat) : Prop :=
  Cond.static y ∈ TBL ∧ Cond.initialized y.cls ∈ TBL ∧ Cond.code y b nL rt ∈ TBL ∧ (y.cls ≠ "java/lang/invoke/MethodHandle" ∧ y.cls ≠ "java/lang/invoke/VarHandle" ∧ (parseMethodDescriptor y.desc).map (fun d => d.parameters.length) = some na)
theorem callN_of {y : MethodName} {b : ByteArray} {nL : Nat} {rt : Option FieldType} {na : Nat} (h2 : Cond.static y ∈ TBL) (h4 : Cond.initialized y.cls ∈ TBL) (h5 : Cond.code y b nL rt ∈ TBL) (hd : y.cls ≠ "java/lang/invoke/MethodHandle" ∧ y.cls ≠ "java/lang/invoke/VarHandle" ∧ (parseMethodDescriptor y.desc).map (fun d => d.parameters.length) = some na) : CallN y b nL rt na := ⟨h2, h4, h5, hd⟩

theorem ww_N1_pi {G : GT} {X : CT} {cc : ByteArray} {nL n : Nat} {σ : St} {lv : List (Nat × Value)} {pc : Nat} {st : List Value} {k nL' : Nat} {b : ByteArray} {rt : Option FieldType} {v0 : Value} {β : Type} {F : Option Int32} {K : Int32 → Option β} {o : β} (hC : CallN yX7_lowestBit b nL' rt 1) (cx : Cx G X RX5 cc nL n) (hk : k + 1 ≤ n ∧ nL' ≤ 45) (hst : (st.map fun v => v.category).sum ≤ 8) (hdg : decode cc pc = .ok (.invokestatic 31, 3)) (hM : ∀ r : Int32, F = some r → MCt G k yX7_lowestBit b nL' rt [v0] σ (some (.int r)) σ) (hF : bp F K = some o) (kk : ∀ r : Int32, K r = some o → WW G X nL σ lv (pc + 3) (.int r :: st)) : WW G X nL σ lv pc (v0 :: st) := by
  obtain ⟨r, h1, h2⟩ := bp_some hF
  obtain ⟨p, e, R, s, m, args, below, meth, c, Q, A, ck, sk⟩ := X
  obtain ⟨hx, hb, hml, hown, hts, hG, hA, hck, hlv⟩ := cx
  obtain ⟨c2, c3, c4, c5⟩ := hC
  intro H locs ls hl hP hS
  exact ww_back (rv := some (.int r)) (va_runSN (As := [v0]) (rest := st) ⟨hx, hb, hml, hown, hts⟩ (hM r h1 H.size) ⟨va_cnB 1 hts (fun w hw => (List.mem_cons.mp hw).elim (fun h => by rw [h]; exact tg c4) (fun h => tg h)) rfl rfl rfl hG.2.2.1 (hts _ c3) c5 ⟨by simp only [rmL]; omega, by simp only [rmL]; omega⟩, hts _ c2, trivial⟩ ⟨pc_blind, pc_at hG hA hP hS⟩ rfl rfl hl.1 rfl (lv_room8 hst) hdg hck) hS (va_A_sub hG hA hS) (fun H1 locs1 hP1 hS1 => kk r h2 H1 locs1 ls hl hP1 hS1)
end
section
theorem sfl_9 : Cond.fieldLink RJ0 9 "java/lang/String" "value" "[B" ∈ TBL := tm 2014 (by decide +kernel) (by decide +kernel)
theorem sfl_15 : Cond.fieldLink RJ0 15 "java/lang/String" "coder" "B" ∈ TBL := tm 2015 (by decide +kernel) (by decide +kernel)
theorem sfl_38 : Cond.fieldLink RJ0 38 "java/lang/String" "COMPACT_STRINGS" "Z" ∈ TBL := tm 481 (by decide +kernel) (by decide +kernel)
theorem sfl_1053 : Cond.fieldLink RJ0 1053 "jdk/internal/util/Preconditions" "SIOOBE_FORMATTER" "Ljava/util/function/BiFunction;" ∈ TBL := tm 497 (by decide +kernel) (by decide +kernel)
theorem co_J0_coder_7d493 : Cond.code yJ0_coder_7d493 cJ0_coder_7d493 1 (some .byte) ∈ TBL := tm 480 (by decide +kernel) (by decide +kernel)
theorem sin_J0_coder_7d493 : Cond.initialized RJ0 ∈ TBL := tm 132 (by decide +kernel) (by decide +kernel)
theorem im_J0_coder_7d493 : Cond.instanceMethod yJ0_coder_7d493 ∈ TBL := tm 478 (by decide +kernel) (by decide +kernel)
theorem se_J0_coder_7d493 : Cond.selects RJ0 yJ0_coder_7d493 yJ0_coder_7d493 ∈ TBL := tm 479 (by decide +kernel) (by decide +kernel)
theorem ml_J0_335 : Cond.methodLink RJ0 335 yJ0_coder_7d493 ∈ TBL := tm 477 (by decide +kernel) (by decide +kernel)
theorem kv_J0_335 : CallV RJ0 335 RJ0 yJ0_coder_7d493 cJ0_coder_7d493 1 (some .byte) 0 := callV_of ml_J0_335 im_J0_coder_7d493 se_J0_coder_7d493 sin_J0_coder_7d493 co_J0_coder_7d493 (by decide +kernel)
theorem co_J0_isLatin1_aae02 : Cond.code yJ0_isLatin1_aae02 cJ0_isLatin1_aae02 1 (some .boolean) ∈ TBL := tm 490 (by decide +kernel) (by decide +kernel)
theorem sin_J0_isLatin1_aae02 : Cond.initialized RJ0 ∈ TBL := tm 132 (by decide +kernel) (by decide +kernel)
theorem im_J0_isLatin1_aae02 : Cond.instanceMethod yJ0_isLatin1_aae02 ∈ TBL := tm 488 (by decide +kernel) (by decide +kernel)
theorem se_J0_isLatin1_aae02 : Cond.selects RJ0 yJ0_isLatin1_aae02 yJ0_isLatin1_aae02 ∈ TBL := tm 489 (by decide +kernel) (by decide +kernel)
theorem ml_J0_492 : Cond.methodLink RJ0 492 yJ0_isLatin1_aae02 ∈ TBL := tm 487 (by decide +kernel) (by decide +kernel)
theorem kv_J0_492 : CallV RJ0 492 RJ0 yJ0_isLatin1_aae02 cJ0_isLatin1_aae02 1 (some .boolean) 0 := callV_of ml_J0_492 im_J0_isLatin1_aae02 se_J0_isLatin1_aae02 sin_J0_isLatin1_aae02 co_J0_isLatin1_aae02 (by decide +kernel)
theorem co_J3_checkIndex_8e157 : Cond.code yJ3_checkIndex_8e157 cJ3_checkIndex_8e157 3 (some .int) ∈ TBL := tm 501 (by decide +kernel) (by decide +kernel)
theorem sin_J3_checkIndex_8e157 : Cond.initialized RJ3 ∈ TBL := tm 134 (by decide +kernel) (by decide +kernel)
theorem sc_J3_checkIndex_8e157 : Cond.static yJ3_checkIndex_8e157 ∈ TBL := tm 500 (by decide +kernel) (by decide +kernel)
theorem ml_J0_1059 : Cond.methodLink RJ0 1059 yJ3_checkIndex_8e157 ∈ TBL := tm 499 (by decide +kernel) (by decide +kernel)
theorem kv_J0_1059 : CallS RJ0 1059 yJ3_checkIndex_8e157 cJ3_checkIndex_8e157 3 (some .int) 3 := callS_of ml_J0_1059 sc_J3_checkIndex_8e157 sin_J3_checkIndex_8e157 co_J3_checkIndex_8e157 (by decide +kernel)
theorem co_J0_checkIndex_df160 : Cond.code yJ0_checkIndex_df160 cJ0_checkIndex_df160 2 (none) ∈ TBL := tm 496 (by decide +kernel) (by decide +kernel)
theorem sin_J0_checkIndex_df160 : Cond.initialized RJ0 ∈ TBL := tm 132 (by decide +kernel) (by decide +kernel)
theorem sc_J0_checkIndex_df160 : Cond.static yJ0_checkIndex_df160 ∈ TBL := tm 495 (by decide +kernel) (by decide +kernel)
theorem ml_J1_9 : Cond.methodLink RJ1 9 yJ0_checkIndex_df160 ∈ TBL := tm 494 (by decide +kernel) (by decide +kernel)
theorem kv_J1_9 : CallS RJ1 9 yJ0_checkIndex_df160 cJ0_checkIndex_df160 2 (none) 2 := callS_of ml_J1_9 sc_J0_checkIndex_df160 sin_J0_checkIndex_df160 co_J0_checkIndex_df160 (by decide +kernel)
theorem co_J1_charAt_3b067 : Cond.code yJ1_charAt_3b067 cJ1_charAt_3b067 2 (some .char) ∈ TBL := tm 493 (by decide +kernel) (by decide +kernel)
theorem sin_J1_charAt_3b067 : Cond.initialized RJ1 ∈ TBL := tm 133 (by decide +kernel) (by decide +kernel)
theorem sc_J1_charAt_3b067 : Cond.static yJ1_charAt_3b067 ∈ TBL := tm 492 (by decide +kernel) (by decide +kernel)
theorem ml_J0_495 : Cond.methodLink RJ0 495 yJ1_charAt_3b067 ∈ TBL := tm 491 (by decide +kernel) (by decide +kernel)
theorem kv_J0_495 : CallS RJ0 495 yJ1_charAt_3b067 cJ1_charAt_3b067 2 (some .char) 2 := callS_of ml_J0_495 sc_J1_charAt_3b067 sin_J1_charAt_3b067 co_J1_charAt_3b067 (by decide +kernel)
theorem met_n {G : GT} {k : Nat} {y : MethodName} {b : ByteArray} {nL : Nat} {as : List Value} {σ : St} {r : Int32} {ty : FieldType} {σ1 : St} (hy : plainName y.cls = true) (hsl : (lg_sl as).length ≤ nL) (hn : narrow ty (.int r) = .int r) (body : ∀ X : CT, Cx G X y.cls b nL k → (∀ (lv : List (Nat × Value)) (pc : Nat), decode b pc = .ok (.ireturn, 1) → WW G X nL σ1 lv pc [.int r]) → WW G X nL σ (lv_args 0 as) 0 []) : MCt G k y b nL (some ty) as σ (some (.int r)) σ1 :=
  met_core (EndP := fun X => ∀ (lv : List (Nat × Value)) (pc : Nat), decode b pc = .ok (.ireturn, 1) → WW G X nL σ1 lv pc [.int r]) hy hsl (fun p e R s m args below meth c A hx hb hr hlocks lv pc hdg H locs ls hl hP hS => W.zret hx hb hr hn (fun t ht hW => ⟨rfl, by rw [ht]; exact hP, hS.F ht⟩) hS.2.2 hdg) body
theorem ww_sval {G : GT} {X : CT} {own : String} {cc : ByteArray} {nL n : Nat} {σ : St} {lv : List (Nat × Value)} {pc : Nat} {st : List Value} {w ix : Nat} (cx : Cx G X own cc nL n) (hlk : Cond.fieldLink own ix "java/lang/String" "value" "[B" ∈ TBL) (hw : w < 18) (hdg : decode cc pc = .ok (.getfield ix, 3)) (k : WW G X nL σ lv (pc + 3) (.ref (gsv G w) :: st)) : WW G X nL σ lv pc (.ref (gsk G w) :: st) := by
  obtain ⟨p, e, R, s, m, args, below, meth, c, Q, A, ck, sk⟩ := X
  obtain ⟨hx, hb, hml, hown, hts, hG, hA, hck, hlm⟩ := cx
  intro H locs ls hl hP hS
  exact vk_getf hx hb (hG.2.2.2.1.1 w hw).2.2.1 hS hown (hts _ hlk) (fun _ h => h) hdg (k H locs ls hl hP hS)
theorem ww_scod {G : GT} {X : CT} {own : String} {cc : ByteArray} {nL n : Nat} {σ : St} {lv : List (Nat × Value)} {pc : Nat} {st : List Value} {w ix : Nat} (cx : Cx G X own cc nL n) (hlk : Cond.fieldLink own ix "java/lang/String" "coder" "B" ∈ TBL) (hw : w < 18) (hdg : decode cc pc = .ok (.getfield ix, 3)) (k : WW G X nL σ lv (pc + 3) (.int 0 :: st)) : WW G X nL σ lv pc (.ref (gsk G w) :: st) := by
  obtain ⟨p, e, R, s, m, args, below, meth, c, Q, A, ck, sk⟩ := X
  obtain ⟨hx, hb, hml, hown, hts, hG, hA, hck, hlm⟩ := cx
  intro H locs ls hl hP hS
  exact vk_getf hx hb (hG.2.2.2.1.1 w hw).2.1 hS hown (hts _ hlk) (fun _ h => h) hdg (k H locs ls hl hP hS)
theorem ww_salen {G : GT} {X : CT} {own : String} {cc : ByteArray} {nL n : Nat} {σ : St} {lv : List (Nat × Value)} {pc : Nat} {st : List Value} {w : Nat} (cx : Cx G X own cc nL n) (hw : w < 18) (hdg : decode cc pc = .ok (.arraylength, 1)) (k : WW G X nL σ lv (pc + 1) (.int (slenI w) :: st)) : WW G X nL σ lv pc (.ref (gsv G w) :: st) := by
  obtain ⟨p, e, R, s, m, args, below, meth, c, Q, A, ck, sk⟩ := X
  obtain ⟨hx, hb, hml, hown, hts, hG, hA, hck, hlm⟩ := cx
  intro H locs ls hl hP hS
  exact va_tlen hx hb (hG.2.2.2.1.1 w hw).2.2.2 hS rfl hdg (k H locs ls hl hP hS)
theorem ww_sbald {G : GT} {X : CT} {own : String} {cc : ByteArray} {nL n : Nat} {σ : St} {lv : List (Nat × Value)} {pc : Nat} {st : List Value} {w : Nat} {i : Int32} (cx : Cx G X own cc nL n) (hw : w < 18) (hi : ir i (slen.getD w 0)) (hdg : decode cc pc = .ok (.baload, 1)) (k : WW G X nL σ lv (pc + 1) (.int ((sbyt.getD w []).getD i.toNatClampNeg 0) :: st)) : WW G X nL σ lv pc (.int i :: .ref (gsv G w) :: st) := by
  obtain ⟨p, e, R, s, m, args, below, meth, c, Q, A, ck, sk⟩ := X
  obtain ⟨hx, hb, hml, hown, hts, hG, hA, hck, hlm⟩ := cx
  intro H locs ls hl hP hS
  exact va_tb hx hb (hG.2.2.2.1.1 w hw).2.2.2 hS (vp_in_iff.mpr hi) rfl hdg (k H locs ls hl hP hS)
theorem ww_gsC {G : GT} {X : CT} {own : String} {cc : ByteArray} {nL n : Nat} {σ : St} {lv : List (Nat × Value)} {pc : Nat} {st : List Value} {ix : Nat} (cx : Cx G X own cc nL n) (hlk : Cond.fieldLink own ix "java/lang/String" "COMPACT_STRINGS" "Z" ∈ TBL) (hdg : decode cc pc = .ok (.getstatic ix, 3)) (k : WW G X nL σ lv (pc + 3) (.int 1 :: st)) : WW G X nL σ lv pc st := by
  obtain ⟨p, e, R, s, m, args, below, meth, c, Q, A, ck, sk⟩ := X
  obtain ⟨hx, hb, hml, hown, hts, hG, hA, hck, hlm⟩ := cx
  intro H locs ls hl hP hS
  exact va_gets hx hb hG.2.2.2.2.2.1 hS hown (hts _ hlk) (fun _ h => h) hdg (k H locs ls hl hP hS)
theorem ww_gsQ {G : GT} {X : CT} {own : String} {cc : ByteArray} {nL n : Nat} {σ : St} {lv : List (Nat × Value)} {pc : Nat} {st : List Value} {ix : Nat} (cx : Cx G X own cc nL n) (hlk : Cond.fieldLink own ix "jdk/internal/util/Preconditions" "SIOOBE_FORMATTER" "Ljava/util/function/BiFunction;" ∈ TBL) (hdg : decode cc pc = .ok (.getstatic ix, 3)) (k : ∀ v : Value, (v = .null ∨ ∃ t, v = .ref t) → WW G X nL σ lv (pc + 3) (v :: st)) : WW G X nL σ lv pc st := by
  obtain ⟨p, e, R, s, m, args, below, meth, c, Q, A, ck, sk⟩ := X
  obtain ⟨hx, hb, hml, hown, hts, hG, hA, hck, hlm⟩ := cx
  intro H locs ls hl hP hS
  rcases hG.2.2.2.2.2.2 with h | ⟨t, h⟩
  · exact va_gets hx hb h hS hown (hts _ hlk) (fun _ h => h) hdg (k .null (Or.inl rfl) H locs ls hl hP hS)
  · exact va_gets hx hb h hS hown (hts _ hlk) (fun _ h => h) hdg (k (.ref t) (Or.inr ⟨t, rfl⟩) H locs ls hl hP hS)
theorem ww_callT {G : GT} {X : CT} {own : String} {cc : ByteArray} {nL n : Nat} {σ : St} {lv : List (Nat × Value)} {pc : Nat} {st : List Value} {k ix nL' na w : Nat} {y : MethodName} {b : ByteArray} {rt : Option FieldType} {As st0 : List Value} {rv : Option Value} {σ1 : St} (hC : CallV own ix RJ0 y b nL' rt na) (cx : Cx G X own cc nL n) (hw : w < 18) (hk : k + 1 ≤ n ∧ nL' ≤ 45) (hst : (st.map fun v => v.category).sum ≤ 8) (hlen : As.length = na) (hst0 : st0 = As.reverse ++ .ref (gsk G w) :: st) (hdg : decode cc pc = .ok (.invokevirtual ix, 3)) (hM : MCt G k y b nL' rt (.ref (gsk G w) :: As) σ rv σ1) (kk : WW G X nL σ1 lv (pc + 3) (rv.toList ++ st)) : WW G X nL σ lv pc st0 := by
  obtain ⟨p, e, R, s, m, args, below, meth, c, Q, A, ck, sk⟩ := X
  obtain ⟨hx, hb, hml, hown, hts, hG, hA, hck, hlm⟩ := cx
  intro H locs ls hl hP hS
  exact ww_back (va_runV (As := As) (rest := st) ⟨hx, hb, hml, hown, hts⟩ (hM H.size) (cwV na hts hC.1 rfl rfl rfl hC.2 ⟨by simp only [rmL]; omega, by simp only [rmL]; omega⟩) ⟨pc_blind, vk_recv hG.2.2.2.1 hw hS, pc_at hG hA hP hS⟩ rfl hlen hl.1 hst0 (lv_room8 hst) hdg hck) hS (va_A_sub hG hA hS) (fun H1 locs1 hP1 hS1 => kk H1 locs1 ls hl hP1 hS1)
theorem ic_0s : Int32.ofInt 0 = 0 := by decide
theorem ic_1s : Int32.ofInt 1 = 1 := by decide
theorem sc_255s : (Int16.ofInt 255).toInt32 = 255 := by decide
set_option maxRecDepth 4000
theorem kJ0_coder (G : GT) {σ : St} {w : Nat} (hw : w < 18) : MCt G 1 yJ0_coder_7d493 cJ0_coder_7d493 1 (some .byte) [.ref (gsk G w)] σ (some (.int 0)) σ := by
  refine met_n (by decide) (Nat.le_of_ble_eq_true rfl) rfl (fun X cx hE => ?_)
  have cx : Cx G X RJ0 cJ0_coder_7d493 1 1 := cx
  show WW G X 1 σ [(0, .ref (gsk G w))] 0 []
  refine ww_gsC cx sfl_38 dJ0_coder_7d493_0 ?_
  have hF : (if (1 : Int32) = 0 then (none : Option Unit) else some ()) = some () := rfl
  refine ww_if_eq cx dJ0_coder_7d493_3 (tgt := 13) rfl hF (fun h => by cases h) (fun _ => ?_)
  refine ww_aload_n cx dJ0_coder_7d493_6 rfl 0 rfl ?_
  refine ww_scod cx sfl_15 hw dJ0_coder_7d493_7 ?_
  refine ww_goto cx dJ0_coder_7d493_10 (tgt := 14) rfl ?_
  exact hE _ _ dJ0_coder_7d493_14
theorem kJ0_isLatin1 (G : GT) {σ : St} {w : Nat} (hw : w < 18) : MCt G 1 yJ0_isLatin1_aae02 cJ0_isLatin1_aae02 1 (some .boolean) [.ref (gsk G w)] σ (some (.int 1)) σ := by
  refine met_n (by decide) (Nat.le_of_ble_eq_true rfl) rfl (fun X cx hE => ?_)
  have cx : Cx G X RJ0 cJ0_isLatin1_aae02 1 1 := cx
  show WW G X 1 σ [(0, .ref (gsk G w))] 0 []
  refine ww_gsC cx sfl_38 dJ0_isLatin1_aae02_0 ?_
  have hF : (if (1 : Int32) = 0 then (none : Option Unit) else some ()) = some () := rfl
  refine ww_if_eq cx dJ0_isLatin1_aae02_3 (tgt := 17) rfl hF (fun h => by cases h) (fun _ => ?_)
  refine ww_aload_n cx dJ0_isLatin1_aae02_6 rfl 0 rfl ?_
  refine ww_scod cx sfl_15 hw dJ0_isLatin1_aae02_7 ?_
  have hF : (if (0 : Int32) = 0 then some () else (none : Option Unit)) = some () := rfl
  refine ww_if_ne cx dJ0_isLatin1_aae02_10 (tgt := 17) rfl hF (fun h => by cases h) (fun _ => ?_)
  refine ww_iconst cx dJ0_isLatin1_aae02_13 ic_1s ?_
  refine ww_goto cx dJ0_isLatin1_aae02_14 (tgt := 18) rfl ?_
  exact hE _ _ dJ0_isLatin1_aae02_18
theorem kJ0_length (G : GT) {σ : St} {w : Nat} (hw : w < 18) : MCt G 2 yJ0_length_8abf5 cJ0_length_8abf5 1 (some .int) [.ref (gsk G w)] σ (some (.int (slenI w))) σ := by
  refine met_i (by decide) (Nat.le_of_ble_eq_true rfl) (fun X cx hE => ?_)
  have cx : Cx G X RJ0 cJ0_length_8abf5 1 2 := cx
  show WW G X 1 σ [(0, .ref (gsk G w))] 0 []
  refine ww_aload_n cx dJ0_length_8abf5_0 rfl 0 rfl ?_
  refine ww_sval cx sfl_9 hw dJ0_length_8abf5_1 ?_
  refine ww_salen cx hw dJ0_length_8abf5_4 ?_
  refine ww_aload_n cx dJ0_length_8abf5_5 rfl 0 rfl ?_
  refine ww_callT (As := []) kv_J0_335 cx hw ⟨Nat.le_of_ble_eq_true rfl, Nat.le_of_ble_eq_true rfl⟩ (Nat.le_of_ble_eq_true rfl) rfl rfl dJ0_length_8abf5_6 (kJ0_coder G hw) ?_
  refine ww_ishr cx dJ0_length_8abf5_9 ?_
  rw [sb_shr0]
  exact hE _ _ dJ0_length_8abf5_10
theorem kJ3_checkIndex (G : GT) {σ : St} {i m : Int32} {v : Value} (hv : v = .null ∨ ∃ t, v = .ref t) (h1 : ¬ i < 0) (h2 : i < m) : MCt G 1 yJ3_checkIndex_8e157 cJ3_checkIndex_8e157 3 (some .int) [.int i, .int m, v] σ (some (.int i)) σ := by
  have hlen : (lg_sl [.int i, .int m, v]).length ≤ 3 := by rcases hv with rfl | ⟨t, rfl⟩ <;> exact Nat.le_of_ble_eq_true rfl
  refine met_i (by decide) hlen (fun X cx hE => ?_)
  have cx : Cx G X RJ3 cJ3_checkIndex_8e157 3 1 := cx
  refine ww_sub (lv' := [(0, .int i), (1, .int m)]) [0, 1] rfl ?_
  refine ww_iload_n cx dJ3_checkIndex_8e157_0 rfl 0 rfl ?_
  have hF : (if i < 0 then (none : Option Unit) else some ()) = some () := if_neg h1
  refine ww_if_lt cx dJ3_checkIndex_8e157_1 (tgt := 9) rfl hF (fun h => by cases h) (fun _ => ?_)
  refine ww_iload_n cx dJ3_checkIndex_8e157_4 rfl 0 rfl ?_
  refine ww_iload_n cx dJ3_checkIndex_8e157_5 rfl 1 rfl ?_
  have hF : (if i < m then some () else (none : Option Unit)) = some () := if_pos h2
  refine ww_icmp_lt cx dJ3_checkIndex_8e157_6 (tgt := 16) rfl hF (fun _ => ?_) (fun h => by cases h)
  refine ww_iload_n cx dJ3_checkIndex_8e157_16 rfl 0 rfl ?_
  exact hE _ _ dJ3_checkIndex_8e157_17
theorem kJ0_checkIndex (G : GT) {σ : St} {i m : Int32} (h1 : ¬ i < 0) (h2 : i < m) : MCt G 2 yJ0_checkIndex_df160 cJ0_checkIndex_df160 2 none [.int i, .int m] σ none σ := by
  refine met_v (by decide) (Nat.le_of_ble_eq_true rfl) (fun X cx hE => ?_)
  have cx : Cx G X RJ0 cJ0_checkIndex_df160 2 2 := cx
  show WW G X 2 σ [(0, .int i), (1, .int m)] 0 []
  refine ww_iload_n cx dJ0_checkIndex_df160_0 rfl 0 rfl ?_
  refine ww_iload_n cx dJ0_checkIndex_df160_1 rfl 1 rfl ?_
  refine ww_gsQ cx sfl_1053 dJ0_checkIndex_df160_2 (fun v hv => ?_)
  refine ww_callS (As := [.int i, .int m, v]) (st := []) kv_J0_1059 cx ⟨Nat.le_of_ble_eq_true rfl, Nat.le_of_ble_eq_true rfl⟩ (Nat.le_of_ble_eq_true rfl) rfl rfl dJ0_checkIndex_df160_5 (kJ3_checkIndex G hv h1 h2) ?_
  refine ww_pop cx dJ0_checkIndex_df160_8 rfl ?_
  exact hE _ _ dJ0_checkIndex_df160_9
theorem slen_lt (w : Nat) : slen.getD w 0 < 2 ^ 31 := by
  rcases Nat.lt_or_ge w 18 with h | h
  · have : ∀ w, w < 18 → slen.getD w 0 < 2 ^ 31 := by decide
    exact this w h
  · have e : slen.getD w 0 = 0 := by
      rw [List.getD_eq_getElem?_getD, List.getElem?_eq_none (by exact h)]
      rfl
    omega
theorem kJ1_charAt (G : GT) {σ : St} {w : Nat} {i : Int32} (hw : w < 18) (hi : ir i (slen.getD w 0)) : MCt G 3 yJ1_charAt_3b067 cJ1_charAt_3b067 2 (some .char) [.ref (gsv G w), .int i] σ (some (.int (scha w i.toNatClampNeg))) σ := by
  refine met_n (by decide) (Nat.le_of_ble_eq_true rfl) (pk_nc _) (fun X cx hE => ?_)
  have cx : Cx G X RJ1 cJ1_charAt_3b067 2 3 := cx
  show WW G X 2 σ [(0, .ref (gsv G w)), (1, .int i)] 0 []
  refine ww_iload_n cx dJ1_charAt_3b067_0 rfl 1 rfl ?_
  refine ww_aload_n cx dJ1_charAt_3b067_1 rfl 0 rfl ?_
  refine ww_salen cx hw dJ1_charAt_3b067_2 ?_
  have hlt := slen_lt w
  have h2 : i < slenI w := by
    rw [Int32.lt_iff_toInt_lt, slenI, nI_toInt hlt]
    exact hi.2
  refine ww_callS (As := [.int i, .int (slenI w)]) (st := []) kv_J1_9 cx ⟨Nat.le_of_ble_eq_true rfl, Nat.le_of_ble_eq_true rfl⟩ (Nat.le_of_ble_eq_true rfl) rfl rfl dJ1_charAt_3b067_3 (kJ0_checkIndex G (nlt0 hi.1) h2) ?_
  refine ww_aload_n cx dJ1_charAt_3b067_6 rfl 0 rfl ?_
  refine ww_iload_n cx dJ1_charAt_3b067_7 rfl 1 rfl ?_
  refine ww_sbald cx hw hi dJ1_charAt_3b067_8 ?_
  refine ww_sipush cx dJ1_charAt_3b067_9 sc_255s ?_
  refine ww_iand cx dJ1_charAt_3b067_12 ?_
  refine ww_i2c cx dJ1_charAt_3b067_13 ?_
  exact hE _ _ dJ1_charAt_3b067_14
theorem kJ0_charAt (G : GT) {σ : St} {w : Nat} {i : Int32} (hw : w < 18) (hi : ir i (slen.getD w 0)) : MCt G 4 yJ0_charAt_5068e cJ0_charAt_5068e 2 (some .char) [.ref (gsk G w), .int i] σ (some (.int (scha w i.toNatClampNeg))) σ := by
  refine met_n (by decide) (Nat.le_of_ble_eq_true rfl) (pk_nc _) (fun X cx hE => ?_)
  have cx : Cx G X RJ0 cJ0_charAt_5068e 2 4 := cx
  show WW G X 2 σ [(0, .ref (gsk G w)), (1, .int i)] 0 []
  refine ww_aload_n cx dJ0_charAt_5068e_0 rfl 0 rfl ?_
  refine ww_callT (As := []) kv_J0_492 cx hw ⟨Nat.le_of_ble_eq_true rfl, Nat.le_of_ble_eq_true rfl⟩ (Nat.le_of_ble_eq_true rfl) rfl rfl dJ0_charAt_5068e_1 (kJ0_isLatin1 G hw) ?_
  have hF : (if (1 : Int32) = 0 then (none : Option Unit) else some ()) = some () := rfl
  refine ww_if_eq (st := []) cx dJ0_charAt_5068e_4 (tgt := 16) rfl hF (fun h => by cases h) (fun _ => ?_)
  refine ww_aload_n cx dJ0_charAt_5068e_7 rfl 0 rfl ?_
  refine ww_sval cx sfl_9 hw dJ0_charAt_5068e_8 ?_
  refine ww_iload_n cx dJ0_charAt_5068e_11 rfl 1 rfl ?_
  refine ww_callS (As := [.ref (gsv G w), .int i]) (st := []) kv_J0_495 cx ⟨Nat.le_of_ble_eq_true rfl, Nat.le_of_ble_eq_true rfl⟩ (Nat.le_of_ble_eq_true rfl) rfl rfl dJ0_charAt_5068e_12 (kJ1_charAt G hw hi) ?_
  exact hE _ _ dJ0_charAt_5068e_15
theorem ww_slen {G : GT} {X : CT} {own : String} {cc : ByteArray} {nL n : Nat} {σ : St} {lv : List (Nat × Value)} {pc : Nat} {st : List Value} {w ix : Nat} (cx : Cx G X own cc nL n) (hC : CallV own ix RJ0 yJ0_length_8abf5 cJ0_length_8abf5 1 (some .int) 0) (hw : w < 18) (hk : 3 ≤ n) (hst : (st.map fun v => v.category).sum ≤ 8) (hdg : decode cc pc = .ok (.invokevirtual ix, 3)) (k : WW G X nL σ lv (pc + 3) (.int (slenI w) :: st)) : WW G X nL σ lv pc (.ref (gsk G w) :: st) :=
  ww_callT (As := []) hC cx hw ⟨hk, Nat.le_of_ble_eq_true rfl⟩ hst rfl rfl hdg (kJ0_length G hw) k
theorem ww_scha {G : GT} {X : CT} {own : String} {cc : ByteArray} {nL n : Nat} {σ : St} {lv : List (Nat × Value)} {pc : Nat} {st : List Value} {w ix : Nat} {i : Int32} {β : Type} {F : Option β} {o : β} (cx : Cx G X own cc nL n) (hC : CallV own ix RJ0 yJ0_charAt_5068e cJ0_charAt_5068e 2 (some .char) 1) (hw : w < 18) (hk : 5 ≤ n) (hst : (st.map fun v => v.category).sum ≤ 8) (hdg : decode cc pc = .ok (.invokevirtual ix, 3)) (hF : gd (ir i (slen.getD w 0)) F = some o) (k : F = some o → WW G X nL σ lv (pc + 3) (.int (scha w i.toNatClampNeg) :: st)) : WW G X nL σ lv pc (.int i :: .ref (gsk G w) :: st) :=
  ww_callT (As := [.int i]) hC cx hw ⟨hk, Nat.le_of_ble_eq_true rfl⟩ hst rfl rfl hdg (kJ0_charAt G hw (gd_some hF).1) (k (gd_some hF).2)
end
section
def FD : Nat := 10
def fX7_bit (a0 : Int32) : Option (Int32) :=
  if a0 = 0 then some (0 : Int32) else some (1 : Int32)
def fX7_end (σ : St) (a1 : Int32) : Option (Int32 × St) :=
  if a1 < 0 then some ((-1 : Int32), σ) else if a1 ≤ (σ.1 1 1) then lt (setI σ 1 1 a1) (fun σ1 => some (a1, σ1)) else some ((-1 : Int32), σ)
def fX7_fault (σ : St) (a1 : Int32) : Option (Int32) :=
  if a1 = 0 then some (σ.1 1 2) else if a1 = 1 then some (σ.1 1 3) else some (-1 : Int32)
def fX7_greatestDivisor_B7 (kr7 : Int32 → Int32 → Int32 → Option (Int32)) (x2 : Int32) (x3 : Int32) (x4 : Int32) : Option (Int32) :=
  if (64 : Int32) ≤ x4 then some x2 else if x3 = 0 then some x2 else gd (¬ x3 = 0) (lt (x2 - x2 / x3 * x3) (fun v1 => lt x3 (fun v2 => lt v1 (fun v3 => lt (x4 + 1) (fun v4 => kr7 v2 v3 v4)))))
def fX7_greatestDivisor_l7 : Nat → Int32 → Int32 → Int32 → Option (Int32)
  | 0 => fun _ _ _ => none
  | n + 1 => fX7_greatestDivisor_B7 (fX7_greatestDivisor_l7 n)
def fX7_greatestDivisor (a0 : Int32) (a1 : Int32) : Option (Int32) :=
  lt a0 (fun v5 => lt a1 (fun v6 => lt (0 : Int32) (fun v7 => fX7_greatestDivisor_l7 FU v5 v6 v7)))
def fX7_isBit_b9 : Option (Int32) :=
  gd ((1 : Int32) = 0 ∨ (1 : Int32) = 1) (some (1 : Int32))
def fX7_isBit (a0 : Int32) : Option (Int32) :=
  if a0 = 0 then fX7_isBit_b9 else if a0 = (1 : Int32) then fX7_isBit_b9 else gd ((0 : Int32) = 0 ∨ (0 : Int32) = 1) (some (0 : Int32))
def fX7_isSeed (a0 : Int32) : Option (Int32) :=
  if a0 < 0 then gd ((0 : Int32) = 0 ∨ (0 : Int32) = 1) (some (0 : Int32)) else if (2000000000 : Int32) < a0 then gd ((0 : Int32) = 0 ∨ (0 : Int32) = 1) (some (0 : Int32)) else gd ((1 : Int32) = 0 ∨ (1 : Int32) = 1) (some (1 : Int32))
def fX7_isSlot (a0 : Int32) : Option (Int32) :=
  if a0 < 0 then gd ((0 : Int32) = 0 ∨ (0 : Int32) = 1) (some (0 : Int32)) else if (4 : Int32) ≤ a0 then gd ((0 : Int32) = 0 ∨ (0 : Int32) = 1) (some (0 : Int32)) else gd ((1 : Int32) = 0 ∨ (1 : Int32) = 1) (some (1 : Int32))
def fX7_rowsThere_B4 (σ : St) (kr4 : Int32 → Int32 → Option (Int32)) (x1 : Int32) (x2 : Int32) : Option (Int32) :=
  if (4 : Int32) ≤ x2 then some x1 else gd (ir x2 4) (lt (rowp x2.toNatClampNeg) (fun k1 => if (σ.1 k1 0) = 0 then lt (x2 + 1) (fun v2 => kr4 x1 v2) else lt (x1 + 1) (fun v3 => lt (x2 + 1) (fun v4 => kr4 v3 v4))))
def fX7_rowsThere_l4 (σ : St) : Nat → Int32 → Int32 → Option (Int32)
  | 0 => fun _ _ => none
  | n + 1 => fX7_rowsThere_B4 σ (fX7_rowsThere_l4 σ n)
def fX7_rowsThere (σ : St) : Option (Int32) :=
  lt (0 : Int32) (fun v5 => lt (0 : Int32) (fun v6 => fX7_rowsThere_l4 σ FU v5 v6))
def fX7_withBit (a0 : Int32) (a1 : Int32) (a2 : Int32) : Option (Int32) :=
  if a2 = (1 : Int32) then some (a0 ||| ((1 : Int32) <<< (a1 &&& 31))) else some (a0 &&& (((1 : Int32) <<< (a1 &&& 31)) ^^^ (-1 : Int32)))
def fX0_worldThatComes_b155 (t : Nat) (kr33 : St → Int32 → Int32 → Int32 → Option (Int32 × St)) (kr56 : St → Int32 → Int32 → Int32 → Int32 → Int32 → Option (Int32 × St)) (σ : St) (x2 : Int32) (x3 : Int32) (x4 : Int32) (x5 : Int32) (x6 : Int32) (x7 : Int32) (y1 : Int32) : Option (Int32 × St) :=
  gd (ir y1 16) (lt (setI σ 61 y1.toNatClampNeg x7) (fun σ1 => lt (x6 + 1) (fun v2 => kr56 σ1 x2 x3 x4 x5 v2)))
def fX0_worldThatComes_b132 (t : Nat) (kr33 : St → Int32 → Int32 → Int32 → Option (Int32 × St)) (kr56 : St → Int32 → Int32 → Int32 → Int32 → Int32 → Option (Int32 × St)) (σ : St) (x2 : Int32) (x3 : Int32) (x4 : Int32) (x5 : Int32) (x6 : Int32) (x7 : Int32) (x8 : Int32) (x9 : Int32) (y0 : Int32) : Option (Int32 × St) :=
  lt y0 (fun v3 => if x9 = 0 then if v3 = 0 then fX0_worldThatComes_b155 t kr33 kr56 σ x2 x3 x4 x5 x6 x7 x6 else gd (ir x6 16) (lt (setI σ 61 x6.toNatClampNeg x8) (fun σ4 => lt (x6 + 1) (fun v5 => kr56 σ4 x2 x3 x4 x5 v5))) else fX0_worldThatComes_b155 t kr33 kr56 σ x2 x3 x4 x5 x6 x7 x6)
def fX0_worldThatComes_b109 (t : Nat) (kr33 : St → Int32 → Int32 → Int32 → Option (Int32 × St)) (kr56 : St → Int32 → Int32 → Int32 → Int32 → Int32 → Option (Int32 × St)) (σ : St) (x2 : Int32) (x3 : Int32) (x4 : Int32) (x5 : Int32) (x6 : Int32) (x7 : Int32) (x8 : Int32) (y0 : Int32) : Option (Int32 × St) :=
  lt y0 (fun v6 => gd (ir x2 12) (if (((σ.1 (t + 2) x2.toNatClampNeg) >>> (x8 &&& 31)) &&& (1 : Int32)) = x5 then fX0_worldThatComes_b132 t kr33 kr56 σ x2 x3 x4 x5 x6 x7 x8 v6 (1 : Int32) else fX0_worldThatComes_b132 t kr33 kr56 σ x2 x3 x4 x5 x6 x7 x8 v6 (0 : Int32)))
def fX0_worldThatComes_B56 (t : Nat) (kr33 : St → Int32 → Int32 → Int32 → Option (Int32 × St)) (kr56 : St → Int32 → Int32 → Int32 → Int32 → Int32 → Option (Int32 × St)) (σ : St) (x2 : Int32) (x3 : Int32) (x4 : Int32) (x5 : Int32) (x6 : Int32) : Option (Int32 × St) :=
  if ((1 : Int32) <<< (x4 &&& 31)) ≤ x6 then lt (x4 + (-1)) (fun v7 => kr33 σ x2 x3 v7) else gd (ir x6 16) (lt (σ.1 61 x6.toNatClampNeg) (fun v8 => gd (ir (x6 ||| ((1 : Int32) <<< (x4 &&& 31))) 16) (lt (σ.1 61 (x6 ||| ((1 : Int32) <<< (x4 &&& 31))).toNatClampNeg) (fun v9 => gd (ir x2 12) (if (((σ.1 (t + 2) x2.toNatClampNeg) >>> (v8 &&& 31)) &&& (1 : Int32)) = x5 then fX0_worldThatComes_b109 t kr33 kr56 σ x2 x3 x4 x5 x6 v8 v9 (1 : Int32) else fX0_worldThatComes_b109 t kr33 kr56 σ x2 x3 x4 x5 x6 v8 v9 (0 : Int32))))))
def fX0_worldThatComes_l56 (t : Nat) (kr33 : St → Int32 → Int32 → Int32 → Option (Int32 × St)) : Nat → St → Int32 → Int32 → Int32 → Int32 → Int32 → Option (Int32 × St)
  | 0 => fun _ _ _ _ _ _ => none
  | n + 1 => fX0_worldThatComes_B56 t kr33 (fX0_worldThatComes_l56 t kr33 n)
def fX0_worldThatComes_b51 (t : Nat) (kr33 : St → Int32 → Int32 → Int32 → Option (Int32 × St)) (σ : St) (x2 : Int32) (x3 : Int32) (x4 : Int32) (y0 : Int32) : Option (Int32 × St) :=
  lt y0 (fun v10 => lt (0 : Int32) (fun v11 => fX0_worldThatComes_l56 t kr33 FU σ x2 x3 x4 v10 v11))
def fX0_worldThatComes_B33 (t : Nat) (kr33 : St → Int32 → Int32 → Int32 → Option (Int32 × St)) (σ : St) (x2 : Int32) (x3 : Int32) (x4 : Int32) : Option (Int32 × St) :=
  if x4 < 0 then gd (ir (0 : Int32) 16) (some ((σ.1 61 (0 : Int32).toNatClampNeg), σ)) else if (x4 &&& (1 : Int32)) = x3 then fX0_worldThatComes_b51 t kr33 σ x2 x3 x4 (1 : Int32) else fX0_worldThatComes_b51 t kr33 σ x2 x3 x4 (0 : Int32)
def fX0_worldThatComes_l33 (t : Nat) : Nat → St → Int32 → Int32 → Int32 → Option (Int32 × St)
  | 0 => fun _ _ _ _ => none
  | n + 1 => fX0_worldThatComes_B33 t (fX0_worldThatComes_l33 t n)
def fX0_worldThatComes_B3 (t : Nat) (kr3 : St → Int32 → Int32 → Int32 → Option (Int32 × St)) (σ : St) (x2 : Int32) (x3 : Int32) (x4 : Int32) : Option (Int32 × St) :=
  if (16 : Int32) ≤ x4 then lt ((σ.1 t 1) - (1 : Int32)) (fun v12 => fX0_worldThatComes_l33 t FU σ x2 x3 v12) else gd (ir x4 16) (lt (setI σ 61 x4.toNatClampNeg x4) (fun σ13 => lt (x4 + 1) (fun v14 => kr3 σ13 x2 x3 v14)))
def fX0_worldThatComes_l3 (t : Nat) : Nat → St → Int32 → Int32 → Int32 → Option (Int32 × St)
  | 0 => fun _ _ _ _ => none
  | n + 1 => fX0_worldThatComes_B3 t (fX0_worldThatComes_l3 t n)
def fX0_worldThatComes (σ : St) (t : Nat) (a2 : Int32) (a3 : Int32) : Option (Int32 × St) :=
  lt (0 : Int32) (fun v15 => fX0_worldThatComes_l3 t FU σ a2 a3 v15)
def fX1_give_b44 (σ : St) (x1 : Int32) (x3 : Int32) : Option (St) :=
  gd (ir x1 12) (lt (setI σ 56 x1.toNatClampNeg x3) (fun σ1 => some σ1))
def fX1_give (σ : St) (a1 : Int32) (a2 : Int32) (a3 : Int32) : Option (St) :=
  lt (setI σ 55 2 ((σ.1 55 2) ||| ((1 : Int32) <<< (a1 &&& 31)))) (fun σ2 => gd (ir a1 12) (gd (ir a1 12) (lt (setI σ2 57 a1.toNatClampNeg ((σ2.1 57 a1.toNatClampNeg) ||| ((1 : Int32) <<< (a2 &&& 31)))) (fun σ3 => gd (ir a1 12) (if (σ3.1 56 a1.toNatClampNeg) = (-1 : Int32) then fX1_give_b44 σ3 a1 a3 else gd (ir a1 12) (if (σ3.1 56 a1.toNatClampNeg) ≤ a3 then some σ3 else fX1_give_b44 σ3 a1 a3))))))
def fX1_open_B61 (t : Nat) (kr61 : St → Int32 → Option (St)) (σ : St) (x2 : Int32) : Option (St) :=
  if (5 : Int32) ≤ x2 then some σ else gd (ir x2 5) (lt (setI σ 58 x2.toNatClampNeg (0 : Int32)) (fun σ1 => gd (ir x2 5) (lt (setI σ1 59 x2.toNatClampNeg (0 : Int32)) (fun σ2 => lt (x2 + 1) (fun v3 => kr61 σ2 v3)))))
def fX1_open_l61 (t : Nat) : Nat → St → Int32 → Option (St)
  | 0 => fun _ _ => none
  | n + 1 => fX1_open_B61 t (fX1_open_l61 t n)
def fX1_open_b45 (t : Nat) (kr17 : St → Int32 → Option (St)) (σ : St) (x2 : Int32) (y1 : Int32) (y2 : Int32) : Option (St) :=
  gd (ir y1 12) (lt (setI σ 56 y1.toNatClampNeg y2) (fun σ4 => gd (ir x2 12) (lt (setI σ4 57 x2.toNatClampNeg (0 : Int32)) (fun σ5 => lt (x2 + 1) (fun v6 => kr17 σ5 v6)))))
def fX1_open_B17 (t : Nat) (kr17 : St → Int32 → Option (St)) (σ : St) (x2 : Int32) : Option (St) :=
  if (12 : Int32) ≤ x2 then lt (0 : Int32) (fun v7 => fX1_open_l61 t FU σ v7) else if (((σ.1 t 7) >>> (x2 &&& 31)) &&& (1 : Int32)) = (1 : Int32) then fX1_open_b45 t kr17 σ x2 x2 (0 : Int32) else fX1_open_b45 t kr17 σ x2 x2 (-1 : Int32)
def fX1_open_l17 (t : Nat) : Nat → St → Int32 → Option (St)
  | 0 => fun _ _ => none
  | n + 1 => fX1_open_B17 t (fX1_open_l17 t n)
def fX1_open (σ : St) (t : Nat) : Option (St) :=
  lt (setI σ 55 0 (0 : Int32)) (fun σ8 => lt (setI σ8 55 1 (0 : Int32)) (fun σ9 => lt (setI σ9 55 2 (0 : Int32)) (fun σ10 => lt (0 : Int32) (fun v11 => fX1_open_l17 t FU σ10 v11))))
def fX2_append_B3 (kr3 : St → Int32 → Int32 → Option (St)) (σ : St) (x1 : Int32) (x2 : Int32) : Option (St) :=
  if x2 < 0 then some σ else if (1600 : Int32) ≤ (σ.1 1 1) then some σ else gd (ir (σ.1 1 1) 1600) (lt (setI σ 2 (σ.1 1 1).toNatClampNeg ((x1 >>> (x2 &&& 31)).toInt8.toInt32).toInt8.toInt32) (fun σ1 => lt (setI σ1 1 1 ((σ1.1 1 1) + (1 : Int32))) (fun σ2 => lt (x2 + (-8)) (fun v3 => kr3 σ2 x1 v3))))
def fX2_append_l3 : Nat → St → Int32 → Int32 → Option (St)
  | 0 => fun _ _ _ => none
  | n + 1 => fX2_append_B3 (fX2_append_l3 n)
def fX2_append (σ : St) (a1 : Int32) : Option (St) :=
  lt (24 : Int32) (fun v4 => fX2_append_l3 FU σ a1 v4)
def fX2_fail (σ : St) (a1 : Int32) : Option (Int32 × St) :=
  lt (setI σ 1 2 a1) (fun σ1 => lt (setI σ1 1 3 (σ1.1 1 5)) (fun σ2 => gd ((0 : Int32) = 0 ∨ (0 : Int32) = 1) (some ((0 : Int32), σ2))))
def fX2_isNumberOf (σ : St) (a1 : Int32) : Option (Int32) :=
  if (σ.1 1 4) = (2 : Int32) then if a1 ≤ (σ.1 1 7) then gd ((0 : Int32) = 0 ∨ (0 : Int32) = 1) (some (0 : Int32)) else gd ((1 : Int32) = 0 ∨ (1 : Int32) = 1) (some (1 : Int32)) else gd ((0 : Int32) = 0 ∨ (0 : Int32) = 1) (some (0 : Int32))
def fX2_kindAt_b45 (σ : St) (x2 : Int32) : Option (Int32) :=
  if x2 = (59 : Int32) then some (3 : Int32) else some (4 : Int32)
def fX2_kindAt_b31 (σ : St) (x2 : Int32) : Option (Int32) :=
  if x2 < (48 : Int32) then fX2_kindAt_b45 σ x2 else if (57 : Int32) < x2 then fX2_kindAt_b45 σ x2 else some (2 : Int32)
def fX2_kindAt (σ : St) (a1 : Int32) : Option (Int32) :=
  if a1 < (σ.1 1 1) then gd (ir a1 1600) (lt (σ.1 2 a1.toNatClampNeg) (fun v1 => if v1 < (97 : Int32) then fX2_kindAt_b31 σ v1 else if (122 : Int32) < v1 then fX2_kindAt_b31 σ v1 else some (1 : Int32))) else some (0 : Int32)
def fX3_reasonAgainst (σ : St) (t : Nat) (a2 : Int32) : Option (Int32) :=
  gd (ir a2 12) (if ((σ.1 (t + 4) a2.toNatClampNeg) &&& ((σ.1 53 2) ^^^ (-1 : Int32))) = 0 then gd (ir a2 12) (if (((σ.1 53 2) >>> ((σ.1 (t + 3) a2.toNatClampNeg) &&& 31)) &&& (1 : Int32)) = (1 : Int32) then some (2 : Int32) else some (0 : Int32)) else some (1 : Int32))
def fX3_usedForAll_B5 (σ : St) (t : Nat) (kr5 : Int32 → Int32 → Int32 → Option (Int32)) (x2 : Int32) (x3 : Int32) (x4 : Int32) : Option (Int32) :=
  if (σ.1 t 4) ≤ x4 then some x3 else if ((x2 >>> (x4 &&& 31)) &&& (1 : Int32)) = (1 : Int32) then gd (ir x4 12) (lt (x3 ||| (σ.1 54 x4.toNatClampNeg)) (fun v2 => lt (x4 + 1) (fun v3 => kr5 x2 v2 v3))) else lt (x4 + 1) (fun v1 => kr5 x2 x3 v1)
def fX3_usedForAll_l5 (σ : St) (t : Nat) : Nat → Int32 → Int32 → Int32 → Option (Int32)
  | 0 => fun _ _ _ => none
  | n + 1 => fX3_usedForAll_B5 σ t (fX3_usedForAll_l5 σ t n)
def fX3_usedForAll (σ : St) (t : Nat) (a2 : Int32) : Option (Int32) :=
  lt (0 : Int32) (fun v4 => lt (0 : Int32) (fun v5 => fX3_usedForAll_l5 σ t FU a2 v4 v5))
def fX4_areAllBelow_B2 (σ : St) (w : Nat) (kr2 : Int32 → Int32 → Option (Int32)) (x1 : Int32) (x2 : Int32) : Option (Int32) :=
  if (σ.1 w 2) ≤ x2 then gd ((1 : Int32) = 0 ∨ (1 : Int32) = 1) (some (1 : Int32)) else gd (ir x2 60) (if (lg_cmp (σ.2 (w + 1) x2.toNatClampNeg) (0 : Int64)) < 0 then gd ((0 : Int32) = 0 ∨ (0 : Int32) = 1) (some (0 : Int32)) else gd (ir x2 60) (if (lg_cmp (σ.2 (w + 1) x2.toNatClampNeg) (x1.toInt64)) < 0 then lt (x2 + 1) (fun v1 => kr2 x1 v1) else gd ((0 : Int32) = 0 ∨ (0 : Int32) = 1) (some (0 : Int32))))
def fX4_areAllBelow_l2 (σ : St) (w : Nat) : Nat → Int32 → Int32 → Option (Int32)
  | 0 => fun _ _ => none
  | n + 1 => fX4_areAllBelow_B2 σ w (fX4_areAllBelow_l2 σ w n)
def fX4_areAllBelow (σ : St) (w : Nat) (a1 : Int32) : Option (Int32) :=
  lt (0 : Int32) (fun v2 => fX4_areAllBelow_l2 σ w FU a1 v2)
def fX4_arePairsBelow_b21 (σ : St) (w : Nat) (kr2 : Int32 → Int32 → Int32 → Option (Int32)) (x1 : Int32) (x2 : Int32) (x3 : Int32) (y0 : Int32) : Option (Int32) :=
  lt y0 (fun v1 => gd (ir x3 60) (if (lg_cmp (σ.2 (w + 1) x3.toNatClampNeg) (0 : Int64)) < 0 then gd ((0 : Int32) = 0 ∨ (0 : Int32) = 1) (some (0 : Int32)) else gd (ir x3 60) (if (lg_cmp (σ.2 (w + 1) x3.toNatClampNeg) (v1.toInt64)) < 0 then lt (x3 + 1) (fun v2 => kr2 x1 x2 v2) else gd ((0 : Int32) = 0 ∨ (0 : Int32) = 1) (some (0 : Int32)))))
def fX4_arePairsBelow_B2 (σ : St) (w : Nat) (kr2 : Int32 → Int32 → Int32 → Option (Int32)) (x1 : Int32) (x2 : Int32) (x3 : Int32) : Option (Int32) :=
  if (σ.1 w 2) ≤ x3 then if ((σ.1 w 2) &&& (1 : Int32)) = 0 then gd ((1 : Int32) = 0 ∨ (1 : Int32) = 1) (some (1 : Int32)) else gd ((0 : Int32) = 0 ∨ (0 : Int32) = 1) (some (0 : Int32)) else if (x3 &&& (1 : Int32)) = 0 then fX4_arePairsBelow_b21 σ w kr2 x1 x2 x3 x1 else fX4_arePairsBelow_b21 σ w kr2 x1 x2 x3 x2
def fX4_arePairsBelow_l2 (σ : St) (w : Nat) : Nat → Int32 → Int32 → Int32 → Option (Int32)
  | 0 => fun _ _ _ => none
  | n + 1 => fX4_arePairsBelow_B2 σ w (fX4_arePairsBelow_l2 σ w n)
def fX4_arePairsBelow (σ : St) (w : Nat) (a1 : Int32) (a2 : Int32) : Option (Int32) :=
  lt (0 : Int32) (fun v3 => fX4_arePairsBelow_l2 σ w FU a1 a2 v3)
def fX4_asSet_B4 (σ : St) (w : Nat) (kr4 : Int32 → Int32 → Option (Int32)) (x1 : Int32) (x2 : Int32) : Option (Int32) :=
  if (σ.1 w 2) ≤ x2 then some x1 else gd (ir x2 60) (lt (x1 ||| ((1 : Int32) <<< (((σ.2 (w + 1) x2.toNatClampNeg).toInt32) &&& 31))) (fun v1 => lt (x2 + 1) (fun v2 => kr4 v1 v2)))
def fX4_asSet_l4 (σ : St) (w : Nat) : Nat → Int32 → Int32 → Option (Int32)
  | 0 => fun _ _ => none
  | n + 1 => fX4_asSet_B4 σ w (fX4_asSet_l4 σ w n)
def fX4_asSet (σ : St) (w : Nat) : Option (Int32) :=
  lt (0 : Int32) (fun v3 => lt (0 : Int32) (fun v4 => fX4_asSet_l4 σ w FU v3 v4))
def fX4_begin_B17 (w : Nat) (kr17 : St → Int32 → Option (St)) (σ : St) (x3 : Int32) : Option (St) :=
  if (60 : Int32) ≤ x3 then some σ else gd (ir x3 60) (lt (setL σ (w + 1) x3.toNatClampNeg (0 : Int64)) (fun σ1 => lt (x3 + 1) (fun v2 => kr17 σ1 v2)))
def fX4_begin_l17 (w : Nat) : Nat → St → Int32 → Option (St)
  | 0 => fun _ _ => none
  | n + 1 => fX4_begin_B17 w (fX4_begin_l17 w n)
def fX4_begin (σ : St) (w : Nat) (a1 : Int32) (a2 : Int32) : Option (St) :=
  gd ((1 : Int32) = 0 ∨ (1 : Int32) = 1) (lt (setI σ w 0 (1 : Int32)) (fun σ3 => lt (setI σ3 w 1 a1) (fun σ4 => lt (setI σ4 w 2 a2) (fun σ5 => lt (0 : Int32) (fun v6 => fX4_begin_l17 w FU σ5 v6)))))
def fX4_cut (σ : St) (w : Nat) (a1 : Int64) : Option (Int64) :=
  if (σ.1 w 1) = 0 then some (((a1.toInt32).toInt8.toInt32).toInt64) else if (σ.1 w 1) = 1 then some (((a1.toInt32).toInt16.toInt32).toInt64) else if (σ.1 w 1) = 2 then some ((a1.toInt32).toInt64) else some a1
def fX5_isLeast_b22 (σ : St) (h : Nat) (kr2 : Int32 → Int32 → Int32 → Option (Int32)) (x1 : Int32) (x2 : Int32) (x3 : Int32) (y0 : Int32) : Option (Int32) :=
  lt y0 (fun v1 => if v1 = 0 then lt (x3 + 1) (fun v2 => kr2 x1 x2 v2) else gd (ir (x1 &&& (((1 : Int32) <<< (x3 &&& 31)) ^^^ (-1 : Int32))) 4096) (if (((σ.1 (h + 1) (x1 &&& (((1 : Int32) <<< (x3 &&& 31)) ^^^ (-1 : Int32))).toNatClampNeg) >>> (x2 &&& 31)) &&& (1 : Int32)) = (1 : Int32) then gd ((0 : Int32) = 0 ∨ (0 : Int32) = 1) (some (0 : Int32)) else lt (x3 + 1) (fun v3 => kr2 x1 x2 v3)))
def fX5_isLeast_B2 (σ : St) (h : Nat) (kr2 : Int32 → Int32 → Int32 → Option (Int32)) (x1 : Int32) (x2 : Int32) (x3 : Int32) : Option (Int32) :=
  if (12 : Int32) ≤ x3 then gd ((1 : Int32) = 0 ∨ (1 : Int32) = 1) (some (1 : Int32)) else if ((x1 >>> (x3 &&& 31)) &&& (1 : Int32)) = (1 : Int32) then fX5_isLeast_b22 σ h kr2 x1 x2 x3 (1 : Int32) else fX5_isLeast_b22 σ h kr2 x1 x2 x3 (0 : Int32)
def fX5_isLeast_l2 (σ : St) (h : Nat) : Nat → Int32 → Int32 → Int32 → Option (Int32)
  | 0 => fun _ _ _ => none
  | n + 1 => fX5_isLeast_B2 σ h (fX5_isLeast_l2 σ h n)
def fX5_isLeast (σ : St) (h : Nat) (a1 : Int32) (a2 : Int32) : Option (Int32) :=
  lt (0 : Int32) (fun v4 => fX5_isLeast_l2 σ h FU a1 a2 v4)
def fX5_subsetBehind (a0 : Int32) (a1 : Int32) : Option (Int32) :=
  some ((a0 - a1) &&& a1)
def fX5_withoutLowest (a0 : Int32) : Option (Int32) :=
  some (a0 &&& (a0 - (1 : Int32)))
def fX6_addStep (σ : St) (t : Nat) (a1 : Int32) (a2 : Int32) : Option (St) :=
  if (12 : Int32) ≤ (σ.1 t 5) then some σ else gd (ir (σ.1 t 5) 12) (lt (setI σ (t + 3) (σ.1 t 5).toNatClampNeg a1) (fun σ1 => gd (ir (σ1.1 t 5) 12) (lt (setI σ1 (t + 4) (σ1.1 t 5).toNatClampNeg a2) (fun σ2 => lt (setI σ2 t 5 ((σ2.1 t 5) + (1 : Int32))) (fun σ3 => some σ3)))))
def fX6_allSteps (σ : St) (t : Nat) : Option (Int32) :=
  some (((1 : Int32) <<< ((σ.1 t 5) &&& 31)) - (1 : Int32))
def fX6_allWorlds (σ : St) (t : Nat) : Option (Int32) :=
  some (((1 : Int32) <<< (((1 : Int32) <<< ((σ.1 t 1) &&& 31)) &&& 31)) - (1 : Int32))
def fX6_canDo (σ : St) (t : Nat) (a1 : Int32) : Option (Int32) :=
  gd (ir a1 5) (if (σ.1 (t + 5) a1.toNatClampNeg) ≤ 0 then some (0 : Int32) else gd (ir a1 5) (gd (¬ (σ.1 (t + 5) a1.toNatClampNeg) = 0) (some ((σ.1 t 2) / (σ.1 (t + 5) a1.toNatClampNeg)))))
def fX6_claimsHoldingIn_B4 (σ : St) (t : Nat) (kr4 : Int32 → Int32 → Int32 → Option (Int32)) (x1 : Int32) (x2 : Int32) (x3 : Int32) : Option (Int32) :=
  if (σ.1 t 4) ≤ x3 then some x2 else gd (ir x3 12) (if (σ.1 (t + 2) x3.toNatClampNeg) = x1 then lt (x2 ||| ((1 : Int32) <<< (x3 &&& 31))) (fun v2 => lt (x3 + 1) (fun v3 => kr4 x1 v2 v3)) else lt (x3 + 1) (fun v1 => kr4 x1 x2 v1))
def fX6_claimsHoldingIn_l4 (σ : St) (t : Nat) : Nat → Int32 → Int32 → Int32 → Option (Int32)
  | 0 => fun _ _ _ => none
  | n + 1 => fX6_claimsHoldingIn_B4 σ t (fX6_claimsHoldingIn_l4 σ t n)
def fX6_claimsHoldingIn (σ : St) (t : Nat) (a1 : Int32) : Option (Int32) :=
  lt (0 : Int32) (fun v4 => lt (0 : Int32) (fun v5 => fX6_claimsHoldingIn_l4 σ t FU a1 v4 v5))
def fX6_clear (σ : St) (t : Nat) : Option (St) :=
  lt (setI σ t 0 (0 : Int32)) (fun σ1 => lt (setI σ1 t 1 (0 : Int32)) (fun σ2 => lt (setI σ2 t 2 (0 : Int32)) (fun σ3 => lt (setI σ3 t 3 (0 : Int32)) (fun σ4 => lt (setI σ4 t 4 (0 : Int32)) (fun σ5 => lt (setI σ5 t 5 (0 : Int32)) (fun σ6 => lt (setI σ6 t 6 (0 : Int32)) (fun σ7 => lt (setI σ7 t 7 (0 : Int32)) (fun σ8 => some σ8))))))))
def fX6_dropStep_B19 (t : Nat) (kr19 : St → Int32 → Option (St)) (σ : St) (x1 : Int32) : Option (St) :=
  if (σ.1 t 6) ≤ x1 then some σ else gd (ir x1 5) (gd (ir x1 5) (lt (setI σ (t + 6) x1.toNatClampNeg ((σ.1 (t + 6) x1.toNatClampNeg) &&& (((1 : Int32) <<< ((σ.1 t 5) &&& 31)) ^^^ (-1 : Int32)))) (fun σ1 => lt (x1 + 1) (fun v2 => kr19 σ1 v2))))
def fX6_dropStep_l19 (t : Nat) : Nat → St → Int32 → Option (St)
  | 0 => fun _ _ => none
  | n + 1 => fX6_dropStep_B19 t (fX6_dropStep_l19 t n)
def fX6_dropStep (σ : St) (t : Nat) : Option (St) :=
  if (σ.1 t 5) ≤ 0 then some σ else lt (setI σ t 5 ((σ.1 t 5) - (1 : Int32))) (fun σ3 => lt (0 : Int32) (fun v4 => fX6_dropStep_l19 t FU σ3 v4))
def fX6_goes (σ : St) (t : Nat) (a1 : Int32) (a2 : Int32) : Option (Int32) :=
  gd (ir a1 12) (if ((σ.1 (t + 4) a1.toNatClampNeg) &&& (a2 ^^^ (-1 : Int32))) = 0 then gd (ir a1 12) (if ((a2 >>> ((σ.1 (t + 3) a1.toNatClampNeg) &&& 31)) &&& (1 : Int32)) = 0 then gd ((1 : Int32) = 0 ∨ (1 : Int32) = 1) (some (1 : Int32)) else gd ((0 : Int32) = 0 ∨ (0 : Int32) = 1) (some (0 : Int32))) else gd ((0 : Int32) = 0 ∨ (0 : Int32) = 1) (some (0 : Int32)))
def fX6_hasClaim (σ : St) (t : Nat) (a1 : Int32) : Option (Int32) :=
  if a1 < 0 then gd ((0 : Int32) = 0 ∨ (0 : Int32) = 1) (some (0 : Int32)) else if (σ.1 t 4) ≤ a1 then gd ((0 : Int32) = 0 ∨ (0 : Int32) = 1) (some (0 : Int32)) else gd ((1 : Int32) = 0 ∨ (1 : Int32) = 1) (some (1 : Int32))
def fX6_hasGuest (σ : St) (t : Nat) (a1 : Int32) : Option (Int32) :=
  if a1 < 0 then gd ((0 : Int32) = 0 ∨ (0 : Int32) = 1) (some (0 : Int32)) else if (σ.1 t 6) ≤ a1 then gd ((0 : Int32) = 0 ∨ (0 : Int32) = 1) (some (0 : Int32)) else gd ((1 : Int32) = 0 ∨ (1 : Int32) = 1) (some (1 : Int32))
def fX6_hasStep (σ : St) (t : Nat) (a1 : Int32) : Option (Int32) :=
  if a1 < 0 then gd ((0 : Int32) = 0 ∨ (0 : Int32) = 1) (some (0 : Int32)) else if (σ.1 t 5) ≤ a1 then gd ((0 : Int32) = 0 ∨ (0 : Int32) = 1) (some (0 : Int32)) else gd ((1 : Int32) = 0 ∨ (1 : Int32) = 1) (some (1 : Int32))
def fX6_holedSteps_B9 (σ : St) (t : Nat) (kr9 : Int64 → Int32 → Int32 → Option (Int32)) (x2 : Int64) (x4 : Int32) (x5 : Int32) : Option (Int32) :=
  if (σ.1 t 5) ≤ x5 then some x4 else gd (¬ (2147483648 : Int64) = 0) (lt ((((1103515245 : Int64) * x2) + (12345 : Int64)) - (((1103515245 : Int64) * x2) + (12345 : Int64)) / (2147483648 : Int64) * (2147483648 : Int64)) (fun v1 => gd (¬ (65536 : Int64) = 0) (gd (¬ (100 : Int64) = 0) (if 0 ≤ (lg_cmp ((v1 / (65536 : Int64)) - (v1 / (65536 : Int64)) / (100 : Int64) * (100 : Int64)) ((σ.1 t 3).toInt64)) then lt (x5 + 1) (fun v2 => kr9 v1 x4 v2) else lt (x4 ||| ((1 : Int32) <<< (x5 &&& 31))) (fun v3 => lt (x5 + 1) (fun v4 => kr9 v1 v3 v4))))))
def fX6_holedSteps_l9 (σ : St) (t : Nat) : Nat → Int64 → Int32 → Int32 → Option (Int32)
  | 0 => fun _ _ _ => none
  | n + 1 => fX6_holedSteps_B9 σ t (fX6_holedSteps_l9 σ t n)
def fX6_holedSteps (σ : St) (t : Nat) (a1 : Int32) : Option (Int32) :=
  lt (a1.toInt64) (fun v5 => lt (0 : Int32) (fun v6 => lt (0 : Int32) (fun v7 => fX6_holedSteps_l9 σ t FU v5 v6 v7)))
def fX6_isTold (σ : St) (t : Nat) : Option (Int32) :=
  if (σ.1 t 0) ≤ 0 then gd ((0 : Int32) = 0 ∨ (0 : Int32) = 1) (some (0 : Int32)) else gd ((1 : Int32) = 0 ∨ (1 : Int32) = 1) (some (1 : Int32))
def fX6_teamKnows_B4 (σ : St) (t : Nat) (kr4 : Int32 → Int32 → Int32 → Option (Int32)) (x1 : Int32) (x2 : Int32) (x3 : Int32) : Option (Int32) :=
  if (σ.1 t 6) ≤ x3 then some x2 else if ((x1 >>> (x3 &&& 31)) &&& (1 : Int32)) = (1 : Int32) then gd (ir x3 5) (lt (x2 ||| (σ.1 (t + 6) x3.toNatClampNeg)) (fun v2 => lt (x3 + 1) (fun v3 => kr4 x1 v2 v3))) else lt (x3 + 1) (fun v1 => kr4 x1 x2 v1)
def fX6_teamKnows_l4 (σ : St) (t : Nat) : Nat → Int32 → Int32 → Int32 → Option (Int32)
  | 0 => fun _ _ _ => none
  | n + 1 => fX6_teamKnows_B4 σ t (fX6_teamKnows_l4 σ t n)
def fX6_teamKnows (σ : St) (t : Nat) (a1 : Int32) : Option (Int32) :=
  lt (0 : Int32) (fun v4 => lt (0 : Int32) (fun v5 => fX6_teamKnows_l4 σ t FU a1 v4 v5))
def fX6_worldsOfAtom_B4 (σ : St) (t : Nat) (kr4 : Int32 → Int32 → Int32 → Option (Int32)) (x1 : Int32) (x2 : Int32) (x3 : Int32) : Option (Int32) :=
  if ((1 : Int32) <<< ((σ.1 t 1) &&& 31)) ≤ x3 then some x2 else if ((x3 >>> (x1 &&& 31)) &&& (1 : Int32)) = (1 : Int32) then lt (x2 ||| ((1 : Int32) <<< (x3 &&& 31))) (fun v2 => lt (x3 + 1) (fun v3 => kr4 x1 v2 v3)) else lt (x3 + 1) (fun v1 => kr4 x1 x2 v1)
def fX6_worldsOfAtom_l4 (σ : St) (t : Nat) : Nat → Int32 → Int32 → Int32 → Option (Int32)
  | 0 => fun _ _ _ => none
  | n + 1 => fX6_worldsOfAtom_B4 σ t (fX6_worldsOfAtom_l4 σ t n)
def fX6_worldsOfAtom (σ : St) (t : Nat) (a1 : Int32) : Option (Int32) :=
  lt (0 : Int32) (fun v4 => lt (0 : Int32) (fun v5 => fX6_worldsOfAtom_l4 σ t FU a1 v4 v5))
def fX6_worthOf_B4 (σ : St) (t : Nat) (kr4 : Int32 → Int32 → Int32 → Option (Int32)) (x1 : Int32) (x2 : Int32) (x3 : Int32) : Option (Int32) :=
  if (σ.1 t 4) ≤ x3 then some x2 else if ((x1 >>> (x3 &&& 31)) &&& (1 : Int32)) = (1 : Int32) then gd (ir x3 12) (lt (x2 + (σ.1 (t + 1) x3.toNatClampNeg)) (fun v2 => lt (x3 + 1) (fun v3 => kr4 x1 v2 v3))) else lt (x3 + 1) (fun v1 => kr4 x1 x2 v1)
def fX6_worthOf_l4 (σ : St) (t : Nat) : Nat → Int32 → Int32 → Int32 → Option (Int32)
  | 0 => fun _ _ _ => none
  | n + 1 => fX6_worthOf_B4 σ t (fX6_worthOf_l4 σ t n)
def fX6_worthOf (σ : St) (t : Nat) (a1 : Int32) : Option (Int32) :=
  lt (0 : Int32) (fun v4 => lt (0 : Int32) (fun v5 => fX6_worthOf_l4 σ t FU a1 v4 v5))
def fX8_allClaims (σ : St) : Option (Int32) :=
  gd (ir (3 : Int32) 70) (some (((1 : Int32) <<< ((σ.1 63 (3 : Int32).toNatClampNeg) &&& 31)) - (1 : Int32)))
def fX8_allGuests (σ : St) : Option (Int32) :=
  gd (ir (5 : Int32) 70) (some (((1 : Int32) <<< ((σ.1 63 (5 : Int32).toNatClampNeg) &&& 31)) - (1 : Int32)))
def fX8_allSteps (σ : St) : Option (Int32) :=
  gd (ir (4 : Int32) 70) (some (((1 : Int32) <<< ((σ.1 63 (4 : Int32).toNatClampNeg) &&& 31)) - (1 : Int32)))
def fX8_bit (a0 : Int32) (a1 : Int32) : Option (Int32) :=
  some ((a0 >>> (a1 &&& 31)) &&& (1 : Int32))
def fX8_bits (a0 : Int32) : Option (Int32) :=
  lt (a0 - (((a0.toUInt32 >>> ((1 : Int32).toUInt32 &&& Int32.toUInt32 31)).toInt32) &&& (1431655765 : Int32))) (fun v1 => lt ((v1 &&& (858993459 : Int32)) + (((v1.toUInt32 >>> ((2 : Int32).toUInt32 &&& Int32.toUInt32 31)).toInt32) &&& (858993459 : Int32))) (fun v2 => some (((((v2 + ((v2.toUInt32 >>> ((4 : Int32).toUInt32 &&& Int32.toUInt32 31)).toInt32)) &&& (252645135 : Int32)) * (16843009 : Int32)).toUInt32 >>> ((24 : Int32).toUInt32 &&& Int32.toUInt32 31)).toInt32)))
def fX8_count_b130 (σ : St) (kr109 : Int32 → Int32 → Option (Int32)) (x3 : Int32) (y0 : Int32) (y1 : Int32) : Option (Int32) :=
  lt (y0 + y1) (fun v1 => lt (x3 + 1) (fun v2 => kr109 v1 v2))
def fX8_count_B109 (σ : St) (kr109 : Int32 → Int32 → Option (Int32)) (x2 : Int32) (x3 : Int32) : Option (Int32) :=
  if (4 : Int32) ≤ x3 then some x2 else gd (ir x3 4) (if (σ.1 78 x3.toNatClampNeg) = (-1 : Int32) then fX8_count_b130 σ kr109 x3 x2 (0 : Int32) else fX8_count_b130 σ kr109 x3 x2 (1 : Int32))
def fX8_count_l109 (σ : St) : Nat → Int32 → Int32 → Option (Int32)
  | 0 => fun _ _ => none
  | n + 1 => fX8_count_B109 σ (fX8_count_l109 σ n)
def fX8_count (σ : St) (a1 : Int32) : Option (Int32) :=
  lt (0 : Int32) (fun v3 => if a1 = 0 then gd (ir (0 : Int32) 70) (some (σ.1 63 (0 : Int32).toNatClampNeg)) else if a1 = 1 then gd (ir (1 : Int32) 70) (some (σ.1 63 (1 : Int32).toNatClampNeg)) else if a1 = 2 then gd (ir (2 : Int32) 70) (some (σ.1 63 (2 : Int32).toNatClampNeg)) else if a1 = 3 then gd (ir (3 : Int32) 70) (some (σ.1 63 (3 : Int32).toNatClampNeg)) else if a1 = 4 then gd (ir (4 : Int32) 70) (some (σ.1 63 (4 : Int32).toNatClampNeg)) else if a1 = 5 then gd (ir (5 : Int32) 70) (some (σ.1 63 (5 : Int32).toNatClampNeg)) else if a1 = 6 then gd (ir (6 : Int32) 70) (some (σ.1 63 (6 : Int32).toNatClampNeg)) else if a1 = 7 then some (σ.1 62 5) else if a1 = 8 then lt (0 : Int32) (fun v4 => fX8_count_l109 σ FU v3 v4) else some (-1 : Int32))
def fX8_cut (a0 : Int64) (a2 : Int32) : Option (Int64) :=
  lt ((64 : Int32) - ((8 : Int32) <<< (a2 &&& 31))) (fun v1 => some ((a0 <<< (v1.toInt64 &&& 63)) >>> (v1.toInt64 &&& 63)))
def fX8_divisor_B4 (kr4 : Int32 → Int32 → Option (Int32)) (x2 : Int32) (x3 : Int32) : Option (Int32) :=
  if x3 = 0 then some x2 else gd (¬ x3 = 0) (lt (x2 - x2 / x3 * x3) (fun v1 => lt x3 (fun v2 => lt v1 (fun v3 => kr4 v2 v3))))
def fX8_divisor_l4 : Nat → Int32 → Int32 → Option (Int32)
  | 0 => fun _ _ => none
  | n + 1 => fX8_divisor_B4 (fX8_divisor_l4 n)
def fX8_divisor (a0 : Int32) (a1 : Int32) : Option (Int32) :=
  lt a0 (fun v4 => lt a1 (fun v5 => fX8_divisor_l4 FU v4 v5))
def fX8_fault (σ : St) (a1 : Int32) : Option (Int32) :=
  if a1 = 0 then some (σ.1 62 12) else if a1 = (1 : Int32) then some (σ.1 62 13) else some (-1 : Int32)
def fX8_feed_B55 (kr55 : St → Int32 → Option (Int32 × St)) (σ : St) (x6 : Int32) : Option (Int32 × St) :=
  if (20 : Int32) ≤ x6 then lt (setI σ 62 5 ((σ.1 62 5) + (20 : Int32))) (fun σ1 => some ((σ1.1 62 5), σ1)) else gd (¬ (4 : Int32) = 0) (gd (ir (x6 / (4 : Int32)) 5) (gd (¬ (4 : Int32) = 0) (gd (ir ((σ.1 62 5) + x6) 1600) (lt (setI σ 66 ((σ.1 62 5) + x6).toNatClampNeg (((σ.1 67 (x6 / (4 : Int32)).toNatClampNeg) >>> (((24 : Int32) - ((8 : Int32) * (x6 - x6 / (4 : Int32) * (4 : Int32)))) &&& 31)).toInt8.toInt32).toInt8.toInt32) (fun σ2 => lt (x6 + 1) (fun v3 => kr55 σ2 v3))))))
def fX8_feed_l55 : Nat → St → Int32 → Option (Int32 × St)
  | 0 => fun _ _ => none
  | n + 1 => fX8_feed_B55 (fX8_feed_l55 n)
def fX8_feed (σ : St) (a1 : Int32) (a2 : Int32) (a3 : Int32) (a4 : Int32) (a5 : Int32) : Option (Int32 × St) :=
  if ((σ.1 62 5) + (20 : Int32)) ≤ (1600 : Int32) then gd (ir (0 : Int32) 5) (lt (setI σ 67 (0 : Int32).toNatClampNeg a1) (fun σ4 => gd (ir (1 : Int32) 5) (lt (setI σ4 67 (1 : Int32).toNatClampNeg a2) (fun σ5 => gd (ir (2 : Int32) 5) (lt (setI σ5 67 (2 : Int32).toNatClampNeg a3) (fun σ6 => gd (ir (3 : Int32) 5) (lt (setI σ6 67 (3 : Int32).toNatClampNeg a4) (fun σ7 => gd (ir (4 : Int32) 5) (lt (setI σ7 67 (4 : Int32).toNatClampNeg a5) (fun σ8 => lt (0 : Int32) (fun v9 => fX8_feed_l55 FU σ8 v9))))))))))) else some ((-1 : Int32), σ)
def fX8_freshAll (σ : St) : Option (Int32) :=
  gd (ir (0 : Int32) 70) (some (((1 : Int32) <<< (((1 : Int32) <<< ((σ.1 68 (0 : Int32).toNatClampNeg) &&& 31)) &&& 31)) - (1 : Int32)))
def fX8_good (σ : St) : Option (Int32) :=
  if (σ.1 62 12) = 0 then gd ((1 : Int32) = 0 ∨ (1 : Int32) = 1) (some (1 : Int32)) else gd ((0 : Int32) = 0 ∨ (0 : Int32) = 1) (some (0 : Int32))
def fX8_holesBy_b63 (σ : St) (kr8 : Int64 → Int32 → Int32 → Option (Int32)) (x3 : Int64) (x6 : Int32) (y0 : Int32) (y1 : Int32) : Option (Int32) :=
  lt (y0 ||| y1) (fun v1 => lt (x6 + 1) (fun v2 => kr8 x3 v1 v2))
def fX8_holesBy_B8 (σ : St) (kr8 : Int64 → Int32 → Int32 → Option (Int32)) (x3 : Int64) (x5 : Int32) (x6 : Int32) : Option (Int32) :=
  gd (ir (4 : Int32) 70) (if (σ.1 63 (4 : Int32).toNatClampNeg) ≤ x6 then some x5 else gd (¬ (2147483648 : Int64) = 0) (lt ((((1103515245 : Int64) * x3) + (12345 : Int64)) - (((1103515245 : Int64) * x3) + (12345 : Int64)) / (2147483648 : Int64) * (2147483648 : Int64)) (fun v3 => gd (¬ (65536 : Int64) = 0) (gd (¬ (100 : Int64) = 0) (gd (ir (2 : Int32) 70) (if 0 ≤ (lg_cmp ((v3 / (65536 : Int64)) - (v3 / (65536 : Int64)) / (100 : Int64) * (100 : Int64)) ((σ.1 63 (2 : Int32).toNatClampNeg).toInt64)) then fX8_holesBy_b63 σ kr8 v3 x6 x5 (0 : Int32) else fX8_holesBy_b63 σ kr8 v3 x6 x5 ((1 : Int32) <<< (x6 &&& 31))))))))
def fX8_holesBy_l8 (σ : St) : Nat → Int64 → Int32 → Int32 → Option (Int32)
  | 0 => fun _ _ _ => none
  | n + 1 => fX8_holesBy_B8 σ (fX8_holesBy_l8 σ n)
def fX8_holesBy (σ : St) (a1 : Int64) : Option (Int32) :=
  lt a1 (fun v4 => lt (0 : Int32) (fun v5 => lt (0 : Int32) (fun v6 => fX8_holesBy_l8 σ FU v4 v5 v6)))
def fX8_in (a0 : Int64) (a2 : Int64) (a4 : Int64) : Option (Int32) :=
  if (lg_cmp a0 a2) < 0 then gd ((0 : Int32) = 0 ∨ (0 : Int32) = 1) (some (0 : Int32)) else if 0 < (lg_cmp a0 a4) then gd ((0 : Int32) = 0 ∨ (0 : Int32) = 1) (some (0 : Int32)) else gd ((1 : Int32) = 0 ∨ (1 : Int32) = 1) (some (1 : Int32))
def fX8_isTable (σ : St) : Option (Int32) :=
  gd (ir (6 : Int32) 70) (if (σ.1 63 (6 : Int32).toNatClampNeg) ≤ 0 then gd ((0 : Int32) = 0 ∨ (0 : Int32) = 1) (some (0 : Int32)) else gd ((1 : Int32) = 0 ∨ (1 : Int32) = 1) (some (1 : Int32)))
def fX8_mine (a0 : Int32) : Option (Int32) :=
  if 0 ≤ a0 then some ((-a0) + (1 : Int32)) else some ((-a0) - (1 : Int32))
def fX8_numberAt (σ : St) (a1 : Int32) (a2 : Int32) : Option (Int64) :=
  gd (ir (((60 : Int32) * a1) + a2) 240) (some (σ.2 80 (((60 : Int32) * a1) + a2).toNatClampNeg))
def fX8_ofClaim (σ : St) (a1 : Int32) (a2 : Int32) : Option (Int32) :=
  gd (ir (((7 : Int32) + ((3 : Int32) * a1)) + a2) 70) (some (σ.1 63 (((7 : Int32) + ((3 : Int32) * a1)) + a2).toNatClampNeg))
def fX8_ofGuest (σ : St) (a1 : Int32) (a2 : Int32) : Option (Int32) :=
  gd (ir (((67 : Int32) + ((2 : Int32) * a1)) + a2) 70) (some (σ.1 63 (((67 : Int32) + ((2 : Int32) * a1)) + a2).toNatClampNeg))
def fX8_ofStep (σ : St) (a1 : Int32) (a2 : Int32) : Option (Int32) :=
  gd (ir (((43 : Int32) + ((2 : Int32) * a1)) + a2) 70) (some (σ.1 63 (((43 : Int32) + ((2 : Int32) * a1)) + a2).toNatClampNeg))
def fX8_see (σ : St) (a1 : Int32) : Option (Int32) :=
  if (σ.1 62 7) ≤ a1 then some (-1 : Int32) else gd (ir a1 1600) (some ((σ.1 66 a1.toNatClampNeg) &&& (255 : Int32)))
def fX8_worlds (σ : St) : Option (Int32) :=
  gd (ir (0 : Int32) 70) (some ((1 : Int32) <<< ((σ.1 63 (0 : Int32).toNatClampNeg) &&& 31)))
def fJ6_bitCount_0f7a4 (a0 : Int32) : Option (Int32) :=
  lt (a0 - (((a0.toUInt32 >>> ((1 : Int32).toUInt32 &&& Int32.toUInt32 31)).toInt32) &&& (1431655765 : Int32))) (fun v1 => lt ((v1 &&& (858993459 : Int32)) + (((v1.toUInt32 >>> ((2 : Int32).toUInt32 &&& Int32.toUInt32 31)).toInt32) &&& (858993459 : Int32))) (fun v2 => lt ((v2 + ((v2.toUInt32 >>> ((4 : Int32).toUInt32 &&& Int32.toUInt32 31)).toInt32)) &&& (252645135 : Int32)) (fun v3 => lt (v3 + ((v3.toUInt32 >>> ((8 : Int32).toUInt32 &&& Int32.toUInt32 31)).toInt32)) (fun v4 => lt (v4 + ((v4.toUInt32 >>> ((16 : Int32).toUInt32 &&& Int32.toUInt32 31)).toInt32)) (fun v5 => some (v5 &&& (63 : Int32)))))))
def fX7_alike (σ : St) (a1 : Int32) : Option (Int32) :=
  bp (fX6_hasClaim σ 3 a1) (fun r1 => if r1 = 0 then some (-2 : Int32) else gd (ir a1 12) (bp (fX6_claimsHoldingIn σ 3 (σ.1 (3 + 2) a1.toNatClampNeg)) (fun r2 => some (r2 &&& (((1 : Int32) <<< (a1 &&& 31)) ^^^ (-1 : Int32))))))
def fX7_claim (σ : St) (a1 : Int32) (a2 : Int32) : Option (Int32) :=
  bp (fX6_hasClaim σ 3 a1) (fun r1 => if r1 = 0 then some (-2 : Int32) else if a2 = 0 then gd (ir a1 12) (some (σ.1 (3 + 1) a1.toNatClampNeg)) else if a2 = 1 then some (((σ.1 3 7) >>> (a1 &&& 31)) &&& (1 : Int32)) else if a2 = 2 then gd (ir a1 12) (bp (fJ6_bitCount_0f7a4 (σ.1 (3 + 2) a1.toNatClampNeg)) (fun r2 => some r2)) else some (-2 : Int32))
def fX7_claims (σ : St) (a1 : Int32) (a2 : Int32) : Option (Int32 × St) :=
  bp (fX6_hasClaim σ 3 a1) (fun r1 => if r1 = 0 then some ((-2 : Int32), σ) else bp (fX7_isBit a2) (fun r2 => if r2 = 0 then some ((-2 : Int32), σ) else gd (ir a1 12) (bs (fX0_worldThatComes σ 3 a1 a2) (fun r3 σ4 => some ((((σ.1 (3 + 2) a1.toNatClampNeg) >>> (r3 &&& 31)) &&& (1 : Int32)), σ4)))))
def fX7_count (σ : St) (a1 : Int32) : Option (Int32) :=
  if a1 = 0 then some (σ.1 3 1) else if a1 = 1 then some (σ.1 3 2) else if a1 = 2 then some (σ.1 3 3) else if a1 = 3 then some (σ.1 3 4) else if a1 = 4 then some (σ.1 3 5) else if a1 = 5 then some (σ.1 3 6) else if a1 = 6 then some (σ.1 3 0) else if a1 = 7 then some (σ.1 1 1) else if a1 = 8 then bp (fX7_rowsThere σ) (fun r1 => some r1) else some (-1 : Int32)
def fX7_drawn (σ : St) (a1 : Int32) : Option (Int32) :=
  bp (fX6_isTold σ 3) (fun r1 => if r1 = 0 then some (-2 : Int32) else bp (fX7_isSeed a1) (fun r2 => if r2 = 0 then some (-2 : Int32) else bp (fX6_holedSteps σ 3 a1) (fun r3 => some r3)))
def fX7_drops (σ : St) : Option (Int32 × St) :=
  bp (fX6_isTold σ 3) (fun r1 => if r1 = 0 then some ((-2 : Int32), σ) else if (σ.1 3 5) = 0 then some ((-5 : Int32), σ) else bp (fX6_dropStep σ 3) (fun σ2 => gd ((1 : Int32) = 0 ∨ (1 : Int32) = 1) (lt (setI σ2 0 7 (1 : Int32)) (fun σ3 => some ((σ3.1 3 5), σ3)))))
def fX7_entails_b54 (σ : St) (y0 : Int32) : Option (Int32) :=
  bp (fX7_bit y0) (fun r1 => some r1)
def fX7_entails (σ : St) (a1 : Int32) (a2 : Int32) : Option (Int32) :=
  bp (fX6_hasClaim σ 3 a1) (fun r2 => if r2 = 0 then some (-2 : Int32) else bp (fX6_hasClaim σ 3 a2) (fun r3 => if r3 = 0 then some (-2 : Int32) else gd (ir a2 12) (gd (ir a1 12) (if ((σ.1 (3 + 2) a2.toNatClampNeg) &&& ((σ.1 (3 + 2) a1.toNatClampNeg) ^^^ (-1 : Int32))) = 0 then fX7_entails_b54 σ (1 : Int32) else fX7_entails_b54 σ (0 : Int32)))))
def fX7_feed (σ : St) (a1 : Int32) (a2 : Int32) (a3 : Int32) (a4 : Int32) (a5 : Int32) : Option (Int32 × St) :=
  if ((σ.1 1 1) + (20 : Int32)) ≤ (1600 : Int32) then bp (fX2_append σ a1) (fun σ1 => bp (fX2_append σ1 a2) (fun σ2 => bp (fX2_append σ2 a3) (fun σ3 => bp (fX2_append σ3 a4) (fun σ4 => bp (fX2_append σ4 a5) (fun σ5 => some ((σ5.1 1 1), σ5)))))) else some ((-1 : Int32), σ)
def fX7_guest (σ : St) (a1 : Int32) (a2 : Int32) : Option (Int32) :=
  bp (fX6_hasGuest σ 3 a1) (fun r1 => if r1 = 0 then some (-2 : Int32) else if a2 = 0 then gd (ir a1 5) (some (σ.1 (3 + 5) a1.toNatClampNeg)) else if a2 = 1 then gd (ir a1 5) (some (σ.1 (3 + 6) a1.toNatClampNeg)) else if a2 = 2 then bp (fX6_canDo σ 3 a1) (fun r2 => some r2) else some (-2 : Int32))
def fX7_holds (σ : St) (a1 : Int32) : Option (Int32) :=
  bp (fX6_hasClaim σ 3 a1) (fun r1 => if r1 = 0 then some (-2 : Int32) else gd (ir a1 12) (some (σ.1 (3 + 2) a1.toNatClampNeg)))
def fX7_lowestBit (a0 : Int32) : Option (Int32) :=
  if a0 = 0 then some (-1 : Int32) else bp (fJ6_bitCount_0f7a4 ((a0 &&& (-a0)) - (1 : Int32))) (fun r1 => some r1)
def fX7_outcome (σ : St) (a1 : Int32) (a2 : Int32) : Option (Int32 × St) :=
  bp (fX6_hasClaim σ 3 a1) (fun r1 => if r1 = 0 then some ((-2 : Int32), σ) else bp (fX7_isBit a2) (fun r2 => if r2 = 0 then some ((-2 : Int32), σ) else bs (fX0_worldThatComes σ 3 a1 a2) (fun r3 σ4 => some (r3, σ4))))
def fX7_partOfFraction_b14 (x2 : Int32) : Option (Int32) :=
  if x2 = 0 then some (0 : Int32) else some (1 : Int32)
def fX7_partOfFraction (a0 : Int32) (a1 : Int32) (a2 : Int32) : Option (Int32) :=
  bp (fX7_greatestDivisor a0 a1) (fun r1 => lt r1 (fun v2 => if a1 ≤ 0 then fX7_partOfFraction_b14 a2 else if 0 < v2 then if a2 = 0 then gd (¬ v2 = 0) (some (a0 / v2)) else gd (¬ v2 = 0) (some (a1 / v2)) else fX7_partOfFraction_b14 a2))
def fX7_paste (σ : St) (a1 : Int32) (a2 : Int32) (a3 : Int32) (a4 : Int32) (a5 : Int32) : Option (Int32 × St) :=
  bp (fX7_isSlot a1) (fun r1 => if r1 = 0 then some ((-2 : Int32), σ) else bp (fX7_isSlot a3) (fun r2 => if r2 = 0 then some ((-2 : Int32), σ) else gd (ir a1 4) (lt (rowp a1.toNatClampNeg) (fun k3 => gd (ir a3 4) (lt (rowp a3.toNatClampNeg) (fun k4 => if (σ.1 k3 0) = 0 then some ((-6 : Int32), σ) else if (σ.1 k4 0) = 0 then some ((-6 : Int32), σ) else if (σ.1 k3 1) = (σ.1 k4 1) then if a2 < 0 then some ((-7 : Int32), σ) else if a4 < 0 then some ((-7 : Int32), σ) else if a5 < 0 then some ((-7 : Int32), σ) else if ((σ.1 k3 2) - a2) < a5 then some ((-7 : Int32), σ) else if a5 ≤ ((σ.1 k4 2) - a4) then gd (cpokD a2 a4 a5 60 60) (lt (cpyJ σ (k3 + 1) (k4 + 1) a2.toNatClampNeg a4.toNatClampNeg a5.toNatClampNeg) (fun σ5 => some ((0 : Int32), σ5))) else some ((-7 : Int32), σ) else some ((-8 : Int32), σ)))))))
def fX7_refusalOfSlot (σ : St) (a1 : Int32) : Option (Int32) :=
  bp (fX6_isTold σ 3) (fun r1 => if r1 = 0 then some (-2 : Int32) else bp (fX7_isSlot a1) (fun r2 => if r2 = 0 then some (-2 : Int32) else gd (ir a1 4) (lt (rowp a1.toNatClampNeg) (fun k3 => if (σ.1 k3 0) = 0 then some (-6 : Int32) else some (0 : Int32)))))
def fX7_row (σ : St) (a1 : Int32) (a2 : Int32) (a3 : Int32) : Option (Int32 × St) :=
  bp (fX7_isSlot a1) (fun r1 => if r1 = 0 then some ((-2 : Int32), σ) else if a2 < 0 then some ((-2 : Int32), σ) else if (3 : Int32) < a2 then some ((-2 : Int32), σ) else if a3 ≤ (60 : Int32) then if 0 ≤ a3 then gd (ir a1 4) (lt (rowp a1.toNatClampNeg) (fun k2 => bp (fX4_begin σ k2 a2 a3) (fun σ3 => some ((0 : Int32), σ3)))) else some ((-3 : Int32), σ) else some ((-2 : Int32), σ))
def fX7_salt (σ : St) (a1 : Int32) (a2 : Int32) : Option (Int32 × St) :=
  bp (fX6_hasClaim σ 3 a1) (fun r1 => if r1 = 0 then some ((-2 : Int32), σ) else bp (fX7_isBit a2) (fun r2 => if r2 = 0 then some ((-2 : Int32), σ) else lt (((σ.1 3 7) >>> (a1 &&& 31)) &&& (1 : Int32)) (fun v3 => bp (fX7_withBit (σ.1 3 7) a1 a2) (fun r4 => lt (setI σ 3 7 r4) (fun σ5 => gd ((1 : Int32) = 0 ∨ (1 : Int32) = 1) (lt (setI σ5 0 7 (1 : Int32)) (fun σ6 => some (v3, σ6))))))))
def fX7_sizeOrNone (a0 : Int32) : Option (Int32) :=
  if a0 = (-1 : Int32) then some (-1 : Int32) else bp (fJ6_bitCount_0f7a4 a0) (fun r1 => some r1)
def fX7_teach (σ : St) (a1 : Int32) (a2 : Int32) (a3 : Int32) : Option (Int32 × St) :=
  bp (fX6_hasGuest σ 3 a1) (fun r1 => if r1 = 0 then some ((-2 : Int32), σ) else bp (fX6_hasStep σ 3 a2) (fun r2 => if r2 = 0 then some ((-2 : Int32), σ) else bp (fX7_isBit a3) (fun r3 => if r3 = 0 then some ((-2 : Int32), σ) else gd (ir a1 5) (lt (((σ.1 (3 + 6) a1.toNatClampNeg) >>> (a2 &&& 31)) &&& (1 : Int32)) (fun v4 => gd (ir a1 5) (bp (fX7_withBit (σ.1 (3 + 6) a1.toNatClampNeg) a2 a3) (fun r5 => gd (ir a1 5) (lt (setI σ (3 + 6) a1.toNatClampNeg r5) (fun σ6 => some (v4, σ6))))))))))
def fX7_unlike_B17 (σ : St) (kr17 : Int32 → Int32 → Option (Int32)) (x1 : Int32) (x2 : Int32) : Option (Int32) :=
  if (σ.1 3 4) ≤ x2 then some x1 else gd (ir x2 12) (bp (fX6_claimsHoldingIn σ 3 (σ.1 (3 + 2) x2.toNatClampNeg)) (fun r1 => lt (r1 &&& (((1 : Int32) <<< (x2 &&& 31)) - (1 : Int32))) (fun v2 => if v2 = 0 then lt (x1 + 1) (fun v4 => lt (x2 + 1) (fun v5 => kr17 v4 v5)) else lt (x2 + 1) (fun v3 => kr17 x1 v3))))
def fX7_unlike_l17 (σ : St) : Nat → Int32 → Int32 → Option (Int32)
  | 0 => fun _ _ => none
  | n + 1 => fX7_unlike_B17 σ (fX7_unlike_l17 σ n)
def fX7_unlike (σ : St) : Option (Int32) :=
  bp (fX6_isTold σ 3) (fun r6 => if r6 = 0 then some (-2 : Int32) else lt (0 : Int32) (fun v7 => lt (0 : Int32) (fun v8 => fX7_unlike_l17 σ FU v7 v8)))
def fX7_write (σ : St) (a1 : Int32) (a2 : Int32) (a3 : Int64) : Option (Int32 × St) :=
  bp (fX7_isSlot a1) (fun r1 => if r1 = 0 then some ((-2 : Int32), σ) else gd (ir a1 4) (lt (rowp a1.toNatClampNeg) (fun k2 => if (σ.1 k2 0) = 0 then some ((-6 : Int32), σ) else if a2 < 0 then some ((-7 : Int32), σ) else gd (ir a1 4) (lt (rowp a1.toNatClampNeg) (fun k3 => if a2 < (σ.1 k3 2) then gd (ir a1 4) (lt (rowp a1.toNatClampNeg) (fun k4 => gd (ir a1 4) (lt (rowp a1.toNatClampNeg) (fun k5 => bp (fX4_cut σ k5 a3) (fun r6 => gd (ir a2 60) (lt (setL σ (k4 + 1) a2.toNatClampNeg r6) (fun σ7 => some ((0 : Int32), σ7)))))))) else some ((-7 : Int32), σ))))))
def fX1_hourOfAll_B5 (σ : St) (t : Nat) (kr5 : Int32 → Int32 → Int32 → Option (Int32)) (x2 : Int32) (x3 : Int32) (x4 : Int32) : Option (Int32) :=
  if (σ.1 t 4) ≤ x4 then some x3 else if ((x2 >>> (x4 &&& 31)) &&& (1 : Int32)) = (1 : Int32) then gd (ir x4 12) (if (σ.1 56 x4.toNatClampNeg) = (-1 : Int32) then some (-1 : Int32) else gd (ir x4 12) (lt (if x3 < (σ.1 56 x4.toNatClampNeg) then (σ.1 56 x4.toNatClampNeg) else x3) (fun v2 => lt (x4 + 1) (fun v3 => kr5 x2 v2 v3)))) else lt (x4 + 1) (fun v1 => kr5 x2 x3 v1)
def fX1_hourOfAll_l5 (σ : St) (t : Nat) : Nat → Int32 → Int32 → Int32 → Option (Int32)
  | 0 => fun _ _ _ => none
  | n + 1 => fX1_hourOfAll_B5 σ t (fX1_hourOfAll_l5 σ t n)
def fX1_hourOfAll (σ : St) (t : Nat) (a2 : Int32) : Option (Int32) :=
  lt (0 : Int32) (fun v4 => lt (0 : Int32) (fun v5 => fX1_hourOfAll_l5 σ t FU a2 v4 v5))
def fX2_advance_B76 (kr76 : St → Int32 → Option (St)) (σ : St) (x1 : Int32) : Option (St) :=
  if (σ.1 1 1) ≤ x1 then lt (setI σ 1 6 x1) (fun σ1 => some σ1) else bp (fX2_kindAt σ x1) (fun r2 => if r2 = (σ.1 1 4) then if (σ.1 1 4) = (2 : Int32) then gd (ir x1 1600) (lt (setI σ 1 7 (if ((((σ.1 1 7) * (10 : Int32)) + (σ.1 2 x1.toNatClampNeg)) - (48 : Int32)) < (100000 : Int32) then ((((σ.1 1 7) * (10 : Int32)) + (σ.1 2 x1.toNatClampNeg)) - (48 : Int32)) else (100000 : Int32))) (fun σ6 => lt (x1 + 1) (fun v7 => kr76 σ6 v7))) else lt (setI σ 1 7 (0 : Int32)) (fun σ4 => lt (x1 + 1) (fun v5 => kr76 σ4 v5)) else lt (setI σ 1 6 x1) (fun σ3 => some σ3))
def fX2_advance_l76 : Nat → St → Int32 → Option (St)
  | 0 => fun _ _ => none
  | n + 1 => fX2_advance_B76 (fX2_advance_l76 n)
def fX2_advance_b41 (σ : St) (x1 : Int32) : Option (St) :=
  lt (setI σ 1 5 x1) (fun σ8 => bp (fX2_kindAt σ8 x1) (fun r9 => lt (setI σ8 1 4 r9) (fun σ10 => lt (setI σ10 1 7 (0 : Int32)) (fun σ11 => if (σ11.1 1 4) = (1 : Int32) then fX2_advance_l76 FU σ11 x1 else if (σ11.1 1 4) = (2 : Int32) then fX2_advance_l76 FU σ11 x1 else if (σ11.1 1 4) = 0 then lt (setI σ11 1 6 x1) (fun σ12 => some σ12) else lt (x1 + 1) (fun v13 => lt (setI σ11 1 6 v13) (fun σ14 => some σ14))))))
def fX2_advance_B5 (kr5 : St → Int32 → Option (St)) (σ : St) (x1 : Int32) : Option (St) :=
  if (σ.1 1 1) ≤ x1 then fX2_advance_b41 σ x1 else gd (ir x1 1600) (if (σ.1 2 x1.toNatClampNeg) = (32 : Int32) then lt (x1 + 1) (fun v15 => kr5 σ v15) else gd (ir x1 1600) (if (σ.1 2 x1.toNatClampNeg) = (10 : Int32) then lt (x1 + 1) (fun v16 => kr5 σ v16) else fX2_advance_b41 σ x1))
def fX2_advance_l5 : Nat → St → Int32 → Option (St)
  | 0 => fun _ _ => none
  | n + 1 => fX2_advance_B5 (fX2_advance_l5 n)
def fX2_advance (σ : St) : Option (St) :=
  lt (σ.1 1 6) (fun v17 => fX2_advance_l5 FU σ v17)
def fX3_read_B41 (t : Nat) (w : Nat) (kr41 : St → Int32 → Option (St)) (σ : St) (x3 : Int32) : Option (St) :=
  if (σ.1 w 2) ≤ x3 then some σ else if (σ.1 53 1) = 0 then gd (ir x3 60) (lt ((σ.2 (w + 1) x3.toNatClampNeg).toInt32) (fun v1 => bp (fX3_reasonAgainst σ t v1) (fun r2 => lt (setI σ 53 1 r2) (fun σ3 => if (σ3.1 53 1) = 0 then gd (ir v1 12) (gd (ir v1 12) (bp (fX3_usedForAll σ3 t (σ3.1 (t + 4) v1.toNatClampNeg)) (fun r5 => gd (ir (σ3.1 (t + 3) v1.toNatClampNeg) 12) (lt (setI σ3 54 (σ3.1 (t + 3) v1.toNatClampNeg).toNatClampNeg (((1 : Int32) <<< (v1 &&& 31)) ||| r5)) (fun σ6 => gd (ir v1 12) (lt (setI σ6 53 2 ((σ6.1 53 2) ||| ((1 : Int32) <<< ((σ6.1 (t + 3) v1.toNatClampNeg) &&& 31)))) (fun σ7 => lt (setI σ7 53 0 ((σ7.1 53 0) + (1 : Int32))) (fun σ8 => lt (x3 + 1) (fun v9 => kr41 σ8 v9))))))))) else lt (x3 + 1) (fun v4 => kr41 σ3 v4))))) else some σ
def fX3_read_l41 (t : Nat) (w : Nat) : Nat → St → Int32 → Option (St)
  | 0 => fun _ _ => none
  | n + 1 => fX3_read_B41 t w (fX3_read_l41 t w n)
def fX3_read_B20 (t : Nat) (w : Nat) (kr20 : St → Int32 → Option (St)) (σ : St) (x3 : Int32) : Option (St) :=
  if (12 : Int32) ≤ x3 then lt (0 : Int32) (fun v10 => fX3_read_l41 t w FU σ v10) else gd (ir x3 12) (lt (setI σ 54 x3.toNatClampNeg (0 : Int32)) (fun σ11 => lt (x3 + 1) (fun v12 => kr20 σ11 v12)))
def fX3_read_l20 (t : Nat) (w : Nat) : Nat → St → Int32 → Option (St)
  | 0 => fun _ _ => none
  | n + 1 => fX3_read_B20 t w (fX3_read_l20 t w n)
def fX3_read (σ : St) (t : Nat) (w : Nat) : Option (St) :=
  lt (setI σ 53 0 (0 : Int32)) (fun σ13 => lt (setI σ13 53 1 (0 : Int32)) (fun σ14 => lt (setI σ14 53 2 (σ14.1 t 7)) (fun σ15 => lt (0 : Int32) (fun v16 => fX3_read_l20 t w FU σ15 v16))))
def fX3_worthEaten_b101 (σ : St) (t : Nat) (w : Nat) (x4 : Int32) : Option (Int32) :=
  bp (fX6_worthOf σ t (x4 &&& ((σ.1 t 7) ^^^ (-1 : Int32)))) (fun r1 => some r1)
def fX3_worthEaten_b60 (σ : St) (t : Nat) (w : Nat) (kr23 : Int32 → Int32 → Int32 → Int32 → Option (Int32)) (x3 : Int32) (x4 : Int32) (x5 : Int32) (x6 : Int32) (x7 : Int32) (y0 : Int32) : Option (Int32) :=
  lt y0 (fun v2 => if v2 = 0 then fX3_worthEaten_b101 σ t w x4 else bp (fX6_goes σ t x7 x4) (fun r3 => if r3 = 0 then fX3_worthEaten_b101 σ t w x4 else gd (ir x7 12) (lt (x4 ||| ((1 : Int32) <<< ((σ.1 (t + 3) x7.toNatClampNeg) &&& 31))) (fun v4 => lt (x6 + 1) (fun v5 => kr23 x3 v4 x5 v5)))))
def fX3_worthEaten_B23 (σ : St) (t : Nat) (w : Nat) (kr23 : Int32 → Int32 → Int32 → Int32 → Option (Int32)) (x3 : Int32) (x4 : Int32) (x5 : Int32) (x6 : Int32) : Option (Int32) :=
  if x5 ≤ x6 then fX3_worthEaten_b101 σ t w x4 else gd (ir x6 60) (lt ((σ.2 (w + 1) x6.toNatClampNeg).toInt32) (fun v6 => gd (ir x3 5) (if (((σ.1 (t + 6) x3.toNatClampNeg) >>> (v6 &&& 31)) &&& (1 : Int32)) = (1 : Int32) then fX3_worthEaten_b60 σ t w kr23 x3 x4 x5 x6 v6 (1 : Int32) else fX3_worthEaten_b60 σ t w kr23 x3 x4 x5 x6 v6 (0 : Int32))))
def fX3_worthEaten_l23 (σ : St) (t : Nat) (w : Nat) : Nat → Int32 → Int32 → Int32 → Int32 → Option (Int32)
  | 0 => fun _ _ _ _ => none
  | n + 1 => fX3_worthEaten_B23 σ t w (fX3_worthEaten_l23 σ t w n)
def fX3_worthEaten (σ : St) (t : Nat) (w : Nat) (a3 : Int32) : Option (Int32) :=
  lt (σ.1 t 7) (fun v7 => bp (fX6_canDo σ t a3) (fun r8 => lt (if r8 < (σ.1 w 2) then r8 else (σ.1 w 2)) (fun v9 => lt (0 : Int32) (fun v10 => fX3_worthEaten_l23 σ t w FU a3 v7 v9 v10))))
def fX5_subsetsOf (a0 : Int32) : Option (Int32) :=
  bp (fJ6_bitCount_0f7a4 a0) (fun r1 => some ((1 : Int32) <<< (r1 &&& 31)))
def fX6_copyFrom (σ : St) (t : Nat) (t2 : Nat) : Option (St) :=
  lt (setI σ t 0 (σ.1 t2 0)) (fun σ1 => lt (setI σ1 t 1 (σ1.1 t2 1)) (fun σ2 => lt (setI σ2 t 2 (σ2.1 t2 2)) (fun σ3 => lt (setI σ3 t 3 (σ3.1 t2 3)) (fun σ4 => lt (setI σ4 t 4 (σ4.1 t2 4)) (fun σ5 => lt (setI σ5 t 5 (σ5.1 t2 5)) (fun σ6 => lt (setI σ6 t 6 (σ6.1 t2 6)) (fun σ7 => lt (setI σ7 t 7 (σ7.1 t2 7)) (fun σ8 => gd (cpokD (0 : Int32) (0 : Int32) (12 : Int32) 12 12) (lt (cpyI σ8 (t2 + 1) (t + 1) (0 : Int32).toNatClampNeg (0 : Int32).toNatClampNeg (12 : Int32).toNatClampNeg) (fun σ9 => gd (cpokD (0 : Int32) (0 : Int32) (12 : Int32) 12 12) (lt (cpyI σ9 (t2 + 2) (t + 2) (0 : Int32).toNatClampNeg (0 : Int32).toNatClampNeg (12 : Int32).toNatClampNeg) (fun σ10 => gd (cpokD (0 : Int32) (0 : Int32) (12 : Int32) 12 12) (lt (cpyI σ10 (t2 + 3) (t + 3) (0 : Int32).toNatClampNeg (0 : Int32).toNatClampNeg (12 : Int32).toNatClampNeg) (fun σ11 => gd (cpokD (0 : Int32) (0 : Int32) (12 : Int32) 12 12) (lt (cpyI σ11 (t2 + 4) (t + 4) (0 : Int32).toNatClampNeg (0 : Int32).toNatClampNeg (12 : Int32).toNatClampNeg) (fun σ12 => gd (cpokD (0 : Int32) (0 : Int32) (5 : Int32) 5 5) (lt (cpyI σ12 (t2 + 5) (t + 5) (0 : Int32).toNatClampNeg (0 : Int32).toNatClampNeg (5 : Int32).toNatClampNeg) (fun σ13 => gd (cpokD (0 : Int32) (0 : Int32) (5 : Int32) 5 5) (lt (cpyI σ13 (t2 + 6) (t + 6) (0 : Int32).toNatClampNeg (0 : Int32).toNatClampNeg (5 : Int32).toNatClampNeg) (fun σ14 => some σ14))))))))))))))))))))
def fX6_firstGoing_B2 (σ : St) (t : Nat) (kr2 : Int32 → Int32 → Int32 → Option (Int32)) (x1 : Int32) (x2 : Int32) (x3 : Int32) : Option (Int32) :=
  if (σ.1 t 5) ≤ x3 then some (-1 : Int32) else if ((x1 >>> (x3 &&& 31)) &&& (1 : Int32)) = (1 : Int32) then bp (fX6_goes σ t x3 x2) (fun r2 => if r2 = 0 then lt (x3 + 1) (fun v3 => kr2 x1 x2 v3) else some x3) else lt (x3 + 1) (fun v1 => kr2 x1 x2 v1)
def fX6_firstGoing_l2 (σ : St) (t : Nat) : Nat → Int32 → Int32 → Int32 → Option (Int32)
  | 0 => fun _ _ _ => none
  | n + 1 => fX6_firstGoing_B2 σ t (fX6_firstGoing_l2 σ t n)
def fX6_firstGoing (σ : St) (t : Nat) (a1 : Int32) (a2 : Int32) : Option (Int32) :=
  lt (0 : Int32) (fun v4 => fX6_firstGoing_l2 σ t FU a1 a2 v4)
def fX6_isClaimSet (σ : St) (t : Nat) (a1 : Int32) : Option (Int32) :=
  bp (fX6_isTold σ t) (fun r1 => if r1 = 0 then gd ((0 : Int32) = 0 ∨ (0 : Int32) = 1) (some (0 : Int32)) else if a1 < 0 then gd ((0 : Int32) = 0 ∨ (0 : Int32) = 1) (some (0 : Int32)) else if ((1 : Int32) <<< ((σ.1 t 4) &&& 31)) ≤ a1 then gd ((0 : Int32) = 0 ∨ (0 : Int32) = 1) (some (0 : Int32)) else gd ((1 : Int32) = 0 ∨ (1 : Int32) = 1) (some (1 : Int32)))
def fX6_isGuestSet (σ : St) (t : Nat) (a1 : Int32) : Option (Int32) :=
  bp (fX6_isTold σ t) (fun r1 => if r1 = 0 then gd ((0 : Int32) = 0 ∨ (0 : Int32) = 1) (some (0 : Int32)) else if a1 < 0 then gd ((0 : Int32) = 0 ∨ (0 : Int32) = 1) (some (0 : Int32)) else if ((1 : Int32) <<< ((σ.1 t 6) &&& 31)) ≤ a1 then gd ((0 : Int32) = 0 ∨ (0 : Int32) = 1) (some (0 : Int32)) else gd ((1 : Int32) = 0 ∨ (1 : Int32) = 1) (some (1 : Int32)))
def fX6_spread_B26 (σ : St) (t : Nat) (kr8 : Int32 → Int32 → Int32 → Int32 → Option (Int32)) (kr26 : Int32 → Int32 → Int32 → Int32 → Int32 → Option (Int32)) (x1 : Int32) (x3 : Int32) (x5 : Int32) (x6 : Int32) (x7 : Int32) : Option (Int32) :=
  if (σ.1 t 5) ≤ x7 then if x3 = x6 then lt (0 : Int32) (fun v1 => lt (x5 + 1) (fun v2 => kr8 x1 x3 v1 v2)) else lt (1 : Int32) (fun v3 => lt (x5 + 1) (fun v4 => kr8 x1 x3 v3 v4)) else if ((x1 >>> (x7 &&& 31)) &&& (1 : Int32)) = (1 : Int32) then bp (fX6_goes σ t x7 x3) (fun r6 => if r6 = 0 then lt (x7 + 1) (fun v7 => kr26 x1 x3 x5 x6 v7) else gd (ir x7 12) (lt (x3 ||| ((1 : Int32) <<< ((σ.1 (t + 3) x7.toNatClampNeg) &&& 31))) (fun v8 => lt (x7 + 1) (fun v9 => kr26 x1 v8 x5 x6 v9)))) else lt (x7 + 1) (fun v5 => kr26 x1 x3 x5 x6 v5)
def fX6_spread_l26 (σ : St) (t : Nat) (kr8 : Int32 → Int32 → Int32 → Int32 → Option (Int32)) : Nat → Int32 → Int32 → Int32 → Int32 → Int32 → Option (Int32)
  | 0 => fun _ _ _ _ _ => none
  | n + 1 => fX6_spread_B26 σ t kr8 (fX6_spread_l26 σ t kr8 n)
def fX6_spread_B8 (σ : St) (t : Nat) (kr8 : Int32 → Int32 → Int32 → Int32 → Option (Int32)) (x1 : Int32) (x3 : Int32) (x4 : Int32) (x5 : Int32) : Option (Int32) :=
  if (12 : Int32) < x5 then some x3 else if x4 = 0 then some x3 else lt x3 (fun v10 => lt (0 : Int32) (fun v11 => fX6_spread_l26 σ t kr8 FU x1 x3 x5 v10 v11))
def fX6_spread_l8 (σ : St) (t : Nat) : Nat → Int32 → Int32 → Int32 → Int32 → Option (Int32)
  | 0 => fun _ _ _ _ => none
  | n + 1 => fX6_spread_B8 σ t (fX6_spread_l8 σ t n)
def fX6_spread (σ : St) (t : Nat) (a1 : Int32) (a2 : Int32) : Option (Int32) :=
  lt a2 (fun v12 => lt (1 : Int32) (fun v13 => lt (0 : Int32) (fun v14 => fX6_spread_l8 σ t FU a1 v12 v13 v14)))
def fX6_teamCanDo_B4 (σ : St) (t : Nat) (kr4 : Int32 → Int32 → Int32 → Option (Int32)) (x1 : Int32) (x2 : Int32) (x3 : Int32) : Option (Int32) :=
  if (σ.1 t 6) ≤ x3 then some x2 else if ((x1 >>> (x3 &&& 31)) &&& (1 : Int32)) = (1 : Int32) then bp (fX6_canDo σ t x3) (fun r2 => lt (x2 + r2) (fun v3 => lt (x3 + 1) (fun v4 => kr4 x1 v3 v4))) else lt (x3 + 1) (fun v1 => kr4 x1 x2 v1)
def fX6_teamCanDo_l4 (σ : St) (t : Nat) : Nat → Int32 → Int32 → Int32 → Option (Int32)
  | 0 => fun _ _ _ => none
  | n + 1 => fX6_teamCanDo_B4 σ t (fX6_teamCanDo_l4 σ t n)
def fX6_teamCanDo (σ : St) (t : Nat) (a1 : Int32) : Option (Int32) :=
  lt (0 : Int32) (fun v5 => lt (0 : Int32) (fun v6 => fX6_teamCanDo_l4 σ t FU a1 v5 v6))
def fX6_worldsOf_B7 (σ : St) (t : Nat) (kr7 : Int32 → Int32 → Int32 → Option (Int32)) (x1 : Int32) (x2 : Int32) (x3 : Int32) : Option (Int32) :=
  if (σ.1 t 4) ≤ x3 then some x2 else if ((x1 >>> (x3 &&& 31)) &&& (1 : Int32)) = (1 : Int32) then gd (ir x3 12) (lt (x2 &&& (σ.1 (t + 2) x3.toNatClampNeg)) (fun v2 => lt (x3 + 1) (fun v3 => kr7 x1 v2 v3))) else lt (x3 + 1) (fun v1 => kr7 x1 x2 v1)
def fX6_worldsOf_l7 (σ : St) (t : Nat) : Nat → Int32 → Int32 → Int32 → Option (Int32)
  | 0 => fun _ _ _ => none
  | n + 1 => fX6_worldsOf_B7 σ t (fX6_worldsOf_l7 σ t n)
def fX6_worldsOf (σ : St) (t : Nat) (a1 : Int32) : Option (Int32) :=
  bp (fX6_allWorlds σ t) (fun r4 => lt r4 (fun v5 => lt (0 : Int32) (fun v6 => fX6_worldsOf_l7 σ t FU a1 v5 v6)))
def fX8_advance_b226 (σ : St) (y1 : Int32) : Option (St) :=
  lt (setI σ 62 10 y1) (fun σ1 => lt (setI σ1 62 8 ((σ1.1 62 8) + (1 : Int32))) (fun σ2 => some σ2))
def fX8_advance_B144 (kr144 : St → Option (St)) (σ : St) : Option (St) :=
  bp (fX8_see σ (σ.1 62 8)) (fun r3 => bp (fX8_in (r3.toInt64) (48 : Int64) (57 : Int64)) (fun r4 => if r4 = 0 then lt (setI σ 62 10 (2 : Int32)) (fun σ5 => some σ5) else bp (fX8_see σ (σ.1 62 8)) (fun r6 => lt (setI σ 62 11 (if ((((10 : Int32) * (σ.1 62 11)) + r6) - (48 : Int32)) < (99999 : Int32) then ((((10 : Int32) * (σ.1 62 11)) + r6) - (48 : Int32)) else (99999 : Int32))) (fun σ7 => lt (setI σ7 62 8 ((σ7.1 62 8) + (1 : Int32))) (fun σ8 => kr144 σ8)))))
def fX8_advance_l144 : Nat → St → Option (St)
  | 0 => fun _ => none
  | n + 1 => fX8_advance_B144 (fX8_advance_l144 n)
def fX8_advance_B83 (kr83 : St → Option (St)) (σ : St) : Option (St) :=
  bp (fX8_see σ (σ.1 62 8)) (fun r9 => bp (fX8_in (r9.toInt64) (97 : Int64) (122 : Int64)) (fun r10 => if r10 = 0 then lt (setI σ 62 10 (1 : Int32)) (fun σ11 => some σ11) else lt (setI σ 62 8 ((σ.1 62 8) + (1 : Int32))) (fun σ12 => kr83 σ12)))
def fX8_advance_l83 : Nat → St → Option (St)
  | 0 => fun _ => none
  | n + 1 => fX8_advance_B83 (fX8_advance_l83 n)
def fX8_advance_b26 (kr0 : St → Option (St)) (σ : St) : Option (St) :=
  lt (setI σ 62 8 ((σ.1 62 8) + (1 : Int32))) (fun σ13 => kr0 σ13)
def fX8_advance_B0 (kr0 : St → Option (St)) (σ : St) : Option (St) :=
  bp (fX8_see σ (σ.1 62 8)) (fun r14 => if r14 = (32 : Int32) then fX8_advance_b26 kr0 σ else bp (fX8_see σ (σ.1 62 8)) (fun r15 => if r15 = (10 : Int32) then fX8_advance_b26 kr0 σ else lt (setI σ 62 9 (σ.1 62 8)) (fun σ16 => bp (fX8_see σ16 (σ16.1 62 8)) (fun r17 => lt r17 (fun v18 => if v18 = (-1 : Int32) then lt (setI σ16 62 10 (0 : Int32)) (fun σ22 => some σ22) else bp (fX8_in (v18.toInt64) (97 : Int64) (122 : Int64)) (fun r19 => if r19 = 0 then bp (fX8_in (v18.toInt64) (48 : Int64) (57 : Int64)) (fun r20 => if r20 = 0 then if v18 = (59 : Int32) then fX8_advance_b226 σ16 (3 : Int32) else fX8_advance_b226 σ16 (4 : Int32) else lt (setI σ16 62 11 (0 : Int32)) (fun σ21 => fX8_advance_l144 FU σ21)) else fX8_advance_l83 FU σ16))))))
def fX8_advance_l0 : Nat → St → Option (St)
  | 0 => fun _ => none
  | n + 1 => fX8_advance_B0 (fX8_advance_l0 n)
def fX8_advance (σ : St) : Option (St) :=
  fX8_advance_l0 FU σ
def fX8_allWorlds (σ : St) : Option (Int32) :=
  bp (fX8_worlds σ) (fun r1 => some (((1 : Int32) <<< (r1 &&& 31)) - (1 : Int32)))
def fX8_areClaims (σ : St) (a1 : Int32) : Option (Int32) :=
  bp (fX8_isTable σ) (fun r1 => if r1 = 0 then gd ((0 : Int32) = 0 ∨ (0 : Int32) = 1) (some (0 : Int32)) else bp (fX8_allClaims σ) (fun r2 => bp (fX8_in (a1.toInt64) (0 : Int64) (r2.toInt64)) (fun r3 => if r3 = 0 then gd ((0 : Int32) = 0 ∨ (0 : Int32) = 1) (some (0 : Int32)) else gd ((1 : Int32) = 0 ∨ (1 : Int32) = 1) (some (1 : Int32)))))
def fX8_areGuests (σ : St) (a1 : Int32) : Option (Int32) :=
  bp (fX8_isTable σ) (fun r1 => if r1 = 0 then gd ((0 : Int32) = 0 ∨ (0 : Int32) = 1) (some (0 : Int32)) else bp (fX8_allGuests σ) (fun r2 => bp (fX8_in (a1.toInt64) (0 : Int64) (r2.toInt64)) (fun r3 => if r3 = 0 then gd ((0 : Int32) = 0 ∨ (0 : Int32) = 1) (some (0 : Int32)) else gd ((1 : Int32) = 0 ∨ (1 : Int32) = 1) (some (1 : Int32)))))
def fX8_atomWorlds_B4 (σ : St) (kr4 : Int32 → Int32 → Int32 → Option (Int32)) (x1 : Int32) (x2 : Int32) (x3 : Int32) : Option (Int32) :=
  gd (ir (0 : Int32) 70) (if ((1 : Int32) <<< ((σ.1 68 (0 : Int32).toNatClampNeg) &&& 31)) ≤ x3 then some x2 else bp (fX8_bit x3 x1) (fun r1 => lt (x2 ||| (r1 <<< (x3 &&& 31))) (fun v2 => lt (x3 + 1) (fun v3 => kr4 x1 v2 v3))))
def fX8_atomWorlds_l4 (σ : St) : Nat → Int32 → Int32 → Int32 → Option (Int32)
  | 0 => fun _ _ _ => none
  | n + 1 => fX8_atomWorlds_B4 σ (fX8_atomWorlds_l4 σ n)
def fX8_atomWorlds (σ : St) (a1 : Int32) : Option (Int32) :=
  lt (0 : Int32) (fun v4 => lt (0 : Int32) (fun v5 => fX8_atomWorlds_l4 σ FU a1 v4 v5))
def fX8_back_B29 (kr29 : St → Int32 → Int32 → Option (Int32 × St)) (σ : St) (x1 : Int32) (x2 : Int32) : Option (Int32 × St) :=
  if (77 : Int32) ≤ x2 then some ((0 : Int32), σ) else gd (ir (((77 : Int32) * x1) + x2) 210) (gd (ir x2 70) (lt (setI σ 63 x2.toNatClampNeg (σ.1 64 (((77 : Int32) * x1) + x2).toNatClampNeg)) (fun σ1 => lt (x2 + 1) (fun v2 => kr29 σ1 x1 v2))))
def fX8_back_l29 : Nat → St → Int32 → Int32 → Option (Int32 × St)
  | 0 => fun _ _ _ => none
  | n + 1 => fX8_back_B29 (fX8_back_l29 n)
def fX8_back (σ : St) (a1 : Int32) : Option (Int32 × St) :=
  bp (fX8_in (a1.toInt64) (0 : Int64) (2 : Int64)) (fun r3 => if r3 = 0 then some ((-2 : Int32), σ) else gd (ir a1 3) (if (σ.1 65 a1.toNatClampNeg) = 0 then some ((-6 : Int32), σ) else lt (0 : Int32) (fun v4 => fX8_back_l29 FU σ a1 v4)))
def fX8_canDo (σ : St) (a1 : Int32) : Option (Int32) :=
  gd (ir (1 : Int32) 70) (bp (fX8_ofGuest σ a1 (0 : Int32)) (fun r1 => gd (¬ r1 = 0) (some ((σ.1 63 (1 : Int32).toNatClampNeg) / r1))))
def fX8_cooks_b179 (σ : St) (x1 : Int32) (x4 : Int32) (y1 : Int32) (y2 : Int32) : Option (Int32 × St) :=
  gd (ir y1 12) (lt (setI σ 73 y1.toNatClampNeg y2) (fun σ1 => gd (ir x4 12) (gd (ir x4 12) (lt (setI σ1 74 x4.toNatClampNeg ((σ1.1 74 x4.toNatClampNeg) ||| ((1 : Int32) <<< (x1 &&& 31)))) (fun σ2 => gd ((1 : Int32) = 0 ∨ (1 : Int32) = 1) (some ((1 : Int32), σ2)))))))
def fX8_cooks_B25 (kr25 : St → Int32 → Int32 → Int32 → Int32 → Option (Int32 × St)) (σ : St) (x1 : Int32) (x2 : Int32) (x3 : Int32) (x4 : Int32) : Option (Int32 × St) :=
  gd (ir (3 : Int32) 70) (if (σ.1 63 (3 : Int32).toNatClampNeg) ≤ x4 then bp (fX8_ofGuest σ x1 (0 : Int32)) (fun r3 => lt (x3 + r3) (fun v4 => gd (ir (1 : Int32) 70) (if v4 ≤ (σ.1 63 (1 : Int32).toNatClampNeg) then gd (ir x1 5) (lt (setI σ 75 x1.toNatClampNeg v4) (fun σ5 => gd (ir x1 5) (bp (fX8_ofGuest σ5 x1 (0 : Int32)) (fun r6 => gd (ir x1 5) (lt (setI σ5 76 x1.toNatClampNeg ((σ5.1 76 x1.toNatClampNeg) + r6)) (fun σ7 => lt (setI σ7 62 28 (if (σ7.1 62 28) < v4 then v4 else (σ7.1 62 28))) (fun σ8 => bp (fX8_ofStep σ8 x2 (0 : Int32)) (fun r9 => lt r9 (fun v10 => gd (ir v10 12) (if (σ8.1 73 v10.toNatClampNeg) = (-1 : Int32) then fX8_cooks_b179 σ8 x1 v10 v10 v4 else gd (ir v10 12) (fX8_cooks_b179 σ8 x1 v10 v10 (if v4 < (σ8.1 73 v10.toNatClampNeg) then v4 else (σ8.1 73 v10.toNatClampNeg))))))))))))) else gd ((0 : Int32) = 0 ∨ (0 : Int32) = 1) (some ((0 : Int32), σ))))) else bp (fX8_ofStep σ x2 (1 : Int32)) (fun r11 => bp (fX8_bit r11 x4) (fun r12 => if r12 = 0 then lt (x4 + 1) (fun v15 => kr25 σ x1 x2 x3 v15) else gd (ir x4 12) (if (σ.1 73 x4.toNatClampNeg) = (-1 : Int32) then gd ((0 : Int32) = 0 ∨ (0 : Int32) = 1) (some ((0 : Int32), σ)) else gd (ir x4 12) (lt (if x3 < (σ.1 73 x4.toNatClampNeg) then (σ.1 73 x4.toNatClampNeg) else x3) (fun v13 => lt (x4 + 1) (fun v14 => kr25 σ x1 x2 v13 v14)))))))
def fX8_cooks_l25 : Nat → St → Int32 → Int32 → Int32 → Int32 → Option (Int32 × St)
  | 0 => fun _ _ _ _ _ => none
  | n + 1 => fX8_cooks_B25 (fX8_cooks_l25 n)
def fX8_cooks (σ : St) (a1 : Int32) (a2 : Int32) : Option (Int32 × St) :=
  bp (fX8_ofGuest σ a1 (1 : Int32)) (fun r16 => bp (fX8_bit r16 a2) (fun r17 => if r17 = 0 then gd ((0 : Int32) = 0 ∨ (0 : Int32) = 1) (some ((0 : Int32), σ)) else gd (ir a1 5) (lt (σ.1 75 a1.toNatClampNeg) (fun v18 => lt (0 : Int32) (fun v19 => fX8_cooks_l25 FU σ a1 a2 v18 v19)))))
def fX8_drops_B34 (kr34 : St → Int32 → Option (Int32 × St)) (σ : St) (x1 : Int32) : Option (Int32 × St) :=
  gd (ir (5 : Int32) 70) (if (σ.1 63 (5 : Int32).toNatClampNeg) ≤ x1 then gd (ir (4 : Int32) 70) (some ((σ.1 63 (4 : Int32).toNatClampNeg), σ)) else gd (ir (((67 : Int32) + ((2 : Int32) * x1)) + (1 : Int32)) 70) (bp (fX8_allSteps σ) (fun r1 => gd (ir (((67 : Int32) + ((2 : Int32) * x1)) + (1 : Int32)) 70) (lt (setI σ 63 (((67 : Int32) + ((2 : Int32) * x1)) + (1 : Int32)).toNatClampNeg ((σ.1 63 (((67 : Int32) + ((2 : Int32) * x1)) + (1 : Int32)).toNatClampNeg) &&& r1)) (fun σ2 => lt (x1 + 1) (fun v3 => kr34 σ2 v3))))))
def fX8_drops_l34 : Nat → St → Int32 → Option (Int32 × St)
  | 0 => fun _ _ => none
  | n + 1 => fX8_drops_B34 (fX8_drops_l34 n)
def fX8_drops (σ : St) : Option (Int32 × St) :=
  bp (fX8_isTable σ) (fun r4 => if r4 = 0 then some ((-2 : Int32), σ) else gd (ir (4 : Int32) 70) (if (σ.1 63 (4 : Int32).toNatClampNeg) = 0 then some ((-5 : Int32), σ) else gd (ir (4 : Int32) 70) (gd (ir (4 : Int32) 70) (lt (setI σ 63 (4 : Int32).toNatClampNeg ((σ.1 63 (4 : Int32).toNatClampNeg) - (1 : Int32))) (fun σ5 => lt (0 : Int32) (fun v6 => fX8_drops_l34 FU σ5 v6))))))
def fX8_eatenBy_B4 (σ : St) (kr4 : Int32 → Int32 → Int32 → Option (Int32)) (x1 : Int32) (x2 : Int32) (x3 : Int32) : Option (Int32) :=
  gd (ir x1 4) (if (σ.1 78 x1.toNatClampNeg) ≤ x3 then some x2 else bp (fX8_numberAt σ x1 x3) (fun r1 => lt (x2 ||| ((1 : Int32) <<< ((r1.toInt32) &&& 31))) (fun v2 => lt (x3 + 1) (fun v3 => kr4 x1 v2 v3))))
def fX8_eatenBy_l4 (σ : St) : Nat → Int32 → Int32 → Int32 → Option (Int32)
  | 0 => fun _ _ _ => none
  | n + 1 => fX8_eatenBy_B4 σ (fX8_eatenBy_l4 σ n)
def fX8_eatenBy (σ : St) (a1 : Int32) : Option (Int32) :=
  lt (0 : Int32) (fun v4 => lt (0 : Int32) (fun v5 => fX8_eatenBy_l4 σ FU a1 v4 v5))
def fX8_end (σ : St) (a1 : Int32) : Option (Int32 × St) :=
  bp (fX8_in (a1.toInt64) (0 : Int64) ((σ.1 62 5).toInt64)) (fun r1 => if r1 = 0 then some ((-1 : Int32), σ) else lt (setI σ 62 5 a1) (fun σ2 => some (a1, σ2)))
def fX8_errs (σ : St) (a1 : Int32) : Option (St) :=
  bp (fX8_good σ) (fun r1 => if r1 = 0 then some σ else lt (setI σ 62 12 a1) (fun σ2 => lt (setI σ2 62 13 (σ2.1 62 9)) (fun σ3 => some σ3)))
def fX8_fillDoubt_b175 (kr62 : St → Int32 → Int32 → Option (St)) (kr85 : St → Int32 → Int32 → Int32 → Int32 → Option (St)) (σ : St) (x2 : Int32) (x4 : Int32) (x5 : Int32) (x6 : Int32) (y1 : Int32) : Option (St) :=
  gd (ir y1 32) (gd ((0 : Int32) = 0 ∨ (0 : Int32) = 1) (lt (setI σ 72 y1.toNatClampNeg (0 : Int32)) (fun σ1 => lt (x6 + 1) (fun v2 => kr85 σ1 x2 x4 x5 v2))))
def fX8_fillDoubt_b153 (kr62 : St → Int32 → Int32 → Option (St)) (kr85 : St → Int32 → Int32 → Int32 → Int32 → Option (St)) (σ : St) (x2 : Int32) (x4 : Int32) (x5 : Int32) (x6 : Int32) (y1 : Int32) : Option (St) :=
  gd (ir y1 32) (gd ((1 : Int32) = 0 ∨ (1 : Int32) = 1) (lt (setI σ 72 y1.toNatClampNeg (1 : Int32)) (fun σ3 => lt (x6 + 1) (fun v4 => kr85 σ3 x2 x4 x5 v4))))
def fX8_fillDoubt_B85 (kr62 : St → Int32 → Int32 → Option (St)) (kr85 : St → Int32 → Int32 → Int32 → Int32 → Option (St)) (σ : St) (x2 : Int32) (x4 : Int32) (x5 : Int32) (x6 : Int32) : Option (St) :=
  if ((1 : Int32) <<< (x4 &&& 31)) ≤ x6 then lt (x4 + (-1)) (fun v5 => kr62 σ x2 v5) else gd (ir (((2 : Int32) <<< (x4 &&& 31)) + x6) 32) (lt (σ.1 72 (((2 : Int32) <<< (x4 &&& 31)) + x6).toNatClampNeg) (fun v6 => gd (ir (((2 : Int32) <<< (x4 &&& 31)) + (x6 ||| ((1 : Int32) <<< (x4 &&& 31)))) 32) (lt (σ.1 72 (((2 : Int32) <<< (x4 &&& 31)) + (x6 ||| ((1 : Int32) <<< (x4 &&& 31)))).toNatClampNeg) (fun v7 => if x5 = 0 then if v6 = 0 then fX8_fillDoubt_b175 kr62 kr85 σ x2 x4 x5 x6 (((1 : Int32) <<< (x4 &&& 31)) + x6) else if v7 = 0 then fX8_fillDoubt_b175 kr62 kr85 σ x2 x4 x5 x6 (((1 : Int32) <<< (x4 &&& 31)) + x6) else gd (ir (((1 : Int32) <<< (x4 &&& 31)) + x6) 32) (gd ((1 : Int32) = 0 ∨ (1 : Int32) = 1) (lt (setI σ 72 (((1 : Int32) <<< (x4 &&& 31)) + x6).toNatClampNeg (1 : Int32)) (fun σ8 => lt (x6 + 1) (fun v9 => kr85 σ8 x2 x4 x5 v9)))) else if v6 = 0 then if v7 = 0 then gd (ir (((1 : Int32) <<< (x4 &&& 31)) + x6) 32) (gd ((0 : Int32) = 0 ∨ (0 : Int32) = 1) (lt (setI σ 72 (((1 : Int32) <<< (x4 &&& 31)) + x6).toNatClampNeg (0 : Int32)) (fun σ10 => lt (x6 + 1) (fun v11 => kr85 σ10 x2 x4 x5 v11)))) else fX8_fillDoubt_b153 kr62 kr85 σ x2 x4 x5 x6 (((1 : Int32) <<< (x4 &&& 31)) + x6) else fX8_fillDoubt_b153 kr62 kr85 σ x2 x4 x5 x6 (((1 : Int32) <<< (x4 &&& 31)) + x6)))))
def fX8_fillDoubt_l85 (kr62 : St → Int32 → Int32 → Option (St)) : Nat → St → Int32 → Int32 → Int32 → Int32 → Option (St)
  | 0 => fun _ _ _ _ _ => none
  | n + 1 => fX8_fillDoubt_B85 kr62 (fX8_fillDoubt_l85 kr62 n)
def fX8_fillDoubt_b80 (kr62 : St → Int32 → Int32 → Option (St)) (σ : St) (x2 : Int32) (x4 : Int32) (y0 : Int32) : Option (St) :=
  lt y0 (fun v12 => lt (0 : Int32) (fun v13 => fX8_fillDoubt_l85 kr62 FU σ x2 x4 v12 v13))
def fX8_fillDoubt_B62 (kr62 : St → Int32 → Int32 → Option (St)) (σ : St) (x2 : Int32) (x4 : Int32) : Option (St) :=
  if x4 < 0 then some σ else gd (¬ (2 : Int32) = 0) (if (x4 - x4 / (2 : Int32) * (2 : Int32)) = x2 then fX8_fillDoubt_b80 kr62 σ x2 x4 (1 : Int32) else fX8_fillDoubt_b80 kr62 σ x2 x4 (0 : Int32))
def fX8_fillDoubt_l62 : Nat → St → Int32 → Int32 → Option (St)
  | 0 => fun _ _ _ => none
  | n + 1 => fX8_fillDoubt_B62 (fX8_fillDoubt_l62 n)
def fX8_fillDoubt_B10 (kr10 : St → Int32 → Int32 → Int32 → Int32 → Option (St)) (σ : St) (x1 : Int32) (x2 : Int32) (x3 : Int32) (x4 : Int32) : Option (St) :=
  bp (fX8_worlds σ) (fun r14 => if r14 ≤ x4 then lt (x3 - (1 : Int32)) (fun v15 => fX8_fillDoubt_l62 FU σ x2 v15) else bp (fX8_worlds σ) (fun r16 => bp (fX8_ofClaim σ x1 (2 : Int32)) (fun r17 => bp (fX8_bit r17 x4) (fun r18 => if r18 = (1 : Int32) then gd (ir (r16 + x4) 32) (gd ((1 : Int32) = 0 ∨ (1 : Int32) = 1) (lt (setI σ 72 (r16 + x4).toNatClampNeg (1 : Int32)) (fun σ21 => lt (x4 + 1) (fun v22 => kr10 σ21 x1 x2 x3 v22)))) else gd (ir (r16 + x4) 32) (gd ((0 : Int32) = 0 ∨ (0 : Int32) = 1) (lt (setI σ 72 (r16 + x4).toNatClampNeg (0 : Int32)) (fun σ19 => lt (x4 + 1) (fun v20 => kr10 σ19 x1 x2 x3 v20))))))))
def fX8_fillDoubt_l10 : Nat → St → Int32 → Int32 → Int32 → Int32 → Option (St)
  | 0 => fun _ _ _ _ _ => none
  | n + 1 => fX8_fillDoubt_B10 (fX8_fillDoubt_l10 n)
def fX8_fillDoubt (σ : St) (a1 : Int32) (a2 : Int32) : Option (St) :=
  gd (ir (0 : Int32) 70) (lt (σ.1 63 (0 : Int32).toNatClampNeg) (fun v23 => lt (0 : Int32) (fun v24 => fX8_fillDoubt_l10 FU σ a1 a2 v23 v24)))
def fX8_goes (σ : St) (a1 : Int32) (a2 : Int32) : Option (Int32) :=
  bp (fX8_ofStep σ a1 (1 : Int32)) (fun r1 => if (r1 &&& (a2 ^^^ (-1 : Int32))) = 0 then bp (fX8_ofStep σ a1 (0 : Int32)) (fun r2 => bp (fX8_bit a2 r2) (fun r3 => if r3 = 0 then gd ((1 : Int32) = 0 ∨ (1 : Int32) = 1) (some (1 : Int32)) else gd ((0 : Int32) = 0 ∨ (0 : Int32) = 1) (some (0 : Int32)))) else gd ((0 : Int32) = 0 ∨ (0 : Int32) = 1) (some (0 : Int32)))
def fX8_image_B17 (kr17 : St → Int32 → Int32 → Option (Int32 × St)) (σ : St) (x1 : Int32) (x2 : Int32) : Option (Int32 × St) :=
  if (77 : Int32) ≤ x2 then gd (ir x1 3) (gd ((1 : Int32) = 0 ∨ (1 : Int32) = 1) (lt (setI σ 65 x1.toNatClampNeg (1 : Int32)) (fun σ1 => some ((0 : Int32), σ1)))) else gd (ir x2 70) (gd (ir (((77 : Int32) * x1) + x2) 210) (lt (setI σ 64 (((77 : Int32) * x1) + x2).toNatClampNeg (σ.1 63 x2.toNatClampNeg)) (fun σ2 => lt (x2 + 1) (fun v3 => kr17 σ2 x1 v3))))
def fX8_image_l17 : Nat → St → Int32 → Int32 → Option (Int32 × St)
  | 0 => fun _ _ _ => none
  | n + 1 => fX8_image_B17 (fX8_image_l17 n)
def fX8_image (σ : St) (a1 : Int32) : Option (Int32 × St) :=
  bp (fX8_in (a1.toInt64) (0 : Int64) (2 : Int64)) (fun r4 => if r4 = 0 then some ((-2 : Int32), σ) else lt (0 : Int32) (fun v5 => fX8_image_l17 FU σ a1 v5))
def fX8_isClaim (σ : St) (a1 : Int64) : Option (Int32) :=
  gd (ir (3 : Int32) 70) (bp (fX8_in a1 (0 : Int64) (((σ.1 63 (3 : Int32).toNatClampNeg) - (1 : Int32)).toInt64)) (fun r1 => gd (r1 = 0 ∨ r1 = 1) (some r1)))
def fX8_isGuest (σ : St) (a1 : Int64) : Option (Int32) :=
  gd (ir (5 : Int32) 70) (bp (fX8_in a1 (0 : Int64) (((σ.1 63 (5 : Int32).toNatClampNeg) - (1 : Int32)).toInt64)) (fun r1 => gd (r1 = 0 ∨ r1 = 1) (some r1)))
def fX8_isNextIn (σ : St) (a1 : Int32) : Option (Int32) :=
  bp (fX8_good σ) (fun r1 => if r1 = 0 then gd ((0 : Int32) = 0 ∨ (0 : Int32) = 1) (some (0 : Int32)) else if (σ.1 62 10) = (2 : Int32) then if a1 ≤ (σ.1 62 11) then gd ((0 : Int32) = 0 ∨ (0 : Int32) = 1) (some (0 : Int32)) else gd ((1 : Int32) = 0 ∨ (1 : Int32) = 1) (some (1 : Int32)) else gd ((0 : Int32) = 0 ∨ (0 : Int32) = 1) (some (0 : Int32)))
def fX8_isSeed (a0 : Int32) : Option (Int32) :=
  bp (fX8_in (a0.toInt64) (0 : Int64) (2000000000 : Int64)) (fun r1 => gd (r1 = 0 ∨ r1 = 1) (some r1))
def fX8_isSlot (a0 : Int32) : Option (Int32) :=
  bp (fX8_in (a0.toInt64) (0 : Int64) (3 : Int64)) (fun r1 => gd (r1 = 0 ∨ r1 = 1) (some r1))
def fX8_isStep (σ : St) (a1 : Int64) : Option (Int32) :=
  gd (ir (4 : Int32) 70) (bp (fX8_in a1 (0 : Int64) (((σ.1 63 (4 : Int32).toNatClampNeg) - (1 : Int32)).toInt64)) (fun r1 => gd (r1 = 0 ∨ r1 = 1) (some r1)))
def fX8_joined (σ : St) (a1 : Int32) (a2 : Int32) (a3 : Int32) : Option (Int32) :=
  if a1 = 0 then some (a2 &&& a3) else if a1 = (1 : Int32) then some (a2 ||| a3) else bp (fX8_freshAll σ) (fun r1 => some (((a2 ^^^ (-1 : Int32)) &&& r1) ||| a3))
def fX8_lowest_B8 (kr8 : Int32 → Int32 → Option (Int32)) (x0 : Int32) (x1 : Int32) : Option (Int32) :=
  bp (fX8_bit x0 x1) (fun r1 => if r1 = 0 then lt (x1 + 1) (fun v2 => kr8 x0 v2) else some x1)
def fX8_lowest_l8 : Nat → Int32 → Int32 → Option (Int32)
  | 0 => fun _ _ => none
  | n + 1 => fX8_lowest_B8 (fX8_lowest_l8 n)
def fX8_lowest (a0 : Int32) : Option (Int32) :=
  if a0 = 0 then some (-1 : Int32) else lt (0 : Int32) (fun v3 => fX8_lowest_l8 FU a0 v3)
def fX8_part_b9 (x0 : Int32) (x1 : Int32) (y0 : Int32) : Option (Int32) :=
  bp (fX8_divisor x0 x1) (fun r1 => gd (¬ r1 = 0) (some (y0 / r1)))
def fX8_part (a0 : Int32) (a1 : Int32) (a2 : Int32) : Option (Int32) :=
  if a2 = 0 then fX8_part_b9 a0 a1 a0 else fX8_part_b9 a0 a1 a1
def fX8_saltNow_B4 (σ : St) (kr4 : Int32 → Int32 → Option (Int32)) (x1 : Int32) (x2 : Int32) : Option (Int32) :=
  gd (ir (3 : Int32) 70) (if (σ.1 63 (3 : Int32).toNatClampNeg) ≤ x2 then some x1 else bp (fX8_ofClaim σ x2 (1 : Int32)) (fun r1 => lt (x1 ||| (r1 <<< (x2 &&& 31))) (fun v2 => lt (x2 + 1) (fun v3 => kr4 v2 v3))))
def fX8_saltNow_l4 (σ : St) : Nat → Int32 → Int32 → Option (Int32)
  | 0 => fun _ _ => none
  | n + 1 => fX8_saltNow_B4 σ (fX8_saltNow_l4 σ n)
def fX8_saltNow (σ : St) : Option (Int32) :=
  lt (0 : Int32) (fun v4 => lt (0 : Int32) (fun v5 => fX8_saltNow_l4 σ FU v4 v5))
def fX8_unlike_b77 (σ : St) (kr14 : Int32 → Int32 → Option (Int32)) (x2 : Int32) (y0 : Int32) (y1 : Int32) : Option (Int32) :=
  lt (y0 + y1) (fun v1 => lt (x2 + 1) (fun v2 => kr14 v1 v2))
def fX8_unlike_b55 (σ : St) (kr14 : Int32 → Int32 → Option (Int32)) (kr29 : Int32 → Int32 → Int32 → Int32 → Option (Int32)) (x1 : Int32) (x2 : Int32) (x4 : Int32) : Option (Int32) :=
  lt (1 : Int32) (fun v3 => lt (x4 + 1) (fun v4 => kr29 x1 x2 v3 v4))
def fX8_unlike_B29 (σ : St) (kr14 : Int32 → Int32 → Option (Int32)) (kr29 : Int32 → Int32 → Int32 → Int32 → Option (Int32)) (x1 : Int32) (x2 : Int32) (x3 : Int32) (x4 : Int32) : Option (Int32) :=
  if x2 ≤ x4 then if x3 = 0 then fX8_unlike_b77 σ kr14 x2 x1 (1 : Int32) else fX8_unlike_b77 σ kr14 x2 x1 (0 : Int32) else if x3 = 0 then bp (fX8_ofClaim σ x4 (2 : Int32)) (fun r5 => bp (fX8_ofClaim σ x2 (2 : Int32)) (fun r6 => if r5 = r6 then fX8_unlike_b55 σ kr14 kr29 x1 x2 x4 else lt (0 : Int32) (fun v7 => lt (x4 + 1) (fun v8 => kr29 x1 x2 v7 v8)))) else fX8_unlike_b55 σ kr14 kr29 x1 x2 x4
def fX8_unlike_l29 (σ : St) (kr14 : Int32 → Int32 → Option (Int32)) : Nat → Int32 → Int32 → Int32 → Int32 → Option (Int32)
  | 0 => fun _ _ _ _ => none
  | n + 1 => fX8_unlike_B29 σ kr14 (fX8_unlike_l29 σ kr14 n)
def fX8_unlike_B14 (σ : St) (kr14 : Int32 → Int32 → Option (Int32)) (x1 : Int32) (x2 : Int32) : Option (Int32) :=
  gd (ir (3 : Int32) 70) (if (σ.1 63 (3 : Int32).toNatClampNeg) ≤ x2 then some x1 else lt (0 : Int32) (fun v9 => lt (0 : Int32) (fun v10 => fX8_unlike_l29 σ kr14 FU x1 x2 v9 v10)))
def fX8_unlike_l14 (σ : St) : Nat → Int32 → Int32 → Option (Int32)
  | 0 => fun _ _ => none
  | n + 1 => fX8_unlike_B14 σ (fX8_unlike_l14 σ n)
def fX8_unlike (σ : St) : Option (Int32) :=
  bp (fX8_isTable σ) (fun r11 => if r11 = 0 then some (-2 : Int32) else lt (0 : Int32) (fun v12 => lt (0 : Int32) (fun v13 => fX8_unlike_l14 σ FU v12 v13)))
def fX8_worthsOf_b34 (σ : St) (kr4 : Int32 → Int32 → Int32 → Option (Int32)) (x1 : Int32) (x3 : Int32) (y0 : Int32) (y1 : Int32) : Option (Int32) :=
  lt (y0 + y1) (fun v1 => lt (x3 + 1) (fun v2 => kr4 x1 v1 v2))
def fX8_worthsOf_B4 (σ : St) (kr4 : Int32 → Int32 → Int32 → Option (Int32)) (x1 : Int32) (x2 : Int32) (x3 : Int32) : Option (Int32) :=
  gd (ir (3 : Int32) 70) (if (σ.1 63 (3 : Int32).toNatClampNeg) ≤ x3 then some x2 else bp (fX8_bit x1 x3) (fun r3 => if r3 = (1 : Int32) then bp (fX8_ofClaim σ x3 (0 : Int32)) (fun r4 => fX8_worthsOf_b34 σ kr4 x1 x3 x2 r4) else fX8_worthsOf_b34 σ kr4 x1 x3 x2 (0 : Int32)))
def fX8_worthsOf_l4 (σ : St) : Nat → Int32 → Int32 → Int32 → Option (Int32)
  | 0 => fun _ _ _ => none
  | n + 1 => fX8_worthsOf_B4 σ (fX8_worthsOf_l4 σ n)
def fX8_worthsOf (σ : St) (a1 : Int32) : Option (Int32) :=
  lt (0 : Int32) (fun v5 => lt (0 : Int32) (fun v6 => fX8_worthsOf_l4 σ FU a1 v5 v6))
def fX7_adds (σ : St) (a1 : Int32) (a2 : Int32) : Option (Int32 × St) :=
  bp (fJ6_bitCount_0f7a4 a2) (fun r1 => lt r1 (fun v2 => bp (fX6_hasClaim σ 3 a1) (fun r3 => if r3 = 0 then some ((-2 : Int32), σ) else bp (fX6_isClaimSet σ 3 a2) (fun r4 => if r4 = 0 then some ((-2 : Int32), σ) else if v2 < (1 : Int32) then some ((-2 : Int32), σ) else if v2 ≤ (3 : Int32) then if (σ.1 3 5) < (12 : Int32) then bp (fX6_addStep σ 3 a1 a2) (fun σ5 => gd ((1 : Int32) = 0 ∨ (1 : Int32) = 1) (lt (setI σ5 0 7 (1 : Int32)) (fun σ6 => some (((σ6.1 3 5) - (1 : Int32)), σ6)))) else some ((-3 : Int32), σ) else some ((-2 : Int32), σ)))))
def fX7_back (σ : St) (a1 : Int32) : Option (Int32 × St) :=
  if a1 < 0 then some ((-2 : Int32), σ) else if a1 < (3 : Int32) then gd (ir a1 3) (if (σ.1 39 a1.toNatClampNeg) = 0 then some ((-6 : Int32), σ) else gd (ir a1 3) (lt (imgp a1.toNatClampNeg) (fun k1 => bp (fX6_copyFrom σ 3 k1) (fun σ2 => gd ((1 : Int32) = 0 ∨ (1 : Int32) = 1) (lt (setI σ2 0 7 (1 : Int32)) (fun σ3 => some ((0 : Int32), σ3))))))) else some ((-2 : Int32), σ)
def fX7_counter (σ : St) (a1 : Int32) : Option (Int32) :=
  bp (fX6_hasClaim σ 3 a1) (fun r1 => if r1 = 0 then some (-2 : Int32) else bp (fX6_worldsOf σ 3 (σ.1 3 7)) (fun r2 => gd (ir a1 12) (bp (fX7_lowestBit (r2 &&& ((σ.1 (3 + 2) a1.toNatClampNeg) ^^^ (-1 : Int32)))) (fun r3 => some r3))))
def fX7_image (σ : St) (a1 : Int32) : Option (Int32 × St) :=
  if a1 < 0 then some ((-2 : Int32), σ) else if a1 < (3 : Int32) then gd (ir a1 3) (lt (imgp a1.toNatClampNeg) (fun k1 => bp (fX6_copyFrom σ k1 3) (fun σ2 => gd (ir a1 3) (gd ((1 : Int32) = 0 ∨ (1 : Int32) = 1) (lt (setI σ2 39 a1.toNatClampNeg (1 : Int32)) (fun σ3 => some ((0 : Int32), σ3))))))) else some ((-2 : Int32), σ)
def fX7_likely (σ : St) (a1 : Int32) (a2 : Int32) : Option (Int32) :=
  bp (fX6_hasClaim σ 3 a1) (fun r1 => if r1 = 0 then some (-2 : Int32) else bp (fX7_isBit a2) (fun r2 => if r2 = 0 then some (-2 : Int32) else bp (fX6_worldsOf σ 3 (σ.1 3 7)) (fun r3 => lt r3 (fun v4 => gd (ir a1 12) (bp (fJ6_bitCount_0f7a4 (v4 &&& (σ.1 (3 + 2) a1.toNatClampNeg))) (fun r5 => lt r5 (fun v6 => bp (fJ6_bitCount_0f7a4 v4) (fun r7 => bp (fX7_partOfFraction v6 r7 a2) (fun r8 => some r8)))))))))
def fX7_refusalOfDishes (σ : St) (a1 : Int32) : Option (Int32) :=
  bp (fX7_refusalOfSlot σ a1) (fun r1 => lt r1 (fun v2 => if v2 = 0 then gd (ir a1 4) (lt (rowp a1.toNatClampNeg) (fun k3 => bp (fX4_areAllBelow σ k3 (σ.1 3 4)) (fun r4 => if r4 = 0 then some (-2 : Int32) else gd (ir a1 4) (lt (rowp a1.toNatClampNeg) (fun k5 => bp (fX4_asSet σ k5) (fun r6 => if (r6 &&& (σ.1 3 7)) = 0 then some (0 : Int32) else some (-2 : Int32))))))) else some v2))
def fX7_refusalOfPairs (σ : St) (a1 : Int32) : Option (Int32) :=
  bp (fX7_refusalOfSlot σ a1) (fun r1 => lt r1 (fun v2 => if v2 = 0 then gd (ir a1 4) (lt (rowp a1.toNatClampNeg) (fun k3 => bp (fX4_arePairsBelow σ k3 (σ.1 3 6) (σ.1 3 5)) (fun r4 => if r4 = 0 then some (-2 : Int32) else some (0 : Int32)))) else some v2))
def fX7_refusalOfSteps (σ : St) (a1 : Int32) : Option (Int32) :=
  bp (fX7_refusalOfSlot σ a1) (fun r1 => lt r1 (fun v2 => if v2 = 0 then gd (ir a1 4) (lt (rowp a1.toNatClampNeg) (fun k3 => bp (fX4_areAllBelow σ k3 (σ.1 3 5)) (fun r4 => if r4 = 0 then some (-2 : Int32) else some (0 : Int32)))) else some v2))
def fX7_salted (σ : St) : Option (Int32) :=
  bp (fX6_isTold σ 3) (fun r1 => if r1 = 0 then some (-2 : Int32) else bp (fX6_worldsOf σ 3 (σ.1 3 7)) (fun r2 => some r2))
def fX7_same_b160 (σ : St) (y0 : Int32) : Option (Int32 × St) :=
  bp (fX7_bit y0) (fun r1 => some (r1, σ))
def fX7_same (σ : St) (a1 : Int32) (a2 : Int32) (a3 : Int32) : Option (Int32 × St) :=
  bp (fX6_hasClaim σ 3 a3) (fun r2 => if r2 = 0 then some ((-2 : Int32), σ) else bp (fX7_isSlot a1) (fun r3 => if r3 = 0 then some ((-2 : Int32), σ) else bp (fX7_isSlot a2) (fun r4 => if r4 = 0 then some ((-2 : Int32), σ) else gd (ir a1 4) (lt (rowp a1.toNatClampNeg) (fun k5 => if (σ.1 k5 0) = 0 then some ((-6 : Int32), σ) else gd (ir a2 4) (lt (rowp a2.toNatClampNeg) (fun k6 => if (σ.1 k6 0) = 0 then some ((-6 : Int32), σ) else gd (ir a1 4) (lt (rowp a1.toNatClampNeg) (fun k7 => bp (fX4_areAllBelow σ k7 (σ.1 3 5)) (fun r8 => if r8 = 0 then some ((-2 : Int32), σ) else gd (ir a2 4) (lt (rowp a2.toNatClampNeg) (fun k9 => bp (fX4_areAllBelow σ k9 (σ.1 3 5)) (fun r10 => if r10 = 0 then some ((-2 : Int32), σ) else gd (ir a1 4) (lt (rowp a1.toNatClampNeg) (fun k11 => bp (fX3_read σ 3 k11) (fun σ12 => gd (ir a3 12) (lt (σ12.1 54 a3.toNatClampNeg) (fun v13 => gd (ir a2 4) (lt (rowp a2.toNatClampNeg) (fun k14 => bp (fX3_read σ12 3 k14) (fun σ15 => gd (ir a3 12) (if v13 = (σ15.1 54 a3.toNatClampNeg) then fX7_same_b160 σ15 (1 : Int32) else fX7_same_b160 σ15 (0 : Int32)))))))))))))))))))))))
def fX7_strength (σ : St) (a1 : Int32) : Option (Int32) :=
  bp (fX6_isGuestSet σ 3 a1) (fun r1 => if r1 = 0 then some (-2 : Int32) else bp (fX6_teamCanDo σ 3 a1) (fun r2 => some r2))
def fX1_cookPair (σ : St) (t : Nat) (a2 : Int32) (a3 : Int32) : Option (Int32 × St) :=
  gd (ir a3 12) (bp (fX1_hourOfAll σ t (σ.1 (t + 4) a3.toNatClampNeg)) (fun r1 => lt r1 (fun v2 => if v2 = (-1 : Int32) then gd ((0 : Int32) = 0 ∨ (0 : Int32) = 1) (some ((0 : Int32), σ)) else gd (ir a2 5) (if (((σ.1 (t + 6) a2.toNatClampNeg) >>> (a3 &&& 31)) &&& (1 : Int32)) = 0 then gd ((0 : Int32) = 0 ∨ (0 : Int32) = 1) (some ((0 : Int32), σ)) else gd (ir a2 5) (gd (ir a2 5) (lt ((if v2 < (σ.1 58 a2.toNatClampNeg) then (σ.1 58 a2.toNatClampNeg) else v2) + (σ.1 (t + 5) a2.toNatClampNeg)) (fun v3 => if v3 ≤ (σ.1 t 2) then gd (ir a3 12) (bp (fX1_give σ (σ.1 (t + 3) a3.toNatClampNeg) a2 v3) (fun σ4 => gd (ir a2 5) (lt (setI σ4 58 a2.toNatClampNeg v3) (fun σ5 => gd (ir a2 5) (gd (ir a2 5) (gd (ir a2 5) (lt (setI σ5 59 a2.toNatClampNeg ((σ5.1 59 a2.toNatClampNeg) + (σ5.1 (t + 5) a2.toNatClampNeg))) (fun σ6 => lt (setI σ6 55 1 (if (σ6.1 55 1) < v3 then v3 else (σ6.1 55 1))) (fun σ7 => lt (setI σ7 55 0 ((σ7.1 55 0) + (1 : Int32))) (fun σ8 => gd ((1 : Int32) = 0 ∨ (1 : Int32) = 1) (some ((1 : Int32), σ8)))))))))))) else gd ((0 : Int32) = 0 ∨ (0 : Int32) = 1) (some ((0 : Int32), σ)))))))))
def fX2_readNumber_b31 (σ : St) : Option (Int32 × St) :=
  bs (fX2_fail σ (2 : Int32)) (fun r1 σ2 => some ((-1 : Int32), σ2))
def fX2_readNumber (σ : St) (a1 : Int32) (a2 : Int32) : Option (Int32 × St) :=
  if (σ.1 1 4) = (2 : Int32) then lt (σ.1 1 7) (fun v3 => if v3 < a1 then fX2_readNumber_b31 σ else if v3 ≤ a2 then bp (fX2_advance σ) (fun σ4 => some (v3, σ4)) else fX2_readNumber_b31 σ) else bs (fX2_fail σ (1 : Int32)) (fun r5 σ6 => some ((-1 : Int32), σ6))
def fX2_readSign (σ : St) : Option (Int32 × St) :=
  if (σ.1 1 4) = (3 : Int32) then bp (fX2_advance σ) (fun σ1 => gd ((1 : Int32) = 0 ∨ (1 : Int32) = 1) (some ((1 : Int32), σ1))) else bs (fX2_fail σ (1 : Int32)) (fun r2 σ3 => gd (r2 = 0 ∨ r2 = 1) (some (r2, σ3)))
def fX5_countLeast_b45 (σ : St) (h : Nat) (kr8 : Int32 → Int32 → Int32 → Int32 → Int32 → Option (Int32)) (x1 : Int32) (x2 : Int32) (x3 : Int32) (x4 : Int32) (x5 : Int32) : Option (Int32) :=
  bp (fX5_subsetBehind x4 x1) (fun r1 => lt r1 (fun v2 => lt (x5 + 1) (fun v3 => kr8 x1 x2 x3 v2 v3)))
def fX5_countLeast_B8 (σ : St) (h : Nat) (kr8 : Int32 → Int32 → Int32 → Int32 → Int32 → Option (Int32)) (x1 : Int32) (x2 : Int32) (x3 : Int32) (x4 : Int32) (x5 : Int32) : Option (Int32) :=
  bp (fX5_subsetsOf x1) (fun r4 => if r4 ≤ x5 then some x3 else gd (ir x4 4096) (if (((σ.1 (h + 1) x4.toNatClampNeg) >>> (x2 &&& 31)) &&& (1 : Int32)) = (1 : Int32) then bp (fX5_isLeast σ h x4 x2) (fun r5 => if r5 = 0 then fX5_countLeast_b45 σ h kr8 x1 x2 x3 x4 x5 else lt (x3 + 1) (fun v6 => fX5_countLeast_b45 σ h kr8 x1 x2 v6 x4 x5)) else fX5_countLeast_b45 σ h kr8 x1 x2 x3 x4 x5))
def fX5_countLeast_l8 (σ : St) (h : Nat) : Nat → Int32 → Int32 → Int32 → Int32 → Int32 → Option (Int32)
  | 0 => fun _ _ _ _ _ => none
  | n + 1 => fX5_countLeast_B8 σ h (fX5_countLeast_l8 σ h n)
def fX5_countLeast (σ : St) (h : Nat) (a1 : Int32) (a2 : Int32) : Option (Int32) :=
  lt (0 : Int32) (fun v7 => lt (0 : Int32) (fun v8 => lt (0 : Int32) (fun v9 => fX5_countLeast_l8 σ h FU a1 a2 v7 v8 v9)))
def fX5_fillWithProofs_B13 (h : Nat) (t : Nat) (kr13 : St → Int32 → Int32 → Int32 → Option (St)) (σ : St) (x2 : Int32) (x4 : Int32) (x5 : Int32) : Option (St) :=
  bp (fX5_subsetsOf x2) (fun r1 => if r1 ≤ x5 then some σ else bp (fX5_subsetBehind x4 x2) (fun r2 => lt r2 (fun v3 => bp (fX5_withoutLowest v3) (fun r4 => gd (ir r4 4096) (lt (σ.1 (h + 1) r4.toNatClampNeg) (fun v5 => bp (fX7_lowestBit v3) (fun r6 => bp (fX6_goes σ t r6 v5) (fun r7 => if r7 = 0 then gd (ir v3 4096) (lt (setI σ (h + 1) v3.toNatClampNeg v5) (fun σ8 => lt (x5 + 1) (fun v9 => kr13 σ8 x2 v3 v9))) else bp (fX6_spread σ t v3 v5) (fun r10 => gd (ir v3 4096) (lt (setI σ (h + 1) v3.toNatClampNeg r10) (fun σ11 => lt (x5 + 1) (fun v12 => kr13 σ11 x2 v3 v12))))))))))))
def fX5_fillWithProofs_l13 (h : Nat) (t : Nat) : Nat → St → Int32 → Int32 → Int32 → Option (St)
  | 0 => fun _ _ _ _ => none
  | n + 1 => fX5_fillWithProofs_B13 h t (fX5_fillWithProofs_l13 h t n)
def fX5_fillWithProofs (σ : St) (h : Nat) (t : Nat) (a2 : Int32) (a3 : Int32) : Option (St) :=
  gd (ir (0 : Int32) 4096) (lt (setI σ (h + 1) (0 : Int32).toNatClampNeg a3) (fun σ13 => lt (0 : Int32) (fun v14 => lt (1 : Int32) (fun v15 => fX5_fillWithProofs_l13 h t FU σ13 a2 v14 v15))))
def fX5_fillWithRuledOut_B11 (h : Nat) (t : Nat) (kr11 : St → Int32 → Int32 → Option (St)) (σ : St) (x2 : Int32) (x3 : Int32) : Option (St) :=
  bp (fX5_subsetsOf (σ.1 t 7)) (fun r1 => if r1 ≤ x3 then some σ else bp (fX5_subsetBehind x2 (σ.1 t 7)) (fun r2 => lt r2 (fun v3 => bp (fX5_withoutLowest v3) (fun r4 => gd (ir r4 4096) (bp (fX6_allWorlds σ t) (fun r5 => bp (fX7_lowestBit v3) (fun r6 => gd (ir r6 12) (gd (ir v3 4096) (lt (setI σ (h + 1) v3.toNatClampNeg ((σ.1 (h + 1) r4.toNatClampNeg) ||| (r5 &&& ((σ.1 (t + 2) r6.toNatClampNeg) ^^^ (-1 : Int32))))) (fun σ7 => lt (x3 + 1) (fun v8 => kr11 σ7 v3 v8)))))))))))
def fX5_fillWithRuledOut_l11 (h : Nat) (t : Nat) : Nat → St → Int32 → Int32 → Option (St)
  | 0 => fun _ _ _ => none
  | n + 1 => fX5_fillWithRuledOut_B11 h t (fX5_fillWithRuledOut_l11 h t n)
def fX5_fillWithRuledOut (σ : St) (h : Nat) (t : Nat) : Option (St) :=
  gd (ir (0 : Int32) 4096) (lt (setI σ (h + 1) (0 : Int32).toNatClampNeg (0 : Int32)) (fun σ9 => lt (0 : Int32) (fun v10 => lt (1 : Int32) (fun v11 => fX5_fillWithRuledOut_l11 h t FU σ9 v10 v11))))
def fX5_fillWithSaltProofs_B19 (h : Nat) (t : Nat) (kr19 : St → Int32 → Int32 → Option (St)) (σ : St) (x2 : Int32) (x3 : Int32) : Option (St) :=
  bp (fX5_subsetsOf (σ.1 t 7)) (fun r1 => if r1 ≤ x3 then some σ else bp (fX5_subsetBehind x2 (σ.1 t 7)) (fun r2 => lt r2 (fun v3 => bp (fX6_allSteps σ t) (fun r4 => bp (fX5_withoutLowest v3) (fun r5 => gd (ir r5 4096) (bp (fX6_spread σ t r4 ((σ.1 (h + 1) r5.toNatClampNeg) ||| v3)) (fun r6 => gd (ir v3 4096) (lt (setI σ (h + 1) v3.toNatClampNeg r6) (fun σ7 => lt (x3 + 1) (fun v8 => kr19 σ7 v3 v8))))))))))
def fX5_fillWithSaltProofs_l19 (h : Nat) (t : Nat) : Nat → St → Int32 → Int32 → Option (St)
  | 0 => fun _ _ _ => none
  | n + 1 => fX5_fillWithSaltProofs_B19 h t (fX5_fillWithSaltProofs_l19 h t n)
def fX5_fillWithSaltProofs (σ : St) (h : Nat) (t : Nat) : Option (St) :=
  bp (fX6_allSteps σ t) (fun r9 => bp (fX6_spread σ t r9 (0 : Int32)) (fun r10 => gd (ir (0 : Int32) 4096) (lt (setI σ (h + 1) (0 : Int32).toNatClampNeg r10) (fun σ11 => lt (0 : Int32) (fun v12 => lt (1 : Int32) (fun v13 => fX5_fillWithSaltProofs_l19 h t FU σ11 v12 v13))))))
def fX5_leastSet_b73 (σ : St) (h : Nat) (kr23 : Int32 → Int32 → Int32 → Int32 → Int32 → Option (Int32)) (x1 : Int32) (x2 : Int32) (x3 : Int32) (x4 : Int32) (x5 : Int32) : Option (Int32) :=
  bp (fX5_subsetBehind x4 x1) (fun r1 => lt r1 (fun v2 => lt (x5 + 1) (fun v3 => kr23 x1 x2 x3 v2 v3)))
def fX5_leastSet_b51 (σ : St) (h : Nat) (kr23 : Int32 → Int32 → Int32 → Int32 → Int32 → Option (Int32)) (x1 : Int32) (x2 : Int32) (x3 : Int32) (x4 : Int32) (x5 : Int32) (y0 : Int32) : Option (Int32) :=
  lt y0 (fun v4 => if v4 = 0 then fX5_leastSet_b73 σ h kr23 x1 x2 x3 x4 x5 else bp (fJ6_bitCount_0f7a4 x4) (fun r5 => bp (fJ6_bitCount_0f7a4 x3) (fun r6 => if r6 ≤ r5 then fX5_leastSet_b73 σ h kr23 x1 x2 x3 x4 x5 else lt x4 (fun v7 => fX5_leastSet_b73 σ h kr23 x1 x2 v7 x4 x5))))
def fX5_leastSet_B23 (σ : St) (h : Nat) (kr23 : Int32 → Int32 → Int32 → Int32 → Int32 → Option (Int32)) (x1 : Int32) (x2 : Int32) (x3 : Int32) (x4 : Int32) (x5 : Int32) : Option (Int32) :=
  bp (fX5_subsetsOf x1) (fun r8 => if r8 ≤ x5 then some x3 else gd (ir x4 4096) (if (x2 &&& ((σ.1 (h + 1) x4.toNatClampNeg) ^^^ (-1 : Int32))) = 0 then fX5_leastSet_b51 σ h kr23 x1 x2 x3 x4 x5 (1 : Int32) else fX5_leastSet_b51 σ h kr23 x1 x2 x3 x4 x5 (0 : Int32)))
def fX5_leastSet_l23 (σ : St) (h : Nat) : Nat → Int32 → Int32 → Int32 → Int32 → Int32 → Option (Int32)
  | 0 => fun _ _ _ _ _ => none
  | n + 1 => fX5_leastSet_B23 σ h (fX5_leastSet_l23 σ h n)
def fX5_leastSet (σ : St) (h : Nat) (a1 : Int32) (a2 : Int32) : Option (Int32) :=
  gd (ir a1 4096) (if (a2 &&& ((σ.1 (h + 1) a1.toNatClampNeg) ^^^ (-1 : Int32))) = 0 then lt a1 (fun v9 => lt (0 : Int32) (fun v10 => lt (0 : Int32) (fun v11 => fX5_leastSet_l23 σ h FU a1 a2 v9 v10 v11))) else some (-1 : Int32))
def fX5_menuSet_b114 (σ : St) (h : Nat) (t : Nat) (kr12 : Int32 → Int32 → Int32 → Int32 → Int32 → Int32 → Option (Int32)) (x2 : Int32) (x3 : Int32) (x4 : Int32) (x5 : Int32) (x6 : Int32) (x7 : Int32) : Option (Int32) :=
  bp (fX5_subsetBehind x6 x2) (fun r1 => lt r1 (fun v2 => lt (x7 + 1) (fun v3 => kr12 x2 x3 x4 x5 v2 v3)))
def fX5_menuSet_b106 (σ : St) (h : Nat) (t : Nat) (kr12 : Int32 → Int32 → Int32 → Int32 → Int32 → Int32 → Option (Int32)) (x2 : Int32) (x3 : Int32) (x6 : Int32) (x7 : Int32) (x10 : Int32) : Option (Int32) :=
  lt x6 (fun v4 => lt x10 (fun v5 => fX5_menuSet_b114 σ h t kr12 x2 x3 v4 v5 x6 x7))
def fX5_menuSet_b92 (σ : St) (h : Nat) (t : Nat) (kr12 : Int32 → Int32 → Int32 → Int32 → Int32 → Int32 → Option (Int32)) (x2 : Int32) (x3 : Int32) (x4 : Int32) (x5 : Int32) (x6 : Int32) (x7 : Int32) (x10 : Int32) (y0 : Int32) : Option (Int32) :=
  lt y0 (fun v6 => if x5 < x10 then fX5_menuSet_b106 σ h t kr12 x2 x3 x6 x7 x10 else if v6 = 0 then fX5_menuSet_b114 σ h t kr12 x2 x3 x4 x5 x6 x7 else fX5_menuSet_b106 σ h t kr12 x2 x3 x6 x7 x10)
def fX5_menuSet_b91 (σ : St) (h : Nat) (t : Nat) (kr12 : Int32 → Int32 → Int32 → Int32 → Int32 → Int32 → Option (Int32)) (x2 : Int32) (x3 : Int32) (x4 : Int32) (x5 : Int32) (x6 : Int32) (x7 : Int32) (x10 : Int32) : Option (Int32) :=
  fX5_menuSet_b92 σ h t kr12 x2 x3 x4 x5 x6 x7 x10 (0 : Int32)
def fX5_menuSet_B12 (σ : St) (h : Nat) (t : Nat) (kr12 : Int32 → Int32 → Int32 → Int32 → Int32 → Int32 → Option (Int32)) (x2 : Int32) (x3 : Int32) (x4 : Int32) (x5 : Int32) (x6 : Int32) (x7 : Int32) : Option (Int32) :=
  bp (fX5_subsetsOf x2) (fun r7 => if r7 ≤ x7 then some x4 else gd (ir x6 4096) (gd (ir (0 : Int32) 4096) (lt ((σ.1 (h + 1) x6.toNatClampNeg) &&& ((σ.1 (h + 1) (0 : Int32).toNatClampNeg) ^^^ (-1 : Int32))) (fun v8 => bp (fJ6_bitCount_0f7a4 x6) (fun r9 => lt r9 (fun v10 => if x3 < v10 then fX5_menuSet_b114 σ h t kr12 x2 x3 x4 x5 x6 x7 else bp (fJ6_bitCount_0f7a4 v8) (fun r11 => if v10 = r11 then bp (fX6_worthOf σ t v8) (fun r12 => lt r12 (fun v13 => if v13 = x5 then bp (fJ6_bitCount_0f7a4 x4) (fun r14 => if r14 ≤ v10 then fX5_menuSet_b91 σ h t kr12 x2 x3 x4 x5 x6 x7 v13 else fX5_menuSet_b92 σ h t kr12 x2 x3 x4 x5 x6 x7 v13 (1 : Int32)) else fX5_menuSet_b91 σ h t kr12 x2 x3 x4 x5 x6 x7 v13)) else fX5_menuSet_b114 σ h t kr12 x2 x3 x4 x5 x6 x7)))))))
def fX5_menuSet_l12 (σ : St) (h : Nat) (t : Nat) : Nat → Int32 → Int32 → Int32 → Int32 → Int32 → Int32 → Option (Int32)
  | 0 => fun _ _ _ _ _ _ => none
  | n + 1 => fX5_menuSet_B12 σ h t (fX5_menuSet_l12 σ h t n)
def fX5_menuSet (σ : St) (h : Nat) (t : Nat) (a2 : Int32) (a3 : Int32) : Option (Int32) :=
  lt (0 : Int32) (fun v15 => lt (0 : Int32) (fun v16 => lt (0 : Int32) (fun v17 => lt (0 : Int32) (fun v18 => fX5_menuSet_l12 σ h t FU a2 a3 v15 v16 v17 v18))))
def fX6_falseWorlds (σ : St) (t : Nat) (a1 : Int32) : Option (Int32) :=
  gd (ir a1 12) (bp (fX6_worldsOf σ t (σ.1 (t + 4) a1.toNatClampNeg)) (fun r1 => gd (ir a1 12) (gd (ir (σ.1 (t + 3) a1.toNatClampNeg) 12) (some (r1 &&& ((σ.1 (t + 2) (σ.1 (t + 3) a1.toNatClampNeg).toNatClampNeg) ^^^ (-1 : Int32)))))))
def fX6_following_B13 (σ : St) (t : Nat) (kr13 : Int32 → Int32 → Int32 → Option (Int32)) (x1 : Int32) (x2 : Int32) (x3 : Int32) : Option (Int32) :=
  if (σ.1 t 4) ≤ x3 then some x2 else gd (ir x3 12) (if (x1 &&& ((σ.1 (t + 2) x3.toNatClampNeg) ^^^ (-1 : Int32))) = 0 then lt (x2 ||| ((1 : Int32) <<< (x3 &&& 31))) (fun v2 => lt (x3 + 1) (fun v3 => kr13 x1 v2 v3)) else lt (x3 + 1) (fun v1 => kr13 x1 x2 v1))
def fX6_following_l13 (σ : St) (t : Nat) : Nat → Int32 → Int32 → Int32 → Option (Int32)
  | 0 => fun _ _ _ => none
  | n + 1 => fX6_following_B13 σ t (fX6_following_l13 σ t n)
def fX6_following (σ : St) (t : Nat) : Option (Int32) :=
  bp (fX6_worldsOf σ t (σ.1 t 7)) (fun r4 => lt r4 (fun v5 => lt (0 : Int32) (fun v6 => lt (0 : Int32) (fun v7 => fX6_following_l13 σ t FU v5 v6 v7))))
def fX6_followsFrom (σ : St) (t : Nat) (a1 : Int32) (a2 : Int32) : Option (Int32) :=
  bp (fX6_worldsOf σ t a1) (fun r1 => gd (ir a2 12) (if (r1 &&& ((σ.1 (t + 2) a2.toNatClampNeg) ^^^ (-1 : Int32))) = 0 then gd ((1 : Int32) = 0 ∨ (1 : Int32) = 1) (some (1 : Int32)) else gd ((0 : Int32) = 0 ∨ (0 : Int32) = 1) (some (0 : Int32))))
def fX6_leftAtWorst (σ : St) (t : Nat) (a1 : Int32) : Option (Int32) :=
  bp (fX6_worldsOf σ t (σ.1 t 7)) (fun r1 => lt r1 (fun v2 => gd (ir a1 12) (bp (fJ6_bitCount_0f7a4 (v2 &&& (σ.1 (t + 2) a1.toNatClampNeg))) (fun r3 => lt r3 (fun v4 => bp (fJ6_bitCount_0f7a4 v2) (fun r5 => some (if v4 < (r5 - v4) then (r5 - v4) else v4)))))))
def fX8_adds (σ : St) (a1 : Int32) (a2 : Int32) : Option (Int32 × St) :=
  bp (fX8_isClaim σ (a1.toInt64)) (fun r1 => if r1 = 0 then some ((-2 : Int32), σ) else bp (fX8_areClaims σ a2) (fun r2 => if r2 = 0 then some ((-2 : Int32), σ) else bp (fX8_bits a2) (fun r3 => bp (fX8_in (r3.toInt64) (1 : Int64) (3 : Int64)) (fun r4 => if r4 = 0 then some ((-2 : Int32), σ) else gd (ir (4 : Int32) 70) (if (σ.1 63 (4 : Int32).toNatClampNeg) = (12 : Int32) then some ((-3 : Int32), σ) else gd (ir (4 : Int32) 70) (gd (ir (((43 : Int32) + ((2 : Int32) * (σ.1 63 (4 : Int32).toNatClampNeg))) + (0 : Int32)) 70) (lt (setI σ 63 (((43 : Int32) + ((2 : Int32) * (σ.1 63 (4 : Int32).toNatClampNeg))) + (0 : Int32)).toNatClampNeg a1) (fun σ5 => gd (ir (4 : Int32) 70) (gd (ir (((43 : Int32) + ((2 : Int32) * (σ5.1 63 (4 : Int32).toNatClampNeg))) + (1 : Int32)) 70) (lt (setI σ5 63 (((43 : Int32) + ((2 : Int32) * (σ5.1 63 (4 : Int32).toNatClampNeg))) + (1 : Int32)).toNatClampNeg a2) (fun σ6 => gd (ir (4 : Int32) 70) (gd (ir (4 : Int32) 70) (lt (setI σ6 63 (4 : Int32).toNatClampNeg ((σ6.1 63 (4 : Int32).toNatClampNeg) + (1 : Int32))) (fun σ7 => gd (ir (4 : Int32) 70) (some (((σ7.1 63 (4 : Int32).toNatClampNeg) - (1 : Int32)), σ7))))))))))))))))
def fX8_alike_b54 (σ : St) (kr16 : Int32 → Int32 → Int32 → Option (Int32)) (x1 : Int32) (x3 : Int32) (y0 : Int32) (y1 : Int32) : Option (Int32) :=
  lt (y0 ||| y1) (fun v1 => lt (x3 + 1) (fun v2 => kr16 x1 v1 v2))
def fX8_alike_b53 (σ : St) (kr16 : Int32 → Int32 → Int32 → Option (Int32)) (x1 : Int32) (x3 : Int32) (y0 : Int32) : Option (Int32) :=
  fX8_alike_b54 σ kr16 x1 x3 y0 (0 : Int32)
def fX8_alike_B16 (σ : St) (kr16 : Int32 → Int32 → Int32 → Option (Int32)) (x1 : Int32) (x2 : Int32) (x3 : Int32) : Option (Int32) :=
  gd (ir (3 : Int32) 70) (if (σ.1 63 (3 : Int32).toNatClampNeg) ≤ x3 then some x2 else if x3 = x1 then fX8_alike_b53 σ kr16 x1 x3 x2 else bp (fX8_ofClaim σ x3 (2 : Int32)) (fun r3 => bp (fX8_ofClaim σ x1 (2 : Int32)) (fun r4 => if r3 = r4 then fX8_alike_b54 σ kr16 x1 x3 x2 ((1 : Int32) <<< (x3 &&& 31)) else fX8_alike_b53 σ kr16 x1 x3 x2)))
def fX8_alike_l16 (σ : St) : Nat → Int32 → Int32 → Int32 → Option (Int32)
  | 0 => fun _ _ _ => none
  | n + 1 => fX8_alike_B16 σ (fX8_alike_l16 σ n)
def fX8_alike (σ : St) (a1 : Int32) : Option (Int32) :=
  bp (fX8_isClaim σ (a1.toInt64)) (fun r5 => if r5 = 0 then some (-2 : Int32) else lt (0 : Int32) (fun v6 => lt (0 : Int32) (fun v7 => fX8_alike_l16 σ FU a1 v6 v7)))
def fX8_asksEaten_B36 (σ : St) (kr36 : Int32 → Int32 → Option (Int32)) (x1 : Int32) (x3 : Int32) : Option (Int32) :=
  gd (ir x1 4) (if (σ.1 78 x1.toNatClampNeg) ≤ x3 then some (0 : Int32) else bp (fX8_numberAt σ x1 x3) (fun r1 => bp (fX8_isClaim σ r1) (fun r2 => if r2 = 0 then some (-2 : Int32) else bp (fX8_numberAt σ x1 x3) (fun r3 => bp (fX8_ofClaim σ (r3.toInt32) (1 : Int32)) (fun r4 => if r4 = (1 : Int32) then some (-2 : Int32) else lt (x3 + 1) (fun v5 => kr36 x1 v5))))))
def fX8_asksEaten_l36 (σ : St) : Nat → Int32 → Int32 → Option (Int32)
  | 0 => fun _ _ => none
  | n + 1 => fX8_asksEaten_B36 σ (fX8_asksEaten_l36 σ n)
def fX8_asksEaten (σ : St) (a1 : Int32) (a2 : Int32) : Option (Int32) :=
  bp (fX8_isSlot a1) (fun r6 => if r6 = 0 then some (-2 : Int32) else bp (fX8_isTable σ) (fun r7 => if r7 = 0 then some (-2 : Int32) else if a2 = 0 then some (-2 : Int32) else gd (ir a1 4) (if (σ.1 78 a1.toNatClampNeg) = (-1 : Int32) then some (-6 : Int32) else lt (0 : Int32) (fun v8 => fX8_asksEaten_l36 σ FU a1 v8))))
def fX8_asksKitchen_B50 (σ : St) (kr50 : Int32 → Int32 → Option (Int32)) (x1 : Int32) (x3 : Int32) : Option (Int32) :=
  gd (ir x1 4) (if (σ.1 78 x1.toNatClampNeg) ≤ x3 then some (0 : Int32) else bp (fX8_numberAt σ x1 x3) (fun r1 => bp (fX8_isGuest σ r1) (fun r2 => if r2 = 0 then some (-2 : Int32) else bp (fX8_numberAt σ x1 (x3 + (1 : Int32))) (fun r3 => bp (fX8_isStep σ r3) (fun r4 => if r4 = 0 then some (-2 : Int32) else lt (x3 + 2) (fun v5 => kr50 x1 v5))))))
def fX8_asksKitchen_l50 (σ : St) : Nat → Int32 → Int32 → Option (Int32)
  | 0 => fun _ _ => none
  | n + 1 => fX8_asksKitchen_B50 σ (fX8_asksKitchen_l50 σ n)
def fX8_asksKitchen (σ : St) (a1 : Int32) (a2 : Int32) : Option (Int32) :=
  bp (fX8_isSlot a1) (fun r6 => if r6 = 0 then some (-2 : Int32) else bp (fX8_isTable σ) (fun r7 => if r7 = 0 then some (-2 : Int32) else if a2 = 0 then some (-2 : Int32) else gd (ir a1 4) (if (σ.1 78 a1.toNatClampNeg) = (-1 : Int32) then some (-6 : Int32) else gd (ir a1 4) (gd (¬ (2 : Int32) = 0) (if ((σ.1 78 a1.toNatClampNeg) - (σ.1 78 a1.toNatClampNeg) / (2 : Int32) * (2 : Int32)) = 0 then lt (0 : Int32) (fun v8 => fX8_asksKitchen_l50 σ FU a1 v8) else some (-2 : Int32))))))
def fX8_asksRow_B36 (σ : St) (kr36 : Int32 → Int32 → Option (Int32)) (x1 : Int32) (x3 : Int32) : Option (Int32) :=
  gd (ir x1 4) (if (σ.1 78 x1.toNatClampNeg) ≤ x3 then some (0 : Int32) else bp (fX8_numberAt σ x1 x3) (fun r1 => bp (fX8_isStep σ r1) (fun r2 => if r2 = 0 then some (-2 : Int32) else lt (x3 + 1) (fun v3 => kr36 x1 v3))))
def fX8_asksRow_l36 (σ : St) : Nat → Int32 → Int32 → Option (Int32)
  | 0 => fun _ _ => none
  | n + 1 => fX8_asksRow_B36 σ (fX8_asksRow_l36 σ n)
def fX8_asksRow (σ : St) (a1 : Int32) (a2 : Int32) : Option (Int32) :=
  bp (fX8_isSlot a1) (fun r4 => if r4 = 0 then some (-2 : Int32) else bp (fX8_isTable σ) (fun r5 => if r5 = 0 then some (-2 : Int32) else if a2 = 0 then some (-2 : Int32) else gd (ir a1 4) (if (σ.1 78 a1.toNatClampNeg) = (-1 : Int32) then some (-6 : Int32) else lt (0 : Int32) (fun v6 => fX8_asksRow_l36 σ FU a1 v6))))
def fX8_claim (σ : St) (a1 : Int32) (a2 : Int32) : Option (Int32) :=
  bp (fX8_isClaim σ (a1.toInt64)) (fun r1 => if r1 = 0 then some (-2 : Int32) else bp (fX8_in (a2.toInt64) (0 : Int64) (2 : Int64)) (fun r2 => if r2 = 0 then some (-2 : Int32) else if (2 : Int32) ≤ a2 then bp (fX8_ofClaim σ a1 (2 : Int32)) (fun r3 => bp (fX8_bits r3) (fun r4 => some r4)) else bp (fX8_ofClaim σ a1 a2) (fun r5 => some r5)))
def fX8_claims (σ : St) (a1 : Int32) (a2 : Int32) : Option (Int32 × St) :=
  bp (fX8_isClaim σ (a1.toInt64)) (fun r1 => if r1 = 0 then some ((-2 : Int32), σ) else bp (fX8_in (a2.toInt64) (0 : Int64) (1 : Int64)) (fun r2 => if r2 = 0 then some ((-2 : Int32), σ) else bp (fX8_fillDoubt σ a1 a2) (fun σ3 => gd (ir (1 : Int32) 32) (if (σ3.1 72 (1 : Int32).toNatClampNeg) = 0 then some ((0 : Int32), σ3) else some ((1 : Int32), σ3)))))
def fX8_drawn (σ : St) (a1 : Int32) : Option (Int32) :=
  bp (fX8_isTable σ) (fun r1 => if r1 = 0 then some (-2 : Int32) else bp (fX8_isSeed a1) (fun r2 => if r2 = 0 then some (-2 : Int32) else bp (fX8_holesBy σ (a1.toInt64)) (fun r3 => some r3)))
def fX8_entails (σ : St) (a1 : Int32) (a2 : Int32) : Option (Int32) :=
  bp (fX8_isClaim σ (a1.toInt64)) (fun r1 => if r1 = 0 then some (-2 : Int32) else bp (fX8_isClaim σ (a2.toInt64)) (fun r2 => if r2 = 0 then some (-2 : Int32) else bp (fX8_ofClaim σ a2 (2 : Int32)) (fun r3 => bp (fX8_ofClaim σ a1 (2 : Int32)) (fun r4 => if (r3 &&& (r4 ^^^ (-1 : Int32))) = 0 then some (1 : Int32) else some (0 : Int32)))))
def fX8_fillDuel_B19 (kr5 : St → Int32 → Option (St)) (kr19 : St → Int32 → Int32 → Option (St)) (σ : St) (x1 : Int32) (x2 : Int32) : Option (St) :=
  gd (ir (4 : Int32) 70) (if (σ.1 63 (4 : Int32).toNatClampNeg) ≤ x2 then lt (x1 + (-1)) (fun v1 => kr5 σ v1) else bp (fX8_goes σ x2 x1) (fun r2 => if r2 = 0 then lt (x2 + 1) (fun v3 => kr19 σ x1 v3) else gd (ir x1 4096) (bp (fX8_ofStep σ x2 (0 : Int32)) (fun r4 => gd (ir (x1 ||| ((1 : Int32) <<< (r4 &&& 31))) 4096) (bp (fX8_mine (σ.1 77 (x1 ||| ((1 : Int32) <<< (r4 &&& 31))).toNatClampNeg)) (fun r5 => gd (ir x1 4096) (lt (setI σ 77 x1.toNatClampNeg (if (σ.1 77 x1.toNatClampNeg) < r5 then r5 else (σ.1 77 x1.toNatClampNeg))) (fun σ6 => lt (x2 + 1) (fun v7 => kr19 σ6 x1 v7)))))))))
def fX8_fillDuel_l19 (kr5 : St → Int32 → Option (St)) : Nat → St → Int32 → Int32 → Option (St)
  | 0 => fun _ _ _ => none
  | n + 1 => fX8_fillDuel_B19 kr5 (fX8_fillDuel_l19 kr5 n)
def fX8_fillDuel_B5 (kr5 : St → Int32 → Option (St)) (σ : St) (x1 : Int32) : Option (St) :=
  if x1 < 0 then some σ else gd (ir x1 4096) (lt (setI σ 77 x1.toNatClampNeg (-100 : Int32)) (fun σ8 => lt (0 : Int32) (fun v9 => fX8_fillDuel_l19 kr5 FU σ8 x1 v9)))
def fX8_fillDuel_l5 : Nat → St → Int32 → Option (St)
  | 0 => fun _ _ => none
  | n + 1 => fX8_fillDuel_B5 (fX8_fillDuel_l5 n)
def fX8_fillDuel (σ : St) : Option (St) :=
  bp (fX8_allClaims σ) (fun r10 => lt r10 (fun v11 => fX8_fillDuel_l5 FU σ v11))
def fX8_goKitchen_B81 (kr81 : St → Int32 → Option (St)) (σ : St) (x1 : Int32) : Option (St) :=
  gd (ir x1 4) (if (σ.1 78 x1.toNatClampNeg) ≤ ((2 : Int32) * (σ.1 62 27)) then some σ else bp (fX8_numberAt σ x1 ((2 : Int32) * (σ.1 62 27))) (fun r1 => bp (fX8_numberAt σ x1 (((2 : Int32) * (σ.1 62 27)) + (1 : Int32))) (fun r2 => bs (fX8_cooks σ (r1.toInt32) (r2.toInt32)) (fun r3 σ4 => if r3 = 0 then some σ4 else lt (setI σ4 62 27 ((σ4.1 62 27) + (1 : Int32))) (fun σ5 => kr81 σ5 x1)))))
def fX8_goKitchen_l81 : Nat → St → Int32 → Option (St)
  | 0 => fun _ _ => none
  | n + 1 => fX8_goKitchen_B81 (fX8_goKitchen_l81 n)
def fX8_goKitchen_B46 (kr46 : St → Int32 → Int32 → Option (St)) (σ : St) (x1 : Int32) (x2 : Int32) : Option (St) :=
  if (5 : Int32) ≤ x2 then lt (setI σ 62 28 (0 : Int32)) (fun σ6 => lt (setI σ6 62 27 (0 : Int32)) (fun σ7 => fX8_goKitchen_l81 FU σ7 x1)) else gd (ir x2 5) (lt (setI σ 75 x2.toNatClampNeg (0 : Int32)) (fun σ8 => gd (ir x2 5) (lt (setI σ8 76 x2.toNatClampNeg (0 : Int32)) (fun σ9 => lt (x2 + 1) (fun v10 => kr46 σ9 x1 v10)))))
def fX8_goKitchen_l46 : Nat → St → Int32 → Int32 → Option (St)
  | 0 => fun _ _ _ => none
  | n + 1 => fX8_goKitchen_B46 (fX8_goKitchen_l46 n)
def fX8_goKitchen_b30 (kr2 : St → Int32 → Int32 → Option (St)) (σ : St) (x1 : Int32) (x2 : Int32) (y1 : Int32) (y2 : Int32) : Option (St) :=
  gd (ir y1 12) (lt (setI σ 73 y1.toNatClampNeg y2) (fun σ11 => gd (ir x2 12) (lt (setI σ11 74 x2.toNatClampNeg (0 : Int32)) (fun σ12 => lt (x2 + 1) (fun v13 => kr2 σ12 x1 v13)))))
def fX8_goKitchen_B2 (kr2 : St → Int32 → Int32 → Option (St)) (σ : St) (x1 : Int32) (x2 : Int32) : Option (St) :=
  if (12 : Int32) ≤ x2 then lt (0 : Int32) (fun v14 => fX8_goKitchen_l46 FU σ x1 v14) else bp (fX8_saltNow σ) (fun r15 => bp (fX8_bit r15 x2) (fun r16 => if r16 = (1 : Int32) then fX8_goKitchen_b30 kr2 σ x1 x2 x2 (0 : Int32) else fX8_goKitchen_b30 kr2 σ x1 x2 x2 (-1 : Int32)))
def fX8_goKitchen_l2 : Nat → St → Int32 → Int32 → Option (St)
  | 0 => fun _ _ _ => none
  | n + 1 => fX8_goKitchen_B2 (fX8_goKitchen_l2 n)
def fX8_goKitchen (σ : St) (a1 : Int32) : Option (St) :=
  lt (0 : Int32) (fun v17 => fX8_goKitchen_l2 FU σ a1 v17)
def fX8_guest (σ : St) (a1 : Int32) (a2 : Int32) : Option (Int32) :=
  bp (fX8_isGuest σ (a1.toInt64)) (fun r1 => if r1 = 0 then some (-2 : Int32) else bp (fX8_in (a2.toInt64) (0 : Int64) (2 : Int64)) (fun r2 => if r2 = 0 then some (-2 : Int32) else if (2 : Int32) ≤ a2 then bp (fX8_canDo σ a1) (fun r3 => some r3) else bp (fX8_ofGuest σ a1 a2) (fun r4 => some r4)))
def fX8_holds (σ : St) (a1 : Int32) : Option (Int32) :=
  bp (fX8_isClaim σ (a1.toInt64)) (fun r1 => if r1 = 0 then some (-2 : Int32) else bp (fX8_ofClaim σ a1 (2 : Int32)) (fun r2 => some r2))
def fX8_number_b47 (σ : St) : Option (Int32 × St) :=
  bp (fX8_good σ) (fun r1 => if r1 = 0 then some ((0 : Int32), σ) else lt (σ.1 62 11) (fun v2 => bp (fX8_advance σ) (fun σ3 => some (v2, σ3))))
def fX8_number_b20 (σ : St) (x1 : Int32) (x2 : Int32) : Option (Int32 × St) :=
  bp (fX8_good σ) (fun r4 => if r4 = 0 then fX8_number_b47 σ else bp (fX8_in ((σ.1 62 11).toInt64) (x1.toInt64) (x2.toInt64)) (fun r5 => if r5 = 0 then bp (fX8_errs σ (2 : Int32)) (fun σ6 => fX8_number_b47 σ6) else fX8_number_b47 σ))
def fX8_number (σ : St) (a1 : Int32) (a2 : Int32) : Option (Int32 × St) :=
  bp (fX8_good σ) (fun r7 => if r7 = 0 then fX8_number_b20 σ a1 a2 else if (σ.1 62 10) = (2 : Int32) then fX8_number_b20 σ a1 a2 else bp (fX8_errs σ (1 : Int32)) (fun σ8 => fX8_number_b20 σ8 a1 a2))
def fX8_outcome_b113 (kr33 : St → Int32 → Int32 → Int32 → Option (Int32 × St)) (σ : St) (x2 : Int32) (x4 : Int32) (y0 : Int32) (y1 : Int32) : Option (Int32 × St) :=
  lt (y0 ||| y1) (fun v1 => lt (x4 + 1) (fun v2 => kr33 σ x2 v1 v2))
def fX8_outcome_b112 (kr33 : St → Int32 → Int32 → Int32 → Option (Int32 × St)) (σ : St) (x2 : Int32) (x4 : Int32) (y0 : Int32) : Option (Int32 × St) :=
  fX8_outcome_b113 kr33 σ x2 x4 y0 (0 : Int32)
def fX8_outcome_b57 (kr33 : St → Int32 → Int32 → Int32 → Option (Int32 × St)) (σ : St) (x2 : Int32) (x3 : Int32) (x4 : Int32) (y0 : Int32) : Option (Int32 × St) :=
  lt y0 (fun v3 => gd (ir (((2 : Int32) <<< (x4 &&& 31)) + x3) 32) (lt (σ.1 72 (((2 : Int32) <<< (x4 &&& 31)) + x3).toNatClampNeg) (fun v4 => gd (ir (((2 : Int32) <<< (x4 &&& 31)) + (x3 ||| ((1 : Int32) <<< (x4 &&& 31)))) 32) (lt (σ.1 72 (((2 : Int32) <<< (x4 &&& 31)) + (x3 ||| ((1 : Int32) <<< (x4 &&& 31)))).toNatClampNeg) (fun v5 => if v4 = v5 then fX8_outcome_b112 kr33 σ x2 x4 x3 else if v5 = v3 then fX8_outcome_b113 kr33 σ x2 x4 x3 ((1 : Int32) <<< (x4 &&& 31)) else fX8_outcome_b112 kr33 σ x2 x4 x3)))))
def fX8_outcome_B33 (kr33 : St → Int32 → Int32 → Int32 → Option (Int32 × St)) (σ : St) (x2 : Int32) (x3 : Int32) (x4 : Int32) : Option (Int32 × St) :=
  gd (ir (0 : Int32) 70) (if (σ.1 63 (0 : Int32).toNatClampNeg) ≤ x4 then some (x3, σ) else gd (¬ (2 : Int32) = 0) (if (x4 - x4 / (2 : Int32) * (2 : Int32)) = x2 then fX8_outcome_b57 kr33 σ x2 x3 x4 (1 : Int32) else fX8_outcome_b57 kr33 σ x2 x3 x4 (0 : Int32)))
def fX8_outcome_l33 : Nat → St → Int32 → Int32 → Int32 → Option (Int32 × St)
  | 0 => fun _ _ _ _ => none
  | n + 1 => fX8_outcome_B33 (fX8_outcome_l33 n)
def fX8_outcome (σ : St) (a1 : Int32) (a2 : Int32) : Option (Int32 × St) :=
  bp (fX8_isClaim σ (a1.toInt64)) (fun r6 => if r6 = 0 then some ((-2 : Int32), σ) else bp (fX8_in (a2.toInt64) (0 : Int64) (1 : Int64)) (fun r7 => if r7 = 0 then some ((-2 : Int32), σ) else bp (fX8_fillDoubt σ a1 a2) (fun σ8 => lt (0 : Int32) (fun v9 => lt (0 : Int32) (fun v10 => fX8_outcome_l33 FU σ8 a2 v9 v10)))))
def fX8_paste_B150 (kr150 : St → Int32 → Int32 → Int32 → Int32 → Option (Int32 × St)) (σ : St) (x3 : Int32) (x4 : Int32) (x5 : Int32) (x6 : Int32) : Option (Int32 × St) :=
  if x5 ≤ x6 then some ((0 : Int32), σ) else gd (ir x6 60) (gd (ir ((((60 : Int32) * x3) + x4) + x6) 240) (lt (setL σ 80 ((((60 : Int32) * x3) + x4) + x6).toNatClampNeg (σ.2 81 x6.toNatClampNeg)) (fun σ1 => lt (x6 + 1) (fun v2 => kr150 σ1 x3 x4 x5 v2))))
def fX8_paste_l150 : Nat → St → Int32 → Int32 → Int32 → Int32 → Option (Int32 × St)
  | 0 => fun _ _ _ _ _ => none
  | n + 1 => fX8_paste_B150 (fX8_paste_l150 n)
def fX8_paste_B113 (kr113 : St → Int32 → Int32 → Int32 → Int32 → Int32 → Int32 → Option (Int32 × St)) (σ : St) (x1 : Int32) (x2 : Int32) (x3 : Int32) (x4 : Int32) (x5 : Int32) (x6 : Int32) : Option (Int32 × St) :=
  if x5 ≤ x6 then lt (0 : Int32) (fun v3 => fX8_paste_l150 FU σ x3 x4 x5 v3) else gd (ir ((((60 : Int32) * x1) + x2) + x6) 240) (gd (ir x6 60) (lt (setL σ 81 x6.toNatClampNeg (σ.2 80 ((((60 : Int32) * x1) + x2) + x6).toNatClampNeg)) (fun σ4 => lt (x6 + 1) (fun v5 => kr113 σ4 x1 x2 x3 x4 x5 v5))))
def fX8_paste_l113 : Nat → St → Int32 → Int32 → Int32 → Int32 → Int32 → Int32 → Option (Int32 × St)
  | 0 => fun _ _ _ _ _ _ _ => none
  | n + 1 => fX8_paste_B113 (fX8_paste_l113 n)
def fX8_paste (σ : St) (a1 : Int32) (a2 : Int32) (a3 : Int32) (a4 : Int32) (a5 : Int32) : Option (Int32 × St) :=
  bp (fX8_isSlot a1) (fun r6 => if r6 = 0 then some ((-2 : Int32), σ) else bp (fX8_isSlot a3) (fun r7 => if r7 = 0 then some ((-2 : Int32), σ) else gd (ir a1 4) (if (σ.1 78 a1.toNatClampNeg) = (-1 : Int32) then some ((-6 : Int32), σ) else gd (ir a3 4) (if (σ.1 78 a3.toNatClampNeg) = (-1 : Int32) then some ((-6 : Int32), σ) else gd (ir a1 4) (gd (ir a3 4) (if (σ.1 79 a1.toNatClampNeg) = (σ.1 79 a3.toNatClampNeg) then if a2 < 0 then some ((-7 : Int32), σ) else if a4 < 0 then some ((-7 : Int32), σ) else if a5 < 0 then some ((-7 : Int32), σ) else gd (ir a1 4) (if 0 < (lg_cmp ((a2.toInt64) + (a5.toInt64)) ((σ.1 78 a1.toNatClampNeg).toInt64)) then some ((-7 : Int32), σ) else gd (ir a3 4) (if (lg_cmp ((a4.toInt64) + (a5.toInt64)) ((σ.1 78 a3.toNatClampNeg).toInt64)) ≤ 0 then lt (0 : Int32) (fun v8 => fX8_paste_l113 FU σ a1 a2 a3 a4 a5 v8) else some ((-7 : Int32), σ))) else some ((-8 : Int32), σ)))))))
def fX8_provedBy_B16 (σ : St) (kr5 : Int32 → Int32 → Int32 → Option (Int32)) (kr16 : Int32 → Int32 → Int32 → Int32 → Option (Int32)) (x2 : Int32) (x3 : Int32) (x4 : Int32) (x5 : Int32) : Option (Int32) :=
  gd (ir (4 : Int32) 70) (if (σ.1 63 (4 : Int32).toNatClampNeg) ≤ x5 then kr5 x2 x3 x4 else bp (fX8_bit x2 x5) (fun r1 => if r1 = 0 then lt (x5 + 1) (fun v2 => kr16 x2 x3 x4 v2) else bp (fX8_goes σ x5 x3) (fun r3 => if r3 = 0 then lt (x5 + 1) (fun v8 => kr16 x2 x3 x4 v8) else bp (fX8_ofStep σ x5 (0 : Int32)) (fun r4 => lt (x3 ||| ((1 : Int32) <<< (r4 &&& 31))) (fun v5 => lt (1 : Int32) (fun v6 => lt (x5 + 1) (fun v7 => kr16 x2 v5 v6 v7)))))))
def fX8_provedBy_l16 (σ : St) (kr5 : Int32 → Int32 → Int32 → Option (Int32)) : Nat → Int32 → Int32 → Int32 → Int32 → Option (Int32)
  | 0 => fun _ _ _ _ => none
  | n + 1 => fX8_provedBy_B16 σ kr5 (fX8_provedBy_l16 σ kr5 n)
def fX8_provedBy_B5 (σ : St) (kr5 : Int32 → Int32 → Int32 → Option (Int32)) (x2 : Int32) (x3 : Int32) (x4 : Int32) : Option (Int32) :=
  if x4 = 0 then some x3 else lt (0 : Int32) (fun v9 => lt (0 : Int32) (fun v10 => fX8_provedBy_l16 σ kr5 FU x2 x3 v9 v10))
def fX8_provedBy_l5 (σ : St) : Nat → Int32 → Int32 → Int32 → Option (Int32)
  | 0 => fun _ _ _ => none
  | n + 1 => fX8_provedBy_B5 σ (fX8_provedBy_l5 σ n)
def fX8_provedBy (σ : St) (a1 : Int32) (a2 : Int32) : Option (Int32) :=
  lt a1 (fun v11 => lt (1 : Int32) (fun v12 => fX8_provedBy_l5 σ FU a2 v11 v12))
def fX8_readRow_B13 (kr13 : St → Int32 → Option (St)) (σ : St) (x1 : Int32) : Option (St) :=
  gd (ir x1 4) (if (σ.1 78 x1.toNatClampNeg) ≤ (σ.1 62 19) then some σ else bp (fX8_numberAt σ x1 (σ.1 62 19)) (fun r1 => bp (fX8_goes σ (r1.toInt32) (σ.1 62 20)) (fun r2 => if r2 = 0 then some σ else bp (fX8_numberAt σ x1 (σ.1 62 19)) (fun r3 => bp (fX8_ofStep σ (r3.toInt32) (0 : Int32)) (fun r4 => lt (setI σ 62 20 ((σ.1 62 20) ||| ((1 : Int32) <<< (r4 &&& 31)))) (fun σ5 => lt (setI σ5 62 19 ((σ5.1 62 19) + (1 : Int32))) (fun σ6 => kr13 σ6 x1)))))))
def fX8_readRow_l13 : Nat → St → Int32 → Option (St)
  | 0 => fun _ _ => none
  | n + 1 => fX8_readRow_B13 (fX8_readRow_l13 n)
def fX8_readRow (σ : St) (a1 : Int32) : Option (St) :=
  bp (fX8_saltNow σ) (fun r7 => lt (setI σ 62 20 r7) (fun σ8 => lt (setI σ8 62 19 (0 : Int32)) (fun σ9 => fX8_readRow_l13 FU σ9 a1)))
def fX8_row_B52 (kr52 : St → Int32 → Int32 → Option (Int32 × St)) (σ : St) (x1 : Int32) (x4 : Int32) : Option (Int32 × St) :=
  if (60 : Int32) ≤ x4 then some ((0 : Int32), σ) else gd (ir (((60 : Int32) * x1) + x4) 240) (lt (setL σ 80 (((60 : Int32) * x1) + x4).toNatClampNeg (0 : Int64)) (fun σ1 => lt (x4 + 1) (fun v2 => kr52 σ1 x1 v2)))
def fX8_row_l52 : Nat → St → Int32 → Int32 → Option (Int32 × St)
  | 0 => fun _ _ _ => none
  | n + 1 => fX8_row_B52 (fX8_row_l52 n)
def fX8_row (σ : St) (a1 : Int32) (a2 : Int32) (a3 : Int32) : Option (Int32 × St) :=
  bp (fX8_isSlot a1) (fun r3 => if r3 = 0 then some ((-2 : Int32), σ) else bp (fX8_in (a2.toInt64) (0 : Int64) (3 : Int64)) (fun r4 => if r4 = 0 then some ((-2 : Int32), σ) else if a3 ≤ (60 : Int32) then if 0 ≤ a3 then gd (ir a1 4) (lt (setI σ 78 a1.toNatClampNeg a3) (fun σ5 => gd (ir a1 4) (lt (setI σ5 79 a1.toNatClampNeg a2) (fun σ6 => lt (0 : Int32) (fun v7 => fX8_row_l52 FU σ6 a1 v7))))) else some ((-3 : Int32), σ) else some ((-2 : Int32), σ)))
def fX8_salt (σ : St) (a1 : Int32) (a2 : Int32) : Option (Int32 × St) :=
  bp (fX8_isClaim σ (a1.toInt64)) (fun r1 => if r1 = 0 then some ((-2 : Int32), σ) else bp (fX8_in (a2.toInt64) (0 : Int64) (1 : Int64)) (fun r2 => if r2 = 0 then some ((-2 : Int32), σ) else bp (fX8_ofClaim σ a1 (1 : Int32)) (fun r3 => lt r3 (fun v4 => gd (ir (((7 : Int32) + ((3 : Int32) * a1)) + (1 : Int32)) 70) (lt (setI σ 63 (((7 : Int32) + ((3 : Int32) * a1)) + (1 : Int32)).toNatClampNeg a2) (fun σ5 => some (v4, σ5)))))))
def fX8_saltedBy_b40 (σ : St) (kr7 : Int32 → Int32 → Int32 → Option (Int32)) (x1 : Int32) (x3 : Int32) (y0 : Int32) (y1 : Int32) : Option (Int32) :=
  lt (y0 &&& y1) (fun v1 => lt (x3 + 1) (fun v2 => kr7 x1 v1 v2))
def fX8_saltedBy_B7 (σ : St) (kr7 : Int32 → Int32 → Int32 → Option (Int32)) (x1 : Int32) (x2 : Int32) (x3 : Int32) : Option (Int32) :=
  gd (ir (3 : Int32) 70) (if (σ.1 63 (3 : Int32).toNatClampNeg) ≤ x3 then some x2 else bp (fX8_bit x1 x3) (fun r3 => if r3 = (1 : Int32) then bp (fX8_ofClaim σ x3 (2 : Int32)) (fun r5 => fX8_saltedBy_b40 σ kr7 x1 x3 x2 r5) else bp (fX8_allWorlds σ) (fun r4 => fX8_saltedBy_b40 σ kr7 x1 x3 x2 r4)))
def fX8_saltedBy_l7 (σ : St) : Nat → Int32 → Int32 → Int32 → Option (Int32)
  | 0 => fun _ _ _ => none
  | n + 1 => fX8_saltedBy_B7 σ (fX8_saltedBy_l7 σ n)
def fX8_saltedBy (σ : St) (a1 : Int32) : Option (Int32) :=
  bp (fX8_allWorlds σ) (fun r6 => lt r6 (fun v7 => lt (0 : Int32) (fun v8 => fX8_saltedBy_l7 σ FU a1 v7 v8)))
def fX8_strengthOf_b33 (σ : St) (kr4 : Int32 → Int32 → Int32 → Option (Int32)) (x1 : Int32) (x3 : Int32) (y0 : Int32) (y1 : Int32) : Option (Int32) :=
  lt (y0 + y1) (fun v1 => lt (x3 + 1) (fun v2 => kr4 x1 v1 v2))
def fX8_strengthOf_B4 (σ : St) (kr4 : Int32 → Int32 → Int32 → Option (Int32)) (x1 : Int32) (x2 : Int32) (x3 : Int32) : Option (Int32) :=
  gd (ir (5 : Int32) 70) (if (σ.1 63 (5 : Int32).toNatClampNeg) ≤ x3 then some x2 else bp (fX8_bit x1 x3) (fun r3 => if r3 = (1 : Int32) then bp (fX8_canDo σ x3) (fun r4 => fX8_strengthOf_b33 σ kr4 x1 x3 x2 r4) else fX8_strengthOf_b33 σ kr4 x1 x3 x2 (0 : Int32)))
def fX8_strengthOf_l4 (σ : St) : Nat → Int32 → Int32 → Int32 → Option (Int32)
  | 0 => fun _ _ _ => none
  | n + 1 => fX8_strengthOf_B4 σ (fX8_strengthOf_l4 σ n)
def fX8_strengthOf (σ : St) (a1 : Int32) : Option (Int32) :=
  lt (0 : Int32) (fun v5 => lt (0 : Int32) (fun v6 => fX8_strengthOf_l4 σ FU a1 v5 v6))
def fX8_teach (σ : St) (a1 : Int32) (a2 : Int32) (a3 : Int32) : Option (Int32 × St) :=
  bp (fX8_isGuest σ (a1.toInt64)) (fun r1 => if r1 = 0 then some ((-2 : Int32), σ) else bp (fX8_isStep σ (a2.toInt64)) (fun r2 => if r2 = 0 then some ((-2 : Int32), σ) else bp (fX8_in (a3.toInt64) (0 : Int64) (1 : Int64)) (fun r3 => if r3 = 0 then some ((-2 : Int32), σ) else lt (((67 : Int32) + ((2 : Int32) * a1)) + (1 : Int32)) (fun v4 => gd (ir v4 70) (bp (fX8_bit (σ.1 63 v4.toNatClampNeg) a2) (fun r5 => lt r5 (fun v6 => gd (ir v4 70) (gd (ir v4 70) (lt (setI σ 63 v4.toNatClampNeg (((σ.1 63 v4.toNatClampNeg) &&& (((1 : Int32) <<< (a2 &&& 31)) ^^^ (-1 : Int32))) ||| (a3 <<< (a2 &&& 31)))) (fun σ7 => some (v6, σ7)))))))))))
def fX8_write (σ : St) (a1 : Int32) (a2 : Int32) (a3 : Int64) : Option (Int32 × St) :=
  bp (fX8_isSlot a1) (fun r1 => if r1 = 0 then some ((-2 : Int32), σ) else gd (ir a1 4) (if (σ.1 78 a1.toNatClampNeg) = (-1 : Int32) then some ((-6 : Int32), σ) else gd (ir a1 4) (bp (fX8_in (a2.toInt64) (0 : Int64) (((σ.1 78 a1.toNatClampNeg) - (1 : Int32)).toInt64)) (fun r2 => if r2 = 0 then some ((-7 : Int32), σ) else gd (ir a1 4) (bp (fX8_cut a3 (σ.1 79 a1.toNatClampNeg)) (fun r3 => gd (ir (((60 : Int32) * a1) + a2) 240) (lt (setL σ 80 (((60 : Int32) * a1) + a2).toNatClampNeg r3) (fun σ4 => some ((0 : Int32), σ4)))))))))
def fX7_ask_B35 (σ : St) (kr35 : Int32 → Int32 → Int32 → Option (Int32)) (x1 : Int32) (x2 : Int32) (x3 : Int32) : Option (Int32) :=
  if (σ.1 3 4) ≤ x3 then some x1 else bp (fX6_leftAtWorst σ 3 x3) (fun r1 => lt r1 (fun v2 => if x2 ≤ v2 then lt (x3 + 1) (fun v3 => kr35 x1 x2 v3) else lt x3 (fun v4 => lt v2 (fun v5 => lt (x3 + 1) (fun v6 => kr35 v4 v5 v6)))))
def fX7_ask_l35 (σ : St) : Nat → Int32 → Int32 → Int32 → Option (Int32)
  | 0 => fun _ _ _ => none
  | n + 1 => fX7_ask_B35 σ (fX7_ask_l35 σ n)
def fX7_ask (σ : St) : Option (Int32) :=
  bp (fX6_isTold σ 3) (fun r7 => if r7 = 0 then some (-2 : Int32) else lt (-1 : Int32) (fun v8 => bp (fX6_worldsOf σ 3 (σ.1 3 7)) (fun r9 => bp (fJ6_bitCount_0f7a4 r9) (fun r10 => lt r10 (fun v11 => lt (0 : Int32) (fun v12 => fX7_ask_l35 σ FU v8 v11 v12))))))
def fX7_coreSet (σ : St) : Option (Int32 × St) :=
  bp (fX5_fillWithRuledOut σ 51 3) (fun σ1 => bp (fX6_allWorlds σ1 3) (fun r2 => bp (fX5_leastSet σ1 51 (σ1.1 3 7) r2) (fun r3 => some (r3, σ1))))
def fX7_eats_b21 (σ : St) (x1 : Int32) (x2 : Int32) (y0 : Int32) : Option (Int32) :=
  lt y0 (fun v1 => if v1 = 0 then gd (ir x1 4) (lt (rowp x1.toNatClampNeg) (fun k2 => bp (fX3_worthEaten σ 3 k2 x2) (fun r3 => some r3))) else if v1 = (-6 : Int32) then some (-600 : Int32) else some (-100 : Int32))
def fX7_eats (σ : St) (a1 : Int32) (a2 : Int32) : Option (Int32) :=
  bp (fX6_hasGuest σ 3 a2) (fun r4 => if r4 = 0 then fX7_eats_b21 σ a1 a2 (-2 : Int32) else bp (fX7_refusalOfSteps σ a1) (fun r5 => fX7_eats_b21 σ a1 a2 r5))
def fX7_falsity (σ : St) (a1 : Int32) : Option (Int32) :=
  bp (fX6_hasStep σ 3 a1) (fun r1 => if r1 = 0 then some (-2 : Int32) else bp (fX6_falseWorlds σ 3 a1) (fun r2 => bp (fX7_lowestBit r2) (fun r3 => some r3)))
def fX7_follows (σ : St) (a1 : Int32) : Option (Int32) :=
  bp (fX6_hasClaim σ 3 a1) (fun r1 => if r1 = 0 then some (-2 : Int32) else bp (fX6_followsFrom σ 3 (σ.1 3 7) a1) (fun r2 => bp (fX7_bit r2) (fun r3 => some r3)))
def fX7_freshProofs (σ : St) : Option (St) :=
  if (σ.1 0 7) = 0 then some σ else bp (fX6_allSteps σ 3) (fun r1 => bp (fX5_fillWithProofs σ 49 3 r1 (σ.1 3 7)) (fun σ2 => gd ((0 : Int32) = 0 ∨ (0 : Int32) = 1) (lt (setI σ2 0 7 (0 : Int32)) (fun σ3 => some σ3))))
def fX7_idle_b48 (σ : St) (kr17 : Int32 → Int32 → Option (Int32)) (x1 : Int32) (x2 : Int32) (y0 : Int32) : Option (Int32) :=
  lt y0 (fun v1 => if v1 = 0 then lt (x2 + 1) (fun v2 => kr17 x1 v2) else bp (fX6_followsFrom σ 3 ((σ.1 3 7) &&& (((1 : Int32) <<< (x2 &&& 31)) ^^^ (-1 : Int32))) x2) (fun r3 => if r3 = 0 then lt (x2 + 1) (fun v4 => kr17 x1 v4) else lt (x1 ||| ((1 : Int32) <<< (x2 &&& 31))) (fun v5 => lt (x2 + 1) (fun v6 => kr17 v5 v6))))
def fX7_idle_B17 (σ : St) (kr17 : Int32 → Int32 → Option (Int32)) (x1 : Int32) (x2 : Int32) : Option (Int32) :=
  if (σ.1 3 4) ≤ x2 then some x1 else if (((σ.1 3 7) >>> (x2 &&& 31)) &&& (1 : Int32)) = (1 : Int32) then fX7_idle_b48 σ kr17 x1 x2 (1 : Int32) else fX7_idle_b48 σ kr17 x1 x2 (0 : Int32)
def fX7_idle_l17 (σ : St) : Nat → Int32 → Int32 → Option (Int32)
  | 0 => fun _ _ => none
  | n + 1 => fX7_idle_B17 σ (fX7_idle_l17 σ n)
def fX7_idle (σ : St) : Option (Int32) :=
  bp (fX6_isTold σ 3) (fun r7 => if r7 = 0 then some (-2 : Int32) else lt (0 : Int32) (fun v8 => lt (0 : Int32) (fun v9 => fX7_idle_l17 σ FU v8 v9)))
def fX7_leastSaltFor (σ : St) (a1 : Int32) : Option (Int32 × St) :=
  bp (fX5_fillWithSaltProofs σ 51 3) (fun σ1 => bp (fX5_leastSet σ1 51 (σ1.1 3 7) a1) (fun r2 => some (r2, σ1)))
def fX7_reached (σ : St) (a1 : Int32) : Option (Int32 × St) :=
  bp (fX7_refusalOfSteps σ a1) (fun r1 => lt r1 (fun v2 => if v2 = 0 then gd (ir a1 4) (lt (rowp a1.toNatClampNeg) (fun k3 => bp (fX3_read σ 3 k3) (fun σ4 => some ((σ4.1 53 2), σ4)))) else some (v2, σ)))
def fX7_reads (σ : St) (a1 : Int32) : Option (Int32 × St) :=
  bp (fX7_refusalOfSteps σ a1) (fun r1 => lt r1 (fun v2 => if v2 = 0 then gd (ir a1 4) (lt (rowp a1.toNatClampNeg) (fun k3 => bp (fX3_read σ 3 k3) (fun σ4 => some ((σ4.1 53 0), σ4)))) else some (v2, σ)))
def fX7_step_b76 (σ : St) (y0 : Int32) : Option (Int32) :=
  bp (fX7_bit y0) (fun r1 => some r1)
def fX7_step (σ : St) (a1 : Int32) (a2 : Int32) : Option (Int32) :=
  bp (fX6_hasStep σ 3 a1) (fun r2 => if r2 = 0 then some (-2 : Int32) else if a2 = 0 then gd (ir a1 12) (some (σ.1 (3 + 3) a1.toNatClampNeg)) else if a2 = 1 then gd (ir a1 12) (some (σ.1 (3 + 4) a1.toNatClampNeg)) else if a2 = 2 then bp (fX6_falseWorlds σ 3 a1) (fun r3 => if r3 = 0 then fX7_step_b76 σ (1 : Int32) else fX7_step_b76 σ (0 : Int32)) else some (-2 : Int32))
def fX7_used_b21 (σ : St) (x1 : Int32) (x2 : Int32) (y0 : Int32) : Option (Int32 × St) :=
  lt y0 (fun v1 => if v1 = 0 then gd (ir x1 4) (lt (rowp x1.toNatClampNeg) (fun k2 => bp (fX3_read σ 3 k2) (fun σ3 => gd (ir x2 12) (some ((σ3.1 54 x2.toNatClampNeg), σ3))))) else some (v1, σ))
def fX7_used (σ : St) (a1 : Int32) (a2 : Int32) : Option (Int32 × St) :=
  bp (fX6_hasClaim σ 3 a2) (fun r4 => if r4 = 0 then fX7_used_b21 σ a1 a2 (-2 : Int32) else bp (fX7_refusalOfSteps σ a1) (fun r5 => fX7_used_b21 σ a1 a2 r5))
def fX7_why (σ : St) (a1 : Int32) : Option (Int32 × St) :=
  bp (fX7_refusalOfSteps σ a1) (fun r1 => lt r1 (fun v2 => if v2 = 0 then gd (ir a1 4) (lt (rowp a1.toNatClampNeg) (fun k3 => bp (fX3_read σ 3 k3) (fun σ4 => some ((σ4.1 53 1), σ4)))) else some (v2, σ)))
def fX7_worthWithLemma (σ : St) (a1 : Int32) (a2 : Int32) : Option (Int32 × St) :=
  lt ((σ.1 3 7) ||| ((1 : Int32) <<< (a2 &&& 31))) (fun v1 => gd (ir a1 5) (lt (σ.1 (3 + 6) a1.toNatClampNeg) (fun v2 => bp (fX5_fillWithProofs σ 51 3 v2 v1) (fun σ3 => bp (fX6_canDo σ3 3 a1) (fun r4 => bp (fX5_menuSet σ3 51 3 v2 r4) (fun r5 => lt r5 (fun v6 => gd (ir v6 4096) (bp (fX6_worthOf σ3 3 ((σ3.1 (51 + 1) v6.toNatClampNeg) &&& (v1 ^^^ (-1 : Int32)))) (fun r7 => some (r7, σ3))))))))))
def fX1_cook_B10 (t : Nat) (w : Nat) (kr10 : St → Int32 → Int32 → Option (St)) (σ : St) (x3 : Int32) (x4 : Int32) : Option (St) :=
  if (σ.1 w 2) ≤ (x4 + (1 : Int32)) then some σ else if x3 = 0 then some σ else gd (ir x4 60) (gd (ir (x4 + (1 : Int32)) 60) (bs (fX1_cookPair σ t ((σ.2 (w + 1) x4.toNatClampNeg).toInt32) ((σ.2 (w + 1) (x4 + (1 : Int32)).toNatClampNeg).toInt32)) (fun r1 σ2 => lt r1 (fun v3 => lt (x4 + 2) (fun v4 => kr10 σ2 v3 v4)))))
def fX1_cook_l10 (t : Nat) (w : Nat) : Nat → St → Int32 → Int32 → Option (St)
  | 0 => fun _ _ _ => none
  | n + 1 => fX1_cook_B10 t w (fX1_cook_l10 t w n)
def fX1_cook (σ : St) (t : Nat) (w : Nat) : Option (St) :=
  bp (fX1_open σ t) (fun σ5 => lt (1 : Int32) (fun v6 => lt (0 : Int32) (fun v7 => fX1_cook_l10 t w FU σ5 v6 v7)))
def fX2_readSalt_b36 (t : Nat) (σ : St) : Option (Int32 × St) :=
  bs (fX2_readNumber σ (0 : Int32) ((σ.1 t 4) - (1 : Int32))) (fun r1 σ2 => lt r1 (fun v3 => if v3 = (-1 : Int32) then gd ((0 : Int32) = 0 ∨ (0 : Int32) = 1) (some ((0 : Int32), σ2)) else lt (setI σ2 t 7 ((σ2.1 t 7) ||| ((1 : Int32) <<< (v3 &&& 31)))) (fun σ4 => gd ((1 : Int32) = 0 ∨ (1 : Int32) = 1) (some ((1 : Int32), σ4)))))
def fX2_readSalt (σ : St) (t : Nat) : Option (Int32 × St) :=
  bp (fX2_advance σ) (fun σ5 => bp (fX2_isNumberOf σ5 (σ5.1 t 4)) (fun r6 => if r6 = 0 then fX2_readSalt_b36 t σ5 else if (((σ5.1 t 7) >>> ((σ5.1 1 7) &&& 31)) &&& (1 : Int32)) = (1 : Int32) then bs (fX2_fail σ5 (2 : Int32)) (fun r7 σ8 => gd (r7 = 0 ∨ r7 = 1) (some (r7, σ8))) else fX2_readSalt_b36 t σ5))
def fX2_readSet_b57 (kr5 : St → Int32 → Int32 → Int32 → Int32 → Option (Int32 × St)) (σ : St) (x1 : Int32) (x2 : Int32) (x3 : Int32) (x4 : Int32) : Option (Int32 × St) :=
  bs (fX2_readNumber σ (0 : Int32) (x1 - (1 : Int32))) (fun r1 σ2 => lt r1 (fun v3 => if v3 = (-1 : Int32) then some ((-1 : Int32), σ2) else lt (x3 ||| ((1 : Int32) <<< (v3 &&& 31))) (fun v4 => lt (x4 + 1) (fun v5 => kr5 σ2 x1 x2 v4 v5))))
def fX2_readSet_b26 (kr5 : St → Int32 → Int32 → Int32 → Int32 → Option (Int32 × St)) (σ : St) (x1 : Int32) (x2 : Int32) (x3 : Int32) (x4 : Int32) : Option (Int32 × St) :=
  bp (fX2_isNumberOf σ x1) (fun r6 => if r6 = 0 then fX2_readSet_b57 kr5 σ x1 x2 x3 x4 else bp (fJ6_bitCount_0f7a4 (x3 ||| ((1 : Int32) <<< ((σ.1 1 7) &&& 31)))) (fun r7 => if r7 ≤ x2 then fX2_readSet_b57 kr5 σ x1 x2 x3 x4 else bs (fX2_fail σ (3 : Int32)) (fun r8 σ9 => some ((-1 : Int32), σ9))))
def fX2_readSet_B5 (kr5 : St → Int32 → Int32 → Int32 → Int32 → Option (Int32 × St)) (σ : St) (x1 : Int32) (x2 : Int32) (x3 : Int32) (x4 : Int32) : Option (Int32 × St) :=
  if (1600 : Int32) ≤ x4 then some (x3, σ) else if x4 = 0 then fX2_readSet_b26 kr5 σ x1 x2 x3 x4 else if (σ.1 1 4) = (2 : Int32) then fX2_readSet_b26 kr5 σ x1 x2 x3 x4 else some (x3, σ)
def fX2_readSet_l5 : Nat → St → Int32 → Int32 → Int32 → Int32 → Option (Int32 × St)
  | 0 => fun _ _ _ _ _ => none
  | n + 1 => fX2_readSet_B5 (fX2_readSet_l5 n)
def fX2_readSet (σ : St) (a1 : Int32) (a2 : Int32) : Option (Int32 × St) :=
  lt (0 : Int32) (fun v10 => lt (0 : Int32) (fun v11 => fX2_readSet_l5 FU σ a1 a2 v10 v11))
def fX8_borrowed_B37 (σ : St) (kr37 : Int32 → Int32 → Int32 → Option (Int32)) (x1 : Int32) (x4 : Int32) (x5 : Int32) : Option (Int32) :=
  gd (ir x1 4) (if (σ.1 78 x1.toNatClampNeg) ≤ x5 then some (-1 : Int32) else bp (fX8_numberAt σ x1 x5) (fun r1 => bp (fX8_bit x4 (r1.toInt32)) (fun r2 => if r2 = 0 then bp (fX8_numberAt σ x1 x5) (fun r4 => some (r4.toInt32)) else lt (x5 + 1) (fun v3 => kr37 x1 x4 v3))))
def fX8_borrowed_l37 (σ : St) : Nat → Int32 → Int32 → Int32 → Option (Int32)
  | 0 => fun _ _ _ => none
  | n + 1 => fX8_borrowed_B37 σ (fX8_borrowed_l37 σ n)
def fX8_borrowed (σ : St) (a1 : Int32) (a2 : Int32) : Option (Int32) :=
  bp (fX8_isGuest σ (a2.toInt64)) (fun r5 => bp (fX8_asksEaten σ a1 r5) (fun r6 => lt r6 (fun v7 => if 0 ≤ v7 then bp (fX8_saltNow σ) (fun r8 => bp (fX8_ofGuest σ a2 (1 : Int32)) (fun r9 => bp (fX8_provedBy σ r8 r9) (fun r10 => lt r10 (fun v11 => lt (0 : Int32) (fun v12 => fX8_borrowed_l37 σ FU a1 v11 v12))))) else some v7)))
def fX8_busy_b26 (σ : St) (x1 : Int32) (x2 : Int32) (x3 : Int32) (y1 : Int32) (y2 : Int32) : Option (Int32 × St) :=
  bp (fX8_asksKitchen σ y1 y2) (fun r1 => lt r1 (fun v2 => if 0 ≤ v2 then bp (fX8_goKitchen σ x1) (fun σ3 => if x3 = 0 then gd (ir x2 5) (some ((σ3.1 76 x2.toNatClampNeg), σ3)) else gd (ir x2 5) (gd (ir x2 5) (some (((σ3.1 75 x2.toNatClampNeg) - (σ3.1 76 x2.toNatClampNeg)), σ3)))) else some (v2, σ)))
def fX8_busy_b25 (σ : St) (x1 : Int32) (x2 : Int32) (x3 : Int32) (y1 : Int32) : Option (Int32 × St) :=
  fX8_busy_b26 σ x1 x2 x3 y1 (0 : Int32)
def fX8_busy (σ : St) (a1 : Int32) (a2 : Int32) (a3 : Int32) : Option (Int32 × St) :=
  bp (fX8_isGuest σ (a2.toInt64)) (fun r4 => if r4 = 0 then fX8_busy_b25 σ a1 a2 a3 a1 else bp (fX8_in (a3.toInt64) (0 : Int64) (1 : Int64)) (fun r5 => if r5 = 0 then fX8_busy_b25 σ a1 a2 a3 a1 else fX8_busy_b26 σ a1 a2 a3 a1 (1 : Int32)))
def fX8_coreOf_b38 (σ : St) (kr9 : Int32 → Int32 → Int32 → Option (Int32)) (x1 : Int32) (x2 : Int32) (x3 : Int32) : Option (Int32) :=
  bp (fX8_saltedBy σ x3) (fun r1 => if r1 = 0 then lt x3 (fun v3 => lt (x3 + 1) (fun v4 => kr9 x1 v3 v4)) else lt (x3 + 1) (fun v2 => kr9 x1 x2 v2))
def fX8_coreOf_B9 (σ : St) (kr9 : Int32 → Int32 → Int32 → Option (Int32)) (x1 : Int32) (x2 : Int32) (x3 : Int32) : Option (Int32) :=
  if x1 < x3 then some x2 else if (x3 &&& (x1 ^^^ (-1 : Int32))) = 0 then if x2 = (-1 : Int32) then fX8_coreOf_b38 σ kr9 x1 x2 x3 else bp (fX8_bits x3) (fun r6 => bp (fX8_bits x2) (fun r7 => if r7 ≤ r6 then lt (x3 + 1) (fun v8 => kr9 x1 x2 v8) else fX8_coreOf_b38 σ kr9 x1 x2 x3)) else lt (x3 + 1) (fun v5 => kr9 x1 x2 v5)
def fX8_coreOf_l9 (σ : St) : Nat → Int32 → Int32 → Int32 → Option (Int32)
  | 0 => fun _ _ _ => none
  | n + 1 => fX8_coreOf_B9 σ (fX8_coreOf_l9 σ n)
def fX8_coreOf (σ : St) : Option (Int32) :=
  bp (fX8_saltNow σ) (fun r9 => lt r9 (fun v10 => lt (-1 : Int32) (fun v11 => lt (0 : Int32) (fun v12 => fX8_coreOf_l9 σ FU v10 v11 v12))))
def fX8_duel (σ : St) : Option (Int32 × St) :=
  bp (fX8_isTable σ) (fun r1 => if r1 = 0 then some ((-2 : Int32), σ) else bp (fX8_fillDuel σ) (fun σ2 => bp (fX8_saltNow σ2) (fun r3 => gd (ir r3 4096) (if (σ2.1 77 r3.toNatClampNeg) ≤ 0 then some ((0 : Int32), σ2) else some ((1 : Int32), σ2)))))
def fX8_eats_B50 (σ : St) (kr50 : Int32 → Int32 → Int32 → Int32 → Int32 → Int32 → Option (Int32)) (x1 : Int32) (x2 : Int32) (x4 : Int32) (x5 : Int32) (x6 : Int32) (x7 : Int32) : Option (Int32) :=
  gd (ir x1 4) (if (σ.1 78 x1.toNatClampNeg) ≤ x7 then some x5 else bp (fX8_numberAt σ x1 x7) (fun r1 => lt (r1.toInt32) (fun v2 => bp (fX8_goes σ v2 x4) (fun r3 => if r3 = 0 then some x5 else bp (fX8_ofGuest σ x2 (1 : Int32)) (fun r4 => bp (fX8_bit r4 v2) (fun r5 => if r5 = 0 then some x5 else if x6 = 0 then some x5 else bp (fX8_ofStep σ v2 (0 : Int32)) (fun r6 => lt (x4 ||| ((1 : Int32) <<< (r6 &&& 31))) (fun v7 => bp (fX8_ofStep σ v2 (0 : Int32)) (fun r8 => bp (fX8_ofClaim σ r8 (0 : Int32)) (fun r9 => lt (x5 + r9) (fun v10 => lt (x6 + (-1)) (fun v11 => lt (x7 + 1) (fun v12 => kr50 x1 x2 v7 v10 v11 v12)))))))))))))
def fX8_eats_l50 (σ : St) : Nat → Int32 → Int32 → Int32 → Int32 → Int32 → Int32 → Option (Int32)
  | 0 => fun _ _ _ _ _ _ => none
  | n + 1 => fX8_eats_B50 σ (fX8_eats_l50 σ n)
def fX8_eats (σ : St) (a1 : Int32) (a2 : Int32) : Option (Int32) :=
  bp (fX8_isGuest σ (a2.toInt64)) (fun r13 => bp (fX8_asksRow σ a1 r13) (fun r14 => lt r14 (fun v15 => if 0 ≤ v15 then bp (fX8_saltNow σ) (fun r16 => lt r16 (fun v17 => lt (0 : Int32) (fun v18 => bp (fX8_canDo σ a2) (fun r19 => lt r19 (fun v20 => lt (0 : Int32) (fun v21 => fX8_eats_l50 σ FU a1 a2 v17 v18 v20 v21)))))) else if v15 = (-6 : Int32) then some (-600 : Int32) else some (-100 : Int32))))
def fX8_falseIn (σ : St) (a1 : Int32) : Option (Int32) :=
  bp (fX8_ofStep σ a1 (1 : Int32)) (fun r1 => bp (fX8_saltedBy σ r1) (fun r2 => bp (fX8_ofStep σ a1 (0 : Int32)) (fun r3 => bp (fX8_ofClaim σ r3 (2 : Int32)) (fun r4 => some (r2 &&& (r4 ^^^ (-1 : Int32)))))))
def fX8_fewestSteps_b46 (σ : St) (kr6 : Int32 → Int32 → Int32 → Int32 → Int32 → Option (Int32)) (x1 : Int32) (x2 : Int32) (x3 : Int32) (x4 : Int32) (x5 : Int32) : Option (Int32) :=
  bp (fX8_provedBy σ x1 x5) (fun r1 => if (x3 &&& (r1 ^^^ (-1 : Int32))) = 0 then lt x5 (fun v4 => lt (x5 + 1) (fun v5 => kr6 x1 x2 x3 v4 v5)) else lt x4 (fun v2 => lt (x5 + 1) (fun v3 => kr6 x1 x2 x3 v2 v3)))
def fX8_fewestSteps_B6 (σ : St) (kr6 : Int32 → Int32 → Int32 → Int32 → Int32 → Option (Int32)) (x1 : Int32) (x2 : Int32) (x3 : Int32) (x4 : Int32) (x5 : Int32) : Option (Int32) :=
  bp (fX8_allSteps σ) (fun r6 => if r6 < x5 then some x4 else if (x5 &&& (x2 ^^^ (-1 : Int32))) = 0 then if x4 = (-1 : Int32) then fX8_fewestSteps_b46 σ kr6 x1 x2 x3 x4 x5 else bp (fX8_bits x5) (fun r8 => bp (fX8_bits x4) (fun r9 => if r8 < r9 then fX8_fewestSteps_b46 σ kr6 x1 x2 x3 x4 x5 else lt (x5 + 1) (fun v10 => kr6 x1 x2 x3 x4 v10))) else lt (x5 + 1) (fun v7 => kr6 x1 x2 x3 x4 v7))
def fX8_fewestSteps_l6 (σ : St) : Nat → Int32 → Int32 → Int32 → Int32 → Int32 → Option (Int32)
  | 0 => fun _ _ _ _ _ => none
  | n + 1 => fX8_fewestSteps_B6 σ (fX8_fewestSteps_l6 σ n)
def fX8_fewestSteps (σ : St) (a1 : Int32) (a2 : Int32) (a3 : Int32) : Option (Int32) :=
  lt (-1 : Int32) (fun v11 => lt (0 : Int32) (fun v12 => fX8_fewestSteps_l6 σ FU a1 a2 a3 v11 v12))
def fX8_freshClaim (σ : St) : Option (Int32 × St) :=
  gd (ir (3 : Int32) 70) (bs (fX8_number σ (0 : Int32) ((σ.1 68 (3 : Int32).toNatClampNeg) - (1 : Int32))) (fun r1 σ2 => some (r1, σ2)))
def fX8_idle_b70 (σ : St) (kr14 : Int32 → Int32 → Option (Int32)) (x2 : Int32) (y0 : Int32) (y1 : Int32) : Option (Int32) :=
  lt (y0 ||| y1) (fun v1 => lt (x2 + 1) (fun v2 => kr14 v1 v2))
def fX8_idle_b69 (σ : St) (kr14 : Int32 → Int32 → Option (Int32)) (x2 : Int32) (y0 : Int32) : Option (Int32) :=
  fX8_idle_b70 σ kr14 x2 y0 (0 : Int32)
def fX8_idle_B14 (σ : St) (kr14 : Int32 → Int32 → Option (Int32)) (x1 : Int32) (x2 : Int32) : Option (Int32) :=
  gd (ir (3 : Int32) 70) (if (σ.1 63 (3 : Int32).toNatClampNeg) ≤ x2 then some x1 else bp (fX8_saltNow σ) (fun r3 => bp (fX8_bit r3 x2) (fun r4 => if r4 = (1 : Int32) then bp (fX8_saltNow σ) (fun r5 => bp (fX8_saltedBy σ (r5 &&& (((1 : Int32) <<< (x2 &&& 31)) ^^^ (-1 : Int32)))) (fun r6 => bp (fX8_ofClaim σ x2 (2 : Int32)) (fun r7 => if (r6 &&& (r7 ^^^ (-1 : Int32))) = 0 then fX8_idle_b70 σ kr14 x2 x1 ((1 : Int32) <<< (x2 &&& 31)) else fX8_idle_b69 σ kr14 x2 x1))) else fX8_idle_b69 σ kr14 x2 x1)))
def fX8_idle_l14 (σ : St) : Nat → Int32 → Int32 → Option (Int32)
  | 0 => fun _ _ => none
  | n + 1 => fX8_idle_B14 σ (fX8_idle_l14 σ n)
def fX8_idle (σ : St) : Option (Int32) :=
  bp (fX8_isTable σ) (fun r8 => if r8 = 0 then some (-2 : Int32) else lt (0 : Int32) (fun v9 => lt (0 : Int32) (fun v10 => fX8_idle_l14 σ FU v9 v10)))
def fX8_isProvedBy (σ : St) (a1 : Int32) (a2 : Int32) : Option (Int32) :=
  bp (fX8_saltNow σ) (fun r1 => bp (fX8_provedBy σ r1 a1) (fun r2 => bp (fX8_bit r2 a2) (fun r3 => if r3 = (1 : Int32) then gd ((1 : Int32) = 0 ∨ (1 : Int32) = 1) (some (1 : Int32)) else gd ((0 : Int32) = 0 ∨ (0 : Int32) = 1) (some (0 : Int32)))))
def fX8_kitchen_b79 (kr32 : St → Int32 → Int32 → Int32 → Option (Int32 × St)) (σ : St) (x2 : Int32) (x5 : Int32) (y0 : Int32) (y1 : Int32) : Option (Int32 × St) :=
  lt (y0 + y1) (fun v1 => lt (x5 + 1) (fun v2 => kr32 σ x2 v1 v2))
def fX8_kitchen_b78 (kr32 : St → Int32 → Int32 → Int32 → Option (Int32 × St)) (σ : St) (x2 : Int32) (x5 : Int32) (y0 : Int32) : Option (Int32 × St) :=
  fX8_kitchen_b79 kr32 σ x2 x5 y0 (0 : Int32)
def fX8_kitchen_B32 (kr32 : St → Int32 → Int32 → Int32 → Option (Int32 × St)) (σ : St) (x2 : Int32) (x4 : Int32) (x5 : Int32) : Option (Int32 × St) :=
  gd (ir (3 : Int32) 70) (if (σ.1 63 (3 : Int32).toNatClampNeg) ≤ x5 then if x2 = 0 then some ((σ.1 62 27), σ) else if x2 = (1 : Int32) then some ((σ.1 62 28), σ) else some (x4, σ) else gd (ir x5 12) (if (σ.1 73 x5.toNatClampNeg) = (-1 : Int32) then fX8_kitchen_b78 kr32 σ x2 x5 x4 else bp (fX8_saltNow σ) (fun r3 => bp (fX8_bit r3 x5) (fun r4 => if r4 = 0 then bp (fX8_ofClaim σ x5 (0 : Int32)) (fun r5 => fX8_kitchen_b79 kr32 σ x2 x5 x4 r5) else fX8_kitchen_b78 kr32 σ x2 x5 x4))))
def fX8_kitchen_l32 : Nat → St → Int32 → Int32 → Int32 → Option (Int32 × St)
  | 0 => fun _ _ _ _ => none
  | n + 1 => fX8_kitchen_B32 (fX8_kitchen_l32 n)
def fX8_kitchen (σ : St) (a1 : Int32) (a2 : Int32) : Option (Int32 × St) :=
  bp (fX8_in (a2.toInt64) (0 : Int64) (2 : Int64)) (fun r6 => bp (fX8_asksKitchen σ a1 r6) (fun r7 => lt r7 (fun v8 => if 0 ≤ v8 then bp (fX8_goKitchen σ a1) (fun σ9 => lt (0 : Int32) (fun v10 => lt (0 : Int32) (fun v11 => fX8_kitchen_l32 FU σ9 a2 v10 v11))) else some (v8, σ))))
def fX8_lasts (σ : St) : Option (Int32 × St) :=
  bp (fX8_isTable σ) (fun r1 => if r1 = 0 then some ((-2 : Int32), σ) else bp (fX8_fillDuel σ) (fun σ2 => bp (fX8_saltNow σ2) (fun r3 => gd (ir r3 4096) (lt (σ2.1 77 r3.toNatClampNeg) (fun v4 => if v4 ≤ 0 then some ((v4 + (100 : Int32)), σ2) else some (((100 : Int32) - v4), σ2))))))
def fX8_lent_b112 (σ : St) (kr55 : Int32 → Int32 → Int32 → Int32 → Option (Int32)) (x2 : Int32) (x4 : Int32) (x6 : Int32) (y0 : Int32) (y1 : Int32) : Option (Int32) :=
  lt (y0 ||| y1) (fun v1 => lt (x6 + 1) (fun v2 => kr55 x2 x4 v1 v2))
def fX8_lent_b111 (σ : St) (kr55 : Int32 → Int32 → Int32 → Int32 → Option (Int32)) (x2 : Int32) (x4 : Int32) (x6 : Int32) (y0 : Int32) : Option (Int32) :=
  fX8_lent_b112 σ kr55 x2 x4 x6 y0 (0 : Int32)
def fX8_lent_B55 (σ : St) (kr55 : Int32 → Int32 → Int32 → Int32 → Option (Int32)) (x2 : Int32) (x4 : Int32) (x5 : Int32) (x6 : Int32) : Option (Int32) :=
  gd (ir (5 : Int32) 70) (if (σ.1 63 (5 : Int32).toNatClampNeg) ≤ x6 then some x5 else if x6 = x2 then fX8_lent_b111 σ kr55 x2 x4 x6 x5 else bp (fX8_saltNow σ) (fun r3 => bp (fX8_ofGuest σ x2 (1 : Int32)) (fun r4 => bp (fX8_ofGuest σ x6 (1 : Int32)) (fun r5 => bp (fX8_provedBy σ r3 (r4 ||| r5)) (fun r6 => if (x4 &&& (r6 ^^^ (-1 : Int32))) = 0 then fX8_lent_b112 σ kr55 x2 x4 x6 x5 ((1 : Int32) <<< (x6 &&& 31)) else fX8_lent_b111 σ kr55 x2 x4 x6 x5)))))
def fX8_lent_l55 (σ : St) : Nat → Int32 → Int32 → Int32 → Int32 → Option (Int32)
  | 0 => fun _ _ _ _ => none
  | n + 1 => fX8_lent_B55 σ (fX8_lent_l55 σ n)
def fX8_lent (σ : St) (a1 : Int32) (a2 : Int32) : Option (Int32) :=
  bp (fX8_isGuest σ (a2.toInt64)) (fun r7 => bp (fX8_asksEaten σ a1 r7) (fun r8 => lt r8 (fun v9 => if 0 ≤ v9 then bp (fX8_eatenBy σ a1) (fun r10 => lt r10 (fun v11 => bp (fX8_saltNow σ) (fun r12 => bp (fX8_ofGuest σ a2 (1 : Int32)) (fun r13 => bp (fX8_provedBy σ r12 r13) (fun r14 => if (v11 &&& (r14 ^^^ (-1 : Int32))) = 0 then some (0 : Int32) else lt (0 : Int32) (fun v15 => lt (0 : Int32) (fun v16 => fX8_lent_l55 σ FU a2 v11 v15 v16))))))) else some v9)))
def fX8_mostBy_b87 (kr11 : St → Int32 → Int32 → Int32 → Int32 → Int32 → Option (Int32 × St)) (σ : St) (x1 : Int32) (x2 : Int32) (x3 : Int32) (x5 : Int32) (x6 : Int32) : Option (Int32 × St) :=
  lt x6 (fun v1 => lt (setI σ 62 21 x5) (fun σ2 => lt (x5 + 1) (fun v3 => kr11 σ2 x1 x2 x3 v1 v3)))
def fX8_mostBy_B11 (kr11 : St → Int32 → Int32 → Int32 → Int32 → Int32 → Option (Int32 × St)) (σ : St) (x1 : Int32) (x2 : Int32) (x3 : Int32) (x4 : Int32) (x5 : Int32) : Option (Int32 × St) :=
  bp (fX8_allSteps σ) (fun r4 => if r4 < x5 then some (x4, σ) else if (x5 &&& (x2 ^^^ (-1 : Int32))) = 0 then bp (fX8_bits x5) (fun r6 => if r6 ≤ x3 then bp (fX8_provedBy σ x1 x5) (fun r7 => bp (fX8_worthsOf σ (r7 &&& (x1 ^^^ (-1 : Int32)))) (fun r8 => lt r8 (fun v9 => if x4 < v9 then fX8_mostBy_b87 kr11 σ x1 x2 x3 x5 v9 else if v9 = x4 then bp (fX8_bits x5) (fun r11 => bp (fX8_bits (σ.1 62 21)) (fun r12 => if r12 ≤ r11 then lt (x5 + 1) (fun v13 => kr11 σ x1 x2 x3 x4 v13) else fX8_mostBy_b87 kr11 σ x1 x2 x3 x5 v9)) else lt (x5 + 1) (fun v10 => kr11 σ x1 x2 x3 x4 v10)))) else lt (x5 + 1) (fun v14 => kr11 σ x1 x2 x3 x4 v14)) else lt (x5 + 1) (fun v5 => kr11 σ x1 x2 x3 x4 v5))
def fX8_mostBy_l11 : Nat → St → Int32 → Int32 → Int32 → Int32 → Int32 → Option (Int32 × St)
  | 0 => fun _ _ _ _ _ _ => none
  | n + 1 => fX8_mostBy_B11 (fX8_mostBy_l11 n)
def fX8_mostBy (σ : St) (a1 : Int32) (a2 : Int32) (a3 : Int32) : Option (Int32 × St) :=
  lt (-1 : Int32) (fun v15 => lt (setI σ 62 21 (0 : Int32)) (fun σ16 => lt (0 : Int32) (fun v17 => fX8_mostBy_l11 FU σ16 a1 a2 a3 v15 v17)))
def fX8_move_B16 (kr16 : St → Int32 → Option (Int32 × St)) (σ : St) (x1 : Int32) : Option (Int32 × St) :=
  gd (ir (4 : Int32) 70) (if (σ.1 63 (4 : Int32).toNatClampNeg) ≤ x1 then some ((-1 : Int32), σ) else bp (fX8_saltNow σ) (fun r1 => bp (fX8_goes σ x1 r1) (fun r2 => if r2 = 0 then lt (x1 + 1) (fun v3 => kr16 σ v3) else bp (fX8_saltNow σ) (fun r4 => bp (fX8_ofStep σ x1 (0 : Int32)) (fun r5 => gd (ir (r4 ||| ((1 : Int32) <<< (r5 &&& 31))) 4096) (if 0 ≤ (σ.1 77 (r4 ||| ((1 : Int32) <<< (r5 &&& 31))).toNatClampNeg) then lt (x1 + 1) (fun v6 => kr16 σ v6) else some (x1, σ)))))))
def fX8_move_l16 : Nat → St → Int32 → Option (Int32 × St)
  | 0 => fun _ _ => none
  | n + 1 => fX8_move_B16 (fX8_move_l16 n)
def fX8_move (σ : St) : Option (Int32 × St) :=
  bp (fX8_isTable σ) (fun r7 => if r7 = 0 then some ((-2 : Int32), σ) else bp (fX8_fillDuel σ) (fun σ8 => lt (0 : Int32) (fun v9 => fX8_move_l16 FU σ8 v9)))
def fX8_provedNow (σ : St) : Option (Int32) :=
  bp (fX8_saltNow σ) (fun r1 => bp (fX8_allSteps σ) (fun r2 => bp (fX8_provedBy σ r1 r2) (fun r3 => some r3)))
def fX8_reached (σ : St) (a1 : Int32) : Option (Int32 × St) :=
  bp (fX8_asksRow σ a1 (1 : Int32)) (fun r1 => lt r1 (fun v2 => if 0 ≤ v2 then bp (fX8_readRow σ a1) (fun σ3 => some ((σ3.1 62 20), σ3)) else some (v2, σ)))
def fX8_reads (σ : St) (a1 : Int32) : Option (Int32 × St) :=
  bp (fX8_asksRow σ a1 (1 : Int32)) (fun r1 => lt r1 (fun v2 => if 0 ≤ v2 then bp (fX8_readRow σ a1) (fun σ3 => some ((σ3.1 62 19), σ3)) else some (v2, σ)))
def fX8_saltedNow (σ : St) : Option (Int32) :=
  bp (fX8_saltNow σ) (fun r1 => bp (fX8_saltedBy σ r1) (fun r2 => some r2))
def fX8_shares (σ : St) (a1 : Int32) (a2 : Int32) : Option (Int32 × St) :=
  bp (fX8_isClaim σ (a2.toInt64)) (fun r1 => bp (fX8_asksKitchen σ a1 r1) (fun r2 => lt r2 (fun v3 => if 0 ≤ v3 then bp (fX8_goKitchen σ a1) (fun σ4 => gd (ir a2 12) (some ((σ4.1 74 a2.toNatClampNeg), σ4))) else some (v3, σ))))
def fX8_spareOf_b42 (σ : St) (kr10 : Int32 → Int32 → Int32 → Int32 → Option (Int32)) (x1 : Int32) (x2 : Int32) (x3 : Int32) (x4 : Int32) : Option (Int32) :=
  bp (fX8_allSteps σ) (fun r1 => bp (fX8_provedBy σ x4 r1) (fun r2 => if (x1 &&& (r2 ^^^ (-1 : Int32))) = 0 then lt x4 (fun v4 => lt (x4 + 1) (fun v5 => kr10 x1 x2 v4 v5)) else lt (x4 + 1) (fun v3 => kr10 x1 x2 x3 v3)))
def fX8_spareOf_B10 (σ : St) (kr10 : Int32 → Int32 → Int32 → Int32 → Option (Int32)) (x1 : Int32) (x2 : Int32) (x3 : Int32) (x4 : Int32) : Option (Int32) :=
  if x2 < x4 then some x3 else if (x4 &&& (x2 ^^^ (-1 : Int32))) = 0 then if x3 = (-1 : Int32) then fX8_spareOf_b42 σ kr10 x1 x2 x3 x4 else bp (fX8_bits x4) (fun r7 => bp (fX8_bits x3) (fun r8 => if r8 ≤ r7 then lt (x4 + 1) (fun v9 => kr10 x1 x2 x3 v9) else fX8_spareOf_b42 σ kr10 x1 x2 x3 x4)) else lt (x4 + 1) (fun v6 => kr10 x1 x2 x3 v6)
def fX8_spareOf_l10 (σ : St) : Nat → Int32 → Int32 → Int32 → Int32 → Option (Int32)
  | 0 => fun _ _ _ _ => none
  | n + 1 => fX8_spareOf_B10 σ (fX8_spareOf_l10 σ n)
def fX8_spareOf (σ : St) (a1 : Int32) : Option (Int32) :=
  bp (fX8_saltNow σ) (fun r10 => lt r10 (fun v11 => lt (-1 : Int32) (fun v12 => lt (0 : Int32) (fun v13 => fX8_spareOf_l10 σ FU a1 v11 v12 v13))))
def fX8_strength (σ : St) (a1 : Int32) : Option (Int32) :=
  bp (fX8_areGuests σ a1) (fun r1 => if r1 = 0 then some (-2 : Int32) else bp (fX8_strengthOf σ a1) (fun r2 => some r2))
def fX8_usedBy_B20 (kr20 : St → Int32 → Int32 → Int32 → Int32 → Option (Int32 × St)) (σ : St) (x1 : Int32) (x3 : Int32) (x4 : Int32) (x5 : Int32) : Option (Int32 × St) :=
  if x5 < 0 then some (x4, σ) else bp (fX8_numberAt σ x1 x5) (fun r1 => lt (r1.toInt32) (fun v2 => bp (fX8_ofStep σ v2 (0 : Int32)) (fun r3 => bp (fX8_bit x3 r3) (fun r4 => if r4 = 0 then lt (x5 + (-1)) (fun v9 => kr20 σ x1 x3 x4 v9) else lt (x4 ||| ((1 : Int32) <<< (v2 &&& 31))) (fun v5 => bp (fX8_ofStep σ v2 (1 : Int32)) (fun r6 => lt (x3 ||| r6) (fun v7 => lt (x5 + (-1)) (fun v8 => kr20 σ x1 v7 v5 v8))))))))
def fX8_usedBy_l20 : Nat → St → Int32 → Int32 → Int32 → Int32 → Option (Int32 × St)
  | 0 => fun _ _ _ _ _ => none
  | n + 1 => fX8_usedBy_B20 (fX8_usedBy_l20 n)
def fX8_usedBy (σ : St) (a1 : Int32) (a2 : Int32) : Option (Int32 × St) :=
  bp (fX8_readRow σ a1) (fun σ10 => lt ((1 : Int32) <<< (a2 &&& 31)) (fun v11 => lt (0 : Int32) (fun v12 => lt ((σ10.1 62 19) - (1 : Int32)) (fun v13 => fX8_usedBy_l20 FU σ10 a1 v11 v12 v13))))
def fX8_when (σ : St) (a1 : Int32) (a2 : Int32) : Option (Int32 × St) :=
  bp (fX8_isClaim σ (a2.toInt64)) (fun r1 => bp (fX8_asksKitchen σ a1 r1) (fun r2 => lt r2 (fun v3 => if 0 ≤ v3 then bp (fX8_goKitchen σ a1) (fun σ4 => gd (ir a2 12) (some ((σ4.1 73 a2.toNatClampNeg), σ4))) else some (v3, σ))))
def fX8_why (σ : St) (a1 : Int32) : Option (Int32 × St) :=
  bp (fX8_asksRow σ a1 (1 : Int32)) (fun r1 => lt r1 (fun v2 => if 0 ≤ v2 then bp (fX8_readRow σ a1) (fun σ3 => gd (ir a1 4) (if (σ3.1 62 19) = (σ3.1 78 a1.toNatClampNeg) then some ((0 : Int32), σ3) else bp (fX8_numberAt σ3 a1 (σ3.1 62 19)) (fun r4 => bp (fX8_ofStep σ3 (r4.toInt32) (1 : Int32)) (fun r5 => if (r5 &&& ((σ3.1 62 20) ^^^ (-1 : Int32))) = 0 then some ((2 : Int32), σ3) else some ((1 : Int32), σ3))))) else some (v2, σ)))
def fX7_borrowed_B50 (kr50 : St → Int32 → Int32 → Int32 → Option (Int32 × St)) (σ : St) (x1 : Int32) (x4 : Int32) (x5 : Int32) : Option (Int32 × St) :=
  gd (ir x1 4) (lt (rowp x1.toNatClampNeg) (fun k1 => if (σ.1 k1 2) ≤ x5 then some ((-1 : Int32), σ) else gd (ir x1 4) (lt (rowp x1.toNatClampNeg) (fun k2 => gd (ir x5 60) (lt ((σ.2 (k2 + 1) x5.toNatClampNeg).toInt32) (fun v3 => if ((x4 >>> (v3 &&& 31)) &&& (1 : Int32)) = 0 then some (v3, σ) else lt (x5 + 1) (fun v4 => kr50 σ x1 x4 v4)))))))
def fX7_borrowed_l50 : Nat → St → Int32 → Int32 → Int32 → Option (Int32 × St)
  | 0 => fun _ _ _ _ => none
  | n + 1 => fX7_borrowed_B50 (fX7_borrowed_l50 n)
def fX7_borrowed_b21 (σ : St) (x1 : Int32) (x2 : Int32) (y0 : Int32) : Option (Int32 × St) :=
  lt y0 (fun v5 => if v5 = 0 then bp (fX7_freshProofs σ) (fun σ6 => gd (ir x2 5) (gd (ir (σ6.1 (3 + 6) x2.toNatClampNeg) 4096) (lt (σ6.1 (49 + 1) (σ6.1 (3 + 6) x2.toNatClampNeg).toNatClampNeg) (fun v7 => lt (0 : Int32) (fun v8 => fX7_borrowed_l50 FU σ6 x1 v7 v8))))) else some (v5, σ))
def fX7_borrowed (σ : St) (a1 : Int32) (a2 : Int32) : Option (Int32 × St) :=
  bp (fX6_hasGuest σ 3 a2) (fun r9 => if r9 = 0 then fX7_borrowed_b21 σ a1 a2 (-2 : Int32) else bp (fX7_refusalOfDishes σ a1) (fun r10 => fX7_borrowed_b21 σ a1 a2 r10))
def fX7_busy_b28 (σ : St) (x1 : Int32) (x2 : Int32) (x3 : Int32) (y0 : Int32) : Option (Int32 × St) :=
  lt y0 (fun v1 => if v1 = 0 then gd (ir x1 4) (lt (rowp x1.toNatClampNeg) (fun k2 => bp (fX1_cook σ 3 k2) (fun σ3 => gd (ir x2 5) (lt (σ3.1 59 x2.toNatClampNeg) (fun v4 => if x3 = 0 then some (v4, σ3) else gd (ir x2 5) (some (((σ3.1 58 x2.toNatClampNeg) - v4), σ3))))))) else some (v1, σ))
def fX7_busy_b26 (σ : St) (x1 : Int32) (x2 : Int32) (x3 : Int32) : Option (Int32 × St) :=
  fX7_busy_b28 σ x1 x2 x3 (-2 : Int32)
def fX7_busy (σ : St) (a1 : Int32) (a2 : Int32) (a3 : Int32) : Option (Int32 × St) :=
  bp (fX6_hasGuest σ 3 a2) (fun r5 => if r5 = 0 then fX7_busy_b26 σ a1 a2 a3 else bp (fX7_isBit a3) (fun r6 => if r6 = 0 then fX7_busy_b26 σ a1 a2 a3 else bp (fX7_refusalOfPairs σ a1) (fun r7 => fX7_busy_b28 σ a1 a2 a3 r7)))
def fX7_core (σ : St) : Option (Int32 × St) :=
  bp (fX6_isTold σ 3) (fun r1 => if r1 = 0 then some ((-2 : Int32), σ) else bs (fX7_coreSet σ) (fun r2 σ3 => bp (fX7_sizeOrNone r2) (fun r4 => some (r4, σ3))))
def fX7_cored (σ : St) : Option (Int32 × St) :=
  bp (fX6_isTold σ 3) (fun r1 => if r1 = 0 then some ((-2 : Int32), σ) else bs (fX7_coreSet σ) (fun r2 σ3 => some (r2, σ3)))
def fX7_doesTeamProve (σ : St) (a1 : Int32) (a2 : Int32) : Option (Int32 × St) :=
  bp (fX7_freshProofs σ) (fun σ1 => bp (fX6_teamKnows σ1 3 a1) (fun r2 => bp (fX5_leastSet σ1 49 r2 ((1 : Int32) <<< (a2 &&& 31))) (fun r3 => lt r3 (fun v4 => if v4 = (-1 : Int32) then gd ((0 : Int32) = 0 ∨ (0 : Int32) = 1) (some ((0 : Int32), σ1)) else bp (fJ6_bitCount_0f7a4 v4) (fun r5 => bp (fX6_teamCanDo σ1 3 a1) (fun r6 => if r6 < r5 then gd ((0 : Int32) = 0 ∨ (0 : Int32) = 1) (some ((0 : Int32), σ1)) else gd ((1 : Int32) = 0 ∨ (1 : Int32) = 1) (some ((1 : Int32), σ1))))))))
def fX7_guestsProving_B4 (kr4 : St → Int32 → Int32 → Int32 → Option (Int32 × St)) (σ : St) (x1 : Int32) (x2 : Int32) (x3 : Int32) : Option (Int32 × St) :=
  if (σ.1 3 6) ≤ x3 then some (x2, σ) else bp (fX7_freshProofs σ) (fun σ1 => gd (ir x3 5) (bp (fX5_leastSet σ1 49 (σ1.1 (3 + 6) x3.toNatClampNeg) x1) (fun r2 => lt r2 (fun v3 => if v3 = (-1 : Int32) then lt (x3 + 1) (fun v4 => kr4 σ1 x1 x2 v4) else bp (fJ6_bitCount_0f7a4 v3) (fun r5 => bp (fX6_canDo σ1 3 x3) (fun r6 => if r6 < r5 then lt (x3 + 1) (fun v7 => kr4 σ1 x1 x2 v7) else lt (x2 ||| ((1 : Int32) <<< (x3 &&& 31))) (fun v8 => lt (x3 + 1) (fun v9 => kr4 σ1 x1 v8 v9))))))))
def fX7_guestsProving_l4 : Nat → St → Int32 → Int32 → Int32 → Option (Int32 × St)
  | 0 => fun _ _ _ _ => none
  | n + 1 => fX7_guestsProving_B4 (fX7_guestsProving_l4 n)
def fX7_guestsProving (σ : St) (a1 : Int32) : Option (Int32 × St) :=
  lt (0 : Int32) (fun v10 => lt (0 : Int32) (fun v11 => fX7_guestsProving_l4 FU σ a1 v10 v11))
def fX7_kitchen_b19 (σ : St) (x1 : Int32) (x2 : Int32) (y0 : Int32) : Option (Int32 × St) :=
  lt y0 (fun v1 => if v1 = 0 then gd (ir x1 4) (lt (rowp x1.toNatClampNeg) (fun k2 => bp (fX1_cook σ 3 k2) (fun σ3 => if x2 = 0 then some ((σ3.1 55 0), σ3) else if x2 = 1 then some ((σ3.1 55 1), σ3) else bp (fX6_worthOf σ3 3 ((σ3.1 55 2) &&& ((σ3.1 3 7) ^^^ (-1 : Int32)))) (fun r4 => some (r4, σ3))))) else some (v1, σ))
def fX7_kitchen_b17 (σ : St) (x1 : Int32) (x2 : Int32) : Option (Int32 × St) :=
  fX7_kitchen_b19 σ x1 x2 (-2 : Int32)
def fX7_kitchen (σ : St) (a1 : Int32) (a2 : Int32) : Option (Int32 × St) :=
  if a2 < 0 then fX7_kitchen_b17 σ a1 a2 else if (2 : Int32) < a2 then fX7_kitchen_b17 σ a1 a2 else bp (fX7_refusalOfPairs σ a1) (fun r5 => fX7_kitchen_b19 σ a1 a2 r5)
def fX7_leaves (σ : St) : Option (Int32) :=
  bp (fX6_isTold σ 3) (fun r1 => if r1 = 0 then some (-2 : Int32) else bp (fX7_ask σ) (fun r2 => lt r2 (fun v3 => if v3 = (-1 : Int32) then bp (fX6_worldsOf σ 3 (σ.1 3 7)) (fun r5 => bp (fJ6_bitCount_0f7a4 r5) (fun r6 => some r6)) else bp (fX6_leftAtWorst σ 3 v3) (fun r4 => some r4))))
def fX7_lent_B80 (kr80 : St → Int32 → Int32 → Int32 → Int32 → Option (Int32 × St)) (σ : St) (x4 : Int32) (x5 : Int32) (x7 : Int32) (x8 : Int32) : Option (Int32 × St) :=
  if (σ.1 3 6) ≤ x8 then some (x7, σ) else gd (ir x8 5) (gd (ir (x5 ||| (σ.1 (3 + 6) x8.toNatClampNeg)) 4096) (if (x4 &&& ((σ.1 (49 + 1) (x5 ||| (σ.1 (3 + 6) x8.toNatClampNeg)).toNatClampNeg) ^^^ (-1 : Int32))) = 0 then lt (x7 ||| ((1 : Int32) <<< (x8 &&& 31))) (fun v2 => lt (x8 + 1) (fun v3 => kr80 σ x4 x5 v2 v3)) else lt (x8 + 1) (fun v1 => kr80 σ x4 x5 x7 v1)))
def fX7_lent_l80 : Nat → St → Int32 → Int32 → Int32 → Int32 → Option (Int32 × St)
  | 0 => fun _ _ _ _ _ => none
  | n + 1 => fX7_lent_B80 (fX7_lent_l80 n)
def fX7_lent_b21 (σ : St) (x1 : Int32) (x2 : Int32) (y0 : Int32) : Option (Int32 × St) :=
  lt y0 (fun v4 => if v4 = 0 then gd (ir x1 4) (lt (rowp x1.toNatClampNeg) (fun k5 => bp (fX4_asSet σ k5) (fun r6 => lt r6 (fun v7 => gd (ir x2 5) (lt (σ.1 (3 + 6) x2.toNatClampNeg) (fun v8 => bp (fX7_freshProofs σ) (fun σ9 => gd (ir v8 4096) (if (v7 &&& ((σ9.1 (49 + 1) v8.toNatClampNeg) ^^^ (-1 : Int32))) = 0 then some ((0 : Int32), σ9) else lt (0 : Int32) (fun v10 => lt (0 : Int32) (fun v11 => fX7_lent_l80 FU σ9 v7 v8 v10 v11)))))))))) else some (v4, σ))
def fX7_lent (σ : St) (a1 : Int32) (a2 : Int32) : Option (Int32 × St) :=
  bp (fX6_hasGuest σ 3 a2) (fun r12 => if r12 = 0 then fX7_lent_b21 σ a1 a2 (-2 : Int32) else bp (fX7_refusalOfDishes σ a1) (fun r13 => fX7_lent_b21 σ a1 a2 r13))
def fX7_menuSet (σ : St) (a1 : Int32) (a2 : Int32) : Option (Int32 × St) :=
  bp (fX7_freshProofs σ) (fun σ1 => gd (ir a1 5) (bp (fX6_canDo σ1 3 a1) (fun r2 => bp (fX5_menuSet σ1 49 3 ((σ1.1 (3 + 6) a1.toNatClampNeg) &&& (a2 ^^^ (-1 : Int32))) r2) (fun r3 => some (r3, σ1)))))
def fX7_proofs (σ : St) (a1 : Int32) : Option (Int32 × St) :=
  bp (fX6_hasClaim σ 3 a1) (fun r1 => if r1 = 0 then some ((-2 : Int32), σ) else bp (fX7_freshProofs σ) (fun σ2 => bp (fX6_allSteps σ2 3) (fun r3 => bp (fX5_countLeast σ2 49 r3 a1) (fun r4 => some (r4, σ2)))))
def fX7_provedByAll (σ : St) : Option (Int32 × St) :=
  bp (fX7_freshProofs σ) (fun σ1 => bp (fX6_allSteps σ1 3) (fun r2 => gd (ir r2 4096) (some ((σ1.1 (49 + 1) r2.toNatClampNeg), σ1))))
def fX7_provedWithout (σ : St) (a1 : Int32) : Option (Int32 × St) :=
  bp (fX7_freshProofs σ) (fun σ1 => bp (fX6_allSteps σ1 3) (fun r2 => gd (ir (r2 &&& (((1 : Int32) <<< (a1 &&& 31)) ^^^ (-1 : Int32))) 4096) (some ((σ1.1 (49 + 1) (r2 &&& (((1 : Int32) <<< (a1 &&& 31)) ^^^ (-1 : Int32))).toNatClampNeg), σ1))))
def fX7_shares_b21 (σ : St) (x1 : Int32) (x2 : Int32) (y0 : Int32) : Option (Int32 × St) :=
  lt y0 (fun v1 => if v1 = 0 then gd (ir x1 4) (lt (rowp x1.toNatClampNeg) (fun k2 => bp (fX1_cook σ 3 k2) (fun σ3 => gd (ir x2 12) (some ((σ3.1 57 x2.toNatClampNeg), σ3))))) else some (v1, σ))
def fX7_shares (σ : St) (a1 : Int32) (a2 : Int32) : Option (Int32 × St) :=
  bp (fX6_hasClaim σ 3 a2) (fun r4 => if r4 = 0 then fX7_shares_b21 σ a1 a2 (-2 : Int32) else bp (fX7_refusalOfPairs σ a1) (fun r5 => fX7_shares_b21 σ a1 a2 r5))
def fX7_shortestSet (σ : St) (a1 : Int32) : Option (Int32 × St) :=
  bp (fX7_freshProofs σ) (fun σ1 => bp (fX6_allSteps σ1 3) (fun r2 => bp (fX5_leastSet σ1 49 r2 ((1 : Int32) <<< (a1 &&& 31))) (fun r3 => some (r3, σ1))))
def fX7_spare (σ : St) (a1 : Int32) : Option (Int32 × St) :=
  bp (fX6_isClaimSet σ 3 a1) (fun r1 => if r1 = 0 then some ((-2 : Int32), σ) else bs (fX7_leastSaltFor σ a1) (fun r2 σ3 => bp (fX7_sizeOrNone r2) (fun r4 => some (r4, σ3))))
def fX7_spared (σ : St) (a1 : Int32) : Option (Int32 × St) :=
  bp (fX6_isClaimSet σ 3 a1) (fun r1 => if r1 = 0 then some ((-2 : Int32), σ) else bs (fX7_leastSaltFor σ a1) (fun r2 σ3 => some (r2, σ3)))
def fX7_takes (σ : St) (a1 : Int32) (a2 : Int32) : Option (Int32 × St) :=
  bp (fX6_hasGuest σ 3 a1) (fun r1 => if r1 = 0 then some ((-2 : Int32), σ) else bp (fX6_isClaimSet σ 3 a2) (fun r2 => if r2 = 0 then some ((-2 : Int32), σ) else bp (fX7_freshProofs σ) (fun σ3 => gd (ir a1 5) (bp (fX5_leastSet σ3 49 (σ3.1 (3 + 6) a1.toNatClampNeg) a2) (fun r4 => lt r4 (fun v5 => if v5 = (-1 : Int32) then some ((-1 : Int32), σ3) else bp (fJ6_bitCount_0f7a4 v5) (fun r6 => gd (ir a1 5) (some ((r6 * (σ3.1 (3 + 5) a1.toNatClampNeg)), σ3)))))))))
def fX7_when_b21 (σ : St) (x1 : Int32) (x2 : Int32) (y0 : Int32) : Option (Int32 × St) :=
  lt y0 (fun v1 => if v1 = 0 then gd (ir x1 4) (lt (rowp x1.toNatClampNeg) (fun k2 => bp (fX1_cook σ 3 k2) (fun σ3 => gd (ir x2 12) (some ((σ3.1 56 x2.toNatClampNeg), σ3))))) else some (v1, σ))
def fX7_when (σ : St) (a1 : Int32) (a2 : Int32) : Option (Int32 × St) :=
  bp (fX6_hasClaim σ 3 a2) (fun r4 => if r4 = 0 then fX7_when_b21 σ a1 a2 (-2 : Int32) else bp (fX7_refusalOfPairs σ a1) (fun r5 => fX7_when_b21 σ a1 a2 r5))
def fX2_isWord_B28 (σ : St) (w : Nat) (kr28 : Int32 → Option (Int32)) (x2 : Int32) : Option (Int32) :=
  if (slenI w) ≤ x2 then gd ((1 : Int32) = 0 ∨ (1 : Int32) = 1) (some (1 : Int32)) else gd (ir ((σ.1 1 5) + x2) 1600) (gd (ir x2 (slen.getD w 0)) (if (σ.1 2 ((σ.1 1 5) + x2).toNatClampNeg) = (scha w x2.toNatClampNeg) then lt (x2 + 1) (fun v3 => kr28 v3) else gd ((0 : Int32) = 0 ∨ (0 : Int32) = 1) (some (0 : Int32))))
def fX2_isWord_l28 (σ : St) (w : Nat) : Nat → Int32 → Option (Int32)
  | 0 => fun _ => none
  | n + 1 => fX2_isWord_B28 σ w (fX2_isWord_l28 σ w n)
def fX2_isWord (σ : St) (w : Nat) : Option (Int32) :=
  if (σ.1 1 4) = (1 : Int32) then if ((σ.1 1 6) - (σ.1 1 5)) = (slenI w) then lt (0 : Int32) (fun v5 => fX2_isWord_l28 σ w FU v5) else gd ((0 : Int32) = 0 ∨ (0 : Int32) = 1) (some (0 : Int32)) else gd ((0 : Int32) = 0 ∨ (0 : Int32) = 1) (some (0 : Int32))
def fX8_canProve (σ : St) (a1 : Int32) (a2 : Int32) : Option (Int32) :=
  bp (fX8_saltNow σ) (fun r1 => bp (fX8_ofGuest σ a1 (1 : Int32)) (fun r2 => bp (fX8_fewestSteps σ r1 r2 a2) (fun r3 => lt r3 (fun v4 => if v4 = (-1 : Int32) then gd ((0 : Int32) = 0 ∨ (0 : Int32) = 1) (some (0 : Int32)) else bp (fX8_bits v4) (fun r5 => bp (fX8_canDo σ a1) (fun r6 => if r6 < r5 then gd ((0 : Int32) = 0 ∨ (0 : Int32) = 1) (some (0 : Int32)) else gd ((1 : Int32) = 0 ∨ (1 : Int32) = 1) (some (1 : Int32))))))))
def fX8_canTogether_b38 (σ : St) (kr5 : Int32 → Int32 → Int32 → Int32 → Option (Int32)) (x1 : Int32) (x2 : Int32) (x4 : Int32) (y0 : Int32) (y1 : Int32) : Option (Int32) :=
  lt (y0 ||| y1) (fun v1 => lt (x4 + 1) (fun v2 => kr5 x1 x2 v1 v2))
def fX8_canTogether_B5 (σ : St) (kr5 : Int32 → Int32 → Int32 → Int32 → Option (Int32)) (x1 : Int32) (x2 : Int32) (x3 : Int32) (x4 : Int32) : Option (Int32) :=
  gd (ir (5 : Int32) 70) (if (σ.1 63 (5 : Int32).toNatClampNeg) ≤ x4 then bp (fX8_saltNow σ) (fun r3 => bp (fX8_fewestSteps σ r3 x3 ((1 : Int32) <<< (x2 &&& 31))) (fun r4 => lt r4 (fun v5 => if v5 = (-1 : Int32) then gd ((0 : Int32) = 0 ∨ (0 : Int32) = 1) (some (0 : Int32)) else bp (fX8_bits v5) (fun r6 => bp (fX8_strengthOf σ x1) (fun r7 => if r7 < r6 then gd ((0 : Int32) = 0 ∨ (0 : Int32) = 1) (some (0 : Int32)) else gd ((1 : Int32) = 0 ∨ (1 : Int32) = 1) (some (1 : Int32))))))) else bp (fX8_bit x1 x4) (fun r8 => if r8 = (1 : Int32) then bp (fX8_ofGuest σ x4 (1 : Int32)) (fun r9 => fX8_canTogether_b38 σ kr5 x1 x2 x4 x3 r9) else fX8_canTogether_b38 σ kr5 x1 x2 x4 x3 (0 : Int32)))
def fX8_canTogether_l5 (σ : St) : Nat → Int32 → Int32 → Int32 → Int32 → Option (Int32)
  | 0 => fun _ _ _ _ => none
  | n + 1 => fX8_canTogether_B5 σ (fX8_canTogether_l5 σ n)
def fX8_canTogether (σ : St) (a1 : Int32) (a2 : Int32) : Option (Int32) :=
  lt (0 : Int32) (fun v10 => lt (0 : Int32) (fun v11 => fX8_canTogether_l5 σ FU a1 a2 v10 v11))
def fX8_core (σ : St) : Option (Int32) :=
  bp (fX8_isTable σ) (fun r1 => if r1 = 0 then some (-2 : Int32) else bp (fX8_coreOf σ) (fun r2 => lt r2 (fun v3 => if v3 = (-1 : Int32) then some (-1 : Int32) else bp (fX8_bits v3) (fun r4 => some r4))))
def fX8_cored (σ : St) : Option (Int32) :=
  bp (fX8_isTable σ) (fun r1 => if r1 = 0 then some (-2 : Int32) else bp (fX8_coreOf σ) (fun r2 => some r2))
def fX8_counter (σ : St) (a1 : Int32) : Option (Int32) :=
  bp (fX8_isClaim σ (a1.toInt64)) (fun r1 => if r1 = 0 then some (-2 : Int32) else bp (fX8_saltedNow σ) (fun r2 => bp (fX8_ofClaim σ a1 (2 : Int32)) (fun r3 => bp (fX8_lowest (r2 &&& (r3 ^^^ (-1 : Int32)))) (fun r4 => some r4))))
def fX8_falls (σ : St) (a1 : Int32) : Option (Int32) :=
  bp (fX8_isClaim σ (a1.toInt64)) (fun r1 => if r1 = 0 then some (-2 : Int32) else bp (fX8_ofClaim σ a1 (1 : Int32)) (fun r2 => if r2 = 0 then some (-2 : Int32) else bp (fX8_provedNow σ) (fun r3 => bp (fX8_saltNow σ) (fun r4 => bp (fX8_allSteps σ) (fun r5 => bp (fX8_provedBy σ (r4 &&& (((1 : Int32) <<< (a1 &&& 31)) ^^^ (-1 : Int32))) r5) (fun r6 => some (r3 &&& (r6 ^^^ (-1 : Int32)))))))))
def fX8_falsity (σ : St) (a1 : Int32) : Option (Int32) :=
  bp (fX8_isStep σ (a1.toInt64)) (fun r1 => if r1 = 0 then some (-2 : Int32) else bp (fX8_falseIn σ a1) (fun r2 => bp (fX8_lowest r2) (fun r3 => some r3)))
def fX8_feastOf (σ : St) (a1 : Int64) (a3 : Int32) : Option (Int32 × St) :=
  bp (fX8_saltNow σ) (fun r1 => bp (fX8_ofGuest σ a3 (1 : Int32)) (fun r2 => bp (fX8_holesBy σ a1) (fun r3 => bp (fX8_canDo σ a3) (fun r4 => bs (fX8_mostBy σ r1 (r2 &&& (r3 ^^^ (-1 : Int32))) r4) (fun r5 σ6 => some (r5, σ6))))))
def fX8_is_B39 (σ : St) (w : Nat) (kr39 : Int32 → Int32 → Option (Int32)) (x2 : Int32) (x3 : Int32) : Option (Int32) :=
  if (slenI w) ≤ x3 then gd (x2 = 0 ∨ x2 = 1) (some x2) else if x2 = 0 then gd (x2 = 0 ∨ x2 = 1) (some x2) else gd (ir ((σ.1 62 9) + x3) 1600) (gd (ir x3 (slen.getD w 0)) (if (σ.1 66 ((σ.1 62 9) + x3).toNatClampNeg) = (scha w x3.toNatClampNeg) then lt (1 : Int32) (fun v5 => lt (x3 + 1) (fun v6 => kr39 v5 v6)) else lt (0 : Int32) (fun v3 => lt (x3 + 1) (fun v4 => kr39 v3 v4))))
def fX8_is_l39 (σ : St) (w : Nat) : Nat → Int32 → Int32 → Option (Int32)
  | 0 => fun _ _ => none
  | n + 1 => fX8_is_B39 σ w (fX8_is_l39 σ w n)
def fX8_is_b36 (σ : St) (w : Nat) (y0 : Int32) : Option (Int32) :=
  lt y0 (fun v7 => lt (0 : Int32) (fun v8 => fX8_is_l39 σ w FU v7 v8))
def fX8_is_b35 (σ : St) (w : Nat) : Option (Int32) :=
  fX8_is_b36 σ w (0 : Int32)
def fX8_is (σ : St) (w : Nat) : Option (Int32) :=
  bp (fX8_good σ) (fun r9 => if r9 = 0 then fX8_is_b35 σ w else if (σ.1 62 10) = (1 : Int32) then if ((σ.1 62 8) - (σ.1 62 9)) = (slenI w) then fX8_is_b36 σ w (1 : Int32) else fX8_is_b35 σ w else fX8_is_b35 σ w)
def fX8_isFollowing (σ : St) (a1 : Int32) : Option (Int32) :=
  bp (fX8_saltedNow σ) (fun r1 => bp (fX8_ofClaim σ a1 (2 : Int32)) (fun r2 => if (r1 &&& (r2 ^^^ (-1 : Int32))) = 0 then gd ((1 : Int32) = 0 ∨ (1 : Int32) = 1) (some (1 : Int32)) else gd ((0 : Int32) = 0 ∨ (0 : Int32) = 1) (some (0 : Int32))))
def fX8_isLeastProof_B13 (σ : St) (kr13 : Int32 → Int32 → Int32 → Option (Int32)) (x1 : Int32) (x2 : Int32) (x3 : Int32) : Option (Int32) :=
  gd (ir (4 : Int32) 70) (if (σ.1 63 (4 : Int32).toNatClampNeg) ≤ x3 then gd ((1 : Int32) = 0 ∨ (1 : Int32) = 1) (some (1 : Int32)) else bp (fX8_bit x1 x3) (fun r1 => if r1 = (1 : Int32) then bp (fX8_isProvedBy σ (x1 &&& (((1 : Int32) <<< (x3 &&& 31)) ^^^ (-1 : Int32))) x2) (fun r3 => if r3 = 0 then lt (x3 + 1) (fun v4 => kr13 x1 x2 v4) else gd ((0 : Int32) = 0 ∨ (0 : Int32) = 1) (some (0 : Int32))) else lt (x3 + 1) (fun v2 => kr13 x1 x2 v2)))
def fX8_isLeastProof_l13 (σ : St) : Nat → Int32 → Int32 → Int32 → Option (Int32)
  | 0 => fun _ _ _ => none
  | n + 1 => fX8_isLeastProof_B13 σ (fX8_isLeastProof_l13 σ n)
def fX8_isLeastProof (σ : St) (a1 : Int32) (a2 : Int32) : Option (Int32) :=
  bp (fX8_isProvedBy σ a1 a2) (fun r5 => if r5 = 0 then gd ((0 : Int32) = 0 ∨ (0 : Int32) = 1) (some (0 : Int32)) else lt (0 : Int32) (fun v6 => fX8_isLeastProof_l13 σ FU a1 a2 v6))
def fX8_likely (σ : St) (a1 : Int32) (a2 : Int32) : Option (Int32) :=
  bp (fX8_isClaim σ (a1.toInt64)) (fun r1 => if r1 = 0 then some (-2 : Int32) else bp (fX8_in (a2.toInt64) (0 : Int64) (1 : Int64)) (fun r2 => if r2 = 0 then some (-2 : Int32) else bp (fX8_saltedNow σ) (fun r3 => lt r3 (fun v4 => if v4 = 0 then some a2 else bp (fX8_ofClaim σ a1 (2 : Int32)) (fun r5 => bp (fX8_bits (v4 &&& r5)) (fun r6 => bp (fX8_bits v4) (fun r7 => bp (fX8_part r6 r7 a2) (fun r8 => some r8))))))))
def fX8_menuOf (σ : St) (a1 : Int32) : Option (Int32 × St) :=
  bp (fX8_saltNow σ) (fun r1 => bp (fX8_ofGuest σ a1 (1 : Int32)) (fun r2 => bp (fX8_canDo σ a1) (fun r3 => bs (fX8_mostBy σ r1 r2 r3) (fun r4 σ5 => some (r4, σ5)))))
def fX8_needs__b66 (σ : St) (kr30 : Int32 → Int32 → Int32 → Option (Int32)) (x1 : Int32) (x3 : Int32) (y0 : Int32) (y1 : Int32) : Option (Int32) :=
  lt (y0 ||| y1) (fun v1 => lt (x3 + 1) (fun v2 => kr30 x1 v1 v2))
def fX8_needs__B30 (σ : St) (kr30 : Int32 → Int32 → Int32 → Option (Int32)) (x1 : Int32) (x2 : Int32) (x3 : Int32) : Option (Int32) :=
  gd (ir (4 : Int32) 70) (if (σ.1 63 (4 : Int32).toNatClampNeg) ≤ x3 then some x2 else bp (fX8_allSteps σ) (fun r3 => bp (fX8_isProvedBy σ (r3 &&& (((1 : Int32) <<< (x3 &&& 31)) ^^^ (-1 : Int32))) x1) (fun r4 => if r4 = 0 then fX8_needs__b66 σ kr30 x1 x3 x2 ((1 : Int32) <<< (x3 &&& 31)) else fX8_needs__b66 σ kr30 x1 x3 x2 (0 : Int32))))
def fX8_needs__l30 (σ : St) : Nat → Int32 → Int32 → Int32 → Option (Int32)
  | 0 => fun _ _ _ => none
  | n + 1 => fX8_needs__B30 σ (fX8_needs__l30 σ n)
def fX8_needs_ (σ : St) (a1 : Int32) : Option (Int32) :=
  bp (fX8_isClaim σ (a1.toInt64)) (fun r5 => if r5 = 0 then some (-2 : Int32) else bp (fX8_allSteps σ) (fun r6 => bp (fX8_isProvedBy σ r6 a1) (fun r7 => if r7 = 0 then some (-1 : Int32) else lt (0 : Int32) (fun v8 => lt (0 : Int32) (fun v9 => fX8_needs__l30 σ FU a1 v8 v9)))))
def fX8_proofOf (σ : St) (a1 : Int32) : Option (Int32) :=
  bp (fX8_saltNow σ) (fun r1 => bp (fX8_allSteps σ) (fun r2 => bp (fX8_fewestSteps σ r1 r2 ((1 : Int32) <<< (a1 &&& 31))) (fun r3 => some r3)))
def fX8_proved (σ : St) : Option (Int32) :=
  bp (fX8_isTable σ) (fun r1 => if r1 = 0 then some (-2 : Int32) else bp (fX8_provedNow σ) (fun r2 => some r2))
def fX8_readSalt_b38 (σ : St) : Option (St) :=
  bs (fX8_freshClaim σ) (fun r1 σ2 => lt r1 (fun v3 => bp (fX8_good σ2) (fun r4 => if r4 = 0 then some σ2 else gd (ir (((7 : Int32) + ((3 : Int32) * v3)) + (1 : Int32)) 70) (lt (setI σ2 68 (((7 : Int32) + ((3 : Int32) * v3)) + (1 : Int32)).toNatClampNeg (1 : Int32)) (fun σ5 => some σ5)))))
def fX8_readSalt (σ : St) : Option (St) :=
  gd (ir (3 : Int32) 70) (bp (fX8_isNextIn σ (σ.1 68 (3 : Int32).toNatClampNeg)) (fun r6 => if r6 = 0 then fX8_readSalt_b38 σ else gd (ir (((7 : Int32) + ((3 : Int32) * (σ.1 62 11))) + (1 : Int32)) 70) (if (σ.1 68 (((7 : Int32) + ((3 : Int32) * (σ.1 62 11))) + (1 : Int32)).toNatClampNeg) = (1 : Int32) then bp (fX8_errs σ (2 : Int32)) (fun σ7 => fX8_readSalt_b38 σ7) else fX8_readSalt_b38 σ)))
def fX8_rests (σ : St) (a1 : Int32) : Option (Int32) :=
  bp (fX8_isStep σ (a1.toInt64)) (fun r1 => if r1 = 0 then some (-2 : Int32) else bp (fX8_provedNow σ) (fun r2 => bp (fX8_saltNow σ) (fun r3 => bp (fX8_allSteps σ) (fun r4 => bp (fX8_provedBy σ r3 (r4 &&& (((1 : Int32) <<< (a1 &&& 31)) ^^^ (-1 : Int32)))) (fun r5 => some (r2 &&& (r5 ^^^ (-1 : Int32))))))))
def fX8_salted (σ : St) : Option (Int32) :=
  bp (fX8_isTable σ) (fun r1 => if r1 = 0 then some (-2 : Int32) else bp (fX8_saltedNow σ) (fun r2 => some r2))
def fX8_same_b35 (σ : St) (x1 : Int32) (x2 : Int32) (x3 : Int32) (y0 : Int32) : Option (Int32 × St) :=
  lt y0 (fun v1 => if v1 = 0 then some ((-2 : Int32), σ) else gd (ir x1 4) (if (σ.1 78 x1.toNatClampNeg) = (-1 : Int32) then some ((-6 : Int32), σ) else gd (ir x2 4) (if (σ.1 78 x2.toNatClampNeg) = (-1 : Int32) then some ((-6 : Int32), σ) else bp (fX8_asksRow σ x1 (1 : Int32)) (fun r2 => if r2 < 0 then some ((-2 : Int32), σ) else bp (fX8_asksRow σ x2 (1 : Int32)) (fun r3 => if 0 ≤ r3 then bs (fX8_usedBy σ x1 x3) (fun r4 σ5 => bs (fX8_usedBy σ5 x2 x3) (fun r6 σ7 => if r4 = r6 then some ((1 : Int32), σ7) else some ((0 : Int32), σ7))) else some ((-2 : Int32), σ))))))
def fX8_same_b34 (σ : St) (x1 : Int32) (x2 : Int32) (x3 : Int32) : Option (Int32 × St) :=
  fX8_same_b35 σ x1 x2 x3 (0 : Int32)
def fX8_same (σ : St) (a1 : Int32) (a2 : Int32) (a3 : Int32) : Option (Int32 × St) :=
  bp (fX8_isSlot a1) (fun r8 => if r8 = 0 then fX8_same_b34 σ a1 a2 a3 else bp (fX8_isSlot a2) (fun r9 => if r9 = 0 then fX8_same_b34 σ a1 a2 a3 else bp (fX8_isTable σ) (fun r10 => if r10 = 0 then fX8_same_b34 σ a1 a2 a3 else bp (fX8_isClaim σ (a3.toInt64)) (fun r11 => if r11 = 0 then fX8_same_b34 σ a1 a2 a3 else fX8_same_b35 σ a1 a2 a3 (1 : Int32)))))
def fX8_spare (σ : St) (a1 : Int32) : Option (Int32) :=
  bp (fX8_areClaims σ a1) (fun r1 => if r1 = 0 then some (-2 : Int32) else bp (fX8_spareOf σ a1) (fun r2 => lt r2 (fun v3 => if v3 = (-1 : Int32) then some (-1 : Int32) else bp (fX8_bits v3) (fun r4 => some r4))))
def fX8_spared (σ : St) (a1 : Int32) : Option (Int32) :=
  bp (fX8_areClaims σ a1) (fun r1 => if r1 = 0 then some (-2 : Int32) else bp (fX8_spareOf σ a1) (fun r2 => some r2))
def fX8_step (σ : St) (a1 : Int32) (a2 : Int32) : Option (Int32) :=
  bp (fX8_isStep σ (a1.toInt64)) (fun r1 => if r1 = 0 then some (-2 : Int32) else bp (fX8_in (a2.toInt64) (0 : Int64) (2 : Int64)) (fun r2 => if r2 = 0 then some (-2 : Int32) else if (2 : Int32) ≤ a2 then bp (fX8_falseIn σ a1) (fun r3 => if r3 = 0 then some (1 : Int32) else some (0 : Int32)) else bp (fX8_ofStep σ a1 a2) (fun r4 => some r4)))
def fX8_takes_ (σ : St) (a1 : Int32) (a2 : Int32) : Option (Int32) :=
  bp (fX8_isGuest σ (a1.toInt64)) (fun r1 => if r1 = 0 then some (-2 : Int32) else bp (fX8_areClaims σ a2) (fun r2 => if r2 = 0 then some (-2 : Int32) else bp (fX8_saltNow σ) (fun r3 => bp (fX8_ofGuest σ a1 (1 : Int32)) (fun r4 => bp (fX8_fewestSteps σ r3 r4 a2) (fun r5 => lt r5 (fun v6 => if v6 = (-1 : Int32) then some (-1 : Int32) else bp (fX8_bits v6) (fun r7 => bp (fX8_ofGuest σ a1 (0 : Int32)) (fun r8 => some (r7 * r8)))))))))
def fX8_used (σ : St) (a1 : Int32) (a2 : Int32) : Option (Int32 × St) :=
  bp (fX8_isClaim σ (a2.toInt64)) (fun r1 => bp (fX8_asksRow σ a1 r1) (fun r2 => lt r2 (fun v3 => if 0 ≤ v3 then bs (fX8_usedBy σ a1 a2) (fun r4 σ5 => some (r4, σ5)) else some (v3, σ))))
def fX8_worstOf (σ : St) (a1 : Int32) : Option (Int32) :=
  bp (fX8_saltedNow σ) (fun r1 => bp (fX8_ofClaim σ a1 (2 : Int32)) (fun r2 => bp (fX8_bits (r1 &&& r2)) (fun r3 => lt r3 (fun v4 => bp (fX8_saltedNow σ) (fun r5 => bp (fX8_bits r5) (fun r6 => some (if v4 < (r6 - v4) then (r6 - v4) else v4)))))))
def fX7_ate (σ : St) (a1 : Int32) : Option (Int32 × St) :=
  bp (fX7_refusalOfDishes σ a1) (fun r1 => lt r1 (fun v2 => if v2 = 0 then gd (ir a1 4) (lt (rowp a1.toNatClampNeg) (fun k3 => bp (fX4_asSet σ k3) (fun r4 => bs (fX7_guestsProving σ r4) (fun r5 σ6 => some (r5, σ6))))) else some (v2, σ)))
def fX7_bite_B51 (kr51 : St → Int32 → Int32 → Int32 → Int32 → Option (Int32 × St)) (σ : St) (x2 : Int32) (x3 : Int32) (x4 : Int32) (x5 : Int32) : Option (Int32 × St) :=
  if x2 ≤ x5 then bp (fX6_firstGoing σ 3 x3 x4) (fun r1 => some (r1, σ)) else bp (fX6_firstGoing σ 3 x3 x4) (fun r2 => lt r2 (fun v3 => if v3 = (-1 : Int32) then some ((-1 : Int32), σ) else gd (ir v3 12) (lt (x4 ||| ((1 : Int32) <<< ((σ.1 (3 + 3) v3.toNatClampNeg) &&& 31))) (fun v4 => lt (x5 + 1) (fun v5 => kr51 σ x2 x3 v4 v5)))))
def fX7_bite_l51 : Nat → St → Int32 → Int32 → Int32 → Int32 → Option (Int32 × St)
  | 0 => fun _ _ _ _ _ => none
  | n + 1 => fX7_bite_B51 (fX7_bite_l51 n)
def fX7_bite (σ : St) (a1 : Int32) (a2 : Int32) : Option (Int32 × St) :=
  bp (fX6_hasClaim σ 3 a1) (fun r6 => if r6 = 0 then some ((-2 : Int32), σ) else bs (fX7_shortestSet σ a1) (fun r7 σ8 => lt r7 (fun v9 => if v9 = (-1 : Int32) then some ((-1 : Int32), σ8) else if a2 < 0 then some ((-1 : Int32), σ8) else bp (fJ6_bitCount_0f7a4 v9) (fun r10 => if a2 < r10 then lt (σ8.1 3 7) (fun v11 => lt (0 : Int32) (fun v12 => fX7_bite_l51 FU σ8 a2 v9 v11 v12)) else some ((-1 : Int32), σ8)))))
def fX7_course (σ : St) (a1 : Int32) : Option (Int32 × St) :=
  bp (fX6_hasGuest σ 3 a1) (fun r1 => if r1 = 0 then some ((-2 : Int32), σ) else bs (fX7_menuSet σ a1 (0 : Int32)) (fun r2 σ3 => some (r2, σ3)))
def fX7_covered (σ : St) : Option (Int32 × St) :=
  bp (fX6_isTold σ 3) (fun r1 => if r1 = 0 then some ((-2 : Int32), σ) else bp (fX6_following σ 3) (fun r2 => bs (fX7_provedByAll σ) (fun r3 σ4 => some ((r2 &&& (r3 ^^^ (-1 : Int32))), σ4))))
def fX7_dishes (σ : St) (a1 : Int32) : Option (Int32 × St) :=
  bp (fX6_hasGuest σ 3 a1) (fun r1 => if r1 = 0 then some ((-2 : Int32), σ) else bp (fX7_freshProofs σ) (fun σ2 => bs (fX7_menuSet σ2 a1 (0 : Int32)) (fun r3 σ4 => gd (ir r3 4096) (some (((σ4.1 (49 + 1) r3.toNatClampNeg) &&& ((σ4.1 3 7) ^^^ (-1 : Int32))), σ4)))))
def fX7_falls (σ : St) (a1 : Int32) : Option (Int32 × St) :=
  bp (fX6_hasClaim σ 3 a1) (fun r1 => if r1 = 0 then some ((-2 : Int32), σ) else if (((σ.1 3 7) >>> (a1 &&& 31)) &&& (1 : Int32)) = 0 then some ((-2 : Int32), σ) else bs (fX7_provedByAll σ) (fun r2 σ3 => bp (fX6_allSteps σ3 3) (fun r4 => bp (fX6_spread σ3 3 r4 ((σ3.1 3 7) &&& (((1 : Int32) <<< (a1 &&& 31)) ^^^ (-1 : Int32)))) (fun r5 => some ((r2 &&& (r5 ^^^ (-1 : Int32))), σ3)))))
def fX7_host_B16 (kr16 : St → Int32 → Int32 → Option (Int32 × St)) (σ : St) (x1 : Int32) (x2 : Int32) : Option (Int32 × St) :=
  if (σ.1 3 4) ≤ x2 then some ((-1 : Int32), σ) else bs (fX7_guestsProving σ ((1 : Int32) <<< (x2 &&& 31))) (fun r1 σ2 => if r1 = x1 then some (x2, σ2) else lt (x2 + 1) (fun v3 => kr16 σ2 x1 v3))
def fX7_host_l16 : Nat → St → Int32 → Int32 → Option (Int32 × St)
  | 0 => fun _ _ _ => none
  | n + 1 => fX7_host_B16 (fX7_host_l16 n)
def fX7_host (σ : St) (a1 : Int32) : Option (Int32 × St) :=
  bp (fX6_isGuestSet σ 3 a1) (fun r4 => if r4 = 0 then some ((-2 : Int32), σ) else lt (0 : Int32) (fun v5 => fX7_host_l16 FU σ a1 v5))
def fX7_leastTeam_B8 (kr8 : St → Int32 → Int32 → Int32 → Int32 → Option (Int32 × St)) (σ : St) (x1 : Int32) (x2 : Int32) (x3 : Int32) (x4 : Int32) : Option (Int32 × St) :=
  if ((1 : Int32) <<< ((σ.1 3 6) &&& 31)) ≤ x4 then some (x2, σ) else bp (fJ6_bitCount_0f7a4 x4) (fun r1 => lt r1 (fun v2 => if x3 ≤ v2 then lt (x4 + 1) (fun v3 => kr8 σ x1 x2 x3 v3) else bs (fX7_doesTeamProve σ x4 x1) (fun r4 σ5 => if r4 = 0 then lt (x4 + 1) (fun v6 => kr8 σ5 x1 x2 x3 v6) else lt x4 (fun v7 => lt v2 (fun v8 => lt (x4 + 1) (fun v9 => kr8 σ5 x1 v7 v8 v9))))))
def fX7_leastTeam_l8 : Nat → St → Int32 → Int32 → Int32 → Int32 → Option (Int32 × St)
  | 0 => fun _ _ _ _ _ => none
  | n + 1 => fX7_leastTeam_B8 (fX7_leastTeam_l8 n)
def fX7_leastTeam (σ : St) (a1 : Int32) : Option (Int32 × St) :=
  lt (-1 : Int32) (fun v10 => lt (6 : Int32) (fun v11 => lt (0 : Int32) (fun v12 => fX7_leastTeam_l8 FU σ a1 v10 v11 v12)))
def fX7_lengthOfDuel (σ : St) : Option (Int32 × St) :=
  bs (fX7_provedByAll σ) (fun r1 σ2 => bp (fJ6_bitCount_0f7a4 (r1 &&& ((σ2.1 3 7) ^^^ (-1 : Int32)))) (fun r3 => some (r3, σ2)))
def fX7_menuWorth (σ : St) (a1 : Int32) (a2 : Int32) : Option (Int32 × St) :=
  bp (fX7_freshProofs σ) (fun σ1 => bs (fX7_menuSet σ1 a1 a2) (fun r2 σ3 => gd (ir r2 4096) (bp (fX6_worthOf σ3 3 ((σ3.1 (49 + 1) r2.toNatClampNeg) &&& ((σ3.1 3 7) ^^^ (-1 : Int32)))) (fun r4 => some (r4, σ3)))))
def fX7_needs_B31 (kr31 : St → Int32 → Int32 → Int32 → Option (Int32 × St)) (σ : St) (x1 : Int32) (x2 : Int32) (x3 : Int32) : Option (Int32 × St) :=
  if (σ.1 3 5) ≤ x3 then some (x2, σ) else bs (fX7_provedWithout σ x3) (fun r1 σ2 => if ((r1 >>> (x1 &&& 31)) &&& (1 : Int32)) = 0 then lt (x2 ||| ((1 : Int32) <<< (x3 &&& 31))) (fun v4 => lt (x3 + 1) (fun v5 => kr31 σ2 x1 v4 v5)) else lt (x3 + 1) (fun v3 => kr31 σ2 x1 x2 v3))
def fX7_needs_l31 : Nat → St → Int32 → Int32 → Int32 → Option (Int32 × St)
  | 0 => fun _ _ _ _ => none
  | n + 1 => fX7_needs_B31 (fX7_needs_l31 n)
def fX7_needs (σ : St) (a1 : Int32) : Option (Int32 × St) :=
  bp (fX6_hasClaim σ 3 a1) (fun r6 => if r6 = 0 then some ((-2 : Int32), σ) else bs (fX7_provedByAll σ) (fun r7 σ8 => if ((r7 >>> (a1 &&& 31)) &&& (1 : Int32)) = 0 then some ((-1 : Int32), σ8) else lt (0 : Int32) (fun v9 => lt (0 : Int32) (fun v10 => fX7_needs_l31 FU σ8 a1 v9 v10))))
def fX7_proof (σ : St) (a1 : Int32) : Option (Int32 × St) :=
  bp (fX6_hasClaim σ 3 a1) (fun r1 => if r1 = 0 then some ((-2 : Int32), σ) else bs (fX7_shortestSet σ a1) (fun r2 σ3 => some (r2, σ3)))
def fX7_proved (σ : St) : Option (Int32 × St) :=
  bp (fX6_isTold σ 3) (fun r1 => if r1 = 0 then some ((-2 : Int32), σ) else bs (fX7_provedByAll σ) (fun r2 σ3 => some (r2, σ3)))
def fX7_rests (σ : St) (a1 : Int32) : Option (Int32 × St) :=
  bp (fX6_hasStep σ 3 a1) (fun r1 => if r1 = 0 then some ((-2 : Int32), σ) else bs (fX7_provedByAll σ) (fun r2 σ3 => bs (fX7_provedWithout σ3 a1) (fun r4 σ5 => some ((r2 &&& (r4 ^^^ (-1 : Int32))), σ5))))
def fX7_shortest (σ : St) (a1 : Int32) : Option (Int32 × St) :=
  bp (fX6_hasClaim σ 3 a1) (fun r1 => if r1 = 0 then some ((-2 : Int32), σ) else bs (fX7_shortestSet σ a1) (fun r2 σ3 => bp (fX7_sizeOrNone r2) (fun r4 => some (r4, σ3))))
def fX7_together (σ : St) (a1 : Int32) (a2 : Int32) : Option (Int32 × St) :=
  bp (fX6_isGuestSet σ 3 a1) (fun r1 => if r1 = 0 then some ((-2 : Int32), σ) else bp (fX6_hasClaim σ 3 a2) (fun r2 => if r2 = 0 then some ((-2 : Int32), σ) else bs (fX7_doesTeamProve σ a1 a2) (fun r3 σ4 => bp (fX7_bit r3) (fun r5 => some (r5, σ4)))))
def fX7_who (σ : St) (a1 : Int32) : Option (Int32 × St) :=
  bp (fX6_hasClaim σ 3 a1) (fun r1 => if r1 = 0 then some ((-2 : Int32), σ) else bs (fX7_guestsProving σ ((1 : Int32) <<< (a1 &&& 31))) (fun r2 σ3 => some (r2, σ3)))
def fX7_wrong (σ : St) : Option (Int32 × St) :=
  bp (fX6_isTold σ 3) (fun r1 => if r1 = 0 then some ((-2 : Int32), σ) else bs (fX7_provedByAll σ) (fun r2 σ3 => bp (fX6_following σ3 3) (fun r4 => some ((r2 &&& (r4 ^^^ (-1 : Int32))), σ3))))
def fX2_operatorHere (σ : St) : Option (Int32) :=
  bp (fX2_isWord σ 8) (fun r1 => if r1 = 0 then bp (fX2_isWord σ 9) (fun r2 => if r2 = 0 then bp (fX2_isWord σ 10) (fun r3 => if r3 = 0 then bp (fX2_isWord σ 11) (fun r4 => if r4 = 0 then some (0 : Int32) else some (4 : Int32)) else some (3 : Int32)) else some (2 : Int32)) else some (1 : Int32))
def fX2_readWord (σ : St) (w : Nat) : Option (Int32 × St) :=
  bp (fX2_isWord σ w) (fun r1 => if r1 = 0 then bs (fX2_fail σ (1 : Int32)) (fun r3 σ4 => gd (r3 = 0 ∨ r3 = 1) (some (r3, σ4))) else bp (fX2_advance σ) (fun σ2 => gd ((1 : Int32) = 0 ∨ (1 : Int32) = 1) (some ((1 : Int32), σ2))))
def fX2_worldsOfLeaf (σ : St) (t : Nat) : Option (Int32) :=
  bp (fX2_isWord σ 6) (fun r1 => if r1 = 0 then bp (fX2_isWord σ 7) (fun r2 => if r2 = 0 then if (σ.1 1 4) = (1 : Int32) then if ((σ.1 1 6) - (σ.1 1 5)) = (1 : Int32) then gd (ir (σ.1 1 5) 1600) (lt ((σ.1 2 (σ.1 1 5).toNatClampNeg) - (97 : Int32)) (fun v3 => if (σ.1 t 1) ≤ v3 then some (-1 : Int32) else bp (fX6_worldsOfAtom σ t v3) (fun r4 => some r4))) else some (-1 : Int32) else some (-1 : Int32) else some (0 : Int32)) else bp (fX6_allWorlds σ t) (fun r5 => some r5))
def fX8_askOf_B12 (σ : St) (kr12 : Int32 → Int32 → Int32 → Option (Int32)) (x1 : Int32) (x2 : Int32) (x3 : Int32) : Option (Int32) :=
  gd (ir (3 : Int32) 70) (if (σ.1 63 (3 : Int32).toNatClampNeg) ≤ x3 then some x1 else bp (fX8_worstOf σ x3) (fun r1 => if r1 < x2 then bp (fX8_worstOf σ x3) (fun r2 => lt r2 (fun v3 => lt x3 (fun v4 => lt (x3 + 1) (fun v5 => kr12 v4 v3 v5)))) else lt (x3 + 1) (fun v6 => kr12 x1 x2 v6)))
def fX8_askOf_l12 (σ : St) : Nat → Int32 → Int32 → Int32 → Option (Int32)
  | 0 => fun _ _ _ => none
  | n + 1 => fX8_askOf_B12 σ (fX8_askOf_l12 σ n)
def fX8_askOf (σ : St) : Option (Int32) :=
  lt (-1 : Int32) (fun v7 => bp (fX8_saltedNow σ) (fun r8 => bp (fX8_bits r8) (fun r9 => lt r9 (fun v10 => lt (0 : Int32) (fun v11 => fX8_askOf_l12 σ FU v7 v10 v11)))))
def fX8_ate_b52 (σ : St) (kr18 : Int32 → Int32 → Int32 → Option (Int32)) (x1 : Int32) (x4 : Int32) (y0 : Int32) (y1 : Int32) : Option (Int32) :=
  lt (y0 ||| y1) (fun v1 => lt (x4 + 1) (fun v2 => kr18 x1 v1 v2))
def fX8_ate_B18 (σ : St) (kr18 : Int32 → Int32 → Int32 → Option (Int32)) (x1 : Int32) (x3 : Int32) (x4 : Int32) : Option (Int32) :=
  gd (ir (5 : Int32) 70) (if (σ.1 63 (5 : Int32).toNatClampNeg) ≤ x4 then some x3 else bp (fX8_eatenBy σ x1) (fun r3 => bp (fX8_canProve σ x4 r3) (fun r4 => if r4 = 0 then fX8_ate_b52 σ kr18 x1 x4 x3 (0 : Int32) else fX8_ate_b52 σ kr18 x1 x4 x3 ((1 : Int32) <<< (x4 &&& 31)))))
def fX8_ate_l18 (σ : St) : Nat → Int32 → Int32 → Int32 → Option (Int32)
  | 0 => fun _ _ _ => none
  | n + 1 => fX8_ate_B18 σ (fX8_ate_l18 σ n)
def fX8_ate (σ : St) (a1 : Int32) : Option (Int32) :=
  bp (fX8_asksEaten σ a1 (1 : Int32)) (fun r5 => lt r5 (fun v6 => if 0 ≤ v6 then lt (0 : Int32) (fun v7 => lt (0 : Int32) (fun v8 => fX8_ate_l18 σ FU a1 v7 v8)) else some v6))
def fX8_bite_b99 (σ : St) (kr53 : Int32 → Int32 → Int32 → Int32 → Int32 → Option (Int32)) (x2 : Int32) (x3 : Int32) (x4 : Int32) (x5 : Int32) (x6 : Int32) : Option (Int32) :=
  gd (ir (4 : Int32) 70) (if x5 = (σ.1 63 (4 : Int32).toNatClampNeg) then some (-1 : Int32) else bp (fX8_ofStep σ x5 (0 : Int32)) (fun r1 => lt (x4 ||| ((1 : Int32) <<< (r1 &&& 31))) (fun v2 => lt (x6 + 1) (fun v3 => kr53 x2 x3 v2 x5 v3))))
def fX8_bite_B62 (σ : St) (kr53 : Int32 → Int32 → Int32 → Int32 → Int32 → Option (Int32)) (kr62 : Int32 → Int32 → Int32 → Int32 → Int32 → Option (Int32)) (x2 : Int32) (x3 : Int32) (x4 : Int32) (x5 : Int32) (x6 : Int32) : Option (Int32) :=
  gd (ir (4 : Int32) 70) (if (σ.1 63 (4 : Int32).toNatClampNeg) ≤ x5 then fX8_bite_b99 σ kr53 x2 x3 x4 x5 x6 else bp (fX8_bit x3 x5) (fun r4 => if r4 = 0 then lt (x5 + 1) (fun v5 => kr62 x2 x3 x4 v5 x6) else bp (fX8_goes σ x5 x4) (fun r6 => if r6 = 0 then lt (x5 + 1) (fun v7 => kr62 x2 x3 x4 v7 x6) else fX8_bite_b99 σ kr53 x2 x3 x4 x5 x6)))
def fX8_bite_l62 (σ : St) (kr53 : Int32 → Int32 → Int32 → Int32 → Int32 → Option (Int32)) : Nat → Int32 → Int32 → Int32 → Int32 → Int32 → Option (Int32)
  | 0 => fun _ _ _ _ _ => none
  | n + 1 => fX8_bite_B62 σ kr53 (fX8_bite_l62 σ kr53 n)
def fX8_bite_B53 (σ : St) (kr53 : Int32 → Int32 → Int32 → Int32 → Int32 → Option (Int32)) (x2 : Int32) (x3 : Int32) (x4 : Int32) (x5 : Int32) (x6 : Int32) : Option (Int32) :=
  if x2 < x6 then some x5 else lt (0 : Int32) (fun v8 => fX8_bite_l62 σ kr53 FU x2 x3 x4 v8 x6)
def fX8_bite_l53 (σ : St) : Nat → Int32 → Int32 → Int32 → Int32 → Int32 → Option (Int32)
  | 0 => fun _ _ _ _ _ => none
  | n + 1 => fX8_bite_B53 σ (fX8_bite_l53 σ n)
def fX8_bite (σ : St) (a1 : Int32) (a2 : Int32) : Option (Int32) :=
  bp (fX8_isClaim σ (a1.toInt64)) (fun r9 => if r9 = 0 then some (-2 : Int32) else bp (fX8_proofOf σ a1) (fun r10 => lt r10 (fun v11 => if v11 = (-1 : Int32) then some (-1 : Int32) else bp (fX8_bits v11) (fun r12 => bp (fX8_in (a2.toInt64) (0 : Int64) ((r12 - (1 : Int32)).toInt64)) (fun r13 => if r13 = 0 then some (-1 : Int32) else bp (fX8_saltNow σ) (fun r14 => lt r14 (fun v15 => lt (0 : Int32) (fun v16 => lt (0 : Int32) (fun v17 => fX8_bite_l53 σ FU a2 v11 v15 v16 v17)))))))))
def fX8_course (σ : St) (a1 : Int32) : Option (Int32 × St) :=
  bp (fX8_isGuest σ (a1.toInt64)) (fun r1 => if r1 = 0 then some ((-2 : Int32), σ) else bs (fX8_menuOf σ a1) (fun r2 σ3 => some ((σ3.1 62 21), σ3)))
def fX8_dishes (σ : St) (a1 : Int32) : Option (Int32 × St) :=
  bp (fX8_isGuest σ (a1.toInt64)) (fun r1 => if r1 = 0 then some ((-2 : Int32), σ) else bs (fX8_menuOf σ a1) (fun r2 σ3 => bp (fX8_saltNow σ3) (fun r4 => bp (fX8_provedBy σ3 r4 (σ3.1 62 21)) (fun r5 => bp (fX8_saltNow σ3) (fun r6 => some ((r5 &&& (r6 ^^^ (-1 : Int32))), σ3))))))
def fX8_feast (σ : St) (a1 : Int32) (a2 : Int32) : Option (Int32 × St) :=
  bp (fX8_isSeed a1) (fun r1 => if r1 = 0 then some ((-2 : Int32), σ) else bp (fX8_isGuest σ (a2.toInt64)) (fun r2 => if r2 = 0 then some ((-2 : Int32), σ) else bs (fX8_feastOf σ (a1.toInt64) a2) (fun r3 σ4 => some (r3, σ4))))
def fX8_following_b30 (σ : St) (kr4 : Int32 → Int32 → Option (Int32)) (x2 : Int32) (y0 : Int32) (y1 : Int32) : Option (Int32) :=
  lt (y0 ||| y1) (fun v1 => lt (x2 + 1) (fun v2 => kr4 v1 v2))
def fX8_following_B4 (σ : St) (kr4 : Int32 → Int32 → Option (Int32)) (x1 : Int32) (x2 : Int32) : Option (Int32) :=
  gd (ir (3 : Int32) 70) (if (σ.1 63 (3 : Int32).toNatClampNeg) ≤ x2 then some x1 else bp (fX8_isFollowing σ x2) (fun r3 => if r3 = 0 then fX8_following_b30 σ kr4 x2 x1 (0 : Int32) else fX8_following_b30 σ kr4 x2 x1 ((1 : Int32) <<< (x2 &&& 31))))
def fX8_following_l4 (σ : St) : Nat → Int32 → Int32 → Option (Int32)
  | 0 => fun _ _ => none
  | n + 1 => fX8_following_B4 σ (fX8_following_l4 σ n)
def fX8_following (σ : St) : Option (Int32) :=
  lt (0 : Int32) (fun v4 => lt (0 : Int32) (fun v5 => fX8_following_l4 σ FU v4 v5))
def fX8_follows (σ : St) (a1 : Int32) : Option (Int32) :=
  bp (fX8_isClaim σ (a1.toInt64)) (fun r1 => if r1 = 0 then some (-2 : Int32) else bp (fX8_isFollowing σ a1) (fun r2 => if r2 = 0 then some (0 : Int32) else some (1 : Int32)))
def fX8_formWord_b75 (σ : St) (y1 : Int32) : Option (Int32 × St) :=
  lt (setI σ 62 18 y1) (fun σ1 => if (σ1.1 62 18) = (-1 : Int32) then bp (fX8_good σ1) (fun r2 => if r2 = 0 then some ((5 : Int32), σ1) else if (σ1.1 62 10) = (1 : Int32) then if ((σ1.1 62 8) - (σ1.1 62 9)) = (1 : Int32) then gd (ir (σ1.1 62 9) 1600) (gd (ir (0 : Int32) 70) (bp (fX8_in (((σ1.1 66 (σ1.1 62 9).toNatClampNeg) - (97 : Int32)).toInt64) (0 : Int64) (((σ1.1 68 (0 : Int32).toNatClampNeg) - (1 : Int32)).toInt64)) (fun r3 => if r3 = 0 then some ((5 : Int32), σ1) else gd (ir (σ1.1 62 9) 1600) (bp (fX8_atomWorlds σ1 ((σ1.1 66 (σ1.1 62 9).toNatClampNeg) - (97 : Int32))) (fun r4 => lt (setI σ1 62 18 r4) (fun σ5 => some ((4 : Int32), σ5))))))) else some ((5 : Int32), σ1) else some ((5 : Int32), σ1)) else some ((4 : Int32), σ1))
def fX8_formWord (σ : St) : Option (Int32 × St) :=
  bp (fX8_is σ 8) (fun r6 => if r6 = 0 then bp (fX8_is σ 9) (fun r7 => if r7 = 0 then bp (fX8_is σ 10) (fun r8 => if r8 = 0 then bp (fX8_is σ 11) (fun r9 => if r9 = 0 then bp (fX8_is σ 6) (fun r10 => if r10 = 0 then bp (fX8_is σ 7) (fun r11 => if r11 = 0 then fX8_formWord_b75 σ (-1 : Int32) else fX8_formWord_b75 σ (0 : Int32)) else bp (fX8_freshAll σ) (fun r12 => fX8_formWord_b75 σ r12)) else some ((3 : Int32), σ)) else some ((2 : Int32), σ)) else some ((1 : Int32), σ)) else some ((0 : Int32), σ))
def fX8_lemmaOf_B11 (kr11 : St → Int32 → Int32 → Int32 → Int32 → Option (Int32 × St)) (σ : St) (x1 : Int32) (x2 : Int32) (x3 : Int32) (x4 : Int32) : Option (Int32 × St) :=
  gd (ir (3 : Int32) 70) (if (σ.1 63 (3 : Int32).toNatClampNeg) ≤ x4 then some (x2, σ) else bp (fX8_saltNow σ) (fun r1 => bp (fX8_ofGuest σ x1 (1 : Int32)) (fun r2 => bp (fX8_canDo σ x1) (fun r3 => bs (fX8_mostBy σ (r1 ||| ((1 : Int32) <<< (x4 &&& 31))) r2 r3) (fun r4 σ5 => lt r4 (fun v6 => if x3 < v6 then lt v6 (fun v7 => lt x4 (fun v8 => lt (x4 + 1) (fun v9 => kr11 σ5 x1 v8 v7 v9))) else lt (x4 + 1) (fun v10 => kr11 σ5 x1 x2 x3 v10)))))))
def fX8_lemmaOf_l11 : Nat → St → Int32 → Int32 → Int32 → Int32 → Option (Int32 × St)
  | 0 => fun _ _ _ _ _ => none
  | n + 1 => fX8_lemmaOf_B11 (fX8_lemmaOf_l11 n)
def fX8_lemmaOf (σ : St) (a1 : Int32) : Option (Int32 × St) :=
  lt (-1 : Int32) (fun v11 => bs (fX8_menuOf σ a1) (fun r12 σ13 => lt r12 (fun v14 => lt (0 : Int32) (fun v15 => fX8_lemmaOf_l11 FU σ13 a1 v11 v14 v15))))
def fX8_mean_B48 (kr48 : St → Int32 → Int32 → Int32 → Int32 → Int32 → Int32 → Option (Int32 × St)) (σ : St) (x1 : Int32) (x2 : Int32) (x3 : Int32) (x4 : Int32) (x5 : Int32) (x6 : Int32) : Option (Int32 × St) :=
  if x2 ≤ x6 then bp (fX8_part x5 x2 x4) (fun r1 => some (r1, σ)) else bs (fX8_feastOf σ ((x1.toInt64) + (x6.toInt64)) x3) (fun r2 σ3 => lt (x5 + r2) (fun v4 => lt (x6 + 1) (fun v5 => kr48 σ3 x1 x2 x3 x4 v4 v5)))
def fX8_mean_l48 : Nat → St → Int32 → Int32 → Int32 → Int32 → Int32 → Int32 → Option (Int32 × St)
  | 0 => fun _ _ _ _ _ _ _ => none
  | n + 1 => fX8_mean_B48 (fX8_mean_l48 n)
def fX8_mean (σ : St) (a1 : Int32) (a2 : Int32) (a3 : Int32) (a4 : Int32) : Option (Int32 × St) :=
  bp (fX8_isSeed a1) (fun r6 => if r6 = 0 then some ((-2 : Int32), σ) else bp (fX8_in (a2.toInt64) (1 : Int64) (20 : Int64)) (fun r7 => if r7 = 0 then some ((-2 : Int32), σ) else bp (fX8_isGuest σ (a3.toInt64)) (fun r8 => if r8 = 0 then some ((-2 : Int32), σ) else bp (fX8_in (a4.toInt64) (0 : Int64) (1 : Int64)) (fun r9 => if r9 = 0 then some ((-2 : Int32), σ) else lt (0 : Int32) (fun v10 => lt (0 : Int32) (fun v11 => fX8_mean_l48 FU σ a1 a2 a3 a4 v10 v11))))))
def fX8_menu (σ : St) (a1 : Int32) : Option (Int32 × St) :=
  bp (fX8_isGuest σ (a1.toInt64)) (fun r1 => if r1 = 0 then some ((-2 : Int32), σ) else bs (fX8_menuOf σ a1) (fun r2 σ3 => some (r2, σ3)))
def fX8_proof (σ : St) (a1 : Int32) : Option (Int32) :=
  bp (fX8_isClaim σ (a1.toInt64)) (fun r1 => if r1 = 0 then some (-2 : Int32) else bp (fX8_proofOf σ a1) (fun r2 => some r2))
def fX8_proofs_b39 (σ : St) (kr16 : Int32 → Int32 → Int32 → Option (Int32)) (x1 : Int32) (x3 : Int32) (y0 : Int32) (y1 : Int32) : Option (Int32) :=
  lt (y0 + y1) (fun v1 => lt (x3 + 1) (fun v2 => kr16 x1 v1 v2))
def fX8_proofs_B16 (σ : St) (kr16 : Int32 → Int32 → Int32 → Option (Int32)) (x1 : Int32) (x2 : Int32) (x3 : Int32) : Option (Int32) :=
  bp (fX8_allSteps σ) (fun r3 => if r3 < x3 then some x2 else bp (fX8_isLeastProof σ x3 x1) (fun r4 => if r4 = 0 then fX8_proofs_b39 σ kr16 x1 x3 x2 (0 : Int32) else fX8_proofs_b39 σ kr16 x1 x3 x2 (1 : Int32)))
def fX8_proofs_l16 (σ : St) : Nat → Int32 → Int32 → Int32 → Option (Int32)
  | 0 => fun _ _ _ => none
  | n + 1 => fX8_proofs_B16 σ (fX8_proofs_l16 σ n)
def fX8_proofs (σ : St) (a1 : Int32) : Option (Int32) :=
  bp (fX8_isClaim σ (a1.toInt64)) (fun r5 => if r5 = 0 then some (-2 : Int32) else lt (0 : Int32) (fun v6 => lt (0 : Int32) (fun v7 => fX8_proofs_l16 σ FU a1 v6 v7)))
def fX8_shortest (σ : St) (a1 : Int32) : Option (Int32) :=
  bp (fX8_isClaim σ (a1.toInt64)) (fun r1 => if r1 = 0 then some (-2 : Int32) else bp (fX8_proofOf σ a1) (fun r2 => lt r2 (fun v3 => if v3 = (-1 : Int32) then some (-1 : Int32) else bp (fX8_bits v3) (fun r4 => some r4))))
def fX8_takes (σ : St) (w : Nat) : Option (Int32 × St) :=
  bp (fX8_is σ w) (fun r1 => lt r1 (fun v2 => if v2 = 0 then gd (v2 = 0 ∨ v2 = 1) (some (v2, σ)) else bp (fX8_advance σ) (fun σ3 => gd (v2 = 0 ∨ v2 = 1) (some (v2, σ3)))))
def fX8_teamOf_b28 (σ : St) (kr4 : Int32 → Int32 → Int32 → Option (Int32)) (x1 : Int32) (x2 : Int32) (x3 : Int32) : Option (Int32) :=
  bp (fX8_canTogether σ x3 x1) (fun r1 => if r1 = 0 then lt (x3 + 1) (fun v2 => kr4 x1 x2 v2) else lt x3 (fun v3 => lt (x3 + 1) (fun v4 => kr4 x1 v3 v4)))
def fX8_teamOf_B4 (σ : St) (kr4 : Int32 → Int32 → Int32 → Option (Int32)) (x1 : Int32) (x2 : Int32) (x3 : Int32) : Option (Int32) :=
  bp (fX8_allGuests σ) (fun r5 => if r5 < x3 then some x2 else if x2 = (-1 : Int32) then fX8_teamOf_b28 σ kr4 x1 x2 x3 else bp (fX8_bits x3) (fun r6 => bp (fX8_bits x2) (fun r7 => if r7 ≤ r6 then lt (x3 + 1) (fun v8 => kr4 x1 x2 v8) else fX8_teamOf_b28 σ kr4 x1 x2 x3)))
def fX8_teamOf_l4 (σ : St) : Nat → Int32 → Int32 → Int32 → Option (Int32)
  | 0 => fun _ _ _ => none
  | n + 1 => fX8_teamOf_B4 σ (fX8_teamOf_l4 σ n)
def fX8_teamOf (σ : St) (a1 : Int32) : Option (Int32) :=
  lt (-1 : Int32) (fun v9 => lt (0 : Int32) (fun v10 => fX8_teamOf_l4 σ FU a1 v9 v10))
def fX8_together (σ : St) (a1 : Int32) (a2 : Int32) : Option (Int32) :=
  bp (fX8_areGuests σ a1) (fun r1 => if r1 = 0 then some (-2 : Int32) else bp (fX8_isClaim σ (a2.toInt64)) (fun r2 => if r2 = 0 then some (-2 : Int32) else bp (fX8_canTogether σ a1 a2) (fun r3 => if r3 = 0 then some (0 : Int32) else some (1 : Int32))))
def fX8_whoOf_b33 (σ : St) (kr4 : Int32 → Int32 → Int32 → Option (Int32)) (x1 : Int32) (x3 : Int32) (y0 : Int32) (y1 : Int32) : Option (Int32) :=
  lt (y0 ||| y1) (fun v1 => lt (x3 + 1) (fun v2 => kr4 x1 v1 v2))
def fX8_whoOf_B4 (σ : St) (kr4 : Int32 → Int32 → Int32 → Option (Int32)) (x1 : Int32) (x2 : Int32) (x3 : Int32) : Option (Int32) :=
  gd (ir (5 : Int32) 70) (if (σ.1 63 (5 : Int32).toNatClampNeg) ≤ x3 then some x2 else bp (fX8_canProve σ x3 ((1 : Int32) <<< (x1 &&& 31))) (fun r3 => if r3 = 0 then fX8_whoOf_b33 σ kr4 x1 x3 x2 (0 : Int32) else fX8_whoOf_b33 σ kr4 x1 x3 x2 ((1 : Int32) <<< (x3 &&& 31))))
def fX8_whoOf_l4 (σ : St) : Nat → Int32 → Int32 → Int32 → Option (Int32)
  | 0 => fun _ _ _ => none
  | n + 1 => fX8_whoOf_B4 σ (fX8_whoOf_l4 σ n)
def fX8_whoOf (σ : St) (a1 : Int32) : Option (Int32) :=
  lt (0 : Int32) (fun v4 => lt (0 : Int32) (fun v5 => fX8_whoOf_l4 σ FU a1 v4 v5))
def fX7_duel (σ : St) : Option (Int32 × St) :=
  bp (fX6_isTold σ 3) (fun r1 => if r1 = 0 then some ((-2 : Int32), σ) else bs (fX7_lengthOfDuel σ) (fun r2 σ3 => some ((r2 &&& (1 : Int32)), σ3)))
def fX7_feast (σ : St) (a1 : Int32) (a2 : Int32) : Option (Int32 × St) :=
  bp (fX6_hasGuest σ 3 a2) (fun r1 => if r1 = 0 then some ((-2 : Int32), σ) else bp (fX7_isSeed a1) (fun r2 => if r2 = 0 then some ((-2 : Int32), σ) else bp (fX6_holedSteps σ 3 a1) (fun r3 => bs (fX7_menuWorth σ a2 r3) (fun r4 σ5 => some (r4, σ5)))))
def fX7_fewest (σ : St) (a1 : Int32) : Option (Int32 × St) :=
  bp (fX6_hasClaim σ 3 a1) (fun r1 => if r1 = 0 then some ((-2 : Int32), σ) else bs (fX7_leastTeam σ a1) (fun r2 σ3 => bp (fX7_sizeOrNone r2) (fun r4 => some (r4, σ3))))
def fX7_lasts (σ : St) : Option (Int32 × St) :=
  bp (fX6_isTold σ 3) (fun r1 => if r1 = 0 then some ((-2 : Int32), σ) else bs (fX7_lengthOfDuel σ) (fun r2 σ3 => some (r2, σ3)))
def fX7_lemma_B26 (kr26 : St → Int32 → Int32 → Int32 → Int32 → Option (Int32 × St)) (σ : St) (x1 : Int32) (x2 : Int32) (x3 : Int32) (x4 : Int32) : Option (Int32 × St) :=
  if (σ.1 3 4) ≤ x4 then some (x2, σ) else bs (fX7_worthWithLemma σ x1 x4) (fun r1 σ2 => lt r1 (fun v3 => if v3 ≤ x3 then lt (x4 + 1) (fun v4 => kr26 σ2 x1 x2 x3 v4) else lt x4 (fun v5 => lt v3 (fun v6 => lt (x4 + 1) (fun v7 => kr26 σ2 x1 v5 v6 v7)))))
def fX7_lemma_l26 : Nat → St → Int32 → Int32 → Int32 → Int32 → Option (Int32 × St)
  | 0 => fun _ _ _ _ _ => none
  | n + 1 => fX7_lemma_B26 (fX7_lemma_l26 n)
def fX7_lemma (σ : St) (a1 : Int32) : Option (Int32 × St) :=
  bp (fX6_hasGuest σ 3 a1) (fun r8 => if r8 = 0 then some ((-2 : Int32), σ) else lt (-1 : Int32) (fun v9 => bs (fX7_menuWorth σ a1 (0 : Int32)) (fun r10 σ11 => lt r10 (fun v12 => lt (0 : Int32) (fun v13 => fX7_lemma_l26 FU σ11 a1 v9 v12 v13)))))
def fX7_mean_B49 (kr49 : St → Int32 → Int32 → Int32 → Int32 → Int32 → Int32 → Option (Int32 × St)) (σ : St) (x1 : Int32) (x2 : Int32) (x3 : Int32) (x4 : Int32) (x5 : Int32) (x6 : Int32) : Option (Int32 × St) :=
  if x2 ≤ x6 then bp (fX7_partOfFraction x5 x2 x4) (fun r1 => some (r1, σ)) else bp (fX6_holedSteps σ 3 (x1 + x6)) (fun r2 => bs (fX7_menuWorth σ x3 r2) (fun r3 σ4 => lt (x5 + r3) (fun v5 => lt (x6 + 1) (fun v6 => kr49 σ4 x1 x2 x3 x4 v5 v6))))
def fX7_mean_l49 : Nat → St → Int32 → Int32 → Int32 → Int32 → Int32 → Int32 → Option (Int32 × St)
  | 0 => fun _ _ _ _ _ _ _ => none
  | n + 1 => fX7_mean_B49 (fX7_mean_l49 n)
def fX7_mean (σ : St) (a1 : Int32) (a2 : Int32) (a3 : Int32) (a4 : Int32) : Option (Int32 × St) :=
  bp (fX6_hasGuest σ 3 a3) (fun r7 => if r7 = 0 then some ((-2 : Int32), σ) else bp (fX7_isSeed a1) (fun r8 => if r8 = 0 then some ((-2 : Int32), σ) else bp (fX7_isBit a4) (fun r9 => if r9 = 0 then some ((-2 : Int32), σ) else if a2 < (1 : Int32) then some ((-2 : Int32), σ) else if a2 ≤ (20 : Int32) then lt (0 : Int32) (fun v10 => lt (0 : Int32) (fun v11 => fX7_mean_l49 FU σ a1 a2 a3 a4 v10 v11)) else some ((-2 : Int32), σ))))
def fX7_menu (σ : St) (a1 : Int32) : Option (Int32 × St) :=
  bp (fX6_hasGuest σ 3 a1) (fun r1 => if r1 = 0 then some ((-2 : Int32), σ) else bs (fX7_menuWorth σ a1 (0 : Int32)) (fun r2 σ3 => some (r2, σ3)))
def fX7_move (σ : St) : Option (Int32 × St) :=
  bp (fX6_isTold σ 3) (fun r1 => if r1 = 0 then some ((-2 : Int32), σ) else bs (fX7_lengthOfDuel σ) (fun r2 σ3 => if (r2 &&& (1 : Int32)) = (1 : Int32) then bp (fX6_allSteps σ3 3) (fun r4 => bp (fX6_firstGoing σ3 3 r4 (σ3.1 3 7)) (fun r5 => some (r5, σ3))) else some ((-1 : Int32), σ3)))
def fX7_team (σ : St) (a1 : Int32) : Option (Int32 × St) :=
  bp (fX6_hasClaim σ 3 a1) (fun r1 => if r1 = 0 then some ((-2 : Int32), σ) else bs (fX7_leastTeam σ a1) (fun r2 σ3 => some (r2, σ3)))
def fX2_readNamed (σ : St) (w : Nat) (a2 : Int32) (a3 : Int32) : Option (Int32 × St) :=
  bs (fX2_readWord σ w) (fun r1 σ2 => if r1 = 0 then some ((-1 : Int32), σ2) else bs (fX2_readNumber σ2 a2 a3) (fun r3 σ4 => some (r3, σ4)))
def fX2_readStep (σ : St) (t : Nat) : Option (Int32 × St) :=
  if (σ.1 t 5) < (12 : Int32) then bp (fX2_advance σ) (fun σ1 => bs (fX2_readNumber σ1 (0 : Int32) ((σ1.1 t 4) - (1 : Int32))) (fun r2 σ3 => lt r2 (fun v4 => if v4 = (-1 : Int32) then gd ((0 : Int32) = 0 ∨ (0 : Int32) = 1) (some ((0 : Int32), σ3)) else bs (fX2_readWord σ3 14) (fun r5 σ6 => if r5 = 0 then gd ((0 : Int32) = 0 ∨ (0 : Int32) = 1) (some ((0 : Int32), σ6)) else bs (fX2_readSet σ6 (σ6.1 t 4) (3 : Int32)) (fun r7 σ8 => lt r7 (fun v9 => if v9 = (-1 : Int32) then gd ((0 : Int32) = 0 ∨ (0 : Int32) = 1) (some ((0 : Int32), σ8)) else bp (fX6_addStep σ8 t v4 v9) (fun σ10 => gd ((1 : Int32) = 0 ∨ (1 : Int32) = 1) (some ((1 : Int32), σ10))))))))) else bs (fX2_fail σ (3 : Int32)) (fun r11 σ12 => gd (r11 = 0 ∨ r11 = 1) (some (r11, σ12)))
def fX8_ask (σ : St) : Option (Int32) :=
  bp (fX8_isTable σ) (fun r1 => if r1 = 0 then some (-2 : Int32) else bp (fX8_askOf σ) (fun r2 => some r2))
def fX8_brings (σ : St) (a1 : Int32) : Option (Int32 × St) :=
  bp (fX8_isGuest σ (a1.toInt64)) (fun r1 => if r1 = 0 then some ((-2 : Int32), σ) else bs (fX8_lemmaOf σ a1) (fun r2 σ3 => lt r2 (fun v4 => if v4 = (-1 : Int32) then some ((0 : Int32), σ3) else bp (fX8_saltNow σ3) (fun r5 => bp (fX8_ofGuest σ3 a1 (1 : Int32)) (fun r6 => bp (fX8_canDo σ3 a1) (fun r7 => bs (fX8_mostBy σ3 (r5 ||| ((1 : Int32) <<< (v4 &&& 31))) r6 r7) (fun r8 σ9 => bs (fX8_menuOf σ9 a1) (fun r10 σ11 => some ((r8 - r10), σ11)))))))))
def fX8_covered (σ : St) : Option (Int32) :=
  bp (fX8_isTable σ) (fun r1 => if r1 = 0 then some (-2 : Int32) else bp (fX8_following σ) (fun r2 => bp (fX8_provedNow σ) (fun r3 => some (r2 &&& (r3 ^^^ (-1 : Int32))))))
def fX8_fewest (σ : St) (a1 : Int32) : Option (Int32) :=
  bp (fX8_isClaim σ (a1.toInt64)) (fun r1 => if r1 = 0 then some (-2 : Int32) else bp (fX8_teamOf σ a1) (fun r2 => lt r2 (fun v3 => if v3 = (-1 : Int32) then some (-1 : Int32) else bp (fX8_bits v3) (fun r4 => some r4))))
def fX8_form_b147 (kr2 : St → Int32 → Option (Int32 × St)) (σ : St) (x1 : Int32) (x3 : Int32) : Option (Int32 × St) :=
  if x1 = 0 then some (x3, σ) else gd (ir (x1 - (1 : Int32)) 8) (gd ((1 : Int32) = 0 ∨ (1 : Int32) = 1) (lt (setI σ 70 (x1 - (1 : Int32)).toNatClampNeg (1 : Int32)) (fun σ1 => gd (ir (x1 - (1 : Int32)) 8) (lt (setI σ1 71 (x1 - (1 : Int32)).toNatClampNeg x3) (fun σ2 => kr2 σ2 x1)))))
def fX8_form_B87 (kr2 : St → Int32 → Option (Int32 × St)) (kr87 : St → Int32 → Int32 → Option (Int32 × St)) (σ : St) (x1 : Int32) (x3 : Int32) : Option (Int32 × St) :=
  if x1 ≤ 0 then fX8_form_b147 kr2 σ x1 x3 else gd (ir (x1 - (1 : Int32)) 8) (if (σ.1 70 (x1 - (1 : Int32)).toNatClampNeg) = 0 then fX8_form_b147 kr2 σ x1 x3 else lt (x1 + (-1)) (fun v3 => gd (ir v3 8) (if (σ.1 69 v3.toNatClampNeg) = (3 : Int32) then bp (fX8_freshAll σ) (fun r6 => lt ((x3 ^^^ (-1 : Int32)) &&& r6) (fun v7 => kr87 σ v3 v7)) else gd (ir v3 8) (gd (ir v3 8) (bp (fX8_joined σ (σ.1 69 v3.toNatClampNeg) (σ.1 71 v3.toNatClampNeg) x3) (fun r4 => lt r4 (fun v5 => kr87 σ v3 v5)))))))
def fX8_form_l87 (kr2 : St → Int32 → Option (Int32 × St)) : Nat → St → Int32 → Int32 → Option (Int32 × St)
  | 0 => fun _ _ _ => none
  | n + 1 => fX8_form_B87 kr2 (fX8_form_l87 kr2 n)
def fX8_form_b35 (kr2 : St → Int32 → Option (Int32 × St)) (σ : St) (x1 : Int32) (x2 : Int32) : Option (Int32 × St) :=
  bp (fX8_good σ) (fun r8 => if r8 = 0 then some ((0 : Int32), σ) else bp (fX8_advance σ) (fun σ9 => if x2 = (4 : Int32) then lt (σ9.1 62 18) (fun v10 => fX8_form_l87 kr2 FU σ9 x1 v10) else gd (ir x1 8) (lt (setI σ9 69 x1.toNatClampNeg x2) (fun σ11 => if x2 = (3 : Int32) then gd (ir x1 8) (gd ((1 : Int32) = 0 ∨ (1 : Int32) = 1) (lt (setI σ11 70 x1.toNatClampNeg (1 : Int32)) (fun σ14 => lt (x1 + 1) (fun v15 => kr2 σ14 v15)))) else gd (ir x1 8) (gd ((0 : Int32) = 0 ∨ (0 : Int32) = 1) (lt (setI σ11 70 x1.toNatClampNeg (0 : Int32)) (fun σ12 => lt (x1 + 1) (fun v13 => kr2 σ12 v13))))))))
def fX8_form_b24 (kr2 : St → Int32 → Option (Int32 × St)) (σ : St) (x1 : Int32) (x2 : Int32) : Option (Int32 × St) :=
  if x1 = (8 : Int32) then bp (fX8_errs σ (3 : Int32)) (fun σ16 => fX8_form_b35 kr2 σ16 x1 x2) else fX8_form_b35 kr2 σ x1 x2
def fX8_form_B2 (kr2 : St → Int32 → Option (Int32 × St)) (σ : St) (x1 : Int32) : Option (Int32 × St) :=
  bp (fX8_good σ) (fun r17 => if r17 = 0 then some ((0 : Int32), σ) else bs (fX8_formWord σ) (fun r18 σ19 => lt r18 (fun v20 => if v20 = (5 : Int32) then bp (fX8_errs σ19 (1 : Int32)) (fun σ21 => fX8_form_b24 kr2 σ21 x1 v20) else fX8_form_b24 kr2 σ19 x1 v20)))
def fX8_form_l2 : Nat → St → Int32 → Option (Int32 × St)
  | 0 => fun _ _ => none
  | n + 1 => fX8_form_B2 (fX8_form_l2 n)
def fX8_form (σ : St) : Option (Int32 × St) :=
  lt (0 : Int32) (fun v22 => fX8_form_l2 FU σ v22)
def fX8_host_B13 (σ : St) (kr13 : Int32 → Int32 → Option (Int32)) (x1 : Int32) (x2 : Int32) : Option (Int32) :=
  gd (ir (3 : Int32) 70) (if (σ.1 63 (3 : Int32).toNatClampNeg) ≤ x2 then some (-1 : Int32) else bp (fX8_whoOf σ x2) (fun r1 => if r1 = x1 then some x2 else lt (x2 + 1) (fun v2 => kr13 x1 v2)))
def fX8_host_l13 (σ : St) : Nat → Int32 → Int32 → Option (Int32)
  | 0 => fun _ _ => none
  | n + 1 => fX8_host_B13 σ (fX8_host_l13 σ n)
def fX8_host (σ : St) (a1 : Int32) : Option (Int32) :=
  bp (fX8_areGuests σ a1) (fun r3 => if r3 = 0 then some (-2 : Int32) else lt (0 : Int32) (fun v4 => fX8_host_l13 σ FU a1 v4))
def fX8_leaves (σ : St) : Option (Int32) :=
  bp (fX8_isTable σ) (fun r1 => if r1 = 0 then some (-2 : Int32) else bp (fX8_askOf σ) (fun r2 => lt r2 (fun v3 => if v3 = (-1 : Int32) then bp (fX8_saltedNow σ) (fun r5 => bp (fX8_bits r5) (fun r6 => some r6)) else bp (fX8_worstOf σ v3) (fun r4 => some r4))))
def fX8_lemma (σ : St) (a1 : Int32) : Option (Int32 × St) :=
  bp (fX8_isGuest σ (a1.toInt64)) (fun r1 => if r1 = 0 then some ((-2 : Int32), σ) else bs (fX8_lemmaOf σ a1) (fun r2 σ3 => some (r2, σ3)))
def fX8_needs (σ : St) (w : Nat) : Option (St) :=
  bs (fX8_takes σ w) (fun r1 σ2 => if r1 = 0 then bp (fX8_errs σ2 (1 : Int32)) (fun σ3 => some σ3) else some σ2)
def fX8_team (σ : St) (a1 : Int32) : Option (Int32) :=
  bp (fX8_isClaim σ (a1.toInt64)) (fun r1 => if r1 = 0 then some (-2 : Int32) else bp (fX8_teamOf σ a1) (fun r2 => some r2))
def fX8_who (σ : St) (a1 : Int32) : Option (Int32) :=
  bp (fX8_isClaim σ (a1.toInt64)) (fun r1 => if r1 = 0 then some (-2 : Int32) else bp (fX8_whoOf σ a1) (fun r2 => some r2))
def fX8_wrong (σ : St) : Option (Int32) :=
  bp (fX8_isTable σ) (fun r1 => if r1 = 0 then some (-2 : Int32) else bp (fX8_provedNow σ) (fun r2 => bp (fX8_following σ) (fun r3 => some (r2 &&& (r3 ^^^ (-1 : Int32))))))
def fX7_brings (σ : St) (a1 : Int32) : Option (Int32 × St) :=
  bp (fX6_hasGuest σ 3 a1) (fun r1 => if r1 = 0 then some ((-2 : Int32), σ) else bs (fX7_lemma σ a1) (fun r2 σ3 => lt r2 (fun v4 => if v4 = (-1 : Int32) then some ((0 : Int32), σ3) else bs (fX7_worthWithLemma σ3 a1 v4) (fun r5 σ6 => bs (fX7_menuWorth σ6 a1 (0 : Int32)) (fun r7 σ8 => some ((r5 - r7), σ8))))))
def fX2_readGuest (σ : St) (t : Nat) : Option (Int32 × St) :=
  if (σ.1 t 6) < (5 : Int32) then bp (fX2_advance σ) (fun σ1 => bs (fX2_readNamed σ1 16 (1 : Int32) (9 : Int32)) (fun r2 σ3 => lt r2 (fun v4 => if v4 = (-1 : Int32) then gd ((0 : Int32) = 0 ∨ (0 : Int32) = 1) (some ((0 : Int32), σ3)) else bs (fX2_readWord σ3 17) (fun r5 σ6 => if r5 = 0 then gd ((0 : Int32) = 0 ∨ (0 : Int32) = 1) (some ((0 : Int32), σ6)) else bs (fX2_readSet σ6 (σ6.1 t 5) (12 : Int32)) (fun r7 σ8 => lt r7 (fun v9 => if v9 = (-1 : Int32) then gd ((0 : Int32) = 0 ∨ (0 : Int32) = 1) (some ((0 : Int32), σ8)) else gd (ir (σ8.1 t 6) 5) (lt (setI σ8 (t + 5) (σ8.1 t 6).toNatClampNeg v4) (fun σ10 => gd (ir (σ10.1 t 6) 5) (lt (setI σ10 (t + 6) (σ10.1 t 6).toNatClampNeg v9) (fun σ11 => lt (setI σ11 t 6 ((σ11.1 t 6) + (1 : Int32))) (fun σ12 => gd ((1 : Int32) = 0 ∨ (1 : Int32) = 1) (some ((1 : Int32), σ12))))))))))))) else bs (fX2_fail σ (3 : Int32)) (fun r13 σ14 => gd (r13 = 0 ∨ r13 = 1) (some (r13, σ14)))
def fX2_readHead (σ : St) (t : Nat) : Option (Int32 × St) :=
  bs (fX2_readWord σ 0) (fun r1 σ2 => if r1 = 0 then gd ((0 : Int32) = 0 ∨ (0 : Int32) = 1) (some ((0 : Int32), σ2)) else bs (fX2_readNamed σ2 1 (2 : Int32) (4 : Int32)) (fun r3 σ4 => lt (setI σ4 t 1 r3) (fun σ5 => if (σ5.1 t 1) = (-1 : Int32) then gd ((0 : Int32) = 0 ∨ (0 : Int32) = 1) (some ((0 : Int32), σ5)) else bs (fX2_readNamed σ5 2 (1 : Int32) (99 : Int32)) (fun r6 σ7 => lt (setI σ7 t 2 r6) (fun σ8 => if (σ8.1 t 2) = (-1 : Int32) then gd ((0 : Int32) = 0 ∨ (0 : Int32) = 1) (some ((0 : Int32), σ8)) else bs (fX2_readNamed σ8 3 (0 : Int32) (100 : Int32)) (fun r9 σ10 => lt (setI σ10 t 3 r9) (fun σ11 => if (σ11.1 t 3) = (-1 : Int32) then gd ((0 : Int32) = 0 ∨ (0 : Int32) = 1) (some ((0 : Int32), σ11)) else gd ((1 : Int32) = 0 ∨ (1 : Int32) = 1) (some ((1 : Int32), σ11)))))))))
def fX8_readStep_b52 (kr28 : St → Int32 → Int32 → Int32 → Int32 → Option (St)) (σ : St) (x1 : Int32) (x2 : Int32) (x3 : Int32) (x4 : Int32) : Option (St) :=
  bs (fX8_freshClaim σ) (fun r1 σ2 => lt r1 (fun v3 => bp (fX8_good σ2) (fun r4 => if r4 = 0 then some σ2 else lt (x3 ||| ((1 : Int32) <<< (v3 &&& 31))) (fun v5 => lt (x4 + 1) (fun v6 => if (σ2.1 62 10) = (3 : Int32) then gd (ir (x1 + (0 : Int32)) 70) (lt (setI σ2 68 (x1 + (0 : Int32)).toNatClampNeg x2) (fun σ7 => gd (ir (x1 + (1 : Int32)) 70) (lt (setI σ7 68 (x1 + (1 : Int32)).toNatClampNeg v5) (fun σ8 => gd (ir (4 : Int32) 70) (gd (ir (4 : Int32) 70) (lt (setI σ8 68 (4 : Int32).toNatClampNeg ((σ8.1 68 (4 : Int32).toNatClampNeg) + (1 : Int32))) (fun σ9 => some σ9))))))) else kr28 σ2 x1 x2 v5 v6)))))
def fX8_readStep_B28 (kr28 : St → Int32 → Int32 → Int32 → Int32 → Option (St)) (σ : St) (x1 : Int32) (x2 : Int32) (x3 : Int32) (x4 : Int32) : Option (St) :=
  if x4 = (3 : Int32) then gd (ir (3 : Int32) 70) (bp (fX8_isNextIn σ (σ.1 68 (3 : Int32).toNatClampNeg)) (fun r10 => if r10 = 0 then fX8_readStep_b52 kr28 σ x1 x2 x3 x4 else bp (fX8_errs σ (3 : Int32)) (fun σ11 => fX8_readStep_b52 kr28 σ11 x1 x2 x3 x4))) else fX8_readStep_b52 kr28 σ x1 x2 x3 x4
def fX8_readStep_l28 : Nat → St → Int32 → Int32 → Int32 → Int32 → Option (St)
  | 0 => fun _ _ _ _ _ => none
  | n + 1 => fX8_readStep_B28 (fX8_readStep_l28 n)
def fX8_readStep (σ : St) : Option (St) :=
  gd (ir (4 : Int32) 70) (lt ((43 : Int32) + ((2 : Int32) * (σ.1 68 (4 : Int32).toNatClampNeg))) (fun v12 => bs (fX8_freshClaim σ) (fun r13 σ14 => lt r13 (fun v15 => bp (fX8_needs σ14 14) (fun σ16 => lt (0 : Int32) (fun v17 => lt (0 : Int32) (fun v18 => fX8_readStep_l28 FU σ16 v12 v15 v17 v18)))))))
def fX8_told (σ : St) (w : Nat) (a2 : Int32) (a3 : Int32) : Option (Int32 × St) :=
  bp (fX8_needs σ w) (fun σ1 => bs (fX8_number σ1 a2 a3) (fun r2 σ3 => some (r2, σ3)))
def fX8_readClaim (σ : St) : Option (St) :=
  gd (ir (3 : Int32) 70) (lt ((7 : Int32) + ((3 : Int32) * (σ.1 68 (3 : Int32).toNatClampNeg))) (fun v1 => bs (fX8_told σ 5 (0 : Int32) (99 : Int32)) (fun r2 σ3 => lt r2 (fun v4 => bs (fX8_form σ3) (fun r5 σ6 => lt r5 (fun v7 => bp (fX8_good σ6) (fun r8 => if r8 = 0 then some σ6 else gd (ir (v1 + (0 : Int32)) 70) (lt (setI σ6 68 (v1 + (0 : Int32)).toNatClampNeg v4) (fun σ9 => gd (ir (v1 + (1 : Int32)) 70) (lt (setI σ9 68 (v1 + (1 : Int32)).toNatClampNeg (0 : Int32)) (fun σ10 => gd (ir (v1 + (2 : Int32)) 70) (lt (setI σ10 68 (v1 + (2 : Int32)).toNatClampNeg v7) (fun σ11 => gd (ir (3 : Int32) 70) (gd (ir (3 : Int32) 70) (lt (setI σ11 68 (3 : Int32).toNatClampNeg ((σ11.1 68 (3 : Int32).toNatClampNeg) + (1 : Int32))) (fun σ12 => some σ12))))))))))))))))
def fX8_readGuest_B30 (kr30 : St → Int32 → Int32 → Int32 → Option (St)) (σ : St) (x1 : Int32) (x2 : Int32) (x3 : Int32) : Option (St) :=
  gd (ir (4 : Int32) 70) (bs (fX8_number σ (0 : Int32) ((σ.1 68 (4 : Int32).toNatClampNeg) - (1 : Int32))) (fun r1 σ2 => lt r1 (fun v3 => bp (fX8_good σ2) (fun r4 => if r4 = 0 then some σ2 else lt (x3 ||| ((1 : Int32) <<< (v3 &&& 31))) (fun v5 => if (σ2.1 62 10) = (3 : Int32) then gd (ir (x1 + (0 : Int32)) 70) (lt (setI σ2 68 (x1 + (0 : Int32)).toNatClampNeg x2) (fun σ6 => gd (ir (x1 + (1 : Int32)) 70) (lt (setI σ6 68 (x1 + (1 : Int32)).toNatClampNeg v5) (fun σ7 => gd (ir (5 : Int32) 70) (gd (ir (5 : Int32) 70) (lt (setI σ7 68 (5 : Int32).toNatClampNeg ((σ7.1 68 (5 : Int32).toNatClampNeg) + (1 : Int32))) (fun σ8 => some σ8))))))) else kr30 σ2 x1 x2 v5)))))
def fX8_readGuest_l30 : Nat → St → Int32 → Int32 → Int32 → Option (St)
  | 0 => fun _ _ _ _ => none
  | n + 1 => fX8_readGuest_B30 (fX8_readGuest_l30 n)
def fX8_readGuest (σ : St) : Option (St) :=
  gd (ir (5 : Int32) 70) (lt ((67 : Int32) + ((2 : Int32) * (σ.1 68 (5 : Int32).toNatClampNeg))) (fun v9 => bs (fX8_told σ 16 (1 : Int32) (9 : Int32)) (fun r10 σ11 => lt r10 (fun v12 => bp (fX8_needs σ11 17) (fun σ13 => lt (0 : Int32) (fun v14 => fX8_readGuest_l30 FU σ13 v9 v12 v14))))))
def fX8_readNext_b115 (σ : St) : Option (St) :=
  bp (fX8_good σ) (fun r1 => if r1 = 0 then some σ else bs (fX8_takes σ 4) (fun r2 σ3 => if r2 = 0 then bs (fX8_takes σ3 12) (fun r4 σ5 => if r4 = 0 then bs (fX8_takes σ5 13) (fun r6 σ7 => if r6 = 0 then bp (fX8_advance σ7) (fun σ8 => bp (fX8_readGuest σ8) (fun σ9 => some σ9)) else bp (fX8_readStep σ7) (fun σ10 => some σ10)) else bp (fX8_readSalt σ5) (fun σ11 => some σ11)) else bp (fX8_readClaim σ3) (fun σ12 => some σ12)))
def fX8_readNext_b110 (σ : St) : Option (St) :=
  bp (fX8_errs σ (3 : Int32)) (fun σ13 => fX8_readNext_b115 σ13)
def fX8_readNext_b91 (σ : St) : Option (St) :=
  bp (fX8_is σ 15) (fun r14 => if r14 = 0 then fX8_readNext_b115 σ else gd (ir (5 : Int32) 70) (if (σ.1 68 (5 : Int32).toNatClampNeg) = (5 : Int32) then fX8_readNext_b110 σ else fX8_readNext_b115 σ))
def fX8_readNext_b71 (σ : St) : Option (St) :=
  bp (fX8_is σ 13) (fun r15 => if r15 = 0 then fX8_readNext_b91 σ else gd (ir (4 : Int32) 70) (if (σ.1 68 (4 : Int32).toNatClampNeg) = (12 : Int32) then fX8_readNext_b110 σ else fX8_readNext_b91 σ))
def fX8_readNext_b51 (σ : St) : Option (St) :=
  bp (fX8_is σ 4) (fun r16 => if r16 = 0 then fX8_readNext_b71 σ else gd (ir (3 : Int32) 70) (if (σ.1 68 (3 : Int32).toNatClampNeg) = (12 : Int32) then fX8_readNext_b110 σ else fX8_readNext_b71 σ))
def fX8_readNext_b41 (σ : St) (y0 : Int32) : Option (St) :=
  lt y0 (fun v17 => if v17 = 0 then bp (fX8_errs σ (1 : Int32)) (fun σ18 => fX8_readNext_b51 σ18) else fX8_readNext_b51 σ)
def fX8_readNext_b36 (σ : St) : Option (St) :=
  fX8_readNext_b41 σ (1 : Int32)
def fX8_readNext (σ : St) : Option (St) :=
  bp (fX8_is σ 4) (fun r19 => if r19 = 0 then bp (fX8_is σ 12) (fun r20 => if r20 = 0 then bp (fX8_is σ 13) (fun r21 => if r21 = 0 then bp (fX8_is σ 15) (fun r22 => if r22 = 0 then fX8_readNext_b41 σ (0 : Int32) else fX8_readNext_b36 σ) else fX8_readNext_b36 σ) else fX8_readNext_b36 σ) else fX8_readNext_b36 σ)
def fX8_readLine_b98 (σ : St) : Option (St) :=
  gd (ir (6 : Int32) 70) (gd (ir (6 : Int32) 70) (lt (setI σ 68 (6 : Int32).toNatClampNeg ((σ.1 68 (6 : Int32).toNatClampNeg) + (1 : Int32))) (fun σ1 => some σ1)))
def fX8_readLine_b87 (σ : St) : Option (St) :=
  bp (fX8_good σ) (fun r2 => if r2 = 0 then fX8_readLine_b98 σ else bp (fX8_advance σ) (fun σ3 => fX8_readLine_b98 σ3))
def fX8_readLine_b67 (σ : St) : Option (St) :=
  bp (fX8_good σ) (fun r4 => if r4 = 0 then fX8_readLine_b87 σ else if (σ.1 62 10) = (3 : Int32) then fX8_readLine_b87 σ else bp (fX8_errs σ (1 : Int32)) (fun σ5 => fX8_readLine_b87 σ5))
def fX8_readLine (σ : St) : Option (St) :=
  gd (ir (6 : Int32) 70) (if (σ.1 68 (6 : Int32).toNatClampNeg) = 0 then bp (fX8_needs σ 0) (fun σ7 => bs (fX8_told σ7 1 (2 : Int32) (4 : Int32)) (fun r8 σ9 => gd (ir (0 : Int32) 70) (lt (setI σ9 68 (0 : Int32).toNatClampNeg r8) (fun σ10 => bs (fX8_told σ10 2 (1 : Int32) (99 : Int32)) (fun r11 σ12 => gd (ir (1 : Int32) 70) (lt (setI σ12 68 (1 : Int32).toNatClampNeg r11) (fun σ13 => bs (fX8_told σ13 3 (0 : Int32) (100 : Int32)) (fun r14 σ15 => gd (ir (2 : Int32) 70) (lt (setI σ15 68 (2 : Int32).toNatClampNeg r14) (fun σ16 => fX8_readLine_b67 σ16)))))))))) else bp (fX8_readNext σ) (fun σ6 => fX8_readLine_b67 σ6))
def fX8_table_B86 (kr86 : St → Int32 → Option (Int32 × St)) (σ : St) (x1 : Int32) : Option (Int32 × St) :=
  if (77 : Int32) ≤ x1 then gd (ir (6 : Int32) 70) (some ((σ.1 63 (6 : Int32).toNatClampNeg), σ)) else gd (ir x1 70) (gd (ir x1 70) (lt (setI σ 63 x1.toNatClampNeg (σ.1 68 x1.toNatClampNeg)) (fun σ1 => lt (x1 + 1) (fun v2 => kr86 σ1 v2))))
def fX8_table_l86 : Nat → St → Int32 → Option (Int32 × St)
  | 0 => fun _ _ => none
  | n + 1 => fX8_table_B86 (fX8_table_l86 n)
def fX8_table_b74 (σ : St) : Option (Int32 × St) :=
  bp (fX8_good σ) (fun r3 => if r3 = 0 then some ((-4 : Int32), σ) else lt (0 : Int32) (fun v4 => fX8_table_l86 FU σ v4))
def fX8_table_B53 (kr53 : St → Option (Int32 × St)) (σ : St) : Option (Int32 × St) :=
  bp (fX8_good σ) (fun r5 => if r5 = 0 then fX8_table_b74 σ else if (σ.1 62 10) = 0 then fX8_table_b74 σ else bp (fX8_readLine σ) (fun σ6 => kr53 σ6))
def fX8_table_l53 : Nat → St → Option (Int32 × St)
  | 0 => fun _ => none
  | n + 1 => fX8_table_B53 (fX8_table_l53 n)
def fX8_table_B30 (kr30 : St → Int32 → Option (Int32 × St)) (σ : St) (x1 : Int32) : Option (Int32 × St) :=
  if (77 : Int32) ≤ x1 then bp (fX8_advance σ) (fun σ7 => fX8_table_l53 FU σ7) else gd (ir x1 70) (lt (setI σ 68 x1.toNatClampNeg (0 : Int32)) (fun σ8 => lt (x1 + 1) (fun v9 => kr30 σ8 v9)))
def fX8_table_l30 : Nat → St → Int32 → Option (Int32 × St)
  | 0 => fun _ _ => none
  | n + 1 => fX8_table_B30 (fX8_table_l30 n)
def fX8_table (σ : St) : Option (Int32 × St) :=
  lt (setI σ 62 7 (σ.1 62 5)) (fun σ10 => lt (setI σ10 62 5 (0 : Int32)) (fun σ11 => lt (setI σ11 62 8 (0 : Int32)) (fun σ12 => lt (setI σ12 62 12 (0 : Int32)) (fun σ13 => lt (setI σ13 62 13 (-1 : Int32)) (fun σ14 => lt (0 : Int32) (fun v15 => fX8_table_l30 FU σ14 v15))))))
def fX2_readForm_b30 (rp : St → Nat → Int32 → Int32 → Option (Int32 × St)) (t : Nat) (σ : St) (x2 : Int32) (x3 : Int32) (x4 : Int32) : Option (Int32 × St) :=
  if x2 < (8 : Int32) then bp (fX2_advance σ) (fun σ1 => if x4 = 0 then some (x3, σ1) else bs (rp σ1 t x4 (x2 + (1 : Int32))) (fun r2 σ3 => some (r2, σ3))) else bs (fX2_fail σ (3 : Int32)) (fun r4 σ5 => some ((-1 : Int32), σ5))
def fX2_readForm_B (rp : St → Nat → Int32 → Int32 → Option (Int32 × St)) (σ : St) (t : Nat) (a2 : Int32) : Option (Int32 × St) :=
  bp (fX2_worldsOfLeaf σ t) (fun r6 => lt r6 (fun v7 => bp (fX2_operatorHere σ) (fun r8 => lt r8 (fun v9 => if v7 = (-1 : Int32) then if v9 = 0 then bs (fX2_fail σ (1 : Int32)) (fun r10 σ11 => some ((-1 : Int32), σ11)) else fX2_readForm_b30 rp t σ a2 v7 v9 else fX2_readForm_b30 rp t σ a2 v7 v9))))
def fX2_readParts_b19 (rf : St → Nat → Int32 → Option (Int32 × St)) (t : Nat) (σ : St) (x4 : Int32) : Option (Int32 × St) :=
  if x4 = (-1 : Int32) then some ((-1 : Int32), σ) else bp (fX6_allWorlds σ t) (fun r1 => some ((r1 &&& (x4 ^^^ (-1 : Int32))), σ))
def fX2_readParts_B (rf : St → Nat → Int32 → Option (Int32 × St)) (σ : St) (t : Nat) (a2 : Int32) (a3 : Int32) : Option (Int32 × St) :=
  bs (rf σ t a3) (fun r2 σ3 => lt r2 (fun v4 => if v4 = (-1 : Int32) then fX2_readParts_b19 rf t σ3 v4 else if a2 = (4 : Int32) then fX2_readParts_b19 rf t σ3 v4 else bs (rf σ3 t a3) (fun r5 σ6 => lt r5 (fun v7 => if v7 = (-1 : Int32) then some ((-1 : Int32), σ6) else if a2 = 1 then some ((v4 &&& v7), σ6) else if a2 = 2 then some ((v4 ||| v7), σ6) else bp (fX6_allWorlds σ6 t) (fun r8 => some ((r8 &&& ((v4 ^^^ (-1 : Int32)) ||| v7)), σ6))))))
def fX2_readForm : Nat → St → Nat → Int32 → Option (Int32 × St)
  | 0 => fun _ _ _ => none
  | d + 1 => fX2_readForm_B (fX2_readParts_B (fX2_readForm d))
def fX2_readClaim (σ : St) (t : Nat) : Option (Int32 × St) :=
  if (σ.1 t 4) < (12 : Int32) then bp (fX2_advance σ) (fun σ1 => bs (fX2_readNamed σ1 5 (0 : Int32) (99 : Int32)) (fun r2 σ3 => lt r2 (fun v4 => if v4 = (-1 : Int32) then gd ((0 : Int32) = 0 ∨ (0 : Int32) = 1) (some ((0 : Int32), σ3)) else bs (fX2_readForm FD σ3 t (0 : Int32)) (fun r5 σ6 => lt r5 (fun v7 => if v7 = (-1 : Int32) then gd ((0 : Int32) = 0 ∨ (0 : Int32) = 1) (some ((0 : Int32), σ6)) else gd (ir (σ6.1 t 4) 12) (lt (setI σ6 (t + 1) (σ6.1 t 4).toNatClampNeg v4) (fun σ8 => gd (ir (σ8.1 t 4) 12) (lt (setI σ8 (t + 2) (σ8.1 t 4).toNatClampNeg v7) (fun σ9 => lt (setI σ9 t 4 ((σ9.1 t 4) + (1 : Int32))) (fun σ10 => gd ((1 : Int32) = 0 ∨ (1 : Int32) = 1) (some ((1 : Int32), σ10)))))))))))) else bs (fX2_fail σ (3 : Int32)) (fun r11 σ12 => gd (r11 = 0 ∨ r11 = 1) (some (r11, σ12)))
def fX2_readLine (σ : St) (t : Nat) : Option (Int32 × St) :=
  if (σ.1 t 0) = 0 then bs (fX2_readHead σ t) (fun r15 σ16 => gd (r15 = 0 ∨ r15 = 1) (some (r15, σ16))) else bp (fX2_isWord σ 4) (fun r1 => if r1 = 0 then bp (fX2_isWord σ 12) (fun r2 => if r2 = 0 then bp (fX2_isWord σ 13) (fun r3 => if r3 = 0 then bp (fX2_isWord σ 15) (fun r4 => if r4 = 0 then bs (fX2_fail σ (1 : Int32)) (fun r5 σ6 => gd (r5 = 0 ∨ r5 = 1) (some (r5, σ6))) else bs (fX2_readGuest σ t) (fun r7 σ8 => gd (r7 = 0 ∨ r7 = 1) (some (r7, σ8)))) else bs (fX2_readStep σ t) (fun r9 σ10 => gd (r9 = 0 ∨ r9 = 1) (some (r9, σ10)))) else bs (fX2_readSalt σ t) (fun r11 σ12 => gd (r11 = 0 ∨ r11 = 1) (some (r11, σ12)))) else bs (fX2_readClaim σ t) (fun r13 σ14 => gd (r13 = 0 ∨ r13 = 1) (some (r13, σ14))))
def fX2_readTable_B25 (t : Nat) (kr25 : St → Int32 → Option (Int32 × St)) (σ : St) (x2 : Int32) : Option (Int32 × St) :=
  if (1600 : Int32) ≤ x2 then gd ((1 : Int32) = 0 ∨ (1 : Int32) = 1) (some ((1 : Int32), σ)) else if (σ.1 1 4) = 0 then gd ((1 : Int32) = 0 ∨ (1 : Int32) = 1) (some ((1 : Int32), σ)) else bs (fX2_readLine σ t) (fun r1 σ2 => if r1 = 0 then gd ((0 : Int32) = 0 ∨ (0 : Int32) = 1) (some ((0 : Int32), σ2)) else bs (fX2_readSign σ2) (fun r3 σ4 => if r3 = 0 then gd ((0 : Int32) = 0 ∨ (0 : Int32) = 1) (some ((0 : Int32), σ4)) else lt (setI σ4 t 0 ((σ4.1 t 0) + (1 : Int32))) (fun σ5 => lt (x2 + 1) (fun v6 => kr25 σ5 v6))))
def fX2_readTable_l25 (t : Nat) : Nat → St → Int32 → Option (Int32 × St)
  | 0 => fun _ _ => none
  | n + 1 => fX2_readTable_B25 t (fX2_readTable_l25 t n)
def fX2_readTable (σ : St) (t : Nat) : Option (Int32 × St) :=
  bp (fX6_clear σ t) (fun σ7 => lt (setI σ7 1 2 (0 : Int32)) (fun σ8 => lt (setI σ8 1 3 (-1 : Int32)) (fun σ9 => lt (setI σ9 1 6 (0 : Int32)) (fun σ10 => bp (fX2_advance σ10) (fun σ11 => lt (0 : Int32) (fun v12 => fX2_readTable_l25 t FU σ11 v12))))))
def fX7_table (σ : St) : Option (Int32 × St) :=
  bs (fX2_readTable σ 10) (fun r1 σ2 => lt r1 (fun v3 => lt (setI σ2 1 1 (0 : Int32)) (fun σ4 => if v3 = 0 then some ((-4 : Int32), σ4) else bp (fX6_copyFrom σ4 3 10) (fun σ5 => gd ((1 : Int32) = 0 ∨ (1 : Int32) = 1) (lt (setI σ5 0 7 (1 : Int32)) (fun σ6 => some ((σ6.1 3 0), σ6)))))))
end
