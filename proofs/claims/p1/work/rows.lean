section
-- ===== PART A: goes FIRST, ahead of the names: the tables' words, and 'selects' of the private methods out of them =====
/-- a private method of a class that the tables say can be made, by its rows of tables_1 -/
def lw_okq (q : MethodName × Nat) : Prop := (q.1.cls ≠ "java/lang/invoke/MethodHandle" ∧ q.1.cls ≠ "java/lang/invoke/VarHandle") ∧ Cond.instantiable q.1.cls q.2 ∈ tables_1 ∧ Cond.privateMethod q.1 ∈ tables_1 ∧ Cond.instanceMethod q.1 ∈ tables_1
theorem lw_p0 : lw_okq (⟨"KingTable", "endPlay", "()V"⟩, 6) := ⟨⟨by decide +kernel, by decide +kernel⟩, List.mem_of_getElem? (i := 17) (by decide +kernel), List.mem_of_getElem? (i := 376) (by decide +kernel), List.mem_of_getElem? (i := 377) (by decide +kernel)⟩
theorem lw_p1 : lw_okq (⟨"KingTable$Play", "settle", "(Z)V"⟩, 5) := ⟨⟨by decide +kernel, by decide +kernel⟩, List.mem_of_getElem? (i := 158) (by decide +kernel), List.mem_of_getElem? (i := 459) (by decide +kernel), List.mem_of_getElem? (i := 460) (by decide +kernel)⟩
theorem lw_p2 : lw_okq (⟨"KingTable$Play", "barrier", "(III)I"⟩, 5) := ⟨⟨by decide +kernel, by decide +kernel⟩, List.mem_of_getElem? (i := 158) (by decide +kernel), List.mem_of_getElem? (i := 525) (by decide +kernel), List.mem_of_getElem? (i := 526) (by decide +kernel)⟩
theorem lw_p3 : lw_okq (⟨"KingTable$Play", "comesBack", "(II)Z"⟩, 5) := ⟨⟨by decide +kernel, by decide +kernel⟩, List.mem_of_getElem? (i := 158) (by decide +kernel), List.mem_of_getElem? (i := 532) (by decide +kernel), List.mem_of_getElem? (i := 533) (by decide +kernel)⟩
theorem lw_p4 : lw_okq (⟨"KingTable$Rules", "isCaught", "(LKingTable$Stand;II)Z"⟩, 9) := ⟨⟨by decide +kernel, by decide +kernel⟩, List.mem_of_getElem? (i := 74) (by decide +kernel), List.mem_of_getElem? (i := 542) (by decide +kernel), List.mem_of_getElem? (i := 543) (by decide +kernel)⟩
theorem lw_p5 : lw_okq (⟨"KingTable$Rules", "isFoe", "(LKingTable$Stand;II)Z"⟩, 9) := ⟨⟨by decide +kernel, by decide +kernel⟩, List.mem_of_getElem? (i := 74) (by decide +kernel), List.mem_of_getElem? (i := 546) (by decide +kernel), List.mem_of_getElem? (i := 547) (by decide +kernel)⟩
theorem lw_p6 : lw_okq (⟨"KingTable$Rules", "addVictim", "(I)V"⟩, 9) := ⟨⟨by decide +kernel, by decide +kernel⟩, List.mem_of_getElem? (i := 74) (by decide +kernel), List.mem_of_getElem? (i := 550) (by decide +kernel), List.mem_of_getElem? (i := 551) (by decide +kernel)⟩
theorem lw_p7 : lw_okq (⟨"KingTable$Play", "move", "(II)Z"⟩, 5) := ⟨⟨by decide +kernel, by decide +kernel⟩, List.mem_of_getElem? (i := 158) (by decide +kernel), List.mem_of_getElem? (i := 566) (by decide +kernel), List.mem_of_getElem? (i := 567) (by decide +kernel)⟩
theorem lw_p8 : lw_okq (⟨"KingTable$Ring", "isBarred", "(LKingTable$Stand;II)Z"⟩, 3) := ⟨⟨by decide +kernel, by decide +kernel⟩, List.mem_of_getElem? (i := 252) (by decide +kernel), List.mem_of_getElem? (i := 644) (by decide +kernel), List.mem_of_getElem? (i := 645) (by decide +kernel)⟩
theorem lw_p9 : lw_okq (⟨"KingTable$Solver", "measure", "()Z"⟩, 15) := ⟨⟨by decide +kernel, by decide +kernel⟩, List.mem_of_getElem? (i := 268) (by decide +kernel), List.mem_of_getElem? (i := 683) (by decide +kernel), List.mem_of_getElem? (i := 684) (by decide +kernel)⟩
theorem lw_p10 : lw_okq (⟨"KingTable$Solver", "makeRoom", "(I)V"⟩, 15) := ⟨⟨by decide +kernel, by decide +kernel⟩, List.mem_of_getElem? (i := 268) (by decide +kernel), List.mem_of_getElem? (i := 687) (by decide +kernel), List.mem_of_getElem? (i := 688) (by decide +kernel)⟩
theorem lw_p11 : lw_okq (⟨"KingTable$Solver", "enter", "(I)V"⟩, 15) := ⟨⟨by decide +kernel, by decide +kernel⟩, List.mem_of_getElem? (i := 268) (by decide +kernel), List.mem_of_getElem? (i := 707) (by decide +kernel), List.mem_of_getElem? (i := 708) (by decide +kernel)⟩
theorem lw_p12 : lw_okq (⟨"KingTable$Solver", "setUp", "()Z"⟩, 15) := ⟨⟨by decide +kernel, by decide +kernel⟩, List.mem_of_getElem? (i := 268) (by decide +kernel), List.mem_of_getElem? (i := 711) (by decide +kernel), List.mem_of_getElem? (i := 712) (by decide +kernel)⟩
theorem lw_p13 : lw_okq (⟨"KingTable$Solver", "decide", "(III)V"⟩, 15) := ⟨⟨by decide +kernel, by decide +kernel⟩, List.mem_of_getElem? (i := 268) (by decide +kernel), List.mem_of_getElem? (i := 719) (by decide +kernel), List.mem_of_getElem? (i := 720) (by decide +kernel)⟩
theorem lw_p14 : lw_okq (⟨"KingTable$Solver", "linkMoves", "(I)V"⟩, 15) := ⟨⟨by decide +kernel, by decide +kernel⟩, List.mem_of_getElem? (i := 268) (by decide +kernel), List.mem_of_getElem? (i := 723) (by decide +kernel), List.mem_of_getElem? (i := 724) (by decide +kernel)⟩
theorem lw_p15 : lw_okq (⟨"KingTable$Solver", "behindMove", "(LKingTable$Stand;III)I"⟩, 15) := ⟨⟨by decide +kernel, by decide +kernel⟩, List.mem_of_getElem? (i := 268) (by decide +kernel), List.mem_of_getElem? (i := 731) (by decide +kernel), List.mem_of_getElem? (i := 732) (by decide +kernel)⟩
def lw_privs_1 : List (MethodName × Nat) := [(⟨"KingTable", "endPlay", "()V"⟩, 6), (⟨"KingTable$Play", "settle", "(Z)V"⟩, 5), (⟨"KingTable$Play", "barrier", "(III)I"⟩, 5), (⟨"KingTable$Play", "comesBack", "(II)Z"⟩, 5), (⟨"KingTable$Rules", "isCaught", "(LKingTable$Stand;II)Z"⟩, 9), (⟨"KingTable$Rules", "isFoe", "(LKingTable$Stand;II)Z"⟩, 9), (⟨"KingTable$Rules", "addVictim", "(I)V"⟩, 9), (⟨"KingTable$Play", "move", "(II)Z"⟩, 5), (⟨"KingTable$Ring", "isBarred", "(LKingTable$Stand;II)Z"⟩, 3), (⟨"KingTable$Solver", "measure", "()Z"⟩, 15), (⟨"KingTable$Solver", "makeRoom", "(I)V"⟩, 15), (⟨"KingTable$Solver", "enter", "(I)V"⟩, 15), (⟨"KingTable$Solver", "setUp", "()Z"⟩, 15), (⟨"KingTable$Solver", "decide", "(III)V"⟩, 15), (⟨"KingTable$Solver", "linkMoves", "(I)V"⟩, 15), (⟨"KingTable$Solver", "behindMove", "(LKingTable$Stand;III)I"⟩, 15)]
theorem lw_r1 : ∀ q ∈ lw_privs_1, lw_okq q := List.forall_mem_cons.mpr ⟨lw_p0, List.forall_mem_cons.mpr ⟨lw_p1, List.forall_mem_cons.mpr ⟨lw_p2, List.forall_mem_cons.mpr ⟨lw_p3, List.forall_mem_cons.mpr ⟨lw_p4, List.forall_mem_cons.mpr ⟨lw_p5, List.forall_mem_cons.mpr ⟨lw_p6, List.forall_mem_cons.mpr ⟨lw_p7, List.forall_mem_cons.mpr ⟨lw_p8, List.forall_mem_cons.mpr ⟨lw_p9, List.forall_mem_cons.mpr ⟨lw_p10, List.forall_mem_cons.mpr ⟨lw_p11, List.forall_mem_cons.mpr ⟨lw_p12, List.forall_mem_cons.mpr ⟨lw_p13, List.forall_mem_cons.mpr ⟨lw_p14, List.forall_mem_cons.mpr ⟨lw_p15, fun _ h => absurd h List.not_mem_nil⟩⟩⟩⟩⟩⟩⟩⟩⟩⟩⟩⟩⟩⟩⟩⟩
theorem lw_p16 : lw_okq (⟨"KingTable$Solver", "nextDigits", "()V"⟩, 15) := ⟨⟨by decide +kernel, by decide +kernel⟩, List.mem_of_getElem? (i := 268) (by decide +kernel), List.mem_of_getElem? (i := 739) (by decide +kernel), List.mem_of_getElem? (i := 740) (by decide +kernel)⟩
theorem lw_p17 : lw_okq (⟨"KingTable$Solver", "spread", "()V"⟩, 15) := ⟨⟨by decide +kernel, by decide +kernel⟩, List.mem_of_getElem? (i := 268) (by decide +kernel), List.mem_of_getElem? (i := 743) (by decide +kernel), List.mem_of_getElem? (i := 744) (by decide +kernel)⟩
theorem lw_p18 : lw_okq (⟨"KingTable$Solver", "inform", "(III)V"⟩, 15) := ⟨⟨by decide +kernel, by decide +kernel⟩, List.mem_of_getElem? (i := 268) (by decide +kernel), List.mem_of_getElem? (i := 747) (by decide +kernel), List.mem_of_getElem? (i := 748) (by decide +kernel)⟩
theorem lw_p19 : lw_okq (⟨"KingTable$Solver", "tallyUp", "()V"⟩, 15) := ⟨⟨by decide +kernel, by decide +kernel⟩, List.mem_of_getElem? (i := 268) (by decide +kernel), List.mem_of_getElem? (i := 751) (by decide +kernel), List.mem_of_getElem? (i := 752) (by decide +kernel)⟩
theorem lw_p20 : lw_okq (⟨"KingTable$Solver", "indexOf", "(LKingTable$Stand;)I"⟩, 15) := ⟨⟨by decide +kernel, by decide +kernel⟩, List.mem_of_getElem? (i := 268) (by decide +kernel), List.mem_of_getElem? (i := 764) (by decide +kernel), List.mem_of_getElem? (i := 765) (by decide +kernel)⟩
theorem lw_p21 : lw_okq (⟨"KingTable$Solver", "deepKept", "(LKingTable$Stand;II)I"⟩, 15) := ⟨⟨by decide +kernel, by decide +kernel⟩, List.mem_of_getElem? (i := 268) (by decide +kernel), List.mem_of_getElem? (i := 784) (by decide +kernel), List.mem_of_getElem? (i := 785) (by decide +kernel)⟩
theorem lw_p22 : lw_okq (⟨"KingTableModel", "fields", "()I"⟩, 29) := ⟨⟨by decide +kernel, by decide +kernel⟩, List.mem_of_getElem? (i := 815) (by decide +kernel), List.mem_of_getElem? (i := 930) (by decide +kernel), List.mem_of_getElem? (i := 931) (by decide +kernel)⟩
theorem lw_p23 : lw_okq (⟨"KingTableModel", "write", "(I)V"⟩, 29) := ⟨⟨by decide +kernel, by decide +kernel⟩, List.mem_of_getElem? (i := 815) (by decide +kernel), List.mem_of_getElem? (i := 934) (by decide +kernel), List.mem_of_getElem? (i := 935) (by decide +kernel)⟩
theorem lw_p24 : lw_okq (⟨"KingTableModel", "row", "(I)I"⟩, 29) := ⟨⟨by decide +kernel, by decide +kernel⟩, List.mem_of_getElem? (i := 815) (by decide +kernel), List.mem_of_getElem? (i := 938) (by decide +kernel), List.mem_of_getElem? (i := 939) (by decide +kernel)⟩
theorem lw_p25 : lw_okq (⟨"KingTableModel", "isGoal", "(I)Z"⟩, 29) := ⟨⟨by decide +kernel, by decide +kernel⟩, List.mem_of_getElem? (i := 815) (by decide +kernel), List.mem_of_getElem? (i := 942) (by decide +kernel), List.mem_of_getElem? (i := 943) (by decide +kernel)⟩
theorem lw_p26 : lw_okq (⟨"KingTableModel", "canGo", "(I)Z"⟩, 29) := ⟨⟨by decide +kernel, by decide +kernel⟩, List.mem_of_getElem? (i := 815) (by decide +kernel), List.mem_of_getElem? (i := 946) (by decide +kernel), List.mem_of_getElem? (i := 947) (by decide +kernel)⟩
theorem lw_p27 : lw_okq (⟨"KingTableModel", "sideOf", "(I)I"⟩, 29) := ⟨⟨by decide +kernel, by decide +kernel⟩, List.mem_of_getElem? (i := 815) (by decide +kernel), List.mem_of_getElem? (i := 950) (by decide +kernel), List.mem_of_getElem? (i := 951) (by decide +kernel)⟩
theorem lw_p28 : lw_okq (⟨"KingTableModel", "movesOf", "(I)I"⟩, 29) := ⟨⟨by decide +kernel, by decide +kernel⟩, List.mem_of_getElem? (i := 815) (by decide +kernel), List.mem_of_getElem? (i := 954) (by decide +kernel), List.mem_of_getElem? (i := 955) (by decide +kernel)⟩
theorem lw_p29 : lw_okq (⟨"KingTableModel", "bar", "(III)I"⟩, 29) := ⟨⟨by decide +kernel, by decide +kernel⟩, List.mem_of_getElem? (i := 815) (by decide +kernel), List.mem_of_getElem? (i := 958) (by decide +kernel), List.mem_of_getElem? (i := 959) (by decide +kernel)⟩
theorem lw_p30 : lw_okq (⟨"KingTableModel", "along", "(III)I"⟩, 29) := ⟨⟨by decide +kernel, by decide +kernel⟩, List.mem_of_getElem? (i := 815) (by decide +kernel), List.mem_of_getElem? (i := 962) (by decide +kernel), List.mem_of_getElem? (i := 963) (by decide +kernel)⟩
theorem lw_p31 : lw_okq (⟨"KingTableModel", "bears", "(II)Z"⟩, 29) := ⟨⟨by decide +kernel, by decide +kernel⟩, List.mem_of_getElem? (i := 815) (by decide +kernel), List.mem_of_getElem? (i := 966) (by decide +kernel), List.mem_of_getElem? (i := 967) (by decide +kernel)⟩
def lw_privs_2 : List (MethodName × Nat) := [(⟨"KingTable$Solver", "nextDigits", "()V"⟩, 15), (⟨"KingTable$Solver", "spread", "()V"⟩, 15), (⟨"KingTable$Solver", "inform", "(III)V"⟩, 15), (⟨"KingTable$Solver", "tallyUp", "()V"⟩, 15), (⟨"KingTable$Solver", "indexOf", "(LKingTable$Stand;)I"⟩, 15), (⟨"KingTable$Solver", "deepKept", "(LKingTable$Stand;II)I"⟩, 15), (⟨"KingTableModel", "fields", "()I"⟩, 29), (⟨"KingTableModel", "write", "(I)V"⟩, 29), (⟨"KingTableModel", "row", "(I)I"⟩, 29), (⟨"KingTableModel", "isGoal", "(I)Z"⟩, 29), (⟨"KingTableModel", "canGo", "(I)Z"⟩, 29), (⟨"KingTableModel", "sideOf", "(I)I"⟩, 29), (⟨"KingTableModel", "movesOf", "(I)I"⟩, 29), (⟨"KingTableModel", "bar", "(III)I"⟩, 29), (⟨"KingTableModel", "along", "(III)I"⟩, 29), (⟨"KingTableModel", "bears", "(II)Z"⟩, 29)]
theorem lw_r2 : ∀ q ∈ lw_privs_2, lw_okq q := List.forall_mem_cons.mpr ⟨lw_p16, List.forall_mem_cons.mpr ⟨lw_p17, List.forall_mem_cons.mpr ⟨lw_p18, List.forall_mem_cons.mpr ⟨lw_p19, List.forall_mem_cons.mpr ⟨lw_p20, List.forall_mem_cons.mpr ⟨lw_p21, List.forall_mem_cons.mpr ⟨lw_p22, List.forall_mem_cons.mpr ⟨lw_p23, List.forall_mem_cons.mpr ⟨lw_p24, List.forall_mem_cons.mpr ⟨lw_p25, List.forall_mem_cons.mpr ⟨lw_p26, List.forall_mem_cons.mpr ⟨lw_p27, List.forall_mem_cons.mpr ⟨lw_p28, List.forall_mem_cons.mpr ⟨lw_p29, List.forall_mem_cons.mpr ⟨lw_p30, List.forall_mem_cons.mpr ⟨lw_p31, fun _ h => absurd h List.not_mem_nil⟩⟩⟩⟩⟩⟩⟩⟩⟩⟩⟩⟩⟩⟩⟩⟩
theorem lw_p32 : lw_okq (⟨"KingTableModel", "make", "(III)V"⟩, 29) := ⟨⟨by decide +kernel, by decide +kernel⟩, List.mem_of_getElem? (i := 815) (by decide +kernel), List.mem_of_getElem? (i := 978) (by decide +kernel), List.mem_of_getElem? (i := 979) (by decide +kernel)⟩
theorem lw_p33 : lw_okq (⟨"KingTableModel", "takes", "(I)Z"⟩, 29) := ⟨⟨by decide +kernel, by decide +kernel⟩, List.mem_of_getElem? (i := 815) (by decide +kernel), List.mem_of_getElem? (i := 982) (by decide +kernel), List.mem_of_getElem? (i := 983) (by decide +kernel)⟩
theorem lw_p34 : lw_okq (⟨"KingTableModel", "isTaken", "(II)Z"⟩, 29) := ⟨⟨by decide +kernel, by decide +kernel⟩, List.mem_of_getElem? (i := 815) (by decide +kernel), List.mem_of_getElem? (i := 986) (by decide +kernel), List.mem_of_getElem? (i := 987) (by decide +kernel)⟩
theorem lw_p35 : lw_okq (⟨"KingTableModel", "isFoe", "(II)Z"⟩, 29) := ⟨⟨by decide +kernel, by decide +kernel⟩, List.mem_of_getElem? (i := 815) (by decide +kernel), List.mem_of_getElem? (i := 990) (by decide +kernel), List.mem_of_getElem? (i := 991) (by decide +kernel)⟩
theorem lw_p36 : lw_okq (⟨"KingTableModel", "cameBack", "(I)Z"⟩, 29) := ⟨⟨by decide +kernel, by decide +kernel⟩, List.mem_of_getElem? (i := 815) (by decide +kernel), List.mem_of_getElem? (i := 994) (by decide +kernel), List.mem_of_getElem? (i := 995) (by decide +kernel)⟩
theorem lw_p37 : lw_okq (⟨"KingTableModel", "isAlike", "(II)Z"⟩, 29) := ⟨⟨by decide +kernel, by decide +kernel⟩, List.mem_of_getElem? (i := 815) (by decide +kernel), List.mem_of_getElem? (i := 998) (by decide +kernel), List.mem_of_getElem? (i := 999) (by decide +kernel)⟩
theorem lw_p38 : lw_okq (⟨"KingTableModel", "read", "(I)V"⟩, 29) := ⟨⟨by decide +kernel, by decide +kernel⟩, List.mem_of_getElem? (i := 815) (by decide +kernel), List.mem_of_getElem? (i := 1002) (by decide +kernel), List.mem_of_getElem? (i := 1003) (by decide +kernel)⟩
theorem lw_p39 : lw_okq (⟨"KingTableModel", "lookAgain", "()V"⟩, 29) := ⟨⟨by decide +kernel, by decide +kernel⟩, List.mem_of_getElem? (i := 815) (by decide +kernel), List.mem_of_getElem? (i := 1006) (by decide +kernel), List.mem_of_getElem? (i := 1007) (by decide +kernel)⟩
theorem lw_p40 : lw_okq (⟨"KingTableModel", "doMove", "(I)V"⟩, 29) := ⟨⟨by decide +kernel, by decide +kernel⟩, List.mem_of_getElem? (i := 815) (by decide +kernel), List.mem_of_getElem? (i := 1015) (by decide +kernel), List.mem_of_getElem? (i := 1016) (by decide +kernel)⟩
theorem lw_p41 : lw_okq (⟨"KingTableModel", "comesOut", "(I)Z"⟩, 29) := ⟨⟨by decide +kernel, by decide +kernel⟩, List.mem_of_getElem? (i := 815) (by decide +kernel), List.mem_of_getElem? (i := 1051) (by decide +kernel), List.mem_of_getElem? (i := 1052) (by decide +kernel)⟩
theorem lw_p42 : lw_okq (⟨"KingTableModel", "stands", "()J"⟩, 29) := ⟨⟨by decide +kernel, by decide +kernel⟩, List.mem_of_getElem? (i := 815) (by decide +kernel), List.mem_of_getElem? (i := 1064) (by decide +kernel), List.mem_of_getElem? (i := 1065) (by decide +kernel)⟩
theorem lw_p43 : lw_okq (⟨"KingTableModel", "setUp", "(I)Z"⟩, 29) := ⟨⟨by decide +kernel, by decide +kernel⟩, List.mem_of_getElem? (i := 815) (by decide +kernel), List.mem_of_getElem? (i := 1070) (by decide +kernel), List.mem_of_getElem? (i := 1071) (by decide +kernel)⟩
theorem lw_p44 : lw_okq (⟨"KingTableModel", "endOf", "()I"⟩, 29) := ⟨⟨by decide +kernel, by decide +kernel⟩, List.mem_of_getElem? (i := 815) (by decide +kernel), List.mem_of_getElem? (i := 1074) (by decide +kernel), List.mem_of_getElem? (i := 1075) (by decide +kernel)⟩
theorem lw_p45 : lw_okq (⟨"KingTableModel", "tried", "(I)I"⟩, 29) := ⟨⟨by decide +kernel, by decide +kernel⟩, List.mem_of_getElem? (i := 815) (by decide +kernel), List.mem_of_getElem? (i := 1078) (by decide +kernel), List.mem_of_getElem? (i := 1079) (by decide +kernel)⟩
theorem lw_p46 : lw_okq (⟨"KingTableModel", "number", "()I"⟩, 29) := ⟨⟨by decide +kernel, by decide +kernel⟩, List.mem_of_getElem? (i := 815) (by decide +kernel), List.mem_of_getElem? (i := 1082) (by decide +kernel), List.mem_of_getElem? (i := 1083) (by decide +kernel)⟩
theorem lw_p47 : lw_okq (⟨"KingTableModel", "leads", "(II)I"⟩, 29) := ⟨⟨by decide +kernel, by decide +kernel⟩, List.mem_of_getElem? (i := 815) (by decide +kernel), List.mem_of_getElem? (i := 1098) (by decide +kernel), List.mem_of_getElem? (i := 1099) (by decide +kernel)⟩
def lw_privs_3 : List (MethodName × Nat) := [(⟨"KingTableModel", "make", "(III)V"⟩, 29), (⟨"KingTableModel", "takes", "(I)Z"⟩, 29), (⟨"KingTableModel", "isTaken", "(II)Z"⟩, 29), (⟨"KingTableModel", "isFoe", "(II)Z"⟩, 29), (⟨"KingTableModel", "cameBack", "(I)Z"⟩, 29), (⟨"KingTableModel", "isAlike", "(II)Z"⟩, 29), (⟨"KingTableModel", "read", "(I)V"⟩, 29), (⟨"KingTableModel", "lookAgain", "()V"⟩, 29), (⟨"KingTableModel", "doMove", "(I)V"⟩, 29), (⟨"KingTableModel", "comesOut", "(I)Z"⟩, 29), (⟨"KingTableModel", "stands", "()J"⟩, 29), (⟨"KingTableModel", "setUp", "(I)Z"⟩, 29), (⟨"KingTableModel", "endOf", "()I"⟩, 29), (⟨"KingTableModel", "tried", "(I)I"⟩, 29), (⟨"KingTableModel", "number", "()I"⟩, 29), (⟨"KingTableModel", "leads", "(II)I"⟩, 29)]
theorem lw_r3 : ∀ q ∈ lw_privs_3, lw_okq q := List.forall_mem_cons.mpr ⟨lw_p32, List.forall_mem_cons.mpr ⟨lw_p33, List.forall_mem_cons.mpr ⟨lw_p34, List.forall_mem_cons.mpr ⟨lw_p35, List.forall_mem_cons.mpr ⟨lw_p36, List.forall_mem_cons.mpr ⟨lw_p37, List.forall_mem_cons.mpr ⟨lw_p38, List.forall_mem_cons.mpr ⟨lw_p39, List.forall_mem_cons.mpr ⟨lw_p40, List.forall_mem_cons.mpr ⟨lw_p41, List.forall_mem_cons.mpr ⟨lw_p42, List.forall_mem_cons.mpr ⟨lw_p43, List.forall_mem_cons.mpr ⟨lw_p44, List.forall_mem_cons.mpr ⟨lw_p45, List.forall_mem_cons.mpr ⟨lw_p46, List.forall_mem_cons.mpr ⟨lw_p47, fun _ h => absurd h List.not_mem_nil⟩⟩⟩⟩⟩⟩⟩⟩⟩⟩⟩⟩⟩⟩⟩⟩
def lw_privs : List (MethodName × Nat) := lw_privs_1 ++ (lw_privs_2 ++ (lw_privs_3))
def lw_tbl : List Cond := k2_sels lw_privs ++ tables_1
theorem lw_privs_ok : ∀ q ∈ lw_privs, lw_okq q := by
  show ∀ q ∈ lw_privs_1 ++ (lw_privs_2 ++ (lw_privs_3)), lw_okq q
  exact List.forall_mem_append.mpr ⟨lw_r1, List.forall_mem_append.mpr ⟨lw_r2, lw_r3⟩⟩
-- ===== end of PART A; then your names; then what follows =====
end
section
/-! ===== BEGIN words of one list among another's, by their places ===== -/
theorem goodIn_r {big : List Cond} (ws : List Cond) (ps : List Nat) (hp : ws = ps.filterMap (fun i => big[i]?)) (h : ws.all goodWord = true) : GoodIn big ws := by
  intro w hw
  have h1 := List.all_eq_true.mp h w hw
  rw [hp] at hw
  obtain ⟨i, -, hi⟩ := List.mem_filterMap.mp hw
  have hm : w ∈ big := by first | exact List.mem_of_getElem? hi | exact List.getElem?_mem hi
  exact ⟨hm, good_of_word h1⟩
theorem goodIn_app {big a b : List Cond} (ha : GoodIn big a) (hb : GoodIn big b) : GoodIn big (a ++ b) := fun w h => (List.mem_append.mp h).elim (ha w) (hb w)
theorem goodIn_ca {big a b : List Cond} {c : Cond} (ha : GoodIn big (c :: a)) (hb : GoodIn big b) : GoodIn big (c :: (a ++ b)) := fun w h => (List.mem_cons.mp h).elim (fun e => ha w (List.mem_cons.mpr (Or.inl e))) (fun h => (List.mem_append.mp h).elim (fun h => ha w (List.mem_cons.mpr (Or.inr h))) (hb w))
theorem goodIn_sub {big ws : List Cond} (hm : ∀ w ∈ ws, w ∈ big) (h : ws.all goodWord = true) : GoodIn big ws := fun w hw => ⟨hm w hw, good_of_word (List.all_eq_true.mp h w hw)⟩
/-! ===== END ===== -/

/-! ===== BEGIN printed: names, fields, word lists, decode rows ===== -/
def RX0 : String := "KingTable$Ground"
def TX0 : u_T := fun k => match k with
  | 0 => ("KingTable$Ground", "types", "[I", true)
  | 1 => ("KingTable$Ground", "goals", "[Z", true)
  | 2 => ("KingTable$Ground", "neighbours", "[I", true)
  | 3 => ("KingTable$Ground", "size", "I", false)
  | _ => ("KingTable$Ground", "mostMoves", "I", false)
def tyX0 : Nat → FieldType := fun k => match k with
  | 0 => .array .int
  | 1 => .array .boolean
  | 2 => .array .int
  | 3 => .int
  | _ => .int
abbrev wsX00 : List Cond := u_ws RX0 TX0 5
theorem nmX0 : ∀ a, a < 5 → ∀ b, b < 5 → a ≠ b → (TX0 a).2.1 ≠ (TX0 b).2.1 := by decide +kernel
theorem tyX0_ok : ∀ k, k < 5 → parseFieldDescriptor (TX0 k).2.2.1 = some (tyX0 k) := by decide +kernel
abbrev cX0_init : ByteArray := prog_2_method_1_code
def yX0_init : MethodName := ⟨RX0, "<init>", "()V"⟩
abbrev cX0_lay : ByteArray := prog_2_method_2_code
def yX0_lay : MethodName := ⟨RX0, "lay", "(LKingTable$Told;I)V"⟩
abbrev cX0_beside : ByteArray := prog_2_method_3_code
def yX0_beside : MethodName := ⟨RX0, "beside", "(II)I"⟩
abbrev cX0_away : ByteArray := prog_2_method_4_code
def yX0_away : MethodName := ⟨RX0, "away", "(III)I"⟩
def RX1 : String := "KingTable$Laws"
def TX1 : u_T := fun k => match k with
  | 0 => ("KingTable$Laws", "goal", "I", false)
  | 1 => ("KingTable$Laws", "hard", "I", false)
  | 2 => ("KingTable$Laws", "kingTakes", "Z", false)
  | 3 => ("KingTable$Laws", "reach", "I", false)
  | _ => ("KingTable$Laws", "comeback", "I", false)
def tyX1 : Nat → FieldType := fun k => match k with
  | 0 => .int
  | 1 => .int
  | 2 => .boolean
  | 3 => .int
  | _ => .int
abbrev wsX10 : List Cond := u_ws RX1 TX1 5
theorem nmX1 : ∀ a, a < 5 → ∀ b, b < 5 → a ≠ b → (TX1 a).2.1 ≠ (TX1 b).2.1 := by decide +kernel
theorem tyX1_ok : ∀ k, k < 5 → parseFieldDescriptor (TX1 k).2.2.1 = some (tyX1 k) := by decide +kernel
abbrev cX1_init : ByteArray := prog_3_method_1_code
def yX1_init : MethodName := ⟨RX1, "<init>", "()V"⟩
abbrev cX1_change : ByteArray := prog_3_method_2_code
def yX1_change : MethodName := ⟨RX1, "change", "(IIZII)Z"⟩
def RX2 : String := "KingTable$Links"
def TX2 : u_T := fun k => match k with
  | 0 => ("KingTable$Links", "heads", "[I", false)
  | 1 => ("KingTable$Links", "sources", "[I", false)
  | 2 => ("KingTable$Links", "nexts", "[I", false)
  | _ => ("KingTable$Links", "used", "I", false)
def tyX2 : Nat → FieldType := fun k => match k with
  | 0 => .array .int
  | 1 => .array .int
  | 2 => .array .int
  | _ => .int
abbrev wsX20 : List Cond := u_ws RX2 TX2 4
theorem nmX2 : ∀ a, a < 4 → ∀ b, b < 4 → a ≠ b → (TX2 a).2.1 ≠ (TX2 b).2.1 := by decide +kernel
theorem tyX2_ok : ∀ k, k < 4 → parseFieldDescriptor (TX2 k).2.2.1 = some (tyX2 k) := by decide +kernel
abbrev cX2_init : ByteArray := prog_4_method_1_code
def yX2_init : MethodName := ⟨RX2, "<init>", "()V"⟩
abbrev cX2_renew : ByteArray := prog_4_method_2_code
def yX2_renew : MethodName := ⟨RX2, "renew", "(II)V"⟩
abbrev cX2_roomFor : ByteArray := prog_4_method_3_code
def yX2_roomFor : MethodName := ⟨RX2, "roomFor", "(III)I"⟩
abbrev cX2_add : ByteArray := prog_4_method_4_code
def yX2_add : MethodName := ⟨RX2, "add", "(II)V"⟩
def RX3 : String := "KingTable$Log"
def TX3 : u_T := fun k => match k with
  | 0 => ("KingTable$Log", "movers", "[I", true)
  | 1 => ("KingTable$Log", "froms", "[I", true)
  | 2 => ("KingTable$Log", "tos", "[I", true)
  | 3 => ("KingTable$Log", "takings", "[I", true)
  | 4 => ("KingTable$Log", "victims", "[I", true)
  | 5 => ("KingTable$Log", "victimFields", "[I", true)
  | 6 => ("KingTable$Log", "then", "[I", true)
  | 7 => ("KingTable$Log", "done", "I", false)
  | _ => ("KingTable$Log", "known", "I", false)
def tyX3 : Nat → FieldType := fun k => match k with
  | 0 => .array .int
  | 1 => .array .int
  | 2 => .array .int
  | 3 => .array .int
  | 4 => .array .int
  | 5 => .array .int
  | 6 => .array .int
  | 7 => .int
  | _ => .int
abbrev wsX30 : List Cond := u_ws RX3 TX3 9
theorem nmX3 : ∀ a, a < 9 → ∀ b, b < 9 → a ≠ b → (TX3 a).2.1 ≠ (TX3 b).2.1 := by decide +kernel
theorem tyX3_ok : ∀ k, k < 9 → parseFieldDescriptor (TX3 k).2.2.1 = some (tyX3 k) := by decide +kernel
abbrev cX3_init : ByteArray := prog_5_method_1_code
def yX3_init : MethodName := ⟨RX3, "<init>", "()V"⟩
abbrev cX3_clear : ByteArray := prog_5_method_2_code
def yX3_clear : MethodName := ⟨RX3, "clear", "()V"⟩
abbrev cX3_isFull : ByteArray := prog_5_method_3_code
def yX3_isFull : MethodName := ⟨RX3, "isFull", "()Z"⟩
abbrev cX3_write : ByteArray := prog_5_method_4_code
def yX3_write : MethodName := ⟨RX3, "write", "(LKingTable$Stand;IILKingTable$Rules;)V"⟩
abbrev cX3_latestTakings : ByteArray := prog_5_method_5_code
def yX3_latestTakings : MethodName := ⟨RX3, "latestTakings", "()I"⟩
abbrev cX3_latestVictim : ByteArray := prog_5_method_6_code
def yX3_latestVictim : MethodName := ⟨RX3, "latestVictim", "(I)I"⟩
abbrev cX3_unwind : ByteArray := prog_5_method_7_code
def yX3_unwind : MethodName := ⟨RX3, "unwind", "(LKingTable$Stand;)V"⟩
abbrev cX3_hasSeen : ByteArray := prog_5_method_8_code
def yX3_hasSeen : MethodName := ⟨RX3, "hasSeen", "(LKingTable$Stand;II)Z"⟩
def RX4 : String := "KingTable$Play"
def TX4 : u_T := fun k => match k with
  | 0 => ("KingTable$Play", "laws", "LKingTable$Laws;", true)
  | 1 => ("KingTable$Play", "rules", "LKingTable$Rules;", true)
  | 2 => ("KingTable$Play", "now", "LKingTable$Stand;", true)
  | 3 => ("KingTable$Play", "log", "LKingTable$Log;", true)
  | _ => ("KingTable$Play", "state", "I", false)
def tyX4 : Nat → FieldType := fun k => match k with
  | 0 => .object "KingTable$Laws"
  | 1 => .object "KingTable$Rules"
  | 2 => .object "KingTable$Stand"
  | 3 => .object "KingTable$Log"
  | _ => .int
abbrev wsX40 : List Cond := u_ws RX4 TX4 5
theorem nmX4 : ∀ a, a < 5 → ∀ b, b < 5 → a ≠ b → (TX4 a).2.1 ≠ (TX4 b).2.1 := by decide +kernel
theorem tyX4_ok : ∀ k, k < 5 → parseFieldDescriptor (TX4 k).2.2.1 = some (tyX4 k) := by decide +kernel
abbrev cX4_init : ByteArray := prog_6_method_1_code
def yX4_init : MethodName := ⟨RX4, "<init>", "(LKingTable$Laws;LKingTable$Rules;)V"⟩
abbrev cX4_isThere : ByteArray := prog_6_method_2_code
def yX4_isThere : MethodName := ⟨RX4, "isThere", "()Z"⟩
abbrev cX4_start : ByteArray := prog_6_method_3_code
def yX4_start : MethodName := ⟨RX4, "start", "(LKingTable$Told;I)V"⟩
abbrev cX4_finish : ByteArray := prog_6_method_4_code
def yX4_finish : MethodName := ⟨RX4, "finish", "()V"⟩
abbrev cX4_settle : ByteArray := prog_6_method_5_code
def yX4_settle : MethodName := ⟨RX4, "settle", "(Z)V"⟩
abbrev cX4_sideOnTurn : ByteArray := prog_6_method_6_code
def yX4_sideOnTurn : MethodName := ⟨RX4, "sideOnTurn", "()I"⟩
abbrev cX4_lost : ByteArray := prog_6_method_7_code
def yX4_lost : MethodName := ⟨RX4, "lost", "()I"⟩
abbrev cX4_movesOf : ByteArray := prog_6_method_8_code
def yX4_movesOf : MethodName := ⟨RX4, "movesOf", "(I)I"⟩
abbrev cX4_reason : ByteArray := prog_6_method_9_code
def yX4_reason : MethodName := ⟨RX4, "reason", "(III)I"⟩
abbrev cX4_barrier : ByteArray := prog_6_method_10_code
def yX4_barrier : MethodName := ⟨RX4, "barrier", "(III)I"⟩
abbrev cX4_comesBack : ByteArray := prog_6_method_11_code
def yX4_comesBack : MethodName := ⟨RX4, "comesBack", "(II)Z"⟩
abbrev cX4_tryMove : ByteArray := prog_6_method_12_code
def yX4_tryMove : MethodName := ⟨RX4, "tryMove", "(III)I"⟩
abbrev cX4_move : ByteArray := prog_6_method_13_code
def yX4_move : MethodName := ⟨RX4, "move", "(II)Z"⟩
abbrev cX4_takeBack : ByteArray := prog_6_method_14_code
def yX4_takeBack : MethodName := ⟨RX4, "takeBack", "()Z"⟩
abbrev cX4_redo : ByteArray := prog_6_method_15_code
def yX4_redo : MethodName := ⟨RX4, "redo", "()Z"⟩
def RX5 : String := "KingTable$Ring"
def TX5 : u_T := fun k => match k with
  | 0 => ("KingTable$Ring", "rules", "LKingTable$Rules;", true)
  | 1 => ("KingTable$Ring", "reached", "[I", true)
  | _ => ("KingTable$Ring", "seen", "[Z", true)
def tyX5 : Nat → FieldType := fun k => match k with
  | 0 => .object "KingTable$Rules"
  | 1 => .array .int
  | _ => .array .boolean
abbrev wsX50 : List Cond := u_ws RX5 TX5 3
theorem nmX5 : ∀ a, a < 3 → ∀ b, b < 3 → a ≠ b → (TX5 a).2.1 ≠ (TX5 b).2.1 := by decide +kernel
theorem tyX5_ok : ∀ k, k < 3 → parseFieldDescriptor (TX5 k).2.2.1 = some (tyX5 k) := by decide +kernel
abbrev cX5_init : ByteArray := prog_7_method_1_code
def yX5_init : MethodName := ⟨RX5, "<init>", "(LKingTable$Rules;)V"⟩
abbrev cX5_holds : ByteArray := prog_7_method_2_code
def yX5_holds : MethodName := ⟨RX5, "holds", "(LKingTable$Stand;I)Z"⟩
abbrev cX5_isBarred : ByteArray := prog_7_method_3_code
def yX5_isBarred : MethodName := ⟨RX5, "isBarred", "(LKingTable$Stand;II)Z"⟩
def RX6 : String := "KingTable$Rules"
def TX6 : u_T := fun k => match k with
  | 0 => ("KingTable$Rules", "laws", "LKingTable$Laws;", true)
  | 1 => ("KingTable$Rules", "ground", "LKingTable$Ground;", true)
  | 2 => ("KingTable$Rules", "kinds", "[I", true)
  | 3 => ("KingTable$Rules", "sides", "[I", true)
  | 4 => ("KingTable$Rules", "takers", "[Z", true)
  | 5 => ("KingTable$Rules", "total", "I", false)
  | 6 => ("KingTable$Rules", "king", "I", false)
  | 7 => ("KingTable$Rules", "victims", "[I", true)
  | _ => ("KingTable$Rules", "victimCount", "I", false)
def tyX6 : Nat → FieldType := fun k => match k with
  | 0 => .object "KingTable$Laws"
  | 1 => .object "KingTable$Ground"
  | 2 => .array .int
  | 3 => .array .int
  | 4 => .array .boolean
  | 5 => .int
  | 6 => .int
  | 7 => .array .int
  | _ => .int
abbrev wsX60 : List Cond := u_ws RX6 TX6 9
theorem nmX6 : ∀ a, a < 9 → ∀ b, b < 9 → a ≠ b → (TX6 a).2.1 ≠ (TX6 b).2.1 := by decide +kernel
theorem tyX6_ok : ∀ k, k < 9 → parseFieldDescriptor (TX6 k).2.2.1 = some (tyX6 k) := by decide +kernel
abbrev cX6_init : ByteArray := prog_8_method_1_code
def yX6_init : MethodName := ⟨RX6, "<init>", "(LKingTable$Laws;)V"⟩
abbrev cX6_enlist : ByteArray := prog_8_method_2_code
def yX6_enlist : MethodName := ⟨RX6, "enlist", "(I)V"⟩
abbrev cX6_dismiss : ByteArray := prog_8_method_3_code
def yX6_dismiss : MethodName := ⟨RX6, "dismiss", "()V"⟩
abbrev cX6_isPiece : ByteArray := prog_8_method_4_code
def yX6_isPiece : MethodName := ⟨RX6, "isPiece", "(I)Z"⟩
abbrev cX6_bears : ByteArray := prog_8_method_5_code
def yX6_bears : MethodName := ⟨RX6, "bears", "(II)Z"⟩
abbrev cX6_isGoal : ByteArray := prog_8_method_6_code
def yX6_isGoal : MethodName := ⟨RX6, "isGoal", "(I)Z"⟩
abbrev cX6_isBeyondReach : ByteArray := prog_8_method_7_code
def yX6_isBeyondReach : MethodName := ⟨RX6, "isBeyondReach", "(II)Z"⟩
abbrev cX6_room : ByteArray := prog_8_method_8_code
def yX6_room : MethodName := ⟨RX6, "room", "(LKingTable$Stand;II)I"⟩
abbrev cX6_movesOf : ByteArray := prog_8_method_9_code
def yX6_movesOf : MethodName := ⟨RX6, "movesOf", "(LKingTable$Stand;I)I"⟩
abbrev cX6_canGo : ByteArray := prog_8_method_10_code
def yX6_canGo : MethodName := ⟨RX6, "canGo", "(LKingTable$Stand;)Z"⟩
abbrev cX6_winner : ByteArray := prog_8_method_11_code
def yX6_winner : MethodName := ⟨RX6, "winner", "(LKingTable$Stand;)I"⟩
abbrev cX6_findVictims : ByteArray := prog_8_method_12_code
def yX6_findVictims : MethodName := ⟨RX6, "findVictims", "(LKingTable$Stand;II)I"⟩
abbrev cX6_addVictim : ByteArray := prog_8_method_13_code
def yX6_addVictim : MethodName := ⟨RX6, "addVictim", "(I)V"⟩
abbrev cX6_isCaught : ByteArray := prog_8_method_14_code
def yX6_isCaught : MethodName := ⟨RX6, "isCaught", "(LKingTable$Stand;II)Z"⟩
abbrev cX6_isFoe : ByteArray := prog_8_method_15_code
def yX6_isFoe : MethodName := ⟨RX6, "isFoe", "(LKingTable$Stand;II)Z"⟩
def RX7 : String := "KingTable$Solver"
def TX7 : u_T := fun k => match k with
  | 0 => ("KingTable$Solver", "rules", "LKingTable$Rules;", true)
  | 1 => ("KingTable$Solver", "trial", "LKingTable$Stand;", true)
  | 2 => ("KingTable$Solver", "links", "LKingTable$Links;", true)
  | 3 => ("KingTable$Solver", "powers", "[I", true)
  | 4 => ("KingTable$Solver", "digits", "[I", true)
  | 5 => ("KingTable$Solver", "tallies", "[I", true)
  | 6 => ("KingTable$Solver", "greatest", "[I", true)
  | 7 => ("KingTable$Solver", "worths", "[I", false)
  | 8 => ("KingTable$Solver", "deeps", "[I", false)
  | 9 => ("KingTable$Solver", "open", "[I", false)
  | 10 => ("KingTable$Solver", "queue", "[I", false)
  | 11 => ("KingTable$Solver", "queued", "I", false)
  | 12 => ("KingTable$Solver", "places", "I", false)
  | 13 => ("KingTable$Solver", "counted", "I", false)
  | _ => ("KingTable$Solver", "solved", "Z", false)
def tyX7 : Nat → FieldType := fun k => match k with
  | 0 => .object "KingTable$Rules"
  | 1 => .object "KingTable$Stand"
  | 2 => .object "KingTable$Links"
  | 3 => .array .int
  | 4 => .array .int
  | 5 => .array .int
  | 6 => .array .int
  | 7 => .array .int
  | 8 => .array .int
  | 9 => .array .int
  | 10 => .array .int
  | 11 => .int
  | 12 => .int
  | 13 => .int
  | _ => .boolean
abbrev wsX70 : List Cond := u_ws RX7 TX7 15
theorem nmX7 : ∀ a, a < 15 → ∀ b, b < 15 → a ≠ b → (TX7 a).2.1 ≠ (TX7 b).2.1 := by decide +kernel
theorem tyX7_ok : ∀ k, k < 15 → parseFieldDescriptor (TX7 k).2.2.1 = some (tyX7 k) := by decide +kernel
abbrev cX7_init : ByteArray := prog_9_method_1_code
def yX7_init : MethodName := ⟨RX7, "<init>", "(LKingTable$Rules;)V"⟩
abbrev cX7_forget : ByteArray := prog_9_method_2_code
def yX7_forget : MethodName := ⟨RX7, "forget", "()V"⟩
abbrev cX7_solveAll : ByteArray := prog_9_method_3_code
def yX7_solveAll : MethodName := ⟨RX7, "solveAll", "()I"⟩
abbrev cX7_measure : ByteArray := prog_9_method_4_code
def yX7_measure : MethodName := ⟨RX7, "measure", "()Z"⟩
abbrev cX7_makeRoom : ByteArray := prog_9_method_5_code
def yX7_makeRoom : MethodName := ⟨RX7, "makeRoom", "(I)V"⟩
abbrev cX7_nextDigits : ByteArray := prog_9_method_6_code
def yX7_nextDigits : MethodName := ⟨RX7, "nextDigits", "()V"⟩
abbrev cX7_enter : ByteArray := prog_9_method_7_code
def yX7_enter : MethodName := ⟨RX7, "enter", "(I)V"⟩
abbrev cX7_setUp : ByteArray := prog_9_method_8_code
def yX7_setUp : MethodName := ⟨RX7, "setUp", "()Z"⟩
abbrev cX7_linkMoves : ByteArray := prog_9_method_9_code
def yX7_linkMoves : MethodName := ⟨RX7, "linkMoves", "(I)V"⟩
abbrev cX7_behindMove : ByteArray := prog_9_method_10_code
def yX7_behindMove : MethodName := ⟨RX7, "behindMove", "(LKingTable$Stand;III)I"⟩
abbrev cX7_decide : ByteArray := prog_9_method_11_code
def yX7_decide : MethodName := ⟨RX7, "decide", "(III)V"⟩
abbrev cX7_spread : ByteArray := prog_9_method_12_code
def yX7_spread : MethodName := ⟨RX7, "spread", "()V"⟩
abbrev cX7_inform : ByteArray := prog_9_method_13_code
def yX7_inform : MethodName := ⟨RX7, "inform", "(III)V"⟩
abbrev cX7_tallyUp : ByteArray := prog_9_method_14_code
def yX7_tallyUp : MethodName := ⟨RX7, "tallyUp", "()V"⟩
abbrev cX7_indexOf : ByteArray := prog_9_method_15_code
def yX7_indexOf : MethodName := ⟨RX7, "indexOf", "(LKingTable$Stand;)I"⟩
abbrev cX7_worthOf : ByteArray := prog_9_method_16_code
def yX7_worthOf : MethodName := ⟨RX7, "worthOf", "(LKingTable$Stand;)I"⟩
abbrev cX7_deepOf : ByteArray := prog_9_method_17_code
def yX7_deepOf : MethodName := ⟨RX7, "deepOf", "(LKingTable$Stand;)I"⟩
abbrev cX7_bestMove : ByteArray := prog_9_method_18_code
def yX7_bestMove : MethodName := ⟨RX7, "bestMove", "(LKingTable$Stand;)I"⟩
abbrev cX7_deepKept : ByteArray := prog_9_method_19_code
def yX7_deepKept : MethodName := ⟨RX7, "deepKept", "(LKingTable$Stand;II)I"⟩
abbrev cX7_tally : ByteArray := prog_9_method_20_code
def yX7_tally : MethodName := ⟨RX7, "tally", "(II)I"⟩
abbrev cX7_greatestDeep : ByteArray := prog_9_method_21_code
def yX7_greatestDeep : MethodName := ⟨RX7, "greatestDeep", "(I)I"⟩
abbrev cX7_worthAt : ByteArray := prog_9_method_22_code
def yX7_worthAt : MethodName := ⟨RX7, "worthAt", "(II)I"⟩
def RX8 : String := "KingTable$Stand"
def TX8 : u_T := fun k => match k with
  | 0 => ("KingTable$Stand", "fields", "[I", true)
  | 1 => ("KingTable$Stand", "holders", "[I", true)
  | _ => ("KingTable$Stand", "turn", "I", false)
def tyX8 : Nat → FieldType := fun k => match k with
  | 0 => .array .int
  | 1 => .array .int
  | _ => .int
abbrev wsX80 : List Cond := u_ws RX8 TX8 3
theorem nmX8 : ∀ a, a < 3 → ∀ b, b < 3 → a ≠ b → (TX8 a).2.1 ≠ (TX8 b).2.1 := by decide +kernel
theorem tyX8_ok : ∀ k, k < 3 → parseFieldDescriptor (TX8 k).2.2.1 = some (tyX8 k) := by decide +kernel
abbrev cX8_init : ByteArray := prog_10_method_1_code
def yX8_init : MethodName := ⟨RX8, "<init>", "()V"⟩
abbrev cX8_clear : ByteArray := prog_10_method_2_code
def yX8_clear : MethodName := ⟨RX8, "clear", "()V"⟩
abbrev cX8_fieldOf : ByteArray := prog_10_method_3_code
def yX8_fieldOf : MethodName := ⟨RX8, "fieldOf", "(I)I"⟩
abbrev cX8_holderOf : ByteArray := prog_10_method_4_code
def yX8_holderOf : MethodName := ⟨RX8, "holderOf", "(I)I"⟩
abbrev cX8_place : ByteArray := prog_10_method_5_code
def yX8_place : MethodName := ⟨RX8, "place", "(II)V"⟩
def RX9 : String := "KingTable$Told"
def TX9 : u_T := fun k => match k with
  | 0 => ("KingTable$Told", "signs", "[I", true)
  | 1 => ("KingTable$Told", "lines", "I", false)
  | _ => ("KingTable$Told", "width", "I", false)
def tyX9 : Nat → FieldType := fun k => match k with
  | 0 => .array .int
  | 1 => .int
  | _ => .int
abbrev wsX90 : List Cond := u_ws RX9 TX9 3
theorem nmX9 : ∀ a, a < 3 → ∀ b, b < 3 → a ≠ b → (TX9 a).2.1 ≠ (TX9 b).2.1 := by decide +kernel
theorem tyX9_ok : ∀ k, k < 3 → parseFieldDescriptor (TX9 k).2.2.1 = some (tyX9 k) := by decide +kernel
abbrev cX9_init : ByteArray := prog_11_method_1_code
def yX9_init : MethodName := ⟨RX9, "<init>", "()V"⟩
abbrev cX9_size : ByteArray := prog_11_method_2_code
def yX9_size : MethodName := ⟨RX9, "size", "()I"⟩
abbrev cX9_renew : ByteArray := prog_11_method_3_code
def yX9_renew : MethodName := ⟨RX9, "renew", "(II)Z"⟩
abbrev cX9_isSpan : ByteArray := prog_11_method_4_code
def yX9_isSpan : MethodName := ⟨RX9, "isSpan", "(I)Z"⟩
abbrev cX9_tell : ByteArray := prog_11_method_5_code
def yX9_tell : MethodName := ⟨RX9, "tell", "(III)Z"⟩
abbrev cX9_canBegin : ByteArray := prog_11_method_6_code
def yX9_canBegin : MethodName := ⟨RX9, "canBegin", "()Z"⟩
def RX10 : String := "KingTable"
def TX10 : u_T := fun k => match k with
  | 0 => ("KingTable", "told", "LKingTable$Told;", true)
  | 1 => ("KingTable", "laws", "LKingTable$Laws;", true)
  | 2 => ("KingTable", "rules", "LKingTable$Rules;", true)
  | 3 => ("KingTable", "play", "LKingTable$Play;", true)
  | 4 => ("KingTable", "hold", "LKingTable$Ring;", true)
  | _ => ("KingTable", "solver", "LKingTable$Solver;", true)
def tyX10 : Nat → FieldType := fun k => match k with
  | 0 => .object "KingTable$Told"
  | 1 => .object "KingTable$Laws"
  | 2 => .object "KingTable$Rules"
  | 3 => .object "KingTable$Play"
  | 4 => .object "KingTable$Ring"
  | _ => .object "KingTable$Solver"
abbrev wsX100 : List Cond := u_ws RX10 TX10 6
theorem nmX10 : ∀ a, a < 6 → ∀ b, b < 6 → a ≠ b → (TX10 a).2.1 ≠ (TX10 b).2.1 := by decide +kernel
theorem tyX10_ok : ∀ k, k < 6 → parseFieldDescriptor (TX10 k).2.2.1 = some (tyX10 k) := by decide +kernel
abbrev cX10_init : ByteArray := prog_1_method_1_code
def yX10_init : MethodName := ⟨RX10, "<init>", "()V"⟩
abbrev cX10_board : ByteArray := prog_1_method_2_code
def yX10_board : MethodName := ⟨RX10, "board", "(II)Z"⟩
abbrev cX10_line : ByteArray := prog_1_method_3_code
def yX10_line : MethodName := ⟨RX10, "line", "(III)Z"⟩
abbrev cX10_law : ByteArray := prog_1_method_4_code
def yX10_law : MethodName := ⟨RX10, "law", "(IIZII)Z"⟩
abbrev cX10_begin : ByteArray := prog_1_method_5_code
def yX10_begin : MethodName := ⟨RX10, "begin", "(I)I"⟩
abbrev cX10_stop : ByteArray := prog_1_method_6_code
def yX10_stop : MethodName := ⟨RX10, "stop", "()Z"⟩
abbrev cX10_go : ByteArray := prog_1_method_7_code
def yX10_go : MethodName := ⟨RX10, "go", "(III)I"⟩
abbrev cX10_why : ByteArray := prog_1_method_8_code
def yX10_why : MethodName := ⟨RX10, "why", "(III)I"⟩
abbrev cX10_about : ByteArray := prog_1_method_9_code
def yX10_about : MethodName := ⟨RX10, "about", "(I)I"⟩
abbrev cX10_piece : ByteArray := prog_1_method_10_code
def yX10_piece : MethodName := ⟨RX10, "piece", "(II)I"⟩
abbrev cX10_on : ByteArray := prog_1_method_11_code
def yX10_on : MethodName := ⟨RX10, "on", "(I)I"⟩
abbrev cX10_field : ByteArray := prog_1_method_12_code
def yX10_field : MethodName := ⟨RX10, "field", "(I)I"⟩
abbrev cX10_took : ByteArray := prog_1_method_13_code
def yX10_took : MethodName := ⟨RX10, "took", "(I)I"⟩
abbrev cX10_ring : ByteArray := prog_1_method_14_code
def yX10_ring : MethodName := ⟨RX10, "ring", "()Z"⟩
abbrev cX10_needed : ByteArray := prog_1_method_15_code
def yX10_needed : MethodName := ⟨RX10, "needed", "(I)Z"⟩
abbrev cX10_back : ByteArray := prog_1_method_16_code
def yX10_back : MethodName := ⟨RX10, "back", "()Z"⟩
abbrev cX10_again : ByteArray := prog_1_method_17_code
def yX10_again : MethodName := ⟨RX10, "again", "()Z"⟩
abbrev cX10_solve : ByteArray := prog_1_method_18_code
def yX10_solve : MethodName := ⟨RX10, "solve", "()I"⟩
abbrev cX10_worth : ByteArray := prog_1_method_19_code
def yX10_worth : MethodName := ⟨RX10, "worth", "()I"⟩
abbrev cX10_deep : ByteArray := prog_1_method_20_code
def yX10_deep : MethodName := ⟨RX10, "deep", "()I"⟩
abbrev cX10_best : ByteArray := prog_1_method_21_code
def yX10_best : MethodName := ⟨RX10, "best", "()I"⟩
abbrev cX10_count : ByteArray := prog_1_method_22_code
def yX10_count : MethodName := ⟨RX10, "count", "(II)I"⟩
abbrev cX10_most : ByteArray := prog_1_method_23_code
def yX10_most : MethodName := ⟨RX10, "most", "(I)I"⟩
abbrev cX10_stand : ByteArray := prog_1_method_24_code
def yX10_stand : MethodName := ⟨RX10, "stand", "(II)I"⟩
abbrev cX10_endPlay : ByteArray := prog_1_method_25_code
def yX10_endPlay : MethodName := ⟨RX10, "endPlay", "()V"⟩
abbrev cX10_isSide : ByteArray := prog_1_method_26_code
def yX10_isSide : MethodName := ⟨RX10, "isSide", "(I)Z"⟩
abbrev cX10_kindOfSign : ByteArray := prog_1_method_27_code
def yX10_kindOfSign : MethodName := ⟨RX10, "kindOfSign", "(I)I"⟩
abbrev cX10_typeOfSign : ByteArray := prog_1_method_28_code
def yX10_typeOfSign : MethodName := ⟨RX10, "typeOfSign", "(I)I"⟩
def RX11 : String := "KingTableModel"
def TX11 : u_T := fun k => match k with
  | 0 => ("KingTableModel", "lines", "I", false)
  | 1 => ("KingTableModel", "wide", "I", false)
  | 2 => ("KingTableModel", "signs", "[I", true)
  | 3 => ("KingTableModel", "goal", "I", false)
  | 4 => ("KingTableModel", "hard", "I", false)
  | 5 => ("KingTableModel", "reach", "I", false)
  | 6 => ("KingTableModel", "again1", "I", false)
  | 7 => ("KingTableModel", "kingTakes", "Z", false)
  | 8 => ("KingTableModel", "how", "I", false)
  | 9 => ("KingTableModel", "pieces", "I", false)
  | 10 => ("KingTableModel", "side", "I", false)
  | 11 => ("KingTableModel", "king", "I", false)
  | 12 => ("KingTableModel", "kind", "[I", true)
  | 13 => ("KingTableModel", "at", "[I", true)
  | 14 => ("KingTableModel", "on", "[I", true)
  | 15 => ("KingTableModel", "ground", "[I", true)
  | 16 => ("KingTableModel", "moved", "[I", true)
  | 17 => ("KingTableModel", "stood", "[B", true)
  | 18 => ("KingTableModel", "done", "I", false)
  | 19 => ("KingTableModel", "undone", "I", false)
  | 20 => ("KingTableModel", "taken", "[Z", true)
  | 21 => ("KingTableModel", "tookMany", "I", false)
  | 22 => ("KingTableModel", "met", "[Z", true)
  | 23 => ("KingTableModel", "queue", "[I", true)
  | 24 => ("KingTableModel", "solved", "Z", false)
  | 25 => ("KingTableModel", "worths", "[I", true)
  | 26 => ("KingTableModel", "deeps", "[I", true)
  | 27 => ("KingTableModel", "first", "[I", true)
  | _ => ("KingTableModel", "fresh", "[I", true)
def tyX11 : Nat → FieldType := fun k => match k with
  | 0 => .int
  | 1 => .int
  | 2 => .array .int
  | 3 => .int
  | 4 => .int
  | 5 => .int
  | 6 => .int
  | 7 => .boolean
  | 8 => .int
  | 9 => .int
  | 10 => .int
  | 11 => .int
  | 12 => .array .int
  | 13 => .array .int
  | 14 => .array .int
  | 15 => .array .int
  | 16 => .array .int
  | 17 => .array .byte
  | 18 => .int
  | 19 => .int
  | 20 => .array .boolean
  | 21 => .int
  | 22 => .array .boolean
  | 23 => .array .int
  | 24 => .boolean
  | 25 => .array .int
  | 26 => .array .int
  | 27 => .array .int
  | _ => .array .int
abbrev wsX110 : List Cond := u_ws RX11 TX11 29
theorem nmX11 : ∀ a, a < 29 → ∀ b, b < 29 → a ≠ b → (TX11 a).2.1 ≠ (TX11 b).2.1 := by decide +kernel
theorem tyX11_ok : ∀ k, k < 29 → parseFieldDescriptor (TX11 k).2.2.1 = some (tyX11 k) := by decide +kernel
abbrev cX11_init : ByteArray := prog_13_method_1_code
def yX11_init : MethodName := ⟨RX11, "<init>", "()V"⟩
abbrev cX11_isIn : ByteArray := prog_13_method_2_code
def yX11_isIn : MethodName := ⟨RX11, "isIn", "(III)Z"⟩
abbrev cX11_fields : ByteArray := prog_13_method_3_code
def yX11_fields : MethodName := ⟨RX11, "fields", "()I"⟩
abbrev cX11_board : ByteArray := prog_13_method_4_code
def yX11_board : MethodName := ⟨RX11, "board", "(II)Z"⟩
abbrev cX11_line : ByteArray := prog_13_method_5_code
def yX11_line : MethodName := ⟨RX11, "line", "(III)Z"⟩
abbrev cX11_law : ByteArray := prog_13_method_6_code
def yX11_law : MethodName := ⟨RX11, "law", "(IIZII)Z"⟩
abbrev cX11_sideOf : ByteArray := prog_13_method_7_code
def yX11_sideOf : MethodName := ⟨RX11, "sideOf", "(I)I"⟩
abbrev cX11_takes : ByteArray := prog_13_method_8_code
def yX11_takes : MethodName := ⟨RX11, "takes", "(I)Z"⟩
abbrev cX11_isGoal : ByteArray := prog_13_method_9_code
def yX11_isGoal : MethodName := ⟨RX11, "isGoal", "(I)Z"⟩
abbrev cX11_bears : ByteArray := prog_13_method_10_code
def yX11_bears : MethodName := ⟨RX11, "bears", "(II)Z"⟩
abbrev cX11_along : ByteArray := prog_13_method_11_code
def yX11_along : MethodName := ⟨RX11, "along", "(III)I"⟩
abbrev cX11_bar : ByteArray := prog_13_method_12_code
def yX11_bar : MethodName := ⟨RX11, "bar", "(III)I"⟩
abbrev cX11_movesOf : ByteArray := prog_13_method_13_code
def yX11_movesOf : MethodName := ⟨RX11, "movesOf", "(I)I"⟩
abbrev cX11_canGo : ByteArray := prog_13_method_14_code
def yX11_canGo : MethodName := ⟨RX11, "canGo", "(I)Z"⟩
abbrev cX11_isFoe : ByteArray := prog_13_method_15_code
def yX11_isFoe : MethodName := ⟨RX11, "isFoe", "(II)Z"⟩
abbrev cX11_isTaken : ByteArray := prog_13_method_16_code
def yX11_isTaken : MethodName := ⟨RX11, "isTaken", "(II)Z"⟩
abbrev cX11_make : ByteArray := prog_13_method_17_code
def yX11_make : MethodName := ⟨RX11, "make", "(III)V"⟩
abbrev cX11_row : ByteArray := prog_13_method_18_code
def yX11_row : MethodName := ⟨RX11, "row", "(I)I"⟩
abbrev cX11_write : ByteArray := prog_13_method_19_code
def yX11_write : MethodName := ⟨RX11, "write", "(I)V"⟩
abbrev cX11_read : ByteArray := prog_13_method_20_code
def yX11_read : MethodName := ⟨RX11, "read", "(I)V"⟩
abbrev cX11_isAlike : ByteArray := prog_13_method_21_code
def yX11_isAlike : MethodName := ⟨RX11, "isAlike", "(II)Z"⟩
abbrev cX11_cameBack : ByteArray := prog_13_method_22_code
def yX11_cameBack : MethodName := ⟨RX11, "cameBack", "(I)Z"⟩
abbrev cX11_begin : ByteArray := prog_13_method_23_code
def yX11_begin : MethodName := ⟨RX11, "begin", "(I)I"⟩
abbrev cX11_stop : ByteArray := prog_13_method_24_code
def yX11_stop : MethodName := ⟨RX11, "stop", "()Z"⟩
abbrev cX11_why : ByteArray := prog_13_method_25_code
def yX11_why : MethodName := ⟨RX11, "why", "(III)I"⟩
abbrev cX11_lookAgain : ByteArray := prog_13_method_26_code
def yX11_lookAgain : MethodName := ⟨RX11, "lookAgain", "()V"⟩
abbrev cX11_doMove : ByteArray := prog_13_method_27_code
def yX11_doMove : MethodName := ⟨RX11, "doMove", "(I)V"⟩
abbrev cX11_go : ByteArray := prog_13_method_28_code
def yX11_go : MethodName := ⟨RX11, "go", "(III)I"⟩
abbrev cX11_back : ByteArray := prog_13_method_29_code
def yX11_back : MethodName := ⟨RX11, "back", "()Z"⟩
abbrev cX11_again : ByteArray := prog_13_method_30_code
def yX11_again : MethodName := ⟨RX11, "again", "()Z"⟩
abbrev cX11_about : ByteArray := prog_13_method_31_code
def yX11_about : MethodName := ⟨RX11, "about", "(I)I"⟩
abbrev cX11_piece : ByteArray := prog_13_method_32_code
def yX11_piece : MethodName := ⟨RX11, "piece", "(II)I"⟩
abbrev cX11_on : ByteArray := prog_13_method_33_code
def yX11_on : MethodName := ⟨RX11, "on", "(I)I"⟩
abbrev cX11_field : ByteArray := prog_13_method_34_code
def yX11_field : MethodName := ⟨RX11, "field", "(I)I"⟩
abbrev cX11_took : ByteArray := prog_13_method_35_code
def yX11_took : MethodName := ⟨RX11, "took", "(I)I"⟩
abbrev cX11_comesOut : ByteArray := prog_13_method_36_code
def yX11_comesOut : MethodName := ⟨RX11, "comesOut", "(I)Z"⟩
abbrev cX11_ring : ByteArray := prog_13_method_37_code
def yX11_ring : MethodName := ⟨RX11, "ring", "()Z"⟩
abbrev cX11_needed : ByteArray := prog_13_method_38_code
def yX11_needed : MethodName := ⟨RX11, "needed", "(I)Z"⟩
abbrev cX11_stands : ByteArray := prog_13_method_39_code
def yX11_stands : MethodName := ⟨RX11, "stands", "()J"⟩
abbrev cX11_setUp : ByteArray := prog_13_method_40_code
def yX11_setUp : MethodName := ⟨RX11, "setUp", "(I)Z"⟩
abbrev cX11_number : ByteArray := prog_13_method_41_code
def yX11_number : MethodName := ⟨RX11, "number", "()I"⟩
abbrev cX11_endOf : ByteArray := prog_13_method_42_code
def yX11_endOf : MethodName := ⟨RX11, "endOf", "()I"⟩
abbrev cX11_solve : ByteArray := prog_13_method_43_code
def yX11_solve : MethodName := ⟨RX11, "solve", "()I"⟩
abbrev cX11_tried : ByteArray := prog_13_method_44_code
def yX11_tried : MethodName := ⟨RX11, "tried", "(I)I"⟩
abbrev cX11_leads : ByteArray := prog_13_method_45_code
def yX11_leads : MethodName := ⟨RX11, "leads", "(II)I"⟩
abbrev cX11_worth : ByteArray := prog_13_method_46_code
def yX11_worth : MethodName := ⟨RX11, "worth", "()I"⟩
abbrev cX11_deep : ByteArray := prog_13_method_47_code
def yX11_deep : MethodName := ⟨RX11, "deep", "()I"⟩
abbrev cX11_best : ByteArray := prog_13_method_48_code
def yX11_best : MethodName := ⟨RX11, "best", "()I"⟩
abbrev cX11_count : ByteArray := prog_13_method_49_code
def yX11_count : MethodName := ⟨RX11, "count", "(II)I"⟩
abbrev cX11_most : ByteArray := prog_13_method_50_code
def yX11_most : MethodName := ⟨RX11, "most", "(I)I"⟩
abbrev cX11_stand : ByteArray := prog_13_method_51_code
def yX11_stand : MethodName := ⟨RX11, "stand", "(II)I"⟩
def RJ9 : String := "java/lang/Math"
def TJ9 : u_T := fun k => match k with
  | _ => ("", "", "", false)
def tyJ9 : Nat → FieldType := fun k => match k with
  | _ => .int
abbrev wsJ90 : List Cond := u_ws RJ9 TJ9 0
theorem nmJ9 : ∀ a, a < 0 → ∀ b, b < 0 → a ≠ b → (TJ9 a).2.1 ≠ (TJ9 b).2.1 := by decide +kernel
theorem tyJ9_ok : ∀ k, k < 0 → parseFieldDescriptor (TJ9 k).2.2.1 = some (tyJ9 k) := by decide +kernel
abbrev cJ9_max_7cf53 : ByteArray := prog_14_method_65_code
def yJ9_max_7cf53 : MethodName := ⟨RJ9, "max", "(II)I"⟩
abbrev cJ9_min_7cf53 : ByteArray := prog_14_method_69_code
def yJ9_min_7cf53 : MethodName := ⟨RJ9, "min", "(II)I"⟩
def RJ10 : String := "java/lang/System"
def TJ10 : u_T := fun k => match k with
  | _ => ("", "", "", false)
def tyJ10 : Nat → FieldType := fun k => match k with
  | _ => .int
abbrev wsJ100 : List Cond := u_ws RJ10 TJ10 0
theorem nmJ10 : ∀ a, a < 0 → ∀ b, b < 0 → a ≠ b → (TJ10 a).2.1 ≠ (TJ10 b).2.1 := by decide +kernel
theorem tyJ10_ok : ∀ k, k < 0 → parseFieldDescriptor (TJ10 k).2.2.1 = some (tyJ10 k) := by decide +kernel
def RJ7 : String := "java/util/Arrays"
def TJ7 : u_T := fun k => match k with
  | _ => ("", "", "", false)
def tyJ7 : Nat → FieldType := fun k => match k with
  | _ => .int
abbrev wsJ70 : List Cond := u_ws RJ7 TJ7 0
theorem nmJ7 : ∀ a, a < 0 → ∀ b, b < 0 → a ≠ b → (TJ7 a).2.1 ≠ (TJ7 b).2.1 := by decide +kernel
theorem tyJ7_ok : ∀ k, k < 0 → parseFieldDescriptor (TJ7 k).2.2.1 = some (tyJ7 k) := by decide +kernel
abbrev cJ7_fill_53178 : ByteArray := prog_16_method_103_code
def yJ7_fill_53178 : MethodName := ⟨RJ7, "fill", "([II)V"⟩
def RL : String := "KingTableLaw"
abbrev cL_law : ByteArray := code
def yL_law : MethodName := ⟨RL, "law", "([I)Z"⟩
def wsX0_init : List Cond := .code yX0_init cX0_init 1 none :: ([.methodLink RX0 3 objectInit, .instanceMethod objectInit, .code objectInit ⟨#[0xb1]⟩ 1 none, .arrayClass .int, .fieldLink RX0 9 "KingTable$Ground" "types" "[I", .arrayClass .boolean, .fieldLink RX0 15 "KingTable$Ground" "goals" "[Z", .fieldLink RX0 19 "KingTable$Ground" "neighbours" "[I"] ++ wsX00)
def wsX9_size : List Cond := .code yX9_size cX9_size 1 (some .int) :: ([.fieldLink RX9 15 "KingTable$Told" "lines" "I", .fieldLink RX9 19 "KingTable$Told" "width" "I"] ++ wsX90)
def wsX10_typeOfSign : List Cond := .code yX10_typeOfSign cX10_typeOfSign 1 (some .int) :: ([])
def wsX0_lay : List Cond := .code yX0_lay cX0_lay 7 none :: ([.fieldLink RX0 28 "KingTable$Ground" "size" "I", .fieldLink RX0 37 "KingTable$Ground" "mostMoves" "I", .fieldLink RX0 9 "KingTable$Ground" "types" "[I", .fieldLink RX0 15 "KingTable$Ground" "goals" "[Z", .fieldLink RX0 19 "KingTable$Ground" "neighbours" "[I", .methodLink RX0 22 yX9_size, .instanceMethod yX9_size, .selects RX9 yX9_size yX9_size, .initialized RX9, .code yX9_size cX9_size 1 (some .int), .fieldLink RX9 15 "KingTable$Told" "lines" "I", .fieldLink RX9 19 "KingTable$Told" "width" "I", .static yX10_typeOfSign, .initialized RX10, .code yX10_typeOfSign cX10_typeOfSign 1 (some .int)] ++ wsX00 ++ wsX90)
def wsX0_beside : List Cond := .code yX0_beside cX0_beside 4 (some .int) :: ([.fieldLink RX0 28 "KingTable$Ground" "size" "I", .fieldLink RX0 19 "KingTable$Ground" "neighbours" "[I"] ++ wsX00)
def wsX0_away : List Cond := .code yX0_away cX0_away 6 (some .int) :: ([.methodLink RX0 47 yX0_beside, .instanceMethod yX0_beside, .selects RX0 yX0_beside yX0_beside, .initialized RX0, .code yX0_beside cX0_beside 4 (some .int), .fieldLink RX0 28 "KingTable$Ground" "size" "I", .fieldLink RX0 19 "KingTable$Ground" "neighbours" "[I"] ++ wsX00)
def wsX1_init : List Cond := .code yX1_init cX1_init 1 none :: ([.methodLink RX1 1 objectInit, .instanceMethod objectInit, .code objectInit ⟨#[0xb1]⟩ 1 none, .fieldLink RX1 7 "KingTable$Laws" "goal" "I", .fieldLink RX1 13 "KingTable$Laws" "hard" "I", .fieldLink RX1 16 "KingTable$Laws" "kingTakes" "Z", .fieldLink RX1 20 "KingTable$Laws" "reach" "I", .fieldLink RX1 23 "KingTable$Laws" "comeback" "I"] ++ wsX10)
def wsX1_change : List Cond := .code yX1_change cX1_change 7 (some .boolean) :: ([.fieldLink RX1 7 "KingTable$Laws" "goal" "I", .fieldLink RX1 13 "KingTable$Laws" "hard" "I", .fieldLink RX1 16 "KingTable$Laws" "kingTakes" "Z", .fieldLink RX1 20 "KingTable$Laws" "reach" "I", .fieldLink RX1 23 "KingTable$Laws" "comeback" "I"] ++ wsX10)
def wsX2_init : List Cond := .code yX2_init cX2_init 1 none :: ([.methodLink RX2 3 objectInit, .instanceMethod objectInit, .code objectInit ⟨#[0xb1]⟩ 1 none, .arrayClass .int, .fieldLink RX2 9 "KingTable$Links" "heads" "[I", .fieldLink RX2 15 "KingTable$Links" "sources" "[I", .fieldLink RX2 18 "KingTable$Links" "nexts" "[I"] ++ wsX20)
def wsX2_roomFor : List Cond := .code yX2_roomFor cX2_roomFor 3 (some .int) :: ([.methodLink RX2 36 Lib.Math.min.name, .static Lib.Math.min.name, .initialized "java/lang/Math", .code Lib.Math.min.name Lib.Math.min.code 2 (some .int), .methodLink RX2 42 Lib.Math.max.name, .static Lib.Math.max.name, .code Lib.Math.max.name Lib.Math.max.code 2 (some .int)])
def wsJ7_fill_53178 : List Cond := .code yJ7_fill_53178 cJ7_fill_53178 4 none :: ([])
def wsX2_renew : List Cond := .code yX2_renew cX2_renew 4 none :: ([.fieldLink RX2 9 "KingTable$Links" "heads" "[I", .arrayClass .int, .fieldLink RX2 15 "KingTable$Links" "sources" "[I", .constant RX2 25 (118300), .fieldLink RX2 18 "KingTable$Links" "nexts" "[I", .fieldLink RX2 32 "KingTable$Links" "used" "I", .methodLink RX2 21 yX2_roomFor, .static yX2_roomFor, .initialized RX2, .code yX2_roomFor cX2_roomFor 3 (some .int), .methodLink RX2 36 Lib.Math.min.name, .static Lib.Math.min.name, .initialized "java/lang/Math", .code Lib.Math.min.name Lib.Math.min.code 2 (some .int), .methodLink RX2 42 Lib.Math.max.name, .static Lib.Math.max.name, .code Lib.Math.max.name Lib.Math.max.code 2 (some .int), .methodLink RX2 26 yJ7_fill_53178, .static yJ7_fill_53178, .initialized RJ7, .code yJ7_fill_53178 cJ7_fill_53178 4 none] ++ wsX20)
def wsX2_add : List Cond := .code yX2_add cX2_add 3 none :: ([.fieldLink RX2 32 "KingTable$Links" "used" "I", .fieldLink RX2 15 "KingTable$Links" "sources" "[I", .fieldLink RX2 9 "KingTable$Links" "heads" "[I", .fieldLink RX2 18 "KingTable$Links" "nexts" "[I"] ++ wsX20)
def wsX3_init : List Cond := .code yX3_init cX3_init 1 none :: ([.methodLink RX3 3 objectInit, .instanceMethod objectInit, .code objectInit ⟨#[0xb1]⟩ 1 none, .arrayClass .int, .fieldLink RX3 9 "KingTable$Log" "movers" "[I", .fieldLink RX3 15 "KingTable$Log" "froms" "[I", .fieldLink RX3 18 "KingTable$Log" "tos" "[I", .fieldLink RX3 21 "KingTable$Log" "takings" "[I", .fieldLink RX3 24 "KingTable$Log" "victims" "[I", .fieldLink RX3 27 "KingTable$Log" "victimFields" "[I", .fieldLink RX3 30 "KingTable$Log" "then" "[I"] ++ wsX30)
def wsX3_clear : List Cond := .code yX3_clear cX3_clear 1 none :: ([.fieldLink RX3 33 "KingTable$Log" "done" "I", .fieldLink RX3 37 "KingTable$Log" "known" "I"] ++ wsX30)
def wsX3_isFull : List Cond := .code yX3_isFull cX3_isFull 1 (some .boolean) :: ([.fieldLink RX3 33 "KingTable$Log" "done" "I"] ++ wsX30)
def wsX8_fieldOf : List Cond := .code yX8_fieldOf cX8_fieldOf 2 (some .int) :: ([.fieldLink RX8 9 "KingTable$Stand" "fields" "[I"] ++ wsX80)
def wsX3_write : List Cond := .code yX3_write cX3_write 6 none :: ([.fieldLink RX3 9 "KingTable$Log" "movers" "[I", .fieldLink RX3 33 "KingTable$Log" "done" "I", .fieldLink RX3 15 "KingTable$Log" "froms" "[I", .fieldLink RX3 18 "KingTable$Log" "tos" "[I", .fieldLink RX3 21 "KingTable$Log" "takings" "[I", .fieldLink RX3 24 "KingTable$Log" "victims" "[I", .fieldLink RX3 27 "KingTable$Log" "victimFields" "[I", .fieldLink RX3 37 "KingTable$Log" "known" "I", .methodLink RX3 56 Lib.Math.max.name, .static Lib.Math.max.name, .initialized "java/lang/Math", .code Lib.Math.max.name Lib.Math.max.code 2 (some .int), .methodLink RX3 40 yX3_isFull, .instanceMethod yX3_isFull, .selects RX3 yX3_isFull yX3_isFull, .initialized RX3, .code yX3_isFull cX3_isFull 1 (some .boolean), .methodLink RX3 44 yX8_fieldOf, .instanceMethod yX8_fieldOf, .selects RX8 yX8_fieldOf yX8_fieldOf, .initialized RX8, .code yX8_fieldOf cX8_fieldOf 2 (some .int), .fieldLink RX8 9 "KingTable$Stand" "fields" "[I"] ++ wsX30 ++ wsX60 ++ wsX80)
def wsX3_latestTakings : List Cond := .code yX3_latestTakings cX3_latestTakings 1 (some .int) :: ([.fieldLink RX3 33 "KingTable$Log" "done" "I", .fieldLink RX3 21 "KingTable$Log" "takings" "[I"] ++ wsX30)
def wsX3_latestVictim : List Cond := .code yX3_latestVictim cX3_latestVictim 3 (some .int) :: ([.fieldLink RX3 33 "KingTable$Log" "done" "I", .fieldLink RX3 21 "KingTable$Log" "takings" "[I", .fieldLink RX3 24 "KingTable$Log" "victims" "[I"] ++ wsX30)
def wsX8_place : List Cond := .code yX8_place cX8_place 4 none :: ([.fieldLink RX8 9 "KingTable$Stand" "fields" "[I", .fieldLink RX8 15 "KingTable$Stand" "holders" "[I"] ++ wsX80)
def wsX3_unwind : List Cond := .code yX3_unwind cX3_unwind 3 none :: ([.fieldLink RX3 33 "KingTable$Log" "done" "I", .fieldLink RX3 9 "KingTable$Log" "movers" "[I", .fieldLink RX3 15 "KingTable$Log" "froms" "[I", .fieldLink RX3 21 "KingTable$Log" "takings" "[I", .fieldLink RX3 24 "KingTable$Log" "victims" "[I", .fieldLink RX3 27 "KingTable$Log" "victimFields" "[I", .methodLink RX3 62 yX8_place, .instanceMethod yX8_place, .selects RX8 yX8_place yX8_place, .initialized RX8, .code yX8_place cX8_place 4 none, .fieldLink RX8 9 "KingTable$Stand" "fields" "[I", .fieldLink RX8 15 "KingTable$Stand" "holders" "[I"] ++ wsX30 ++ wsX80)
def wsX3_hasSeen : List Cond := .code yX3_hasSeen cX3_hasSeen 9 (some .boolean) :: ([.fieldLink RX3 30 "KingTable$Log" "then" "[I", .methodLink RX3 72 arraycopyName, .native arraycopyName, .static arraycopyName, .initialized "java/lang/System", .fieldLink RX3 33 "KingTable$Log" "done" "I", .fieldLink RX3 21 "KingTable$Log" "takings" "[I", .fieldLink RX3 9 "KingTable$Log" "movers" "[I", .fieldLink RX3 15 "KingTable$Log" "froms" "[I", .methodLink RX3 44 yX8_fieldOf, .instanceMethod yX8_fieldOf, .selects RX8 yX8_fieldOf yX8_fieldOf, .initialized RX8, .code yX8_fieldOf cX8_fieldOf 2 (some .int), .fieldLink RX8 9 "KingTable$Stand" "fields" "[I"] ++ wsX80 ++ wsX30)
def wsX8_clear : List Cond := .code yX8_clear cX8_clear 1 none :: ([.fieldLink RX8 9 "KingTable$Stand" "fields" "[I", .fieldLink RX8 15 "KingTable$Stand" "holders" "[I", .fieldLink RX8 27 "KingTable$Stand" "turn" "I", .methodLink RX8 21 yJ7_fill_53178, .static yJ7_fill_53178, .initialized RJ7, .code yJ7_fill_53178 cJ7_fill_53178 4 none] ++ wsX80)
def wsX8_init : List Cond := .code yX8_init cX8_init 1 none :: ([.methodLink RX8 3 objectInit, .instanceMethod objectInit, .code objectInit ⟨#[0xb1]⟩ 1 none, .arrayClass .int, .fieldLink RX8 9 "KingTable$Stand" "fields" "[I", .fieldLink RX8 15 "KingTable$Stand" "holders" "[I", .methodLink RX8 18 yX8_clear, .instanceMethod yX8_clear, .selects RX8 yX8_clear yX8_clear, .initialized RX8, .code yX8_clear cX8_clear 1 none, .fieldLink RX8 27 "KingTable$Stand" "turn" "I", .methodLink RX8 21 yJ7_fill_53178, .static yJ7_fill_53178, .initialized RJ7, .code yJ7_fill_53178 cJ7_fill_53178 4 none] ++ wsX80)
def wsX4_init_r1 : List Cond := [Cond.methodLink RX4 3 objectInit, Cond.instanceMethod objectInit, Cond.code objectInit ⟨#[0xb1]⟩ 1 none, Cond.classLink RX4 9 RX8, Cond.instantiable RX8 3, Cond.initialized RX8, Cond.fieldLink RX4 12 "KingTable$Play" "now" "LKingTable$Stand;", Cond.classLink RX4 18 RX3, Cond.instantiable RX3 9, Cond.initialized RX3, Cond.fieldLink RX4 21 "KingTable$Play" "log" "LKingTable$Log;", Cond.fieldLink RX4 25 "KingTable$Play" "state" "I", Cond.fieldLink RX4 29 "KingTable$Play" "laws" "LKingTable$Laws;", Cond.fieldLink RX4 33 "KingTable$Play" "rules" "LKingTable$Rules;", Cond.methodLink RX4 11 yX8_init, Cond.instanceMethod yX8_init, Cond.code yX8_init cX8_init 1 none, Cond.methodLink RX8 3 objectInit, Cond.arrayClass .int, Cond.fieldLink RX8 9 "KingTable$Stand" "fields" "[I", Cond.fieldLink RX8 15 "KingTable$Stand" "holders" "[I", Cond.methodLink RX8 18 yX8_clear, Cond.instanceMethod yX8_clear, Cond.selects RX8 yX8_clear yX8_clear]
def wsX4_init_r2 : List Cond := [Cond.code yX8_clear cX8_clear 1 none, Cond.fieldLink RX8 27 "KingTable$Stand" "turn" "I", Cond.methodLink RX8 21 yJ7_fill_53178, Cond.static yJ7_fill_53178, Cond.initialized RJ7, Cond.code yJ7_fill_53178 cJ7_fill_53178 4 none, Cond.instanceMethod yX3_init, Cond.code yX3_init cX3_init 1 none, Cond.methodLink RX3 3 objectInit, Cond.fieldLink RX3 9 "KingTable$Log" "movers" "[I", Cond.fieldLink RX3 15 "KingTable$Log" "froms" "[I", Cond.fieldLink RX3 18 "KingTable$Log" "tos" "[I", Cond.fieldLink RX3 21 "KingTable$Log" "takings" "[I", Cond.fieldLink RX3 24 "KingTable$Log" "victims" "[I", Cond.fieldLink RX3 27 "KingTable$Log" "victimFields" "[I", Cond.fieldLink RX3 30 "KingTable$Log" "then" "[I"]
def wsX4_init : List Cond := .code yX4_init cX4_init 3 none :: ((wsX4_init_r1 ++ wsX4_init_r2) ++ wsX80 ++ wsX40 ++ wsX30)
def wsX4_isThere : List Cond := .code yX4_isThere cX4_isThere 1 (some .boolean) :: ([.fieldLink RX4 25 "KingTable$Play" "state" "I"] ++ wsX40)
def wsX6_dismiss : List Cond := .code yX6_dismiss cX6_dismiss 1 none :: ([.fieldLink RX6 40 "KingTable$Rules" "total" "I", .fieldLink RX6 29 "KingTable$Rules" "king" "I"] ++ wsX60)
def wsX4_finish_r1 : List Cond := [Cond.fieldLink RX4 25 "KingTable$Play" "state" "I", Cond.fieldLink RX4 33 "KingTable$Play" "rules" "LKingTable$Rules;", Cond.fieldLink RX4 12 "KingTable$Play" "now" "LKingTable$Stand;", Cond.fieldLink RX4 21 "KingTable$Play" "log" "LKingTable$Log;", Cond.methodLink RX4 89 yX6_dismiss, Cond.instanceMethod yX6_dismiss, Cond.selects RX6 yX6_dismiss yX6_dismiss, Cond.initialized RX6, Cond.code yX6_dismiss cX6_dismiss 1 none, Cond.fieldLink RX6 40 "KingTable$Rules" "total" "I", Cond.fieldLink RX6 29 "KingTable$Rules" "king" "I", Cond.methodLink RX4 92 yX8_clear, Cond.instanceMethod yX8_clear, Cond.selects RX8 yX8_clear yX8_clear, Cond.initialized RX8, Cond.code yX8_clear cX8_clear 1 none, Cond.fieldLink RX8 9 "KingTable$Stand" "fields" "[I", Cond.fieldLink RX8 15 "KingTable$Stand" "holders" "[I", Cond.fieldLink RX8 27 "KingTable$Stand" "turn" "I", Cond.methodLink RX8 21 yJ7_fill_53178, Cond.static yJ7_fill_53178, Cond.initialized RJ7, Cond.code yJ7_fill_53178 cJ7_fill_53178 4 none, Cond.methodLink RX4 95 yX3_clear]
def wsX4_finish_r2 : List Cond := [Cond.instanceMethod yX3_clear, Cond.selects RX3 yX3_clear yX3_clear, Cond.initialized RX3, Cond.code yX3_clear cX3_clear 1 none, Cond.fieldLink RX3 33 "KingTable$Log" "done" "I", Cond.fieldLink RX3 37 "KingTable$Log" "known" "I"]
def wsX4_finish : List Cond := .code yX4_finish cX4_finish 1 none :: ((wsX4_finish_r1 ++ wsX4_finish_r2) ++ wsX40 ++ wsX60 ++ wsX80 ++ wsX30)
def wsX10_kindOfSign : List Cond := .code yX10_kindOfSign cX10_kindOfSign 1 (some .int) :: ([])
def wsX6_enlist : List Cond := .code yX6_enlist cX6_enlist 2 none :: ([.fieldLink RX6 40 "KingTable$Rules" "total" "I", .fieldLink RX6 29 "KingTable$Rules" "king" "I", .fieldLink RX6 18 "KingTable$Rules" "kinds" "[I", .fieldLink RX6 22 "KingTable$Rules" "sides" "[I", .fieldLink RX6 25 "KingTable$Rules" "takers" "[Z", .fieldLink RX6 36 "KingTable$Rules" "laws" "LKingTable$Laws;"] ++ wsX60 ++ wsX10)
def wsX6_isGoal : List Cond := .code yX6_isGoal cX6_isGoal 2 (some .boolean) :: ([.fieldLink RX6 12 "KingTable$Rules" "ground" "LKingTable$Ground;"] ++ wsX60 ++ wsX00)
def wsX8_holderOf : List Cond := .code yX8_holderOf cX8_holderOf 2 (some .int) :: ([.fieldLink RX8 15 "KingTable$Stand" "holders" "[I"] ++ wsX80)
def wsX6_bears : List Cond := .code yX6_bears cX6_bears 3 (some .boolean) :: ([.fieldLink RX6 29 "KingTable$Rules" "king" "I", .fieldLink RX6 12 "KingTable$Rules" "ground" "LKingTable$Ground;"] ++ wsX60 ++ wsX00)
def wsX6_room_r1 : List Cond := [Cond.fieldLink RX6 29 "KingTable$Rules" "king" "I", Cond.fieldLink RX6 36 "KingTable$Rules" "laws" "LKingTable$Laws;", Cond.fieldLink RX6 12 "KingTable$Rules" "ground" "LKingTable$Ground;", Cond.methodLink RX6 61 yX8_fieldOf, Cond.instanceMethod yX8_fieldOf, Cond.selects RX8 yX8_fieldOf yX8_fieldOf, Cond.initialized RX8, Cond.code yX8_fieldOf cX8_fieldOf 2 (some .int), Cond.fieldLink RX8 9 "KingTable$Stand" "fields" "[I", Cond.methodLink RX6 67 yX0_beside, Cond.instanceMethod yX0_beside, Cond.selects RX0 yX0_beside yX0_beside, Cond.initialized RX0, Cond.code yX0_beside cX0_beside 4 (some .int), Cond.fieldLink RX0 28 "KingTable$Ground" "size" "I", Cond.fieldLink RX0 19 "KingTable$Ground" "neighbours" "[I", Cond.methodLink RX6 71 yX8_holderOf, Cond.instanceMethod yX8_holderOf, Cond.selects RX8 yX8_holderOf yX8_holderOf, Cond.code yX8_holderOf cX8_holderOf 2 (some .int), Cond.fieldLink RX8 15 "KingTable$Stand" "holders" "[I", Cond.methodLink RX6 74 yX6_bears, Cond.instanceMethod yX6_bears, Cond.selects RX6 yX6_bears yX6_bears]
def wsX6_room_r2 : List Cond := [Cond.initialized RX6, Cond.code yX6_bears cX6_bears 3 (some .boolean)]
def wsX6_room : List Cond := .code yX6_room cX6_room 7 (some .int) :: ((wsX6_room_r1 ++ wsX6_room_r2) ++ wsX60 ++ wsX10 ++ wsX80 ++ wsX00)
def wsX6_canGo_r1 : List Cond := [Cond.fieldLink RX6 40 "KingTable$Rules" "total" "I", Cond.fieldLink RX6 22 "KingTable$Rules" "sides" "[I", Cond.methodLink RX6 78 yX6_room, Cond.instanceMethod yX6_room, Cond.selects RX6 yX6_room yX6_room, Cond.initialized RX6, Cond.code yX6_room cX6_room 7 (some .int), Cond.fieldLink RX6 29 "KingTable$Rules" "king" "I", Cond.fieldLink RX6 36 "KingTable$Rules" "laws" "LKingTable$Laws;", Cond.fieldLink RX6 12 "KingTable$Rules" "ground" "LKingTable$Ground;", Cond.methodLink RX6 61 yX8_fieldOf, Cond.instanceMethod yX8_fieldOf, Cond.selects RX8 yX8_fieldOf yX8_fieldOf, Cond.initialized RX8, Cond.code yX8_fieldOf cX8_fieldOf 2 (some .int), Cond.fieldLink RX8 9 "KingTable$Stand" "fields" "[I", Cond.methodLink RX6 67 yX0_beside, Cond.instanceMethod yX0_beside, Cond.selects RX0 yX0_beside yX0_beside, Cond.initialized RX0, Cond.code yX0_beside cX0_beside 4 (some .int), Cond.fieldLink RX0 28 "KingTable$Ground" "size" "I", Cond.fieldLink RX0 19 "KingTable$Ground" "neighbours" "[I", Cond.methodLink RX6 71 yX8_holderOf]
def wsX6_canGo_r2 : List Cond := [Cond.instanceMethod yX8_holderOf, Cond.selects RX8 yX8_holderOf yX8_holderOf, Cond.code yX8_holderOf cX8_holderOf 2 (some .int), Cond.fieldLink RX8 15 "KingTable$Stand" "holders" "[I", Cond.methodLink RX6 74 yX6_bears, Cond.instanceMethod yX6_bears, Cond.selects RX6 yX6_bears yX6_bears, Cond.code yX6_bears cX6_bears 3 (some .boolean)]
def wsX6_canGo : List Cond := .code yX6_canGo cX6_canGo 4 (some .boolean) :: ((wsX6_canGo_r1 ++ wsX6_canGo_r2) ++ wsX60 ++ wsX80 ++ wsX10 ++ wsX00)
def wsX6_winner_r1 : List Cond := [Cond.fieldLink RX6 29 "KingTable$Rules" "king" "I", Cond.methodLink RX6 61 yX8_fieldOf, Cond.instanceMethod yX8_fieldOf, Cond.selects RX8 yX8_fieldOf yX8_fieldOf, Cond.initialized RX8, Cond.code yX8_fieldOf cX8_fieldOf 2 (some .int), Cond.fieldLink RX8 9 "KingTable$Stand" "fields" "[I", Cond.methodLink RX6 85 yX6_isGoal, Cond.instanceMethod yX6_isGoal, Cond.selects RX6 yX6_isGoal yX6_isGoal, Cond.initialized RX6, Cond.code yX6_isGoal cX6_isGoal 2 (some .boolean), Cond.fieldLink RX6 12 "KingTable$Rules" "ground" "LKingTable$Ground;", Cond.methodLink RX6 89 yX6_canGo, Cond.instanceMethod yX6_canGo, Cond.selects RX6 yX6_canGo yX6_canGo, Cond.code yX6_canGo cX6_canGo 4 (some .boolean), Cond.fieldLink RX6 40 "KingTable$Rules" "total" "I", Cond.fieldLink RX6 22 "KingTable$Rules" "sides" "[I", Cond.methodLink RX6 78 yX6_room, Cond.instanceMethod yX6_room, Cond.selects RX6 yX6_room yX6_room, Cond.code yX6_room cX6_room 7 (some .int), Cond.fieldLink RX6 36 "KingTable$Rules" "laws" "LKingTable$Laws;"]
def wsX6_winner_r2 : List Cond := [Cond.methodLink RX6 67 yX0_beside, Cond.instanceMethod yX0_beside, Cond.selects RX0 yX0_beside yX0_beside, Cond.initialized RX0, Cond.code yX0_beside cX0_beside 4 (some .int), Cond.fieldLink RX0 28 "KingTable$Ground" "size" "I", Cond.fieldLink RX0 19 "KingTable$Ground" "neighbours" "[I", Cond.methodLink RX6 71 yX8_holderOf, Cond.instanceMethod yX8_holderOf, Cond.selects RX8 yX8_holderOf yX8_holderOf, Cond.code yX8_holderOf cX8_holderOf 2 (some .int), Cond.fieldLink RX8 15 "KingTable$Stand" "holders" "[I", Cond.methodLink RX6 74 yX6_bears, Cond.instanceMethod yX6_bears, Cond.selects RX6 yX6_bears yX6_bears, Cond.code yX6_bears cX6_bears 3 (some .boolean)]
def wsX6_winner : List Cond := .code yX6_winner cX6_winner 3 (some .int) :: ((wsX6_winner_r1 ++ wsX6_winner_r2) ++ wsX60 ++ wsX80 ++ wsX00 ++ wsX10)
def wsX4_settle_r1 : List Cond := [Cond.fieldLink RX4 33 "KingTable$Play" "rules" "LKingTable$Rules;", Cond.fieldLink RX4 12 "KingTable$Play" "now" "LKingTable$Stand;", Cond.fieldLink RX4 25 "KingTable$Play" "state" "I", Cond.fieldLink RX4 29 "KingTable$Play" "laws" "LKingTable$Laws;", Cond.methodLink RX4 96 yX6_winner, Cond.instanceMethod yX6_winner, Cond.selects RX6 yX6_winner yX6_winner, Cond.initialized RX6, Cond.code yX6_winner cX6_winner 3 (some .int), Cond.fieldLink RX6 29 "KingTable$Rules" "king" "I", Cond.methodLink RX6 61 yX8_fieldOf, Cond.instanceMethod yX8_fieldOf, Cond.selects RX8 yX8_fieldOf yX8_fieldOf, Cond.initialized RX8, Cond.code yX8_fieldOf cX8_fieldOf 2 (some .int), Cond.fieldLink RX8 9 "KingTable$Stand" "fields" "[I", Cond.methodLink RX6 85 yX6_isGoal, Cond.instanceMethod yX6_isGoal, Cond.selects RX6 yX6_isGoal yX6_isGoal, Cond.code yX6_isGoal cX6_isGoal 2 (some .boolean), Cond.fieldLink RX6 12 "KingTable$Rules" "ground" "LKingTable$Ground;", Cond.methodLink RX6 89 yX6_canGo, Cond.instanceMethod yX6_canGo, Cond.selects RX6 yX6_canGo yX6_canGo]
def wsX4_settle_r2 : List Cond := [Cond.code yX6_canGo cX6_canGo 4 (some .boolean), Cond.fieldLink RX6 40 "KingTable$Rules" "total" "I", Cond.fieldLink RX6 22 "KingTable$Rules" "sides" "[I", Cond.methodLink RX6 78 yX6_room, Cond.instanceMethod yX6_room, Cond.selects RX6 yX6_room yX6_room, Cond.code yX6_room cX6_room 7 (some .int), Cond.fieldLink RX6 36 "KingTable$Rules" "laws" "LKingTable$Laws;", Cond.methodLink RX6 67 yX0_beside, Cond.instanceMethod yX0_beside, Cond.selects RX0 yX0_beside yX0_beside, Cond.initialized RX0, Cond.code yX0_beside cX0_beside 4 (some .int), Cond.fieldLink RX0 28 "KingTable$Ground" "size" "I", Cond.fieldLink RX0 19 "KingTable$Ground" "neighbours" "[I", Cond.methodLink RX6 71 yX8_holderOf, Cond.instanceMethod yX8_holderOf, Cond.selects RX8 yX8_holderOf yX8_holderOf, Cond.code yX8_holderOf cX8_holderOf 2 (some .int), Cond.fieldLink RX8 15 "KingTable$Stand" "holders" "[I", Cond.methodLink RX6 74 yX6_bears, Cond.instanceMethod yX6_bears, Cond.selects RX6 yX6_bears yX6_bears, Cond.code yX6_bears cX6_bears 3 (some .boolean)]
def wsX4_settle : List Cond := .code yX4_settle cX4_settle 3 none :: ((wsX4_settle_r1 ++ wsX4_settle_r2) ++ wsX40 ++ wsX10 ++ wsX60 ++ wsX80 ++ wsX00)
def wsX4_start_r1 : List Cond := [Cond.fieldLink RX4 33 "KingTable$Play" "rules" "LKingTable$Rules;", Cond.fieldLink RX4 29 "KingTable$Play" "laws" "LKingTable$Laws;", Cond.fieldLink RX4 12 "KingTable$Play" "now" "LKingTable$Stand;", Cond.methodLink RX4 37 yX4_finish, Cond.instanceMethod yX4_finish, Cond.selects RX4 yX4_finish yX4_finish, Cond.initialized RX4, Cond.code yX4_finish cX4_finish 1 none, Cond.fieldLink RX4 25 "KingTable$Play" "state" "I", Cond.fieldLink RX4 21 "KingTable$Play" "log" "LKingTable$Log;", Cond.methodLink RX4 89 yX6_dismiss, Cond.instanceMethod yX6_dismiss, Cond.selects RX6 yX6_dismiss yX6_dismiss, Cond.initialized RX6, Cond.code yX6_dismiss cX6_dismiss 1 none, Cond.fieldLink RX6 40 "KingTable$Rules" "total" "I", Cond.fieldLink RX6 29 "KingTable$Rules" "king" "I", Cond.methodLink RX4 92 yX8_clear, Cond.instanceMethod yX8_clear, Cond.selects RX8 yX8_clear yX8_clear, Cond.initialized RX8, Cond.code yX8_clear cX8_clear 1 none, Cond.fieldLink RX8 9 "KingTable$Stand" "fields" "[I", Cond.fieldLink RX8 15 "KingTable$Stand" "holders" "[I"]
def wsX4_start_r2 : List Cond := [Cond.fieldLink RX8 27 "KingTable$Stand" "turn" "I", Cond.methodLink RX8 21 yJ7_fill_53178, Cond.static yJ7_fill_53178, Cond.initialized RJ7, Cond.code yJ7_fill_53178 cJ7_fill_53178 4 none, Cond.methodLink RX4 95 yX3_clear, Cond.instanceMethod yX3_clear, Cond.selects RX3 yX3_clear yX3_clear, Cond.initialized RX3, Cond.code yX3_clear cX3_clear 1 none, Cond.fieldLink RX3 33 "KingTable$Log" "done" "I", Cond.fieldLink RX3 37 "KingTable$Log" "known" "I", Cond.methodLink RX4 51 yX0_lay, Cond.instanceMethod yX0_lay, Cond.selects RX0 yX0_lay yX0_lay, Cond.initialized RX0, Cond.code yX0_lay cX0_lay 7 none, Cond.fieldLink RX0 28 "KingTable$Ground" "size" "I", Cond.fieldLink RX0 37 "KingTable$Ground" "mostMoves" "I", Cond.fieldLink RX0 9 "KingTable$Ground" "types" "[I", Cond.fieldLink RX0 15 "KingTable$Ground" "goals" "[Z", Cond.fieldLink RX0 19 "KingTable$Ground" "neighbours" "[I", Cond.methodLink RX0 22 yX9_size, Cond.instanceMethod yX9_size]
def wsX4_start_r3 : List Cond := [Cond.selects RX9 yX9_size yX9_size, Cond.initialized RX9, Cond.code yX9_size cX9_size 1 (some .int), Cond.fieldLink RX9 15 "KingTable$Told" "lines" "I", Cond.fieldLink RX9 19 "KingTable$Told" "width" "I", Cond.static yX10_typeOfSign, Cond.initialized RX10, Cond.code yX10_typeOfSign cX10_typeOfSign 1 (some .int), Cond.methodLink RX4 57 yX9_size, Cond.static yX10_kindOfSign, Cond.code yX10_kindOfSign cX10_kindOfSign 1 (some .int), Cond.methodLink RX4 74 yX8_place, Cond.instanceMethod yX8_place, Cond.selects RX8 yX8_place yX8_place, Cond.code yX8_place cX8_place 4 none, Cond.methodLink RX4 78 yX6_enlist, Cond.instanceMethod yX6_enlist, Cond.selects RX6 yX6_enlist yX6_enlist, Cond.code yX6_enlist cX6_enlist 2 none, Cond.fieldLink RX6 18 "KingTable$Rules" "kinds" "[I", Cond.fieldLink RX6 22 "KingTable$Rules" "sides" "[I", Cond.fieldLink RX6 25 "KingTable$Rules" "takers" "[Z", Cond.fieldLink RX6 36 "KingTable$Rules" "laws" "LKingTable$Laws;", Cond.methodLink RX4 85 yX4_settle]
def wsX4_start_r4 : List Cond := [Cond.instanceMethod yX4_settle, Cond.selects RX4 yX4_settle yX4_settle, Cond.code yX4_settle cX4_settle 3 none, Cond.methodLink RX4 96 yX6_winner, Cond.instanceMethod yX6_winner, Cond.selects RX6 yX6_winner yX6_winner, Cond.code yX6_winner cX6_winner 3 (some .int), Cond.methodLink RX6 61 yX8_fieldOf, Cond.instanceMethod yX8_fieldOf, Cond.selects RX8 yX8_fieldOf yX8_fieldOf, Cond.code yX8_fieldOf cX8_fieldOf 2 (some .int), Cond.methodLink RX6 85 yX6_isGoal, Cond.instanceMethod yX6_isGoal, Cond.selects RX6 yX6_isGoal yX6_isGoal, Cond.code yX6_isGoal cX6_isGoal 2 (some .boolean), Cond.fieldLink RX6 12 "KingTable$Rules" "ground" "LKingTable$Ground;", Cond.methodLink RX6 89 yX6_canGo, Cond.instanceMethod yX6_canGo, Cond.selects RX6 yX6_canGo yX6_canGo, Cond.code yX6_canGo cX6_canGo 4 (some .boolean), Cond.methodLink RX6 78 yX6_room, Cond.instanceMethod yX6_room, Cond.selects RX6 yX6_room yX6_room, Cond.code yX6_room cX6_room 7 (some .int)]
def wsX4_start_r5 : List Cond := [Cond.methodLink RX6 67 yX0_beside, Cond.instanceMethod yX0_beside, Cond.selects RX0 yX0_beside yX0_beside, Cond.code yX0_beside cX0_beside 4 (some .int), Cond.methodLink RX6 71 yX8_holderOf, Cond.instanceMethod yX8_holderOf, Cond.selects RX8 yX8_holderOf yX8_holderOf, Cond.code yX8_holderOf cX8_holderOf 2 (some .int), Cond.methodLink RX6 74 yX6_bears, Cond.instanceMethod yX6_bears, Cond.selects RX6 yX6_bears yX6_bears, Cond.code yX6_bears cX6_bears 3 (some .boolean)]
def wsX4_start : List Cond := .code yX4_start cX4_start 6 none :: ((wsX4_start_r1 ++ (wsX4_start_r2 ++ (wsX4_start_r3 ++ (wsX4_start_r4 ++ wsX4_start_r5)))) ++ wsX40 ++ wsX60 ++ wsX10 ++ wsX90 ++ wsX80 ++ wsX30 ++ wsX00)
def wsX4_sideOnTurn : List Cond := .code yX4_sideOnTurn cX4_sideOnTurn 1 (some .int) :: ([.fieldLink RX4 25 "KingTable$Play" "state" "I", .fieldLink RX4 12 "KingTable$Play" "now" "LKingTable$Stand;"] ++ wsX40 ++ wsX80)
def wsX4_lost : List Cond := .code yX4_lost cX4_lost 3 (some .int) :: ([.fieldLink RX4 33 "KingTable$Play" "rules" "LKingTable$Rules;", .fieldLink RX4 12 "KingTable$Play" "now" "LKingTable$Stand;", .methodLink RX4 103 yX8_fieldOf, .instanceMethod yX8_fieldOf, .selects RX8 yX8_fieldOf yX8_fieldOf, .initialized RX8, .code yX8_fieldOf cX8_fieldOf 2 (some .int), .fieldLink RX8 9 "KingTable$Stand" "fields" "[I"] ++ wsX40 ++ wsX60 ++ wsX80)
def wsX6_isPiece : List Cond := .code yX6_isPiece cX6_isPiece 2 (some .boolean) :: ([.fieldLink RX6 40 "KingTable$Rules" "total" "I"] ++ wsX60)
def wsX6_movesOf_r1 : List Cond := [Cond.methodLink RX6 78 yX6_room, Cond.instanceMethod yX6_room, Cond.selects RX6 yX6_room yX6_room, Cond.initialized RX6, Cond.code yX6_room cX6_room 7 (some .int), Cond.fieldLink RX6 29 "KingTable$Rules" "king" "I", Cond.fieldLink RX6 36 "KingTable$Rules" "laws" "LKingTable$Laws;", Cond.fieldLink RX6 12 "KingTable$Rules" "ground" "LKingTable$Ground;", Cond.methodLink RX6 61 yX8_fieldOf, Cond.instanceMethod yX8_fieldOf, Cond.selects RX8 yX8_fieldOf yX8_fieldOf, Cond.initialized RX8, Cond.code yX8_fieldOf cX8_fieldOf 2 (some .int), Cond.fieldLink RX8 9 "KingTable$Stand" "fields" "[I", Cond.methodLink RX6 67 yX0_beside, Cond.instanceMethod yX0_beside, Cond.selects RX0 yX0_beside yX0_beside, Cond.initialized RX0, Cond.code yX0_beside cX0_beside 4 (some .int), Cond.fieldLink RX0 28 "KingTable$Ground" "size" "I", Cond.fieldLink RX0 19 "KingTable$Ground" "neighbours" "[I", Cond.methodLink RX6 71 yX8_holderOf, Cond.instanceMethod yX8_holderOf, Cond.selects RX8 yX8_holderOf yX8_holderOf]
def wsX6_movesOf_r2 : List Cond := [Cond.code yX8_holderOf cX8_holderOf 2 (some .int), Cond.fieldLink RX8 15 "KingTable$Stand" "holders" "[I", Cond.methodLink RX6 74 yX6_bears, Cond.instanceMethod yX6_bears, Cond.selects RX6 yX6_bears yX6_bears, Cond.code yX6_bears cX6_bears 3 (some .boolean)]
def wsX6_movesOf : List Cond := .code yX6_movesOf cX6_movesOf 5 (some .int) :: ((wsX6_movesOf_r1 ++ wsX6_movesOf_r2) ++ wsX60 ++ wsX10 ++ wsX80 ++ wsX00)
def wsX4_movesOf_r1 : List Cond := [Cond.fieldLink RX4 33 "KingTable$Play" "rules" "LKingTable$Rules;", Cond.fieldLink RX4 12 "KingTable$Play" "now" "LKingTable$Stand;", Cond.methodLink RX4 106 yX6_isPiece, Cond.instanceMethod yX6_isPiece, Cond.selects RX6 yX6_isPiece yX6_isPiece, Cond.initialized RX6, Cond.code yX6_isPiece cX6_isPiece 2 (some .boolean), Cond.fieldLink RX6 40 "KingTable$Rules" "total" "I", Cond.methodLink RX4 113 yX4_sideOnTurn, Cond.instanceMethod yX4_sideOnTurn, Cond.selects RX4 yX4_sideOnTurn yX4_sideOnTurn, Cond.initialized RX4, Cond.code yX4_sideOnTurn cX4_sideOnTurn 1 (some .int), Cond.fieldLink RX4 25 "KingTable$Play" "state" "I", Cond.methodLink RX4 116 yX6_movesOf, Cond.instanceMethod yX6_movesOf, Cond.selects RX6 yX6_movesOf yX6_movesOf, Cond.code yX6_movesOf cX6_movesOf 5 (some .int), Cond.methodLink RX6 78 yX6_room, Cond.instanceMethod yX6_room, Cond.selects RX6 yX6_room yX6_room, Cond.code yX6_room cX6_room 7 (some .int), Cond.fieldLink RX6 29 "KingTable$Rules" "king" "I", Cond.fieldLink RX6 36 "KingTable$Rules" "laws" "LKingTable$Laws;"]
def wsX4_movesOf_r2 : List Cond := [Cond.fieldLink RX6 12 "KingTable$Rules" "ground" "LKingTable$Ground;", Cond.methodLink RX6 61 yX8_fieldOf, Cond.instanceMethod yX8_fieldOf, Cond.selects RX8 yX8_fieldOf yX8_fieldOf, Cond.initialized RX8, Cond.code yX8_fieldOf cX8_fieldOf 2 (some .int), Cond.fieldLink RX8 9 "KingTable$Stand" "fields" "[I", Cond.methodLink RX6 67 yX0_beside, Cond.instanceMethod yX0_beside, Cond.selects RX0 yX0_beside yX0_beside, Cond.initialized RX0, Cond.code yX0_beside cX0_beside 4 (some .int), Cond.fieldLink RX0 28 "KingTable$Ground" "size" "I", Cond.fieldLink RX0 19 "KingTable$Ground" "neighbours" "[I", Cond.methodLink RX6 71 yX8_holderOf, Cond.instanceMethod yX8_holderOf, Cond.selects RX8 yX8_holderOf yX8_holderOf, Cond.code yX8_holderOf cX8_holderOf 2 (some .int), Cond.fieldLink RX8 15 "KingTable$Stand" "holders" "[I", Cond.methodLink RX6 74 yX6_bears, Cond.instanceMethod yX6_bears, Cond.selects RX6 yX6_bears yX6_bears, Cond.code yX6_bears cX6_bears 3 (some .boolean)]
def wsX4_movesOf : List Cond := .code yX4_movesOf cX4_movesOf 3 (some .int) :: ((wsX4_movesOf_r1 ++ wsX4_movesOf_r2) ++ wsX40 ++ wsX60 ++ wsX80 ++ wsX10 ++ wsX00)
def wsX6_isBeyondReach : List Cond := .code yX6_isBeyondReach cX6_isBeyondReach 3 (some .boolean) :: ([.fieldLink RX6 29 "KingTable$Rules" "king" "I", .fieldLink RX6 36 "KingTable$Rules" "laws" "LKingTable$Laws;"] ++ wsX60 ++ wsX10)
def wsX4_barrier_r1 : List Cond := [Cond.fieldLink RX4 12 "KingTable$Play" "now" "LKingTable$Stand;", Cond.fieldLink RX4 33 "KingTable$Play" "rules" "LKingTable$Rules;", Cond.methodLink RX4 103 yX8_fieldOf, Cond.instanceMethod yX8_fieldOf, Cond.selects RX8 yX8_fieldOf yX8_fieldOf, Cond.initialized RX8, Cond.code yX8_fieldOf cX8_fieldOf 2 (some .int), Cond.fieldLink RX8 9 "KingTable$Stand" "fields" "[I", Cond.methodLink RX4 134 yX0_beside, Cond.instanceMethod yX0_beside, Cond.selects RX0 yX0_beside yX0_beside, Cond.initialized RX0, Cond.code yX0_beside cX0_beside 4 (some .int), Cond.fieldLink RX0 28 "KingTable$Ground" "size" "I", Cond.fieldLink RX0 19 "KingTable$Ground" "neighbours" "[I", Cond.methodLink RX4 138 yX8_holderOf, Cond.instanceMethod yX8_holderOf, Cond.selects RX8 yX8_holderOf yX8_holderOf, Cond.code yX8_holderOf cX8_holderOf 2 (some .int), Cond.fieldLink RX8 15 "KingTable$Stand" "holders" "[I", Cond.methodLink RX4 141 yX6_bears, Cond.instanceMethod yX6_bears, Cond.selects RX6 yX6_bears yX6_bears, Cond.initialized RX6]
def wsX4_barrier_r2 : List Cond := [Cond.code yX6_bears cX6_bears 3 (some .boolean), Cond.fieldLink RX6 29 "KingTable$Rules" "king" "I", Cond.fieldLink RX6 12 "KingTable$Rules" "ground" "LKingTable$Ground;"]
def wsX4_barrier : List Cond := .code yX4_barrier cX4_barrier 6 (some .int) :: ((wsX4_barrier_r1 ++ wsX4_barrier_r2) ++ wsX40 ++ wsX60 ++ wsX80 ++ wsX00)
def wsX6_isFoe : List Cond := .code yX6_isFoe cX6_isFoe 5 (some .boolean) :: ([.fieldLink RX6 12 "KingTable$Rules" "ground" "LKingTable$Ground;", .fieldLink RX6 40 "KingTable$Rules" "total" "I", .fieldLink RX6 22 "KingTable$Rules" "sides" "[I", .fieldLink RX6 25 "KingTable$Rules" "takers" "[Z"] ++ wsX60 ++ wsX00 ++ wsX80)
def wsX6_isCaught_r1 : List Cond := [Cond.fieldLink RX6 18 "KingTable$Rules" "kinds" "[I", Cond.fieldLink RX6 29 "KingTable$Rules" "king" "I", Cond.fieldLink RX6 36 "KingTable$Rules" "laws" "LKingTable$Laws;", Cond.fieldLink RX6 12 "KingTable$Rules" "ground" "LKingTable$Ground;", Cond.fieldLink RX6 22 "KingTable$Rules" "sides" "[I", Cond.methodLink RX6 61 yX8_fieldOf, Cond.instanceMethod yX8_fieldOf, Cond.selects RX8 yX8_fieldOf yX8_fieldOf, Cond.initialized RX8, Cond.code yX8_fieldOf cX8_fieldOf 2 (some .int), Cond.fieldLink RX8 9 "KingTable$Stand" "fields" "[I", Cond.methodLink RX6 67 yX0_beside, Cond.instanceMethod yX0_beside, Cond.selects RX0 yX0_beside yX0_beside, Cond.initialized RX0, Cond.code yX0_beside cX0_beside 4 (some .int), Cond.fieldLink RX0 28 "KingTable$Ground" "size" "I", Cond.fieldLink RX0 19 "KingTable$Ground" "neighbours" "[I", Cond.methodLink RX6 114 yX6_isFoe, Cond.instanceMethod yX6_isFoe, Cond.selects RX6 yX6_isFoe yX6_isFoe, Cond.initialized RX6, Cond.code yX6_isFoe cX6_isFoe 5 (some .boolean), Cond.fieldLink RX6 40 "KingTable$Rules" "total" "I"]
def wsX6_isCaught_r2 : List Cond := [Cond.fieldLink RX6 25 "KingTable$Rules" "takers" "[Z"]
def wsX6_isCaught : List Cond := .code yX6_isCaught cX6_isCaught 7 (some .boolean) :: ((wsX6_isCaught_r1 ++ wsX6_isCaught_r2) ++ wsX60 ++ wsX10 ++ wsX80 ++ wsX00)
def wsX6_addVictim : List Cond := .code yX6_addVictim cX6_addVictim 3 none :: ([.fieldLink RX6 93 "KingTable$Rules" "victimCount" "I", .fieldLink RX6 33 "KingTable$Rules" "victims" "[I"] ++ wsX60)
def wsX6_findVictims_r1 : List Cond := [Cond.fieldLink RX6 93 "KingTable$Rules" "victimCount" "I", Cond.fieldLink RX6 25 "KingTable$Rules" "takers" "[Z", Cond.fieldLink RX6 12 "KingTable$Rules" "ground" "LKingTable$Ground;", Cond.fieldLink RX6 22 "KingTable$Rules" "sides" "[I", Cond.methodLink RX6 96 yX6_isPiece, Cond.instanceMethod yX6_isPiece, Cond.selects RX6 yX6_isPiece yX6_isPiece, Cond.initialized RX6, Cond.code yX6_isPiece cX6_isPiece 2 (some .boolean), Cond.fieldLink RX6 40 "KingTable$Rules" "total" "I", Cond.methodLink RX6 61 yX8_fieldOf, Cond.instanceMethod yX8_fieldOf, Cond.selects RX8 yX8_fieldOf yX8_fieldOf, Cond.initialized RX8, Cond.code yX8_fieldOf cX8_fieldOf 2 (some .int), Cond.fieldLink RX8 9 "KingTable$Stand" "fields" "[I", Cond.methodLink RX6 99 yX8_place, Cond.instanceMethod yX8_place, Cond.selects RX8 yX8_place yX8_place, Cond.code yX8_place cX8_place 4 none, Cond.fieldLink RX8 15 "KingTable$Stand" "holders" "[I", Cond.methodLink RX6 67 yX0_beside, Cond.instanceMethod yX0_beside, Cond.selects RX0 yX0_beside yX0_beside]
def wsX6_findVictims_r2 : List Cond := [Cond.initialized RX0, Cond.code yX0_beside cX0_beside 4 (some .int), Cond.fieldLink RX0 28 "KingTable$Ground" "size" "I", Cond.fieldLink RX0 19 "KingTable$Ground" "neighbours" "[I", Cond.methodLink RX6 71 yX8_holderOf, Cond.instanceMethod yX8_holderOf, Cond.selects RX8 yX8_holderOf yX8_holderOf, Cond.code yX8_holderOf cX8_holderOf 2 (some .int), Cond.methodLink RX6 103 yX6_isCaught, Cond.instanceMethod yX6_isCaught, Cond.selects RX6 yX6_isCaught yX6_isCaught, Cond.code yX6_isCaught cX6_isCaught 7 (some .boolean), Cond.fieldLink RX6 18 "KingTable$Rules" "kinds" "[I", Cond.fieldLink RX6 29 "KingTable$Rules" "king" "I", Cond.fieldLink RX6 36 "KingTable$Rules" "laws" "LKingTable$Laws;", Cond.methodLink RX6 114 yX6_isFoe, Cond.instanceMethod yX6_isFoe, Cond.selects RX6 yX6_isFoe yX6_isFoe, Cond.code yX6_isFoe cX6_isFoe 5 (some .boolean), Cond.methodLink RX6 107 yX6_addVictim, Cond.instanceMethod yX6_addVictim, Cond.selects RX6 yX6_addVictim yX6_addVictim, Cond.code yX6_addVictim cX6_addVictim 3 none, Cond.fieldLink RX6 33 "KingTable$Rules" "victims" "[I"]
def wsX6_findVictims : List Cond := .code yX6_findVictims cX6_findVictims 8 (some .int) :: ((wsX6_findVictims_r1 ++ wsX6_findVictims_r2) ++ wsX60 ++ wsX80 ++ wsX00 ++ wsX10)
def wsX4_comesBack_r1 : List Cond := [Cond.fieldLink RX4 33 "KingTable$Play" "rules" "LKingTable$Rules;", Cond.fieldLink RX4 12 "KingTable$Play" "now" "LKingTable$Stand;", Cond.fieldLink RX4 21 "KingTable$Play" "log" "LKingTable$Log;", Cond.methodLink RX4 144 yX6_findVictims, Cond.instanceMethod yX6_findVictims, Cond.selects RX6 yX6_findVictims yX6_findVictims, Cond.initialized RX6, Cond.code yX6_findVictims cX6_findVictims 8 (some .int), Cond.fieldLink RX6 93 "KingTable$Rules" "victimCount" "I", Cond.fieldLink RX6 25 "KingTable$Rules" "takers" "[Z", Cond.fieldLink RX6 12 "KingTable$Rules" "ground" "LKingTable$Ground;", Cond.fieldLink RX6 22 "KingTable$Rules" "sides" "[I", Cond.methodLink RX6 96 yX6_isPiece, Cond.instanceMethod yX6_isPiece, Cond.selects RX6 yX6_isPiece yX6_isPiece, Cond.code yX6_isPiece cX6_isPiece 2 (some .boolean), Cond.fieldLink RX6 40 "KingTable$Rules" "total" "I", Cond.methodLink RX6 61 yX8_fieldOf, Cond.instanceMethod yX8_fieldOf, Cond.selects RX8 yX8_fieldOf yX8_fieldOf, Cond.initialized RX8, Cond.code yX8_fieldOf cX8_fieldOf 2 (some .int), Cond.fieldLink RX8 9 "KingTable$Stand" "fields" "[I", Cond.methodLink RX6 99 yX8_place]
def wsX4_comesBack_r2 : List Cond := [Cond.instanceMethod yX8_place, Cond.selects RX8 yX8_place yX8_place, Cond.code yX8_place cX8_place 4 none, Cond.fieldLink RX8 15 "KingTable$Stand" "holders" "[I", Cond.methodLink RX6 67 yX0_beside, Cond.instanceMethod yX0_beside, Cond.selects RX0 yX0_beside yX0_beside, Cond.initialized RX0, Cond.code yX0_beside cX0_beside 4 (some .int), Cond.fieldLink RX0 28 "KingTable$Ground" "size" "I", Cond.fieldLink RX0 19 "KingTable$Ground" "neighbours" "[I", Cond.methodLink RX6 71 yX8_holderOf, Cond.instanceMethod yX8_holderOf, Cond.selects RX8 yX8_holderOf yX8_holderOf, Cond.code yX8_holderOf cX8_holderOf 2 (some .int), Cond.methodLink RX6 103 yX6_isCaught, Cond.instanceMethod yX6_isCaught, Cond.selects RX6 yX6_isCaught yX6_isCaught, Cond.code yX6_isCaught cX6_isCaught 7 (some .boolean), Cond.fieldLink RX6 18 "KingTable$Rules" "kinds" "[I", Cond.fieldLink RX6 29 "KingTable$Rules" "king" "I", Cond.fieldLink RX6 36 "KingTable$Rules" "laws" "LKingTable$Laws;", Cond.methodLink RX6 114 yX6_isFoe, Cond.instanceMethod yX6_isFoe]
def wsX4_comesBack_r3 : List Cond := [Cond.selects RX6 yX6_isFoe yX6_isFoe, Cond.code yX6_isFoe cX6_isFoe 5 (some .boolean), Cond.methodLink RX6 107 yX6_addVictim, Cond.instanceMethod yX6_addVictim, Cond.selects RX6 yX6_addVictim yX6_addVictim, Cond.code yX6_addVictim cX6_addVictim 3 none, Cond.fieldLink RX6 33 "KingTable$Rules" "victims" "[I", Cond.methodLink RX4 148 yX3_hasSeen, Cond.instanceMethod yX3_hasSeen, Cond.selects RX3 yX3_hasSeen yX3_hasSeen, Cond.initialized RX3, Cond.code yX3_hasSeen cX3_hasSeen 9 (some .boolean), Cond.fieldLink RX3 30 "KingTable$Log" "then" "[I", Cond.methodLink RX3 72 arraycopyName, Cond.native arraycopyName, Cond.static arraycopyName, Cond.initialized "java/lang/System", Cond.fieldLink RX3 33 "KingTable$Log" "done" "I", Cond.fieldLink RX3 21 "KingTable$Log" "takings" "[I", Cond.fieldLink RX3 9 "KingTable$Log" "movers" "[I", Cond.fieldLink RX3 15 "KingTable$Log" "froms" "[I", Cond.methodLink RX3 44 yX8_fieldOf]
def wsX4_comesBack : List Cond := .code yX4_comesBack cX4_comesBack 3 (some .boolean) :: ((wsX4_comesBack_r1 ++ (wsX4_comesBack_r2 ++ wsX4_comesBack_r3)) ++ wsX40 ++ wsX60 ++ wsX80 ++ wsX00 ++ wsX10 ++ wsX30)
def wsX4_reason_r1 : List Cond := [Cond.fieldLink RX4 25 "KingTable$Play" "state" "I", Cond.fieldLink RX4 33 "KingTable$Play" "rules" "LKingTable$Rules;", Cond.fieldLink RX4 12 "KingTable$Play" "now" "LKingTable$Stand;", Cond.fieldLink RX4 29 "KingTable$Play" "laws" "LKingTable$Laws;", Cond.methodLink RX4 106 yX6_isPiece, Cond.instanceMethod yX6_isPiece, Cond.selects RX6 yX6_isPiece yX6_isPiece, Cond.initialized RX6, Cond.code yX6_isPiece cX6_isPiece 2 (some .boolean), Cond.fieldLink RX6 40 "KingTable$Rules" "total" "I", Cond.methodLink RX4 103 yX8_fieldOf, Cond.instanceMethod yX8_fieldOf, Cond.selects RX8 yX8_fieldOf yX8_fieldOf, Cond.initialized RX8, Cond.code yX8_fieldOf cX8_fieldOf 2 (some .int), Cond.fieldLink RX8 9 "KingTable$Stand" "fields" "[I", Cond.methodLink RX4 120 yX0_away, Cond.instanceMethod yX0_away, Cond.selects RX0 yX0_away yX0_away, Cond.initialized RX0, Cond.code yX0_away cX0_away 6 (some .int), Cond.methodLink RX0 47 yX0_beside, Cond.instanceMethod yX0_beside, Cond.selects RX0 yX0_beside yX0_beside]
def wsX4_reason_r2 : List Cond := [Cond.code yX0_beside cX0_beside 4 (some .int), Cond.fieldLink RX0 28 "KingTable$Ground" "size" "I", Cond.fieldLink RX0 19 "KingTable$Ground" "neighbours" "[I", Cond.methodLink RX4 124 yX6_isBeyondReach, Cond.instanceMethod yX6_isBeyondReach, Cond.selects RX6 yX6_isBeyondReach yX6_isBeyondReach, Cond.code yX6_isBeyondReach cX6_isBeyondReach 3 (some .boolean), Cond.fieldLink RX6 29 "KingTable$Rules" "king" "I", Cond.fieldLink RX6 36 "KingTable$Rules" "laws" "LKingTable$Laws;", Cond.methodLink RX4 128 yX4_barrier, Cond.instanceMethod yX4_barrier, Cond.selects RX4 yX4_barrier yX4_barrier, Cond.initialized RX4, Cond.code yX4_barrier cX4_barrier 6 (some .int), Cond.methodLink RX4 134 yX0_beside, Cond.methodLink RX4 138 yX8_holderOf, Cond.instanceMethod yX8_holderOf, Cond.selects RX8 yX8_holderOf yX8_holderOf, Cond.code yX8_holderOf cX8_holderOf 2 (some .int), Cond.fieldLink RX8 15 "KingTable$Stand" "holders" "[I", Cond.methodLink RX4 141 yX6_bears, Cond.instanceMethod yX6_bears, Cond.selects RX6 yX6_bears yX6_bears, Cond.code yX6_bears cX6_bears 3 (some .boolean)]
def wsX4_reason_r3 : List Cond := [Cond.fieldLink RX6 12 "KingTable$Rules" "ground" "LKingTable$Ground;", Cond.methodLink RX4 131 yX4_comesBack, Cond.instanceMethod yX4_comesBack, Cond.selects RX4 yX4_comesBack yX4_comesBack, Cond.code yX4_comesBack cX4_comesBack 3 (some .boolean), Cond.fieldLink RX4 21 "KingTable$Play" "log" "LKingTable$Log;", Cond.methodLink RX4 144 yX6_findVictims, Cond.instanceMethod yX6_findVictims, Cond.selects RX6 yX6_findVictims yX6_findVictims, Cond.code yX6_findVictims cX6_findVictims 8 (some .int), Cond.fieldLink RX6 93 "KingTable$Rules" "victimCount" "I", Cond.fieldLink RX6 25 "KingTable$Rules" "takers" "[Z", Cond.fieldLink RX6 22 "KingTable$Rules" "sides" "[I", Cond.methodLink RX6 96 yX6_isPiece, Cond.methodLink RX6 61 yX8_fieldOf, Cond.methodLink RX6 99 yX8_place, Cond.instanceMethod yX8_place, Cond.selects RX8 yX8_place yX8_place, Cond.code yX8_place cX8_place 4 none, Cond.methodLink RX6 67 yX0_beside, Cond.methodLink RX6 71 yX8_holderOf, Cond.methodLink RX6 103 yX6_isCaught, Cond.instanceMethod yX6_isCaught, Cond.selects RX6 yX6_isCaught yX6_isCaught]
def wsX4_reason_r4 : List Cond := [Cond.code yX6_isCaught cX6_isCaught 7 (some .boolean), Cond.fieldLink RX6 18 "KingTable$Rules" "kinds" "[I", Cond.methodLink RX6 114 yX6_isFoe, Cond.instanceMethod yX6_isFoe, Cond.selects RX6 yX6_isFoe yX6_isFoe, Cond.code yX6_isFoe cX6_isFoe 5 (some .boolean), Cond.methodLink RX6 107 yX6_addVictim, Cond.instanceMethod yX6_addVictim, Cond.selects RX6 yX6_addVictim yX6_addVictim, Cond.code yX6_addVictim cX6_addVictim 3 none, Cond.fieldLink RX6 33 "KingTable$Rules" "victims" "[I", Cond.methodLink RX4 148 yX3_hasSeen, Cond.instanceMethod yX3_hasSeen, Cond.selects RX3 yX3_hasSeen yX3_hasSeen, Cond.initialized RX3, Cond.code yX3_hasSeen cX3_hasSeen 9 (some .boolean), Cond.fieldLink RX3 30 "KingTable$Log" "then" "[I", Cond.methodLink RX3 72 arraycopyName, Cond.native arraycopyName, Cond.static arraycopyName, Cond.initialized "java/lang/System", Cond.fieldLink RX3 33 "KingTable$Log" "done" "I", Cond.fieldLink RX3 21 "KingTable$Log" "takings" "[I", Cond.fieldLink RX3 9 "KingTable$Log" "movers" "[I"]
def wsX4_reason_r5 : List Cond := [Cond.fieldLink RX3 15 "KingTable$Log" "froms" "[I", Cond.methodLink RX3 44 yX8_fieldOf]
def wsX4_reason : List Cond := .code yX4_reason cX4_reason 7 (some .int) :: ((wsX4_reason_r1 ++ (wsX4_reason_r2 ++ (wsX4_reason_r3 ++ (wsX4_reason_r4 ++ wsX4_reason_r5)))) ++ wsX40 ++ wsX60 ++ wsX80 ++ wsX10 ++ wsX00 ++ wsX30)
def wsX4_move_r1 : List Cond := [Cond.fieldLink RX4 21 "KingTable$Play" "log" "LKingTable$Log;", Cond.fieldLink RX4 12 "KingTable$Play" "now" "LKingTable$Stand;", Cond.fieldLink RX4 33 "KingTable$Play" "rules" "LKingTable$Rules;", Cond.methodLink RX4 131 yX4_comesBack, Cond.instanceMethod yX4_comesBack, Cond.selects RX4 yX4_comesBack yX4_comesBack, Cond.initialized RX4, Cond.code yX4_comesBack cX4_comesBack 3 (some .boolean), Cond.methodLink RX4 144 yX6_findVictims, Cond.instanceMethod yX6_findVictims, Cond.selects RX6 yX6_findVictims yX6_findVictims, Cond.initialized RX6, Cond.code yX6_findVictims cX6_findVictims 8 (some .int), Cond.fieldLink RX6 93 "KingTable$Rules" "victimCount" "I", Cond.fieldLink RX6 25 "KingTable$Rules" "takers" "[Z", Cond.fieldLink RX6 12 "KingTable$Rules" "ground" "LKingTable$Ground;", Cond.fieldLink RX6 22 "KingTable$Rules" "sides" "[I", Cond.methodLink RX6 96 yX6_isPiece, Cond.instanceMethod yX6_isPiece, Cond.selects RX6 yX6_isPiece yX6_isPiece, Cond.code yX6_isPiece cX6_isPiece 2 (some .boolean), Cond.fieldLink RX6 40 "KingTable$Rules" "total" "I", Cond.methodLink RX6 61 yX8_fieldOf, Cond.instanceMethod yX8_fieldOf]
def wsX4_move_r2 : List Cond := [Cond.selects RX8 yX8_fieldOf yX8_fieldOf, Cond.initialized RX8, Cond.code yX8_fieldOf cX8_fieldOf 2 (some .int), Cond.fieldLink RX8 9 "KingTable$Stand" "fields" "[I", Cond.methodLink RX6 99 yX8_place, Cond.instanceMethod yX8_place, Cond.selects RX8 yX8_place yX8_place, Cond.code yX8_place cX8_place 4 none, Cond.fieldLink RX8 15 "KingTable$Stand" "holders" "[I", Cond.methodLink RX6 67 yX0_beside, Cond.instanceMethod yX0_beside, Cond.selects RX0 yX0_beside yX0_beside, Cond.initialized RX0, Cond.code yX0_beside cX0_beside 4 (some .int), Cond.fieldLink RX0 28 "KingTable$Ground" "size" "I", Cond.fieldLink RX0 19 "KingTable$Ground" "neighbours" "[I", Cond.methodLink RX6 71 yX8_holderOf, Cond.instanceMethod yX8_holderOf, Cond.selects RX8 yX8_holderOf yX8_holderOf, Cond.code yX8_holderOf cX8_holderOf 2 (some .int), Cond.methodLink RX6 103 yX6_isCaught, Cond.instanceMethod yX6_isCaught, Cond.selects RX6 yX6_isCaught yX6_isCaught, Cond.code yX6_isCaught cX6_isCaught 7 (some .boolean)]
def wsX4_move_r3 : List Cond := [Cond.fieldLink RX6 18 "KingTable$Rules" "kinds" "[I", Cond.fieldLink RX6 29 "KingTable$Rules" "king" "I", Cond.fieldLink RX6 36 "KingTable$Rules" "laws" "LKingTable$Laws;", Cond.methodLink RX6 114 yX6_isFoe, Cond.instanceMethod yX6_isFoe, Cond.selects RX6 yX6_isFoe yX6_isFoe, Cond.code yX6_isFoe cX6_isFoe 5 (some .boolean), Cond.methodLink RX6 107 yX6_addVictim, Cond.instanceMethod yX6_addVictim, Cond.selects RX6 yX6_addVictim yX6_addVictim, Cond.code yX6_addVictim cX6_addVictim 3 none, Cond.fieldLink RX6 33 "KingTable$Rules" "victims" "[I", Cond.methodLink RX4 148 yX3_hasSeen, Cond.instanceMethod yX3_hasSeen, Cond.selects RX3 yX3_hasSeen yX3_hasSeen, Cond.initialized RX3, Cond.code yX3_hasSeen cX3_hasSeen 9 (some .boolean), Cond.fieldLink RX3 30 "KingTable$Log" "then" "[I", Cond.methodLink RX3 72 arraycopyName, Cond.native arraycopyName, Cond.static arraycopyName, Cond.initialized "java/lang/System", Cond.fieldLink RX3 33 "KingTable$Log" "done" "I", Cond.fieldLink RX3 21 "KingTable$Log" "takings" "[I"]
def wsX4_move_r4 : List Cond := [Cond.fieldLink RX3 9 "KingTable$Log" "movers" "[I", Cond.fieldLink RX3 15 "KingTable$Log" "froms" "[I", Cond.methodLink RX3 44 yX8_fieldOf, Cond.methodLink RX4 171 yX3_write, Cond.instanceMethod yX3_write, Cond.selects RX3 yX3_write yX3_write, Cond.code yX3_write cX3_write 6 none, Cond.fieldLink RX3 18 "KingTable$Log" "tos" "[I", Cond.fieldLink RX3 24 "KingTable$Log" "victims" "[I", Cond.fieldLink RX3 27 "KingTable$Log" "victimFields" "[I", Cond.fieldLink RX3 37 "KingTable$Log" "known" "I", Cond.methodLink RX3 56 Lib.Math.max.name, Cond.static Lib.Math.max.name, Cond.initialized "java/lang/Math", Cond.code Lib.Math.max.name Lib.Math.max.code 2 (some .int), Cond.methodLink RX3 40 yX3_isFull, Cond.instanceMethod yX3_isFull, Cond.selects RX3 yX3_isFull yX3_isFull, Cond.code yX3_isFull cX3_isFull 1 (some .boolean), Cond.methodLink RX4 74 yX8_place]
def wsX4_move : List Cond := .code yX4_move cX4_move 5 (some .boolean) :: ((wsX4_move_r1 ++ (wsX4_move_r2 ++ (wsX4_move_r3 ++ wsX4_move_r4))) ++ wsX40 ++ wsX60 ++ wsX80 ++ wsX00 ++ wsX10 ++ wsX30)
def wsX4_tryMove_r1 : List Cond := [Cond.fieldLink RX4 21 "KingTable$Play" "log" "LKingTable$Log;", Cond.fieldLink RX4 33 "KingTable$Play" "rules" "LKingTable$Rules;", Cond.fieldLink RX4 12 "KingTable$Play" "now" "LKingTable$Stand;", Cond.methodLink RX4 152 yX4_reason, Cond.instanceMethod yX4_reason, Cond.selects RX4 yX4_reason yX4_reason, Cond.initialized RX4, Cond.code yX4_reason cX4_reason 7 (some .int), Cond.fieldLink RX4 25 "KingTable$Play" "state" "I", Cond.fieldLink RX4 29 "KingTable$Play" "laws" "LKingTable$Laws;", Cond.methodLink RX4 106 yX6_isPiece, Cond.instanceMethod yX6_isPiece, Cond.selects RX6 yX6_isPiece yX6_isPiece, Cond.initialized RX6, Cond.code yX6_isPiece cX6_isPiece 2 (some .boolean), Cond.fieldLink RX6 40 "KingTable$Rules" "total" "I", Cond.methodLink RX4 103 yX8_fieldOf, Cond.instanceMethod yX8_fieldOf, Cond.selects RX8 yX8_fieldOf yX8_fieldOf, Cond.initialized RX8, Cond.code yX8_fieldOf cX8_fieldOf 2 (some .int), Cond.fieldLink RX8 9 "KingTable$Stand" "fields" "[I", Cond.methodLink RX4 120 yX0_away, Cond.instanceMethod yX0_away]
def wsX4_tryMove_r2 : List Cond := [Cond.selects RX0 yX0_away yX0_away, Cond.initialized RX0, Cond.code yX0_away cX0_away 6 (some .int), Cond.methodLink RX0 47 yX0_beside, Cond.instanceMethod yX0_beside, Cond.selects RX0 yX0_beside yX0_beside, Cond.code yX0_beside cX0_beside 4 (some .int), Cond.fieldLink RX0 28 "KingTable$Ground" "size" "I", Cond.fieldLink RX0 19 "KingTable$Ground" "neighbours" "[I", Cond.methodLink RX4 124 yX6_isBeyondReach, Cond.instanceMethod yX6_isBeyondReach, Cond.selects RX6 yX6_isBeyondReach yX6_isBeyondReach, Cond.code yX6_isBeyondReach cX6_isBeyondReach 3 (some .boolean), Cond.fieldLink RX6 29 "KingTable$Rules" "king" "I", Cond.fieldLink RX6 36 "KingTable$Rules" "laws" "LKingTable$Laws;", Cond.methodLink RX4 128 yX4_barrier, Cond.instanceMethod yX4_barrier, Cond.selects RX4 yX4_barrier yX4_barrier, Cond.code yX4_barrier cX4_barrier 6 (some .int), Cond.methodLink RX4 134 yX0_beside, Cond.methodLink RX4 138 yX8_holderOf, Cond.instanceMethod yX8_holderOf, Cond.selects RX8 yX8_holderOf yX8_holderOf, Cond.code yX8_holderOf cX8_holderOf 2 (some .int)]
def wsX4_tryMove_r3 : List Cond := [Cond.fieldLink RX8 15 "KingTable$Stand" "holders" "[I", Cond.methodLink RX4 141 yX6_bears, Cond.instanceMethod yX6_bears, Cond.selects RX6 yX6_bears yX6_bears, Cond.code yX6_bears cX6_bears 3 (some .boolean), Cond.fieldLink RX6 12 "KingTable$Rules" "ground" "LKingTable$Ground;", Cond.methodLink RX4 131 yX4_comesBack, Cond.instanceMethod yX4_comesBack, Cond.selects RX4 yX4_comesBack yX4_comesBack, Cond.code yX4_comesBack cX4_comesBack 3 (some .boolean), Cond.methodLink RX4 144 yX6_findVictims, Cond.instanceMethod yX6_findVictims, Cond.selects RX6 yX6_findVictims yX6_findVictims, Cond.code yX6_findVictims cX6_findVictims 8 (some .int), Cond.fieldLink RX6 93 "KingTable$Rules" "victimCount" "I", Cond.fieldLink RX6 25 "KingTable$Rules" "takers" "[Z", Cond.fieldLink RX6 22 "KingTable$Rules" "sides" "[I", Cond.methodLink RX6 96 yX6_isPiece, Cond.methodLink RX6 61 yX8_fieldOf, Cond.methodLink RX6 99 yX8_place, Cond.instanceMethod yX8_place, Cond.selects RX8 yX8_place yX8_place, Cond.code yX8_place cX8_place 4 none, Cond.methodLink RX6 67 yX0_beside]
def wsX4_tryMove_r4 : List Cond := [Cond.methodLink RX6 71 yX8_holderOf, Cond.methodLink RX6 103 yX6_isCaught, Cond.instanceMethod yX6_isCaught, Cond.selects RX6 yX6_isCaught yX6_isCaught, Cond.code yX6_isCaught cX6_isCaught 7 (some .boolean), Cond.fieldLink RX6 18 "KingTable$Rules" "kinds" "[I", Cond.methodLink RX6 114 yX6_isFoe, Cond.instanceMethod yX6_isFoe, Cond.selects RX6 yX6_isFoe yX6_isFoe, Cond.code yX6_isFoe cX6_isFoe 5 (some .boolean), Cond.methodLink RX6 107 yX6_addVictim, Cond.instanceMethod yX6_addVictim, Cond.selects RX6 yX6_addVictim yX6_addVictim, Cond.code yX6_addVictim cX6_addVictim 3 none, Cond.fieldLink RX6 33 "KingTable$Rules" "victims" "[I", Cond.methodLink RX4 148 yX3_hasSeen, Cond.instanceMethod yX3_hasSeen, Cond.selects RX3 yX3_hasSeen yX3_hasSeen, Cond.initialized RX3, Cond.code yX3_hasSeen cX3_hasSeen 9 (some .boolean), Cond.fieldLink RX3 30 "KingTable$Log" "then" "[I", Cond.methodLink RX3 72 arraycopyName, Cond.native arraycopyName, Cond.static arraycopyName]
def wsX4_tryMove_r5 : List Cond := [Cond.initialized "java/lang/System", Cond.fieldLink RX3 33 "KingTable$Log" "done" "I", Cond.fieldLink RX3 21 "KingTable$Log" "takings" "[I", Cond.fieldLink RX3 9 "KingTable$Log" "movers" "[I", Cond.fieldLink RX3 15 "KingTable$Log" "froms" "[I", Cond.methodLink RX3 44 yX8_fieldOf, Cond.methodLink RX4 155 yX3_isFull, Cond.instanceMethod yX3_isFull, Cond.selects RX3 yX3_isFull yX3_isFull, Cond.code yX3_isFull cX3_isFull 1 (some .boolean), Cond.methodLink RX4 165 yX4_move, Cond.instanceMethod yX4_move, Cond.selects RX4 yX4_move yX4_move, Cond.code yX4_move cX4_move 5 (some .boolean), Cond.methodLink RX4 171 yX3_write, Cond.instanceMethod yX3_write, Cond.selects RX3 yX3_write yX3_write, Cond.code yX3_write cX3_write 6 none, Cond.fieldLink RX3 18 "KingTable$Log" "tos" "[I", Cond.fieldLink RX3 24 "KingTable$Log" "victims" "[I", Cond.fieldLink RX3 27 "KingTable$Log" "victimFields" "[I", Cond.fieldLink RX3 37 "KingTable$Log" "known" "I", Cond.methodLink RX3 56 Lib.Math.max.name, Cond.static Lib.Math.max.name]
def wsX4_tryMove_r6 : List Cond := [Cond.initialized "java/lang/Math", Cond.code Lib.Math.max.name Lib.Math.max.code 2 (some .int), Cond.methodLink RX3 40 yX3_isFull, Cond.methodLink RX4 74 yX8_place, Cond.methodLink RX4 85 yX4_settle, Cond.instanceMethod yX4_settle, Cond.selects RX4 yX4_settle yX4_settle, Cond.code yX4_settle cX4_settle 3 none, Cond.methodLink RX4 96 yX6_winner, Cond.instanceMethod yX6_winner, Cond.selects RX6 yX6_winner yX6_winner, Cond.code yX6_winner cX6_winner 3 (some .int), Cond.methodLink RX6 85 yX6_isGoal, Cond.instanceMethod yX6_isGoal, Cond.selects RX6 yX6_isGoal yX6_isGoal, Cond.code yX6_isGoal cX6_isGoal 2 (some .boolean), Cond.methodLink RX6 89 yX6_canGo, Cond.instanceMethod yX6_canGo, Cond.selects RX6 yX6_canGo yX6_canGo, Cond.code yX6_canGo cX6_canGo 4 (some .boolean), Cond.methodLink RX6 78 yX6_room, Cond.instanceMethod yX6_room, Cond.selects RX6 yX6_room yX6_room, Cond.code yX6_room cX6_room 7 (some .int)]
def wsX4_tryMove_r7 : List Cond := [Cond.methodLink RX6 74 yX6_bears, Cond.methodLink RX4 168 yX3_latestTakings, Cond.instanceMethod yX3_latestTakings, Cond.selects RX3 yX3_latestTakings yX3_latestTakings, Cond.code yX3_latestTakings cX3_latestTakings 1 (some .int)]
def wsX4_tryMove : List Cond := .code yX4_tryMove cX4_tryMove 4 (some .int) :: ((wsX4_tryMove_r1 ++ (wsX4_tryMove_r2 ++ (wsX4_tryMove_r3 ++ (wsX4_tryMove_r4 ++ (wsX4_tryMove_r5 ++ (wsX4_tryMove_r6 ++ wsX4_tryMove_r7)))))) ++ wsX40 ++ wsX30 ++ wsX60 ++ wsX80 ++ wsX10 ++ wsX00)
def wsX4_takeBack : List Cond := .code yX4_takeBack cX4_takeBack 1 (some .boolean) :: ([.fieldLink RX4 21 "KingTable$Play" "log" "LKingTable$Log;", .fieldLink RX4 12 "KingTable$Play" "now" "LKingTable$Stand;", .fieldLink RX4 25 "KingTable$Play" "state" "I", .methodLink RX4 181 yX3_unwind, .instanceMethod yX3_unwind, .selects RX3 yX3_unwind yX3_unwind, .initialized RX3, .code yX3_unwind cX3_unwind 3 none, .fieldLink RX3 33 "KingTable$Log" "done" "I", .fieldLink RX3 9 "KingTable$Log" "movers" "[I", .fieldLink RX3 15 "KingTable$Log" "froms" "[I", .fieldLink RX3 21 "KingTable$Log" "takings" "[I", .fieldLink RX3 24 "KingTable$Log" "victims" "[I", .fieldLink RX3 27 "KingTable$Log" "victimFields" "[I", .methodLink RX3 62 yX8_place, .instanceMethod yX8_place, .selects RX8 yX8_place yX8_place, .initialized RX8, .code yX8_place cX8_place 4 none, .fieldLink RX8 9 "KingTable$Stand" "fields" "[I", .fieldLink RX8 15 "KingTable$Stand" "holders" "[I"] ++ wsX40 ++ wsX30 ++ wsX80)
def wsX4_redo_r1 : List Cond := [Cond.fieldLink RX4 21 "KingTable$Play" "log" "LKingTable$Log;", Cond.methodLink RX4 155 yX3_isFull, Cond.instanceMethod yX3_isFull, Cond.selects RX3 yX3_isFull yX3_isFull, Cond.initialized RX3, Cond.code yX3_isFull cX3_isFull 1 (some .boolean), Cond.fieldLink RX3 33 "KingTable$Log" "done" "I", Cond.methodLink RX4 165 yX4_move, Cond.instanceMethod yX4_move, Cond.selects RX4 yX4_move yX4_move, Cond.initialized RX4, Cond.code yX4_move cX4_move 5 (some .boolean), Cond.fieldLink RX4 12 "KingTable$Play" "now" "LKingTable$Stand;", Cond.fieldLink RX4 33 "KingTable$Play" "rules" "LKingTable$Rules;", Cond.methodLink RX4 131 yX4_comesBack, Cond.instanceMethod yX4_comesBack, Cond.selects RX4 yX4_comesBack yX4_comesBack, Cond.code yX4_comesBack cX4_comesBack 3 (some .boolean), Cond.methodLink RX4 144 yX6_findVictims, Cond.instanceMethod yX6_findVictims, Cond.selects RX6 yX6_findVictims yX6_findVictims, Cond.initialized RX6, Cond.code yX6_findVictims cX6_findVictims 8 (some .int), Cond.fieldLink RX6 93 "KingTable$Rules" "victimCount" "I"]
def wsX4_redo_r2 : List Cond := [Cond.fieldLink RX6 25 "KingTable$Rules" "takers" "[Z", Cond.fieldLink RX6 12 "KingTable$Rules" "ground" "LKingTable$Ground;", Cond.fieldLink RX6 22 "KingTable$Rules" "sides" "[I", Cond.methodLink RX6 96 yX6_isPiece, Cond.instanceMethod yX6_isPiece, Cond.selects RX6 yX6_isPiece yX6_isPiece, Cond.code yX6_isPiece cX6_isPiece 2 (some .boolean), Cond.fieldLink RX6 40 "KingTable$Rules" "total" "I", Cond.methodLink RX6 61 yX8_fieldOf, Cond.instanceMethod yX8_fieldOf, Cond.selects RX8 yX8_fieldOf yX8_fieldOf, Cond.initialized RX8, Cond.code yX8_fieldOf cX8_fieldOf 2 (some .int), Cond.fieldLink RX8 9 "KingTable$Stand" "fields" "[I", Cond.methodLink RX6 99 yX8_place, Cond.instanceMethod yX8_place, Cond.selects RX8 yX8_place yX8_place, Cond.code yX8_place cX8_place 4 none, Cond.fieldLink RX8 15 "KingTable$Stand" "holders" "[I", Cond.methodLink RX6 67 yX0_beside, Cond.instanceMethod yX0_beside, Cond.selects RX0 yX0_beside yX0_beside, Cond.initialized RX0, Cond.code yX0_beside cX0_beside 4 (some .int)]
def wsX4_redo_r3 : List Cond := [Cond.fieldLink RX0 28 "KingTable$Ground" "size" "I", Cond.fieldLink RX0 19 "KingTable$Ground" "neighbours" "[I", Cond.methodLink RX6 71 yX8_holderOf, Cond.instanceMethod yX8_holderOf, Cond.selects RX8 yX8_holderOf yX8_holderOf, Cond.code yX8_holderOf cX8_holderOf 2 (some .int), Cond.methodLink RX6 103 yX6_isCaught, Cond.instanceMethod yX6_isCaught, Cond.selects RX6 yX6_isCaught yX6_isCaught, Cond.code yX6_isCaught cX6_isCaught 7 (some .boolean), Cond.fieldLink RX6 18 "KingTable$Rules" "kinds" "[I", Cond.fieldLink RX6 29 "KingTable$Rules" "king" "I", Cond.fieldLink RX6 36 "KingTable$Rules" "laws" "LKingTable$Laws;", Cond.methodLink RX6 114 yX6_isFoe, Cond.instanceMethod yX6_isFoe, Cond.selects RX6 yX6_isFoe yX6_isFoe, Cond.code yX6_isFoe cX6_isFoe 5 (some .boolean), Cond.methodLink RX6 107 yX6_addVictim, Cond.instanceMethod yX6_addVictim, Cond.selects RX6 yX6_addVictim yX6_addVictim, Cond.code yX6_addVictim cX6_addVictim 3 none, Cond.fieldLink RX6 33 "KingTable$Rules" "victims" "[I", Cond.methodLink RX4 148 yX3_hasSeen, Cond.instanceMethod yX3_hasSeen]
def wsX4_redo_r4 : List Cond := [Cond.selects RX3 yX3_hasSeen yX3_hasSeen, Cond.code yX3_hasSeen cX3_hasSeen 9 (some .boolean), Cond.fieldLink RX3 30 "KingTable$Log" "then" "[I", Cond.methodLink RX3 72 arraycopyName, Cond.native arraycopyName, Cond.static arraycopyName, Cond.initialized "java/lang/System", Cond.fieldLink RX3 21 "KingTable$Log" "takings" "[I", Cond.fieldLink RX3 9 "KingTable$Log" "movers" "[I", Cond.fieldLink RX3 15 "KingTable$Log" "froms" "[I", Cond.methodLink RX3 44 yX8_fieldOf, Cond.methodLink RX4 171 yX3_write, Cond.instanceMethod yX3_write, Cond.selects RX3 yX3_write yX3_write, Cond.code yX3_write cX3_write 6 none, Cond.fieldLink RX3 18 "KingTable$Log" "tos" "[I", Cond.fieldLink RX3 24 "KingTable$Log" "victims" "[I", Cond.fieldLink RX3 27 "KingTable$Log" "victimFields" "[I", Cond.fieldLink RX3 37 "KingTable$Log" "known" "I", Cond.methodLink RX3 56 Lib.Math.max.name, Cond.static Lib.Math.max.name, Cond.initialized "java/lang/Math", Cond.code Lib.Math.max.name Lib.Math.max.code 2 (some .int), Cond.methodLink RX3 40 yX3_isFull]
def wsX4_redo_r5 : List Cond := [Cond.methodLink RX4 74 yX8_place, Cond.methodLink RX4 85 yX4_settle, Cond.instanceMethod yX4_settle, Cond.selects RX4 yX4_settle yX4_settle, Cond.code yX4_settle cX4_settle 3 none, Cond.fieldLink RX4 25 "KingTable$Play" "state" "I", Cond.fieldLink RX4 29 "KingTable$Play" "laws" "LKingTable$Laws;", Cond.methodLink RX4 96 yX6_winner, Cond.instanceMethod yX6_winner, Cond.selects RX6 yX6_winner yX6_winner, Cond.code yX6_winner cX6_winner 3 (some .int), Cond.methodLink RX6 85 yX6_isGoal, Cond.instanceMethod yX6_isGoal, Cond.selects RX6 yX6_isGoal yX6_isGoal, Cond.code yX6_isGoal cX6_isGoal 2 (some .boolean), Cond.methodLink RX6 89 yX6_canGo, Cond.instanceMethod yX6_canGo, Cond.selects RX6 yX6_canGo yX6_canGo, Cond.code yX6_canGo cX6_canGo 4 (some .boolean), Cond.methodLink RX6 78 yX6_room, Cond.instanceMethod yX6_room, Cond.selects RX6 yX6_room yX6_room, Cond.code yX6_room cX6_room 7 (some .int), Cond.methodLink RX6 74 yX6_bears]
def wsX4_redo_r6 : List Cond := [Cond.instanceMethod yX6_bears, Cond.selects RX6 yX6_bears yX6_bears, Cond.code yX6_bears cX6_bears 3 (some .boolean)]
def wsX4_redo : List Cond := .code yX4_redo cX4_redo 1 (some .boolean) :: ((wsX4_redo_r1 ++ (wsX4_redo_r2 ++ (wsX4_redo_r3 ++ (wsX4_redo_r4 ++ (wsX4_redo_r5 ++ wsX4_redo_r6))))) ++ wsX40 ++ wsX30 ++ wsX60 ++ wsX80 ++ wsX00 ++ wsX10)
def wsX5_init : List Cond := .code yX5_init cX5_init 2 none :: ([.methodLink RX5 3 objectInit, .instanceMethod objectInit, .code objectInit ⟨#[0xb1]⟩ 1 none, .arrayClass .int, .fieldLink RX5 9 "KingTable$Ring" "reached" "[I", .arrayClass .boolean, .fieldLink RX5 15 "KingTable$Ring" "seen" "[Z", .fieldLink RX5 19 "KingTable$Ring" "rules" "LKingTable$Rules;"] ++ wsX50)
def wsX5_isBarred : List Cond := .code yX5_isBarred cX5_isBarred 5 (some .boolean) :: ([.fieldLink RX5 19 "KingTable$Ring" "rules" "LKingTable$Rules;", .methodLink RX5 53 yX8_holderOf, .instanceMethod yX8_holderOf, .selects RX8 yX8_holderOf yX8_holderOf, .initialized RX8, .code yX8_holderOf cX8_holderOf 2 (some .int), .fieldLink RX8 15 "KingTable$Stand" "holders" "[I", .methodLink RX5 56 yX6_isPiece, .instanceMethod yX6_isPiece, .selects RX6 yX6_isPiece yX6_isPiece, .initialized RX6, .code yX6_isPiece cX6_isPiece 2 (some .boolean), .fieldLink RX6 40 "KingTable$Rules" "total" "I"] ++ wsX50 ++ wsX60 ++ wsX80)
def wsX5_holds_r1 : List Cond := [Cond.fieldLink RX5 19 "KingTable$Ring" "rules" "LKingTable$Rules;", Cond.fieldLink RX5 15 "KingTable$Ring" "seen" "[Z", Cond.fieldLink RX5 9 "KingTable$Ring" "reached" "[I", Cond.methodLink RX5 29 yX8_fieldOf, Cond.instanceMethod yX8_fieldOf, Cond.selects RX8 yX8_fieldOf yX8_fieldOf, Cond.initialized RX8, Cond.code yX8_fieldOf cX8_fieldOf 2 (some .int), Cond.fieldLink RX8 9 "KingTable$Stand" "fields" "[I", Cond.methodLink RX5 35 yX6_isGoal, Cond.instanceMethod yX6_isGoal, Cond.selects RX6 yX6_isGoal yX6_isGoal, Cond.initialized RX6, Cond.code yX6_isGoal cX6_isGoal 2 (some .boolean), Cond.fieldLink RX6 12 "KingTable$Rules" "ground" "LKingTable$Ground;", Cond.methodLink RX5 43 yX0_beside, Cond.instanceMethod yX0_beside, Cond.selects RX0 yX0_beside yX0_beside, Cond.initialized RX0, Cond.code yX0_beside cX0_beside 4 (some .int), Cond.fieldLink RX0 28 "KingTable$Ground" "size" "I", Cond.fieldLink RX0 19 "KingTable$Ground" "neighbours" "[I", Cond.methodLink RX5 49 yX5_isBarred, Cond.instanceMethod yX5_isBarred]
def wsX5_holds_r2 : List Cond := [Cond.selects RX5 yX5_isBarred yX5_isBarred, Cond.initialized RX5, Cond.code yX5_isBarred cX5_isBarred 5 (some .boolean), Cond.methodLink RX5 53 yX8_holderOf, Cond.instanceMethod yX8_holderOf, Cond.selects RX8 yX8_holderOf yX8_holderOf, Cond.code yX8_holderOf cX8_holderOf 2 (some .int), Cond.fieldLink RX8 15 "KingTable$Stand" "holders" "[I", Cond.methodLink RX5 56 yX6_isPiece, Cond.instanceMethod yX6_isPiece, Cond.selects RX6 yX6_isPiece yX6_isPiece, Cond.code yX6_isPiece cX6_isPiece 2 (some .boolean), Cond.fieldLink RX6 40 "KingTable$Rules" "total" "I"]
def wsX5_holds : List Cond := .code yX5_holds cX5_holds 8 (some .boolean) :: ((wsX5_holds_r1 ++ wsX5_holds_r2) ++ wsX50 ++ wsX60 ++ wsX80 ++ wsX00)
def wsX6_init : List Cond := .code yX6_init cX6_init 2 none :: ([.methodLink RX6 3 objectInit, .instanceMethod objectInit, .code objectInit ⟨#[0xb1]⟩ 1 none, .classLink RX6 9 RX0, .instantiable RX0 5, .initialized RX0, .fieldLink RX6 12 "KingTable$Rules" "ground" "LKingTable$Ground;", .arrayClass .int, .fieldLink RX6 18 "KingTable$Rules" "kinds" "[I", .fieldLink RX6 22 "KingTable$Rules" "sides" "[I", .arrayClass .boolean, .fieldLink RX6 25 "KingTable$Rules" "takers" "[Z", .fieldLink RX6 29 "KingTable$Rules" "king" "I", .fieldLink RX6 33 "KingTable$Rules" "victims" "[I", .fieldLink RX6 36 "KingTable$Rules" "laws" "LKingTable$Laws;", .instanceMethod yX0_init, .code yX0_init cX0_init 1 none, .methodLink RX0 3 objectInit, .fieldLink RX0 9 "KingTable$Ground" "types" "[I", .fieldLink RX0 15 "KingTable$Ground" "goals" "[Z", .fieldLink RX0 19 "KingTable$Ground" "neighbours" "[I"] ++ wsX00 ++ wsX60)
def wsX7_init_r1 : List Cond := [Cond.methodLink RX7 3 objectInit, Cond.instanceMethod objectInit, Cond.code objectInit ⟨#[0xb1]⟩ 1 none, Cond.classLink RX7 9 RX8, Cond.instantiable RX8 3, Cond.initialized RX8, Cond.fieldLink RX7 12 "KingTable$Solver" "trial" "LKingTable$Stand;", Cond.classLink RX7 18 RX2, Cond.instantiable RX2 4, Cond.initialized RX2, Cond.fieldLink RX7 21 "KingTable$Solver" "links" "LKingTable$Links;", Cond.arrayClass .int, Cond.fieldLink RX7 25 "KingTable$Solver" "powers" "[I", Cond.fieldLink RX7 29 "KingTable$Solver" "digits" "[I", Cond.fieldLink RX7 32 "KingTable$Solver" "tallies" "[I", Cond.fieldLink RX7 35 "KingTable$Solver" "greatest" "[I", Cond.fieldLink RX7 38 "KingTable$Solver" "worths" "[I", Cond.fieldLink RX7 41 "KingTable$Solver" "deeps" "[I", Cond.fieldLink RX7 44 "KingTable$Solver" "open" "[I", Cond.fieldLink RX7 47 "KingTable$Solver" "queue" "[I", Cond.fieldLink RX7 50 "KingTable$Solver" "rules" "LKingTable$Rules;", Cond.methodLink RX7 11 yX8_init, Cond.instanceMethod yX8_init, Cond.code yX8_init cX8_init 1 none]
def wsX7_init_r2 : List Cond := [Cond.methodLink RX8 3 objectInit, Cond.fieldLink RX8 9 "KingTable$Stand" "fields" "[I", Cond.fieldLink RX8 15 "KingTable$Stand" "holders" "[I", Cond.methodLink RX8 18 yX8_clear, Cond.instanceMethod yX8_clear, Cond.selects RX8 yX8_clear yX8_clear, Cond.code yX8_clear cX8_clear 1 none, Cond.fieldLink RX8 27 "KingTable$Stand" "turn" "I", Cond.methodLink RX8 21 yJ7_fill_53178, Cond.static yJ7_fill_53178, Cond.initialized RJ7, Cond.code yJ7_fill_53178 cJ7_fill_53178 4 none, Cond.instanceMethod yX2_init, Cond.code yX2_init cX2_init 1 none, Cond.methodLink RX2 3 objectInit, Cond.fieldLink RX2 9 "KingTable$Links" "heads" "[I", Cond.fieldLink RX2 15 "KingTable$Links" "sources" "[I", Cond.fieldLink RX2 18 "KingTable$Links" "nexts" "[I"]
def wsX7_init : List Cond := .code yX7_init cX7_init 2 none :: ((wsX7_init_r1 ++ wsX7_init_r2) ++ wsX80 ++ wsX70 ++ wsX20)
def wsX7_forget : List Cond := .code yX7_forget cX7_forget 1 none :: ([.fieldLink RX7 54 "KingTable$Solver" "solved" "Z"] ++ wsX70)
def wsX7_measure : List Cond := .code yX7_measure cX7_measure 3 (some .boolean) :: ([.fieldLink RX7 50 "KingTable$Solver" "rules" "LKingTable$Rules;", .fieldLink RX7 25 "KingTable$Solver" "powers" "[I", .fieldLink RX7 66 "KingTable$Solver" "places" "I"] ++ wsX70 ++ wsX60 ++ wsX00)
def wsX7_makeRoom : List Cond := .code yX7_makeRoom cX7_makeRoom 3 none :: ([.fieldLink RX7 38 "KingTable$Solver" "worths" "[I", .arrayClass .int, .fieldLink RX7 41 "KingTable$Solver" "deeps" "[I", .fieldLink RX7 44 "KingTable$Solver" "open" "[I", .fieldLink RX7 47 "KingTable$Solver" "queue" "[I", .methodLink RX7 118 yX2_roomFor, .static yX2_roomFor, .initialized RX2, .code yX2_roomFor cX2_roomFor 3 (some .int), .methodLink RX2 36 Lib.Math.min.name, .static Lib.Math.min.name, .initialized "java/lang/Math", .code Lib.Math.min.name Lib.Math.min.code 2 (some .int), .methodLink RX2 42 Lib.Math.max.name, .static Lib.Math.max.name, .code Lib.Math.max.name Lib.Math.max.code 2 (some .int)] ++ wsX70)
def wsX7_setUp : List Cond := .code yX7_setUp cX7_setUp 3 (some .boolean) :: ([.fieldLink RX7 50 "KingTable$Solver" "rules" "LKingTable$Rules;", .fieldLink RX7 12 "KingTable$Solver" "trial" "LKingTable$Stand;", .fieldLink RX7 29 "KingTable$Solver" "digits" "[I", .methodLink RX7 139 yX8_place, .instanceMethod yX8_place, .selects RX8 yX8_place yX8_place, .initialized RX8, .code yX8_place cX8_place 4 none, .fieldLink RX8 9 "KingTable$Stand" "fields" "[I", .fieldLink RX8 15 "KingTable$Stand" "holders" "[I", .methodLink RX7 142 yX8_holderOf, .instanceMethod yX8_holderOf, .selects RX8 yX8_holderOf yX8_holderOf, .code yX8_holderOf cX8_holderOf 2 (some .int), .methodLink RX7 146 yX6_bears, .instanceMethod yX6_bears, .selects RX6 yX6_bears yX6_bears, .initialized RX6, .code yX6_bears cX6_bears 3 (some .boolean), .fieldLink RX6 29 "KingTable$Rules" "king" "I", .fieldLink RX6 12 "KingTable$Rules" "ground" "LKingTable$Ground;"] ++ wsX70 ++ wsX60 ++ wsX00 ++ wsX80)
def wsX7_decide : List Cond := .code yX7_decide cX7_decide 4 none :: ([.fieldLink RX7 100 "KingTable$Solver" "queued" "I", .fieldLink RX7 47 "KingTable$Solver" "queue" "[I", .fieldLink RX7 38 "KingTable$Solver" "worths" "[I", .fieldLink RX7 41 "KingTable$Solver" "deeps" "[I"] ++ wsX70)
def wsX7_behindMove : List Cond := .code yX7_behindMove cX7_behindMove 8 (some .int) :: ([.fieldLink RX7 25 "KingTable$Solver" "powers" "[I", .fieldLink RX7 50 "KingTable$Solver" "rules" "LKingTable$Rules;", .methodLink RX7 157 yX8_fieldOf, .instanceMethod yX8_fieldOf, .selects RX8 yX8_fieldOf yX8_fieldOf, .initialized RX8, .code yX8_fieldOf cX8_fieldOf 2 (some .int), .fieldLink RX8 9 "KingTable$Stand" "fields" "[I"] ++ wsX70 ++ wsX60 ++ wsX00 ++ wsX80)
def wsX7_linkMoves_r1 : List Cond := [Cond.fieldLink RX7 50 "KingTable$Solver" "rules" "LKingTable$Rules;", Cond.fieldLink RX7 12 "KingTable$Solver" "trial" "LKingTable$Stand;", Cond.fieldLink RX7 21 "KingTable$Solver" "links" "LKingTable$Links;", Cond.fieldLink RX7 44 "KingTable$Solver" "open" "[I", Cond.methodLink RX7 153 yX6_room, Cond.instanceMethod yX6_room, Cond.selects RX6 yX6_room yX6_room, Cond.initialized RX6, Cond.code yX6_room cX6_room 7 (some .int), Cond.fieldLink RX6 29 "KingTable$Rules" "king" "I", Cond.fieldLink RX6 36 "KingTable$Rules" "laws" "LKingTable$Laws;", Cond.fieldLink RX6 12 "KingTable$Rules" "ground" "LKingTable$Ground;", Cond.methodLink RX6 61 yX8_fieldOf, Cond.instanceMethod yX8_fieldOf, Cond.selects RX8 yX8_fieldOf yX8_fieldOf, Cond.initialized RX8, Cond.code yX8_fieldOf cX8_fieldOf 2 (some .int), Cond.fieldLink RX8 9 "KingTable$Stand" "fields" "[I", Cond.methodLink RX6 67 yX0_beside, Cond.instanceMethod yX0_beside, Cond.selects RX0 yX0_beside yX0_beside, Cond.initialized RX0, Cond.code yX0_beside cX0_beside 4 (some .int), Cond.fieldLink RX0 28 "KingTable$Ground" "size" "I"]
def wsX7_linkMoves_r2 : List Cond := [Cond.fieldLink RX0 19 "KingTable$Ground" "neighbours" "[I", Cond.methodLink RX6 71 yX8_holderOf, Cond.instanceMethod yX8_holderOf, Cond.selects RX8 yX8_holderOf yX8_holderOf, Cond.code yX8_holderOf cX8_holderOf 2 (some .int), Cond.fieldLink RX8 15 "KingTable$Stand" "holders" "[I", Cond.methodLink RX6 74 yX6_bears, Cond.instanceMethod yX6_bears, Cond.selects RX6 yX6_bears yX6_bears, Cond.code yX6_bears cX6_bears 3 (some .boolean), Cond.methodLink RX7 157 yX8_fieldOf, Cond.methodLink RX7 160 yX0_beside, Cond.methodLink RX7 164 yX6_findVictims, Cond.instanceMethod yX6_findVictims, Cond.selects RX6 yX6_findVictims yX6_findVictims, Cond.code yX6_findVictims cX6_findVictims 8 (some .int), Cond.fieldLink RX6 93 "KingTable$Rules" "victimCount" "I", Cond.fieldLink RX6 25 "KingTable$Rules" "takers" "[Z", Cond.fieldLink RX6 22 "KingTable$Rules" "sides" "[I", Cond.methodLink RX6 96 yX6_isPiece, Cond.instanceMethod yX6_isPiece, Cond.selects RX6 yX6_isPiece yX6_isPiece, Cond.code yX6_isPiece cX6_isPiece 2 (some .boolean), Cond.fieldLink RX6 40 "KingTable$Rules" "total" "I"]
def wsX7_linkMoves_r3 : List Cond := [Cond.methodLink RX6 99 yX8_place, Cond.instanceMethod yX8_place, Cond.selects RX8 yX8_place yX8_place, Cond.code yX8_place cX8_place 4 none, Cond.methodLink RX6 103 yX6_isCaught, Cond.instanceMethod yX6_isCaught, Cond.selects RX6 yX6_isCaught yX6_isCaught, Cond.code yX6_isCaught cX6_isCaught 7 (some .boolean), Cond.fieldLink RX6 18 "KingTable$Rules" "kinds" "[I", Cond.methodLink RX6 114 yX6_isFoe, Cond.instanceMethod yX6_isFoe, Cond.selects RX6 yX6_isFoe yX6_isFoe, Cond.code yX6_isFoe cX6_isFoe 5 (some .boolean), Cond.methodLink RX6 107 yX6_addVictim, Cond.instanceMethod yX6_addVictim, Cond.selects RX6 yX6_addVictim yX6_addVictim, Cond.code yX6_addVictim cX6_addVictim 3 none, Cond.fieldLink RX6 33 "KingTable$Rules" "victims" "[I", Cond.methodLink RX7 167 yX7_behindMove, Cond.instanceMethod yX7_behindMove, Cond.selects RX7 yX7_behindMove yX7_behindMove, Cond.initialized RX7, Cond.code yX7_behindMove cX7_behindMove 8 (some .int), Cond.fieldLink RX7 25 "KingTable$Solver" "powers" "[I"]
def wsX7_linkMoves_r4 : List Cond := [Cond.methodLink RX7 171 yX2_add, Cond.instanceMethod yX2_add, Cond.selects RX2 yX2_add yX2_add, Cond.initialized RX2, Cond.code yX2_add cX2_add 3 none, Cond.fieldLink RX2 32 "KingTable$Links" "used" "I", Cond.fieldLink RX2 15 "KingTable$Links" "sources" "[I", Cond.fieldLink RX2 9 "KingTable$Links" "heads" "[I", Cond.fieldLink RX2 18 "KingTable$Links" "nexts" "[I"]
def wsX7_linkMoves : List Cond := .code yX7_linkMoves cX7_linkMoves 7 none :: ((wsX7_linkMoves_r1 ++ (wsX7_linkMoves_r2 ++ (wsX7_linkMoves_r3 ++ wsX7_linkMoves_r4))) ++ wsX70 ++ wsX60 ++ wsX80 ++ wsX10 ++ wsX00 ++ wsX20)
def wsX7_enter_r1 : List Cond := [Cond.fieldLink RX7 38 "KingTable$Solver" "worths" "[I", Cond.fieldLink RX7 41 "KingTable$Solver" "deeps" "[I", Cond.fieldLink RX7 44 "KingTable$Solver" "open" "[I", Cond.fieldLink RX7 58 "KingTable$Solver" "counted" "I", Cond.fieldLink RX7 12 "KingTable$Solver" "trial" "LKingTable$Stand;", Cond.fieldLink RX7 50 "KingTable$Solver" "rules" "LKingTable$Rules;", Cond.methodLink RX7 122 yX7_setUp, Cond.instanceMethod yX7_setUp, Cond.selects RX7 yX7_setUp yX7_setUp, Cond.initialized RX7, Cond.code yX7_setUp cX7_setUp 3 (some .boolean), Cond.fieldLink RX7 29 "KingTable$Solver" "digits" "[I", Cond.methodLink RX7 139 yX8_place, Cond.instanceMethod yX8_place, Cond.selects RX8 yX8_place yX8_place, Cond.initialized RX8, Cond.code yX8_place cX8_place 4 none, Cond.fieldLink RX8 9 "KingTable$Stand" "fields" "[I", Cond.fieldLink RX8 15 "KingTable$Stand" "holders" "[I", Cond.methodLink RX7 142 yX8_holderOf, Cond.instanceMethod yX8_holderOf, Cond.selects RX8 yX8_holderOf yX8_holderOf, Cond.code yX8_holderOf cX8_holderOf 2 (some .int), Cond.methodLink RX7 146 yX6_bears]
def wsX7_enter_r2 : List Cond := [Cond.instanceMethod yX6_bears, Cond.selects RX6 yX6_bears yX6_bears, Cond.initialized RX6, Cond.code yX6_bears cX6_bears 3 (some .boolean), Cond.fieldLink RX6 29 "KingTable$Rules" "king" "I", Cond.fieldLink RX6 12 "KingTable$Rules" "ground" "LKingTable$Ground;", Cond.methodLink RX7 128 yX6_winner, Cond.instanceMethod yX6_winner, Cond.selects RX6 yX6_winner yX6_winner, Cond.code yX6_winner cX6_winner 3 (some .int), Cond.methodLink RX6 61 yX8_fieldOf, Cond.instanceMethod yX8_fieldOf, Cond.selects RX8 yX8_fieldOf yX8_fieldOf, Cond.code yX8_fieldOf cX8_fieldOf 2 (some .int), Cond.methodLink RX6 85 yX6_isGoal, Cond.instanceMethod yX6_isGoal, Cond.selects RX6 yX6_isGoal yX6_isGoal, Cond.code yX6_isGoal cX6_isGoal 2 (some .boolean), Cond.methodLink RX6 89 yX6_canGo, Cond.instanceMethod yX6_canGo, Cond.selects RX6 yX6_canGo yX6_canGo, Cond.code yX6_canGo cX6_canGo 4 (some .boolean), Cond.fieldLink RX6 40 "KingTable$Rules" "total" "I", Cond.fieldLink RX6 22 "KingTable$Rules" "sides" "[I"]
def wsX7_enter_r3 : List Cond := [Cond.methodLink RX6 78 yX6_room, Cond.instanceMethod yX6_room, Cond.selects RX6 yX6_room yX6_room, Cond.code yX6_room cX6_room 7 (some .int), Cond.fieldLink RX6 36 "KingTable$Rules" "laws" "LKingTable$Laws;", Cond.methodLink RX6 67 yX0_beside, Cond.instanceMethod yX0_beside, Cond.selects RX0 yX0_beside yX0_beside, Cond.initialized RX0, Cond.code yX0_beside cX0_beside 4 (some .int), Cond.fieldLink RX0 28 "KingTable$Ground" "size" "I", Cond.fieldLink RX0 19 "KingTable$Ground" "neighbours" "[I", Cond.methodLink RX6 71 yX8_holderOf, Cond.methodLink RX6 74 yX6_bears, Cond.methodLink RX7 132 yX7_decide, Cond.instanceMethod yX7_decide, Cond.selects RX7 yX7_decide yX7_decide, Cond.code yX7_decide cX7_decide 4 none, Cond.fieldLink RX7 100 "KingTable$Solver" "queued" "I", Cond.fieldLink RX7 47 "KingTable$Solver" "queue" "[I", Cond.methodLink RX7 136 yX7_linkMoves, Cond.instanceMethod yX7_linkMoves, Cond.selects RX7 yX7_linkMoves yX7_linkMoves, Cond.code yX7_linkMoves cX7_linkMoves 7 none]
def wsX7_enter_r4 : List Cond := [Cond.fieldLink RX7 21 "KingTable$Solver" "links" "LKingTable$Links;", Cond.methodLink RX7 153 yX6_room, Cond.methodLink RX7 157 yX8_fieldOf, Cond.methodLink RX7 160 yX0_beside, Cond.methodLink RX7 164 yX6_findVictims, Cond.instanceMethod yX6_findVictims, Cond.selects RX6 yX6_findVictims yX6_findVictims, Cond.code yX6_findVictims cX6_findVictims 8 (some .int), Cond.fieldLink RX6 93 "KingTable$Rules" "victimCount" "I", Cond.fieldLink RX6 25 "KingTable$Rules" "takers" "[Z", Cond.methodLink RX6 96 yX6_isPiece, Cond.instanceMethod yX6_isPiece, Cond.selects RX6 yX6_isPiece yX6_isPiece, Cond.code yX6_isPiece cX6_isPiece 2 (some .boolean), Cond.methodLink RX6 99 yX8_place, Cond.methodLink RX6 103 yX6_isCaught, Cond.instanceMethod yX6_isCaught, Cond.selects RX6 yX6_isCaught yX6_isCaught, Cond.code yX6_isCaught cX6_isCaught 7 (some .boolean), Cond.fieldLink RX6 18 "KingTable$Rules" "kinds" "[I", Cond.methodLink RX6 114 yX6_isFoe, Cond.instanceMethod yX6_isFoe, Cond.selects RX6 yX6_isFoe yX6_isFoe, Cond.code yX6_isFoe cX6_isFoe 5 (some .boolean)]
def wsX7_enter_r5 : List Cond := [Cond.methodLink RX6 107 yX6_addVictim, Cond.instanceMethod yX6_addVictim, Cond.selects RX6 yX6_addVictim yX6_addVictim, Cond.code yX6_addVictim cX6_addVictim 3 none, Cond.fieldLink RX6 33 "KingTable$Rules" "victims" "[I", Cond.methodLink RX7 167 yX7_behindMove, Cond.instanceMethod yX7_behindMove, Cond.selects RX7 yX7_behindMove yX7_behindMove, Cond.code yX7_behindMove cX7_behindMove 8 (some .int), Cond.fieldLink RX7 25 "KingTable$Solver" "powers" "[I", Cond.methodLink RX7 171 yX2_add, Cond.instanceMethod yX2_add, Cond.selects RX2 yX2_add yX2_add, Cond.initialized RX2, Cond.code yX2_add cX2_add 3 none, Cond.fieldLink RX2 32 "KingTable$Links" "used" "I", Cond.fieldLink RX2 15 "KingTable$Links" "sources" "[I", Cond.fieldLink RX2 9 "KingTable$Links" "heads" "[I", Cond.fieldLink RX2 18 "KingTable$Links" "nexts" "[I"]
def wsX7_enter : List Cond := .code yX7_enter cX7_enter 6 none :: ((wsX7_enter_r1 ++ (wsX7_enter_r2 ++ (wsX7_enter_r3 ++ (wsX7_enter_r4 ++ wsX7_enter_r5)))) ++ wsX70 ++ wsX80 ++ wsX60 ++ wsX00 ++ wsX10 ++ wsX20)
def wsX7_nextDigits : List Cond := .code yX7_nextDigits cX7_nextDigits 2 none :: ([.fieldLink RX7 50 "KingTable$Solver" "rules" "LKingTable$Rules;", .fieldLink RX7 29 "KingTable$Solver" "digits" "[I"] ++ wsX70 ++ wsX60 ++ wsX00)
def wsX7_inform : List Cond := .code yX7_inform cX7_inform 4 none :: ([.fieldLink RX7 38 "KingTable$Solver" "worths" "[I", .fieldLink RX7 44 "KingTable$Solver" "open" "[I", .methodLink RX7 132 yX7_decide, .instanceMethod yX7_decide, .selects RX7 yX7_decide yX7_decide, .initialized RX7, .code yX7_decide cX7_decide 4 none, .fieldLink RX7 100 "KingTable$Solver" "queued" "I", .fieldLink RX7 47 "KingTable$Solver" "queue" "[I", .fieldLink RX7 41 "KingTable$Solver" "deeps" "[I"] ++ wsX70)
def wsX7_spread : List Cond := .code yX7_spread cX7_spread 5 none :: ([.fieldLink RX7 100 "KingTable$Solver" "queued" "I", .fieldLink RX7 47 "KingTable$Solver" "queue" "[I", .fieldLink RX7 21 "KingTable$Solver" "links" "LKingTable$Links;", .fieldLink RX7 38 "KingTable$Solver" "worths" "[I", .fieldLink RX7 41 "KingTable$Solver" "deeps" "[I", .methodLink RX7 189 yX7_inform, .instanceMethod yX7_inform, .selects RX7 yX7_inform yX7_inform, .initialized RX7, .code yX7_inform cX7_inform 4 none, .fieldLink RX7 44 "KingTable$Solver" "open" "[I", .methodLink RX7 132 yX7_decide, .instanceMethod yX7_decide, .selects RX7 yX7_decide yX7_decide, .code yX7_decide cX7_decide 4 none] ++ wsX70 ++ wsX20)
def wsX7_tallyUp : List Cond := .code yX7_tallyUp cX7_tallyUp 3 none :: ([.fieldLink RX7 32 "KingTable$Solver" "tallies" "[I", .fieldLink RX7 35 "KingTable$Solver" "greatest" "[I", .fieldLink RX7 66 "KingTable$Solver" "places" "I", .fieldLink RX7 38 "KingTable$Solver" "worths" "[I", .fieldLink RX7 41 "KingTable$Solver" "deeps" "[I", .methodLink RX7 195 Lib.Math.max.name, .static Lib.Math.max.name, .initialized "java/lang/Math", .code Lib.Math.max.name Lib.Math.max.code 2 (some .int), .methodLink RX7 94 yJ7_fill_53178, .static yJ7_fill_53178, .initialized RJ7, .code yJ7_fill_53178 cJ7_fill_53178 4 none] ++ wsX70)
def wsX7_solveAll_r1 : List Cond := [Cond.fieldLink RX7 54 "KingTable$Solver" "solved" "Z", Cond.fieldLink RX7 58 "KingTable$Solver" "counted" "I", Cond.fieldLink RX7 66 "KingTable$Solver" "places" "I", Cond.fieldLink RX7 21 "KingTable$Solver" "links" "LKingTable$Links;", Cond.fieldLink RX7 50 "KingTable$Solver" "rules" "LKingTable$Rules;", Cond.fieldLink RX7 12 "KingTable$Solver" "trial" "LKingTable$Stand;", Cond.fieldLink RX7 29 "KingTable$Solver" "digits" "[I", Cond.fieldLink RX7 100 "KingTable$Solver" "queued" "I", Cond.methodLink RX7 62 yX7_measure, Cond.instanceMethod yX7_measure, Cond.selects RX7 yX7_measure yX7_measure, Cond.initialized RX7, Cond.code yX7_measure cX7_measure 3 (some .boolean), Cond.fieldLink RX7 25 "KingTable$Solver" "powers" "[I", Cond.methodLink RX7 69 yX7_makeRoom, Cond.instanceMethod yX7_makeRoom, Cond.selects RX7 yX7_makeRoom yX7_makeRoom, Cond.code yX7_makeRoom cX7_makeRoom 3 none, Cond.fieldLink RX7 38 "KingTable$Solver" "worths" "[I", Cond.arrayClass .int, Cond.fieldLink RX7 41 "KingTable$Solver" "deeps" "[I", Cond.fieldLink RX7 44 "KingTable$Solver" "open" "[I", Cond.fieldLink RX7 47 "KingTable$Solver" "queue" "[I", Cond.methodLink RX7 118 yX2_roomFor]
def wsX7_solveAll_r2 : List Cond := [Cond.static yX2_roomFor, Cond.initialized RX2, Cond.code yX2_roomFor cX2_roomFor 3 (some .int), Cond.methodLink RX2 36 Lib.Math.min.name, Cond.static Lib.Math.min.name, Cond.initialized "java/lang/Math", Cond.code Lib.Math.min.name Lib.Math.min.code 2 (some .int), Cond.methodLink RX2 42 Lib.Math.max.name, Cond.static Lib.Math.max.name, Cond.code Lib.Math.max.name Lib.Math.max.code 2 (some .int), Cond.methodLink RX7 87 yX2_renew, Cond.instanceMethod yX2_renew, Cond.selects RX2 yX2_renew yX2_renew, Cond.code yX2_renew cX2_renew 4 none, Cond.fieldLink RX2 9 "KingTable$Links" "heads" "[I", Cond.fieldLink RX2 15 "KingTable$Links" "sources" "[I", Cond.constant RX2 25 (118300), Cond.fieldLink RX2 18 "KingTable$Links" "nexts" "[I", Cond.fieldLink RX2 32 "KingTable$Links" "used" "I", Cond.methodLink RX2 21 yX2_roomFor, Cond.methodLink RX2 26 yJ7_fill_53178, Cond.static yJ7_fill_53178, Cond.initialized RJ7, Cond.code yJ7_fill_53178 cJ7_fill_53178 4 none]
def wsX7_solveAll_r3 : List Cond := [Cond.methodLink RX7 91 yX8_clear, Cond.instanceMethod yX8_clear, Cond.selects RX8 yX8_clear yX8_clear, Cond.initialized RX8, Cond.code yX8_clear cX8_clear 1 none, Cond.fieldLink RX8 9 "KingTable$Stand" "fields" "[I", Cond.fieldLink RX8 15 "KingTable$Stand" "holders" "[I", Cond.fieldLink RX8 27 "KingTable$Stand" "turn" "I", Cond.methodLink RX8 21 yJ7_fill_53178, Cond.methodLink RX7 94 yJ7_fill_53178, Cond.methodLink RX7 103 yX7_enter, Cond.instanceMethod yX7_enter, Cond.selects RX7 yX7_enter yX7_enter, Cond.code yX7_enter cX7_enter 6 none, Cond.methodLink RX7 122 yX7_setUp, Cond.instanceMethod yX7_setUp, Cond.selects RX7 yX7_setUp yX7_setUp, Cond.code yX7_setUp cX7_setUp 3 (some .boolean), Cond.methodLink RX7 139 yX8_place, Cond.instanceMethod yX8_place, Cond.selects RX8 yX8_place yX8_place, Cond.code yX8_place cX8_place 4 none, Cond.methodLink RX7 142 yX8_holderOf, Cond.instanceMethod yX8_holderOf]
def wsX7_solveAll_r4 : List Cond := [Cond.selects RX8 yX8_holderOf yX8_holderOf, Cond.code yX8_holderOf cX8_holderOf 2 (some .int), Cond.methodLink RX7 146 yX6_bears, Cond.instanceMethod yX6_bears, Cond.selects RX6 yX6_bears yX6_bears, Cond.initialized RX6, Cond.code yX6_bears cX6_bears 3 (some .boolean), Cond.fieldLink RX6 29 "KingTable$Rules" "king" "I", Cond.fieldLink RX6 12 "KingTable$Rules" "ground" "LKingTable$Ground;", Cond.methodLink RX7 128 yX6_winner, Cond.instanceMethod yX6_winner, Cond.selects RX6 yX6_winner yX6_winner, Cond.code yX6_winner cX6_winner 3 (some .int), Cond.methodLink RX6 61 yX8_fieldOf, Cond.instanceMethod yX8_fieldOf, Cond.selects RX8 yX8_fieldOf yX8_fieldOf, Cond.code yX8_fieldOf cX8_fieldOf 2 (some .int), Cond.methodLink RX6 85 yX6_isGoal, Cond.instanceMethod yX6_isGoal, Cond.selects RX6 yX6_isGoal yX6_isGoal, Cond.code yX6_isGoal cX6_isGoal 2 (some .boolean), Cond.methodLink RX6 89 yX6_canGo, Cond.instanceMethod yX6_canGo, Cond.selects RX6 yX6_canGo yX6_canGo]
def wsX7_solveAll_r5 : List Cond := [Cond.code yX6_canGo cX6_canGo 4 (some .boolean), Cond.fieldLink RX6 40 "KingTable$Rules" "total" "I", Cond.fieldLink RX6 22 "KingTable$Rules" "sides" "[I", Cond.methodLink RX6 78 yX6_room, Cond.instanceMethod yX6_room, Cond.selects RX6 yX6_room yX6_room, Cond.code yX6_room cX6_room 7 (some .int), Cond.fieldLink RX6 36 "KingTable$Rules" "laws" "LKingTable$Laws;", Cond.methodLink RX6 67 yX0_beside, Cond.instanceMethod yX0_beside, Cond.selects RX0 yX0_beside yX0_beside, Cond.initialized RX0, Cond.code yX0_beside cX0_beside 4 (some .int), Cond.fieldLink RX0 28 "KingTable$Ground" "size" "I", Cond.fieldLink RX0 19 "KingTable$Ground" "neighbours" "[I", Cond.methodLink RX6 71 yX8_holderOf, Cond.methodLink RX6 74 yX6_bears, Cond.methodLink RX7 132 yX7_decide, Cond.instanceMethod yX7_decide, Cond.selects RX7 yX7_decide yX7_decide, Cond.code yX7_decide cX7_decide 4 none, Cond.methodLink RX7 136 yX7_linkMoves, Cond.instanceMethod yX7_linkMoves, Cond.selects RX7 yX7_linkMoves yX7_linkMoves]
def wsX7_solveAll_r6 : List Cond := [Cond.code yX7_linkMoves cX7_linkMoves 7 none, Cond.methodLink RX7 153 yX6_room, Cond.methodLink RX7 157 yX8_fieldOf, Cond.methodLink RX7 160 yX0_beside, Cond.methodLink RX7 164 yX6_findVictims, Cond.instanceMethod yX6_findVictims, Cond.selects RX6 yX6_findVictims yX6_findVictims, Cond.code yX6_findVictims cX6_findVictims 8 (some .int), Cond.fieldLink RX6 93 "KingTable$Rules" "victimCount" "I", Cond.fieldLink RX6 25 "KingTable$Rules" "takers" "[Z", Cond.methodLink RX6 96 yX6_isPiece, Cond.instanceMethod yX6_isPiece, Cond.selects RX6 yX6_isPiece yX6_isPiece, Cond.code yX6_isPiece cX6_isPiece 2 (some .boolean), Cond.methodLink RX6 99 yX8_place, Cond.methodLink RX6 103 yX6_isCaught, Cond.instanceMethod yX6_isCaught, Cond.selects RX6 yX6_isCaught yX6_isCaught, Cond.code yX6_isCaught cX6_isCaught 7 (some .boolean), Cond.fieldLink RX6 18 "KingTable$Rules" "kinds" "[I", Cond.methodLink RX6 114 yX6_isFoe, Cond.instanceMethod yX6_isFoe, Cond.selects RX6 yX6_isFoe yX6_isFoe, Cond.code yX6_isFoe cX6_isFoe 5 (some .boolean)]
def wsX7_solveAll_r7 : List Cond := [Cond.methodLink RX6 107 yX6_addVictim, Cond.instanceMethod yX6_addVictim, Cond.selects RX6 yX6_addVictim yX6_addVictim, Cond.code yX6_addVictim cX6_addVictim 3 none, Cond.fieldLink RX6 33 "KingTable$Rules" "victims" "[I", Cond.methodLink RX7 167 yX7_behindMove, Cond.instanceMethod yX7_behindMove, Cond.selects RX7 yX7_behindMove yX7_behindMove, Cond.code yX7_behindMove cX7_behindMove 8 (some .int), Cond.methodLink RX7 171 yX2_add, Cond.instanceMethod yX2_add, Cond.selects RX2 yX2_add yX2_add, Cond.code yX2_add cX2_add 3 none, Cond.methodLink RX7 106 yX7_nextDigits, Cond.instanceMethod yX7_nextDigits, Cond.selects RX7 yX7_nextDigits yX7_nextDigits, Cond.code yX7_nextDigits cX7_nextDigits 2 none, Cond.methodLink RX7 109 yX7_spread, Cond.instanceMethod yX7_spread, Cond.selects RX7 yX7_spread yX7_spread, Cond.code yX7_spread cX7_spread 5 none, Cond.methodLink RX7 189 yX7_inform, Cond.instanceMethod yX7_inform, Cond.selects RX7 yX7_inform yX7_inform]
def wsX7_solveAll_r8 : List Cond := [Cond.code yX7_inform cX7_inform 4 none, Cond.methodLink RX7 112 yX7_tallyUp, Cond.instanceMethod yX7_tallyUp, Cond.selects RX7 yX7_tallyUp yX7_tallyUp, Cond.code yX7_tallyUp cX7_tallyUp 3 none, Cond.fieldLink RX7 32 "KingTable$Solver" "tallies" "[I", Cond.fieldLink RX7 35 "KingTable$Solver" "greatest" "[I", Cond.methodLink RX7 195 Lib.Math.max.name]
def wsX7_solveAll : List Cond := .code yX7_solveAll cX7_solveAll 2 (some .int) :: ((wsX7_solveAll_r1 ++ (wsX7_solveAll_r2 ++ (wsX7_solveAll_r3 ++ (wsX7_solveAll_r4 ++ (wsX7_solveAll_r5 ++ (wsX7_solveAll_r6 ++ (wsX7_solveAll_r7 ++ wsX7_solveAll_r8))))))) ++ wsX70 ++ wsX60 ++ wsX00 ++ wsX20 ++ wsX80 ++ wsX10)
def wsX7_indexOf : List Cond := .code yX7_indexOf cX7_indexOf 5 (some .int) :: ([.fieldLink RX7 54 "KingTable$Solver" "solved" "Z", .fieldLink RX7 50 "KingTable$Solver" "rules" "LKingTable$Rules;", .fieldLink RX7 25 "KingTable$Solver" "powers" "[I", .fieldLink RX7 66 "KingTable$Solver" "places" "I", .methodLink RX7 157 yX8_fieldOf, .instanceMethod yX8_fieldOf, .selects RX8 yX8_fieldOf yX8_fieldOf, .initialized RX8, .code yX8_fieldOf cX8_fieldOf 2 (some .int), .fieldLink RX8 9 "KingTable$Stand" "fields" "[I"] ++ wsX70 ++ wsX60 ++ wsX00 ++ wsX80)
def wsX7_worthOf : List Cond := .code yX7_worthOf cX7_worthOf 3 (some .int) :: ([.fieldLink RX7 38 "KingTable$Solver" "worths" "[I", .methodLink RX7 200 yX7_indexOf, .instanceMethod yX7_indexOf, .selects RX7 yX7_indexOf yX7_indexOf, .initialized RX7, .code yX7_indexOf cX7_indexOf 5 (some .int), .fieldLink RX7 54 "KingTable$Solver" "solved" "Z", .fieldLink RX7 50 "KingTable$Solver" "rules" "LKingTable$Rules;", .fieldLink RX7 25 "KingTable$Solver" "powers" "[I", .fieldLink RX7 66 "KingTable$Solver" "places" "I", .methodLink RX7 157 yX8_fieldOf, .instanceMethod yX8_fieldOf, .selects RX8 yX8_fieldOf yX8_fieldOf, .initialized RX8, .code yX8_fieldOf cX8_fieldOf 2 (some .int), .fieldLink RX8 9 "KingTable$Stand" "fields" "[I"] ++ wsX70 ++ wsX60 ++ wsX00 ++ wsX80)
def wsX7_deepOf : List Cond := .code yX7_deepOf cX7_deepOf 3 (some .int) :: ([.fieldLink RX7 41 "KingTable$Solver" "deeps" "[I", .methodLink RX7 200 yX7_indexOf, .instanceMethod yX7_indexOf, .selects RX7 yX7_indexOf yX7_indexOf, .initialized RX7, .code yX7_indexOf cX7_indexOf 5 (some .int), .fieldLink RX7 54 "KingTable$Solver" "solved" "Z", .fieldLink RX7 50 "KingTable$Solver" "rules" "LKingTable$Rules;", .fieldLink RX7 25 "KingTable$Solver" "powers" "[I", .fieldLink RX7 66 "KingTable$Solver" "places" "I", .methodLink RX7 157 yX8_fieldOf, .instanceMethod yX8_fieldOf, .selects RX8 yX8_fieldOf yX8_fieldOf, .initialized RX8, .code yX8_fieldOf cX8_fieldOf 2 (some .int), .fieldLink RX8 9 "KingTable$Stand" "fields" "[I"] ++ wsX70 ++ wsX60 ++ wsX00 ++ wsX80)
def wsX7_deepKept_r1 : List Cond := [Cond.fieldLink RX7 50 "KingTable$Solver" "rules" "LKingTable$Rules;", Cond.fieldLink RX7 66 "KingTable$Solver" "places" "I", Cond.fieldLink RX7 38 "KingTable$Solver" "worths" "[I", Cond.fieldLink RX7 41 "KingTable$Solver" "deeps" "[I", Cond.methodLink RX7 206 yX6_isPiece, Cond.instanceMethod yX6_isPiece, Cond.selects RX6 yX6_isPiece yX6_isPiece, Cond.initialized RX6, Cond.code yX6_isPiece cX6_isPiece 2 (some .boolean), Cond.fieldLink RX6 40 "KingTable$Rules" "total" "I", Cond.methodLink RX7 153 yX6_room, Cond.instanceMethod yX6_room, Cond.selects RX6 yX6_room yX6_room, Cond.code yX6_room cX6_room 7 (some .int), Cond.fieldLink RX6 29 "KingTable$Rules" "king" "I", Cond.fieldLink RX6 36 "KingTable$Rules" "laws" "LKingTable$Laws;", Cond.fieldLink RX6 12 "KingTable$Rules" "ground" "LKingTable$Ground;", Cond.methodLink RX6 61 yX8_fieldOf, Cond.instanceMethod yX8_fieldOf, Cond.selects RX8 yX8_fieldOf yX8_fieldOf, Cond.initialized RX8, Cond.code yX8_fieldOf cX8_fieldOf 2 (some .int), Cond.fieldLink RX8 9 "KingTable$Stand" "fields" "[I", Cond.methodLink RX6 67 yX0_beside]
def wsX7_deepKept_r2 : List Cond := [Cond.instanceMethod yX0_beside, Cond.selects RX0 yX0_beside yX0_beside, Cond.initialized RX0, Cond.code yX0_beside cX0_beside 4 (some .int), Cond.fieldLink RX0 28 "KingTable$Ground" "size" "I", Cond.fieldLink RX0 19 "KingTable$Ground" "neighbours" "[I", Cond.methodLink RX6 71 yX8_holderOf, Cond.instanceMethod yX8_holderOf, Cond.selects RX8 yX8_holderOf yX8_holderOf, Cond.code yX8_holderOf cX8_holderOf 2 (some .int), Cond.fieldLink RX8 15 "KingTable$Stand" "holders" "[I", Cond.methodLink RX6 74 yX6_bears, Cond.instanceMethod yX6_bears, Cond.selects RX6 yX6_bears yX6_bears, Cond.code yX6_bears cX6_bears 3 (some .boolean), Cond.methodLink RX7 157 yX8_fieldOf, Cond.methodLink RX7 210 yX0_away, Cond.instanceMethod yX0_away, Cond.selects RX0 yX0_away yX0_away, Cond.code yX0_away cX0_away 6 (some .int), Cond.methodLink RX0 47 yX0_beside, Cond.methodLink RX7 164 yX6_findVictims, Cond.instanceMethod yX6_findVictims, Cond.selects RX6 yX6_findVictims yX6_findVictims]
def wsX7_deepKept_r3 : List Cond := [Cond.code yX6_findVictims cX6_findVictims 8 (some .int), Cond.fieldLink RX6 93 "KingTable$Rules" "victimCount" "I", Cond.fieldLink RX6 25 "KingTable$Rules" "takers" "[Z", Cond.fieldLink RX6 22 "KingTable$Rules" "sides" "[I", Cond.methodLink RX6 96 yX6_isPiece, Cond.methodLink RX6 99 yX8_place, Cond.instanceMethod yX8_place, Cond.selects RX8 yX8_place yX8_place, Cond.code yX8_place cX8_place 4 none, Cond.methodLink RX6 103 yX6_isCaught, Cond.instanceMethod yX6_isCaught, Cond.selects RX6 yX6_isCaught yX6_isCaught, Cond.code yX6_isCaught cX6_isCaught 7 (some .boolean), Cond.fieldLink RX6 18 "KingTable$Rules" "kinds" "[I", Cond.methodLink RX6 114 yX6_isFoe, Cond.instanceMethod yX6_isFoe, Cond.selects RX6 yX6_isFoe yX6_isFoe, Cond.code yX6_isFoe cX6_isFoe 5 (some .boolean), Cond.methodLink RX6 107 yX6_addVictim, Cond.instanceMethod yX6_addVictim, Cond.selects RX6 yX6_addVictim yX6_addVictim, Cond.code yX6_addVictim cX6_addVictim 3 none, Cond.fieldLink RX6 33 "KingTable$Rules" "victims" "[I", Cond.methodLink RX7 167 yX7_behindMove]
def wsX7_deepKept_r4 : List Cond := [Cond.instanceMethod yX7_behindMove, Cond.selects RX7 yX7_behindMove yX7_behindMove, Cond.initialized RX7, Cond.code yX7_behindMove cX7_behindMove 8 (some .int), Cond.fieldLink RX7 25 "KingTable$Solver" "powers" "[I"]
def wsX7_deepKept : List Cond := .code yX7_deepKept cX7_deepKept 10 (some .int) :: ((wsX7_deepKept_r1 ++ (wsX7_deepKept_r2 ++ (wsX7_deepKept_r3 ++ wsX7_deepKept_r4))) ++ wsX70 ++ wsX60 ++ wsX80 ++ wsX10 ++ wsX00)
def wsX7_bestMove_r1 : List Cond := [Cond.fieldLink RX7 38 "KingTable$Solver" "worths" "[I", Cond.fieldLink RX7 41 "KingTable$Solver" "deeps" "[I", Cond.fieldLink RX7 50 "KingTable$Solver" "rules" "LKingTable$Rules;", Cond.methodLink RX7 200 yX7_indexOf, Cond.instanceMethod yX7_indexOf, Cond.selects RX7 yX7_indexOf yX7_indexOf, Cond.initialized RX7, Cond.code yX7_indexOf cX7_indexOf 5 (some .int), Cond.fieldLink RX7 54 "KingTable$Solver" "solved" "Z", Cond.fieldLink RX7 25 "KingTable$Solver" "powers" "[I", Cond.fieldLink RX7 66 "KingTable$Solver" "places" "I", Cond.methodLink RX7 157 yX8_fieldOf, Cond.instanceMethod yX8_fieldOf, Cond.selects RX8 yX8_fieldOf yX8_fieldOf, Cond.initialized RX8, Cond.code yX8_fieldOf cX8_fieldOf 2 (some .int), Cond.fieldLink RX8 9 "KingTable$Stand" "fields" "[I", Cond.methodLink RX7 203 yX7_deepKept, Cond.instanceMethod yX7_deepKept, Cond.selects RX7 yX7_deepKept yX7_deepKept, Cond.code yX7_deepKept cX7_deepKept 10 (some .int), Cond.methodLink RX7 206 yX6_isPiece, Cond.instanceMethod yX6_isPiece, Cond.selects RX6 yX6_isPiece yX6_isPiece]
def wsX7_bestMove_r2 : List Cond := [Cond.initialized RX6, Cond.code yX6_isPiece cX6_isPiece 2 (some .boolean), Cond.fieldLink RX6 40 "KingTable$Rules" "total" "I", Cond.methodLink RX7 153 yX6_room, Cond.instanceMethod yX6_room, Cond.selects RX6 yX6_room yX6_room, Cond.code yX6_room cX6_room 7 (some .int), Cond.fieldLink RX6 29 "KingTable$Rules" "king" "I", Cond.fieldLink RX6 36 "KingTable$Rules" "laws" "LKingTable$Laws;", Cond.fieldLink RX6 12 "KingTable$Rules" "ground" "LKingTable$Ground;", Cond.methodLink RX6 61 yX8_fieldOf, Cond.methodLink RX6 67 yX0_beside, Cond.instanceMethod yX0_beside, Cond.selects RX0 yX0_beside yX0_beside, Cond.initialized RX0, Cond.code yX0_beside cX0_beside 4 (some .int), Cond.fieldLink RX0 28 "KingTable$Ground" "size" "I", Cond.fieldLink RX0 19 "KingTable$Ground" "neighbours" "[I", Cond.methodLink RX6 71 yX8_holderOf, Cond.instanceMethod yX8_holderOf, Cond.selects RX8 yX8_holderOf yX8_holderOf, Cond.code yX8_holderOf cX8_holderOf 2 (some .int), Cond.fieldLink RX8 15 "KingTable$Stand" "holders" "[I", Cond.methodLink RX6 74 yX6_bears]
def wsX7_bestMove_r3 : List Cond := [Cond.instanceMethod yX6_bears, Cond.selects RX6 yX6_bears yX6_bears, Cond.code yX6_bears cX6_bears 3 (some .boolean), Cond.methodLink RX7 210 yX0_away, Cond.instanceMethod yX0_away, Cond.selects RX0 yX0_away yX0_away, Cond.code yX0_away cX0_away 6 (some .int), Cond.methodLink RX0 47 yX0_beside, Cond.methodLink RX7 164 yX6_findVictims, Cond.instanceMethod yX6_findVictims, Cond.selects RX6 yX6_findVictims yX6_findVictims, Cond.code yX6_findVictims cX6_findVictims 8 (some .int), Cond.fieldLink RX6 93 "KingTable$Rules" "victimCount" "I", Cond.fieldLink RX6 25 "KingTable$Rules" "takers" "[Z", Cond.fieldLink RX6 22 "KingTable$Rules" "sides" "[I", Cond.methodLink RX6 96 yX6_isPiece, Cond.methodLink RX6 99 yX8_place, Cond.instanceMethod yX8_place, Cond.selects RX8 yX8_place yX8_place, Cond.code yX8_place cX8_place 4 none, Cond.methodLink RX6 103 yX6_isCaught, Cond.instanceMethod yX6_isCaught, Cond.selects RX6 yX6_isCaught yX6_isCaught, Cond.code yX6_isCaught cX6_isCaught 7 (some .boolean)]
def wsX7_bestMove_r4 : List Cond := [Cond.fieldLink RX6 18 "KingTable$Rules" "kinds" "[I", Cond.methodLink RX6 114 yX6_isFoe, Cond.instanceMethod yX6_isFoe, Cond.selects RX6 yX6_isFoe yX6_isFoe, Cond.code yX6_isFoe cX6_isFoe 5 (some .boolean), Cond.methodLink RX6 107 yX6_addVictim, Cond.instanceMethod yX6_addVictim, Cond.selects RX6 yX6_addVictim yX6_addVictim, Cond.code yX6_addVictim cX6_addVictim 3 none, Cond.fieldLink RX6 33 "KingTable$Rules" "victims" "[I", Cond.methodLink RX7 167 yX7_behindMove, Cond.instanceMethod yX7_behindMove, Cond.selects RX7 yX7_behindMove yX7_behindMove, Cond.code yX7_behindMove cX7_behindMove 8 (some .int)]
def wsX7_bestMove : List Cond := .code yX7_bestMove cX7_bestMove 8 (some .int) :: ((wsX7_bestMove_r1 ++ (wsX7_bestMove_r2 ++ (wsX7_bestMove_r3 ++ wsX7_bestMove_r4))) ++ wsX70 ++ wsX60 ++ wsX80 ++ wsX00 ++ wsX10)
def wsX10_isSide : List Cond := .code yX10_isSide cX10_isSide 1 (some .boolean) :: ([])
def wsX7_tally : List Cond := .code yX7_tally cX7_tally 3 (some .int) :: ([.fieldLink RX7 54 "KingTable$Solver" "solved" "Z", .fieldLink RX7 32 "KingTable$Solver" "tallies" "[I", .static yX10_isSide, .initialized RX10, .code yX10_isSide cX10_isSide 1 (some .boolean)] ++ wsX70)
def wsX7_greatestDeep : List Cond := .code yX7_greatestDeep cX7_greatestDeep 2 (some .int) :: ([.fieldLink RX7 54 "KingTable$Solver" "solved" "Z", .fieldLink RX7 35 "KingTable$Solver" "greatest" "[I", .static yX10_isSide, .initialized RX10, .code yX10_isSide cX10_isSide 1 (some .boolean)] ++ wsX70)
def wsX7_worthAt : List Cond := .code yX7_worthAt cX7_worthAt 4 (some .int) :: ([.fieldLink RX7 54 "KingTable$Solver" "solved" "Z", .fieldLink RX7 66 "KingTable$Solver" "places" "I", .fieldLink RX7 38 "KingTable$Solver" "worths" "[I", .static yX10_isSide, .initialized RX10, .code yX10_isSide cX10_isSide 1 (some .boolean)] ++ wsX70)
def wsX9_init : List Cond := .code yX9_init cX9_init 1 none :: ([.methodLink RX9 3 objectInit, .instanceMethod objectInit, .code objectInit ⟨#[0xb1]⟩ 1 none, .arrayClass .int, .fieldLink RX9 9 "KingTable$Told" "signs" "[I", .fieldLink RX9 15 "KingTable$Told" "lines" "I", .fieldLink RX9 19 "KingTable$Told" "width" "I"] ++ wsX90)
def wsX9_isSpan : List Cond := .code yX9_isSpan cX9_isSpan 1 (some .boolean) :: ([])
def wsX9_renew : List Cond := .code yX9_renew cX9_renew 3 (some .boolean) :: ([.fieldLink RX9 15 "KingTable$Told" "lines" "I", .fieldLink RX9 19 "KingTable$Told" "width" "I", .fieldLink RX9 9 "KingTable$Told" "signs" "[I", .methodLink RX9 22 yX9_isSpan, .static yX9_isSpan, .initialized RX9, .code yX9_isSpan cX9_isSpan 1 (some .boolean), .methodLink RX9 26 yJ7_fill_53178, .static yJ7_fill_53178, .initialized RJ7, .code yJ7_fill_53178 cJ7_fill_53178 4 none] ++ wsX90)
def wsX9_tell : List Cond := .code yX9_tell cX9_tell 5 (some .boolean) :: ([.fieldLink RX9 15 "KingTable$Told" "lines" "I", .fieldLink RX9 19 "KingTable$Told" "width" "I", .fieldLink RX9 9 "KingTable$Told" "signs" "[I"] ++ wsX90)
def wsX9_canBegin : List Cond := .code yX9_canBegin cX9_canBegin 8 (some .boolean) :: ([.fieldLink RX9 9 "KingTable$Told" "signs" "[I", .methodLink RX9 32 yX9_size, .instanceMethod yX9_size, .selects RX9 yX9_size yX9_size, .initialized RX9, .code yX9_size cX9_size 1 (some .int), .fieldLink RX9 15 "KingTable$Told" "lines" "I", .fieldLink RX9 19 "KingTable$Told" "width" "I", .static yX10_kindOfSign, .initialized RX10, .code yX10_kindOfSign cX10_kindOfSign 1 (some .int), .static yX10_typeOfSign, .code yX10_typeOfSign cX10_typeOfSign 1 (some .int)] ++ wsX90)
def wsX10_init_r1 : List Cond := [Cond.methodLink RX10 1 objectInit, Cond.instanceMethod objectInit, Cond.code objectInit ⟨#[0xb1]⟩ 1 none, Cond.classLink RX10 7 RX9, Cond.instantiable RX9 3, Cond.initialized RX9, Cond.fieldLink RX10 10 "KingTable" "told" "LKingTable$Told;", Cond.classLink RX10 16 RX1, Cond.instantiable RX1 5, Cond.initialized RX1, Cond.fieldLink RX10 19 "KingTable" "laws" "LKingTable$Laws;", Cond.classLink RX10 23 RX6, Cond.instantiable RX6 9, Cond.initialized RX6, Cond.fieldLink RX10 28 "KingTable" "rules" "LKingTable$Rules;", Cond.classLink RX10 32 RX4, Cond.instantiable RX4 5, Cond.initialized RX4, Cond.fieldLink RX10 37 "KingTable" "play" "LKingTable$Play;", Cond.classLink RX10 41 RX5, Cond.instantiable RX5 3, Cond.initialized RX5, Cond.fieldLink RX10 46 "KingTable" "hold" "LKingTable$Ring;", Cond.classLink RX10 50 RX7]
def wsX10_init_r2 : List Cond := [Cond.instantiable RX7 15, Cond.initialized RX7, Cond.fieldLink RX10 53 "KingTable" "solver" "LKingTable$Solver;", Cond.instanceMethod yX9_init, Cond.code yX9_init cX9_init 1 none, Cond.methodLink RX9 3 objectInit, Cond.arrayClass .int, Cond.fieldLink RX9 9 "KingTable$Told" "signs" "[I", Cond.fieldLink RX9 15 "KingTable$Told" "lines" "I", Cond.fieldLink RX9 19 "KingTable$Told" "width" "I", Cond.instanceMethod yX1_init, Cond.code yX1_init cX1_init 1 none, Cond.methodLink RX1 1 objectInit, Cond.fieldLink RX1 7 "KingTable$Laws" "goal" "I", Cond.fieldLink RX1 13 "KingTable$Laws" "hard" "I", Cond.fieldLink RX1 16 "KingTable$Laws" "kingTakes" "Z", Cond.fieldLink RX1 20 "KingTable$Laws" "reach" "I", Cond.fieldLink RX1 23 "KingTable$Laws" "comeback" "I", Cond.methodLink RX10 25 yX6_init, Cond.instanceMethod yX6_init, Cond.code yX6_init cX6_init 2 none, Cond.methodLink RX6 3 objectInit, Cond.classLink RX6 9 RX0, Cond.instantiable RX0 5]
def wsX10_init_r3 : List Cond := [Cond.initialized RX0, Cond.fieldLink RX6 12 "KingTable$Rules" "ground" "LKingTable$Ground;", Cond.fieldLink RX6 18 "KingTable$Rules" "kinds" "[I", Cond.fieldLink RX6 22 "KingTable$Rules" "sides" "[I", Cond.arrayClass .boolean, Cond.fieldLink RX6 25 "KingTable$Rules" "takers" "[Z", Cond.fieldLink RX6 29 "KingTable$Rules" "king" "I", Cond.fieldLink RX6 33 "KingTable$Rules" "victims" "[I", Cond.fieldLink RX6 36 "KingTable$Rules" "laws" "LKingTable$Laws;", Cond.instanceMethod yX0_init, Cond.code yX0_init cX0_init 1 none, Cond.methodLink RX0 3 objectInit, Cond.fieldLink RX0 9 "KingTable$Ground" "types" "[I", Cond.fieldLink RX0 15 "KingTable$Ground" "goals" "[Z", Cond.fieldLink RX0 19 "KingTable$Ground" "neighbours" "[I", Cond.methodLink RX10 34 yX4_init, Cond.instanceMethod yX4_init, Cond.code yX4_init cX4_init 3 none, Cond.methodLink RX4 3 objectInit, Cond.classLink RX4 9 RX8, Cond.instantiable RX8 3, Cond.initialized RX8, Cond.fieldLink RX4 12 "KingTable$Play" "now" "LKingTable$Stand;", Cond.classLink RX4 18 RX3]
def wsX10_init_r4 : List Cond := [Cond.instantiable RX3 9, Cond.initialized RX3, Cond.fieldLink RX4 21 "KingTable$Play" "log" "LKingTable$Log;", Cond.fieldLink RX4 25 "KingTable$Play" "state" "I", Cond.fieldLink RX4 29 "KingTable$Play" "laws" "LKingTable$Laws;", Cond.fieldLink RX4 33 "KingTable$Play" "rules" "LKingTable$Rules;", Cond.methodLink RX4 11 yX8_init, Cond.instanceMethod yX8_init, Cond.code yX8_init cX8_init 1 none, Cond.methodLink RX8 3 objectInit, Cond.fieldLink RX8 9 "KingTable$Stand" "fields" "[I", Cond.fieldLink RX8 15 "KingTable$Stand" "holders" "[I", Cond.methodLink RX8 18 yX8_clear, Cond.instanceMethod yX8_clear, Cond.selects RX8 yX8_clear yX8_clear, Cond.code yX8_clear cX8_clear 1 none, Cond.fieldLink RX8 27 "KingTable$Stand" "turn" "I", Cond.methodLink RX8 21 yJ7_fill_53178, Cond.static yJ7_fill_53178, Cond.initialized RJ7, Cond.code yJ7_fill_53178 cJ7_fill_53178 4 none, Cond.instanceMethod yX3_init, Cond.code yX3_init cX3_init 1 none, Cond.methodLink RX3 3 objectInit]
def wsX10_init_r5 : List Cond := [Cond.fieldLink RX3 9 "KingTable$Log" "movers" "[I", Cond.fieldLink RX3 15 "KingTable$Log" "froms" "[I", Cond.fieldLink RX3 18 "KingTable$Log" "tos" "[I", Cond.fieldLink RX3 21 "KingTable$Log" "takings" "[I", Cond.fieldLink RX3 24 "KingTable$Log" "victims" "[I", Cond.fieldLink RX3 27 "KingTable$Log" "victimFields" "[I", Cond.fieldLink RX3 30 "KingTable$Log" "then" "[I", Cond.methodLink RX10 43 yX5_init, Cond.instanceMethod yX5_init, Cond.code yX5_init cX5_init 2 none, Cond.methodLink RX5 3 objectInit, Cond.fieldLink RX5 9 "KingTable$Ring" "reached" "[I", Cond.fieldLink RX5 15 "KingTable$Ring" "seen" "[Z", Cond.fieldLink RX5 19 "KingTable$Ring" "rules" "LKingTable$Rules;", Cond.methodLink RX10 52 yX7_init, Cond.instanceMethod yX7_init, Cond.code yX7_init cX7_init 2 none, Cond.methodLink RX7 3 objectInit, Cond.classLink RX7 9 RX8, Cond.fieldLink RX7 12 "KingTable$Solver" "trial" "LKingTable$Stand;", Cond.classLink RX7 18 RX2, Cond.instantiable RX2 4, Cond.initialized RX2, Cond.fieldLink RX7 21 "KingTable$Solver" "links" "LKingTable$Links;"]
def wsX10_init_r6 : List Cond := [Cond.fieldLink RX7 25 "KingTable$Solver" "powers" "[I", Cond.fieldLink RX7 29 "KingTable$Solver" "digits" "[I", Cond.fieldLink RX7 32 "KingTable$Solver" "tallies" "[I", Cond.fieldLink RX7 35 "KingTable$Solver" "greatest" "[I", Cond.fieldLink RX7 38 "KingTable$Solver" "worths" "[I", Cond.fieldLink RX7 41 "KingTable$Solver" "deeps" "[I", Cond.fieldLink RX7 44 "KingTable$Solver" "open" "[I", Cond.fieldLink RX7 47 "KingTable$Solver" "queue" "[I", Cond.fieldLink RX7 50 "KingTable$Solver" "rules" "LKingTable$Rules;", Cond.methodLink RX7 11 yX8_init, Cond.instanceMethod yX2_init, Cond.code yX2_init cX2_init 1 none, Cond.methodLink RX2 3 objectInit, Cond.fieldLink RX2 9 "KingTable$Links" "heads" "[I", Cond.fieldLink RX2 15 "KingTable$Links" "sources" "[I", Cond.fieldLink RX2 18 "KingTable$Links" "nexts" "[I"]
def wsX10_init : List Cond := .code yX10_init cX10_init 1 none :: ((wsX10_init_r1 ++ (wsX10_init_r2 ++ (wsX10_init_r3 ++ (wsX10_init_r4 ++ (wsX10_init_r5 ++ wsX10_init_r6))))) ++ wsX90 ++ wsX100 ++ wsX10 ++ wsX60 ++ wsX40 ++ wsX50 ++ wsX70 ++ wsX00 ++ wsX80 ++ wsX30 ++ wsX20)
def wsX10_endPlay_r1 : List Cond := [Cond.fieldLink RX10 37 "KingTable" "play" "LKingTable$Play;", Cond.fieldLink RX10 53 "KingTable" "solver" "LKingTable$Solver;", Cond.methodLink RX10 210 yX4_finish, Cond.instanceMethod yX4_finish, Cond.selects RX4 yX4_finish yX4_finish, Cond.initialized RX4, Cond.code yX4_finish cX4_finish 1 none, Cond.fieldLink RX4 25 "KingTable$Play" "state" "I", Cond.fieldLink RX4 33 "KingTable$Play" "rules" "LKingTable$Rules;", Cond.fieldLink RX4 12 "KingTable$Play" "now" "LKingTable$Stand;", Cond.fieldLink RX4 21 "KingTable$Play" "log" "LKingTable$Log;", Cond.methodLink RX4 89 yX6_dismiss, Cond.instanceMethod yX6_dismiss, Cond.selects RX6 yX6_dismiss yX6_dismiss, Cond.initialized RX6, Cond.code yX6_dismiss cX6_dismiss 1 none, Cond.fieldLink RX6 40 "KingTable$Rules" "total" "I", Cond.fieldLink RX6 29 "KingTable$Rules" "king" "I", Cond.methodLink RX4 92 yX8_clear, Cond.instanceMethod yX8_clear, Cond.selects RX8 yX8_clear yX8_clear, Cond.initialized RX8, Cond.code yX8_clear cX8_clear 1 none, Cond.fieldLink RX8 9 "KingTable$Stand" "fields" "[I"]
def wsX10_endPlay_r2 : List Cond := [Cond.fieldLink RX8 15 "KingTable$Stand" "holders" "[I", Cond.fieldLink RX8 27 "KingTable$Stand" "turn" "I", Cond.methodLink RX8 21 yJ7_fill_53178, Cond.static yJ7_fill_53178, Cond.initialized RJ7, Cond.code yJ7_fill_53178 cJ7_fill_53178 4 none, Cond.methodLink RX4 95 yX3_clear, Cond.instanceMethod yX3_clear, Cond.selects RX3 yX3_clear yX3_clear, Cond.initialized RX3, Cond.code yX3_clear cX3_clear 1 none, Cond.fieldLink RX3 33 "KingTable$Log" "done" "I", Cond.fieldLink RX3 37 "KingTable$Log" "known" "I", Cond.methodLink RX10 83 yX7_forget, Cond.instanceMethod yX7_forget, Cond.selects RX7 yX7_forget yX7_forget, Cond.initialized RX7, Cond.code yX7_forget cX7_forget 1 none, Cond.fieldLink RX7 54 "KingTable$Solver" "solved" "Z"]
def wsX10_endPlay : List Cond := .code yX10_endPlay cX10_endPlay 1 none :: ((wsX10_endPlay_r1 ++ wsX10_endPlay_r2) ++ wsX100 ++ wsX40 ++ wsX60 ++ wsX80 ++ wsX30 ++ wsX70)
def wsX10_board_r1 : List Cond := [Cond.fieldLink RX10 10 "KingTable" "told" "LKingTable$Told;", Cond.methodLink RX10 57 yX9_renew, Cond.instanceMethod yX9_renew, Cond.selects RX9 yX9_renew yX9_renew, Cond.initialized RX9, Cond.code yX9_renew cX9_renew 3 (some .boolean), Cond.fieldLink RX9 15 "KingTable$Told" "lines" "I", Cond.fieldLink RX9 19 "KingTable$Told" "width" "I", Cond.fieldLink RX9 9 "KingTable$Told" "signs" "[I", Cond.methodLink RX9 22 yX9_isSpan, Cond.static yX9_isSpan, Cond.code yX9_isSpan cX9_isSpan 1 (some .boolean), Cond.methodLink RX9 26 yJ7_fill_53178, Cond.static yJ7_fill_53178, Cond.initialized RJ7, Cond.code yJ7_fill_53178 cJ7_fill_53178 4 none, Cond.methodLink RX10 61 yX10_endPlay, Cond.instanceMethod yX10_endPlay, Cond.selects RX10 yX10_endPlay yX10_endPlay, Cond.initialized RX10, Cond.code yX10_endPlay cX10_endPlay 1 none, Cond.fieldLink RX10 37 "KingTable" "play" "LKingTable$Play;", Cond.fieldLink RX10 53 "KingTable" "solver" "LKingTable$Solver;", Cond.methodLink RX10 210 yX4_finish]
def wsX10_board_r2 : List Cond := [Cond.instanceMethod yX4_finish, Cond.selects RX4 yX4_finish yX4_finish, Cond.initialized RX4, Cond.code yX4_finish cX4_finish 1 none, Cond.fieldLink RX4 25 "KingTable$Play" "state" "I", Cond.fieldLink RX4 33 "KingTable$Play" "rules" "LKingTable$Rules;", Cond.fieldLink RX4 12 "KingTable$Play" "now" "LKingTable$Stand;", Cond.fieldLink RX4 21 "KingTable$Play" "log" "LKingTable$Log;", Cond.methodLink RX4 89 yX6_dismiss, Cond.instanceMethod yX6_dismiss, Cond.selects RX6 yX6_dismiss yX6_dismiss, Cond.initialized RX6, Cond.code yX6_dismiss cX6_dismiss 1 none, Cond.fieldLink RX6 40 "KingTable$Rules" "total" "I", Cond.fieldLink RX6 29 "KingTable$Rules" "king" "I", Cond.methodLink RX4 92 yX8_clear, Cond.instanceMethod yX8_clear, Cond.selects RX8 yX8_clear yX8_clear, Cond.initialized RX8, Cond.code yX8_clear cX8_clear 1 none, Cond.fieldLink RX8 9 "KingTable$Stand" "fields" "[I", Cond.fieldLink RX8 15 "KingTable$Stand" "holders" "[I", Cond.fieldLink RX8 27 "KingTable$Stand" "turn" "I", Cond.methodLink RX8 21 yJ7_fill_53178]
def wsX10_board_r3 : List Cond := [Cond.methodLink RX4 95 yX3_clear, Cond.instanceMethod yX3_clear, Cond.selects RX3 yX3_clear yX3_clear, Cond.initialized RX3, Cond.code yX3_clear cX3_clear 1 none, Cond.fieldLink RX3 33 "KingTable$Log" "done" "I", Cond.fieldLink RX3 37 "KingTable$Log" "known" "I", Cond.methodLink RX10 83 yX7_forget, Cond.instanceMethod yX7_forget, Cond.selects RX7 yX7_forget yX7_forget, Cond.initialized RX7, Cond.code yX7_forget cX7_forget 1 none, Cond.fieldLink RX7 54 "KingTable$Solver" "solved" "Z"]
def wsX10_board : List Cond := .code yX10_board cX10_board 3 (some .boolean) :: ((wsX10_board_r1 ++ (wsX10_board_r2 ++ wsX10_board_r3)) ++ wsX100 ++ wsX90 ++ wsX40 ++ wsX60 ++ wsX80 ++ wsX30 ++ wsX70)
def wsX10_line : List Cond := .code yX10_line cX10_line 4 (some .boolean) :: ([.fieldLink RX10 37 "KingTable" "play" "LKingTable$Play;", .fieldLink RX10 10 "KingTable" "told" "LKingTable$Told;", .methodLink RX10 64 yX4_isThere, .instanceMethod yX4_isThere, .selects RX4 yX4_isThere yX4_isThere, .initialized RX4, .code yX4_isThere cX4_isThere 1 (some .boolean), .fieldLink RX4 25 "KingTable$Play" "state" "I", .methodLink RX10 68 yX9_tell, .instanceMethod yX9_tell, .selects RX9 yX9_tell yX9_tell, .initialized RX9, .code yX9_tell cX9_tell 5 (some .boolean), .fieldLink RX9 15 "KingTable$Told" "lines" "I", .fieldLink RX9 19 "KingTable$Told" "width" "I", .fieldLink RX9 9 "KingTable$Told" "signs" "[I"] ++ wsX100 ++ wsX40 ++ wsX90)
def wsX10_law : List Cond := .code yX10_law cX10_law 6 (some .boolean) :: ([.fieldLink RX10 37 "KingTable" "play" "LKingTable$Play;", .fieldLink RX10 19 "KingTable" "laws" "LKingTable$Laws;", .methodLink RX10 64 yX4_isThere, .instanceMethod yX4_isThere, .selects RX4 yX4_isThere yX4_isThere, .initialized RX4, .code yX4_isThere cX4_isThere 1 (some .boolean), .fieldLink RX4 25 "KingTable$Play" "state" "I", .methodLink RX10 72 yX1_change, .instanceMethod yX1_change, .selects RX1 yX1_change yX1_change, .initialized RX1, .code yX1_change cX1_change 7 (some .boolean), .fieldLink RX1 7 "KingTable$Laws" "goal" "I", .fieldLink RX1 13 "KingTable$Laws" "hard" "I", .fieldLink RX1 16 "KingTable$Laws" "kingTakes" "Z", .fieldLink RX1 20 "KingTable$Laws" "reach" "I", .fieldLink RX1 23 "KingTable$Laws" "comeback" "I"] ++ wsX100 ++ wsX40 ++ wsX10)
def wsX10_begin_r1 : List Cond := [Cond.fieldLink RX10 37 "KingTable" "play" "LKingTable$Play;", Cond.fieldLink RX10 10 "KingTable" "told" "LKingTable$Told;", Cond.fieldLink RX10 53 "KingTable" "solver" "LKingTable$Solver;", Cond.fieldLink RX10 28 "KingTable" "rules" "LKingTable$Rules;", Cond.methodLink RX10 64 yX4_isThere, Cond.instanceMethod yX4_isThere, Cond.selects RX4 yX4_isThere yX4_isThere, Cond.initialized RX4, Cond.code yX4_isThere cX4_isThere 1 (some .boolean), Cond.fieldLink RX4 25 "KingTable$Play" "state" "I", Cond.methodLink RX10 76 yX10_isSide, Cond.static yX10_isSide, Cond.initialized RX10, Cond.code yX10_isSide cX10_isSide 1 (some .boolean), Cond.methodLink RX10 80 yX9_canBegin, Cond.instanceMethod yX9_canBegin, Cond.selects RX9 yX9_canBegin yX9_canBegin, Cond.initialized RX9, Cond.code yX9_canBegin cX9_canBegin 8 (some .boolean), Cond.fieldLink RX9 9 "KingTable$Told" "signs" "[I", Cond.methodLink RX9 32 yX9_size, Cond.instanceMethod yX9_size, Cond.selects RX9 yX9_size yX9_size, Cond.code yX9_size cX9_size 1 (some .int)]
def wsX10_begin_r2 : List Cond := [Cond.fieldLink RX9 15 "KingTable$Told" "lines" "I", Cond.fieldLink RX9 19 "KingTable$Told" "width" "I", Cond.static yX10_kindOfSign, Cond.code yX10_kindOfSign cX10_kindOfSign 1 (some .int), Cond.static yX10_typeOfSign, Cond.code yX10_typeOfSign cX10_typeOfSign 1 (some .int), Cond.methodLink RX10 83 yX7_forget, Cond.instanceMethod yX7_forget, Cond.selects RX7 yX7_forget yX7_forget, Cond.initialized RX7, Cond.code yX7_forget cX7_forget 1 none, Cond.fieldLink RX7 54 "KingTable$Solver" "solved" "Z", Cond.methodLink RX10 86 yX4_start, Cond.instanceMethod yX4_start, Cond.selects RX4 yX4_start yX4_start, Cond.code yX4_start cX4_start 6 none, Cond.fieldLink RX4 33 "KingTable$Play" "rules" "LKingTable$Rules;", Cond.fieldLink RX4 29 "KingTable$Play" "laws" "LKingTable$Laws;", Cond.fieldLink RX4 12 "KingTable$Play" "now" "LKingTable$Stand;", Cond.methodLink RX4 37 yX4_finish, Cond.instanceMethod yX4_finish, Cond.selects RX4 yX4_finish yX4_finish, Cond.code yX4_finish cX4_finish 1 none, Cond.fieldLink RX4 21 "KingTable$Play" "log" "LKingTable$Log;"]
def wsX10_begin_r3 : List Cond := [Cond.methodLink RX4 89 yX6_dismiss, Cond.instanceMethod yX6_dismiss, Cond.selects RX6 yX6_dismiss yX6_dismiss, Cond.initialized RX6, Cond.code yX6_dismiss cX6_dismiss 1 none, Cond.fieldLink RX6 40 "KingTable$Rules" "total" "I", Cond.fieldLink RX6 29 "KingTable$Rules" "king" "I", Cond.methodLink RX4 92 yX8_clear, Cond.instanceMethod yX8_clear, Cond.selects RX8 yX8_clear yX8_clear, Cond.initialized RX8, Cond.code yX8_clear cX8_clear 1 none, Cond.fieldLink RX8 9 "KingTable$Stand" "fields" "[I", Cond.fieldLink RX8 15 "KingTable$Stand" "holders" "[I", Cond.fieldLink RX8 27 "KingTable$Stand" "turn" "I", Cond.methodLink RX8 21 yJ7_fill_53178, Cond.static yJ7_fill_53178, Cond.initialized RJ7, Cond.code yJ7_fill_53178 cJ7_fill_53178 4 none, Cond.methodLink RX4 95 yX3_clear, Cond.instanceMethod yX3_clear, Cond.selects RX3 yX3_clear yX3_clear, Cond.initialized RX3, Cond.code yX3_clear cX3_clear 1 none]
def wsX10_begin_r4 : List Cond := [Cond.fieldLink RX3 33 "KingTable$Log" "done" "I", Cond.fieldLink RX3 37 "KingTable$Log" "known" "I", Cond.methodLink RX4 51 yX0_lay, Cond.instanceMethod yX0_lay, Cond.selects RX0 yX0_lay yX0_lay, Cond.initialized RX0, Cond.code yX0_lay cX0_lay 7 none, Cond.fieldLink RX0 28 "KingTable$Ground" "size" "I", Cond.fieldLink RX0 37 "KingTable$Ground" "mostMoves" "I", Cond.fieldLink RX0 9 "KingTable$Ground" "types" "[I", Cond.fieldLink RX0 15 "KingTable$Ground" "goals" "[Z", Cond.fieldLink RX0 19 "KingTable$Ground" "neighbours" "[I", Cond.methodLink RX0 22 yX9_size, Cond.methodLink RX4 57 yX9_size, Cond.methodLink RX4 74 yX8_place, Cond.instanceMethod yX8_place, Cond.selects RX8 yX8_place yX8_place, Cond.code yX8_place cX8_place 4 none, Cond.methodLink RX4 78 yX6_enlist, Cond.instanceMethod yX6_enlist, Cond.selects RX6 yX6_enlist yX6_enlist, Cond.code yX6_enlist cX6_enlist 2 none, Cond.fieldLink RX6 18 "KingTable$Rules" "kinds" "[I", Cond.fieldLink RX6 22 "KingTable$Rules" "sides" "[I"]
def wsX10_begin_r5 : List Cond := [Cond.fieldLink RX6 25 "KingTable$Rules" "takers" "[Z", Cond.fieldLink RX6 36 "KingTable$Rules" "laws" "LKingTable$Laws;", Cond.methodLink RX4 85 yX4_settle, Cond.instanceMethod yX4_settle, Cond.selects RX4 yX4_settle yX4_settle, Cond.code yX4_settle cX4_settle 3 none, Cond.methodLink RX4 96 yX6_winner, Cond.instanceMethod yX6_winner, Cond.selects RX6 yX6_winner yX6_winner, Cond.code yX6_winner cX6_winner 3 (some .int), Cond.methodLink RX6 61 yX8_fieldOf, Cond.instanceMethod yX8_fieldOf, Cond.selects RX8 yX8_fieldOf yX8_fieldOf, Cond.code yX8_fieldOf cX8_fieldOf 2 (some .int), Cond.methodLink RX6 85 yX6_isGoal, Cond.instanceMethod yX6_isGoal, Cond.selects RX6 yX6_isGoal yX6_isGoal, Cond.code yX6_isGoal cX6_isGoal 2 (some .boolean), Cond.fieldLink RX6 12 "KingTable$Rules" "ground" "LKingTable$Ground;", Cond.methodLink RX6 89 yX6_canGo, Cond.instanceMethod yX6_canGo, Cond.selects RX6 yX6_canGo yX6_canGo, Cond.code yX6_canGo cX6_canGo 4 (some .boolean), Cond.methodLink RX6 78 yX6_room]
def wsX10_begin_r6 : List Cond := [Cond.instanceMethod yX6_room, Cond.selects RX6 yX6_room yX6_room, Cond.code yX6_room cX6_room 7 (some .int), Cond.methodLink RX6 67 yX0_beside, Cond.instanceMethod yX0_beside, Cond.selects RX0 yX0_beside yX0_beside, Cond.code yX0_beside cX0_beside 4 (some .int), Cond.methodLink RX6 71 yX8_holderOf, Cond.instanceMethod yX8_holderOf, Cond.selects RX8 yX8_holderOf yX8_holderOf, Cond.code yX8_holderOf cX8_holderOf 2 (some .int), Cond.methodLink RX6 74 yX6_bears, Cond.instanceMethod yX6_bears, Cond.selects RX6 yX6_bears yX6_bears, Cond.code yX6_bears cX6_bears 3 (some .boolean)]
def wsX10_begin : List Cond := .code yX10_begin cX10_begin 2 (some .int) :: ((wsX10_begin_r1 ++ (wsX10_begin_r2 ++ (wsX10_begin_r3 ++ (wsX10_begin_r4 ++ (wsX10_begin_r5 ++ wsX10_begin_r6))))) ++ wsX100 ++ wsX60 ++ wsX40 ++ wsX90 ++ wsX70 ++ wsX10 ++ wsX80 ++ wsX30 ++ wsX00)
def wsX10_stop_r1 : List Cond := [Cond.fieldLink RX10 37 "KingTable" "play" "LKingTable$Play;", Cond.methodLink RX10 64 yX4_isThere, Cond.instanceMethod yX4_isThere, Cond.selects RX4 yX4_isThere yX4_isThere, Cond.initialized RX4, Cond.code yX4_isThere cX4_isThere 1 (some .boolean), Cond.fieldLink RX4 25 "KingTable$Play" "state" "I", Cond.methodLink RX10 61 yX10_endPlay, Cond.instanceMethod yX10_endPlay, Cond.selects RX10 yX10_endPlay yX10_endPlay, Cond.initialized RX10, Cond.code yX10_endPlay cX10_endPlay 1 none, Cond.fieldLink RX10 53 "KingTable" "solver" "LKingTable$Solver;", Cond.methodLink RX10 210 yX4_finish, Cond.instanceMethod yX4_finish, Cond.selects RX4 yX4_finish yX4_finish, Cond.code yX4_finish cX4_finish 1 none, Cond.fieldLink RX4 33 "KingTable$Play" "rules" "LKingTable$Rules;", Cond.fieldLink RX4 12 "KingTable$Play" "now" "LKingTable$Stand;", Cond.fieldLink RX4 21 "KingTable$Play" "log" "LKingTable$Log;", Cond.methodLink RX4 89 yX6_dismiss, Cond.instanceMethod yX6_dismiss, Cond.selects RX6 yX6_dismiss yX6_dismiss, Cond.initialized RX6]
def wsX10_stop_r2 : List Cond := [Cond.code yX6_dismiss cX6_dismiss 1 none, Cond.fieldLink RX6 40 "KingTable$Rules" "total" "I", Cond.fieldLink RX6 29 "KingTable$Rules" "king" "I", Cond.methodLink RX4 92 yX8_clear, Cond.instanceMethod yX8_clear, Cond.selects RX8 yX8_clear yX8_clear, Cond.initialized RX8, Cond.code yX8_clear cX8_clear 1 none, Cond.fieldLink RX8 9 "KingTable$Stand" "fields" "[I", Cond.fieldLink RX8 15 "KingTable$Stand" "holders" "[I", Cond.fieldLink RX8 27 "KingTable$Stand" "turn" "I", Cond.methodLink RX8 21 yJ7_fill_53178, Cond.static yJ7_fill_53178, Cond.initialized RJ7, Cond.code yJ7_fill_53178 cJ7_fill_53178 4 none, Cond.methodLink RX4 95 yX3_clear, Cond.instanceMethod yX3_clear, Cond.selects RX3 yX3_clear yX3_clear, Cond.initialized RX3, Cond.code yX3_clear cX3_clear 1 none, Cond.fieldLink RX3 33 "KingTable$Log" "done" "I", Cond.fieldLink RX3 37 "KingTable$Log" "known" "I", Cond.methodLink RX10 83 yX7_forget, Cond.instanceMethod yX7_forget]
def wsX10_stop_r3 : List Cond := [Cond.selects RX7 yX7_forget yX7_forget, Cond.initialized RX7, Cond.code yX7_forget cX7_forget 1 none, Cond.fieldLink RX7 54 "KingTable$Solver" "solved" "Z"]
def wsX10_stop : List Cond := .code yX10_stop cX10_stop 1 (some .boolean) :: ((wsX10_stop_r1 ++ (wsX10_stop_r2 ++ wsX10_stop_r3)) ++ wsX100 ++ wsX40 ++ wsX60 ++ wsX80 ++ wsX30 ++ wsX70)
def wsX10_go_r1 : List Cond := [Cond.fieldLink RX10 37 "KingTable" "play" "LKingTable$Play;", Cond.methodLink RX10 94 yX4_tryMove, Cond.instanceMethod yX4_tryMove, Cond.selects RX4 yX4_tryMove yX4_tryMove, Cond.initialized RX4, Cond.code yX4_tryMove cX4_tryMove 4 (some .int), Cond.fieldLink RX4 21 "KingTable$Play" "log" "LKingTable$Log;", Cond.fieldLink RX4 33 "KingTable$Play" "rules" "LKingTable$Rules;", Cond.fieldLink RX4 12 "KingTable$Play" "now" "LKingTable$Stand;", Cond.methodLink RX4 152 yX4_reason, Cond.instanceMethod yX4_reason, Cond.selects RX4 yX4_reason yX4_reason, Cond.code yX4_reason cX4_reason 7 (some .int), Cond.fieldLink RX4 25 "KingTable$Play" "state" "I", Cond.fieldLink RX4 29 "KingTable$Play" "laws" "LKingTable$Laws;", Cond.methodLink RX4 106 yX6_isPiece, Cond.instanceMethod yX6_isPiece, Cond.selects RX6 yX6_isPiece yX6_isPiece, Cond.initialized RX6, Cond.code yX6_isPiece cX6_isPiece 2 (some .boolean), Cond.fieldLink RX6 40 "KingTable$Rules" "total" "I", Cond.methodLink RX4 103 yX8_fieldOf, Cond.instanceMethod yX8_fieldOf, Cond.selects RX8 yX8_fieldOf yX8_fieldOf]
def wsX10_go_r2 : List Cond := [Cond.initialized RX8, Cond.code yX8_fieldOf cX8_fieldOf 2 (some .int), Cond.fieldLink RX8 9 "KingTable$Stand" "fields" "[I", Cond.methodLink RX4 120 yX0_away, Cond.instanceMethod yX0_away, Cond.selects RX0 yX0_away yX0_away, Cond.initialized RX0, Cond.code yX0_away cX0_away 6 (some .int), Cond.methodLink RX0 47 yX0_beside, Cond.instanceMethod yX0_beside, Cond.selects RX0 yX0_beside yX0_beside, Cond.code yX0_beside cX0_beside 4 (some .int), Cond.fieldLink RX0 28 "KingTable$Ground" "size" "I", Cond.fieldLink RX0 19 "KingTable$Ground" "neighbours" "[I", Cond.methodLink RX4 124 yX6_isBeyondReach, Cond.instanceMethod yX6_isBeyondReach, Cond.selects RX6 yX6_isBeyondReach yX6_isBeyondReach, Cond.code yX6_isBeyondReach cX6_isBeyondReach 3 (some .boolean), Cond.fieldLink RX6 29 "KingTable$Rules" "king" "I", Cond.fieldLink RX6 36 "KingTable$Rules" "laws" "LKingTable$Laws;", Cond.methodLink RX4 128 yX4_barrier, Cond.instanceMethod yX4_barrier, Cond.selects RX4 yX4_barrier yX4_barrier, Cond.code yX4_barrier cX4_barrier 6 (some .int)]
def wsX10_go_r3 : List Cond := [Cond.methodLink RX4 134 yX0_beside, Cond.methodLink RX4 138 yX8_holderOf, Cond.instanceMethod yX8_holderOf, Cond.selects RX8 yX8_holderOf yX8_holderOf, Cond.code yX8_holderOf cX8_holderOf 2 (some .int), Cond.fieldLink RX8 15 "KingTable$Stand" "holders" "[I", Cond.methodLink RX4 141 yX6_bears, Cond.instanceMethod yX6_bears, Cond.selects RX6 yX6_bears yX6_bears, Cond.code yX6_bears cX6_bears 3 (some .boolean), Cond.fieldLink RX6 12 "KingTable$Rules" "ground" "LKingTable$Ground;", Cond.methodLink RX4 131 yX4_comesBack, Cond.instanceMethod yX4_comesBack, Cond.selects RX4 yX4_comesBack yX4_comesBack, Cond.code yX4_comesBack cX4_comesBack 3 (some .boolean), Cond.methodLink RX4 144 yX6_findVictims, Cond.instanceMethod yX6_findVictims, Cond.selects RX6 yX6_findVictims yX6_findVictims, Cond.code yX6_findVictims cX6_findVictims 8 (some .int), Cond.fieldLink RX6 93 "KingTable$Rules" "victimCount" "I", Cond.fieldLink RX6 25 "KingTable$Rules" "takers" "[Z", Cond.fieldLink RX6 22 "KingTable$Rules" "sides" "[I", Cond.methodLink RX6 96 yX6_isPiece, Cond.methodLink RX6 61 yX8_fieldOf]
def wsX10_go_r4 : List Cond := [Cond.methodLink RX6 99 yX8_place, Cond.instanceMethod yX8_place, Cond.selects RX8 yX8_place yX8_place, Cond.code yX8_place cX8_place 4 none, Cond.methodLink RX6 67 yX0_beside, Cond.methodLink RX6 71 yX8_holderOf, Cond.methodLink RX6 103 yX6_isCaught, Cond.instanceMethod yX6_isCaught, Cond.selects RX6 yX6_isCaught yX6_isCaught, Cond.code yX6_isCaught cX6_isCaught 7 (some .boolean), Cond.fieldLink RX6 18 "KingTable$Rules" "kinds" "[I", Cond.methodLink RX6 114 yX6_isFoe, Cond.instanceMethod yX6_isFoe, Cond.selects RX6 yX6_isFoe yX6_isFoe, Cond.code yX6_isFoe cX6_isFoe 5 (some .boolean), Cond.methodLink RX6 107 yX6_addVictim, Cond.instanceMethod yX6_addVictim, Cond.selects RX6 yX6_addVictim yX6_addVictim, Cond.code yX6_addVictim cX6_addVictim 3 none, Cond.fieldLink RX6 33 "KingTable$Rules" "victims" "[I", Cond.methodLink RX4 148 yX3_hasSeen, Cond.instanceMethod yX3_hasSeen, Cond.selects RX3 yX3_hasSeen yX3_hasSeen, Cond.initialized RX3]
def wsX10_go_r5 : List Cond := [Cond.code yX3_hasSeen cX3_hasSeen 9 (some .boolean), Cond.fieldLink RX3 30 "KingTable$Log" "then" "[I", Cond.methodLink RX3 72 arraycopyName, Cond.native arraycopyName, Cond.static arraycopyName, Cond.initialized "java/lang/System", Cond.fieldLink RX3 33 "KingTable$Log" "done" "I", Cond.fieldLink RX3 21 "KingTable$Log" "takings" "[I", Cond.fieldLink RX3 9 "KingTable$Log" "movers" "[I", Cond.fieldLink RX3 15 "KingTable$Log" "froms" "[I", Cond.methodLink RX3 44 yX8_fieldOf, Cond.methodLink RX4 155 yX3_isFull, Cond.instanceMethod yX3_isFull, Cond.selects RX3 yX3_isFull yX3_isFull, Cond.code yX3_isFull cX3_isFull 1 (some .boolean), Cond.methodLink RX4 165 yX4_move, Cond.instanceMethod yX4_move, Cond.selects RX4 yX4_move yX4_move, Cond.code yX4_move cX4_move 5 (some .boolean), Cond.methodLink RX4 171 yX3_write, Cond.instanceMethod yX3_write, Cond.selects RX3 yX3_write yX3_write, Cond.code yX3_write cX3_write 6 none, Cond.fieldLink RX3 18 "KingTable$Log" "tos" "[I"]
def wsX10_go_r6 : List Cond := [Cond.fieldLink RX3 24 "KingTable$Log" "victims" "[I", Cond.fieldLink RX3 27 "KingTable$Log" "victimFields" "[I", Cond.fieldLink RX3 37 "KingTable$Log" "known" "I", Cond.methodLink RX3 56 Lib.Math.max.name, Cond.static Lib.Math.max.name, Cond.initialized "java/lang/Math", Cond.code Lib.Math.max.name Lib.Math.max.code 2 (some .int), Cond.methodLink RX3 40 yX3_isFull, Cond.methodLink RX4 74 yX8_place, Cond.methodLink RX4 85 yX4_settle, Cond.instanceMethod yX4_settle, Cond.selects RX4 yX4_settle yX4_settle, Cond.code yX4_settle cX4_settle 3 none, Cond.methodLink RX4 96 yX6_winner, Cond.instanceMethod yX6_winner, Cond.selects RX6 yX6_winner yX6_winner, Cond.code yX6_winner cX6_winner 3 (some .int), Cond.methodLink RX6 85 yX6_isGoal, Cond.instanceMethod yX6_isGoal, Cond.selects RX6 yX6_isGoal yX6_isGoal, Cond.code yX6_isGoal cX6_isGoal 2 (some .boolean), Cond.methodLink RX6 89 yX6_canGo, Cond.instanceMethod yX6_canGo, Cond.selects RX6 yX6_canGo yX6_canGo]
def wsX10_go_r7 : List Cond := [Cond.code yX6_canGo cX6_canGo 4 (some .boolean), Cond.methodLink RX6 78 yX6_room, Cond.instanceMethod yX6_room, Cond.selects RX6 yX6_room yX6_room, Cond.code yX6_room cX6_room 7 (some .int), Cond.methodLink RX6 74 yX6_bears, Cond.methodLink RX4 168 yX3_latestTakings, Cond.instanceMethod yX3_latestTakings, Cond.selects RX3 yX3_latestTakings yX3_latestTakings, Cond.code yX3_latestTakings cX3_latestTakings 1 (some .int)]
def wsX10_go : List Cond := .code yX10_go cX10_go 4 (some .int) :: ((wsX10_go_r1 ++ (wsX10_go_r2 ++ (wsX10_go_r3 ++ (wsX10_go_r4 ++ (wsX10_go_r5 ++ (wsX10_go_r6 ++ wsX10_go_r7)))))) ++ wsX100 ++ wsX40 ++ wsX30 ++ wsX60 ++ wsX80 ++ wsX10 ++ wsX00)
def wsX10_why_r1 : List Cond := [Cond.fieldLink RX10 37 "KingTable" "play" "LKingTable$Play;", Cond.methodLink RX10 98 yX4_reason, Cond.instanceMethod yX4_reason, Cond.selects RX4 yX4_reason yX4_reason, Cond.initialized RX4, Cond.code yX4_reason cX4_reason 7 (some .int), Cond.fieldLink RX4 25 "KingTable$Play" "state" "I", Cond.fieldLink RX4 33 "KingTable$Play" "rules" "LKingTable$Rules;", Cond.fieldLink RX4 12 "KingTable$Play" "now" "LKingTable$Stand;", Cond.fieldLink RX4 29 "KingTable$Play" "laws" "LKingTable$Laws;", Cond.methodLink RX4 106 yX6_isPiece, Cond.instanceMethod yX6_isPiece, Cond.selects RX6 yX6_isPiece yX6_isPiece, Cond.initialized RX6, Cond.code yX6_isPiece cX6_isPiece 2 (some .boolean), Cond.fieldLink RX6 40 "KingTable$Rules" "total" "I", Cond.methodLink RX4 103 yX8_fieldOf, Cond.instanceMethod yX8_fieldOf, Cond.selects RX8 yX8_fieldOf yX8_fieldOf, Cond.initialized RX8, Cond.code yX8_fieldOf cX8_fieldOf 2 (some .int), Cond.fieldLink RX8 9 "KingTable$Stand" "fields" "[I", Cond.methodLink RX4 120 yX0_away, Cond.instanceMethod yX0_away]
def wsX10_why_r2 : List Cond := [Cond.selects RX0 yX0_away yX0_away, Cond.initialized RX0, Cond.code yX0_away cX0_away 6 (some .int), Cond.methodLink RX0 47 yX0_beside, Cond.instanceMethod yX0_beside, Cond.selects RX0 yX0_beside yX0_beside, Cond.code yX0_beside cX0_beside 4 (some .int), Cond.fieldLink RX0 28 "KingTable$Ground" "size" "I", Cond.fieldLink RX0 19 "KingTable$Ground" "neighbours" "[I", Cond.methodLink RX4 124 yX6_isBeyondReach, Cond.instanceMethod yX6_isBeyondReach, Cond.selects RX6 yX6_isBeyondReach yX6_isBeyondReach, Cond.code yX6_isBeyondReach cX6_isBeyondReach 3 (some .boolean), Cond.fieldLink RX6 29 "KingTable$Rules" "king" "I", Cond.fieldLink RX6 36 "KingTable$Rules" "laws" "LKingTable$Laws;", Cond.methodLink RX4 128 yX4_barrier, Cond.instanceMethod yX4_barrier, Cond.selects RX4 yX4_barrier yX4_barrier, Cond.code yX4_barrier cX4_barrier 6 (some .int), Cond.methodLink RX4 134 yX0_beside, Cond.methodLink RX4 138 yX8_holderOf, Cond.instanceMethod yX8_holderOf, Cond.selects RX8 yX8_holderOf yX8_holderOf, Cond.code yX8_holderOf cX8_holderOf 2 (some .int)]
def wsX10_why_r3 : List Cond := [Cond.fieldLink RX8 15 "KingTable$Stand" "holders" "[I", Cond.methodLink RX4 141 yX6_bears, Cond.instanceMethod yX6_bears, Cond.selects RX6 yX6_bears yX6_bears, Cond.code yX6_bears cX6_bears 3 (some .boolean), Cond.fieldLink RX6 12 "KingTable$Rules" "ground" "LKingTable$Ground;", Cond.methodLink RX4 131 yX4_comesBack, Cond.instanceMethod yX4_comesBack, Cond.selects RX4 yX4_comesBack yX4_comesBack, Cond.code yX4_comesBack cX4_comesBack 3 (some .boolean), Cond.fieldLink RX4 21 "KingTable$Play" "log" "LKingTable$Log;", Cond.methodLink RX4 144 yX6_findVictims, Cond.instanceMethod yX6_findVictims, Cond.selects RX6 yX6_findVictims yX6_findVictims, Cond.code yX6_findVictims cX6_findVictims 8 (some .int), Cond.fieldLink RX6 93 "KingTable$Rules" "victimCount" "I", Cond.fieldLink RX6 25 "KingTable$Rules" "takers" "[Z", Cond.fieldLink RX6 22 "KingTable$Rules" "sides" "[I", Cond.methodLink RX6 96 yX6_isPiece, Cond.methodLink RX6 61 yX8_fieldOf, Cond.methodLink RX6 99 yX8_place, Cond.instanceMethod yX8_place, Cond.selects RX8 yX8_place yX8_place, Cond.code yX8_place cX8_place 4 none]
def wsX10_why_r4 : List Cond := [Cond.methodLink RX6 67 yX0_beside, Cond.methodLink RX6 71 yX8_holderOf, Cond.methodLink RX6 103 yX6_isCaught, Cond.instanceMethod yX6_isCaught, Cond.selects RX6 yX6_isCaught yX6_isCaught, Cond.code yX6_isCaught cX6_isCaught 7 (some .boolean), Cond.fieldLink RX6 18 "KingTable$Rules" "kinds" "[I", Cond.methodLink RX6 114 yX6_isFoe, Cond.instanceMethod yX6_isFoe, Cond.selects RX6 yX6_isFoe yX6_isFoe, Cond.code yX6_isFoe cX6_isFoe 5 (some .boolean), Cond.methodLink RX6 107 yX6_addVictim, Cond.instanceMethod yX6_addVictim, Cond.selects RX6 yX6_addVictim yX6_addVictim, Cond.code yX6_addVictim cX6_addVictim 3 none, Cond.fieldLink RX6 33 "KingTable$Rules" "victims" "[I", Cond.methodLink RX4 148 yX3_hasSeen, Cond.instanceMethod yX3_hasSeen, Cond.selects RX3 yX3_hasSeen yX3_hasSeen, Cond.initialized RX3, Cond.code yX3_hasSeen cX3_hasSeen 9 (some .boolean), Cond.fieldLink RX3 30 "KingTable$Log" "then" "[I", Cond.methodLink RX3 72 arraycopyName, Cond.native arraycopyName]
def wsX10_why_r5 : List Cond := [Cond.static arraycopyName, Cond.initialized "java/lang/System", Cond.fieldLink RX3 33 "KingTable$Log" "done" "I", Cond.fieldLink RX3 21 "KingTable$Log" "takings" "[I", Cond.fieldLink RX3 9 "KingTable$Log" "movers" "[I", Cond.fieldLink RX3 15 "KingTable$Log" "froms" "[I", Cond.methodLink RX3 44 yX8_fieldOf]
def wsX10_why : List Cond := .code yX10_why cX10_why 4 (some .int) :: ((wsX10_why_r1 ++ (wsX10_why_r2 ++ (wsX10_why_r3 ++ (wsX10_why_r4 ++ wsX10_why_r5)))) ++ wsX100 ++ wsX40 ++ wsX60 ++ wsX80 ++ wsX10 ++ wsX00 ++ wsX30)
def wsX10_about_r1 : List Cond := [Cond.fieldLink RX10 37 "KingTable" "play" "LKingTable$Play;", Cond.fieldLink RX10 28 "KingTable" "rules" "LKingTable$Rules;", Cond.fieldLink RX10 10 "KingTable" "told" "LKingTable$Told;", Cond.methodLink RX10 104 yX4_sideOnTurn, Cond.instanceMethod yX4_sideOnTurn, Cond.selects RX4 yX4_sideOnTurn yX4_sideOnTurn, Cond.initialized RX4, Cond.code yX4_sideOnTurn cX4_sideOnTurn 1 (some .int), Cond.fieldLink RX4 25 "KingTable$Play" "state" "I", Cond.fieldLink RX4 12 "KingTable$Play" "now" "LKingTable$Stand;", Cond.methodLink RX10 108 yX4_lost, Cond.instanceMethod yX4_lost, Cond.selects RX4 yX4_lost yX4_lost, Cond.code yX4_lost cX4_lost 3 (some .int), Cond.fieldLink RX4 33 "KingTable$Play" "rules" "LKingTable$Rules;", Cond.methodLink RX4 103 yX8_fieldOf, Cond.instanceMethod yX8_fieldOf, Cond.selects RX8 yX8_fieldOf yX8_fieldOf, Cond.initialized RX8, Cond.code yX8_fieldOf cX8_fieldOf 2 (some .int), Cond.fieldLink RX8 9 "KingTable$Stand" "fields" "[I", Cond.methodLink RX10 120 yX9_size, Cond.instanceMethod yX9_size, Cond.selects RX9 yX9_size yX9_size]
def wsX10_about_r2 : List Cond := [Cond.initialized RX9, Cond.code yX9_size cX9_size 1 (some .int), Cond.fieldLink RX9 15 "KingTable$Told" "lines" "I", Cond.fieldLink RX9 19 "KingTable$Told" "width" "I", Cond.methodLink RX10 129 yX3_latestTakings, Cond.instanceMethod yX3_latestTakings, Cond.selects RX3 yX3_latestTakings yX3_latestTakings, Cond.initialized RX3, Cond.code yX3_latestTakings cX3_latestTakings 1 (some .int), Cond.fieldLink RX3 33 "KingTable$Log" "done" "I", Cond.fieldLink RX3 21 "KingTable$Log" "takings" "[I"]
def wsX10_about : List Cond := .code yX10_about cX10_about 2 (some .int) :: ((wsX10_about_r1 ++ wsX10_about_r2) ++ wsX100 ++ wsX40 ++ wsX60 ++ wsX30 ++ wsX90 ++ wsX80)
def wsX10_piece_r1 : List Cond := [Cond.fieldLink RX10 28 "KingTable" "rules" "LKingTable$Rules;", Cond.fieldLink RX10 37 "KingTable" "play" "LKingTable$Play;", Cond.methodLink RX10 132 yX6_isPiece, Cond.instanceMethod yX6_isPiece, Cond.selects RX6 yX6_isPiece yX6_isPiece, Cond.initialized RX6, Cond.code yX6_isPiece cX6_isPiece 2 (some .boolean), Cond.fieldLink RX6 40 "KingTable$Rules" "total" "I", Cond.methodLink RX10 143 yX8_fieldOf, Cond.instanceMethod yX8_fieldOf, Cond.selects RX8 yX8_fieldOf yX8_fieldOf, Cond.initialized RX8, Cond.code yX8_fieldOf cX8_fieldOf 2 (some .int), Cond.fieldLink RX8 9 "KingTable$Stand" "fields" "[I", Cond.methodLink RX10 149 yX4_movesOf, Cond.instanceMethod yX4_movesOf, Cond.selects RX4 yX4_movesOf yX4_movesOf, Cond.initialized RX4, Cond.code yX4_movesOf cX4_movesOf 3 (some .int), Cond.fieldLink RX4 33 "KingTable$Play" "rules" "LKingTable$Rules;", Cond.fieldLink RX4 12 "KingTable$Play" "now" "LKingTable$Stand;", Cond.methodLink RX4 106 yX6_isPiece, Cond.methodLink RX4 113 yX4_sideOnTurn, Cond.instanceMethod yX4_sideOnTurn]
def wsX10_piece_r2 : List Cond := [Cond.selects RX4 yX4_sideOnTurn yX4_sideOnTurn, Cond.code yX4_sideOnTurn cX4_sideOnTurn 1 (some .int), Cond.fieldLink RX4 25 "KingTable$Play" "state" "I", Cond.methodLink RX4 116 yX6_movesOf, Cond.instanceMethod yX6_movesOf, Cond.selects RX6 yX6_movesOf yX6_movesOf, Cond.code yX6_movesOf cX6_movesOf 5 (some .int), Cond.methodLink RX6 78 yX6_room, Cond.instanceMethod yX6_room, Cond.selects RX6 yX6_room yX6_room, Cond.code yX6_room cX6_room 7 (some .int), Cond.fieldLink RX6 29 "KingTable$Rules" "king" "I", Cond.fieldLink RX6 36 "KingTable$Rules" "laws" "LKingTable$Laws;", Cond.fieldLink RX6 12 "KingTable$Rules" "ground" "LKingTable$Ground;", Cond.methodLink RX6 61 yX8_fieldOf, Cond.methodLink RX6 67 yX0_beside, Cond.instanceMethod yX0_beside, Cond.selects RX0 yX0_beside yX0_beside, Cond.initialized RX0, Cond.code yX0_beside cX0_beside 4 (some .int), Cond.fieldLink RX0 28 "KingTable$Ground" "size" "I", Cond.fieldLink RX0 19 "KingTable$Ground" "neighbours" "[I", Cond.methodLink RX6 71 yX8_holderOf, Cond.instanceMethod yX8_holderOf]
def wsX10_piece_r3 : List Cond := [Cond.selects RX8 yX8_holderOf yX8_holderOf, Cond.code yX8_holderOf cX8_holderOf 2 (some .int), Cond.fieldLink RX8 15 "KingTable$Stand" "holders" "[I", Cond.methodLink RX6 74 yX6_bears, Cond.instanceMethod yX6_bears, Cond.selects RX6 yX6_bears yX6_bears, Cond.code yX6_bears cX6_bears 3 (some .boolean)]
def wsX10_piece : List Cond := .code yX10_piece cX10_piece 3 (some .int) :: ((wsX10_piece_r1 ++ (wsX10_piece_r2 ++ wsX10_piece_r3)) ++ wsX100 ++ wsX60 ++ wsX40 ++ wsX80 ++ wsX10 ++ wsX00)
def wsX10_on : List Cond := .code yX10_on cX10_on 2 (some .int) :: ([.fieldLink RX10 37 "KingTable" "play" "LKingTable$Play;", .methodLink RX10 156 yX8_holderOf, .instanceMethod yX8_holderOf, .selects RX8 yX8_holderOf yX8_holderOf, .initialized RX8, .code yX8_holderOf cX8_holderOf 2 (some .int), .fieldLink RX8 15 "KingTable$Stand" "holders" "[I"] ++ wsX100 ++ wsX40 ++ wsX80)
def wsX10_field : List Cond := .code yX10_field cX10_field 2 (some .int) :: ([.fieldLink RX10 37 "KingTable" "play" "LKingTable$Play;", .fieldLink RX10 10 "KingTable" "told" "LKingTable$Told;", .fieldLink RX10 28 "KingTable" "rules" "LKingTable$Rules;", .methodLink RX10 64 yX4_isThere, .instanceMethod yX4_isThere, .selects RX4 yX4_isThere yX4_isThere, .initialized RX4, .code yX4_isThere cX4_isThere 1 (some .boolean), .fieldLink RX4 25 "KingTable$Play" "state" "I", .methodLink RX10 120 yX9_size, .instanceMethod yX9_size, .selects RX9 yX9_size yX9_size, .initialized RX9, .code yX9_size cX9_size 1 (some .int), .fieldLink RX9 15 "KingTable$Told" "lines" "I", .fieldLink RX9 19 "KingTable$Told" "width" "I"] ++ wsX100 ++ wsX60 ++ wsX00 ++ wsX40 ++ wsX90)
def wsX10_took : List Cond := .code yX10_took cX10_took 2 (some .int) :: ([.fieldLink RX10 37 "KingTable" "play" "LKingTable$Play;", .methodLink RX10 171 yX3_latestVictim, .instanceMethod yX3_latestVictim, .selects RX3 yX3_latestVictim yX3_latestVictim, .initialized RX3, .code yX3_latestVictim cX3_latestVictim 3 (some .int), .fieldLink RX3 33 "KingTable$Log" "done" "I", .fieldLink RX3 21 "KingTable$Log" "takings" "[I", .fieldLink RX3 24 "KingTable$Log" "victims" "[I"] ++ wsX100 ++ wsX40 ++ wsX30)
def wsX10_ring_r1 : List Cond := [Cond.fieldLink RX10 46 "KingTable" "hold" "LKingTable$Ring;", Cond.fieldLink RX10 37 "KingTable" "play" "LKingTable$Play;", Cond.methodLink RX10 174 yX5_holds, Cond.instanceMethod yX5_holds, Cond.selects RX5 yX5_holds yX5_holds, Cond.initialized RX5, Cond.code yX5_holds cX5_holds 8 (some .boolean), Cond.fieldLink RX5 19 "KingTable$Ring" "rules" "LKingTable$Rules;", Cond.fieldLink RX5 15 "KingTable$Ring" "seen" "[Z", Cond.fieldLink RX5 9 "KingTable$Ring" "reached" "[I", Cond.methodLink RX5 29 yX8_fieldOf, Cond.instanceMethod yX8_fieldOf, Cond.selects RX8 yX8_fieldOf yX8_fieldOf, Cond.initialized RX8, Cond.code yX8_fieldOf cX8_fieldOf 2 (some .int), Cond.fieldLink RX8 9 "KingTable$Stand" "fields" "[I", Cond.methodLink RX5 35 yX6_isGoal, Cond.instanceMethod yX6_isGoal, Cond.selects RX6 yX6_isGoal yX6_isGoal, Cond.initialized RX6, Cond.code yX6_isGoal cX6_isGoal 2 (some .boolean), Cond.fieldLink RX6 12 "KingTable$Rules" "ground" "LKingTable$Ground;", Cond.methodLink RX5 43 yX0_beside, Cond.instanceMethod yX0_beside]
def wsX10_ring_r2 : List Cond := [Cond.selects RX0 yX0_beside yX0_beside, Cond.initialized RX0, Cond.code yX0_beside cX0_beside 4 (some .int), Cond.fieldLink RX0 28 "KingTable$Ground" "size" "I", Cond.fieldLink RX0 19 "KingTable$Ground" "neighbours" "[I", Cond.methodLink RX5 49 yX5_isBarred, Cond.instanceMethod yX5_isBarred, Cond.selects RX5 yX5_isBarred yX5_isBarred, Cond.code yX5_isBarred cX5_isBarred 5 (some .boolean), Cond.methodLink RX5 53 yX8_holderOf, Cond.instanceMethod yX8_holderOf, Cond.selects RX8 yX8_holderOf yX8_holderOf, Cond.code yX8_holderOf cX8_holderOf 2 (some .int), Cond.fieldLink RX8 15 "KingTable$Stand" "holders" "[I", Cond.methodLink RX5 56 yX6_isPiece, Cond.instanceMethod yX6_isPiece, Cond.selects RX6 yX6_isPiece yX6_isPiece, Cond.code yX6_isPiece cX6_isPiece 2 (some .boolean), Cond.fieldLink RX6 40 "KingTable$Rules" "total" "I"]
def wsX10_ring : List Cond := .code yX10_ring cX10_ring 1 (some .boolean) :: ((wsX10_ring_r1 ++ wsX10_ring_r2) ++ wsX100 ++ wsX40 ++ wsX50 ++ wsX60 ++ wsX80 ++ wsX00)
def wsX10_needed_r1 : List Cond := [Cond.fieldLink RX10 28 "KingTable" "rules" "LKingTable$Rules;", Cond.fieldLink RX10 46 "KingTable" "hold" "LKingTable$Ring;", Cond.fieldLink RX10 37 "KingTable" "play" "LKingTable$Play;", Cond.methodLink RX10 132 yX6_isPiece, Cond.instanceMethod yX6_isPiece, Cond.selects RX6 yX6_isPiece yX6_isPiece, Cond.initialized RX6, Cond.code yX6_isPiece cX6_isPiece 2 (some .boolean), Cond.fieldLink RX6 40 "KingTable$Rules" "total" "I", Cond.methodLink RX10 174 yX5_holds, Cond.instanceMethod yX5_holds, Cond.selects RX5 yX5_holds yX5_holds, Cond.initialized RX5, Cond.code yX5_holds cX5_holds 8 (some .boolean), Cond.fieldLink RX5 19 "KingTable$Ring" "rules" "LKingTable$Rules;", Cond.fieldLink RX5 15 "KingTable$Ring" "seen" "[Z", Cond.fieldLink RX5 9 "KingTable$Ring" "reached" "[I", Cond.methodLink RX5 29 yX8_fieldOf, Cond.instanceMethod yX8_fieldOf, Cond.selects RX8 yX8_fieldOf yX8_fieldOf, Cond.initialized RX8, Cond.code yX8_fieldOf cX8_fieldOf 2 (some .int), Cond.fieldLink RX8 9 "KingTable$Stand" "fields" "[I", Cond.methodLink RX5 35 yX6_isGoal]
def wsX10_needed_r2 : List Cond := [Cond.instanceMethod yX6_isGoal, Cond.selects RX6 yX6_isGoal yX6_isGoal, Cond.code yX6_isGoal cX6_isGoal 2 (some .boolean), Cond.fieldLink RX6 12 "KingTable$Rules" "ground" "LKingTable$Ground;", Cond.methodLink RX5 43 yX0_beside, Cond.instanceMethod yX0_beside, Cond.selects RX0 yX0_beside yX0_beside, Cond.initialized RX0, Cond.code yX0_beside cX0_beside 4 (some .int), Cond.fieldLink RX0 28 "KingTable$Ground" "size" "I", Cond.fieldLink RX0 19 "KingTable$Ground" "neighbours" "[I", Cond.methodLink RX5 49 yX5_isBarred, Cond.instanceMethod yX5_isBarred, Cond.selects RX5 yX5_isBarred yX5_isBarred, Cond.code yX5_isBarred cX5_isBarred 5 (some .boolean), Cond.methodLink RX5 53 yX8_holderOf, Cond.instanceMethod yX8_holderOf, Cond.selects RX8 yX8_holderOf yX8_holderOf, Cond.code yX8_holderOf cX8_holderOf 2 (some .int), Cond.fieldLink RX8 15 "KingTable$Stand" "holders" "[I", Cond.methodLink RX5 56 yX6_isPiece]
def wsX10_needed : List Cond := .code yX10_needed cX10_needed 2 (some .boolean) :: ((wsX10_needed_r1 ++ wsX10_needed_r2) ++ wsX100 ++ wsX60 ++ wsX40 ++ wsX50 ++ wsX80 ++ wsX00)
def wsX10_back_r1 : List Cond := [Cond.fieldLink RX10 37 "KingTable" "play" "LKingTable$Play;", Cond.methodLink RX10 181 yX4_takeBack, Cond.instanceMethod yX4_takeBack, Cond.selects RX4 yX4_takeBack yX4_takeBack, Cond.initialized RX4, Cond.code yX4_takeBack cX4_takeBack 1 (some .boolean), Cond.fieldLink RX4 21 "KingTable$Play" "log" "LKingTable$Log;", Cond.fieldLink RX4 12 "KingTable$Play" "now" "LKingTable$Stand;", Cond.fieldLink RX4 25 "KingTable$Play" "state" "I", Cond.methodLink RX4 181 yX3_unwind, Cond.instanceMethod yX3_unwind, Cond.selects RX3 yX3_unwind yX3_unwind, Cond.initialized RX3, Cond.code yX3_unwind cX3_unwind 3 none, Cond.fieldLink RX3 33 "KingTable$Log" "done" "I", Cond.fieldLink RX3 9 "KingTable$Log" "movers" "[I", Cond.fieldLink RX3 15 "KingTable$Log" "froms" "[I", Cond.fieldLink RX3 21 "KingTable$Log" "takings" "[I", Cond.fieldLink RX3 24 "KingTable$Log" "victims" "[I", Cond.fieldLink RX3 27 "KingTable$Log" "victimFields" "[I", Cond.methodLink RX3 62 yX8_place, Cond.instanceMethod yX8_place, Cond.selects RX8 yX8_place yX8_place, Cond.initialized RX8]
def wsX10_back_r2 : List Cond := [Cond.code yX8_place cX8_place 4 none, Cond.fieldLink RX8 9 "KingTable$Stand" "fields" "[I", Cond.fieldLink RX8 15 "KingTable$Stand" "holders" "[I"]
def wsX10_back : List Cond := .code yX10_back cX10_back 1 (some .boolean) :: ((wsX10_back_r1 ++ wsX10_back_r2) ++ wsX100 ++ wsX40 ++ wsX30 ++ wsX80)
def wsX10_again_r1 : List Cond := [Cond.fieldLink RX10 37 "KingTable" "play" "LKingTable$Play;", Cond.methodLink RX10 184 yX4_redo, Cond.instanceMethod yX4_redo, Cond.selects RX4 yX4_redo yX4_redo, Cond.initialized RX4, Cond.code yX4_redo cX4_redo 1 (some .boolean), Cond.fieldLink RX4 21 "KingTable$Play" "log" "LKingTable$Log;", Cond.methodLink RX4 155 yX3_isFull, Cond.instanceMethod yX3_isFull, Cond.selects RX3 yX3_isFull yX3_isFull, Cond.initialized RX3, Cond.code yX3_isFull cX3_isFull 1 (some .boolean), Cond.fieldLink RX3 33 "KingTable$Log" "done" "I", Cond.methodLink RX4 165 yX4_move, Cond.instanceMethod yX4_move, Cond.selects RX4 yX4_move yX4_move, Cond.code yX4_move cX4_move 5 (some .boolean), Cond.fieldLink RX4 12 "KingTable$Play" "now" "LKingTable$Stand;", Cond.fieldLink RX4 33 "KingTable$Play" "rules" "LKingTable$Rules;", Cond.methodLink RX4 131 yX4_comesBack, Cond.instanceMethod yX4_comesBack, Cond.selects RX4 yX4_comesBack yX4_comesBack, Cond.code yX4_comesBack cX4_comesBack 3 (some .boolean), Cond.methodLink RX4 144 yX6_findVictims]
def wsX10_again_r2 : List Cond := [Cond.instanceMethod yX6_findVictims, Cond.selects RX6 yX6_findVictims yX6_findVictims, Cond.initialized RX6, Cond.code yX6_findVictims cX6_findVictims 8 (some .int), Cond.fieldLink RX6 93 "KingTable$Rules" "victimCount" "I", Cond.fieldLink RX6 25 "KingTable$Rules" "takers" "[Z", Cond.fieldLink RX6 12 "KingTable$Rules" "ground" "LKingTable$Ground;", Cond.fieldLink RX6 22 "KingTable$Rules" "sides" "[I", Cond.methodLink RX6 96 yX6_isPiece, Cond.instanceMethod yX6_isPiece, Cond.selects RX6 yX6_isPiece yX6_isPiece, Cond.code yX6_isPiece cX6_isPiece 2 (some .boolean), Cond.fieldLink RX6 40 "KingTable$Rules" "total" "I", Cond.methodLink RX6 61 yX8_fieldOf, Cond.instanceMethod yX8_fieldOf, Cond.selects RX8 yX8_fieldOf yX8_fieldOf, Cond.initialized RX8, Cond.code yX8_fieldOf cX8_fieldOf 2 (some .int), Cond.fieldLink RX8 9 "KingTable$Stand" "fields" "[I", Cond.methodLink RX6 99 yX8_place, Cond.instanceMethod yX8_place, Cond.selects RX8 yX8_place yX8_place, Cond.code yX8_place cX8_place 4 none, Cond.fieldLink RX8 15 "KingTable$Stand" "holders" "[I"]
def wsX10_again_r3 : List Cond := [Cond.methodLink RX6 67 yX0_beside, Cond.instanceMethod yX0_beside, Cond.selects RX0 yX0_beside yX0_beside, Cond.initialized RX0, Cond.code yX0_beside cX0_beside 4 (some .int), Cond.fieldLink RX0 28 "KingTable$Ground" "size" "I", Cond.fieldLink RX0 19 "KingTable$Ground" "neighbours" "[I", Cond.methodLink RX6 71 yX8_holderOf, Cond.instanceMethod yX8_holderOf, Cond.selects RX8 yX8_holderOf yX8_holderOf, Cond.code yX8_holderOf cX8_holderOf 2 (some .int), Cond.methodLink RX6 103 yX6_isCaught, Cond.instanceMethod yX6_isCaught, Cond.selects RX6 yX6_isCaught yX6_isCaught, Cond.code yX6_isCaught cX6_isCaught 7 (some .boolean), Cond.fieldLink RX6 18 "KingTable$Rules" "kinds" "[I", Cond.fieldLink RX6 29 "KingTable$Rules" "king" "I", Cond.fieldLink RX6 36 "KingTable$Rules" "laws" "LKingTable$Laws;", Cond.methodLink RX6 114 yX6_isFoe, Cond.instanceMethod yX6_isFoe, Cond.selects RX6 yX6_isFoe yX6_isFoe, Cond.code yX6_isFoe cX6_isFoe 5 (some .boolean), Cond.methodLink RX6 107 yX6_addVictim, Cond.instanceMethod yX6_addVictim]
def wsX10_again_r4 : List Cond := [Cond.selects RX6 yX6_addVictim yX6_addVictim, Cond.code yX6_addVictim cX6_addVictim 3 none, Cond.fieldLink RX6 33 "KingTable$Rules" "victims" "[I", Cond.methodLink RX4 148 yX3_hasSeen, Cond.instanceMethod yX3_hasSeen, Cond.selects RX3 yX3_hasSeen yX3_hasSeen, Cond.code yX3_hasSeen cX3_hasSeen 9 (some .boolean), Cond.fieldLink RX3 30 "KingTable$Log" "then" "[I", Cond.methodLink RX3 72 arraycopyName, Cond.native arraycopyName, Cond.static arraycopyName, Cond.initialized "java/lang/System", Cond.fieldLink RX3 21 "KingTable$Log" "takings" "[I", Cond.fieldLink RX3 9 "KingTable$Log" "movers" "[I", Cond.fieldLink RX3 15 "KingTable$Log" "froms" "[I", Cond.methodLink RX3 44 yX8_fieldOf, Cond.methodLink RX4 171 yX3_write, Cond.instanceMethod yX3_write, Cond.selects RX3 yX3_write yX3_write, Cond.code yX3_write cX3_write 6 none, Cond.fieldLink RX3 18 "KingTable$Log" "tos" "[I", Cond.fieldLink RX3 24 "KingTable$Log" "victims" "[I", Cond.fieldLink RX3 27 "KingTable$Log" "victimFields" "[I", Cond.fieldLink RX3 37 "KingTable$Log" "known" "I"]
def wsX10_again_r5 : List Cond := [Cond.methodLink RX3 56 Lib.Math.max.name, Cond.static Lib.Math.max.name, Cond.initialized "java/lang/Math", Cond.code Lib.Math.max.name Lib.Math.max.code 2 (some .int), Cond.methodLink RX3 40 yX3_isFull, Cond.methodLink RX4 74 yX8_place, Cond.methodLink RX4 85 yX4_settle, Cond.instanceMethod yX4_settle, Cond.selects RX4 yX4_settle yX4_settle, Cond.code yX4_settle cX4_settle 3 none, Cond.fieldLink RX4 25 "KingTable$Play" "state" "I", Cond.fieldLink RX4 29 "KingTable$Play" "laws" "LKingTable$Laws;", Cond.methodLink RX4 96 yX6_winner, Cond.instanceMethod yX6_winner, Cond.selects RX6 yX6_winner yX6_winner, Cond.code yX6_winner cX6_winner 3 (some .int), Cond.methodLink RX6 85 yX6_isGoal, Cond.instanceMethod yX6_isGoal, Cond.selects RX6 yX6_isGoal yX6_isGoal, Cond.code yX6_isGoal cX6_isGoal 2 (some .boolean), Cond.methodLink RX6 89 yX6_canGo, Cond.instanceMethod yX6_canGo, Cond.selects RX6 yX6_canGo yX6_canGo, Cond.code yX6_canGo cX6_canGo 4 (some .boolean)]
def wsX10_again_r6 : List Cond := [Cond.methodLink RX6 78 yX6_room, Cond.instanceMethod yX6_room, Cond.selects RX6 yX6_room yX6_room, Cond.code yX6_room cX6_room 7 (some .int), Cond.methodLink RX6 74 yX6_bears, Cond.instanceMethod yX6_bears, Cond.selects RX6 yX6_bears yX6_bears, Cond.code yX6_bears cX6_bears 3 (some .boolean)]
def wsX10_again : List Cond := .code yX10_again cX10_again 1 (some .boolean) :: ((wsX10_again_r1 ++ (wsX10_again_r2 ++ (wsX10_again_r3 ++ (wsX10_again_r4 ++ (wsX10_again_r5 ++ wsX10_again_r6))))) ++ wsX100 ++ wsX40 ++ wsX30 ++ wsX60 ++ wsX80 ++ wsX00 ++ wsX10)
def wsX10_solve_r1 : List Cond := [Cond.fieldLink RX10 37 "KingTable" "play" "LKingTable$Play;", Cond.fieldLink RX10 53 "KingTable" "solver" "LKingTable$Solver;", Cond.methodLink RX10 64 yX4_isThere, Cond.instanceMethod yX4_isThere, Cond.selects RX4 yX4_isThere yX4_isThere, Cond.initialized RX4, Cond.code yX4_isThere cX4_isThere 1 (some .boolean), Cond.fieldLink RX4 25 "KingTable$Play" "state" "I", Cond.methodLink RX10 187 yX7_solveAll, Cond.instanceMethod yX7_solveAll, Cond.selects RX7 yX7_solveAll yX7_solveAll, Cond.initialized RX7, Cond.code yX7_solveAll cX7_solveAll 2 (some .int), Cond.fieldLink RX7 54 "KingTable$Solver" "solved" "Z", Cond.fieldLink RX7 58 "KingTable$Solver" "counted" "I", Cond.fieldLink RX7 66 "KingTable$Solver" "places" "I", Cond.fieldLink RX7 21 "KingTable$Solver" "links" "LKingTable$Links;", Cond.fieldLink RX7 50 "KingTable$Solver" "rules" "LKingTable$Rules;", Cond.fieldLink RX7 12 "KingTable$Solver" "trial" "LKingTable$Stand;", Cond.fieldLink RX7 29 "KingTable$Solver" "digits" "[I", Cond.fieldLink RX7 100 "KingTable$Solver" "queued" "I", Cond.methodLink RX7 62 yX7_measure, Cond.instanceMethod yX7_measure, Cond.selects RX7 yX7_measure yX7_measure]
def wsX10_solve_r2 : List Cond := [Cond.code yX7_measure cX7_measure 3 (some .boolean), Cond.fieldLink RX7 25 "KingTable$Solver" "powers" "[I", Cond.methodLink RX7 69 yX7_makeRoom, Cond.instanceMethod yX7_makeRoom, Cond.selects RX7 yX7_makeRoom yX7_makeRoom, Cond.code yX7_makeRoom cX7_makeRoom 3 none, Cond.fieldLink RX7 38 "KingTable$Solver" "worths" "[I", Cond.arrayClass .int, Cond.fieldLink RX7 41 "KingTable$Solver" "deeps" "[I", Cond.fieldLink RX7 44 "KingTable$Solver" "open" "[I", Cond.fieldLink RX7 47 "KingTable$Solver" "queue" "[I", Cond.methodLink RX7 118 yX2_roomFor, Cond.static yX2_roomFor, Cond.initialized RX2, Cond.code yX2_roomFor cX2_roomFor 3 (some .int), Cond.methodLink RX2 36 Lib.Math.min.name, Cond.static Lib.Math.min.name, Cond.initialized "java/lang/Math", Cond.code Lib.Math.min.name Lib.Math.min.code 2 (some .int), Cond.methodLink RX2 42 Lib.Math.max.name, Cond.static Lib.Math.max.name, Cond.code Lib.Math.max.name Lib.Math.max.code 2 (some .int), Cond.methodLink RX7 87 yX2_renew, Cond.instanceMethod yX2_renew]
def wsX10_solve_r3 : List Cond := [Cond.selects RX2 yX2_renew yX2_renew, Cond.code yX2_renew cX2_renew 4 none, Cond.fieldLink RX2 9 "KingTable$Links" "heads" "[I", Cond.fieldLink RX2 15 "KingTable$Links" "sources" "[I", Cond.constant RX2 25 (118300), Cond.fieldLink RX2 18 "KingTable$Links" "nexts" "[I", Cond.fieldLink RX2 32 "KingTable$Links" "used" "I", Cond.methodLink RX2 21 yX2_roomFor, Cond.methodLink RX2 26 yJ7_fill_53178, Cond.static yJ7_fill_53178, Cond.initialized RJ7, Cond.code yJ7_fill_53178 cJ7_fill_53178 4 none, Cond.methodLink RX7 91 yX8_clear, Cond.instanceMethod yX8_clear, Cond.selects RX8 yX8_clear yX8_clear, Cond.initialized RX8, Cond.code yX8_clear cX8_clear 1 none, Cond.fieldLink RX8 9 "KingTable$Stand" "fields" "[I", Cond.fieldLink RX8 15 "KingTable$Stand" "holders" "[I", Cond.fieldLink RX8 27 "KingTable$Stand" "turn" "I", Cond.methodLink RX8 21 yJ7_fill_53178, Cond.methodLink RX7 94 yJ7_fill_53178, Cond.methodLink RX7 103 yX7_enter, Cond.instanceMethod yX7_enter]
def wsX10_solve_r4 : List Cond := [Cond.selects RX7 yX7_enter yX7_enter, Cond.code yX7_enter cX7_enter 6 none, Cond.methodLink RX7 122 yX7_setUp, Cond.instanceMethod yX7_setUp, Cond.selects RX7 yX7_setUp yX7_setUp, Cond.code yX7_setUp cX7_setUp 3 (some .boolean), Cond.methodLink RX7 139 yX8_place, Cond.instanceMethod yX8_place, Cond.selects RX8 yX8_place yX8_place, Cond.code yX8_place cX8_place 4 none, Cond.methodLink RX7 142 yX8_holderOf, Cond.instanceMethod yX8_holderOf, Cond.selects RX8 yX8_holderOf yX8_holderOf, Cond.code yX8_holderOf cX8_holderOf 2 (some .int), Cond.methodLink RX7 146 yX6_bears, Cond.instanceMethod yX6_bears, Cond.selects RX6 yX6_bears yX6_bears, Cond.initialized RX6, Cond.code yX6_bears cX6_bears 3 (some .boolean), Cond.fieldLink RX6 29 "KingTable$Rules" "king" "I", Cond.fieldLink RX6 12 "KingTable$Rules" "ground" "LKingTable$Ground;", Cond.methodLink RX7 128 yX6_winner, Cond.instanceMethod yX6_winner, Cond.selects RX6 yX6_winner yX6_winner]
def wsX10_solve_r5 : List Cond := [Cond.code yX6_winner cX6_winner 3 (some .int), Cond.methodLink RX6 61 yX8_fieldOf, Cond.instanceMethod yX8_fieldOf, Cond.selects RX8 yX8_fieldOf yX8_fieldOf, Cond.code yX8_fieldOf cX8_fieldOf 2 (some .int), Cond.methodLink RX6 85 yX6_isGoal, Cond.instanceMethod yX6_isGoal, Cond.selects RX6 yX6_isGoal yX6_isGoal, Cond.code yX6_isGoal cX6_isGoal 2 (some .boolean), Cond.methodLink RX6 89 yX6_canGo, Cond.instanceMethod yX6_canGo, Cond.selects RX6 yX6_canGo yX6_canGo, Cond.code yX6_canGo cX6_canGo 4 (some .boolean), Cond.fieldLink RX6 40 "KingTable$Rules" "total" "I", Cond.fieldLink RX6 22 "KingTable$Rules" "sides" "[I", Cond.methodLink RX6 78 yX6_room, Cond.instanceMethod yX6_room, Cond.selects RX6 yX6_room yX6_room, Cond.code yX6_room cX6_room 7 (some .int), Cond.fieldLink RX6 36 "KingTable$Rules" "laws" "LKingTable$Laws;", Cond.methodLink RX6 67 yX0_beside, Cond.instanceMethod yX0_beside, Cond.selects RX0 yX0_beside yX0_beside, Cond.initialized RX0]
def wsX10_solve_r6 : List Cond := [Cond.code yX0_beside cX0_beside 4 (some .int), Cond.fieldLink RX0 28 "KingTable$Ground" "size" "I", Cond.fieldLink RX0 19 "KingTable$Ground" "neighbours" "[I", Cond.methodLink RX6 71 yX8_holderOf, Cond.methodLink RX6 74 yX6_bears, Cond.methodLink RX7 132 yX7_decide, Cond.instanceMethod yX7_decide, Cond.selects RX7 yX7_decide yX7_decide, Cond.code yX7_decide cX7_decide 4 none, Cond.methodLink RX7 136 yX7_linkMoves, Cond.instanceMethod yX7_linkMoves, Cond.selects RX7 yX7_linkMoves yX7_linkMoves, Cond.code yX7_linkMoves cX7_linkMoves 7 none, Cond.methodLink RX7 153 yX6_room, Cond.methodLink RX7 157 yX8_fieldOf, Cond.methodLink RX7 160 yX0_beside, Cond.methodLink RX7 164 yX6_findVictims, Cond.instanceMethod yX6_findVictims, Cond.selects RX6 yX6_findVictims yX6_findVictims, Cond.code yX6_findVictims cX6_findVictims 8 (some .int), Cond.fieldLink RX6 93 "KingTable$Rules" "victimCount" "I", Cond.fieldLink RX6 25 "KingTable$Rules" "takers" "[Z", Cond.methodLink RX6 96 yX6_isPiece, Cond.instanceMethod yX6_isPiece]
def wsX10_solve_r7 : List Cond := [Cond.selects RX6 yX6_isPiece yX6_isPiece, Cond.code yX6_isPiece cX6_isPiece 2 (some .boolean), Cond.methodLink RX6 99 yX8_place, Cond.methodLink RX6 103 yX6_isCaught, Cond.instanceMethod yX6_isCaught, Cond.selects RX6 yX6_isCaught yX6_isCaught, Cond.code yX6_isCaught cX6_isCaught 7 (some .boolean), Cond.fieldLink RX6 18 "KingTable$Rules" "kinds" "[I", Cond.methodLink RX6 114 yX6_isFoe, Cond.instanceMethod yX6_isFoe, Cond.selects RX6 yX6_isFoe yX6_isFoe, Cond.code yX6_isFoe cX6_isFoe 5 (some .boolean), Cond.methodLink RX6 107 yX6_addVictim, Cond.instanceMethod yX6_addVictim, Cond.selects RX6 yX6_addVictim yX6_addVictim, Cond.code yX6_addVictim cX6_addVictim 3 none, Cond.fieldLink RX6 33 "KingTable$Rules" "victims" "[I", Cond.methodLink RX7 167 yX7_behindMove, Cond.instanceMethod yX7_behindMove, Cond.selects RX7 yX7_behindMove yX7_behindMove, Cond.code yX7_behindMove cX7_behindMove 8 (some .int), Cond.methodLink RX7 171 yX2_add, Cond.instanceMethod yX2_add, Cond.selects RX2 yX2_add yX2_add]
def wsX10_solve_r8 : List Cond := [Cond.code yX2_add cX2_add 3 none, Cond.methodLink RX7 106 yX7_nextDigits, Cond.instanceMethod yX7_nextDigits, Cond.selects RX7 yX7_nextDigits yX7_nextDigits, Cond.code yX7_nextDigits cX7_nextDigits 2 none, Cond.methodLink RX7 109 yX7_spread, Cond.instanceMethod yX7_spread, Cond.selects RX7 yX7_spread yX7_spread, Cond.code yX7_spread cX7_spread 5 none, Cond.methodLink RX7 189 yX7_inform, Cond.instanceMethod yX7_inform, Cond.selects RX7 yX7_inform yX7_inform, Cond.code yX7_inform cX7_inform 4 none, Cond.methodLink RX7 112 yX7_tallyUp, Cond.instanceMethod yX7_tallyUp, Cond.selects RX7 yX7_tallyUp yX7_tallyUp, Cond.code yX7_tallyUp cX7_tallyUp 3 none, Cond.fieldLink RX7 32 "KingTable$Solver" "tallies" "[I", Cond.fieldLink RX7 35 "KingTable$Solver" "greatest" "[I", Cond.methodLink RX7 195 Lib.Math.max.name]
def wsX10_solve : List Cond := .code yX10_solve cX10_solve 1 (some .int) :: ((wsX10_solve_r1 ++ (wsX10_solve_r2 ++ (wsX10_solve_r3 ++ (wsX10_solve_r4 ++ (wsX10_solve_r5 ++ (wsX10_solve_r6 ++ (wsX10_solve_r7 ++ wsX10_solve_r8))))))) ++ wsX100 ++ wsX40 ++ wsX70 ++ wsX60 ++ wsX00 ++ wsX20 ++ wsX80 ++ wsX10)
def wsX10_worth : List Cond := .code yX10_worth cX10_worth 1 (some .int) :: ([.fieldLink RX10 53 "KingTable" "solver" "LKingTable$Solver;", .fieldLink RX10 37 "KingTable" "play" "LKingTable$Play;", .methodLink RX10 190 yX7_worthOf, .instanceMethod yX7_worthOf, .selects RX7 yX7_worthOf yX7_worthOf, .initialized RX7, .code yX7_worthOf cX7_worthOf 3 (some .int), .fieldLink RX7 38 "KingTable$Solver" "worths" "[I", .methodLink RX7 200 yX7_indexOf, .instanceMethod yX7_indexOf, .selects RX7 yX7_indexOf yX7_indexOf, .code yX7_indexOf cX7_indexOf 5 (some .int), .fieldLink RX7 54 "KingTable$Solver" "solved" "Z", .fieldLink RX7 50 "KingTable$Solver" "rules" "LKingTable$Rules;", .fieldLink RX7 25 "KingTable$Solver" "powers" "[I", .fieldLink RX7 66 "KingTable$Solver" "places" "I", .methodLink RX7 157 yX8_fieldOf, .instanceMethod yX8_fieldOf, .selects RX8 yX8_fieldOf yX8_fieldOf, .initialized RX8, .code yX8_fieldOf cX8_fieldOf 2 (some .int), .fieldLink RX8 9 "KingTable$Stand" "fields" "[I"] ++ wsX100 ++ wsX40 ++ wsX70 ++ wsX60 ++ wsX00 ++ wsX80)
def wsX10_deep : List Cond := .code yX10_deep cX10_deep 1 (some .int) :: ([.fieldLink RX10 53 "KingTable" "solver" "LKingTable$Solver;", .fieldLink RX10 37 "KingTable" "play" "LKingTable$Play;", .methodLink RX10 194 yX7_deepOf, .instanceMethod yX7_deepOf, .selects RX7 yX7_deepOf yX7_deepOf, .initialized RX7, .code yX7_deepOf cX7_deepOf 3 (some .int), .fieldLink RX7 41 "KingTable$Solver" "deeps" "[I", .methodLink RX7 200 yX7_indexOf, .instanceMethod yX7_indexOf, .selects RX7 yX7_indexOf yX7_indexOf, .code yX7_indexOf cX7_indexOf 5 (some .int), .fieldLink RX7 54 "KingTable$Solver" "solved" "Z", .fieldLink RX7 50 "KingTable$Solver" "rules" "LKingTable$Rules;", .fieldLink RX7 25 "KingTable$Solver" "powers" "[I", .fieldLink RX7 66 "KingTable$Solver" "places" "I", .methodLink RX7 157 yX8_fieldOf, .instanceMethod yX8_fieldOf, .selects RX8 yX8_fieldOf yX8_fieldOf, .initialized RX8, .code yX8_fieldOf cX8_fieldOf 2 (some .int), .fieldLink RX8 9 "KingTable$Stand" "fields" "[I"] ++ wsX100 ++ wsX40 ++ wsX70 ++ wsX60 ++ wsX00 ++ wsX80)
def wsX10_best_r1 : List Cond := [Cond.fieldLink RX10 53 "KingTable" "solver" "LKingTable$Solver;", Cond.fieldLink RX10 37 "KingTable" "play" "LKingTable$Play;", Cond.methodLink RX10 197 yX7_bestMove, Cond.instanceMethod yX7_bestMove, Cond.selects RX7 yX7_bestMove yX7_bestMove, Cond.initialized RX7, Cond.code yX7_bestMove cX7_bestMove 8 (some .int), Cond.fieldLink RX7 38 "KingTable$Solver" "worths" "[I", Cond.fieldLink RX7 41 "KingTable$Solver" "deeps" "[I", Cond.fieldLink RX7 50 "KingTable$Solver" "rules" "LKingTable$Rules;", Cond.methodLink RX7 200 yX7_indexOf, Cond.instanceMethod yX7_indexOf, Cond.selects RX7 yX7_indexOf yX7_indexOf, Cond.code yX7_indexOf cX7_indexOf 5 (some .int), Cond.fieldLink RX7 54 "KingTable$Solver" "solved" "Z", Cond.fieldLink RX7 25 "KingTable$Solver" "powers" "[I", Cond.fieldLink RX7 66 "KingTable$Solver" "places" "I", Cond.methodLink RX7 157 yX8_fieldOf, Cond.instanceMethod yX8_fieldOf, Cond.selects RX8 yX8_fieldOf yX8_fieldOf, Cond.initialized RX8, Cond.code yX8_fieldOf cX8_fieldOf 2 (some .int), Cond.fieldLink RX8 9 "KingTable$Stand" "fields" "[I", Cond.methodLink RX7 203 yX7_deepKept]
def wsX10_best_r2 : List Cond := [Cond.instanceMethod yX7_deepKept, Cond.selects RX7 yX7_deepKept yX7_deepKept, Cond.code yX7_deepKept cX7_deepKept 10 (some .int), Cond.methodLink RX7 206 yX6_isPiece, Cond.instanceMethod yX6_isPiece, Cond.selects RX6 yX6_isPiece yX6_isPiece, Cond.initialized RX6, Cond.code yX6_isPiece cX6_isPiece 2 (some .boolean), Cond.fieldLink RX6 40 "KingTable$Rules" "total" "I", Cond.methodLink RX7 153 yX6_room, Cond.instanceMethod yX6_room, Cond.selects RX6 yX6_room yX6_room, Cond.code yX6_room cX6_room 7 (some .int), Cond.fieldLink RX6 29 "KingTable$Rules" "king" "I", Cond.fieldLink RX6 36 "KingTable$Rules" "laws" "LKingTable$Laws;", Cond.fieldLink RX6 12 "KingTable$Rules" "ground" "LKingTable$Ground;", Cond.methodLink RX6 61 yX8_fieldOf, Cond.methodLink RX6 67 yX0_beside, Cond.instanceMethod yX0_beside, Cond.selects RX0 yX0_beside yX0_beside, Cond.initialized RX0, Cond.code yX0_beside cX0_beside 4 (some .int), Cond.fieldLink RX0 28 "KingTable$Ground" "size" "I", Cond.fieldLink RX0 19 "KingTable$Ground" "neighbours" "[I"]
def wsX10_best_r3 : List Cond := [Cond.methodLink RX6 71 yX8_holderOf, Cond.instanceMethod yX8_holderOf, Cond.selects RX8 yX8_holderOf yX8_holderOf, Cond.code yX8_holderOf cX8_holderOf 2 (some .int), Cond.fieldLink RX8 15 "KingTable$Stand" "holders" "[I", Cond.methodLink RX6 74 yX6_bears, Cond.instanceMethod yX6_bears, Cond.selects RX6 yX6_bears yX6_bears, Cond.code yX6_bears cX6_bears 3 (some .boolean), Cond.methodLink RX7 210 yX0_away, Cond.instanceMethod yX0_away, Cond.selects RX0 yX0_away yX0_away, Cond.code yX0_away cX0_away 6 (some .int), Cond.methodLink RX0 47 yX0_beside, Cond.methodLink RX7 164 yX6_findVictims, Cond.instanceMethod yX6_findVictims, Cond.selects RX6 yX6_findVictims yX6_findVictims, Cond.code yX6_findVictims cX6_findVictims 8 (some .int), Cond.fieldLink RX6 93 "KingTable$Rules" "victimCount" "I", Cond.fieldLink RX6 25 "KingTable$Rules" "takers" "[Z", Cond.fieldLink RX6 22 "KingTable$Rules" "sides" "[I", Cond.methodLink RX6 96 yX6_isPiece, Cond.methodLink RX6 99 yX8_place, Cond.instanceMethod yX8_place]
def wsX10_best_r4 : List Cond := [Cond.selects RX8 yX8_place yX8_place, Cond.code yX8_place cX8_place 4 none, Cond.methodLink RX6 103 yX6_isCaught, Cond.instanceMethod yX6_isCaught, Cond.selects RX6 yX6_isCaught yX6_isCaught, Cond.code yX6_isCaught cX6_isCaught 7 (some .boolean), Cond.fieldLink RX6 18 "KingTable$Rules" "kinds" "[I", Cond.methodLink RX6 114 yX6_isFoe, Cond.instanceMethod yX6_isFoe, Cond.selects RX6 yX6_isFoe yX6_isFoe, Cond.code yX6_isFoe cX6_isFoe 5 (some .boolean), Cond.methodLink RX6 107 yX6_addVictim, Cond.instanceMethod yX6_addVictim, Cond.selects RX6 yX6_addVictim yX6_addVictim, Cond.code yX6_addVictim cX6_addVictim 3 none, Cond.fieldLink RX6 33 "KingTable$Rules" "victims" "[I", Cond.methodLink RX7 167 yX7_behindMove, Cond.instanceMethod yX7_behindMove, Cond.selects RX7 yX7_behindMove yX7_behindMove, Cond.code yX7_behindMove cX7_behindMove 8 (some .int)]
def wsX10_best : List Cond := .code yX10_best cX10_best 1 (some .int) :: ((wsX10_best_r1 ++ (wsX10_best_r2 ++ (wsX10_best_r3 ++ wsX10_best_r4))) ++ wsX100 ++ wsX40 ++ wsX70 ++ wsX60 ++ wsX80 ++ wsX00 ++ wsX10)
def wsX10_count : List Cond := .code yX10_count cX10_count 3 (some .int) :: ([.fieldLink RX10 53 "KingTable" "solver" "LKingTable$Solver;", .methodLink RX10 200 yX7_tally, .instanceMethod yX7_tally, .selects RX7 yX7_tally yX7_tally, .initialized RX7, .code yX7_tally cX7_tally 3 (some .int), .fieldLink RX7 54 "KingTable$Solver" "solved" "Z", .fieldLink RX7 32 "KingTable$Solver" "tallies" "[I", .static yX10_isSide, .initialized RX10, .code yX10_isSide cX10_isSide 1 (some .boolean)] ++ wsX100 ++ wsX70)
def wsX10_most : List Cond := .code yX10_most cX10_most 2 (some .int) :: ([.fieldLink RX10 53 "KingTable" "solver" "LKingTable$Solver;", .methodLink RX10 204 yX7_greatestDeep, .instanceMethod yX7_greatestDeep, .selects RX7 yX7_greatestDeep yX7_greatestDeep, .initialized RX7, .code yX7_greatestDeep cX7_greatestDeep 2 (some .int), .fieldLink RX7 54 "KingTable$Solver" "solved" "Z", .fieldLink RX7 35 "KingTable$Solver" "greatest" "[I", .static yX10_isSide, .initialized RX10, .code yX10_isSide cX10_isSide 1 (some .boolean)] ++ wsX100 ++ wsX70)
def wsX10_stand : List Cond := .code yX10_stand cX10_stand 3 (some .int) :: ([.fieldLink RX10 53 "KingTable" "solver" "LKingTable$Solver;", .methodLink RX10 207 yX7_worthAt, .instanceMethod yX7_worthAt, .selects RX7 yX7_worthAt yX7_worthAt, .initialized RX7, .code yX7_worthAt cX7_worthAt 4 (some .int), .fieldLink RX7 54 "KingTable$Solver" "solved" "Z", .fieldLink RX7 66 "KingTable$Solver" "places" "I", .fieldLink RX7 38 "KingTable$Solver" "worths" "[I", .static yX10_isSide, .initialized RX10, .code yX10_isSide cX10_isSide 1 (some .boolean)] ++ wsX100 ++ wsX70)
def wsX11_init_r1 : List Cond := [Cond.methodLink RX11 1 objectInit, Cond.instanceMethod objectInit, Cond.code objectInit ⟨#[0xb1]⟩ 1 none, Cond.fieldLink RX11 7 "KingTableModel" "lines" "I", Cond.fieldLink RX11 13 "KingTableModel" "wide" "I", Cond.arrayClass .int, Cond.fieldLink RX11 16 "KingTableModel" "signs" "[I", Cond.fieldLink RX11 20 "KingTableModel" "hard" "I", Cond.fieldLink RX11 23 "KingTableModel" "kingTakes" "Z", Cond.fieldLink RX11 27 "KingTableModel" "kind" "[I", Cond.fieldLink RX11 30 "KingTableModel" "at" "[I", Cond.fieldLink RX11 33 "KingTableModel" "on" "[I", Cond.fieldLink RX11 36 "KingTableModel" "ground" "[I", Cond.fieldLink RX11 39 "KingTableModel" "moved" "[I", Cond.constant RX11 42 (172241), Cond.arrayClass .byte, Cond.fieldLink RX11 43 "KingTableModel" "stood" "[B", Cond.arrayClass .boolean, Cond.fieldLink RX11 47 "KingTableModel" "taken" "[Z", Cond.fieldLink RX11 51 "KingTableModel" "met" "[Z", Cond.fieldLink RX11 54 "KingTableModel" "queue" "[I", Cond.fieldLink RX11 57 "KingTableModel" "worths" "[I", Cond.fieldLink RX11 60 "KingTableModel" "deeps" "[I", Cond.fieldLink RX11 63 "KingTableModel" "first" "[I"]
def wsX11_init_r2 : List Cond := [Cond.fieldLink RX11 66 "KingTableModel" "fresh" "[I"]
def wsX11_init : List Cond := .code yX11_init cX11_init 1 none :: ((wsX11_init_r1 ++ wsX11_init_r2) ++ wsX110)
def wsX11_isIn : List Cond := .code yX11_isIn cX11_isIn 3 (some .boolean) :: ([])
def wsX11_fields : List Cond := .code yX11_fields cX11_fields 1 (some .int) :: ([.fieldLink RX11 7 "KingTableModel" "lines" "I", .fieldLink RX11 13 "KingTableModel" "wide" "I"] ++ wsX110)
def wsX11_board : List Cond := .code yX11_board cX11_board 4 (some .boolean) :: ([.fieldLink RX11 7 "KingTableModel" "lines" "I", .fieldLink RX11 13 "KingTableModel" "wide" "I", .fieldLink RX11 16 "KingTableModel" "signs" "[I", .fieldLink RX11 73 "KingTableModel" "how" "I", .fieldLink RX11 76 "KingTableModel" "solved" "Z", .methodLink RX11 69 yX11_isIn, .static yX11_isIn, .initialized RX11, .code yX11_isIn cX11_isIn 3 (some .boolean)] ++ wsX110)
def wsX11_line : List Cond := .code yX11_line cX11_line 5 (some .boolean) :: ([.fieldLink RX11 73 "KingTableModel" "how" "I", .fieldLink RX11 7 "KingTableModel" "lines" "I", .fieldLink RX11 13 "KingTableModel" "wide" "I", .fieldLink RX11 16 "KingTableModel" "signs" "[I", .methodLink RX11 69 yX11_isIn, .static yX11_isIn, .initialized RX11, .code yX11_isIn cX11_isIn 3 (some .boolean)] ++ wsX110)
def wsX11_law : List Cond := .code yX11_law cX11_law 6 (some .boolean) :: ([.fieldLink RX11 73 "KingTableModel" "how" "I", .fieldLink RX11 79 "KingTableModel" "goal" "I", .fieldLink RX11 20 "KingTableModel" "hard" "I", .fieldLink RX11 23 "KingTableModel" "kingTakes" "Z", .fieldLink RX11 82 "KingTableModel" "reach" "I", .fieldLink RX11 85 "KingTableModel" "again1" "I", .methodLink RX11 69 yX11_isIn, .static yX11_isIn, .initialized RX11, .code yX11_isIn cX11_isIn 3 (some .boolean)] ++ wsX110)
def wsX11_sideOf : List Cond := .code yX11_sideOf cX11_sideOf 2 (some .int) :: ([.fieldLink RX11 27 "KingTableModel" "kind" "[I"] ++ wsX110)
def wsX11_takes : List Cond := .code yX11_takes cX11_takes 2 (some .boolean) :: ([.fieldLink RX11 27 "KingTableModel" "kind" "[I", .fieldLink RX11 23 "KingTableModel" "kingTakes" "Z"] ++ wsX110)
def wsX11_isGoal : List Cond := .code yX11_isGoal cX11_isGoal 2 (some .boolean) :: ([.fieldLink RX11 79 "KingTableModel" "goal" "I", .fieldLink RX11 36 "KingTableModel" "ground" "[I", .fieldLink RX11 13 "KingTableModel" "wide" "I", .methodLink RX11 88 yX11_fields, .instanceMethod yX11_fields, .selects RX11 yX11_fields yX11_fields, .initialized RX11, .code yX11_fields cX11_fields 1 (some .int), .fieldLink RX11 7 "KingTableModel" "lines" "I"] ++ wsX110)
def wsX11_bears : List Cond := .code yX11_bears cX11_bears 3 (some .boolean) :: ([.fieldLink RX11 36 "KingTableModel" "ground" "[I", .fieldLink RX11 27 "KingTableModel" "kind" "[I"] ++ wsX110)
def wsX11_along : List Cond := .code yX11_along cX11_along 7 (some .int) :: ([.fieldLink RX11 13 "KingTableModel" "wide" "I", .fieldLink RX11 7 "KingTableModel" "lines" "I"] ++ wsX110)
def wsX11_bar : List Cond := .code yX11_bar cX11_bar 6 (some .int) :: ([.fieldLink RX11 30 "KingTableModel" "at" "[I", .fieldLink RX11 27 "KingTableModel" "kind" "[I", .fieldLink RX11 82 "KingTableModel" "reach" "I", .fieldLink RX11 33 "KingTableModel" "on" "[I", .methodLink RX11 92 yX11_along, .instanceMethod yX11_along, .selects RX11 yX11_along yX11_along, .initialized RX11, .code yX11_along cX11_along 7 (some .int), .fieldLink RX11 13 "KingTableModel" "wide" "I", .fieldLink RX11 7 "KingTableModel" "lines" "I", .methodLink RX11 96 yX11_bears, .instanceMethod yX11_bears, .selects RX11 yX11_bears yX11_bears, .code yX11_bears cX11_bears 3 (some .boolean), .fieldLink RX11 36 "KingTableModel" "ground" "[I"] ++ wsX110)
def wsX11_movesOf : List Cond := .code yX11_movesOf cX11_movesOf 5 (some .int) :: ([.fieldLink RX11 30 "KingTableModel" "at" "[I", .methodLink RX11 100 yX11_bar, .instanceMethod yX11_bar, .selects RX11 yX11_bar yX11_bar, .initialized RX11, .code yX11_bar cX11_bar 6 (some .int), .fieldLink RX11 27 "KingTableModel" "kind" "[I", .fieldLink RX11 82 "KingTableModel" "reach" "I", .fieldLink RX11 33 "KingTableModel" "on" "[I", .methodLink RX11 92 yX11_along, .instanceMethod yX11_along, .selects RX11 yX11_along yX11_along, .code yX11_along cX11_along 7 (some .int), .fieldLink RX11 13 "KingTableModel" "wide" "I", .fieldLink RX11 7 "KingTableModel" "lines" "I", .methodLink RX11 96 yX11_bears, .instanceMethod yX11_bears, .selects RX11 yX11_bears yX11_bears, .code yX11_bears cX11_bears 3 (some .boolean), .fieldLink RX11 36 "KingTableModel" "ground" "[I"] ++ wsX110)
def wsX11_canGo_r1 : List Cond := [Cond.fieldLink RX11 103 "KingTableModel" "pieces" "I", Cond.methodLink RX11 106 yX11_sideOf, Cond.instanceMethod yX11_sideOf, Cond.selects RX11 yX11_sideOf yX11_sideOf, Cond.initialized RX11, Cond.code yX11_sideOf cX11_sideOf 2 (some .int), Cond.fieldLink RX11 27 "KingTableModel" "kind" "[I", Cond.methodLink RX11 110 yX11_movesOf, Cond.instanceMethod yX11_movesOf, Cond.selects RX11 yX11_movesOf yX11_movesOf, Cond.code yX11_movesOf cX11_movesOf 5 (some .int), Cond.fieldLink RX11 30 "KingTableModel" "at" "[I", Cond.methodLink RX11 100 yX11_bar, Cond.instanceMethod yX11_bar, Cond.selects RX11 yX11_bar yX11_bar, Cond.code yX11_bar cX11_bar 6 (some .int), Cond.fieldLink RX11 82 "KingTableModel" "reach" "I", Cond.fieldLink RX11 33 "KingTableModel" "on" "[I", Cond.methodLink RX11 92 yX11_along, Cond.instanceMethod yX11_along, Cond.selects RX11 yX11_along yX11_along, Cond.code yX11_along cX11_along 7 (some .int), Cond.fieldLink RX11 13 "KingTableModel" "wide" "I", Cond.fieldLink RX11 7 "KingTableModel" "lines" "I"]
def wsX11_canGo_r2 : List Cond := [Cond.methodLink RX11 96 yX11_bears, Cond.instanceMethod yX11_bears, Cond.selects RX11 yX11_bears yX11_bears, Cond.code yX11_bears cX11_bears 3 (some .boolean), Cond.fieldLink RX11 36 "KingTableModel" "ground" "[I"]
def wsX11_canGo : List Cond := .code yX11_canGo cX11_canGo 4 (some .boolean) :: ((wsX11_canGo_r1 ++ wsX11_canGo_r2) ++ wsX110)
def wsX11_isFoe : List Cond := .code yX11_isFoe cX11_isFoe 3 (some .boolean) :: ([.fieldLink RX11 33 "KingTableModel" "on" "[I", .fieldLink RX11 36 "KingTableModel" "ground" "[I", .methodLink RX11 106 yX11_sideOf, .instanceMethod yX11_sideOf, .selects RX11 yX11_sideOf yX11_sideOf, .initialized RX11, .code yX11_sideOf cX11_sideOf 2 (some .int), .fieldLink RX11 27 "KingTableModel" "kind" "[I", .methodLink RX11 113 yX11_takes, .instanceMethod yX11_takes, .selects RX11 yX11_takes yX11_takes, .code yX11_takes cX11_takes 2 (some .boolean), .fieldLink RX11 23 "KingTableModel" "kingTakes" "Z"] ++ wsX110)
def wsX11_isTaken_r1 : List Cond := [Cond.fieldLink RX11 27 "KingTableModel" "kind" "[I", Cond.fieldLink RX11 20 "KingTableModel" "hard" "I", Cond.fieldLink RX11 30 "KingTableModel" "at" "[I", Cond.methodLink RX11 92 yX11_along, Cond.instanceMethod yX11_along, Cond.selects RX11 yX11_along yX11_along, Cond.initialized RX11, Cond.code yX11_along cX11_along 7 (some .int), Cond.fieldLink RX11 13 "KingTableModel" "wide" "I", Cond.fieldLink RX11 7 "KingTableModel" "lines" "I", Cond.methodLink RX11 117 yX11_isFoe, Cond.instanceMethod yX11_isFoe, Cond.selects RX11 yX11_isFoe yX11_isFoe, Cond.code yX11_isFoe cX11_isFoe 3 (some .boolean), Cond.fieldLink RX11 33 "KingTableModel" "on" "[I", Cond.fieldLink RX11 36 "KingTableModel" "ground" "[I", Cond.methodLink RX11 106 yX11_sideOf, Cond.instanceMethod yX11_sideOf, Cond.selects RX11 yX11_sideOf yX11_sideOf, Cond.code yX11_sideOf cX11_sideOf 2 (some .int), Cond.methodLink RX11 113 yX11_takes, Cond.instanceMethod yX11_takes, Cond.selects RX11 yX11_takes yX11_takes, Cond.code yX11_takes cX11_takes 2 (some .boolean)]
def wsX11_isTaken_r2 : List Cond := [Cond.fieldLink RX11 23 "KingTableModel" "kingTakes" "Z"]
def wsX11_isTaken : List Cond := .code yX11_isTaken cX11_isTaken 5 (some .boolean) :: ((wsX11_isTaken_r1 ++ wsX11_isTaken_r2) ++ wsX110)
def wsX11_make_r1 : List Cond := [Cond.fieldLink RX11 30 "KingTableModel" "at" "[I", Cond.fieldLink RX11 33 "KingTableModel" "on" "[I", Cond.fieldLink RX11 103 "KingTableModel" "pieces" "I", Cond.fieldLink RX11 47 "KingTableModel" "taken" "[Z", Cond.fieldLink RX11 120 "KingTableModel" "tookMany" "I", Cond.fieldLink RX11 126 "KingTableModel" "side" "I", Cond.methodLink RX11 92 yX11_along, Cond.instanceMethod yX11_along, Cond.selects RX11 yX11_along yX11_along, Cond.initialized RX11, Cond.code yX11_along cX11_along 7 (some .int), Cond.fieldLink RX11 13 "KingTableModel" "wide" "I", Cond.fieldLink RX11 7 "KingTableModel" "lines" "I", Cond.methodLink RX11 113 yX11_takes, Cond.instanceMethod yX11_takes, Cond.selects RX11 yX11_takes yX11_takes, Cond.code yX11_takes cX11_takes 2 (some .boolean), Cond.fieldLink RX11 27 "KingTableModel" "kind" "[I", Cond.fieldLink RX11 23 "KingTableModel" "kingTakes" "Z", Cond.methodLink RX11 106 yX11_sideOf, Cond.instanceMethod yX11_sideOf, Cond.selects RX11 yX11_sideOf yX11_sideOf, Cond.code yX11_sideOf cX11_sideOf 2 (some .int), Cond.methodLink RX11 123 yX11_isTaken]
def wsX11_make_r2 : List Cond := [Cond.instanceMethod yX11_isTaken, Cond.selects RX11 yX11_isTaken yX11_isTaken, Cond.code yX11_isTaken cX11_isTaken 5 (some .boolean), Cond.fieldLink RX11 20 "KingTableModel" "hard" "I", Cond.methodLink RX11 117 yX11_isFoe, Cond.instanceMethod yX11_isFoe, Cond.selects RX11 yX11_isFoe yX11_isFoe, Cond.code yX11_isFoe cX11_isFoe 3 (some .boolean), Cond.fieldLink RX11 36 "KingTableModel" "ground" "[I"]
def wsX11_make : List Cond := .code yX11_make cX11_make 7 none :: ((wsX11_make_r1 ++ wsX11_make_r2) ++ wsX110)
def wsX11_row : List Cond := .code yX11_row cX11_row 2 (some .int) :: ([])
def wsX11_write : List Cond := .code yX11_write cX11_write 3 none :: ([.fieldLink RX11 43 "KingTableModel" "stood" "[B", .fieldLink RX11 103 "KingTableModel" "pieces" "I", .fieldLink RX11 30 "KingTableModel" "at" "[I", .fieldLink RX11 126 "KingTableModel" "side" "I", .methodLink RX11 129 yX11_row, .instanceMethod yX11_row, .selects RX11 yX11_row yX11_row, .initialized RX11, .code yX11_row cX11_row 2 (some .int)] ++ wsX110)
def wsX11_read : List Cond := .code yX11_read cX11_read 3 none :: ([.fieldLink RX11 33 "KingTableModel" "on" "[I", .fieldLink RX11 103 "KingTableModel" "pieces" "I", .fieldLink RX11 30 "KingTableModel" "at" "[I", .fieldLink RX11 43 "KingTableModel" "stood" "[B", .fieldLink RX11 126 "KingTableModel" "side" "I", .methodLink RX11 129 yX11_row, .instanceMethod yX11_row, .selects RX11 yX11_row yX11_row, .initialized RX11, .code yX11_row cX11_row 2 (some .int)] ++ wsX110)
def wsX11_isAlike : List Cond := .code yX11_isAlike cX11_isAlike 5 (some .boolean) :: ([.fieldLink RX11 43 "KingTableModel" "stood" "[B", .methodLink RX11 129 yX11_row, .instanceMethod yX11_row, .selects RX11 yX11_row yX11_row, .initialized RX11, .code yX11_row cX11_row 2 (some .int)] ++ wsX110)
def wsX11_cameBack : List Cond := .code yX11_cameBack cX11_cameBack 4 (some .boolean) :: ([.methodLink RX11 132 yX11_isAlike, .instanceMethod yX11_isAlike, .selects RX11 yX11_isAlike yX11_isAlike, .initialized RX11, .code yX11_isAlike cX11_isAlike 5 (some .boolean), .fieldLink RX11 43 "KingTableModel" "stood" "[B", .methodLink RX11 129 yX11_row, .instanceMethod yX11_row, .selects RX11 yX11_row yX11_row, .code yX11_row cX11_row 2 (some .int)] ++ wsX110)
def wsX11_begin_r1 : List Cond := [Cond.fieldLink RX11 73 "KingTableModel" "how" "I", Cond.fieldLink RX11 16 "KingTableModel" "signs" "[I", Cond.fieldLink RX11 103 "KingTableModel" "pieces" "I", Cond.fieldLink RX11 36 "KingTableModel" "ground" "[I", Cond.fieldLink RX11 33 "KingTableModel" "on" "[I", Cond.fieldLink RX11 27 "KingTableModel" "kind" "[I", Cond.fieldLink RX11 30 "KingTableModel" "at" "[I", Cond.fieldLink RX11 135 "KingTableModel" "king" "I", Cond.fieldLink RX11 126 "KingTableModel" "side" "I", Cond.fieldLink RX11 138 "KingTableModel" "done" "I", Cond.fieldLink RX11 141 "KingTableModel" "undone" "I", Cond.fieldLink RX11 120 "KingTableModel" "tookMany" "I", Cond.fieldLink RX11 76 "KingTableModel" "solved" "Z", Cond.methodLink RX11 69 yX11_isIn, Cond.static yX11_isIn, Cond.initialized RX11, Cond.code yX11_isIn cX11_isIn 3 (some .boolean), Cond.methodLink RX11 88 yX11_fields, Cond.instanceMethod yX11_fields, Cond.selects RX11 yX11_fields yX11_fields, Cond.code yX11_fields cX11_fields 1 (some .int), Cond.fieldLink RX11 7 "KingTableModel" "lines" "I", Cond.fieldLink RX11 13 "KingTableModel" "wide" "I", Cond.methodLink RX11 144 yX11_write]
def wsX11_begin_r2 : List Cond := [Cond.instanceMethod yX11_write, Cond.selects RX11 yX11_write yX11_write, Cond.code yX11_write cX11_write 3 none, Cond.fieldLink RX11 43 "KingTableModel" "stood" "[B", Cond.methodLink RX11 129 yX11_row, Cond.instanceMethod yX11_row, Cond.selects RX11 yX11_row yX11_row, Cond.code yX11_row cX11_row 2 (some .int), Cond.methodLink RX11 148 yX11_isGoal, Cond.instanceMethod yX11_isGoal, Cond.selects RX11 yX11_isGoal yX11_isGoal, Cond.code yX11_isGoal cX11_isGoal 2 (some .boolean), Cond.fieldLink RX11 79 "KingTableModel" "goal" "I", Cond.methodLink RX11 151 yX11_canGo, Cond.instanceMethod yX11_canGo, Cond.selects RX11 yX11_canGo yX11_canGo, Cond.code yX11_canGo cX11_canGo 4 (some .boolean), Cond.methodLink RX11 106 yX11_sideOf, Cond.instanceMethod yX11_sideOf, Cond.selects RX11 yX11_sideOf yX11_sideOf, Cond.code yX11_sideOf cX11_sideOf 2 (some .int), Cond.methodLink RX11 110 yX11_movesOf, Cond.instanceMethod yX11_movesOf, Cond.selects RX11 yX11_movesOf yX11_movesOf]
def wsX11_begin_r3 : List Cond := [Cond.code yX11_movesOf cX11_movesOf 5 (some .int), Cond.methodLink RX11 100 yX11_bar, Cond.instanceMethod yX11_bar, Cond.selects RX11 yX11_bar yX11_bar, Cond.code yX11_bar cX11_bar 6 (some .int), Cond.fieldLink RX11 82 "KingTableModel" "reach" "I", Cond.methodLink RX11 92 yX11_along, Cond.instanceMethod yX11_along, Cond.selects RX11 yX11_along yX11_along, Cond.code yX11_along cX11_along 7 (some .int), Cond.methodLink RX11 96 yX11_bears, Cond.instanceMethod yX11_bears, Cond.selects RX11 yX11_bears yX11_bears, Cond.code yX11_bears cX11_bears 3 (some .boolean)]
def wsX11_begin : List Cond := .code yX11_begin cX11_begin 8 (some .int) :: ((wsX11_begin_r1 ++ (wsX11_begin_r2 ++ wsX11_begin_r3)) ++ wsX110)
def wsX11_stop : List Cond := .code yX11_stop cX11_stop 1 (some .boolean) :: ([.fieldLink RX11 73 "KingTableModel" "how" "I", .fieldLink RX11 76 "KingTableModel" "solved" "Z"] ++ wsX110)
def wsX11_lookAgain : List Cond := .code yX11_lookAgain cX11_lookAgain 2 none :: ([.fieldLink RX11 138 "KingTableModel" "done" "I", .fieldLink RX11 120 "KingTableModel" "tookMany" "I", .fieldLink RX11 103 "KingTableModel" "pieces" "I", .fieldLink RX11 47 "KingTableModel" "taken" "[Z", .fieldLink RX11 43 "KingTableModel" "stood" "[B", .methodLink RX11 129 yX11_row, .instanceMethod yX11_row, .selects RX11 yX11_row yX11_row, .initialized RX11, .code yX11_row cX11_row 2 (some .int)] ++ wsX110)
def wsX11_why_r1 : List Cond := [Cond.fieldLink RX11 73 "KingTableModel" "how" "I", Cond.fieldLink RX11 103 "KingTableModel" "pieces" "I", Cond.fieldLink RX11 30 "KingTableModel" "at" "[I", Cond.fieldLink RX11 126 "KingTableModel" "side" "I", Cond.fieldLink RX11 85 "KingTableModel" "again1" "I", Cond.fieldLink RX11 138 "KingTableModel" "done" "I", Cond.methodLink RX11 69 yX11_isIn, Cond.static yX11_isIn, Cond.initialized RX11, Cond.code yX11_isIn cX11_isIn 3 (some .boolean), Cond.methodLink RX11 106 yX11_sideOf, Cond.instanceMethod yX11_sideOf, Cond.selects RX11 yX11_sideOf yX11_sideOf, Cond.code yX11_sideOf cX11_sideOf 2 (some .int), Cond.fieldLink RX11 27 "KingTableModel" "kind" "[I", Cond.methodLink RX11 100 yX11_bar, Cond.instanceMethod yX11_bar, Cond.selects RX11 yX11_bar yX11_bar, Cond.code yX11_bar cX11_bar 6 (some .int), Cond.fieldLink RX11 82 "KingTableModel" "reach" "I", Cond.fieldLink RX11 33 "KingTableModel" "on" "[I", Cond.methodLink RX11 92 yX11_along, Cond.instanceMethod yX11_along, Cond.selects RX11 yX11_along yX11_along]
def wsX11_why_r2 : List Cond := [Cond.code yX11_along cX11_along 7 (some .int), Cond.fieldLink RX11 13 "KingTableModel" "wide" "I", Cond.fieldLink RX11 7 "KingTableModel" "lines" "I", Cond.methodLink RX11 96 yX11_bears, Cond.instanceMethod yX11_bears, Cond.selects RX11 yX11_bears yX11_bears, Cond.code yX11_bears cX11_bears 3 (some .boolean), Cond.fieldLink RX11 36 "KingTableModel" "ground" "[I", Cond.methodLink RX11 154 yX11_make, Cond.instanceMethod yX11_make, Cond.selects RX11 yX11_make yX11_make, Cond.code yX11_make cX11_make 7 none, Cond.fieldLink RX11 47 "KingTableModel" "taken" "[Z", Cond.fieldLink RX11 120 "KingTableModel" "tookMany" "I", Cond.methodLink RX11 113 yX11_takes, Cond.instanceMethod yX11_takes, Cond.selects RX11 yX11_takes yX11_takes, Cond.code yX11_takes cX11_takes 2 (some .boolean), Cond.fieldLink RX11 23 "KingTableModel" "kingTakes" "Z", Cond.methodLink RX11 123 yX11_isTaken, Cond.instanceMethod yX11_isTaken, Cond.selects RX11 yX11_isTaken yX11_isTaken, Cond.code yX11_isTaken cX11_isTaken 5 (some .boolean), Cond.fieldLink RX11 20 "KingTableModel" "hard" "I"]
def wsX11_why_r3 : List Cond := [Cond.methodLink RX11 117 yX11_isFoe, Cond.instanceMethod yX11_isFoe, Cond.selects RX11 yX11_isFoe yX11_isFoe, Cond.code yX11_isFoe cX11_isFoe 3 (some .boolean), Cond.methodLink RX11 144 yX11_write, Cond.instanceMethod yX11_write, Cond.selects RX11 yX11_write yX11_write, Cond.code yX11_write cX11_write 3 none, Cond.fieldLink RX11 43 "KingTableModel" "stood" "[B", Cond.methodLink RX11 129 yX11_row, Cond.instanceMethod yX11_row, Cond.selects RX11 yX11_row yX11_row, Cond.code yX11_row cX11_row 2 (some .int), Cond.methodLink RX11 158 yX11_cameBack, Cond.instanceMethod yX11_cameBack, Cond.selects RX11 yX11_cameBack yX11_cameBack, Cond.code yX11_cameBack cX11_cameBack 4 (some .boolean), Cond.methodLink RX11 132 yX11_isAlike, Cond.instanceMethod yX11_isAlike, Cond.selects RX11 yX11_isAlike yX11_isAlike, Cond.code yX11_isAlike cX11_isAlike 5 (some .boolean), Cond.methodLink RX11 161 yX11_read, Cond.instanceMethod yX11_read, Cond.selects RX11 yX11_read yX11_read]
def wsX11_why_r4 : List Cond := [Cond.code yX11_read cX11_read 3 none, Cond.methodLink RX11 164 yX11_lookAgain, Cond.instanceMethod yX11_lookAgain, Cond.selects RX11 yX11_lookAgain yX11_lookAgain, Cond.code yX11_lookAgain cX11_lookAgain 2 none]
def wsX11_why : List Cond := .code yX11_why cX11_why 6 (some .int) :: ((wsX11_why_r1 ++ (wsX11_why_r2 ++ (wsX11_why_r3 ++ wsX11_why_r4))) ++ wsX110)
def wsX11_doMove_r1 : List Cond := [Cond.fieldLink RX11 126 "KingTableModel" "side" "I", Cond.fieldLink RX11 39 "KingTableModel" "moved" "[I", Cond.fieldLink RX11 138 "KingTableModel" "done" "I", Cond.fieldLink RX11 30 "KingTableModel" "at" "[I", Cond.fieldLink RX11 135 "KingTableModel" "king" "I", Cond.fieldLink RX11 73 "KingTableModel" "how" "I", Cond.fieldLink RX11 85 "KingTableModel" "again1" "I", Cond.methodLink RX11 154 yX11_make, Cond.instanceMethod yX11_make, Cond.selects RX11 yX11_make yX11_make, Cond.initialized RX11, Cond.code yX11_make cX11_make 7 none, Cond.fieldLink RX11 33 "KingTableModel" "on" "[I", Cond.fieldLink RX11 103 "KingTableModel" "pieces" "I", Cond.fieldLink RX11 47 "KingTableModel" "taken" "[Z", Cond.fieldLink RX11 120 "KingTableModel" "tookMany" "I", Cond.methodLink RX11 92 yX11_along, Cond.instanceMethod yX11_along, Cond.selects RX11 yX11_along yX11_along, Cond.code yX11_along cX11_along 7 (some .int), Cond.fieldLink RX11 13 "KingTableModel" "wide" "I", Cond.fieldLink RX11 7 "KingTableModel" "lines" "I", Cond.methodLink RX11 113 yX11_takes, Cond.instanceMethod yX11_takes]
def wsX11_doMove_r2 : List Cond := [Cond.selects RX11 yX11_takes yX11_takes, Cond.code yX11_takes cX11_takes 2 (some .boolean), Cond.fieldLink RX11 27 "KingTableModel" "kind" "[I", Cond.fieldLink RX11 23 "KingTableModel" "kingTakes" "Z", Cond.methodLink RX11 106 yX11_sideOf, Cond.instanceMethod yX11_sideOf, Cond.selects RX11 yX11_sideOf yX11_sideOf, Cond.code yX11_sideOf cX11_sideOf 2 (some .int), Cond.methodLink RX11 123 yX11_isTaken, Cond.instanceMethod yX11_isTaken, Cond.selects RX11 yX11_isTaken yX11_isTaken, Cond.code yX11_isTaken cX11_isTaken 5 (some .boolean), Cond.fieldLink RX11 20 "KingTableModel" "hard" "I", Cond.methodLink RX11 117 yX11_isFoe, Cond.instanceMethod yX11_isFoe, Cond.selects RX11 yX11_isFoe yX11_isFoe, Cond.code yX11_isFoe cX11_isFoe 3 (some .boolean), Cond.fieldLink RX11 36 "KingTableModel" "ground" "[I", Cond.methodLink RX11 144 yX11_write, Cond.instanceMethod yX11_write, Cond.selects RX11 yX11_write yX11_write, Cond.code yX11_write cX11_write 3 none, Cond.fieldLink RX11 43 "KingTableModel" "stood" "[B", Cond.methodLink RX11 129 yX11_row]
def wsX11_doMove_r3 : List Cond := [Cond.instanceMethod yX11_row, Cond.selects RX11 yX11_row yX11_row, Cond.code yX11_row cX11_row 2 (some .int), Cond.methodLink RX11 148 yX11_isGoal, Cond.instanceMethod yX11_isGoal, Cond.selects RX11 yX11_isGoal yX11_isGoal, Cond.code yX11_isGoal cX11_isGoal 2 (some .boolean), Cond.fieldLink RX11 79 "KingTableModel" "goal" "I", Cond.methodLink RX11 88 yX11_fields, Cond.instanceMethod yX11_fields, Cond.selects RX11 yX11_fields yX11_fields, Cond.code yX11_fields cX11_fields 1 (some .int), Cond.methodLink RX11 151 yX11_canGo, Cond.instanceMethod yX11_canGo, Cond.selects RX11 yX11_canGo yX11_canGo, Cond.code yX11_canGo cX11_canGo 4 (some .boolean), Cond.methodLink RX11 110 yX11_movesOf, Cond.instanceMethod yX11_movesOf, Cond.selects RX11 yX11_movesOf yX11_movesOf, Cond.code yX11_movesOf cX11_movesOf 5 (some .int), Cond.methodLink RX11 100 yX11_bar, Cond.instanceMethod yX11_bar, Cond.selects RX11 yX11_bar yX11_bar, Cond.code yX11_bar cX11_bar 6 (some .int)]
def wsX11_doMove_r4 : List Cond := [Cond.fieldLink RX11 82 "KingTableModel" "reach" "I", Cond.methodLink RX11 96 yX11_bears, Cond.instanceMethod yX11_bears, Cond.selects RX11 yX11_bears yX11_bears, Cond.code yX11_bears cX11_bears 3 (some .boolean), Cond.methodLink RX11 158 yX11_cameBack, Cond.instanceMethod yX11_cameBack, Cond.selects RX11 yX11_cameBack yX11_cameBack, Cond.code yX11_cameBack cX11_cameBack 4 (some .boolean), Cond.methodLink RX11 132 yX11_isAlike, Cond.instanceMethod yX11_isAlike, Cond.selects RX11 yX11_isAlike yX11_isAlike, Cond.code yX11_isAlike cX11_isAlike 5 (some .boolean)]
def wsX11_doMove : List Cond := .code yX11_doMove cX11_doMove 3 none :: ((wsX11_doMove_r1 ++ (wsX11_doMove_r2 ++ (wsX11_doMove_r3 ++ wsX11_doMove_r4))) ++ wsX110)
def wsX11_go_r1 : List Cond := [Cond.fieldLink RX11 141 "KingTableModel" "undone" "I", Cond.fieldLink RX11 120 "KingTableModel" "tookMany" "I", Cond.methodLink RX11 167 yX11_why, Cond.instanceMethod yX11_why, Cond.selects RX11 yX11_why yX11_why, Cond.initialized RX11, Cond.code yX11_why cX11_why 6 (some .int), Cond.fieldLink RX11 73 "KingTableModel" "how" "I", Cond.fieldLink RX11 103 "KingTableModel" "pieces" "I", Cond.fieldLink RX11 30 "KingTableModel" "at" "[I", Cond.fieldLink RX11 126 "KingTableModel" "side" "I", Cond.fieldLink RX11 85 "KingTableModel" "again1" "I", Cond.fieldLink RX11 138 "KingTableModel" "done" "I", Cond.methodLink RX11 69 yX11_isIn, Cond.static yX11_isIn, Cond.code yX11_isIn cX11_isIn 3 (some .boolean), Cond.methodLink RX11 106 yX11_sideOf, Cond.instanceMethod yX11_sideOf, Cond.selects RX11 yX11_sideOf yX11_sideOf, Cond.code yX11_sideOf cX11_sideOf 2 (some .int), Cond.fieldLink RX11 27 "KingTableModel" "kind" "[I", Cond.methodLink RX11 100 yX11_bar, Cond.instanceMethod yX11_bar, Cond.selects RX11 yX11_bar yX11_bar]
def wsX11_go_r2 : List Cond := [Cond.code yX11_bar cX11_bar 6 (some .int), Cond.fieldLink RX11 82 "KingTableModel" "reach" "I", Cond.fieldLink RX11 33 "KingTableModel" "on" "[I", Cond.methodLink RX11 92 yX11_along, Cond.instanceMethod yX11_along, Cond.selects RX11 yX11_along yX11_along, Cond.code yX11_along cX11_along 7 (some .int), Cond.fieldLink RX11 13 "KingTableModel" "wide" "I", Cond.fieldLink RX11 7 "KingTableModel" "lines" "I", Cond.methodLink RX11 96 yX11_bears, Cond.instanceMethod yX11_bears, Cond.selects RX11 yX11_bears yX11_bears, Cond.code yX11_bears cX11_bears 3 (some .boolean), Cond.fieldLink RX11 36 "KingTableModel" "ground" "[I", Cond.methodLink RX11 154 yX11_make, Cond.instanceMethod yX11_make, Cond.selects RX11 yX11_make yX11_make, Cond.code yX11_make cX11_make 7 none, Cond.fieldLink RX11 47 "KingTableModel" "taken" "[Z", Cond.methodLink RX11 113 yX11_takes, Cond.instanceMethod yX11_takes, Cond.selects RX11 yX11_takes yX11_takes, Cond.code yX11_takes cX11_takes 2 (some .boolean), Cond.fieldLink RX11 23 "KingTableModel" "kingTakes" "Z"]
def wsX11_go_r3 : List Cond := [Cond.methodLink RX11 123 yX11_isTaken, Cond.instanceMethod yX11_isTaken, Cond.selects RX11 yX11_isTaken yX11_isTaken, Cond.code yX11_isTaken cX11_isTaken 5 (some .boolean), Cond.fieldLink RX11 20 "KingTableModel" "hard" "I", Cond.methodLink RX11 117 yX11_isFoe, Cond.instanceMethod yX11_isFoe, Cond.selects RX11 yX11_isFoe yX11_isFoe, Cond.code yX11_isFoe cX11_isFoe 3 (some .boolean), Cond.methodLink RX11 144 yX11_write, Cond.instanceMethod yX11_write, Cond.selects RX11 yX11_write yX11_write, Cond.code yX11_write cX11_write 3 none, Cond.fieldLink RX11 43 "KingTableModel" "stood" "[B", Cond.methodLink RX11 129 yX11_row, Cond.instanceMethod yX11_row, Cond.selects RX11 yX11_row yX11_row, Cond.code yX11_row cX11_row 2 (some .int), Cond.methodLink RX11 158 yX11_cameBack, Cond.instanceMethod yX11_cameBack, Cond.selects RX11 yX11_cameBack yX11_cameBack, Cond.code yX11_cameBack cX11_cameBack 4 (some .boolean), Cond.methodLink RX11 132 yX11_isAlike, Cond.instanceMethod yX11_isAlike]
def wsX11_go_r4 : List Cond := [Cond.selects RX11 yX11_isAlike yX11_isAlike, Cond.code yX11_isAlike cX11_isAlike 5 (some .boolean), Cond.methodLink RX11 161 yX11_read, Cond.instanceMethod yX11_read, Cond.selects RX11 yX11_read yX11_read, Cond.code yX11_read cX11_read 3 none, Cond.methodLink RX11 164 yX11_lookAgain, Cond.instanceMethod yX11_lookAgain, Cond.selects RX11 yX11_lookAgain yX11_lookAgain, Cond.code yX11_lookAgain cX11_lookAgain 2 none, Cond.methodLink RX11 170 yX11_doMove, Cond.instanceMethod yX11_doMove, Cond.selects RX11 yX11_doMove yX11_doMove, Cond.code yX11_doMove cX11_doMove 3 none, Cond.fieldLink RX11 39 "KingTableModel" "moved" "[I", Cond.fieldLink RX11 135 "KingTableModel" "king" "I", Cond.methodLink RX11 148 yX11_isGoal, Cond.instanceMethod yX11_isGoal, Cond.selects RX11 yX11_isGoal yX11_isGoal, Cond.code yX11_isGoal cX11_isGoal 2 (some .boolean), Cond.fieldLink RX11 79 "KingTableModel" "goal" "I", Cond.methodLink RX11 88 yX11_fields, Cond.instanceMethod yX11_fields, Cond.selects RX11 yX11_fields yX11_fields]
def wsX11_go_r5 : List Cond := [Cond.code yX11_fields cX11_fields 1 (some .int), Cond.methodLink RX11 151 yX11_canGo, Cond.instanceMethod yX11_canGo, Cond.selects RX11 yX11_canGo yX11_canGo, Cond.code yX11_canGo cX11_canGo 4 (some .boolean), Cond.methodLink RX11 110 yX11_movesOf, Cond.instanceMethod yX11_movesOf, Cond.selects RX11 yX11_movesOf yX11_movesOf, Cond.code yX11_movesOf cX11_movesOf 5 (some .int)]
def wsX11_go : List Cond := .code yX11_go cX11_go 4 (some .int) :: ((wsX11_go_r1 ++ (wsX11_go_r2 ++ (wsX11_go_r3 ++ (wsX11_go_r4 ++ wsX11_go_r5)))) ++ wsX110)
def wsX11_back : List Cond := .code yX11_back cX11_back 1 (some .boolean) :: ([.fieldLink RX11 73 "KingTableModel" "how" "I", .fieldLink RX11 138 "KingTableModel" "done" "I", .fieldLink RX11 141 "KingTableModel" "undone" "I", .methodLink RX11 161 yX11_read, .instanceMethod yX11_read, .selects RX11 yX11_read yX11_read, .initialized RX11, .code yX11_read cX11_read 3 none, .fieldLink RX11 33 "KingTableModel" "on" "[I", .fieldLink RX11 103 "KingTableModel" "pieces" "I", .fieldLink RX11 30 "KingTableModel" "at" "[I", .fieldLink RX11 43 "KingTableModel" "stood" "[B", .fieldLink RX11 126 "KingTableModel" "side" "I", .methodLink RX11 129 yX11_row, .instanceMethod yX11_row, .selects RX11 yX11_row yX11_row, .code yX11_row cX11_row 2 (some .int), .methodLink RX11 164 yX11_lookAgain, .instanceMethod yX11_lookAgain, .selects RX11 yX11_lookAgain yX11_lookAgain, .code yX11_lookAgain cX11_lookAgain 2 none, .fieldLink RX11 120 "KingTableModel" "tookMany" "I", .fieldLink RX11 47 "KingTableModel" "taken" "[Z"] ++ wsX110)
def wsX11_again_r1 : List Cond := [Cond.fieldLink RX11 73 "KingTableModel" "how" "I", Cond.fieldLink RX11 141 "KingTableModel" "undone" "I", Cond.fieldLink RX11 39 "KingTableModel" "moved" "[I", Cond.fieldLink RX11 138 "KingTableModel" "done" "I", Cond.methodLink RX11 170 yX11_doMove, Cond.instanceMethod yX11_doMove, Cond.selects RX11 yX11_doMove yX11_doMove, Cond.initialized RX11, Cond.code yX11_doMove cX11_doMove 3 none, Cond.fieldLink RX11 126 "KingTableModel" "side" "I", Cond.fieldLink RX11 30 "KingTableModel" "at" "[I", Cond.fieldLink RX11 135 "KingTableModel" "king" "I", Cond.fieldLink RX11 85 "KingTableModel" "again1" "I", Cond.methodLink RX11 154 yX11_make, Cond.instanceMethod yX11_make, Cond.selects RX11 yX11_make yX11_make, Cond.code yX11_make cX11_make 7 none, Cond.fieldLink RX11 33 "KingTableModel" "on" "[I", Cond.fieldLink RX11 103 "KingTableModel" "pieces" "I", Cond.fieldLink RX11 47 "KingTableModel" "taken" "[Z", Cond.fieldLink RX11 120 "KingTableModel" "tookMany" "I", Cond.methodLink RX11 92 yX11_along, Cond.instanceMethod yX11_along, Cond.selects RX11 yX11_along yX11_along]
def wsX11_again_r2 : List Cond := [Cond.code yX11_along cX11_along 7 (some .int), Cond.fieldLink RX11 13 "KingTableModel" "wide" "I", Cond.fieldLink RX11 7 "KingTableModel" "lines" "I", Cond.methodLink RX11 113 yX11_takes, Cond.instanceMethod yX11_takes, Cond.selects RX11 yX11_takes yX11_takes, Cond.code yX11_takes cX11_takes 2 (some .boolean), Cond.fieldLink RX11 27 "KingTableModel" "kind" "[I", Cond.fieldLink RX11 23 "KingTableModel" "kingTakes" "Z", Cond.methodLink RX11 106 yX11_sideOf, Cond.instanceMethod yX11_sideOf, Cond.selects RX11 yX11_sideOf yX11_sideOf, Cond.code yX11_sideOf cX11_sideOf 2 (some .int), Cond.methodLink RX11 123 yX11_isTaken, Cond.instanceMethod yX11_isTaken, Cond.selects RX11 yX11_isTaken yX11_isTaken, Cond.code yX11_isTaken cX11_isTaken 5 (some .boolean), Cond.fieldLink RX11 20 "KingTableModel" "hard" "I", Cond.methodLink RX11 117 yX11_isFoe, Cond.instanceMethod yX11_isFoe, Cond.selects RX11 yX11_isFoe yX11_isFoe, Cond.code yX11_isFoe cX11_isFoe 3 (some .boolean), Cond.fieldLink RX11 36 "KingTableModel" "ground" "[I", Cond.methodLink RX11 144 yX11_write]
def wsX11_again_r3 : List Cond := [Cond.instanceMethod yX11_write, Cond.selects RX11 yX11_write yX11_write, Cond.code yX11_write cX11_write 3 none, Cond.fieldLink RX11 43 "KingTableModel" "stood" "[B", Cond.methodLink RX11 129 yX11_row, Cond.instanceMethod yX11_row, Cond.selects RX11 yX11_row yX11_row, Cond.code yX11_row cX11_row 2 (some .int), Cond.methodLink RX11 148 yX11_isGoal, Cond.instanceMethod yX11_isGoal, Cond.selects RX11 yX11_isGoal yX11_isGoal, Cond.code yX11_isGoal cX11_isGoal 2 (some .boolean), Cond.fieldLink RX11 79 "KingTableModel" "goal" "I", Cond.methodLink RX11 88 yX11_fields, Cond.instanceMethod yX11_fields, Cond.selects RX11 yX11_fields yX11_fields, Cond.code yX11_fields cX11_fields 1 (some .int), Cond.methodLink RX11 151 yX11_canGo, Cond.instanceMethod yX11_canGo, Cond.selects RX11 yX11_canGo yX11_canGo, Cond.code yX11_canGo cX11_canGo 4 (some .boolean), Cond.methodLink RX11 110 yX11_movesOf, Cond.instanceMethod yX11_movesOf, Cond.selects RX11 yX11_movesOf yX11_movesOf]
def wsX11_again_r4 : List Cond := [Cond.code yX11_movesOf cX11_movesOf 5 (some .int), Cond.methodLink RX11 100 yX11_bar, Cond.instanceMethod yX11_bar, Cond.selects RX11 yX11_bar yX11_bar, Cond.code yX11_bar cX11_bar 6 (some .int), Cond.fieldLink RX11 82 "KingTableModel" "reach" "I", Cond.methodLink RX11 96 yX11_bears, Cond.instanceMethod yX11_bears, Cond.selects RX11 yX11_bears yX11_bears, Cond.code yX11_bears cX11_bears 3 (some .boolean), Cond.methodLink RX11 158 yX11_cameBack, Cond.instanceMethod yX11_cameBack, Cond.selects RX11 yX11_cameBack yX11_cameBack, Cond.code yX11_cameBack cX11_cameBack 4 (some .boolean), Cond.methodLink RX11 132 yX11_isAlike, Cond.instanceMethod yX11_isAlike, Cond.selects RX11 yX11_isAlike yX11_isAlike, Cond.code yX11_isAlike cX11_isAlike 5 (some .boolean)]
def wsX11_again : List Cond := .code yX11_again cX11_again 1 (some .boolean) :: ((wsX11_again_r1 ++ (wsX11_again_r2 ++ (wsX11_again_r3 ++ wsX11_again_r4))) ++ wsX110)
def wsX11_about : List Cond := .code yX11_about cX11_about 5 (some .int) :: ([.fieldLink RX11 73 "KingTableModel" "how" "I", .fieldLink RX11 126 "KingTableModel" "side" "I", .fieldLink RX11 103 "KingTableModel" "pieces" "I", .fieldLink RX11 30 "KingTableModel" "at" "[I", .fieldLink RX11 138 "KingTableModel" "done" "I", .fieldLink RX11 141 "KingTableModel" "undone" "I", .fieldLink RX11 7 "KingTableModel" "lines" "I", .fieldLink RX11 120 "KingTableModel" "tookMany" "I", .methodLink RX11 88 yX11_fields, .instanceMethod yX11_fields, .selects RX11 yX11_fields yX11_fields, .initialized RX11, .code yX11_fields cX11_fields 1 (some .int), .fieldLink RX11 13 "KingTableModel" "wide" "I"] ++ wsX110)
def wsX11_piece_r1 : List Cond := [Cond.fieldLink RX11 73 "KingTableModel" "how" "I", Cond.fieldLink RX11 103 "KingTableModel" "pieces" "I", Cond.fieldLink RX11 27 "KingTableModel" "kind" "[I", Cond.fieldLink RX11 30 "KingTableModel" "at" "[I", Cond.fieldLink RX11 126 "KingTableModel" "side" "I", Cond.methodLink RX11 69 yX11_isIn, Cond.static yX11_isIn, Cond.initialized RX11, Cond.code yX11_isIn cX11_isIn 3 (some .boolean), Cond.methodLink RX11 106 yX11_sideOf, Cond.instanceMethod yX11_sideOf, Cond.selects RX11 yX11_sideOf yX11_sideOf, Cond.code yX11_sideOf cX11_sideOf 2 (some .int), Cond.methodLink RX11 110 yX11_movesOf, Cond.instanceMethod yX11_movesOf, Cond.selects RX11 yX11_movesOf yX11_movesOf, Cond.code yX11_movesOf cX11_movesOf 5 (some .int), Cond.methodLink RX11 100 yX11_bar, Cond.instanceMethod yX11_bar, Cond.selects RX11 yX11_bar yX11_bar, Cond.code yX11_bar cX11_bar 6 (some .int), Cond.fieldLink RX11 82 "KingTableModel" "reach" "I", Cond.fieldLink RX11 33 "KingTableModel" "on" "[I", Cond.methodLink RX11 92 yX11_along]
def wsX11_piece_r2 : List Cond := [Cond.instanceMethod yX11_along, Cond.selects RX11 yX11_along yX11_along, Cond.code yX11_along cX11_along 7 (some .int), Cond.fieldLink RX11 13 "KingTableModel" "wide" "I", Cond.fieldLink RX11 7 "KingTableModel" "lines" "I", Cond.methodLink RX11 96 yX11_bears, Cond.instanceMethod yX11_bears, Cond.selects RX11 yX11_bears yX11_bears, Cond.code yX11_bears cX11_bears 3 (some .boolean), Cond.fieldLink RX11 36 "KingTableModel" "ground" "[I", Cond.methodLink RX11 113 yX11_takes, Cond.instanceMethod yX11_takes, Cond.selects RX11 yX11_takes yX11_takes, Cond.code yX11_takes cX11_takes 2 (some .boolean), Cond.fieldLink RX11 23 "KingTableModel" "kingTakes" "Z"]
def wsX11_piece : List Cond := .code yX11_piece cX11_piece 3 (some .int) :: ((wsX11_piece_r1 ++ wsX11_piece_r2) ++ wsX110)
def wsX11_on : List Cond := .code yX11_on cX11_on 2 (some .int) :: ([.fieldLink RX11 73 "KingTableModel" "how" "I", .fieldLink RX11 33 "KingTableModel" "on" "[I", .methodLink RX11 88 yX11_fields, .instanceMethod yX11_fields, .selects RX11 yX11_fields yX11_fields, .initialized RX11, .code yX11_fields cX11_fields 1 (some .int), .fieldLink RX11 7 "KingTableModel" "lines" "I", .fieldLink RX11 13 "KingTableModel" "wide" "I", .methodLink RX11 69 yX11_isIn, .static yX11_isIn, .code yX11_isIn cX11_isIn 3 (some .boolean)] ++ wsX110)
def wsX11_field : List Cond := .code yX11_field cX11_field 2 (some .int) :: ([.fieldLink RX11 73 "KingTableModel" "how" "I", .fieldLink RX11 36 "KingTableModel" "ground" "[I", .methodLink RX11 88 yX11_fields, .instanceMethod yX11_fields, .selects RX11 yX11_fields yX11_fields, .initialized RX11, .code yX11_fields cX11_fields 1 (some .int), .fieldLink RX11 7 "KingTableModel" "lines" "I", .fieldLink RX11 13 "KingTableModel" "wide" "I", .methodLink RX11 69 yX11_isIn, .static yX11_isIn, .code yX11_isIn cX11_isIn 3 (some .boolean), .methodLink RX11 148 yX11_isGoal, .instanceMethod yX11_isGoal, .selects RX11 yX11_isGoal yX11_isGoal, .code yX11_isGoal cX11_isGoal 2 (some .boolean), .fieldLink RX11 79 "KingTableModel" "goal" "I"] ++ wsX110)
def wsX11_took : List Cond := .code yX11_took cX11_took 4 (some .int) :: ([.fieldLink RX11 73 "KingTableModel" "how" "I", .fieldLink RX11 120 "KingTableModel" "tookMany" "I", .fieldLink RX11 103 "KingTableModel" "pieces" "I", .fieldLink RX11 47 "KingTableModel" "taken" "[Z"] ++ wsX110)
def wsX11_comesOut : List Cond := .code yX11_comesOut cX11_comesOut 7 (some .boolean) :: ([.fieldLink RX11 51 "KingTableModel" "met" "[Z", .fieldLink RX11 54 "KingTableModel" "queue" "[I", .fieldLink RX11 30 "KingTableModel" "at" "[I", .fieldLink RX11 135 "KingTableModel" "king" "I", .fieldLink RX11 33 "KingTableModel" "on" "[I", .methodLink RX11 148 yX11_isGoal, .instanceMethod yX11_isGoal, .selects RX11 yX11_isGoal yX11_isGoal, .initialized RX11, .code yX11_isGoal cX11_isGoal 2 (some .boolean), .fieldLink RX11 79 "KingTableModel" "goal" "I", .fieldLink RX11 36 "KingTableModel" "ground" "[I", .fieldLink RX11 13 "KingTableModel" "wide" "I", .methodLink RX11 88 yX11_fields, .instanceMethod yX11_fields, .selects RX11 yX11_fields yX11_fields, .code yX11_fields cX11_fields 1 (some .int), .fieldLink RX11 7 "KingTableModel" "lines" "I", .methodLink RX11 92 yX11_along, .instanceMethod yX11_along, .selects RX11 yX11_along yX11_along, .code yX11_along cX11_along 7 (some .int)] ++ wsX110)
def wsX11_ring_r1 : List Cond := [Cond.fieldLink RX11 73 "KingTableModel" "how" "I", Cond.fieldLink RX11 30 "KingTableModel" "at" "[I", Cond.fieldLink RX11 135 "KingTableModel" "king" "I", Cond.methodLink RX11 148 yX11_isGoal, Cond.instanceMethod yX11_isGoal, Cond.selects RX11 yX11_isGoal yX11_isGoal, Cond.initialized RX11, Cond.code yX11_isGoal cX11_isGoal 2 (some .boolean), Cond.fieldLink RX11 79 "KingTableModel" "goal" "I", Cond.fieldLink RX11 36 "KingTableModel" "ground" "[I", Cond.fieldLink RX11 13 "KingTableModel" "wide" "I", Cond.methodLink RX11 88 yX11_fields, Cond.instanceMethod yX11_fields, Cond.selects RX11 yX11_fields yX11_fields, Cond.code yX11_fields cX11_fields 1 (some .int), Cond.fieldLink RX11 7 "KingTableModel" "lines" "I", Cond.methodLink RX11 173 yX11_comesOut, Cond.instanceMethod yX11_comesOut, Cond.selects RX11 yX11_comesOut yX11_comesOut, Cond.code yX11_comesOut cX11_comesOut 7 (some .boolean), Cond.fieldLink RX11 51 "KingTableModel" "met" "[Z", Cond.fieldLink RX11 54 "KingTableModel" "queue" "[I", Cond.fieldLink RX11 33 "KingTableModel" "on" "[I", Cond.methodLink RX11 92 yX11_along]
def wsX11_ring_r2 : List Cond := [Cond.instanceMethod yX11_along, Cond.selects RX11 yX11_along yX11_along, Cond.code yX11_along cX11_along 7 (some .int)]
def wsX11_ring : List Cond := .code yX11_ring cX11_ring 1 (some .boolean) :: ((wsX11_ring_r1 ++ wsX11_ring_r2) ++ wsX110)
def wsX11_needed_r1 : List Cond := [Cond.fieldLink RX11 103 "KingTableModel" "pieces" "I", Cond.fieldLink RX11 30 "KingTableModel" "at" "[I", Cond.methodLink RX11 176 yX11_ring, Cond.instanceMethod yX11_ring, Cond.selects RX11 yX11_ring yX11_ring, Cond.initialized RX11, Cond.code yX11_ring cX11_ring 1 (some .boolean), Cond.fieldLink RX11 73 "KingTableModel" "how" "I", Cond.fieldLink RX11 135 "KingTableModel" "king" "I", Cond.methodLink RX11 148 yX11_isGoal, Cond.instanceMethod yX11_isGoal, Cond.selects RX11 yX11_isGoal yX11_isGoal, Cond.code yX11_isGoal cX11_isGoal 2 (some .boolean), Cond.fieldLink RX11 79 "KingTableModel" "goal" "I", Cond.fieldLink RX11 36 "KingTableModel" "ground" "[I", Cond.fieldLink RX11 13 "KingTableModel" "wide" "I", Cond.methodLink RX11 88 yX11_fields, Cond.instanceMethod yX11_fields, Cond.selects RX11 yX11_fields yX11_fields, Cond.code yX11_fields cX11_fields 1 (some .int), Cond.fieldLink RX11 7 "KingTableModel" "lines" "I", Cond.methodLink RX11 173 yX11_comesOut, Cond.instanceMethod yX11_comesOut, Cond.selects RX11 yX11_comesOut yX11_comesOut]
def wsX11_needed_r2 : List Cond := [Cond.code yX11_comesOut cX11_comesOut 7 (some .boolean), Cond.fieldLink RX11 51 "KingTableModel" "met" "[Z", Cond.fieldLink RX11 54 "KingTableModel" "queue" "[I", Cond.fieldLink RX11 33 "KingTableModel" "on" "[I", Cond.methodLink RX11 92 yX11_along, Cond.instanceMethod yX11_along, Cond.selects RX11 yX11_along yX11_along, Cond.code yX11_along cX11_along 7 (some .int), Cond.methodLink RX11 69 yX11_isIn, Cond.static yX11_isIn, Cond.code yX11_isIn cX11_isIn 3 (some .boolean), Cond.methodLink RX11 106 yX11_sideOf, Cond.instanceMethod yX11_sideOf, Cond.selects RX11 yX11_sideOf yX11_sideOf, Cond.code yX11_sideOf cX11_sideOf 2 (some .int), Cond.fieldLink RX11 27 "KingTableModel" "kind" "[I"]
def wsX11_needed : List Cond := .code yX11_needed cX11_needed 2 (some .boolean) :: ((wsX11_needed_r1 ++ wsX11_needed_r2) ++ wsX110)
def wsX11_stands : List Cond := .code yX11_stands cX11_stands 4 (some .long) :: ([.constantLong RX11 180 (2), .fieldLink RX11 103 "KingTableModel" "pieces" "I", .constantLong RX11 182 (10000), .methodLink RX11 88 yX11_fields, .instanceMethod yX11_fields, .selects RX11 yX11_fields yX11_fields, .initialized RX11, .code yX11_fields cX11_fields 1 (some .int), .fieldLink RX11 7 "KingTableModel" "lines" "I", .fieldLink RX11 13 "KingTableModel" "wide" "I"] ++ wsX110)
def wsX11_setUp : List Cond := .code yX11_setUp cX11_setUp 6 (some .boolean) :: ([.fieldLink RX11 126 "KingTableModel" "side" "I", .fieldLink RX11 33 "KingTableModel" "on" "[I", .fieldLink RX11 103 "KingTableModel" "pieces" "I", .fieldLink RX11 30 "KingTableModel" "at" "[I", .methodLink RX11 88 yX11_fields, .instanceMethod yX11_fields, .selects RX11 yX11_fields yX11_fields, .initialized RX11, .code yX11_fields cX11_fields 1 (some .int), .fieldLink RX11 7 "KingTableModel" "lines" "I", .fieldLink RX11 13 "KingTableModel" "wide" "I", .methodLink RX11 96 yX11_bears, .instanceMethod yX11_bears, .selects RX11 yX11_bears yX11_bears, .code yX11_bears cX11_bears 3 (some .boolean), .fieldLink RX11 36 "KingTableModel" "ground" "[I", .fieldLink RX11 27 "KingTableModel" "kind" "[I"] ++ wsX110)
def wsX11_number : List Cond := .code yX11_number cX11_number 3 (some .int) :: ([.fieldLink RX11 103 "KingTableModel" "pieces" "I", .fieldLink RX11 30 "KingTableModel" "at" "[I", .fieldLink RX11 126 "KingTableModel" "side" "I", .methodLink RX11 88 yX11_fields, .instanceMethod yX11_fields, .selects RX11 yX11_fields yX11_fields, .initialized RX11, .code yX11_fields cX11_fields 1 (some .int), .fieldLink RX11 7 "KingTableModel" "lines" "I", .fieldLink RX11 13 "KingTableModel" "wide" "I"] ++ wsX110)
def wsX11_endOf_r1 : List Cond := [Cond.fieldLink RX11 30 "KingTableModel" "at" "[I", Cond.fieldLink RX11 135 "KingTableModel" "king" "I", Cond.fieldLink RX11 126 "KingTableModel" "side" "I", Cond.methodLink RX11 148 yX11_isGoal, Cond.instanceMethod yX11_isGoal, Cond.selects RX11 yX11_isGoal yX11_isGoal, Cond.initialized RX11, Cond.code yX11_isGoal cX11_isGoal 2 (some .boolean), Cond.fieldLink RX11 79 "KingTableModel" "goal" "I", Cond.fieldLink RX11 36 "KingTableModel" "ground" "[I", Cond.fieldLink RX11 13 "KingTableModel" "wide" "I", Cond.methodLink RX11 88 yX11_fields, Cond.instanceMethod yX11_fields, Cond.selects RX11 yX11_fields yX11_fields, Cond.code yX11_fields cX11_fields 1 (some .int), Cond.fieldLink RX11 7 "KingTableModel" "lines" "I", Cond.methodLink RX11 151 yX11_canGo, Cond.instanceMethod yX11_canGo, Cond.selects RX11 yX11_canGo yX11_canGo, Cond.code yX11_canGo cX11_canGo 4 (some .boolean), Cond.fieldLink RX11 103 "KingTableModel" "pieces" "I", Cond.methodLink RX11 106 yX11_sideOf, Cond.instanceMethod yX11_sideOf, Cond.selects RX11 yX11_sideOf yX11_sideOf]
def wsX11_endOf_r2 : List Cond := [Cond.code yX11_sideOf cX11_sideOf 2 (some .int), Cond.fieldLink RX11 27 "KingTableModel" "kind" "[I", Cond.methodLink RX11 110 yX11_movesOf, Cond.instanceMethod yX11_movesOf, Cond.selects RX11 yX11_movesOf yX11_movesOf, Cond.code yX11_movesOf cX11_movesOf 5 (some .int), Cond.methodLink RX11 100 yX11_bar, Cond.instanceMethod yX11_bar, Cond.selects RX11 yX11_bar yX11_bar, Cond.code yX11_bar cX11_bar 6 (some .int), Cond.fieldLink RX11 82 "KingTableModel" "reach" "I", Cond.fieldLink RX11 33 "KingTableModel" "on" "[I", Cond.methodLink RX11 92 yX11_along, Cond.instanceMethod yX11_along, Cond.selects RX11 yX11_along yX11_along, Cond.code yX11_along cX11_along 7 (some .int), Cond.methodLink RX11 96 yX11_bears, Cond.instanceMethod yX11_bears, Cond.selects RX11 yX11_bears yX11_bears, Cond.code yX11_bears cX11_bears 3 (some .boolean)]
def wsX11_endOf : List Cond := .code yX11_endOf cX11_endOf 1 (some .int) :: ((wsX11_endOf_r1 ++ wsX11_endOf_r2) ++ wsX110)
def wsX11_tried_r1 : List Cond := [Cond.fieldLink RX11 103 "KingTableModel" "pieces" "I", Cond.fieldLink RX11 30 "KingTableModel" "at" "[I", Cond.fieldLink RX11 57 "KingTableModel" "worths" "[I", Cond.methodLink RX11 188 yX11_setUp, Cond.instanceMethod yX11_setUp, Cond.selects RX11 yX11_setUp yX11_setUp, Cond.initialized RX11, Cond.code yX11_setUp cX11_setUp 6 (some .boolean), Cond.fieldLink RX11 126 "KingTableModel" "side" "I", Cond.fieldLink RX11 33 "KingTableModel" "on" "[I", Cond.methodLink RX11 88 yX11_fields, Cond.instanceMethod yX11_fields, Cond.selects RX11 yX11_fields yX11_fields, Cond.code yX11_fields cX11_fields 1 (some .int), Cond.fieldLink RX11 7 "KingTableModel" "lines" "I", Cond.fieldLink RX11 13 "KingTableModel" "wide" "I", Cond.methodLink RX11 96 yX11_bears, Cond.instanceMethod yX11_bears, Cond.selects RX11 yX11_bears yX11_bears, Cond.code yX11_bears cX11_bears 3 (some .boolean), Cond.fieldLink RX11 36 "KingTableModel" "ground" "[I", Cond.fieldLink RX11 27 "KingTableModel" "kind" "[I", Cond.methodLink RX11 106 yX11_sideOf, Cond.instanceMethod yX11_sideOf]
def wsX11_tried_r2 : List Cond := [Cond.selects RX11 yX11_sideOf yX11_sideOf, Cond.code yX11_sideOf cX11_sideOf 2 (some .int), Cond.methodLink RX11 100 yX11_bar, Cond.instanceMethod yX11_bar, Cond.selects RX11 yX11_bar yX11_bar, Cond.code yX11_bar cX11_bar 6 (some .int), Cond.fieldLink RX11 82 "KingTableModel" "reach" "I", Cond.methodLink RX11 92 yX11_along, Cond.instanceMethod yX11_along, Cond.selects RX11 yX11_along yX11_along, Cond.code yX11_along cX11_along 7 (some .int), Cond.methodLink RX11 154 yX11_make, Cond.instanceMethod yX11_make, Cond.selects RX11 yX11_make yX11_make, Cond.code yX11_make cX11_make 7 none, Cond.fieldLink RX11 47 "KingTableModel" "taken" "[Z", Cond.fieldLink RX11 120 "KingTableModel" "tookMany" "I", Cond.methodLink RX11 113 yX11_takes, Cond.instanceMethod yX11_takes, Cond.selects RX11 yX11_takes yX11_takes, Cond.code yX11_takes cX11_takes 2 (some .boolean), Cond.fieldLink RX11 23 "KingTableModel" "kingTakes" "Z", Cond.methodLink RX11 123 yX11_isTaken, Cond.instanceMethod yX11_isTaken]
def wsX11_tried_r3 : List Cond := [Cond.selects RX11 yX11_isTaken yX11_isTaken, Cond.code yX11_isTaken cX11_isTaken 5 (some .boolean), Cond.fieldLink RX11 20 "KingTableModel" "hard" "I", Cond.methodLink RX11 117 yX11_isFoe, Cond.instanceMethod yX11_isFoe, Cond.selects RX11 yX11_isFoe yX11_isFoe, Cond.code yX11_isFoe cX11_isFoe 3 (some .boolean), Cond.methodLink RX11 197 yX11_number, Cond.instanceMethod yX11_number, Cond.selects RX11 yX11_number yX11_number, Cond.code yX11_number cX11_number 3 (some .int)]
def wsX11_tried : List Cond := .code yX11_tried cX11_tried 8 (some .int) :: ((wsX11_tried_r1 ++ (wsX11_tried_r2 ++ wsX11_tried_r3)) ++ wsX110)
def wsX11_solve_r1 : List Cond := [Cond.fieldLink RX11 73 "KingTableModel" "how" "I", Cond.constantLong RX11 182 (10000), Cond.fieldLink RX11 57 "KingTableModel" "worths" "[I", Cond.fieldLink RX11 60 "KingTableModel" "deeps" "[I", Cond.fieldLink RX11 66 "KingTableModel" "fresh" "[I", Cond.fieldLink RX11 138 "KingTableModel" "done" "I", Cond.fieldLink RX11 76 "KingTableModel" "solved" "Z", Cond.methodLink RX11 184 yX11_stands, Cond.instanceMethod yX11_stands, Cond.selects RX11 yX11_stands yX11_stands, Cond.initialized RX11, Cond.code yX11_stands cX11_stands 4 (some .long), Cond.constantLong RX11 180 (2), Cond.fieldLink RX11 103 "KingTableModel" "pieces" "I", Cond.methodLink RX11 88 yX11_fields, Cond.instanceMethod yX11_fields, Cond.selects RX11 yX11_fields yX11_fields, Cond.code yX11_fields cX11_fields 1 (some .int), Cond.fieldLink RX11 7 "KingTableModel" "lines" "I", Cond.fieldLink RX11 13 "KingTableModel" "wide" "I", Cond.methodLink RX11 188 yX11_setUp, Cond.instanceMethod yX11_setUp, Cond.selects RX11 yX11_setUp yX11_setUp, Cond.code yX11_setUp cX11_setUp 6 (some .boolean)]
def wsX11_solve_r2 : List Cond := [Cond.fieldLink RX11 126 "KingTableModel" "side" "I", Cond.fieldLink RX11 33 "KingTableModel" "on" "[I", Cond.fieldLink RX11 30 "KingTableModel" "at" "[I", Cond.methodLink RX11 96 yX11_bears, Cond.instanceMethod yX11_bears, Cond.selects RX11 yX11_bears yX11_bears, Cond.code yX11_bears cX11_bears 3 (some .boolean), Cond.fieldLink RX11 36 "KingTableModel" "ground" "[I", Cond.fieldLink RX11 27 "KingTableModel" "kind" "[I", Cond.methodLink RX11 191 yX11_endOf, Cond.instanceMethod yX11_endOf, Cond.selects RX11 yX11_endOf yX11_endOf, Cond.code yX11_endOf cX11_endOf 1 (some .int), Cond.fieldLink RX11 135 "KingTableModel" "king" "I", Cond.methodLink RX11 148 yX11_isGoal, Cond.instanceMethod yX11_isGoal, Cond.selects RX11 yX11_isGoal yX11_isGoal, Cond.code yX11_isGoal cX11_isGoal 2 (some .boolean), Cond.fieldLink RX11 79 "KingTableModel" "goal" "I", Cond.methodLink RX11 151 yX11_canGo, Cond.instanceMethod yX11_canGo, Cond.selects RX11 yX11_canGo yX11_canGo, Cond.code yX11_canGo cX11_canGo 4 (some .boolean), Cond.methodLink RX11 106 yX11_sideOf]
def wsX11_solve_r3 : List Cond := [Cond.instanceMethod yX11_sideOf, Cond.selects RX11 yX11_sideOf yX11_sideOf, Cond.code yX11_sideOf cX11_sideOf 2 (some .int), Cond.methodLink RX11 110 yX11_movesOf, Cond.instanceMethod yX11_movesOf, Cond.selects RX11 yX11_movesOf yX11_movesOf, Cond.code yX11_movesOf cX11_movesOf 5 (some .int), Cond.methodLink RX11 100 yX11_bar, Cond.instanceMethod yX11_bar, Cond.selects RX11 yX11_bar yX11_bar, Cond.code yX11_bar cX11_bar 6 (some .int), Cond.fieldLink RX11 82 "KingTableModel" "reach" "I", Cond.methodLink RX11 92 yX11_along, Cond.instanceMethod yX11_along, Cond.selects RX11 yX11_along yX11_along, Cond.code yX11_along cX11_along 7 (some .int), Cond.methodLink RX11 194 yX11_tried, Cond.instanceMethod yX11_tried, Cond.selects RX11 yX11_tried yX11_tried, Cond.code yX11_tried cX11_tried 8 (some .int), Cond.methodLink RX11 154 yX11_make, Cond.instanceMethod yX11_make, Cond.selects RX11 yX11_make yX11_make, Cond.code yX11_make cX11_make 7 none]
def wsX11_solve_r4 : List Cond := [Cond.fieldLink RX11 47 "KingTableModel" "taken" "[Z", Cond.fieldLink RX11 120 "KingTableModel" "tookMany" "I", Cond.methodLink RX11 113 yX11_takes, Cond.instanceMethod yX11_takes, Cond.selects RX11 yX11_takes yX11_takes, Cond.code yX11_takes cX11_takes 2 (some .boolean), Cond.fieldLink RX11 23 "KingTableModel" "kingTakes" "Z", Cond.methodLink RX11 123 yX11_isTaken, Cond.instanceMethod yX11_isTaken, Cond.selects RX11 yX11_isTaken yX11_isTaken, Cond.code yX11_isTaken cX11_isTaken 5 (some .boolean), Cond.fieldLink RX11 20 "KingTableModel" "hard" "I", Cond.methodLink RX11 117 yX11_isFoe, Cond.instanceMethod yX11_isFoe, Cond.selects RX11 yX11_isFoe yX11_isFoe, Cond.code yX11_isFoe cX11_isFoe 3 (some .boolean), Cond.methodLink RX11 197 yX11_number, Cond.instanceMethod yX11_number, Cond.selects RX11 yX11_number yX11_number, Cond.code yX11_number cX11_number 3 (some .int), Cond.methodLink RX11 161 yX11_read, Cond.instanceMethod yX11_read, Cond.selects RX11 yX11_read yX11_read, Cond.code yX11_read cX11_read 3 none]
def wsX11_solve_r5 : List Cond := [Cond.fieldLink RX11 43 "KingTableModel" "stood" "[B", Cond.methodLink RX11 129 yX11_row, Cond.instanceMethod yX11_row, Cond.selects RX11 yX11_row yX11_row, Cond.code yX11_row cX11_row 2 (some .int), Cond.methodLink RX11 164 yX11_lookAgain, Cond.instanceMethod yX11_lookAgain, Cond.selects RX11 yX11_lookAgain yX11_lookAgain, Cond.code yX11_lookAgain cX11_lookAgain 2 none]
def wsX11_solve : List Cond := .code yX11_solve cX11_solve 6 (some .int) :: ((wsX11_solve_r1 ++ (wsX11_solve_r2 ++ (wsX11_solve_r3 ++ (wsX11_solve_r4 ++ wsX11_solve_r5)))) ++ wsX110)
def wsX11_leads_r1 : List Cond := [Cond.fieldLink RX11 30 "KingTableModel" "at" "[I", Cond.fieldLink RX11 126 "KingTableModel" "side" "I", Cond.methodLink RX11 188 yX11_setUp, Cond.instanceMethod yX11_setUp, Cond.selects RX11 yX11_setUp yX11_setUp, Cond.initialized RX11, Cond.code yX11_setUp cX11_setUp 6 (some .boolean), Cond.fieldLink RX11 33 "KingTableModel" "on" "[I", Cond.fieldLink RX11 103 "KingTableModel" "pieces" "I", Cond.methodLink RX11 88 yX11_fields, Cond.instanceMethod yX11_fields, Cond.selects RX11 yX11_fields yX11_fields, Cond.code yX11_fields cX11_fields 1 (some .int), Cond.fieldLink RX11 7 "KingTableModel" "lines" "I", Cond.fieldLink RX11 13 "KingTableModel" "wide" "I", Cond.methodLink RX11 96 yX11_bears, Cond.instanceMethod yX11_bears, Cond.selects RX11 yX11_bears yX11_bears, Cond.code yX11_bears cX11_bears 3 (some .boolean), Cond.fieldLink RX11 36 "KingTableModel" "ground" "[I", Cond.fieldLink RX11 27 "KingTableModel" "kind" "[I", Cond.methodLink RX11 106 yX11_sideOf, Cond.instanceMethod yX11_sideOf, Cond.selects RX11 yX11_sideOf yX11_sideOf]
def wsX11_leads_r2 : List Cond := [Cond.code yX11_sideOf cX11_sideOf 2 (some .int), Cond.methodLink RX11 100 yX11_bar, Cond.instanceMethod yX11_bar, Cond.selects RX11 yX11_bar yX11_bar, Cond.code yX11_bar cX11_bar 6 (some .int), Cond.fieldLink RX11 82 "KingTableModel" "reach" "I", Cond.methodLink RX11 92 yX11_along, Cond.instanceMethod yX11_along, Cond.selects RX11 yX11_along yX11_along, Cond.code yX11_along cX11_along 7 (some .int), Cond.methodLink RX11 154 yX11_make, Cond.instanceMethod yX11_make, Cond.selects RX11 yX11_make yX11_make, Cond.code yX11_make cX11_make 7 none, Cond.fieldLink RX11 47 "KingTableModel" "taken" "[Z", Cond.fieldLink RX11 120 "KingTableModel" "tookMany" "I", Cond.methodLink RX11 113 yX11_takes, Cond.instanceMethod yX11_takes, Cond.selects RX11 yX11_takes yX11_takes, Cond.code yX11_takes cX11_takes 2 (some .boolean), Cond.fieldLink RX11 23 "KingTableModel" "kingTakes" "Z", Cond.methodLink RX11 123 yX11_isTaken, Cond.instanceMethod yX11_isTaken, Cond.selects RX11 yX11_isTaken yX11_isTaken]
def wsX11_leads_r3 : List Cond := [Cond.code yX11_isTaken cX11_isTaken 5 (some .boolean), Cond.fieldLink RX11 20 "KingTableModel" "hard" "I", Cond.methodLink RX11 117 yX11_isFoe, Cond.instanceMethod yX11_isFoe, Cond.selects RX11 yX11_isFoe yX11_isFoe, Cond.code yX11_isFoe cX11_isFoe 3 (some .boolean), Cond.methodLink RX11 197 yX11_number, Cond.instanceMethod yX11_number, Cond.selects RX11 yX11_number yX11_number, Cond.code yX11_number cX11_number 3 (some .int)]
def wsX11_leads : List Cond := .code yX11_leads cX11_leads 5 (some .int) :: ((wsX11_leads_r1 ++ (wsX11_leads_r2 ++ wsX11_leads_r3)) ++ wsX110)
def wsX11_worth : List Cond := .code yX11_worth cX11_worth 1 (some .int) :: ([.fieldLink RX11 76 "KingTableModel" "solved" "Z", .fieldLink RX11 57 "KingTableModel" "worths" "[I", .methodLink RX11 197 yX11_number, .instanceMethod yX11_number, .selects RX11 yX11_number yX11_number, .initialized RX11, .code yX11_number cX11_number 3 (some .int), .fieldLink RX11 103 "KingTableModel" "pieces" "I", .fieldLink RX11 30 "KingTableModel" "at" "[I", .fieldLink RX11 126 "KingTableModel" "side" "I", .methodLink RX11 88 yX11_fields, .instanceMethod yX11_fields, .selects RX11 yX11_fields yX11_fields, .code yX11_fields cX11_fields 1 (some .int), .fieldLink RX11 7 "KingTableModel" "lines" "I", .fieldLink RX11 13 "KingTableModel" "wide" "I"] ++ wsX110)
def wsX11_deep : List Cond := .code yX11_deep cX11_deep 1 (some .int) :: ([.fieldLink RX11 76 "KingTableModel" "solved" "Z", .fieldLink RX11 60 "KingTableModel" "deeps" "[I", .methodLink RX11 197 yX11_number, .instanceMethod yX11_number, .selects RX11 yX11_number yX11_number, .initialized RX11, .code yX11_number cX11_number 3 (some .int), .fieldLink RX11 103 "KingTableModel" "pieces" "I", .fieldLink RX11 30 "KingTableModel" "at" "[I", .fieldLink RX11 126 "KingTableModel" "side" "I", .methodLink RX11 88 yX11_fields, .instanceMethod yX11_fields, .selects RX11 yX11_fields yX11_fields, .code yX11_fields cX11_fields 1 (some .int), .fieldLink RX11 7 "KingTableModel" "lines" "I", .fieldLink RX11 13 "KingTableModel" "wide" "I"] ++ wsX110)
def wsX11_best_r1 : List Cond := [Cond.fieldLink RX11 76 "KingTableModel" "solved" "Z", Cond.fieldLink RX11 103 "KingTableModel" "pieces" "I", Cond.fieldLink RX11 57 "KingTableModel" "worths" "[I", Cond.fieldLink RX11 60 "KingTableModel" "deeps" "[I", Cond.fieldLink RX11 138 "KingTableModel" "done" "I", Cond.methodLink RX11 197 yX11_number, Cond.instanceMethod yX11_number, Cond.selects RX11 yX11_number yX11_number, Cond.initialized RX11, Cond.code yX11_number cX11_number 3 (some .int), Cond.fieldLink RX11 30 "KingTableModel" "at" "[I", Cond.fieldLink RX11 126 "KingTableModel" "side" "I", Cond.methodLink RX11 88 yX11_fields, Cond.instanceMethod yX11_fields, Cond.selects RX11 yX11_fields yX11_fields, Cond.code yX11_fields cX11_fields 1 (some .int), Cond.fieldLink RX11 7 "KingTableModel" "lines" "I", Cond.fieldLink RX11 13 "KingTableModel" "wide" "I", Cond.methodLink RX11 191 yX11_endOf, Cond.instanceMethod yX11_endOf, Cond.selects RX11 yX11_endOf yX11_endOf, Cond.code yX11_endOf cX11_endOf 1 (some .int), Cond.fieldLink RX11 135 "KingTableModel" "king" "I", Cond.methodLink RX11 148 yX11_isGoal]
def wsX11_best_r2 : List Cond := [Cond.instanceMethod yX11_isGoal, Cond.selects RX11 yX11_isGoal yX11_isGoal, Cond.code yX11_isGoal cX11_isGoal 2 (some .boolean), Cond.fieldLink RX11 79 "KingTableModel" "goal" "I", Cond.fieldLink RX11 36 "KingTableModel" "ground" "[I", Cond.methodLink RX11 151 yX11_canGo, Cond.instanceMethod yX11_canGo, Cond.selects RX11 yX11_canGo yX11_canGo, Cond.code yX11_canGo cX11_canGo 4 (some .boolean), Cond.methodLink RX11 106 yX11_sideOf, Cond.instanceMethod yX11_sideOf, Cond.selects RX11 yX11_sideOf yX11_sideOf, Cond.code yX11_sideOf cX11_sideOf 2 (some .int), Cond.fieldLink RX11 27 "KingTableModel" "kind" "[I", Cond.methodLink RX11 110 yX11_movesOf, Cond.instanceMethod yX11_movesOf, Cond.selects RX11 yX11_movesOf yX11_movesOf, Cond.code yX11_movesOf cX11_movesOf 5 (some .int), Cond.methodLink RX11 100 yX11_bar, Cond.instanceMethod yX11_bar, Cond.selects RX11 yX11_bar yX11_bar, Cond.code yX11_bar cX11_bar 6 (some .int), Cond.fieldLink RX11 82 "KingTableModel" "reach" "I", Cond.fieldLink RX11 33 "KingTableModel" "on" "[I"]
def wsX11_best_r3 : List Cond := [Cond.methodLink RX11 92 yX11_along, Cond.instanceMethod yX11_along, Cond.selects RX11 yX11_along yX11_along, Cond.code yX11_along cX11_along 7 (some .int), Cond.methodLink RX11 96 yX11_bears, Cond.instanceMethod yX11_bears, Cond.selects RX11 yX11_bears yX11_bears, Cond.code yX11_bears cX11_bears 3 (some .boolean), Cond.methodLink RX11 200 yX11_leads, Cond.instanceMethod yX11_leads, Cond.selects RX11 yX11_leads yX11_leads, Cond.code yX11_leads cX11_leads 5 (some .int), Cond.methodLink RX11 188 yX11_setUp, Cond.instanceMethod yX11_setUp, Cond.selects RX11 yX11_setUp yX11_setUp, Cond.code yX11_setUp cX11_setUp 6 (some .boolean), Cond.methodLink RX11 154 yX11_make, Cond.instanceMethod yX11_make, Cond.selects RX11 yX11_make yX11_make, Cond.code yX11_make cX11_make 7 none, Cond.fieldLink RX11 47 "KingTableModel" "taken" "[Z", Cond.fieldLink RX11 120 "KingTableModel" "tookMany" "I", Cond.methodLink RX11 113 yX11_takes, Cond.instanceMethod yX11_takes]
def wsX11_best_r4 : List Cond := [Cond.selects RX11 yX11_takes yX11_takes, Cond.code yX11_takes cX11_takes 2 (some .boolean), Cond.fieldLink RX11 23 "KingTableModel" "kingTakes" "Z", Cond.methodLink RX11 123 yX11_isTaken, Cond.instanceMethod yX11_isTaken, Cond.selects RX11 yX11_isTaken yX11_isTaken, Cond.code yX11_isTaken cX11_isTaken 5 (some .boolean), Cond.fieldLink RX11 20 "KingTableModel" "hard" "I", Cond.methodLink RX11 117 yX11_isFoe, Cond.instanceMethod yX11_isFoe, Cond.selects RX11 yX11_isFoe yX11_isFoe, Cond.code yX11_isFoe cX11_isFoe 3 (some .boolean), Cond.methodLink RX11 161 yX11_read, Cond.instanceMethod yX11_read, Cond.selects RX11 yX11_read yX11_read, Cond.code yX11_read cX11_read 3 none, Cond.fieldLink RX11 43 "KingTableModel" "stood" "[B", Cond.methodLink RX11 129 yX11_row, Cond.instanceMethod yX11_row, Cond.selects RX11 yX11_row yX11_row, Cond.code yX11_row cX11_row 2 (some .int), Cond.methodLink RX11 164 yX11_lookAgain, Cond.instanceMethod yX11_lookAgain, Cond.selects RX11 yX11_lookAgain yX11_lookAgain]
def wsX11_best_r5 : List Cond := [Cond.code yX11_lookAgain cX11_lookAgain 2 none]
def wsX11_best : List Cond := .code yX11_best cX11_best 9 (some .int) :: ((wsX11_best_r1 ++ (wsX11_best_r2 ++ (wsX11_best_r3 ++ (wsX11_best_r4 ++ wsX11_best_r5)))) ++ wsX110)
def wsX11_count : List Cond := .code yX11_count cX11_count 5 (some .int) :: ([.fieldLink RX11 76 "KingTableModel" "solved" "Z", .fieldLink RX11 57 "KingTableModel" "worths" "[I", .methodLink RX11 69 yX11_isIn, .static yX11_isIn, .initialized RX11, .code yX11_isIn cX11_isIn 3 (some .boolean), .methodLink RX11 184 yX11_stands, .instanceMethod yX11_stands, .selects RX11 yX11_stands yX11_stands, .code yX11_stands cX11_stands 4 (some .long), .constantLong RX11 180 (2), .fieldLink RX11 103 "KingTableModel" "pieces" "I", .constantLong RX11 182 (10000), .methodLink RX11 88 yX11_fields, .instanceMethod yX11_fields, .selects RX11 yX11_fields yX11_fields, .code yX11_fields cX11_fields 1 (some .int), .fieldLink RX11 7 "KingTableModel" "lines" "I", .fieldLink RX11 13 "KingTableModel" "wide" "I"] ++ wsX110)
def wsX11_most : List Cond := .code yX11_most cX11_most 4 (some .int) :: ([.fieldLink RX11 76 "KingTableModel" "solved" "Z", .fieldLink RX11 57 "KingTableModel" "worths" "[I", .fieldLink RX11 60 "KingTableModel" "deeps" "[I", .methodLink RX11 204 Lib.Math.max.name, .static Lib.Math.max.name, .initialized "java/lang/Math", .code Lib.Math.max.name Lib.Math.max.code 2 (some .int), .methodLink RX11 69 yX11_isIn, .static yX11_isIn, .initialized RX11, .code yX11_isIn cX11_isIn 3 (some .boolean), .methodLink RX11 184 yX11_stands, .instanceMethod yX11_stands, .selects RX11 yX11_stands yX11_stands, .code yX11_stands cX11_stands 4 (some .long), .constantLong RX11 180 (2), .fieldLink RX11 103 "KingTableModel" "pieces" "I", .constantLong RX11 182 (10000), .methodLink RX11 88 yX11_fields, .instanceMethod yX11_fields, .selects RX11 yX11_fields yX11_fields, .code yX11_fields cX11_fields 1 (some .int), .fieldLink RX11 7 "KingTableModel" "lines" "I", .fieldLink RX11 13 "KingTableModel" "wide" "I"] ++ wsX110)
def wsX11_stand : List Cond := .code yX11_stand cX11_stand 4 (some .int) :: ([.fieldLink RX11 76 "KingTableModel" "solved" "Z", .constantLong RX11 180 (2), .fieldLink RX11 57 "KingTableModel" "worths" "[I", .methodLink RX11 69 yX11_isIn, .static yX11_isIn, .initialized RX11, .code yX11_isIn cX11_isIn 3 (some .boolean), .methodLink RX11 184 yX11_stands, .instanceMethod yX11_stands, .selects RX11 yX11_stands yX11_stands, .code yX11_stands cX11_stands 4 (some .long), .fieldLink RX11 103 "KingTableModel" "pieces" "I", .constantLong RX11 182 (10000), .methodLink RX11 88 yX11_fields, .instanceMethod yX11_fields, .selects RX11 yX11_fields yX11_fields, .code yX11_fields cX11_fields 1 (some .int), .fieldLink RX11 7 "KingTableModel" "lines" "I", .fieldLink RX11 13 "KingTableModel" "wide" "I"] ++ wsX110)
def wsJ9_max_7cf53 : List Cond := .code yJ9_max_7cf53 cJ9_max_7cf53 2 (some .int) :: ([])
def wsJ9_min_7cf53 : List Cond := .code yJ9_min_7cf53 cJ9_min_7cf53 2 (some .int) :: ([])
def wsL_law_r1 : List Cond := [Cond.classLink RL 7 RX10, Cond.instantiable RX10 6, Cond.initialized RX10, Cond.classLink RL 10 RX11, Cond.instantiable RX11 29, Cond.initialized RX11, Cond.methodLink RL 9 yX10_init, Cond.instanceMethod yX10_init, Cond.code yX10_init cX10_init 1 none, Cond.methodLink RX10 1 objectInit, Cond.instanceMethod objectInit, Cond.code objectInit ⟨#[0xb1]⟩ 1 none, Cond.classLink RX10 7 RX9, Cond.instantiable RX9 3, Cond.initialized RX9, Cond.fieldLink RX10 10 "KingTable" "told" "LKingTable$Told;", Cond.classLink RX10 16 RX1, Cond.instantiable RX1 5, Cond.initialized RX1, Cond.fieldLink RX10 19 "KingTable" "laws" "LKingTable$Laws;", Cond.classLink RX10 23 RX6, Cond.instantiable RX6 9, Cond.initialized RX6, Cond.fieldLink RX10 28 "KingTable" "rules" "LKingTable$Rules;"]
def wsL_law_r2 : List Cond := [Cond.classLink RX10 32 RX4, Cond.instantiable RX4 5, Cond.initialized RX4, Cond.fieldLink RX10 37 "KingTable" "play" "LKingTable$Play;", Cond.classLink RX10 41 RX5, Cond.instantiable RX5 3, Cond.initialized RX5, Cond.fieldLink RX10 46 "KingTable" "hold" "LKingTable$Ring;", Cond.classLink RX10 50 RX7, Cond.instantiable RX7 15, Cond.initialized RX7, Cond.fieldLink RX10 53 "KingTable" "solver" "LKingTable$Solver;", Cond.instanceMethod yX9_init, Cond.code yX9_init cX9_init 1 none, Cond.methodLink RX9 3 objectInit, Cond.arrayClass .int, Cond.fieldLink RX9 9 "KingTable$Told" "signs" "[I", Cond.fieldLink RX9 15 "KingTable$Told" "lines" "I", Cond.fieldLink RX9 19 "KingTable$Told" "width" "I", Cond.instanceMethod yX1_init, Cond.code yX1_init cX1_init 1 none, Cond.methodLink RX1 1 objectInit, Cond.fieldLink RX1 7 "KingTable$Laws" "goal" "I", Cond.fieldLink RX1 13 "KingTable$Laws" "hard" "I"]
def wsL_law_r3 : List Cond := [Cond.fieldLink RX1 16 "KingTable$Laws" "kingTakes" "Z", Cond.fieldLink RX1 20 "KingTable$Laws" "reach" "I", Cond.fieldLink RX1 23 "KingTable$Laws" "comeback" "I", Cond.methodLink RX10 25 yX6_init, Cond.instanceMethod yX6_init, Cond.code yX6_init cX6_init 2 none, Cond.methodLink RX6 3 objectInit, Cond.classLink RX6 9 RX0, Cond.instantiable RX0 5, Cond.initialized RX0, Cond.fieldLink RX6 12 "KingTable$Rules" "ground" "LKingTable$Ground;", Cond.fieldLink RX6 18 "KingTable$Rules" "kinds" "[I", Cond.fieldLink RX6 22 "KingTable$Rules" "sides" "[I", Cond.arrayClass .boolean, Cond.fieldLink RX6 25 "KingTable$Rules" "takers" "[Z", Cond.fieldLink RX6 29 "KingTable$Rules" "king" "I", Cond.fieldLink RX6 33 "KingTable$Rules" "victims" "[I", Cond.fieldLink RX6 36 "KingTable$Rules" "laws" "LKingTable$Laws;", Cond.instanceMethod yX0_init, Cond.code yX0_init cX0_init 1 none, Cond.methodLink RX0 3 objectInit, Cond.fieldLink RX0 9 "KingTable$Ground" "types" "[I", Cond.fieldLink RX0 15 "KingTable$Ground" "goals" "[Z", Cond.fieldLink RX0 19 "KingTable$Ground" "neighbours" "[I"]
def wsL_law_r4 : List Cond := [Cond.methodLink RX10 34 yX4_init, Cond.instanceMethod yX4_init, Cond.code yX4_init cX4_init 3 none, Cond.methodLink RX4 3 objectInit, Cond.classLink RX4 9 RX8, Cond.instantiable RX8 3, Cond.initialized RX8, Cond.fieldLink RX4 12 "KingTable$Play" "now" "LKingTable$Stand;", Cond.classLink RX4 18 RX3, Cond.instantiable RX3 9, Cond.initialized RX3, Cond.fieldLink RX4 21 "KingTable$Play" "log" "LKingTable$Log;", Cond.fieldLink RX4 25 "KingTable$Play" "state" "I", Cond.fieldLink RX4 29 "KingTable$Play" "laws" "LKingTable$Laws;", Cond.fieldLink RX4 33 "KingTable$Play" "rules" "LKingTable$Rules;", Cond.methodLink RX4 11 yX8_init, Cond.instanceMethod yX8_init, Cond.code yX8_init cX8_init 1 none, Cond.methodLink RX8 3 objectInit, Cond.fieldLink RX8 9 "KingTable$Stand" "fields" "[I", Cond.fieldLink RX8 15 "KingTable$Stand" "holders" "[I", Cond.methodLink RX8 18 yX8_clear, Cond.instanceMethod yX8_clear, Cond.selects RX8 yX8_clear yX8_clear]
def wsL_law_r5 : List Cond := [Cond.code yX8_clear cX8_clear 1 none, Cond.fieldLink RX8 27 "KingTable$Stand" "turn" "I", Cond.methodLink RX8 21 yJ7_fill_53178, Cond.static yJ7_fill_53178, Cond.initialized RJ7, Cond.code yJ7_fill_53178 cJ7_fill_53178 4 none, Cond.instanceMethod yX3_init, Cond.code yX3_init cX3_init 1 none, Cond.methodLink RX3 3 objectInit, Cond.fieldLink RX3 9 "KingTable$Log" "movers" "[I", Cond.fieldLink RX3 15 "KingTable$Log" "froms" "[I", Cond.fieldLink RX3 18 "KingTable$Log" "tos" "[I", Cond.fieldLink RX3 21 "KingTable$Log" "takings" "[I", Cond.fieldLink RX3 24 "KingTable$Log" "victims" "[I", Cond.fieldLink RX3 27 "KingTable$Log" "victimFields" "[I", Cond.fieldLink RX3 30 "KingTable$Log" "then" "[I", Cond.methodLink RX10 43 yX5_init, Cond.instanceMethod yX5_init, Cond.code yX5_init cX5_init 2 none, Cond.methodLink RX5 3 objectInit, Cond.fieldLink RX5 9 "KingTable$Ring" "reached" "[I", Cond.fieldLink RX5 15 "KingTable$Ring" "seen" "[Z", Cond.fieldLink RX5 19 "KingTable$Ring" "rules" "LKingTable$Rules;", Cond.methodLink RX10 52 yX7_init]
def wsL_law_r6 : List Cond := [Cond.instanceMethod yX7_init, Cond.code yX7_init cX7_init 2 none, Cond.methodLink RX7 3 objectInit, Cond.classLink RX7 9 RX8, Cond.fieldLink RX7 12 "KingTable$Solver" "trial" "LKingTable$Stand;", Cond.classLink RX7 18 RX2, Cond.instantiable RX2 4, Cond.initialized RX2, Cond.fieldLink RX7 21 "KingTable$Solver" "links" "LKingTable$Links;", Cond.fieldLink RX7 25 "KingTable$Solver" "powers" "[I", Cond.fieldLink RX7 29 "KingTable$Solver" "digits" "[I", Cond.fieldLink RX7 32 "KingTable$Solver" "tallies" "[I", Cond.fieldLink RX7 35 "KingTable$Solver" "greatest" "[I", Cond.fieldLink RX7 38 "KingTable$Solver" "worths" "[I", Cond.fieldLink RX7 41 "KingTable$Solver" "deeps" "[I", Cond.fieldLink RX7 44 "KingTable$Solver" "open" "[I", Cond.fieldLink RX7 47 "KingTable$Solver" "queue" "[I", Cond.fieldLink RX7 50 "KingTable$Solver" "rules" "LKingTable$Rules;", Cond.methodLink RX7 11 yX8_init, Cond.instanceMethod yX2_init, Cond.code yX2_init cX2_init 1 none, Cond.methodLink RX2 3 objectInit, Cond.fieldLink RX2 9 "KingTable$Links" "heads" "[I", Cond.fieldLink RX2 15 "KingTable$Links" "sources" "[I"]
def wsL_law_r7 : List Cond := [Cond.fieldLink RX2 18 "KingTable$Links" "nexts" "[I", Cond.methodLink RL 12 yX11_init, Cond.instanceMethod yX11_init, Cond.code yX11_init cX11_init 1 none, Cond.methodLink RX11 1 objectInit, Cond.fieldLink RX11 7 "KingTableModel" "lines" "I", Cond.fieldLink RX11 13 "KingTableModel" "wide" "I", Cond.fieldLink RX11 16 "KingTableModel" "signs" "[I", Cond.fieldLink RX11 20 "KingTableModel" "hard" "I", Cond.fieldLink RX11 23 "KingTableModel" "kingTakes" "Z", Cond.fieldLink RX11 27 "KingTableModel" "kind" "[I", Cond.fieldLink RX11 30 "KingTableModel" "at" "[I", Cond.fieldLink RX11 33 "KingTableModel" "on" "[I", Cond.fieldLink RX11 36 "KingTableModel" "ground" "[I", Cond.fieldLink RX11 39 "KingTableModel" "moved" "[I", Cond.constant RX11 42 (172241), Cond.arrayClass .byte, Cond.fieldLink RX11 43 "KingTableModel" "stood" "[B", Cond.fieldLink RX11 47 "KingTableModel" "taken" "[Z", Cond.fieldLink RX11 51 "KingTableModel" "met" "[Z", Cond.fieldLink RX11 54 "KingTableModel" "queue" "[I", Cond.fieldLink RX11 57 "KingTableModel" "worths" "[I", Cond.fieldLink RX11 60 "KingTableModel" "deeps" "[I", Cond.fieldLink RX11 63 "KingTableModel" "first" "[I"]
def wsL_law_r8 : List Cond := [Cond.fieldLink RX11 66 "KingTableModel" "fresh" "[I", Cond.methodLink RL 13 yX10_board, Cond.instanceMethod yX10_board, Cond.selects RX10 yX10_board yX10_board, Cond.code yX10_board cX10_board 3 (some .boolean), Cond.methodLink RX10 57 yX9_renew, Cond.instanceMethod yX9_renew, Cond.selects RX9 yX9_renew yX9_renew, Cond.code yX9_renew cX9_renew 3 (some .boolean), Cond.methodLink RX9 22 yX9_isSpan, Cond.static yX9_isSpan, Cond.code yX9_isSpan cX9_isSpan 1 (some .boolean), Cond.methodLink RX9 26 yJ7_fill_53178, Cond.methodLink RX10 61 yX10_endPlay, Cond.instanceMethod yX10_endPlay, Cond.selects RX10 yX10_endPlay yX10_endPlay, Cond.code yX10_endPlay cX10_endPlay 1 none, Cond.methodLink RX10 210 yX4_finish, Cond.instanceMethod yX4_finish, Cond.selects RX4 yX4_finish yX4_finish, Cond.code yX4_finish cX4_finish 1 none, Cond.methodLink RX4 89 yX6_dismiss, Cond.instanceMethod yX6_dismiss, Cond.selects RX6 yX6_dismiss yX6_dismiss]
def wsL_law_r9 : List Cond := [Cond.code yX6_dismiss cX6_dismiss 1 none, Cond.fieldLink RX6 40 "KingTable$Rules" "total" "I", Cond.methodLink RX4 92 yX8_clear, Cond.methodLink RX4 95 yX3_clear, Cond.instanceMethod yX3_clear, Cond.selects RX3 yX3_clear yX3_clear, Cond.code yX3_clear cX3_clear 1 none, Cond.fieldLink RX3 33 "KingTable$Log" "done" "I", Cond.fieldLink RX3 37 "KingTable$Log" "known" "I", Cond.methodLink RX10 83 yX7_forget, Cond.instanceMethod yX7_forget, Cond.selects RX7 yX7_forget yX7_forget, Cond.code yX7_forget cX7_forget 1 none, Cond.fieldLink RX7 54 "KingTable$Solver" "solved" "Z", Cond.methodLink RL 17 yX11_board, Cond.instanceMethod yX11_board, Cond.selects RX11 yX11_board yX11_board, Cond.code yX11_board cX11_board 4 (some .boolean), Cond.fieldLink RX11 73 "KingTableModel" "how" "I", Cond.fieldLink RX11 76 "KingTableModel" "solved" "Z", Cond.methodLink RX11 69 yX11_isIn, Cond.static yX11_isIn, Cond.code yX11_isIn cX11_isIn 3 (some .boolean), Cond.methodLink RL 18 yX10_line]
def wsL_law_r10 : List Cond := [Cond.instanceMethod yX10_line, Cond.selects RX10 yX10_line yX10_line, Cond.code yX10_line cX10_line 4 (some .boolean), Cond.methodLink RX10 64 yX4_isThere, Cond.instanceMethod yX4_isThere, Cond.selects RX4 yX4_isThere yX4_isThere, Cond.code yX4_isThere cX4_isThere 1 (some .boolean), Cond.methodLink RX10 68 yX9_tell, Cond.instanceMethod yX9_tell, Cond.selects RX9 yX9_tell yX9_tell, Cond.code yX9_tell cX9_tell 5 (some .boolean), Cond.methodLink RL 22 yX11_line, Cond.instanceMethod yX11_line, Cond.selects RX11 yX11_line yX11_line, Cond.code yX11_line cX11_line 5 (some .boolean), Cond.methodLink RL 23 yX10_law, Cond.instanceMethod yX10_law, Cond.selects RX10 yX10_law yX10_law, Cond.code yX10_law cX10_law 6 (some .boolean), Cond.methodLink RX10 72 yX1_change, Cond.instanceMethod yX1_change, Cond.selects RX1 yX1_change yX1_change, Cond.code yX1_change cX1_change 7 (some .boolean), Cond.methodLink RL 27 yX11_law]
def wsL_law_r11 : List Cond := [Cond.instanceMethod yX11_law, Cond.selects RX11 yX11_law yX11_law, Cond.code yX11_law cX11_law 6 (some .boolean), Cond.fieldLink RX11 79 "KingTableModel" "goal" "I", Cond.fieldLink RX11 82 "KingTableModel" "reach" "I", Cond.fieldLink RX11 85 "KingTableModel" "again1" "I", Cond.methodLink RL 28 yX10_begin, Cond.instanceMethod yX10_begin, Cond.selects RX10 yX10_begin yX10_begin, Cond.code yX10_begin cX10_begin 2 (some .int), Cond.methodLink RX10 76 yX10_isSide, Cond.static yX10_isSide, Cond.code yX10_isSide cX10_isSide 1 (some .boolean), Cond.methodLink RX10 80 yX9_canBegin, Cond.instanceMethod yX9_canBegin, Cond.selects RX9 yX9_canBegin yX9_canBegin, Cond.code yX9_canBegin cX9_canBegin 8 (some .boolean), Cond.methodLink RX9 32 yX9_size, Cond.instanceMethod yX9_size, Cond.selects RX9 yX9_size yX9_size, Cond.code yX9_size cX9_size 1 (some .int), Cond.static yX10_kindOfSign, Cond.code yX10_kindOfSign cX10_kindOfSign 1 (some .int), Cond.static yX10_typeOfSign]
def wsL_law_r12 : List Cond := [Cond.code yX10_typeOfSign cX10_typeOfSign 1 (some .int), Cond.methodLink RX10 86 yX4_start, Cond.instanceMethod yX4_start, Cond.selects RX4 yX4_start yX4_start, Cond.code yX4_start cX4_start 6 none, Cond.methodLink RX4 37 yX4_finish, Cond.methodLink RX4 51 yX0_lay, Cond.instanceMethod yX0_lay, Cond.selects RX0 yX0_lay yX0_lay, Cond.code yX0_lay cX0_lay 7 none, Cond.fieldLink RX0 28 "KingTable$Ground" "size" "I", Cond.fieldLink RX0 37 "KingTable$Ground" "mostMoves" "I", Cond.methodLink RX0 22 yX9_size, Cond.methodLink RX4 57 yX9_size, Cond.methodLink RX4 74 yX8_place, Cond.instanceMethod yX8_place, Cond.selects RX8 yX8_place yX8_place, Cond.code yX8_place cX8_place 4 none, Cond.methodLink RX4 78 yX6_enlist, Cond.instanceMethod yX6_enlist, Cond.selects RX6 yX6_enlist yX6_enlist, Cond.code yX6_enlist cX6_enlist 2 none, Cond.methodLink RX4 85 yX4_settle, Cond.instanceMethod yX4_settle]
def wsL_law_r13 : List Cond := [Cond.selects RX4 yX4_settle yX4_settle, Cond.code yX4_settle cX4_settle 3 none, Cond.methodLink RX4 96 yX6_winner, Cond.instanceMethod yX6_winner, Cond.selects RX6 yX6_winner yX6_winner, Cond.code yX6_winner cX6_winner 3 (some .int), Cond.methodLink RX6 61 yX8_fieldOf, Cond.instanceMethod yX8_fieldOf, Cond.selects RX8 yX8_fieldOf yX8_fieldOf, Cond.code yX8_fieldOf cX8_fieldOf 2 (some .int), Cond.methodLink RX6 85 yX6_isGoal, Cond.instanceMethod yX6_isGoal, Cond.selects RX6 yX6_isGoal yX6_isGoal, Cond.code yX6_isGoal cX6_isGoal 2 (some .boolean), Cond.methodLink RX6 89 yX6_canGo, Cond.instanceMethod yX6_canGo, Cond.selects RX6 yX6_canGo yX6_canGo, Cond.code yX6_canGo cX6_canGo 4 (some .boolean), Cond.methodLink RX6 78 yX6_room, Cond.instanceMethod yX6_room, Cond.selects RX6 yX6_room yX6_room, Cond.code yX6_room cX6_room 7 (some .int), Cond.methodLink RX6 67 yX0_beside, Cond.instanceMethod yX0_beside]
def wsL_law_r14 : List Cond := [Cond.selects RX0 yX0_beside yX0_beside, Cond.code yX0_beside cX0_beside 4 (some .int), Cond.methodLink RX6 71 yX8_holderOf, Cond.instanceMethod yX8_holderOf, Cond.selects RX8 yX8_holderOf yX8_holderOf, Cond.code yX8_holderOf cX8_holderOf 2 (some .int), Cond.methodLink RX6 74 yX6_bears, Cond.instanceMethod yX6_bears, Cond.selects RX6 yX6_bears yX6_bears, Cond.code yX6_bears cX6_bears 3 (some .boolean), Cond.methodLink RL 32 yX11_begin, Cond.instanceMethod yX11_begin, Cond.selects RX11 yX11_begin yX11_begin, Cond.code yX11_begin cX11_begin 8 (some .int), Cond.fieldLink RX11 103 "KingTableModel" "pieces" "I", Cond.fieldLink RX11 135 "KingTableModel" "king" "I", Cond.fieldLink RX11 126 "KingTableModel" "side" "I", Cond.fieldLink RX11 138 "KingTableModel" "done" "I", Cond.fieldLink RX11 141 "KingTableModel" "undone" "I", Cond.fieldLink RX11 120 "KingTableModel" "tookMany" "I", Cond.methodLink RX11 88 yX11_fields, Cond.instanceMethod yX11_fields, Cond.selects RX11 yX11_fields yX11_fields, Cond.code yX11_fields cX11_fields 1 (some .int)]
def wsL_law_r15 : List Cond := [Cond.methodLink RX11 144 yX11_write, Cond.instanceMethod yX11_write, Cond.selects RX11 yX11_write yX11_write, Cond.code yX11_write cX11_write 3 none, Cond.methodLink RX11 129 yX11_row, Cond.instanceMethod yX11_row, Cond.selects RX11 yX11_row yX11_row, Cond.code yX11_row cX11_row 2 (some .int), Cond.methodLink RX11 148 yX11_isGoal, Cond.instanceMethod yX11_isGoal, Cond.selects RX11 yX11_isGoal yX11_isGoal, Cond.code yX11_isGoal cX11_isGoal 2 (some .boolean), Cond.methodLink RX11 151 yX11_canGo, Cond.instanceMethod yX11_canGo, Cond.selects RX11 yX11_canGo yX11_canGo, Cond.code yX11_canGo cX11_canGo 4 (some .boolean), Cond.methodLink RX11 106 yX11_sideOf, Cond.instanceMethod yX11_sideOf, Cond.selects RX11 yX11_sideOf yX11_sideOf, Cond.code yX11_sideOf cX11_sideOf 2 (some .int), Cond.methodLink RX11 110 yX11_movesOf, Cond.instanceMethod yX11_movesOf, Cond.selects RX11 yX11_movesOf yX11_movesOf, Cond.code yX11_movesOf cX11_movesOf 5 (some .int)]
def wsL_law_r16 : List Cond := [Cond.methodLink RX11 100 yX11_bar, Cond.instanceMethod yX11_bar, Cond.selects RX11 yX11_bar yX11_bar, Cond.code yX11_bar cX11_bar 6 (some .int), Cond.methodLink RX11 92 yX11_along, Cond.instanceMethod yX11_along, Cond.selects RX11 yX11_along yX11_along, Cond.code yX11_along cX11_along 7 (some .int), Cond.methodLink RX11 96 yX11_bears, Cond.instanceMethod yX11_bears, Cond.selects RX11 yX11_bears yX11_bears, Cond.code yX11_bears cX11_bears 3 (some .boolean), Cond.methodLink RL 33 yX10_stop, Cond.instanceMethod yX10_stop, Cond.selects RX10 yX10_stop yX10_stop, Cond.code yX10_stop cX10_stop 1 (some .boolean), Cond.methodLink RL 37 yX11_stop, Cond.instanceMethod yX11_stop, Cond.selects RX11 yX11_stop yX11_stop, Cond.code yX11_stop cX11_stop 1 (some .boolean), Cond.methodLink RL 38 yX10_go, Cond.instanceMethod yX10_go, Cond.selects RX10 yX10_go yX10_go, Cond.code yX10_go cX10_go 4 (some .int)]
def wsL_law_r17 : List Cond := [Cond.methodLink RX10 94 yX4_tryMove, Cond.instanceMethod yX4_tryMove, Cond.selects RX4 yX4_tryMove yX4_tryMove, Cond.code yX4_tryMove cX4_tryMove 4 (some .int), Cond.methodLink RX4 152 yX4_reason, Cond.instanceMethod yX4_reason, Cond.selects RX4 yX4_reason yX4_reason, Cond.code yX4_reason cX4_reason 7 (some .int), Cond.methodLink RX4 106 yX6_isPiece, Cond.instanceMethod yX6_isPiece, Cond.selects RX6 yX6_isPiece yX6_isPiece, Cond.code yX6_isPiece cX6_isPiece 2 (some .boolean), Cond.methodLink RX4 103 yX8_fieldOf, Cond.methodLink RX4 120 yX0_away, Cond.instanceMethod yX0_away, Cond.selects RX0 yX0_away yX0_away, Cond.code yX0_away cX0_away 6 (some .int), Cond.methodLink RX0 47 yX0_beside, Cond.methodLink RX4 124 yX6_isBeyondReach, Cond.instanceMethod yX6_isBeyondReach, Cond.selects RX6 yX6_isBeyondReach yX6_isBeyondReach, Cond.code yX6_isBeyondReach cX6_isBeyondReach 3 (some .boolean), Cond.methodLink RX4 128 yX4_barrier, Cond.instanceMethod yX4_barrier]
def wsL_law_r18 : List Cond := [Cond.selects RX4 yX4_barrier yX4_barrier, Cond.code yX4_barrier cX4_barrier 6 (some .int), Cond.methodLink RX4 134 yX0_beside, Cond.methodLink RX4 138 yX8_holderOf, Cond.methodLink RX4 141 yX6_bears, Cond.methodLink RX4 131 yX4_comesBack, Cond.instanceMethod yX4_comesBack, Cond.selects RX4 yX4_comesBack yX4_comesBack, Cond.code yX4_comesBack cX4_comesBack 3 (some .boolean), Cond.methodLink RX4 144 yX6_findVictims, Cond.instanceMethod yX6_findVictims, Cond.selects RX6 yX6_findVictims yX6_findVictims, Cond.code yX6_findVictims cX6_findVictims 8 (some .int), Cond.fieldLink RX6 93 "KingTable$Rules" "victimCount" "I", Cond.methodLink RX6 96 yX6_isPiece, Cond.methodLink RX6 99 yX8_place, Cond.methodLink RX6 103 yX6_isCaught, Cond.instanceMethod yX6_isCaught, Cond.selects RX6 yX6_isCaught yX6_isCaught, Cond.code yX6_isCaught cX6_isCaught 7 (some .boolean), Cond.methodLink RX6 114 yX6_isFoe, Cond.instanceMethod yX6_isFoe, Cond.selects RX6 yX6_isFoe yX6_isFoe, Cond.code yX6_isFoe cX6_isFoe 5 (some .boolean)]
def wsL_law_r19 : List Cond := [Cond.methodLink RX6 107 yX6_addVictim, Cond.instanceMethod yX6_addVictim, Cond.selects RX6 yX6_addVictim yX6_addVictim, Cond.code yX6_addVictim cX6_addVictim 3 none, Cond.methodLink RX4 148 yX3_hasSeen, Cond.instanceMethod yX3_hasSeen, Cond.selects RX3 yX3_hasSeen yX3_hasSeen, Cond.code yX3_hasSeen cX3_hasSeen 9 (some .boolean), Cond.methodLink RX3 72 arraycopyName, Cond.native arraycopyName, Cond.static arraycopyName, Cond.initialized "java/lang/System", Cond.methodLink RX3 44 yX8_fieldOf, Cond.methodLink RX4 155 yX3_isFull, Cond.instanceMethod yX3_isFull, Cond.selects RX3 yX3_isFull yX3_isFull, Cond.code yX3_isFull cX3_isFull 1 (some .boolean), Cond.methodLink RX4 165 yX4_move, Cond.instanceMethod yX4_move, Cond.selects RX4 yX4_move yX4_move, Cond.code yX4_move cX4_move 5 (some .boolean), Cond.methodLink RX4 171 yX3_write, Cond.instanceMethod yX3_write, Cond.selects RX3 yX3_write yX3_write]
def wsL_law_r20 : List Cond := [Cond.code yX3_write cX3_write 6 none, Cond.methodLink RX3 56 Lib.Math.max.name, Cond.static Lib.Math.max.name, Cond.initialized "java/lang/Math", Cond.code Lib.Math.max.name Lib.Math.max.code 2 (some .int), Cond.methodLink RX3 40 yX3_isFull, Cond.methodLink RX4 168 yX3_latestTakings, Cond.instanceMethod yX3_latestTakings, Cond.selects RX3 yX3_latestTakings yX3_latestTakings, Cond.code yX3_latestTakings cX3_latestTakings 1 (some .int), Cond.methodLink RL 42 yX11_go, Cond.instanceMethod yX11_go, Cond.selects RX11 yX11_go yX11_go, Cond.code yX11_go cX11_go 4 (some .int), Cond.methodLink RX11 167 yX11_why, Cond.instanceMethod yX11_why, Cond.selects RX11 yX11_why yX11_why, Cond.code yX11_why cX11_why 6 (some .int), Cond.methodLink RX11 154 yX11_make, Cond.instanceMethod yX11_make, Cond.selects RX11 yX11_make yX11_make, Cond.code yX11_make cX11_make 7 none, Cond.methodLink RX11 113 yX11_takes, Cond.instanceMethod yX11_takes]
def wsL_law_r21 : List Cond := [Cond.selects RX11 yX11_takes yX11_takes, Cond.code yX11_takes cX11_takes 2 (some .boolean), Cond.methodLink RX11 123 yX11_isTaken, Cond.instanceMethod yX11_isTaken, Cond.selects RX11 yX11_isTaken yX11_isTaken, Cond.code yX11_isTaken cX11_isTaken 5 (some .boolean), Cond.methodLink RX11 117 yX11_isFoe, Cond.instanceMethod yX11_isFoe, Cond.selects RX11 yX11_isFoe yX11_isFoe, Cond.code yX11_isFoe cX11_isFoe 3 (some .boolean), Cond.methodLink RX11 158 yX11_cameBack, Cond.instanceMethod yX11_cameBack, Cond.selects RX11 yX11_cameBack yX11_cameBack, Cond.code yX11_cameBack cX11_cameBack 4 (some .boolean), Cond.methodLink RX11 132 yX11_isAlike, Cond.instanceMethod yX11_isAlike, Cond.selects RX11 yX11_isAlike yX11_isAlike, Cond.code yX11_isAlike cX11_isAlike 5 (some .boolean), Cond.methodLink RX11 161 yX11_read, Cond.instanceMethod yX11_read, Cond.selects RX11 yX11_read yX11_read, Cond.code yX11_read cX11_read 3 none, Cond.methodLink RX11 164 yX11_lookAgain, Cond.instanceMethod yX11_lookAgain]
def wsL_law_r22 : List Cond := [Cond.selects RX11 yX11_lookAgain yX11_lookAgain, Cond.code yX11_lookAgain cX11_lookAgain 2 none, Cond.methodLink RX11 170 yX11_doMove, Cond.instanceMethod yX11_doMove, Cond.selects RX11 yX11_doMove yX11_doMove, Cond.code yX11_doMove cX11_doMove 3 none, Cond.methodLink RL 43 yX10_why, Cond.instanceMethod yX10_why, Cond.selects RX10 yX10_why yX10_why, Cond.code yX10_why cX10_why 4 (some .int), Cond.methodLink RX10 98 yX4_reason, Cond.methodLink RL 46 yX11_why, Cond.methodLink RL 47 yX10_about, Cond.instanceMethod yX10_about, Cond.selects RX10 yX10_about yX10_about, Cond.code yX10_about cX10_about 2 (some .int), Cond.methodLink RX10 104 yX4_sideOnTurn, Cond.instanceMethod yX4_sideOnTurn, Cond.selects RX4 yX4_sideOnTurn yX4_sideOnTurn, Cond.code yX4_sideOnTurn cX4_sideOnTurn 1 (some .int), Cond.methodLink RX10 108 yX4_lost, Cond.instanceMethod yX4_lost, Cond.selects RX4 yX4_lost yX4_lost, Cond.code yX4_lost cX4_lost 3 (some .int)]
def wsL_law_r23 : List Cond := [Cond.methodLink RX10 120 yX9_size, Cond.methodLink RX10 129 yX3_latestTakings, Cond.methodLink RL 50 yX11_about, Cond.instanceMethod yX11_about, Cond.selects RX11 yX11_about yX11_about, Cond.code yX11_about cX11_about 5 (some .int), Cond.methodLink RL 51 yX10_piece, Cond.instanceMethod yX10_piece, Cond.selects RX10 yX10_piece yX10_piece, Cond.code yX10_piece cX10_piece 3 (some .int), Cond.methodLink RX10 132 yX6_isPiece, Cond.methodLink RX10 143 yX8_fieldOf, Cond.methodLink RX10 149 yX4_movesOf, Cond.instanceMethod yX4_movesOf, Cond.selects RX4 yX4_movesOf yX4_movesOf, Cond.code yX4_movesOf cX4_movesOf 3 (some .int), Cond.methodLink RX4 113 yX4_sideOnTurn, Cond.methodLink RX4 116 yX6_movesOf, Cond.instanceMethod yX6_movesOf, Cond.selects RX6 yX6_movesOf yX6_movesOf, Cond.code yX6_movesOf cX6_movesOf 5 (some .int), Cond.methodLink RL 55 yX11_piece, Cond.instanceMethod yX11_piece, Cond.selects RX11 yX11_piece yX11_piece]
def wsL_law_r24 : List Cond := [Cond.code yX11_piece cX11_piece 3 (some .int), Cond.methodLink RL 56 yX10_on, Cond.instanceMethod yX10_on, Cond.selects RX10 yX10_on yX10_on, Cond.code yX10_on cX10_on 2 (some .int), Cond.methodLink RX10 156 yX8_holderOf, Cond.methodLink RL 59 yX11_on, Cond.instanceMethod yX11_on, Cond.selects RX11 yX11_on yX11_on, Cond.code yX11_on cX11_on 2 (some .int), Cond.methodLink RL 60 yX10_field, Cond.instanceMethod yX10_field, Cond.selects RX10 yX10_field yX10_field, Cond.code yX10_field cX10_field 2 (some .int), Cond.methodLink RL 63 yX11_field, Cond.instanceMethod yX11_field, Cond.selects RX11 yX11_field yX11_field, Cond.code yX11_field cX11_field 2 (some .int), Cond.methodLink RL 64 yX10_took, Cond.instanceMethod yX10_took, Cond.selects RX10 yX10_took yX10_took, Cond.code yX10_took cX10_took 2 (some .int), Cond.methodLink RX10 171 yX3_latestVictim, Cond.instanceMethod yX3_latestVictim]
def wsL_law_r25 : List Cond := [Cond.selects RX3 yX3_latestVictim yX3_latestVictim, Cond.code yX3_latestVictim cX3_latestVictim 3 (some .int), Cond.methodLink RL 67 yX11_took, Cond.instanceMethod yX11_took, Cond.selects RX11 yX11_took yX11_took, Cond.code yX11_took cX11_took 4 (some .int), Cond.methodLink RL 68 yX10_ring, Cond.instanceMethod yX10_ring, Cond.selects RX10 yX10_ring yX10_ring, Cond.code yX10_ring cX10_ring 1 (some .boolean), Cond.methodLink RX10 174 yX5_holds, Cond.instanceMethod yX5_holds, Cond.selects RX5 yX5_holds yX5_holds, Cond.code yX5_holds cX5_holds 8 (some .boolean), Cond.methodLink RX5 29 yX8_fieldOf, Cond.methodLink RX5 35 yX6_isGoal, Cond.methodLink RX5 43 yX0_beside, Cond.methodLink RX5 49 yX5_isBarred, Cond.instanceMethod yX5_isBarred, Cond.selects RX5 yX5_isBarred yX5_isBarred, Cond.code yX5_isBarred cX5_isBarred 5 (some .boolean), Cond.methodLink RX5 53 yX8_holderOf, Cond.methodLink RX5 56 yX6_isPiece, Cond.methodLink RL 71 yX11_ring]
def wsL_law_r26 : List Cond := [Cond.instanceMethod yX11_ring, Cond.selects RX11 yX11_ring yX11_ring, Cond.code yX11_ring cX11_ring 1 (some .boolean), Cond.methodLink RX11 173 yX11_comesOut, Cond.instanceMethod yX11_comesOut, Cond.selects RX11 yX11_comesOut yX11_comesOut, Cond.code yX11_comesOut cX11_comesOut 7 (some .boolean), Cond.methodLink RL 72 yX10_needed, Cond.instanceMethod yX10_needed, Cond.selects RX10 yX10_needed yX10_needed, Cond.code yX10_needed cX10_needed 2 (some .boolean), Cond.methodLink RL 76 yX11_needed, Cond.instanceMethod yX11_needed, Cond.selects RX11 yX11_needed yX11_needed, Cond.code yX11_needed cX11_needed 2 (some .boolean), Cond.methodLink RX11 176 yX11_ring, Cond.methodLink RL 77 yX10_back, Cond.instanceMethod yX10_back, Cond.selects RX10 yX10_back yX10_back, Cond.code yX10_back cX10_back 1 (some .boolean), Cond.methodLink RX10 181 yX4_takeBack, Cond.instanceMethod yX4_takeBack, Cond.selects RX4 yX4_takeBack yX4_takeBack, Cond.code yX4_takeBack cX4_takeBack 1 (some .boolean)]
def wsL_law_r27 : List Cond := [Cond.methodLink RX4 181 yX3_unwind, Cond.instanceMethod yX3_unwind, Cond.selects RX3 yX3_unwind yX3_unwind, Cond.code yX3_unwind cX3_unwind 3 none, Cond.methodLink RX3 62 yX8_place, Cond.methodLink RL 80 yX11_back, Cond.instanceMethod yX11_back, Cond.selects RX11 yX11_back yX11_back, Cond.code yX11_back cX11_back 1 (some .boolean), Cond.methodLink RL 81 yX10_again, Cond.instanceMethod yX10_again, Cond.selects RX10 yX10_again yX10_again, Cond.code yX10_again cX10_again 1 (some .boolean), Cond.methodLink RX10 184 yX4_redo, Cond.instanceMethod yX4_redo, Cond.selects RX4 yX4_redo yX4_redo, Cond.code yX4_redo cX4_redo 1 (some .boolean), Cond.methodLink RL 84 yX11_again, Cond.instanceMethod yX11_again, Cond.selects RX11 yX11_again yX11_again, Cond.code yX11_again cX11_again 1 (some .boolean), Cond.methodLink RL 85 yX10_solve, Cond.instanceMethod yX10_solve, Cond.selects RX10 yX10_solve yX10_solve]
def wsL_law_r28 : List Cond := [Cond.code yX10_solve cX10_solve 1 (some .int), Cond.methodLink RX10 187 yX7_solveAll, Cond.instanceMethod yX7_solveAll, Cond.selects RX7 yX7_solveAll yX7_solveAll, Cond.code yX7_solveAll cX7_solveAll 2 (some .int), Cond.fieldLink RX7 58 "KingTable$Solver" "counted" "I", Cond.fieldLink RX7 66 "KingTable$Solver" "places" "I", Cond.fieldLink RX7 100 "KingTable$Solver" "queued" "I", Cond.methodLink RX7 62 yX7_measure, Cond.instanceMethod yX7_measure, Cond.selects RX7 yX7_measure yX7_measure, Cond.code yX7_measure cX7_measure 3 (some .boolean), Cond.methodLink RX7 69 yX7_makeRoom, Cond.instanceMethod yX7_makeRoom, Cond.selects RX7 yX7_makeRoom yX7_makeRoom, Cond.code yX7_makeRoom cX7_makeRoom 3 none, Cond.methodLink RX7 118 yX2_roomFor, Cond.static yX2_roomFor, Cond.code yX2_roomFor cX2_roomFor 3 (some .int), Cond.methodLink RX2 36 Lib.Math.min.name, Cond.static Lib.Math.min.name, Cond.code Lib.Math.min.name Lib.Math.min.code 2 (some .int), Cond.methodLink RX2 42 Lib.Math.max.name, Cond.methodLink RX7 87 yX2_renew]
def wsL_law_r29 : List Cond := [Cond.instanceMethod yX2_renew, Cond.selects RX2 yX2_renew yX2_renew, Cond.code yX2_renew cX2_renew 4 none, Cond.constant RX2 25 (118300), Cond.fieldLink RX2 32 "KingTable$Links" "used" "I", Cond.methodLink RX2 21 yX2_roomFor, Cond.methodLink RX2 26 yJ7_fill_53178, Cond.methodLink RX7 91 yX8_clear, Cond.methodLink RX7 94 yJ7_fill_53178, Cond.methodLink RX7 103 yX7_enter, Cond.instanceMethod yX7_enter, Cond.selects RX7 yX7_enter yX7_enter, Cond.code yX7_enter cX7_enter 6 none, Cond.methodLink RX7 122 yX7_setUp, Cond.instanceMethod yX7_setUp, Cond.selects RX7 yX7_setUp yX7_setUp, Cond.code yX7_setUp cX7_setUp 3 (some .boolean), Cond.methodLink RX7 139 yX8_place, Cond.methodLink RX7 142 yX8_holderOf, Cond.methodLink RX7 146 yX6_bears, Cond.methodLink RX7 128 yX6_winner, Cond.methodLink RX7 132 yX7_decide, Cond.instanceMethod yX7_decide, Cond.selects RX7 yX7_decide yX7_decide]
def wsL_law_r30 : List Cond := [Cond.code yX7_decide cX7_decide 4 none, Cond.methodLink RX7 136 yX7_linkMoves, Cond.instanceMethod yX7_linkMoves, Cond.selects RX7 yX7_linkMoves yX7_linkMoves, Cond.code yX7_linkMoves cX7_linkMoves 7 none, Cond.methodLink RX7 153 yX6_room, Cond.methodLink RX7 157 yX8_fieldOf, Cond.methodLink RX7 160 yX0_beside, Cond.methodLink RX7 164 yX6_findVictims, Cond.methodLink RX7 167 yX7_behindMove, Cond.instanceMethod yX7_behindMove, Cond.selects RX7 yX7_behindMove yX7_behindMove, Cond.code yX7_behindMove cX7_behindMove 8 (some .int), Cond.methodLink RX7 171 yX2_add, Cond.instanceMethod yX2_add, Cond.selects RX2 yX2_add yX2_add, Cond.code yX2_add cX2_add 3 none, Cond.methodLink RX7 106 yX7_nextDigits, Cond.instanceMethod yX7_nextDigits, Cond.selects RX7 yX7_nextDigits yX7_nextDigits, Cond.code yX7_nextDigits cX7_nextDigits 2 none, Cond.methodLink RX7 109 yX7_spread, Cond.instanceMethod yX7_spread, Cond.selects RX7 yX7_spread yX7_spread]
def wsL_law_r31 : List Cond := [Cond.code yX7_spread cX7_spread 5 none, Cond.methodLink RX7 189 yX7_inform, Cond.instanceMethod yX7_inform, Cond.selects RX7 yX7_inform yX7_inform, Cond.code yX7_inform cX7_inform 4 none, Cond.methodLink RX7 112 yX7_tallyUp, Cond.instanceMethod yX7_tallyUp, Cond.selects RX7 yX7_tallyUp yX7_tallyUp, Cond.code yX7_tallyUp cX7_tallyUp 3 none, Cond.methodLink RX7 195 Lib.Math.max.name, Cond.methodLink RL 89 yX11_solve, Cond.instanceMethod yX11_solve, Cond.selects RX11 yX11_solve yX11_solve, Cond.code yX11_solve cX11_solve 6 (some .int), Cond.constantLong RX11 182 (10000), Cond.methodLink RX11 184 yX11_stands, Cond.instanceMethod yX11_stands, Cond.selects RX11 yX11_stands yX11_stands, Cond.code yX11_stands cX11_stands 4 (some .long), Cond.constantLong RX11 180 (2), Cond.methodLink RX11 188 yX11_setUp, Cond.instanceMethod yX11_setUp, Cond.selects RX11 yX11_setUp yX11_setUp, Cond.code yX11_setUp cX11_setUp 6 (some .boolean)]
def wsL_law_r32 : List Cond := [Cond.methodLink RX11 191 yX11_endOf, Cond.instanceMethod yX11_endOf, Cond.selects RX11 yX11_endOf yX11_endOf, Cond.code yX11_endOf cX11_endOf 1 (some .int), Cond.methodLink RX11 194 yX11_tried, Cond.instanceMethod yX11_tried, Cond.selects RX11 yX11_tried yX11_tried, Cond.code yX11_tried cX11_tried 8 (some .int), Cond.methodLink RX11 197 yX11_number, Cond.instanceMethod yX11_number, Cond.selects RX11 yX11_number yX11_number, Cond.code yX11_number cX11_number 3 (some .int), Cond.methodLink RL 90 yX10_worth, Cond.instanceMethod yX10_worth, Cond.selects RX10 yX10_worth yX10_worth, Cond.code yX10_worth cX10_worth 1 (some .int), Cond.methodLink RX10 190 yX7_worthOf, Cond.instanceMethod yX7_worthOf, Cond.selects RX7 yX7_worthOf yX7_worthOf, Cond.code yX7_worthOf cX7_worthOf 3 (some .int), Cond.methodLink RX7 200 yX7_indexOf, Cond.instanceMethod yX7_indexOf, Cond.selects RX7 yX7_indexOf yX7_indexOf, Cond.code yX7_indexOf cX7_indexOf 5 (some .int)]
def wsL_law_r33 : List Cond := [Cond.methodLink RL 93 yX11_worth, Cond.instanceMethod yX11_worth, Cond.selects RX11 yX11_worth yX11_worth, Cond.code yX11_worth cX11_worth 1 (some .int), Cond.methodLink RL 94 yX10_deep, Cond.instanceMethod yX10_deep, Cond.selects RX10 yX10_deep yX10_deep, Cond.code yX10_deep cX10_deep 1 (some .int), Cond.methodLink RX10 194 yX7_deepOf, Cond.instanceMethod yX7_deepOf, Cond.selects RX7 yX7_deepOf yX7_deepOf, Cond.code yX7_deepOf cX7_deepOf 3 (some .int), Cond.methodLink RL 97 yX11_deep, Cond.instanceMethod yX11_deep, Cond.selects RX11 yX11_deep yX11_deep, Cond.code yX11_deep cX11_deep 1 (some .int), Cond.methodLink RL 98 yX10_best, Cond.instanceMethod yX10_best, Cond.selects RX10 yX10_best yX10_best, Cond.code yX10_best cX10_best 1 (some .int), Cond.methodLink RX10 197 yX7_bestMove, Cond.instanceMethod yX7_bestMove, Cond.selects RX7 yX7_bestMove yX7_bestMove, Cond.code yX7_bestMove cX7_bestMove 8 (some .int)]
def wsL_law_r34 : List Cond := [Cond.methodLink RX7 203 yX7_deepKept, Cond.instanceMethod yX7_deepKept, Cond.selects RX7 yX7_deepKept yX7_deepKept, Cond.code yX7_deepKept cX7_deepKept 10 (some .int), Cond.methodLink RX7 206 yX6_isPiece, Cond.methodLink RX7 210 yX0_away, Cond.methodLink RL 101 yX11_best, Cond.instanceMethod yX11_best, Cond.selects RX11 yX11_best yX11_best, Cond.code yX11_best cX11_best 9 (some .int), Cond.methodLink RX11 200 yX11_leads, Cond.instanceMethod yX11_leads, Cond.selects RX11 yX11_leads yX11_leads, Cond.code yX11_leads cX11_leads 5 (some .int), Cond.methodLink RL 102 yX10_count, Cond.instanceMethod yX10_count, Cond.selects RX10 yX10_count yX10_count, Cond.code yX10_count cX10_count 3 (some .int), Cond.methodLink RX10 200 yX7_tally, Cond.instanceMethod yX7_tally, Cond.selects RX7 yX7_tally yX7_tally, Cond.code yX7_tally cX7_tally 3 (some .int), Cond.methodLink RL 105 yX11_count, Cond.instanceMethod yX11_count]
def wsL_law_r35 : List Cond := [Cond.selects RX11 yX11_count yX11_count, Cond.code yX11_count cX11_count 5 (some .int), Cond.methodLink RL 106 yX10_most, Cond.instanceMethod yX10_most, Cond.selects RX10 yX10_most yX10_most, Cond.code yX10_most cX10_most 2 (some .int), Cond.methodLink RX10 204 yX7_greatestDeep, Cond.instanceMethod yX7_greatestDeep, Cond.selects RX7 yX7_greatestDeep yX7_greatestDeep, Cond.code yX7_greatestDeep cX7_greatestDeep 2 (some .int), Cond.methodLink RL 109 yX11_most, Cond.instanceMethod yX11_most, Cond.selects RX11 yX11_most yX11_most, Cond.code yX11_most cX11_most 4 (some .int), Cond.methodLink RX11 204 Lib.Math.max.name, Cond.methodLink RL 110 yX10_stand, Cond.instanceMethod yX10_stand, Cond.selects RX10 yX10_stand yX10_stand, Cond.code yX10_stand cX10_stand 3 (some .int), Cond.methodLink RX10 207 yX7_worthAt, Cond.instanceMethod yX7_worthAt, Cond.selects RX7 yX7_worthAt yX7_worthAt, Cond.code yX7_worthAt cX7_worthAt 4 (some .int), Cond.methodLink RL 113 yX11_stand]
def wsL_law_r36 : List Cond := [Cond.instanceMethod yX11_stand, Cond.selects RX11 yX11_stand yX11_stand, Cond.code yX11_stand cX11_stand 4 (some .int)]
def wsL_law : List Cond := (wsL_law_r1 ++ (wsL_law_r2 ++ (wsL_law_r3 ++ (wsL_law_r4 ++ (wsL_law_r5 ++ (wsL_law_r6 ++ (wsL_law_r7 ++ (wsL_law_r8 ++ (wsL_law_r9 ++ (wsL_law_r10 ++ (wsL_law_r11 ++ (wsL_law_r12 ++ (wsL_law_r13 ++ (wsL_law_r14 ++ (wsL_law_r15 ++ (wsL_law_r16 ++ (wsL_law_r17 ++ (wsL_law_r18 ++ (wsL_law_r19 ++ (wsL_law_r20 ++ (wsL_law_r21 ++ (wsL_law_r22 ++ (wsL_law_r23 ++ (wsL_law_r24 ++ (wsL_law_r25 ++ (wsL_law_r26 ++ (wsL_law_r27 ++ (wsL_law_r28 ++ (wsL_law_r29 ++ (wsL_law_r30 ++ (wsL_law_r31 ++ (wsL_law_r32 ++ (wsL_law_r33 ++ (wsL_law_r34 ++ (wsL_law_r35 ++ wsL_law_r36))))))))))))))))))))))))))))))))))) ++ wsX100 ++ wsX110 ++ wsX90 ++ wsX10 ++ wsX60 ++ wsX40 ++ wsX50 ++ wsX70 ++ wsX00 ++ wsX80 ++ wsX30 ++ wsX20 ++ ([] : List Cond)
end
section
set_option maxRecDepth 20000 in
theorem in_wsL_law_r1 : ∀ w ∈ wsL_law_r1, w ∈ lw_tbl := fun w h => (goodIn_p wsL_law_r1 [68, 71] (by decide +kernel) (by decide +kernel) w h).1
set_option maxRecDepth 20000 in
theorem in_wsL_law_r2 : ∀ w ∈ wsL_law_r2, w ∈ lw_tbl := fun w h => (goodIn_p wsL_law_r2 [76, 98] (by decide +kernel) (by decide +kernel) w h).1
set_option maxRecDepth 20000 in
theorem in_wsL_law_r3 : ∀ w ∈ wsL_law_r3, w ∈ lw_tbl := fun w h => (goodIn_p wsL_law_r3 [125, 131] (by decide +kernel) (by decide +kernel) w h).1
set_option maxRecDepth 20000 in
theorem in_wsL_law_r4 : ∀ w ∈ wsL_law_r4, w ∈ lw_tbl := fun w h => (goodIn_p wsL_law_r4 [209, 215] (by decide +kernel) (by decide +kernel) w h).1
set_option maxRecDepth 20000 in
theorem in_wsL_law_r5 : ∀ w ∈ wsL_law_r5, w ∈ lw_tbl := fun w h => (goodIn_p wsL_law_r5 [220, 223, 244, 303] (by decide +kernel) (by decide +kernel) w h).1
set_option maxRecDepth 20000 in
theorem in_wsL_law_r6 : ∀ w ∈ wsL_law_r6, w ∈ lw_tbl := fun w h => (goodIn_p wsL_law_r6 [319, 327] (by decide +kernel) (by decide +kernel) w h).1
set_option maxRecDepth 20000 in
theorem in_wsL_law_r7 : ∀ w ∈ wsL_law_r7, w ∈ lw_tbl := fun w h => (goodIn_p wsL_law_r7 [866] (by decide +kernel) (by decide +kernel) w h).1
set_option maxRecDepth 20000 in
theorem in_wsL_law_r8 : ∀ w ∈ wsL_law_r8, w ∈ lw_tbl := fun w h => (goodIn_p wsL_law_r8 [414, 418, 421, 426, 430] (by decide +kernel) (by decide +kernel) w h).1
set_option maxRecDepth 20000 in
theorem in_wsL_law_r9 : ∀ w ∈ wsL_law_r9, w ∈ lw_tbl := fun w h => (goodIn_p wsL_law_r9 [434, 439, 443, 961, 964] (by decide +kernel) (by decide +kernel) w h).1
set_option maxRecDepth 20000 in
theorem in_wsL_law_r10 : ∀ w ∈ wsL_law_r10, w ∈ lw_tbl := fun w h => (goodIn_p wsL_law_r10 [447, 451, 455, 968, 459, 463] (by decide +kernel) (by decide +kernel) w h).1
set_option maxRecDepth 20000 in
theorem in_wsL_law_r11 : ∀ w ∈ wsL_law_r11, w ∈ lw_tbl := fun w h => (goodIn_p wsL_law_r11 [972, 467, 470, 474, 478, 481] (by decide +kernel) (by decide +kernel) w h).1
set_option maxRecDepth 20000 in
theorem in_wsL_law_r12 : ∀ w ∈ wsL_law_r12, w ∈ lw_tbl := fun w h => (goodIn_p wsL_law_r12 [484, 488, 493, 501, 505] (by decide +kernel) (by decide +kernel) w h).1
set_option maxRecDepth 20000 in
theorem in_wsL_law_r13 : ∀ w ∈ wsL_law_r13, w ∈ lw_tbl := fun w h => (goodIn_p wsL_law_r13 [509, 513, 517, 521, 525, 529] (by decide +kernel) (by decide +kernel) w h).1
set_option maxRecDepth 20000 in
theorem in_wsL_law_r14 : ∀ w ∈ wsL_law_r14, w ∈ lw_tbl := fun w h => (goodIn_p wsL_law_r14 [533, 537, 541, 976, 980] (by decide +kernel) (by decide +kernel) w h).1
set_option maxRecDepth 20000 in
theorem in_wsL_law_r15 : ∀ w ∈ wsL_law_r15, w ∈ lw_tbl := fun w h => (goodIn_p wsL_law_r15 [984, 988, 992, 996, 1000, 1004] (by decide +kernel) (by decide +kernel) w h).1
set_option maxRecDepth 20000 in
theorem in_wsL_law_r16 : ∀ w ∈ wsL_law_r16, w ∈ lw_tbl := fun w h => (goodIn_p wsL_law_r16 [1008, 1012, 1016, 545, 1020, 549] (by decide +kernel) (by decide +kernel) w h).1
set_option maxRecDepth 20000 in
theorem in_wsL_law_r17 : ∀ w ∈ wsL_law_r17, w ∈ lw_tbl := fun w h => (goodIn_p wsL_law_r17 [553, 557, 561, 566, 571] (by decide +kernel) (by decide +kernel) w h).1
set_option maxRecDepth 20000 in
theorem in_wsL_law_r18 : ∀ w ∈ wsL_law_r18, w ∈ lw_tbl := fun w h => (goodIn_p wsL_law_r18 [575, 582, 586, 592, 596] (by decide +kernel) (by decide +kernel) w h).1
set_option maxRecDepth 20000 in
theorem in_wsL_law_r19 : ∀ w ∈ wsL_law_r19, w ∈ lw_tbl := fun w h => (goodIn_p wsL_law_r19 [600, 604, 612, 616] (by decide +kernel) (by decide +kernel) w h).1
set_option maxRecDepth 20000 in
theorem in_wsL_law_r20 : ∀ w ∈ wsL_law_r20, w ∈ lw_tbl := fun w h => (goodIn_p wsL_law_r20 [620, 624, 628, 1060, 1024, 1028] (by decide +kernel) (by decide +kernel) w h).1
set_option maxRecDepth 20000 in
theorem in_wsL_law_r21 : ∀ w ∈ wsL_law_r21, w ∈ lw_tbl := fun w h => (goodIn_p wsL_law_r21 [1032, 1036, 1040, 1044, 1048, 1052] (by decide +kernel) (by decide +kernel) w h).1
set_option maxRecDepth 20000 in
theorem in_wsL_law_r22 : ∀ w ∈ wsL_law_r22, w ∈ lw_tbl := fun w h => (goodIn_p wsL_law_r22 [1056, 1065, 632, 637, 641, 645] (by decide +kernel) (by decide +kernel) w h).1
set_option maxRecDepth 20000 in
theorem in_wsL_law_r23 : ∀ w ∈ wsL_law_r23, w ∈ lw_tbl := fun w h => (goodIn_p wsL_law_r23 [1077, 651, 657, 662] (by decide +kernel) (by decide +kernel) w h).1
set_option maxRecDepth 20000 in
theorem in_wsL_law_r24 : ∀ w ∈ wsL_law_r24, w ∈ lw_tbl := fun w h => (goodIn_p wsL_law_r24 [1081, 666, 1085, 671, 1089, 675] (by decide +kernel) (by decide +kernel) w h).1
end
section
set_option maxRecDepth 20000 in
theorem in_wsL_law_r25 : ∀ w ∈ wsL_law_r25, w ∈ lw_tbl := fun w h => (goodIn_p wsL_law_r25 [679, 1093, 683, 687, 694] (by decide +kernel) (by decide +kernel) w h).1
set_option maxRecDepth 20000 in
theorem in_wsL_law_r26 : ∀ w ∈ wsL_law_r26, w ∈ lw_tbl := fun w h => (goodIn_p wsL_law_r26 [1097, 1101, 700, 1105, 704, 708] (by decide +kernel) (by decide +kernel) w h).1
set_option maxRecDepth 20000 in
theorem in_wsL_law_r27 : ∀ w ∈ wsL_law_r27, w ∈ lw_tbl := fun w h => (goodIn_p wsL_law_r27 [712, 1069, 717, 721, 1073] (by decide +kernel) (by decide +kernel) w h).1
set_option maxRecDepth 20000 in
theorem in_wsL_law_r28 : ∀ w ∈ wsL_law_r28, w ∈ lw_tbl := fun w h => (goodIn_p wsL_law_r28 [725, 729, 733, 737, 740, 743] (by decide +kernel) (by decide +kernel) w h).1
set_option maxRecDepth 20000 in
theorem in_wsL_law_r29 : ∀ w ∈ wsL_law_r29, w ∈ lw_tbl := fun w h => (goodIn_p wsL_law_r29 [748, 757, 761] (by decide +kernel) (by decide +kernel) w h).1
set_option maxRecDepth 20000 in
theorem in_wsL_law_r30 : ∀ w ∈ wsL_law_r30, w ∈ lw_tbl := fun w h => (goodIn_p wsL_law_r30 [769, 773, 781, 785, 789] (by decide +kernel) (by decide +kernel) w h).1
set_option maxRecDepth 20000 in
theorem in_wsL_law_r31 : ∀ w ∈ wsL_law_r31, w ∈ lw_tbl := fun w h => (goodIn_p wsL_law_r31 [793, 797, 801, 1110, 1114, 1120] (by decide +kernel) (by decide +kernel) w h).1
set_option maxRecDepth 20000 in
theorem in_wsL_law_r32 : ∀ w ∈ wsL_law_r32, w ∈ lw_tbl := fun w h => (goodIn_p wsL_law_r32 [1124, 1128, 1132, 806, 810, 814] (by decide +kernel) (by decide +kernel) w h).1
set_option maxRecDepth 20000 in
theorem in_wsL_law_r33 : ∀ w ∈ wsL_law_r33, w ∈ lw_tbl := fun w h => (goodIn_p wsL_law_r33 [1136, 818, 822, 1140, 826, 830] (by decide +kernel) (by decide +kernel) w h).1
set_option maxRecDepth 20000 in
theorem in_wsL_law_r34 : ∀ w ∈ wsL_law_r34, w ∈ lw_tbl := fun w h => (goodIn_p wsL_law_r34 [834, 1144, 1148, 840, 844] (by decide +kernel) (by decide +kernel) w h).1
set_option maxRecDepth 20000 in
theorem in_wsL_law_r35 : ∀ w ∈ wsL_law_r35, w ∈ lw_tbl := fun w h => (goodIn_p wsL_law_r35 [1152, 849, 853, 1156, 857, 861] (by decide +kernel) (by decide +kernel) w h).1
set_option maxRecDepth 20000 in
theorem in_wsL_law_r36 : ∀ w ∈ wsL_law_r36, w ∈ lw_tbl := fun w h => (goodIn_p wsL_law_r36 [1161] (by decide +kernel) (by decide +kernel) w h).1
set_option maxRecDepth 20000 in
theorem in_wsX100 : ∀ w ∈ wsX100, w ∈ lw_tbl := fun w h => (goodIn_p wsX100 [] (by decide +kernel) (by decide +kernel) w h).1
set_option maxRecDepth 20000 in
theorem in_wsX110 : ∀ w ∈ wsX110, w ∈ lw_tbl := fun w h => (goodIn_p wsX110 [] (by decide +kernel) (by decide +kernel) w h).1
set_option maxRecDepth 20000 in
theorem in_wsX90 : ∀ w ∈ wsX90, w ∈ lw_tbl := fun w h => (goodIn_p wsX90 [] (by decide +kernel) (by decide +kernel) w h).1
set_option maxRecDepth 20000 in
theorem in_wsX10 : ∀ w ∈ wsX10, w ∈ lw_tbl := fun w h => (goodIn_p wsX10 [] (by decide +kernel) (by decide +kernel) w h).1
set_option maxRecDepth 20000 in
theorem in_wsX60 : ∀ w ∈ wsX60, w ∈ lw_tbl := fun w h => (goodIn_p wsX60 [] (by decide +kernel) (by decide +kernel) w h).1
set_option maxRecDepth 20000 in
theorem in_wsX40 : ∀ w ∈ wsX40, w ∈ lw_tbl := fun w h => (goodIn_p wsX40 [] (by decide +kernel) (by decide +kernel) w h).1
set_option maxRecDepth 20000 in
theorem in_wsX50 : ∀ w ∈ wsX50, w ∈ lw_tbl := fun w h => (goodIn_p wsX50 [] (by decide +kernel) (by decide +kernel) w h).1
set_option maxRecDepth 20000 in
theorem in_wsX70 : ∀ w ∈ wsX70, w ∈ lw_tbl := fun w h => (goodIn_p wsX70 [] (by decide +kernel) (by decide +kernel) w h).1
set_option maxRecDepth 20000 in
theorem in_wsX00 : ∀ w ∈ wsX00, w ∈ lw_tbl := fun w h => (goodIn_p wsX00 [] (by decide +kernel) (by decide +kernel) w h).1
set_option maxRecDepth 20000 in
theorem in_wsX80 : ∀ w ∈ wsX80, w ∈ lw_tbl := fun w h => (goodIn_p wsX80 [] (by decide +kernel) (by decide +kernel) w h).1
set_option maxRecDepth 20000 in
theorem in_wsX30 : ∀ w ∈ wsX30, w ∈ lw_tbl := fun w h => (goodIn_p wsX30 [] (by decide +kernel) (by decide +kernel) w h).1
set_option maxRecDepth 20000 in
theorem in_wsX20 : ∀ w ∈ wsX20, w ∈ lw_tbl := fun w h => (goodIn_p wsX20 [] (by decide +kernel) (by decide +kernel) w h).1
end
section
theorem wsL_law_in : ∀ w ∈ wsL_law, w ∈ lw_tbl := by
  intro w h
  unfold wsL_law at h
  simp only [List.mem_append] at h
  rcases h with ((((((((((((((h | h | h | h | h | h | h | h | h | h | h | h | h | h | h | h | h | h | h | h | h | h | h | h | h | h | h | h | h | h | h | h | h | h | h | h) | h) | h) | h) | h) | h) | h) | h) | h) | h) | h) | h) | h) | h)
  · exact in_wsL_law_r1 w h
  · exact in_wsL_law_r2 w h
  · exact in_wsL_law_r3 w h
  · exact in_wsL_law_r4 w h
  · exact in_wsL_law_r5 w h
  · exact in_wsL_law_r6 w h
  · exact in_wsL_law_r7 w h
  · exact in_wsL_law_r8 w h
  · exact in_wsL_law_r9 w h
  · exact in_wsL_law_r10 w h
  · exact in_wsL_law_r11 w h
  · exact in_wsL_law_r12 w h
  · exact in_wsL_law_r13 w h
  · exact in_wsL_law_r14 w h
  · exact in_wsL_law_r15 w h
  · exact in_wsL_law_r16 w h
  · exact in_wsL_law_r17 w h
  · exact in_wsL_law_r18 w h
  · exact in_wsL_law_r19 w h
  · exact in_wsL_law_r20 w h
  · exact in_wsL_law_r21 w h
  · exact in_wsL_law_r22 w h
  · exact in_wsL_law_r23 w h
  · exact in_wsL_law_r24 w h
  · exact in_wsL_law_r25 w h
  · exact in_wsL_law_r26 w h
  · exact in_wsL_law_r27 w h
  · exact in_wsL_law_r28 w h
  · exact in_wsL_law_r29 w h
  · exact in_wsL_law_r30 w h
  · exact in_wsL_law_r31 w h
  · exact in_wsL_law_r32 w h
  · exact in_wsL_law_r33 w h
  · exact in_wsL_law_r34 w h
  · exact in_wsL_law_r35 w h
  · exact in_wsL_law_r36 w h
  · exact in_wsX100 w h
  · exact in_wsX110 w h
  · exact in_wsX90 w h
  · exact in_wsX10 w h
  · exact in_wsX60 w h
  · exact in_wsX40 w h
  · exact in_wsX50 w h
  · exact in_wsX70 w h
  · exact in_wsX00 w h
  · exact in_wsX80 w h
  · exact in_wsX30 w h
  · exact in_wsX20 w h
  · exact absurd h List.not_mem_nil

theorem inlX0 : ∀ w ∈ wsX00, w ∈ wsL_law := fun _ h => List.mem_append_left _ (List.mem_append_left _ (List.mem_append_left _ (List.mem_append_left _ (List.mem_append_right _ h))))
theorem inX0 : ∀ w ∈ wsX00, w ∈ lw_tbl := fun w h => wsL_law_in w (inlX0 w h)
theorem inlX1 : ∀ w ∈ wsX10, w ∈ wsL_law := fun _ h => List.mem_append_left _ (List.mem_append_left _ (List.mem_append_left _ (List.mem_append_left _ (List.mem_append_left _ (List.mem_append_left _ (List.mem_append_left _ (List.mem_append_left _ (List.mem_append_left _ (List.mem_append_right _ h)))))))))
theorem inX1 : ∀ w ∈ wsX10, w ∈ lw_tbl := fun w h => wsL_law_in w (inlX1 w h)
theorem inlX2 : ∀ w ∈ wsX20, w ∈ wsL_law := fun _ h => List.mem_append_left _ (List.mem_append_right _ h)
theorem inX2 : ∀ w ∈ wsX20, w ∈ lw_tbl := fun w h => wsL_law_in w (inlX2 w h)
theorem inlX3 : ∀ w ∈ wsX30, w ∈ wsL_law := fun _ h => List.mem_append_left _ (List.mem_append_left _ (List.mem_append_right _ h))
theorem inX3 : ∀ w ∈ wsX30, w ∈ lw_tbl := fun w h => wsL_law_in w (inlX3 w h)
theorem inlX4 : ∀ w ∈ wsX40, w ∈ wsL_law := fun _ h => List.mem_append_left _ (List.mem_append_left _ (List.mem_append_left _ (List.mem_append_left _ (List.mem_append_left _ (List.mem_append_left _ (List.mem_append_left _ (List.mem_append_right _ h)))))))
theorem inX4 : ∀ w ∈ wsX40, w ∈ lw_tbl := fun w h => wsL_law_in w (inlX4 w h)
theorem inlX5 : ∀ w ∈ wsX50, w ∈ wsL_law := fun _ h => List.mem_append_left _ (List.mem_append_left _ (List.mem_append_left _ (List.mem_append_left _ (List.mem_append_left _ (List.mem_append_left _ (List.mem_append_right _ h))))))
theorem inX5 : ∀ w ∈ wsX50, w ∈ lw_tbl := fun w h => wsL_law_in w (inlX5 w h)
theorem inlX6 : ∀ w ∈ wsX60, w ∈ wsL_law := fun _ h => List.mem_append_left _ (List.mem_append_left _ (List.mem_append_left _ (List.mem_append_left _ (List.mem_append_left _ (List.mem_append_left _ (List.mem_append_left _ (List.mem_append_left _ (List.mem_append_right _ h))))))))
theorem inX6 : ∀ w ∈ wsX60, w ∈ lw_tbl := fun w h => wsL_law_in w (inlX6 w h)
theorem inlX7 : ∀ w ∈ wsX70, w ∈ wsL_law := fun _ h => List.mem_append_left _ (List.mem_append_left _ (List.mem_append_left _ (List.mem_append_left _ (List.mem_append_left _ (List.mem_append_right _ h)))))
theorem inX7 : ∀ w ∈ wsX70, w ∈ lw_tbl := fun w h => wsL_law_in w (inlX7 w h)
theorem inlX8 : ∀ w ∈ wsX80, w ∈ wsL_law := fun _ h => List.mem_append_left _ (List.mem_append_left _ (List.mem_append_left _ (List.mem_append_right _ h)))
theorem inX8 : ∀ w ∈ wsX80, w ∈ lw_tbl := fun w h => wsL_law_in w (inlX8 w h)
theorem inlX9 : ∀ w ∈ wsX90, w ∈ wsL_law := fun _ h => List.mem_append_left _ (List.mem_append_left _ (List.mem_append_left _ (List.mem_append_left _ (List.mem_append_left _ (List.mem_append_left _ (List.mem_append_left _ (List.mem_append_left _ (List.mem_append_left _ (List.mem_append_left _ (List.mem_append_right _ h))))))))))
theorem inX9 : ∀ w ∈ wsX90, w ∈ lw_tbl := fun w h => wsL_law_in w (inlX9 w h)
theorem inlX10 : ∀ w ∈ wsX100, w ∈ wsL_law := fun _ h => List.mem_append_left _ (List.mem_append_left _ (List.mem_append_left _ (List.mem_append_left _ (List.mem_append_left _ (List.mem_append_left _ (List.mem_append_left _ (List.mem_append_left _ (List.mem_append_left _ (List.mem_append_left _ (List.mem_append_left _ (List.mem_append_left _ (List.mem_append_right _ h))))))))))))
theorem inX10 : ∀ w ∈ wsX100, w ∈ lw_tbl := fun w h => wsL_law_in w (inlX10 w h)
theorem inlX11 : ∀ w ∈ wsX110, w ∈ wsL_law := fun _ h => List.mem_append_left _ (List.mem_append_left _ (List.mem_append_left _ (List.mem_append_left _ (List.mem_append_left _ (List.mem_append_left _ (List.mem_append_left _ (List.mem_append_left _ (List.mem_append_left _ (List.mem_append_left _ (List.mem_append_left _ (List.mem_append_right _ h)))))))))))
theorem inX11 : ∀ w ∈ wsX110, w ∈ lw_tbl := fun w h => wsL_law_in w (inlX11 w h)
theorem inJ9 : ∀ w ∈ wsJ90, w ∈ lw_tbl := by decide +kernel
theorem inJ10 : ∀ w ∈ wsJ100, w ∈ lw_tbl := by decide +kernel
theorem inJ7 : ∀ w ∈ wsJ70, w ∈ lw_tbl := by decide +kernel
end
section
theorem dX0_init_0 : decode cX0_init 0 = .ok (.aload_n 0, 1) := by decide +kernel
theorem dX0_init_1 : decode cX0_init 1 = .ok (.invokespecial 3, 3) := by decide +kernel
theorem dX0_init_4 : decode cX0_init 4 = .ok (.aload_n 0, 1) := by decide +kernel
theorem dX0_init_5 : decode cX0_init 5 = .ok (.bipush 81, 2) := by decide +kernel
theorem dX0_init_7 : decode cX0_init 7 = .ok (.newarray .int, 2) := by decide +kernel
theorem dX0_init_9 : decode cX0_init 9 = .ok (.putfield 9, 3) := by decide +kernel
theorem dX0_init_12 : decode cX0_init 12 = .ok (.aload_n 0, 1) := by decide +kernel
theorem dX0_init_13 : decode cX0_init 13 = .ok (.bipush 81, 2) := by decide +kernel
theorem dX0_init_15 : decode cX0_init 15 = .ok (.newarray .boolean, 2) := by decide +kernel
theorem dX0_init_17 : decode cX0_init 17 = .ok (.putfield 15, 3) := by decide +kernel
theorem dX0_init_20 : decode cX0_init 20 = .ok (.aload_n 0, 1) := by decide +kernel
theorem dX0_init_21 : decode cX0_init 21 = .ok (.sipush 324, 3) := by decide +kernel
theorem dX0_init_24 : decode cX0_init 24 = .ok (.newarray .int, 2) := by decide +kernel
theorem dX0_init_26 : decode cX0_init 26 = .ok (.putfield 19, 3) := by decide +kernel
theorem dX0_init_29 : decode cX0_init 29 = .ok (.return_, 1) := by decide +kernel
theorem dX1_init_0 : decode cX1_init 0 = .ok (.aload_n 0, 1) := by decide +kernel
theorem dX1_init_1 : decode cX1_init 1 = .ok (.invokespecial 1, 3) := by decide +kernel
theorem dX1_init_4 : decode cX1_init 4 = .ok (.aload_n 0, 1) := by decide +kernel
theorem dX1_init_5 : decode cX1_init 5 = .ok (.iconst 0, 1) := by decide +kernel
theorem dX1_init_6 : decode cX1_init 6 = .ok (.putfield 7, 3) := by decide +kernel
theorem dX1_init_9 : decode cX1_init 9 = .ok (.aload_n 0, 1) := by decide +kernel
theorem dX1_init_10 : decode cX1_init 10 = .ok (.iconst 4, 1) := by decide +kernel
theorem dX1_init_11 : decode cX1_init 11 = .ok (.putfield 13, 3) := by decide +kernel
theorem dX1_init_14 : decode cX1_init 14 = .ok (.aload_n 0, 1) := by decide +kernel
theorem dX1_init_15 : decode cX1_init 15 = .ok (.iconst 1, 1) := by decide +kernel
theorem dX1_init_16 : decode cX1_init 16 = .ok (.putfield 16, 3) := by decide +kernel
theorem dX1_init_19 : decode cX1_init 19 = .ok (.aload_n 0, 1) := by decide +kernel
theorem dX1_init_20 : decode cX1_init 20 = .ok (.iconst 0, 1) := by decide +kernel
theorem dX1_init_21 : decode cX1_init 21 = .ok (.putfield 20, 3) := by decide +kernel
theorem dX1_init_24 : decode cX1_init 24 = .ok (.aload_n 0, 1) := by decide +kernel
theorem dX1_init_25 : decode cX1_init 25 = .ok (.iconst 0, 1) := by decide +kernel
theorem dX1_init_26 : decode cX1_init 26 = .ok (.putfield 23, 3) := by decide +kernel
theorem dX1_init_29 : decode cX1_init 29 = .ok (.return_, 1) := by decide +kernel
theorem dX1_change_0 : decode cX1_change 0 = .ok (.iload_n 1, 1) := by decide +kernel
theorem dX1_change_1 : decode cX1_change 1 = .ok (.ifCond .eq 8, 3) := by decide +kernel
theorem dX1_change_4 : decode cX1_change 4 = .ok (.iload_n 1, 1) := by decide +kernel
theorem dX1_change_5 : decode cX1_change 5 = .ok (.iconst 1, 1) := by decide +kernel
theorem dX1_change_6 : decode cX1_change 6 = .ok (.if_icmp .ne 40, 3) := by decide +kernel
theorem dX1_change_9 : decode cX1_change 9 = .ok (.iload_n 2, 1) := by decide +kernel
theorem dX1_change_10 : decode cX1_change 10 = .ok (.iconst 2, 1) := by decide +kernel
theorem dX1_change_11 : decode cX1_change 11 = .ok (.if_icmp .eq 8, 3) := by decide +kernel
theorem dX1_change_14 : decode cX1_change 14 = .ok (.iload_n 2, 1) := by decide +kernel
theorem dX1_change_15 : decode cX1_change 15 = .ok (.iconst 4, 1) := by decide +kernel
theorem dX1_change_16 : decode cX1_change 16 = .ok (.if_icmp .ne 30, 3) := by decide +kernel
theorem dX1_change_19 : decode cX1_change 19 = .ok (.iload 4, 2) := by decide +kernel
theorem dX1_change_21 : decode cX1_change 21 = .ok (.ifCond .lt 25, 3) := by decide +kernel
theorem dX1_change_24 : decode cX1_change 24 = .ok (.iload 4, 2) := by decide +kernel
theorem dX1_change_26 : decode cX1_change 26 = .ok (.bipush 8, 2) := by decide +kernel
theorem dX1_change_28 : decode cX1_change 28 = .ok (.if_icmp .gt 18, 3) := by decide +kernel
theorem dX1_change_31 : decode cX1_change 31 = .ok (.iload 5, 2) := by decide +kernel
theorem dX1_change_33 : decode cX1_change 33 = .ok (.ifCond .eq 9, 3) := by decide +kernel
theorem dX1_change_36 : decode cX1_change 36 = .ok (.iload 5, 2) := by decide +kernel
theorem dX1_change_38 : decode cX1_change 38 = .ok (.iconst 1, 1) := by decide +kernel
theorem dX1_change_39 : decode cX1_change 39 = .ok (.if_icmp .ne 7, 3) := by decide +kernel
theorem dX1_change_42 : decode cX1_change 42 = .ok (.iconst 1, 1) := by decide +kernel
theorem dX1_change_43 : decode cX1_change 43 = .ok (.goto 4, 3) := by decide +kernel
theorem dX1_change_46 : decode cX1_change 46 = .ok (.iconst 0, 1) := by decide +kernel
theorem dX1_change_47 : decode cX1_change 47 = .ok (.istore 6, 2) := by decide +kernel
theorem dX1_change_49 : decode cX1_change 49 = .ok (.iload 6, 2) := by decide +kernel
theorem dX1_change_51 : decode cX1_change 51 = .ok (.ifCond .ne 5, 3) := by decide +kernel
theorem dX1_change_54 : decode cX1_change 54 = .ok (.iconst 0, 1) := by decide +kernel
theorem dX1_change_55 : decode cX1_change 55 = .ok (.ireturn, 1) := by decide +kernel
theorem dX1_change_56 : decode cX1_change 56 = .ok (.aload_n 0, 1) := by decide +kernel
theorem dX1_change_57 : decode cX1_change 57 = .ok (.iload_n 1, 1) := by decide +kernel
theorem dX1_change_58 : decode cX1_change 58 = .ok (.putfield 7, 3) := by decide +kernel
theorem dX1_change_61 : decode cX1_change 61 = .ok (.aload_n 0, 1) := by decide +kernel
theorem dX1_change_62 : decode cX1_change 62 = .ok (.iload_n 2, 1) := by decide +kernel
theorem dX1_change_63 : decode cX1_change 63 = .ok (.putfield 13, 3) := by decide +kernel
theorem dX1_change_66 : decode cX1_change 66 = .ok (.aload_n 0, 1) := by decide +kernel
theorem dX1_change_67 : decode cX1_change 67 = .ok (.iload_n 3, 1) := by decide +kernel
theorem dX1_change_68 : decode cX1_change 68 = .ok (.putfield 16, 3) := by decide +kernel
theorem dX1_change_71 : decode cX1_change 71 = .ok (.aload_n 0, 1) := by decide +kernel
theorem dX1_change_72 : decode cX1_change 72 = .ok (.iload 4, 2) := by decide +kernel
theorem dX1_change_74 : decode cX1_change 74 = .ok (.putfield 20, 3) := by decide +kernel
theorem dX1_change_77 : decode cX1_change 77 = .ok (.aload_n 0, 1) := by decide +kernel
theorem dX1_change_78 : decode cX1_change 78 = .ok (.iload 5, 2) := by decide +kernel
theorem dX1_change_80 : decode cX1_change 80 = .ok (.putfield 23, 3) := by decide +kernel
theorem dX1_change_83 : decode cX1_change 83 = .ok (.iconst 1, 1) := by decide +kernel
theorem dX1_change_84 : decode cX1_change 84 = .ok (.ireturn, 1) := by decide +kernel
theorem dX2_init_0 : decode cX2_init 0 = .ok (.aload_n 0, 1) := by decide +kernel
theorem dX2_init_1 : decode cX2_init 1 = .ok (.invokespecial 3, 3) := by decide +kernel
theorem dX2_init_4 : decode cX2_init 4 = .ok (.aload_n 0, 1) := by decide +kernel
theorem dX2_init_5 : decode cX2_init 5 = .ok (.iconst 0, 1) := by decide +kernel
theorem dX2_init_6 : decode cX2_init 6 = .ok (.newarray .int, 2) := by decide +kernel
theorem dX2_init_8 : decode cX2_init 8 = .ok (.putfield 9, 3) := by decide +kernel
theorem dX2_init_11 : decode cX2_init 11 = .ok (.aload_n 0, 1) := by decide +kernel
theorem dX2_init_12 : decode cX2_init 12 = .ok (.iconst 0, 1) := by decide +kernel
theorem dX2_init_13 : decode cX2_init 13 = .ok (.newarray .int, 2) := by decide +kernel
theorem dX2_init_15 : decode cX2_init 15 = .ok (.putfield 15, 3) := by decide +kernel
theorem dX2_init_18 : decode cX2_init 18 = .ok (.aload_n 0, 1) := by decide +kernel
theorem dX2_init_19 : decode cX2_init 19 = .ok (.iconst 0, 1) := by decide +kernel
theorem dX2_init_20 : decode cX2_init 20 = .ok (.newarray .int, 2) := by decide +kernel
theorem dX2_init_22 : decode cX2_init 22 = .ok (.putfield 18, 3) := by decide +kernel
theorem dX2_init_25 : decode cX2_init 25 = .ok (.return_, 1) := by decide +kernel
theorem dX3_init_0 : decode cX3_init 0 = .ok (.aload_n 0, 1) := by decide +kernel
theorem dX3_init_1 : decode cX3_init 1 = .ok (.invokespecial 3, 3) := by decide +kernel
theorem dX3_init_4 : decode cX3_init 4 = .ok (.aload_n 0, 1) := by decide +kernel
theorem dX3_init_5 : decode cX3_init 5 = .ok (.sipush 512, 3) := by decide +kernel
theorem dX3_init_8 : decode cX3_init 8 = .ok (.newarray .int, 2) := by decide +kernel
theorem dX3_init_10 : decode cX3_init 10 = .ok (.putfield 9, 3) := by decide +kernel
theorem dX3_init_13 : decode cX3_init 13 = .ok (.aload_n 0, 1) := by decide +kernel
theorem dX3_init_14 : decode cX3_init 14 = .ok (.sipush 512, 3) := by decide +kernel
theorem dX3_init_17 : decode cX3_init 17 = .ok (.newarray .int, 2) := by decide +kernel
theorem dX3_init_19 : decode cX3_init 19 = .ok (.putfield 15, 3) := by decide +kernel
theorem dX3_init_22 : decode cX3_init 22 = .ok (.aload_n 0, 1) := by decide +kernel
theorem dX3_init_23 : decode cX3_init 23 = .ok (.sipush 512, 3) := by decide +kernel
theorem dX3_init_26 : decode cX3_init 26 = .ok (.newarray .int, 2) := by decide +kernel
theorem dX3_init_28 : decode cX3_init 28 = .ok (.putfield 18, 3) := by decide +kernel
theorem dX3_init_31 : decode cX3_init 31 = .ok (.aload_n 0, 1) := by decide +kernel
theorem dX3_init_32 : decode cX3_init 32 = .ok (.sipush 512, 3) := by decide +kernel
theorem dX3_init_35 : decode cX3_init 35 = .ok (.newarray .int, 2) := by decide +kernel
theorem dX3_init_37 : decode cX3_init 37 = .ok (.putfield 21, 3) := by decide +kernel
theorem dX3_init_40 : decode cX3_init 40 = .ok (.aload_n 0, 1) := by decide +kernel
theorem dX3_init_41 : decode cX3_init 41 = .ok (.sipush 2048, 3) := by decide +kernel
theorem dX3_init_44 : decode cX3_init 44 = .ok (.newarray .int, 2) := by decide +kernel
theorem dX3_init_46 : decode cX3_init 46 = .ok (.putfield 24, 3) := by decide +kernel
theorem dX3_init_49 : decode cX3_init 49 = .ok (.aload_n 0, 1) := by decide +kernel
theorem dX3_init_50 : decode cX3_init 50 = .ok (.sipush 2048, 3) := by decide +kernel
theorem dX3_init_53 : decode cX3_init 53 = .ok (.newarray .int, 2) := by decide +kernel
theorem dX3_init_55 : decode cX3_init 55 = .ok (.putfield 27, 3) := by decide +kernel
theorem dX3_init_58 : decode cX3_init 58 = .ok (.aload_n 0, 1) := by decide +kernel
theorem dX3_init_59 : decode cX3_init 59 = .ok (.bipush 40, 2) := by decide +kernel
theorem dX3_init_61 : decode cX3_init 61 = .ok (.newarray .int, 2) := by decide +kernel
theorem dX3_init_63 : decode cX3_init 63 = .ok (.putfield 30, 3) := by decide +kernel
theorem dX3_init_66 : decode cX3_init 66 = .ok (.return_, 1) := by decide +kernel
theorem dX3_clear_0 : decode cX3_clear 0 = .ok (.aload_n 0, 1) := by decide +kernel
theorem dX3_clear_1 : decode cX3_clear 1 = .ok (.iconst 0, 1) := by decide +kernel
theorem dX3_clear_2 : decode cX3_clear 2 = .ok (.putfield 33, 3) := by decide +kernel
theorem dX3_clear_5 : decode cX3_clear 5 = .ok (.aload_n 0, 1) := by decide +kernel
theorem dX3_clear_6 : decode cX3_clear 6 = .ok (.iconst 0, 1) := by decide +kernel
theorem dX3_clear_7 : decode cX3_clear 7 = .ok (.putfield 37, 3) := by decide +kernel
theorem dX3_clear_10 : decode cX3_clear 10 = .ok (.return_, 1) := by decide +kernel
theorem dX3_latestTakings_0 : decode cX3_latestTakings 0 = .ok (.aload_n 0, 1) := by decide +kernel
theorem dX3_latestTakings_1 : decode cX3_latestTakings 1 = .ok (.getfield 33, 3) := by decide +kernel
theorem dX3_latestTakings_4 : decode cX3_latestTakings 4 = .ok (.ifCond .le 17, 3) := by decide +kernel
theorem dX3_latestTakings_21 : decode cX3_latestTakings 21 = .ok (.iconst (-1), 1) := by decide +kernel
theorem dX3_latestTakings_22 : decode cX3_latestTakings 22 = .ok (.ireturn, 1) := by decide +kernel
theorem dX3_latestVictim_0 : decode cX3_latestVictim 0 = .ok (.aload_n 0, 1) := by decide +kernel
theorem dX3_latestVictim_1 : decode cX3_latestVictim 1 = .ok (.getfield 33, 3) := by decide +kernel
theorem dX3_latestVictim_4 : decode cX3_latestVictim 4 = .ok (.ifCond .le 26, 3) := by decide +kernel
theorem dX3_latestVictim_30 : decode cX3_latestVictim 30 = .ok (.iconst 0, 1) := by decide +kernel
theorem dX3_latestVictim_31 : decode cX3_latestVictim 31 = .ok (.istore_n 2, 1) := by decide +kernel
theorem dX3_latestVictim_32 : decode cX3_latestVictim 32 = .ok (.iload_n 2, 1) := by decide +kernel
theorem dX3_latestVictim_33 : decode cX3_latestVictim 33 = .ok (.ifCond .eq 21, 3) := by decide +kernel
theorem dX3_latestVictim_54 : decode cX3_latestVictim 54 = .ok (.iconst (-1), 1) := by decide +kernel
theorem dX3_latestVictim_55 : decode cX3_latestVictim 55 = .ok (.ireturn, 1) := by decide +kernel
set_option maxRecDepth 20000 in
theorem ggX4_init_X8_init : GoodIn wsX4_init wsX8_init := goodIn_r _ [17, 18, 2, 3, 19, 20, 21, 22, 23, 24, 6, 25, 26, 27, 28, 29, 30, 41, 42, 43] (by decide +kernel) (by decide +kernel)
set_option maxRecDepth 20000 in
theorem gX4_init_X8_init : GoodIn wsX4_init (wsX8_init) := ggX4_init_X8_init
set_option maxRecDepth 20000 in
theorem ggX4_init_X3_init : GoodIn wsX4_init wsX3_init := goodIn_r _ [32, 33, 2, 3, 19, 34, 35, 36, 37, 38, 39, 40, 49, 50, 51, 52, 53, 54, 55, 56, 57] (by decide +kernel) (by decide +kernel)
set_option maxRecDepth 20000 in
theorem gX4_init_X3_init_n20 : GoodIn wsX4_init (wsX3_init) := ggX4_init_X3_init
theorem dX4_init_0 : decode cX4_init 0 = .ok (.aload_n 0, 1) := by decide +kernel
theorem dX4_init_1 : decode cX4_init 1 = .ok (.invokespecial 3, 3) := by decide +kernel
theorem dX4_init_4 : decode cX4_init 4 = .ok (.aload_n 0, 1) := by decide +kernel
theorem dX4_init_5 : decode cX4_init 5 = .ok (.new 9, 3) := by decide +kernel
theorem dX4_init_8 : decode cX4_init 8 = .ok (.dup, 1) := by decide +kernel
theorem dX4_init_9 : decode cX4_init 9 = .ok (.invokespecial 11, 3) := by decide +kernel
theorem dX4_init_12 : decode cX4_init 12 = .ok (.putfield 12, 3) := by decide +kernel
theorem dX4_init_15 : decode cX4_init 15 = .ok (.aload_n 0, 1) := by decide +kernel
theorem dX4_init_16 : decode cX4_init 16 = .ok (.new 18, 3) := by decide +kernel
theorem dX4_init_19 : decode cX4_init 19 = .ok (.dup, 1) := by decide +kernel
theorem dX4_init_20 : decode cX4_init 20 = .ok (.invokespecial 20, 3) := by decide +kernel
theorem dX4_init_23 : decode cX4_init 23 = .ok (.putfield 21, 3) := by decide +kernel
theorem dX4_init_26 : decode cX4_init 26 = .ok (.aload_n 0, 1) := by decide +kernel
theorem dX4_init_27 : decode cX4_init 27 = .ok (.iconst 0, 1) := by decide +kernel
theorem dX4_init_28 : decode cX4_init 28 = .ok (.putfield 25, 3) := by decide +kernel
theorem dX4_init_31 : decode cX4_init 31 = .ok (.aload_n 0, 1) := by decide +kernel
theorem dX4_init_32 : decode cX4_init 32 = .ok (.aload_n 1, 1) := by decide +kernel
theorem dX4_init_33 : decode cX4_init 33 = .ok (.putfield 29, 3) := by decide +kernel
theorem dX4_init_36 : decode cX4_init 36 = .ok (.aload_n 0, 1) := by decide +kernel
theorem dX4_init_37 : decode cX4_init 37 = .ok (.aload_n 2, 1) := by decide +kernel
theorem dX4_init_38 : decode cX4_init 38 = .ok (.putfield 33, 3) := by decide +kernel
theorem dX4_init_41 : decode cX4_init 41 = .ok (.return_, 1) := by decide +kernel
theorem dX4_isThere_0 : decode cX4_isThere 0 = .ok (.aload_n 0, 1) := by decide +kernel
theorem dX4_isThere_1 : decode cX4_isThere 1 = .ok (.getfield 25, 3) := by decide +kernel
theorem dX4_isThere_4 : decode cX4_isThere 4 = .ok (.ifCond .eq 7, 3) := by decide +kernel
theorem dX4_isThere_11 : decode cX4_isThere 11 = .ok (.iconst 0, 1) := by decide +kernel
theorem dX4_isThere_12 : decode cX4_isThere 12 = .ok (.ireturn, 1) := by decide +kernel
set_option maxRecDepth 20000 in
theorem ggX4_finish_X6_dismiss : GoodIn wsX4_finish wsX6_dismiss := goodIn_r _ [9, 10, 11, 36, 37, 38, 39, 40, 41, 42, 43, 44] (by decide +kernel) (by decide +kernel)
set_option maxRecDepth 20000 in
theorem gX4_finish_X6_dismiss : GoodIn wsX4_finish (wsV RX4 89 RX6 yX6_dismiss wsX6_dismiss) := goodIn_app (goodIn_of _ (by decide +kernel)) ggX4_finish_X6_dismiss
set_option maxRecDepth 20000 in
theorem ggX4_finish_X8_clear : GoodIn wsX4_finish wsX8_clear := goodIn_r _ [16, 17, 18, 19, 20, 21, 22, 23, 45, 46, 47] (by decide +kernel) (by decide +kernel)
set_option maxRecDepth 20000 in
theorem gX4_finish_X8_clear : GoodIn wsX4_finish (wsV RX4 92 RX8 yX8_clear wsX8_clear) := goodIn_app (goodIn_of _ (by decide +kernel)) ggX4_finish_X8_clear
set_option maxRecDepth 20000 in
theorem ggX4_finish_X3_clear : GoodIn wsX4_finish wsX3_clear := goodIn_r _ [28, 29, 30, 48, 49, 50, 51, 52, 53, 54, 55, 56] (by decide +kernel) (by decide +kernel)
set_option maxRecDepth 20000 in
theorem gX4_finish_X3_clear : GoodIn wsX4_finish (wsV RX4 95 RX3 yX3_clear wsX3_clear) := goodIn_app (goodIn_of _ (by decide +kernel)) ggX4_finish_X3_clear
theorem dX4_finish_0 : decode cX4_finish 0 = .ok (.aload_n 0, 1) := by decide +kernel
theorem dX4_finish_1 : decode cX4_finish 1 = .ok (.iconst 0, 1) := by decide +kernel
theorem dX4_finish_2 : decode cX4_finish 2 = .ok (.putfield 25, 3) := by decide +kernel
theorem dX4_finish_5 : decode cX4_finish 5 = .ok (.aload_n 0, 1) := by decide +kernel
theorem dX4_finish_6 : decode cX4_finish 6 = .ok (.getfield 33, 3) := by decide +kernel
theorem dX4_finish_9 : decode cX4_finish 9 = .ok (.invokevirtual 89, 3) := by decide +kernel
theorem dX4_finish_12 : decode cX4_finish 12 = .ok (.aload_n 0, 1) := by decide +kernel
theorem dX4_finish_13 : decode cX4_finish 13 = .ok (.getfield 12, 3) := by decide +kernel
theorem dX4_finish_16 : decode cX4_finish 16 = .ok (.invokevirtual 92, 3) := by decide +kernel
theorem dX4_finish_19 : decode cX4_finish 19 = .ok (.aload_n 0, 1) := by decide +kernel
theorem dX4_finish_20 : decode cX4_finish 20 = .ok (.getfield 21, 3) := by decide +kernel
theorem dX4_finish_23 : decode cX4_finish 23 = .ok (.invokevirtual 95, 3) := by decide +kernel
theorem dX4_finish_26 : decode cX4_finish 26 = .ok (.return_, 1) := by decide +kernel
theorem dX4_sideOnTurn_0 : decode cX4_sideOnTurn 0 = .ok (.aload_n 0, 1) := by decide +kernel
theorem dX4_sideOnTurn_1 : decode cX4_sideOnTurn 1 = .ok (.getfield 25, 3) := by decide +kernel
theorem dX4_sideOnTurn_4 : decode cX4_sideOnTurn 4 = .ok (.iconst 1, 1) := by decide +kernel
theorem dX4_sideOnTurn_5 : decode cX4_sideOnTurn 5 = .ok (.if_icmp .ne 13, 3) := by decide +kernel
theorem dX4_sideOnTurn_18 : decode cX4_sideOnTurn 18 = .ok (.iconst (-1), 1) := by decide +kernel
theorem dX4_sideOnTurn_19 : decode cX4_sideOnTurn 19 = .ok (.ireturn, 1) := by decide +kernel
theorem dX4_lost_0 : decode cX4_lost 0 = .ok (.iconst 0, 1) := by decide +kernel
theorem dX4_lost_1 : decode cX4_lost 1 = .ok (.istore_n 1, 1) := by decide +kernel
theorem dX4_lost_2 : decode cX4_lost 2 = .ok (.iconst 0, 1) := by decide +kernel
theorem dX4_lost_3 : decode cX4_lost 3 = .ok (.istore_n 2, 1) := by decide +kernel
theorem dX4_lost_4 : decode cX4_lost 4 = .ok (.iload_n 2, 1) := by decide +kernel
theorem dX4_lost_5 : decode cX4_lost 5 = .ok (.aload_n 0, 1) := by decide +kernel
theorem dX4_lost_6 : decode cX4_lost 6 = .ok (.getfield 33, 3) := by decide +kernel
theorem dX4_lost_9 : decode cX4_lost 9 = .ok (.getfield 71, 3) := by decide +kernel
theorem dX4_lost_12 : decode cX4_lost 12 = .ok (.if_icmp .ge 29, 3) := by decide +kernel
theorem dX4_lost_41 : decode cX4_lost 41 = .ok (.iload_n 1, 1) := by decide +kernel
theorem dX4_lost_42 : decode cX4_lost 42 = .ok (.ireturn, 1) := by decide +kernel
theorem dX4_reason_0 : decode cX4_reason 0 = .ok (.aload_n 0, 1) := by decide +kernel
theorem dX4_reason_1 : decode cX4_reason 1 = .ok (.getfield 25, 3) := by decide +kernel
theorem dX4_reason_4 : decode cX4_reason 4 = .ok (.iconst 1, 1) := by decide +kernel
theorem dX4_reason_5 : decode cX4_reason 5 = .ok (.if_icmp .eq 5, 3) := by decide +kernel
theorem dX4_reason_8 : decode cX4_reason 8 = .ok (.iconst 1, 1) := by decide +kernel
theorem dX4_reason_9 : decode cX4_reason 9 = .ok (.ireturn, 1) := by decide +kernel
set_option maxRecDepth 20000 in
theorem ggX4_tryMove_X4_reason : GoodIn wsX4_tryMove wsX4_reason := goodIn_r _ [8, 9, 2, 3, 10, 11, 12, 13, 14, 15, 16, 17, 18, 19, 20, 21, 22, 23, 24, 25, 26, 27, 28, 29, 30, 31, 32, 33, 34, 35, 36, 37, 38, 39, 40, 41, 42, 7, 43, 44, 45, 46, 47, 48, 49, 50, 51, 52, 53, 54, 55, 56, 57, 58, 1, 59, 60, 61, 62, 63, 64, 65, 66, 67, 68, 69, 70, 71, 72, 73, 74, 75, 76, 77, 78, 79, 80, 81, 82, 83, 84, 85, 86, 87, 88, 89, 90, 91, 92, 93, 94, 95, 96, 97, 98, 99, 100, 101, 102, 150, 151, 152, 153, 154, 164, 165, 166, 167, 168, 169, 170, 171, 172, 173, 174, 175, 176, 177, 178, 179, 180, 181, 182, 183, 184, 185, 155, 156, 157, 158, 159, 160, 161, 162, 163] (by decide +kernel) (by decide +kernel)
set_option maxRecDepth 20000 in
theorem gX4_tryMove_X4_reason : GoodIn wsX4_tryMove (wsV RX4 152 RX4 yX4_reason wsX4_reason) := goodIn_app (goodIn_of _ (by decide +kernel)) ggX4_tryMove_X4_reason
theorem dX4_tryMove_0 : decode cX4_tryMove 0 = .ok (.aload_n 0, 1) := by decide +kernel
theorem dX4_tryMove_1 : decode cX4_tryMove 1 = .ok (.iload_n 1, 1) := by decide +kernel
theorem dX4_tryMove_2 : decode cX4_tryMove 2 = .ok (.iload_n 2, 1) := by decide +kernel
theorem dX4_tryMove_3 : decode cX4_tryMove 3 = .ok (.iload_n 3, 1) := by decide +kernel
theorem dX4_tryMove_4 : decode cX4_tryMove 4 = .ok (.invokevirtual 152, 3) := by decide +kernel
theorem dX4_tryMove_7 : decode cX4_tryMove 7 = .ok (.ifCond .ne 13, 3) := by decide +kernel
theorem dX4_tryMove_20 : decode cX4_tryMove 20 = .ok (.iconst (-1), 1) := by decide +kernel
theorem dX4_tryMove_21 : decode cX4_tryMove 21 = .ok (.ireturn, 1) := by decide +kernel
theorem dX4_takeBack_0 : decode cX4_takeBack 0 = .ok (.aload_n 0, 1) := by decide +kernel
theorem dX4_takeBack_1 : decode cX4_takeBack 1 = .ok (.getfield 21, 3) := by decide +kernel
theorem dX4_takeBack_4 : decode cX4_takeBack 4 = .ok (.getfield 159, 3) := by decide +kernel
theorem dX4_takeBack_7 : decode cX4_takeBack 7 = .ok (.ifCond .ne 5, 3) := by decide +kernel
theorem dX4_takeBack_10 : decode cX4_takeBack 10 = .ok (.iconst 0, 1) := by decide +kernel
theorem dX4_takeBack_11 : decode cX4_takeBack 11 = .ok (.ireturn, 1) := by decide +kernel
theorem dX4_redo_0 : decode cX4_redo 0 = .ok (.aload_n 0, 1) := by decide +kernel
theorem dX4_redo_1 : decode cX4_redo 1 = .ok (.getfield 21, 3) := by decide +kernel
theorem dX4_redo_4 : decode cX4_redo 4 = .ok (.getfield 159, 3) := by decide +kernel
theorem dX4_redo_7 : decode cX4_redo 7 = .ok (.aload_n 0, 1) := by decide +kernel
theorem dX4_redo_8 : decode cX4_redo 8 = .ok (.getfield 21, 3) := by decide +kernel
theorem dX4_redo_11 : decode cX4_redo 11 = .ok (.getfield 162, 3) := by decide +kernel
theorem dX4_redo_14 : decode cX4_redo 14 = .ok (.if_icmp .ge 13, 3) := by decide +kernel
theorem dX4_redo_27 : decode cX4_redo 27 = .ok (.iconst 0, 1) := by decide +kernel
theorem dX4_redo_28 : decode cX4_redo 28 = .ok (.ireturn, 1) := by decide +kernel
theorem dX5_init_0 : decode cX5_init 0 = .ok (.aload_n 0, 1) := by decide +kernel
theorem dX5_init_1 : decode cX5_init 1 = .ok (.invokespecial 3, 3) := by decide +kernel
theorem dX5_init_4 : decode cX5_init 4 = .ok (.aload_n 0, 1) := by decide +kernel
theorem dX5_init_5 : decode cX5_init 5 = .ok (.bipush 81, 2) := by decide +kernel
theorem dX5_init_7 : decode cX5_init 7 = .ok (.newarray .int, 2) := by decide +kernel
theorem dX5_init_9 : decode cX5_init 9 = .ok (.putfield 9, 3) := by decide +kernel
theorem dX5_init_12 : decode cX5_init 12 = .ok (.aload_n 0, 1) := by decide +kernel
theorem dX5_init_13 : decode cX5_init 13 = .ok (.bipush 81, 2) := by decide +kernel
theorem dX5_init_15 : decode cX5_init 15 = .ok (.newarray .boolean, 2) := by decide +kernel
theorem dX5_init_17 : decode cX5_init 17 = .ok (.putfield 15, 3) := by decide +kernel
theorem dX5_init_20 : decode cX5_init 20 = .ok (.aload_n 0, 1) := by decide +kernel
theorem dX5_init_21 : decode cX5_init 21 = .ok (.aload_n 1, 1) := by decide +kernel
theorem dX5_init_22 : decode cX5_init 22 = .ok (.putfield 19, 3) := by decide +kernel
theorem dX5_init_25 : decode cX5_init 25 = .ok (.return_, 1) := by decide +kernel
set_option maxRecDepth 20000 in
theorem ggX5_holds_X8_fieldOf : GoodIn wsX5_holds wsX8_fieldOf := goodIn_r _ [8, 9, 50, 51, 52] (by decide +kernel) (by decide +kernel)
set_option maxRecDepth 20000 in
theorem gX5_holds_X8_fieldOf : GoodIn wsX5_holds (wsV RX5 29 RX8 yX8_fieldOf wsX8_fieldOf) := goodIn_app (goodIn_of _ (by decide +kernel)) ggX5_holds_X8_fieldOf
theorem dX5_holds_0 : decode cX5_holds 0 = .ok (.aload_n 1, 1) := by decide +kernel
theorem dX5_holds_1 : decode cX5_holds 1 = .ok (.aload_n 0, 1) := by decide +kernel
theorem dX5_holds_2 : decode cX5_holds 2 = .ok (.getfield 19, 3) := by decide +kernel
theorem dX5_holds_5 : decode cX5_holds 5 = .ok (.getfield 23, 3) := by decide +kernel
theorem dX5_holds_8 : decode cX5_holds 8 = .ok (.invokevirtual 29, 3) := by decide +kernel
theorem dX5_holds_11 : decode cX5_holds 11 = .ok (.istore_n 3, 1) := by decide +kernel
theorem dX5_holds_12 : decode cX5_holds 12 = .ok (.iload_n 3, 1) := by decide +kernel
theorem dX5_holds_13 : decode cX5_holds 13 = .ok (.ifCond .lt 20, 3) := by decide +kernel
theorem dX5_holds_33 : decode cX5_holds 33 = .ok (.iconst 0, 1) := by decide +kernel
theorem dX5_holds_34 : decode cX5_holds 34 = .ok (.ireturn, 1) := by decide +kernel
set_option maxRecDepth 20000 in
theorem ggX6_init_X0_init : GoodIn wsX6_init wsX0_init := goodIn_r _ [17, 18, 2, 3, 8, 19, 11, 20, 21, 22, 23, 24, 25, 26] (by decide +kernel) (by decide +kernel)
set_option maxRecDepth 20000 in
theorem gX6_init_X0_init_n11 : GoodIn wsX6_init (wsX0_init) := ggX6_init_X0_init
theorem dX6_init_0 : decode cX6_init 0 = .ok (.aload_n 0, 1) := by decide +kernel
theorem dX6_init_1 : decode cX6_init 1 = .ok (.invokespecial 3, 3) := by decide +kernel
theorem dX6_init_4 : decode cX6_init 4 = .ok (.aload_n 0, 1) := by decide +kernel
theorem dX6_init_5 : decode cX6_init 5 = .ok (.new 9, 3) := by decide +kernel
theorem dX6_init_8 : decode cX6_init 8 = .ok (.dup, 1) := by decide +kernel
theorem dX6_init_9 : decode cX6_init 9 = .ok (.invokespecial 11, 3) := by decide +kernel
theorem dX6_init_12 : decode cX6_init 12 = .ok (.putfield 12, 3) := by decide +kernel
theorem dX6_init_15 : decode cX6_init 15 = .ok (.aload_n 0, 1) := by decide +kernel
theorem dX6_init_16 : decode cX6_init 16 = .ok (.bipush 40, 2) := by decide +kernel
theorem dX6_init_18 : decode cX6_init 18 = .ok (.newarray .int, 2) := by decide +kernel
theorem dX6_init_20 : decode cX6_init 20 = .ok (.putfield 18, 3) := by decide +kernel
theorem dX6_init_23 : decode cX6_init 23 = .ok (.aload_n 0, 1) := by decide +kernel
theorem dX6_init_24 : decode cX6_init 24 = .ok (.bipush 40, 2) := by decide +kernel
theorem dX6_init_26 : decode cX6_init 26 = .ok (.newarray .int, 2) := by decide +kernel
theorem dX6_init_28 : decode cX6_init 28 = .ok (.putfield 22, 3) := by decide +kernel
theorem dX6_init_31 : decode cX6_init 31 = .ok (.aload_n 0, 1) := by decide +kernel
theorem dX6_init_32 : decode cX6_init 32 = .ok (.bipush 40, 2) := by decide +kernel
theorem dX6_init_34 : decode cX6_init 34 = .ok (.newarray .boolean, 2) := by decide +kernel
theorem dX6_init_36 : decode cX6_init 36 = .ok (.putfield 25, 3) := by decide +kernel
theorem dX6_init_39 : decode cX6_init 39 = .ok (.aload_n 0, 1) := by decide +kernel
theorem dX6_init_40 : decode cX6_init 40 = .ok (.iconst (-1), 1) := by decide +kernel
theorem dX6_init_41 : decode cX6_init 41 = .ok (.putfield 29, 3) := by decide +kernel
theorem dX6_init_44 : decode cX6_init 44 = .ok (.aload_n 0, 1) := by decide +kernel
theorem dX6_init_45 : decode cX6_init 45 = .ok (.iconst 4, 1) := by decide +kernel
theorem dX6_init_46 : decode cX6_init 46 = .ok (.newarray .int, 2) := by decide +kernel
theorem dX6_init_48 : decode cX6_init 48 = .ok (.putfield 33, 3) := by decide +kernel
theorem dX6_init_51 : decode cX6_init 51 = .ok (.aload_n 0, 1) := by decide +kernel
theorem dX6_init_52 : decode cX6_init 52 = .ok (.aload_n 1, 1) := by decide +kernel
theorem dX6_init_53 : decode cX6_init 53 = .ok (.putfield 36, 3) := by decide +kernel
theorem dX6_init_56 : decode cX6_init 56 = .ok (.return_, 1) := by decide +kernel
theorem dX6_dismiss_0 : decode cX6_dismiss 0 = .ok (.aload_n 0, 1) := by decide +kernel
theorem dX6_dismiss_1 : decode cX6_dismiss 1 = .ok (.iconst 0, 1) := by decide +kernel
theorem dX6_dismiss_2 : decode cX6_dismiss 2 = .ok (.putfield 40, 3) := by decide +kernel
theorem dX6_dismiss_5 : decode cX6_dismiss 5 = .ok (.aload_n 0, 1) := by decide +kernel
theorem dX6_dismiss_6 : decode cX6_dismiss 6 = .ok (.iconst (-1), 1) := by decide +kernel
theorem dX6_dismiss_7 : decode cX6_dismiss 7 = .ok (.putfield 29, 3) := by decide +kernel
theorem dX6_dismiss_10 : decode cX6_dismiss 10 = .ok (.return_, 1) := by decide +kernel
theorem dX6_isPiece_0 : decode cX6_isPiece 0 = .ok (.iload_n 1, 1) := by decide +kernel
theorem dX6_isPiece_1 : decode cX6_isPiece 1 = .ok (.ifCond .lt 15, 3) := by decide +kernel
theorem dX6_isPiece_4 : decode cX6_isPiece 4 = .ok (.iload_n 1, 1) := by decide +kernel
theorem dX6_isPiece_5 : decode cX6_isPiece 5 = .ok (.aload_n 0, 1) := by decide +kernel
theorem dX6_isPiece_6 : decode cX6_isPiece 6 = .ok (.getfield 40, 3) := by decide +kernel
theorem dX6_isPiece_9 : decode cX6_isPiece 9 = .ok (.if_icmp .ge 7, 3) := by decide +kernel
theorem dX6_isPiece_16 : decode cX6_isPiece 16 = .ok (.iconst 0, 1) := by decide +kernel
theorem dX6_isPiece_17 : decode cX6_isPiece 17 = .ok (.ireturn, 1) := by decide +kernel
set_option maxRecDepth 20000 in
theorem ggX7_init_X8_init : GoodIn wsX7_init wsX8_init := goodIn_r _ [24, 25, 2, 3, 12, 26, 27, 28, 29, 30, 6, 31, 32, 33, 34, 35, 36, 43, 44, 45] (by decide +kernel) (by decide +kernel)
set_option maxRecDepth 20000 in
theorem gX7_init_X8_init : GoodIn wsX7_init (wsX8_init) := ggX7_init_X8_init
set_option maxRecDepth 20000 in
theorem ggX7_init_X2_init : GoodIn wsX7_init wsX2_init := goodIn_r _ [38, 39, 2, 3, 12, 40, 41, 42, 61, 62, 63, 64] (by decide +kernel) (by decide +kernel)
set_option maxRecDepth 20000 in
theorem gX7_init_X2_init_n20 : GoodIn wsX7_init (wsX2_init) := ggX7_init_X2_init
theorem dX7_init_0 : decode cX7_init 0 = .ok (.aload_n 0, 1) := by decide +kernel
theorem dX7_init_1 : decode cX7_init 1 = .ok (.invokespecial 3, 3) := by decide +kernel
theorem dX7_init_4 : decode cX7_init 4 = .ok (.aload_n 0, 1) := by decide +kernel
theorem dX7_init_5 : decode cX7_init 5 = .ok (.new 9, 3) := by decide +kernel
theorem dX7_init_8 : decode cX7_init 8 = .ok (.dup, 1) := by decide +kernel
theorem dX7_init_9 : decode cX7_init 9 = .ok (.invokespecial 11, 3) := by decide +kernel
theorem dX7_init_12 : decode cX7_init 12 = .ok (.putfield 12, 3) := by decide +kernel
theorem dX7_init_15 : decode cX7_init 15 = .ok (.aload_n 0, 1) := by decide +kernel
theorem dX7_init_16 : decode cX7_init 16 = .ok (.new 18, 3) := by decide +kernel
theorem dX7_init_19 : decode cX7_init 19 = .ok (.dup, 1) := by decide +kernel
theorem dX7_init_20 : decode cX7_init 20 = .ok (.invokespecial 20, 3) := by decide +kernel
theorem dX7_init_23 : decode cX7_init 23 = .ok (.putfield 21, 3) := by decide +kernel
theorem dX7_init_26 : decode cX7_init 26 = .ok (.aload_n 0, 1) := by decide +kernel
theorem dX7_init_27 : decode cX7_init 27 = .ok (.bipush 40, 2) := by decide +kernel
theorem dX7_init_29 : decode cX7_init 29 = .ok (.newarray .int, 2) := by decide +kernel
theorem dX7_init_31 : decode cX7_init 31 = .ok (.putfield 25, 3) := by decide +kernel
theorem dX7_init_34 : decode cX7_init 34 = .ok (.aload_n 0, 1) := by decide +kernel
theorem dX7_init_35 : decode cX7_init 35 = .ok (.bipush 40, 2) := by decide +kernel
theorem dX7_init_37 : decode cX7_init 37 = .ok (.newarray .int, 2) := by decide +kernel
theorem dX7_init_39 : decode cX7_init 39 = .ok (.putfield 29, 3) := by decide +kernel
theorem dX7_init_42 : decode cX7_init 42 = .ok (.aload_n 0, 1) := by decide +kernel
theorem dX7_init_43 : decode cX7_init 43 = .ok (.bipush 6, 2) := by decide +kernel
theorem dX7_init_45 : decode cX7_init 45 = .ok (.newarray .int, 2) := by decide +kernel
theorem dX7_init_47 : decode cX7_init 47 = .ok (.putfield 32, 3) := by decide +kernel
theorem dX7_init_50 : decode cX7_init 50 = .ok (.aload_n 0, 1) := by decide +kernel
theorem dX7_init_51 : decode cX7_init 51 = .ok (.iconst 2, 1) := by decide +kernel
theorem dX7_init_52 : decode cX7_init 52 = .ok (.newarray .int, 2) := by decide +kernel
theorem dX7_init_54 : decode cX7_init 54 = .ok (.putfield 35, 3) := by decide +kernel
theorem dX7_init_57 : decode cX7_init 57 = .ok (.aload_n 0, 1) := by decide +kernel
theorem dX7_init_58 : decode cX7_init 58 = .ok (.iconst 0, 1) := by decide +kernel
theorem dX7_init_59 : decode cX7_init 59 = .ok (.newarray .int, 2) := by decide +kernel
theorem dX7_init_61 : decode cX7_init 61 = .ok (.putfield 38, 3) := by decide +kernel
theorem dX7_init_64 : decode cX7_init 64 = .ok (.aload_n 0, 1) := by decide +kernel
theorem dX7_init_65 : decode cX7_init 65 = .ok (.iconst 0, 1) := by decide +kernel
theorem dX7_init_66 : decode cX7_init 66 = .ok (.newarray .int, 2) := by decide +kernel
theorem dX7_init_68 : decode cX7_init 68 = .ok (.putfield 41, 3) := by decide +kernel
theorem dX7_init_71 : decode cX7_init 71 = .ok (.aload_n 0, 1) := by decide +kernel
theorem dX7_init_72 : decode cX7_init 72 = .ok (.iconst 0, 1) := by decide +kernel
theorem dX7_init_73 : decode cX7_init 73 = .ok (.newarray .int, 2) := by decide +kernel
theorem dX7_init_75 : decode cX7_init 75 = .ok (.putfield 44, 3) := by decide +kernel
theorem dX7_init_78 : decode cX7_init 78 = .ok (.aload_n 0, 1) := by decide +kernel
theorem dX7_init_79 : decode cX7_init 79 = .ok (.iconst 0, 1) := by decide +kernel
theorem dX7_init_80 : decode cX7_init 80 = .ok (.newarray .int, 2) := by decide +kernel
theorem dX7_init_82 : decode cX7_init 82 = .ok (.putfield 47, 3) := by decide +kernel
theorem dX7_init_85 : decode cX7_init 85 = .ok (.aload_n 0, 1) := by decide +kernel
theorem dX7_init_86 : decode cX7_init 86 = .ok (.aload_n 1, 1) := by decide +kernel
theorem dX7_init_87 : decode cX7_init 87 = .ok (.putfield 50, 3) := by decide +kernel
theorem dX7_init_90 : decode cX7_init 90 = .ok (.return_, 1) := by decide +kernel
theorem dX7_forget_0 : decode cX7_forget 0 = .ok (.aload_n 0, 1) := by decide +kernel
theorem dX7_forget_1 : decode cX7_forget 1 = .ok (.iconst 0, 1) := by decide +kernel
theorem dX7_forget_2 : decode cX7_forget 2 = .ok (.putfield 54, 3) := by decide +kernel
theorem dX7_forget_5 : decode cX7_forget 5 = .ok (.return_, 1) := by decide +kernel
theorem dX7_indexOf_0 : decode cX7_indexOf 0 = .ok (.aload_n 0, 1) := by decide +kernel
theorem dX7_indexOf_1 : decode cX7_indexOf 1 = .ok (.getfield 54, 3) := by decide +kernel
theorem dX7_indexOf_4 : decode cX7_indexOf 4 = .ok (.ifCond .ne 5, 3) := by decide +kernel
theorem dX7_indexOf_7 : decode cX7_indexOf 7 = .ok (.iconst (-1), 1) := by decide +kernel
theorem dX7_indexOf_8 : decode cX7_indexOf 8 = .ok (.ireturn, 1) := by decide +kernel
set_option maxRecDepth 20000 in
theorem ggX7_worthOf_X7_indexOf : GoodIn wsX7_worthOf wsX7_indexOf := goodIn_r _ [6, 7, 8, 9, 10, 11, 12, 13, 14, 15, 16, 17, 18, 19, 20, 21, 22, 23, 24, 25, 26, 27, 28, 29, 30, 31, 32, 33, 34, 35, 36, 37, 38, 39, 40, 41, 42, 43, 44, 45, 46, 47, 48] (by decide +kernel) (by decide +kernel)
set_option maxRecDepth 20000 in
theorem gX7_worthOf_X7_indexOf : GoodIn wsX7_worthOf (wsV RX7 200 RX7 yX7_indexOf wsX7_indexOf) := goodIn_app (goodIn_of _ (by decide +kernel)) ggX7_worthOf_X7_indexOf
theorem dX7_worthOf_0 : decode cX7_worthOf 0 = .ok (.aload_n 0, 1) := by decide +kernel
theorem dX7_worthOf_1 : decode cX7_worthOf 1 = .ok (.aload_n 1, 1) := by decide +kernel
theorem dX7_worthOf_2 : decode cX7_worthOf 2 = .ok (.invokevirtual 200, 3) := by decide +kernel
theorem dX7_worthOf_5 : decode cX7_worthOf 5 = .ok (.istore_n 2, 1) := by decide +kernel
theorem dX7_worthOf_6 : decode cX7_worthOf 6 = .ok (.iload_n 2, 1) := by decide +kernel
theorem dX7_worthOf_7 : decode cX7_worthOf 7 = .ok (.iconst (-1), 1) := by decide +kernel
theorem dX7_worthOf_8 : decode cX7_worthOf 8 = .ok (.if_icmp .ne 7, 3) := by decide +kernel
theorem dX7_worthOf_11 : decode cX7_worthOf 11 = .ok (.iconst (-1), 1) := by decide +kernel
theorem dX7_worthOf_12 : decode cX7_worthOf 12 = .ok (.goto 9, 3) := by decide +kernel
theorem dX7_worthOf_21 : decode cX7_worthOf 21 = .ok (.ireturn, 1) := by decide +kernel
set_option maxRecDepth 20000 in
theorem ggX7_deepOf_X7_indexOf : GoodIn wsX7_deepOf wsX7_indexOf := goodIn_r _ [6, 7, 8, 9, 10, 11, 12, 13, 14, 15, 16, 17, 18, 19, 20, 21, 22, 23, 24, 25, 26, 27, 28, 29, 30, 31, 32, 33, 34, 35, 36, 37, 38, 39, 40, 41, 42, 43, 44, 45, 46, 47, 48] (by decide +kernel) (by decide +kernel)
set_option maxRecDepth 20000 in
theorem gX7_deepOf_X7_indexOf : GoodIn wsX7_deepOf (wsV RX7 200 RX7 yX7_indexOf wsX7_indexOf) := goodIn_app (goodIn_of _ (by decide +kernel)) ggX7_deepOf_X7_indexOf
theorem dX7_deepOf_0 : decode cX7_deepOf 0 = .ok (.aload_n 0, 1) := by decide +kernel
theorem dX7_deepOf_1 : decode cX7_deepOf 1 = .ok (.aload_n 1, 1) := by decide +kernel
theorem dX7_deepOf_2 : decode cX7_deepOf 2 = .ok (.invokevirtual 200, 3) := by decide +kernel
theorem dX7_deepOf_5 : decode cX7_deepOf 5 = .ok (.istore_n 2, 1) := by decide +kernel
theorem dX7_deepOf_6 : decode cX7_deepOf 6 = .ok (.iload_n 2, 1) := by decide +kernel
theorem dX7_deepOf_7 : decode cX7_deepOf 7 = .ok (.iconst (-1), 1) := by decide +kernel
theorem dX7_deepOf_8 : decode cX7_deepOf 8 = .ok (.if_icmp .ne 7, 3) := by decide +kernel
theorem dX7_deepOf_11 : decode cX7_deepOf 11 = .ok (.iconst (-1), 1) := by decide +kernel
theorem dX7_deepOf_12 : decode cX7_deepOf 12 = .ok (.goto 9, 3) := by decide +kernel
theorem dX7_deepOf_21 : decode cX7_deepOf 21 = .ok (.ireturn, 1) := by decide +kernel
set_option maxRecDepth 20000 in
theorem ggX7_bestMove_X7_indexOf : GoodIn wsX7_bestMove wsX7_indexOf := goodIn_r _ [8, 9, 3, 10, 11, 12, 13, 14, 15, 16, 17, 87, 88, 89, 90, 91, 92, 93, 94, 95, 96, 97, 98, 99, 100, 101, 102, 103, 104, 105, 106, 107, 108, 109, 110, 114, 115, 116, 117, 118, 111, 112, 113] (by decide +kernel) (by decide +kernel)
set_option maxRecDepth 20000 in
theorem gX7_bestMove_X7_indexOf : GoodIn wsX7_bestMove (wsV RX7 200 RX7 yX7_indexOf wsX7_indexOf) := goodIn_app (goodIn_of _ (by decide +kernel)) ggX7_bestMove_X7_indexOf
theorem dX7_bestMove_0 : decode cX7_bestMove 0 = .ok (.aload_n 0, 1) := by decide +kernel
theorem dX7_bestMove_1 : decode cX7_bestMove 1 = .ok (.aload_n 1, 1) := by decide +kernel
theorem dX7_bestMove_2 : decode cX7_bestMove 2 = .ok (.invokevirtual 200, 3) := by decide +kernel
theorem dX7_bestMove_5 : decode cX7_bestMove 5 = .ok (.istore_n 2, 1) := by decide +kernel
theorem dX7_bestMove_6 : decode cX7_bestMove 6 = .ok (.iload_n 2, 1) := by decide +kernel
theorem dX7_bestMove_7 : decode cX7_bestMove 7 = .ok (.iconst (-1), 1) := by decide +kernel
theorem dX7_bestMove_8 : decode cX7_bestMove 8 = .ok (.if_icmp .eq 22, 3) := by decide +kernel
theorem dX7_bestMove_30 : decode cX7_bestMove 30 = .ok (.iconst (-1), 1) := by decide +kernel
theorem dX7_bestMove_31 : decode cX7_bestMove 31 = .ok (.ireturn, 1) := by decide +kernel
theorem dX7_tally_0 : decode cX7_tally 0 = .ok (.aload_n 0, 1) := by decide +kernel
theorem dX7_tally_1 : decode cX7_tally 1 = .ok (.getfield 54, 3) := by decide +kernel
theorem dX7_tally_4 : decode cX7_tally 4 = .ok (.ifCond .eq 19, 3) := by decide +kernel
theorem dX7_tally_23 : decode cX7_tally 23 = .ok (.iconst (-1), 1) := by decide +kernel
theorem dX7_tally_24 : decode cX7_tally 24 = .ok (.ireturn, 1) := by decide +kernel
theorem dX7_greatestDeep_0 : decode cX7_greatestDeep 0 = .ok (.aload_n 0, 1) := by decide +kernel
theorem dX7_greatestDeep_1 : decode cX7_greatestDeep 1 = .ok (.getfield 54, 3) := by decide +kernel
theorem dX7_greatestDeep_4 : decode cX7_greatestDeep 4 = .ok (.ifCond .eq 19, 3) := by decide +kernel
theorem dX7_greatestDeep_23 : decode cX7_greatestDeep 23 = .ok (.iconst (-1), 1) := by decide +kernel
theorem dX7_greatestDeep_24 : decode cX7_greatestDeep 24 = .ok (.ireturn, 1) := by decide +kernel
theorem dX7_worthAt_0 : decode cX7_worthAt 0 = .ok (.aload_n 0, 1) := by decide +kernel
theorem dX7_worthAt_1 : decode cX7_worthAt 1 = .ok (.getfield 54, 3) := by decide +kernel
theorem dX7_worthAt_4 : decode cX7_worthAt 4 = .ok (.ifCond .eq 26, 3) := by decide +kernel
theorem dX7_worthAt_30 : decode cX7_worthAt 30 = .ok (.iconst 0, 1) := by decide +kernel
theorem dX7_worthAt_31 : decode cX7_worthAt 31 = .ok (.istore_n 3, 1) := by decide +kernel
theorem dX7_worthAt_32 : decode cX7_worthAt 32 = .ok (.iload_n 3, 1) := by decide +kernel
theorem dX7_worthAt_33 : decode cX7_worthAt 33 = .ok (.ifCond .eq 16, 3) := by decide +kernel
theorem dX7_worthAt_49 : decode cX7_worthAt 49 = .ok (.iconst (-1), 1) := by decide +kernel
theorem dX7_worthAt_50 : decode cX7_worthAt 50 = .ok (.ireturn, 1) := by decide +kernel
set_option maxRecDepth 20000 in
theorem ggX8_init_X8_clear : GoodIn wsX8_init wsX8_clear := goodIn_r _ [11, 5, 6, 12, 13, 14, 15, 16, 17, 18, 19] (by decide +kernel) (by decide +kernel)
set_option maxRecDepth 20000 in
theorem gX8_init_X8_clear : GoodIn wsX8_init (wsV RX8 18 RX8 yX8_clear wsX8_clear) := goodIn_app (goodIn_of _ (by decide +kernel)) ggX8_init_X8_clear
theorem dX8_init_0 : decode cX8_init 0 = .ok (.aload_n 0, 1) := by decide +kernel
theorem dX8_init_1 : decode cX8_init 1 = .ok (.invokespecial 3, 3) := by decide +kernel
theorem dX8_init_4 : decode cX8_init 4 = .ok (.aload_n 0, 1) := by decide +kernel
theorem dX8_init_5 : decode cX8_init 5 = .ok (.bipush 40, 2) := by decide +kernel
theorem dX8_init_7 : decode cX8_init 7 = .ok (.newarray .int, 2) := by decide +kernel
theorem dX8_init_9 : decode cX8_init 9 = .ok (.putfield 9, 3) := by decide +kernel
theorem dX8_init_12 : decode cX8_init 12 = .ok (.aload_n 0, 1) := by decide +kernel
theorem dX8_init_13 : decode cX8_init 13 = .ok (.bipush 81, 2) := by decide +kernel
theorem dX8_init_15 : decode cX8_init 15 = .ok (.newarray .int, 2) := by decide +kernel
theorem dX8_init_17 : decode cX8_init 17 = .ok (.putfield 15, 3) := by decide +kernel
theorem dX8_init_20 : decode cX8_init 20 = .ok (.aload_n 0, 1) := by decide +kernel
theorem dX8_init_21 : decode cX8_init 21 = .ok (.invokevirtual 18, 3) := by decide +kernel
theorem dX8_init_24 : decode cX8_init 24 = .ok (.return_, 1) := by decide +kernel
set_option maxRecDepth 20000 in
theorem ggX8_clear_J7_fill_53178 : GoodIn wsX8_clear wsJ7_fill_53178 := goodIn_r _ [7] (by decide +kernel) (by decide +kernel)
set_option maxRecDepth 20000 in
theorem gX8_clear_J7_fill_53178 : GoodIn wsX8_clear (va_wsS RX8 21 yJ7_fill_53178 wsJ7_fill_53178) := goodIn_app (goodIn_of _ (by decide +kernel)) ggX8_clear_J7_fill_53178
theorem dX8_clear_0 : decode cX8_clear 0 = .ok (.aload_n 0, 1) := by decide +kernel
theorem dX8_clear_1 : decode cX8_clear 1 = .ok (.getfield 9, 3) := by decide +kernel
theorem dX8_clear_4 : decode cX8_clear 4 = .ok (.iconst (-1), 1) := by decide +kernel
theorem dX8_clear_5 : decode cX8_clear 5 = .ok (.invokestatic 21, 3) := by decide +kernel
theorem dX8_clear_8 : decode cX8_clear 8 = .ok (.aload_n 0, 1) := by decide +kernel
theorem dX8_clear_9 : decode cX8_clear 9 = .ok (.getfield 15, 3) := by decide +kernel
theorem dX8_clear_12 : decode cX8_clear 12 = .ok (.iconst (-1), 1) := by decide +kernel
theorem dX8_clear_13 : decode cX8_clear 13 = .ok (.invokestatic 21, 3) := by decide +kernel
theorem dX8_clear_16 : decode cX8_clear 16 = .ok (.aload_n 0, 1) := by decide +kernel
theorem dX8_clear_17 : decode cX8_clear 17 = .ok (.iconst 0, 1) := by decide +kernel
theorem dX8_clear_18 : decode cX8_clear 18 = .ok (.putfield 27, 3) := by decide +kernel
theorem dX8_clear_21 : decode cX8_clear 21 = .ok (.return_, 1) := by decide +kernel
theorem dX8_fieldOf_0 : decode cX8_fieldOf 0 = .ok (.iload_n 1, 1) := by decide +kernel
theorem dX8_fieldOf_1 : decode cX8_fieldOf 1 = .ok (.ifCond .lt 18, 3) := by decide +kernel
theorem dX8_fieldOf_4 : decode cX8_fieldOf 4 = .ok (.iload_n 1, 1) := by decide +kernel
theorem dX8_fieldOf_5 : decode cX8_fieldOf 5 = .ok (.bipush 40, 2) := by decide +kernel
theorem dX8_fieldOf_7 : decode cX8_fieldOf 7 = .ok (.if_icmp .ge 12, 3) := by decide +kernel
theorem dX8_fieldOf_10 : decode cX8_fieldOf 10 = .ok (.aload_n 0, 1) := by decide +kernel
theorem dX8_fieldOf_11 : decode cX8_fieldOf 11 = .ok (.getfield 9, 3) := by decide +kernel
theorem dX8_fieldOf_14 : decode cX8_fieldOf 14 = .ok (.iload_n 1, 1) := by decide +kernel
theorem dX8_fieldOf_15 : decode cX8_fieldOf 15 = .ok (.iaload, 1) := by decide +kernel
theorem dX8_fieldOf_16 : decode cX8_fieldOf 16 = .ok (.goto 4, 3) := by decide +kernel
theorem dX8_fieldOf_19 : decode cX8_fieldOf 19 = .ok (.iconst (-1), 1) := by decide +kernel
theorem dX8_fieldOf_20 : decode cX8_fieldOf 20 = .ok (.ireturn, 1) := by decide +kernel
theorem dX8_holderOf_0 : decode cX8_holderOf 0 = .ok (.iload_n 1, 1) := by decide +kernel
theorem dX8_holderOf_1 : decode cX8_holderOf 1 = .ok (.ifCond .lt 18, 3) := by decide +kernel
theorem dX8_holderOf_4 : decode cX8_holderOf 4 = .ok (.iload_n 1, 1) := by decide +kernel
theorem dX8_holderOf_5 : decode cX8_holderOf 5 = .ok (.bipush 81, 2) := by decide +kernel
theorem dX8_holderOf_7 : decode cX8_holderOf 7 = .ok (.if_icmp .ge 12, 3) := by decide +kernel
theorem dX8_holderOf_10 : decode cX8_holderOf 10 = .ok (.aload_n 0, 1) := by decide +kernel
theorem dX8_holderOf_11 : decode cX8_holderOf 11 = .ok (.getfield 15, 3) := by decide +kernel
theorem dX8_holderOf_14 : decode cX8_holderOf 14 = .ok (.iload_n 1, 1) := by decide +kernel
theorem dX8_holderOf_15 : decode cX8_holderOf 15 = .ok (.iaload, 1) := by decide +kernel
theorem dX8_holderOf_16 : decode cX8_holderOf 16 = .ok (.goto 4, 3) := by decide +kernel
theorem dX8_holderOf_19 : decode cX8_holderOf 19 = .ok (.iconst (-1), 1) := by decide +kernel
theorem dX8_holderOf_20 : decode cX8_holderOf 20 = .ok (.ireturn, 1) := by decide +kernel
theorem dX9_init_0 : decode cX9_init 0 = .ok (.aload_n 0, 1) := by decide +kernel
theorem dX9_init_1 : decode cX9_init 1 = .ok (.invokespecial 3, 3) := by decide +kernel
theorem dX9_init_4 : decode cX9_init 4 = .ok (.aload_n 0, 1) := by decide +kernel
theorem dX9_init_5 : decode cX9_init 5 = .ok (.bipush 81, 2) := by decide +kernel
theorem dX9_init_7 : decode cX9_init 7 = .ok (.newarray .int, 2) := by decide +kernel
theorem dX9_init_9 : decode cX9_init 9 = .ok (.putfield 9, 3) := by decide +kernel
theorem dX9_init_12 : decode cX9_init 12 = .ok (.aload_n 0, 1) := by decide +kernel
theorem dX9_init_13 : decode cX9_init 13 = .ok (.iconst 3, 1) := by decide +kernel
theorem dX9_init_14 : decode cX9_init 14 = .ok (.putfield 15, 3) := by decide +kernel
theorem dX9_init_17 : decode cX9_init 17 = .ok (.aload_n 0, 1) := by decide +kernel
theorem dX9_init_18 : decode cX9_init 18 = .ok (.iconst 3, 1) := by decide +kernel
theorem dX9_init_19 : decode cX9_init 19 = .ok (.putfield 19, 3) := by decide +kernel
theorem dX9_init_22 : decode cX9_init 22 = .ok (.return_, 1) := by decide +kernel
theorem dX9_size_0 : decode cX9_size 0 = .ok (.aload_n 0, 1) := by decide +kernel
theorem dX9_size_1 : decode cX9_size 1 = .ok (.getfield 15, 3) := by decide +kernel
theorem dX9_size_4 : decode cX9_size 4 = .ok (.aload_n 0, 1) := by decide +kernel
theorem dX9_size_5 : decode cX9_size 5 = .ok (.getfield 19, 3) := by decide +kernel
theorem dX9_size_8 : decode cX9_size 8 = .ok (.imul, 1) := by decide +kernel
theorem dX9_size_9 : decode cX9_size 9 = .ok (.ireturn, 1) := by decide +kernel
set_option maxRecDepth 20000 in
theorem ggX9_renew_X9_isSpan : GoodIn wsX9_renew wsX9_isSpan := goodIn_r _ [7] (by decide +kernel) (by decide +kernel)
set_option maxRecDepth 20000 in
theorem gX9_renew_X9_isSpan : GoodIn wsX9_renew (va_wsS RX9 22 yX9_isSpan wsX9_isSpan) := goodIn_app (goodIn_of _ (by decide +kernel)) ggX9_renew_X9_isSpan
set_option maxRecDepth 20000 in
theorem ggX9_renew_J7_fill_53178 : GoodIn wsX9_renew wsJ7_fill_53178 := goodIn_r _ [11] (by decide +kernel) (by decide +kernel)
set_option maxRecDepth 20000 in
theorem gX9_renew_J7_fill_53178 : GoodIn wsX9_renew (va_wsS RX9 26 yJ7_fill_53178 wsJ7_fill_53178) := goodIn_app (goodIn_of _ (by decide +kernel)) ggX9_renew_J7_fill_53178
theorem dX9_renew_0 : decode cX9_renew 0 = .ok (.iload_n 1, 1) := by decide +kernel
theorem dX9_renew_1 : decode cX9_renew 1 = .ok (.invokestatic 22, 3) := by decide +kernel
theorem dX9_renew_4 : decode cX9_renew 4 = .ok (.ifCond .eq 10, 3) := by decide +kernel
theorem dX9_renew_7 : decode cX9_renew 7 = .ok (.iload_n 2, 1) := by decide +kernel
theorem dX9_renew_8 : decode cX9_renew 8 = .ok (.invokestatic 22, 3) := by decide +kernel
theorem dX9_renew_11 : decode cX9_renew 11 = .ok (.ifCond .ne 5, 3) := by decide +kernel
theorem dX9_renew_14 : decode cX9_renew 14 = .ok (.iconst 0, 1) := by decide +kernel
theorem dX9_renew_15 : decode cX9_renew 15 = .ok (.ireturn, 1) := by decide +kernel
theorem dX9_renew_16 : decode cX9_renew 16 = .ok (.aload_n 0, 1) := by decide +kernel
theorem dX9_renew_17 : decode cX9_renew 17 = .ok (.iload_n 1, 1) := by decide +kernel
theorem dX9_renew_18 : decode cX9_renew 18 = .ok (.putfield 15, 3) := by decide +kernel
theorem dX9_renew_21 : decode cX9_renew 21 = .ok (.aload_n 0, 1) := by decide +kernel
theorem dX9_renew_22 : decode cX9_renew 22 = .ok (.iload_n 2, 1) := by decide +kernel
theorem dX9_renew_23 : decode cX9_renew 23 = .ok (.putfield 19, 3) := by decide +kernel
theorem dX9_renew_26 : decode cX9_renew 26 = .ok (.aload_n 0, 1) := by decide +kernel
theorem dX9_renew_27 : decode cX9_renew 27 = .ok (.getfield 9, 3) := by decide +kernel
theorem dX9_renew_30 : decode cX9_renew 30 = .ok (.iconst 0, 1) := by decide +kernel
theorem dX9_renew_31 : decode cX9_renew 31 = .ok (.invokestatic 26, 3) := by decide +kernel
theorem dX9_renew_34 : decode cX9_renew 34 = .ok (.iconst 1, 1) := by decide +kernel
theorem dX9_renew_35 : decode cX9_renew 35 = .ok (.ireturn, 1) := by decide +kernel
theorem dX9_isSpan_0 : decode cX9_isSpan 0 = .ok (.iload_n 0, 1) := by decide +kernel
theorem dX9_isSpan_1 : decode cX9_isSpan 1 = .ok (.iconst 2, 1) := by decide +kernel
theorem dX9_isSpan_2 : decode cX9_isSpan 2 = .ok (.if_icmp .lt 13, 3) := by decide +kernel
theorem dX9_isSpan_5 : decode cX9_isSpan 5 = .ok (.iload_n 0, 1) := by decide +kernel
theorem dX9_isSpan_6 : decode cX9_isSpan 6 = .ok (.bipush 9, 2) := by decide +kernel
theorem dX9_isSpan_8 : decode cX9_isSpan 8 = .ok (.if_icmp .gt 7, 3) := by decide +kernel
theorem dX9_isSpan_11 : decode cX9_isSpan 11 = .ok (.iconst 1, 1) := by decide +kernel
theorem dX9_isSpan_12 : decode cX9_isSpan 12 = .ok (.goto 4, 3) := by decide +kernel
theorem dX9_isSpan_15 : decode cX9_isSpan 15 = .ok (.iconst 0, 1) := by decide +kernel
theorem dX9_isSpan_16 : decode cX9_isSpan 16 = .ok (.ireturn, 1) := by decide +kernel
theorem dX9_tell_0 : decode cX9_tell 0 = .ok (.iload_n 1, 1) := by decide +kernel
theorem dX9_tell_1 : decode cX9_tell 1 = .ok (.ifCond .lt 23, 3) := by decide +kernel
theorem dX9_tell_4 : decode cX9_tell 4 = .ok (.iload_n 1, 1) := by decide +kernel
theorem dX9_tell_5 : decode cX9_tell 5 = .ok (.aload_n 0, 1) := by decide +kernel
theorem dX9_tell_6 : decode cX9_tell 6 = .ok (.getfield 15, 3) := by decide +kernel
theorem dX9_tell_9 : decode cX9_tell 9 = .ok (.if_icmp .ge 15, 3) := by decide +kernel
theorem dX9_tell_12 : decode cX9_tell 12 = .ok (.iload_n 2, 1) := by decide +kernel
theorem dX9_tell_13 : decode cX9_tell 13 = .ok (.ifCond .lt 11, 3) := by decide +kernel
theorem dX9_tell_16 : decode cX9_tell 16 = .ok (.iload_n 2, 1) := by decide +kernel
theorem dX9_tell_17 : decode cX9_tell 17 = .ok (.aload_n 0, 1) := by decide +kernel
theorem dX9_tell_18 : decode cX9_tell 18 = .ok (.getfield 19, 3) := by decide +kernel
theorem dX9_tell_21 : decode cX9_tell 21 = .ok (.if_icmp .le 5, 3) := by decide +kernel
theorem dX9_tell_24 : decode cX9_tell 24 = .ok (.iconst 0, 1) := by decide +kernel
theorem dX9_tell_25 : decode cX9_tell 25 = .ok (.ireturn, 1) := by decide +kernel
theorem dX9_tell_26 : decode cX9_tell 26 = .ok (.iconst 0, 1) := by decide +kernel
theorem dX9_tell_27 : decode cX9_tell 27 = .ok (.istore 4, 2) := by decide +kernel
theorem dX9_tell_29 : decode cX9_tell 29 = .ok (.iload 4, 2) := by decide +kernel
theorem dX9_tell_31 : decode cX9_tell 31 = .ok (.aload_n 0, 1) := by decide +kernel
theorem dX9_tell_32 : decode cX9_tell 32 = .ok (.getfield 19, 3) := by decide +kernel
theorem dX9_tell_35 : decode cX9_tell 35 = .ok (.if_icmp .ge 42, 3) := by decide +kernel
theorem dX9_tell_38 : decode cX9_tell 38 = .ok (.aload_n 0, 1) := by decide +kernel
theorem dX9_tell_39 : decode cX9_tell 39 = .ok (.getfield 9, 3) := by decide +kernel
theorem dX9_tell_42 : decode cX9_tell 42 = .ok (.iload_n 1, 1) := by decide +kernel
theorem dX9_tell_43 : decode cX9_tell 43 = .ok (.aload_n 0, 1) := by decide +kernel
theorem dX9_tell_44 : decode cX9_tell 44 = .ok (.getfield 19, 3) := by decide +kernel
theorem dX9_tell_47 : decode cX9_tell 47 = .ok (.imul, 1) := by decide +kernel
theorem dX9_tell_48 : decode cX9_tell 48 = .ok (.iload 4, 2) := by decide +kernel
theorem dX9_tell_50 : decode cX9_tell 50 = .ok (.iadd, 1) := by decide +kernel
theorem dX9_tell_51 : decode cX9_tell 51 = .ok (.iload 4, 2) := by decide +kernel
theorem dX9_tell_53 : decode cX9_tell 53 = .ok (.iload_n 2, 1) := by decide +kernel
theorem dX9_tell_54 : decode cX9_tell 54 = .ok (.if_icmp .ge 15, 3) := by decide +kernel
theorem dX9_tell_57 : decode cX9_tell 57 = .ok (.iload_n 3, 1) := by decide +kernel
theorem dX9_tell_58 : decode cX9_tell 58 = .ok (.iconst 3, 1) := by decide +kernel
theorem dX9_tell_59 : decode cX9_tell 59 = .ok (.iload 4, 2) := by decide +kernel
theorem dX9_tell_61 : decode cX9_tell 61 = .ok (.imul, 1) := by decide +kernel
theorem dX9_tell_62 : decode cX9_tell 62 = .ok (.ishr, 1) := by decide +kernel
theorem dX9_tell_63 : decode cX9_tell 63 = .ok (.bipush 7, 2) := by decide +kernel
theorem dX9_tell_65 : decode cX9_tell 65 = .ok (.iand, 1) := by decide +kernel
theorem dX9_tell_66 : decode cX9_tell 66 = .ok (.goto 4, 3) := by decide +kernel
theorem dX9_tell_69 : decode cX9_tell 69 = .ok (.iconst 0, 1) := by decide +kernel
theorem dX9_tell_70 : decode cX9_tell 70 = .ok (.iastore, 1) := by decide +kernel
theorem dX9_tell_71 : decode cX9_tell 71 = .ok (.iinc 4 1, 3) := by decide +kernel
theorem dX9_tell_74 : decode cX9_tell 74 = .ok (.goto (-45), 3) := by decide +kernel
theorem dX9_tell_77 : decode cX9_tell 77 = .ok (.iconst 1, 1) := by decide +kernel
theorem dX9_tell_78 : decode cX9_tell 78 = .ok (.ireturn, 1) := by decide +kernel
set_option maxRecDepth 20000 in
theorem ggX9_canBegin_X9_size : GoodIn wsX9_canBegin wsX9_size := goodIn_r _ [6, 7, 8, 14, 15, 16] (by decide +kernel) (by decide +kernel)
set_option maxRecDepth 20000 in
theorem gX9_canBegin_X9_size : GoodIn wsX9_canBegin (wsV RX9 32 RX9 yX9_size wsX9_size) := goodIn_app (goodIn_of _ (by decide +kernel)) ggX9_canBegin_X9_size
set_option maxRecDepth 20000 in
theorem ggX9_canBegin_X10_kindOfSign : GoodIn wsX9_canBegin wsX10_kindOfSign := goodIn_r _ [11] (by decide +kernel) (by decide +kernel)
set_option maxRecDepth 20000 in
theorem gX9_canBegin_X10_kindOfSign_n36 : GoodIn wsX9_canBegin (wsX10_kindOfSign) := ggX9_canBegin_X10_kindOfSign
set_option maxRecDepth 20000 in
theorem ggX9_canBegin_X10_typeOfSign : GoodIn wsX9_canBegin wsX10_typeOfSign := goodIn_r _ [13] (by decide +kernel) (by decide +kernel)
set_option maxRecDepth 20000 in
theorem gX9_canBegin_X10_typeOfSign_n40 : GoodIn wsX9_canBegin (wsX10_typeOfSign) := ggX9_canBegin_X10_typeOfSign
theorem dX9_canBegin_0 : decode cX9_canBegin 0 = .ok (.iconst 0, 1) := by decide +kernel
theorem dX9_canBegin_1 : decode cX9_canBegin 1 = .ok (.istore_n 1, 1) := by decide +kernel
theorem dX9_canBegin_2 : decode cX9_canBegin 2 = .ok (.iconst 0, 1) := by decide +kernel
theorem dX9_canBegin_3 : decode cX9_canBegin 3 = .ok (.istore_n 2, 1) := by decide +kernel
theorem dX9_canBegin_4 : decode cX9_canBegin 4 = .ok (.iconst 0, 1) := by decide +kernel
theorem dX9_canBegin_5 : decode cX9_canBegin 5 = .ok (.istore_n 3, 1) := by decide +kernel
theorem dX9_canBegin_6 : decode cX9_canBegin 6 = .ok (.iconst 0, 1) := by decide +kernel
theorem dX9_canBegin_7 : decode cX9_canBegin 7 = .ok (.istore 4, 2) := by decide +kernel
theorem dX9_canBegin_9 : decode cX9_canBegin 9 = .ok (.aload_n 0, 1) := by decide +kernel
theorem dX9_canBegin_10 : decode cX9_canBegin 10 = .ok (.invokevirtual 32, 3) := by decide +kernel
theorem dX9_canBegin_13 : decode cX9_canBegin 13 = .ok (.istore 5, 2) := by decide +kernel
theorem dX9_canBegin_15 : decode cX9_canBegin 15 = .ok (.iconst 0, 1) := by decide +kernel
theorem dX9_canBegin_16 : decode cX9_canBegin 16 = .ok (.istore 6, 2) := by decide +kernel
theorem dX9_canBegin_18 : decode cX9_canBegin 18 = .ok (.iload 6, 2) := by decide +kernel
theorem dX9_canBegin_20 : decode cX9_canBegin 20 = .ok (.iload 5, 2) := by decide +kernel
theorem dX9_canBegin_22 : decode cX9_canBegin 22 = .ok (.if_icmp .ge 92, 3) := by decide +kernel
theorem dX9_canBegin_25 : decode cX9_canBegin 25 = .ok (.aload_n 0, 1) := by decide +kernel
theorem dX9_canBegin_26 : decode cX9_canBegin 26 = .ok (.getfield 9, 3) := by decide +kernel
theorem dX9_canBegin_29 : decode cX9_canBegin 29 = .ok (.iload 6, 2) := by decide +kernel
theorem dX9_canBegin_31 : decode cX9_canBegin 31 = .ok (.iaload, 1) := by decide +kernel
theorem dX9_canBegin_32 : decode cX9_canBegin 32 = .ok (.invokestatic 36, 3) := by decide +kernel
theorem dX9_canBegin_35 : decode cX9_canBegin 35 = .ok (.istore 7, 2) := by decide +kernel
theorem dX9_canBegin_37 : decode cX9_canBegin 37 = .ok (.iload_n 1, 1) := by decide +kernel
theorem dX9_canBegin_38 : decode cX9_canBegin 38 = .ok (.iload 7, 2) := by decide +kernel
theorem dX9_canBegin_40 : decode cX9_canBegin 40 = .ok (.iconst 2, 1) := by decide +kernel
theorem dX9_canBegin_41 : decode cX9_canBegin 41 = .ok (.if_icmp .ne 7, 3) := by decide +kernel
theorem dX9_canBegin_48 : decode cX9_canBegin 48 = .ok (.iconst 0, 1) := by decide +kernel
theorem dX9_canBegin_49 : decode cX9_canBegin 49 = .ok (.iadd, 1) := by decide +kernel
theorem dX9_canBegin_50 : decode cX9_canBegin 50 = .ok (.istore_n 1, 1) := by decide +kernel
theorem dX9_canBegin_51 : decode cX9_canBegin 51 = .ok (.iload_n 2, 1) := by decide +kernel
theorem dX9_canBegin_52 : decode cX9_canBegin 52 = .ok (.iload 7, 2) := by decide +kernel
theorem dX9_canBegin_54 : decode cX9_canBegin 54 = .ok (.iconst 3, 1) := by decide +kernel
theorem dX9_canBegin_55 : decode cX9_canBegin 55 = .ok (.if_icmp .eq 9, 3) := by decide +kernel
theorem dX9_canBegin_58 : decode cX9_canBegin 58 = .ok (.iload 7, 2) := by decide +kernel
theorem dX9_canBegin_60 : decode cX9_canBegin 60 = .ok (.iconst 4, 1) := by decide +kernel
theorem dX9_canBegin_61 : decode cX9_canBegin 61 = .ok (.if_icmp .ne 7, 3) := by decide +kernel
theorem dX9_canBegin_68 : decode cX9_canBegin 68 = .ok (.iconst 0, 1) := by decide +kernel
theorem dX9_canBegin_69 : decode cX9_canBegin 69 = .ok (.iadd, 1) := by decide +kernel
theorem dX9_canBegin_70 : decode cX9_canBegin 70 = .ok (.istore_n 2, 1) := by decide +kernel
theorem dX9_canBegin_71 : decode cX9_canBegin 71 = .ok (.iload_n 3, 1) := by decide +kernel
theorem dX9_canBegin_72 : decode cX9_canBegin 72 = .ok (.iload 7, 2) := by decide +kernel
theorem dX9_canBegin_74 : decode cX9_canBegin 74 = .ok (.ifCond .ne 7, 3) := by decide +kernel
theorem dX9_canBegin_77 : decode cX9_canBegin 77 = .ok (.iconst 0, 1) := by decide +kernel
theorem dX9_canBegin_78 : decode cX9_canBegin 78 = .ok (.goto 4, 3) := by decide +kernel
theorem dX9_canBegin_82 : decode cX9_canBegin 82 = .ok (.iadd, 1) := by decide +kernel
theorem dX9_canBegin_83 : decode cX9_canBegin 83 = .ok (.istore_n 3, 1) := by decide +kernel
theorem dX9_canBegin_84 : decode cX9_canBegin 84 = .ok (.iload 4, 2) := by decide +kernel
theorem dX9_canBegin_86 : decode cX9_canBegin 86 = .ok (.aload_n 0, 1) := by decide +kernel
theorem dX9_canBegin_87 : decode cX9_canBegin 87 = .ok (.getfield 9, 3) := by decide +kernel
theorem dX9_canBegin_90 : decode cX9_canBegin 90 = .ok (.iload 6, 2) := by decide +kernel
theorem dX9_canBegin_92 : decode cX9_canBegin 92 = .ok (.iaload, 1) := by decide +kernel
theorem dX9_canBegin_93 : decode cX9_canBegin 93 = .ok (.invokestatic 40, 3) := by decide +kernel
theorem dX9_canBegin_96 : decode cX9_canBegin 96 = .ok (.iconst 1, 1) := by decide +kernel
theorem dX9_canBegin_97 : decode cX9_canBegin 97 = .ok (.if_icmp .ne 7, 3) := by decide +kernel
theorem dX9_canBegin_104 : decode cX9_canBegin 104 = .ok (.iconst 0, 1) := by decide +kernel
theorem dX9_canBegin_105 : decode cX9_canBegin 105 = .ok (.iadd, 1) := by decide +kernel
theorem dX9_canBegin_106 : decode cX9_canBegin 106 = .ok (.istore 4, 2) := by decide +kernel
theorem dX9_canBegin_108 : decode cX9_canBegin 108 = .ok (.iinc 6 1, 3) := by decide +kernel
theorem dX9_canBegin_111 : decode cX9_canBegin 111 = .ok (.goto (-93), 3) := by decide +kernel
theorem dX9_canBegin_114 : decode cX9_canBegin 114 = .ok (.iload_n 1, 1) := by decide +kernel
theorem dX9_canBegin_115 : decode cX9_canBegin 115 = .ok (.iconst 1, 1) := by decide +kernel
theorem dX9_canBegin_116 : decode cX9_canBegin 116 = .ok (.if_icmp .ne 24, 3) := by decide +kernel
theorem dX9_canBegin_140 : decode cX9_canBegin 140 = .ok (.iconst 0, 1) := by decide +kernel
theorem dX9_canBegin_141 : decode cX9_canBegin 141 = .ok (.ireturn, 1) := by decide +kernel
set_option maxRecDepth 20000 in
theorem ggX10_init_X9_init : GoodIn wsX10_init wsX9_init := goodIn_r _ [29, 30, 2, 3, 31, 32, 33, 34, 137, 138, 139] (by decide +kernel) (by decide +kernel)
set_option maxRecDepth 20000 in
theorem gX10_init_X9_init_n9 : GoodIn wsX10_init (wsX9_init) := ggX10_init_X9_init
set_option maxRecDepth 20000 in
theorem ggX10_init_X1_init : GoodIn wsX10_init wsX1_init := goodIn_r _ [36, 37, 2, 3, 38, 39, 40, 41, 42, 146, 147, 148, 149, 150] (by decide +kernel) (by decide +kernel)
set_option maxRecDepth 20000 in
theorem gX10_init_X1_init_n18 : GoodIn wsX10_init (wsX1_init) := ggX10_init_X1_init
set_option maxRecDepth 20000 in
theorem ggX10_init_X6_init : GoodIn wsX10_init wsX6_init := goodIn_r _ [45, 46, 2, 3, 47, 48, 49, 50, 31, 51, 52, 53, 54, 55, 56, 57, 58, 59, 60, 61, 62, 63, 183, 184, 185, 186, 187, 151, 152, 153, 154, 155, 156, 157, 158, 159] (by decide +kernel) (by decide +kernel)
set_option maxRecDepth 20000 in
theorem gX10_init_X6_init : GoodIn wsX10_init (wsX6_init) := ggX10_init_X6_init
set_option maxRecDepth 20000 in
theorem ggX10_init_X4_init : GoodIn wsX10_init wsX4_init := goodIn_r _ [66, 67, 2, 3, 68, 69, 70, 71, 72, 73, 74, 75, 76, 77, 78, 79, 80, 81, 82, 31, 83, 84, 85, 86, 87, 88, 89, 90, 91, 92, 93, 94, 95, 96, 97, 98, 99, 100, 101, 102, 103, 188, 189, 190, 160, 161, 162, 163, 164, 191, 192, 193, 194, 195, 196, 197, 198, 199] (by decide +kernel) (by decide +kernel)
set_option maxRecDepth 20000 in
theorem gX10_init_X4_init : GoodIn wsX10_init (wsX4_init) := ggX10_init_X4_init
set_option maxRecDepth 20000 in
theorem ggX10_init_X5_init : GoodIn wsX10_init wsX5_init := goodIn_r _ [106, 107, 2, 3, 31, 108, 53, 109, 110, 165, 166, 167] (by decide +kernel) (by decide +kernel)
set_option maxRecDepth 20000 in
theorem gX10_init_X5_init : GoodIn wsX10_init (wsX5_init) := ggX10_init_X5_init
set_option maxRecDepth 20000 in
theorem ggX10_init_X7_init : GoodIn wsX10_init wsX7_init := goodIn_r _ [113, 114, 2, 3, 115, 69, 70, 116, 117, 118, 119, 120, 31, 121, 122, 123, 124, 125, 126, 127, 128, 129, 130, 80, 81, 82, 83, 84, 85, 86, 87, 88, 89, 90, 91, 92, 93, 131, 132, 133, 134, 135, 136, 188, 189, 190, 168, 169, 170, 171, 172, 173, 174, 175, 176, 177, 178, 179, 180, 181, 182, 200, 201, 202, 203] (by decide +kernel) (by decide +kernel)
set_option maxRecDepth 20000 in
theorem gX10_init_X7_init : GoodIn wsX10_init (wsX7_init) := ggX10_init_X7_init
theorem dX10_init_0 : decode cX10_init 0 = .ok (.aload_n 0, 1) := by decide +kernel
theorem dX10_init_1 : decode cX10_init 1 = .ok (.invokespecial 1, 3) := by decide +kernel
theorem dX10_init_4 : decode cX10_init 4 = .ok (.aload_n 0, 1) := by decide +kernel
theorem dX10_init_5 : decode cX10_init 5 = .ok (.new 7, 3) := by decide +kernel
theorem dX10_init_8 : decode cX10_init 8 = .ok (.dup, 1) := by decide +kernel
theorem dX10_init_9 : decode cX10_init 9 = .ok (.invokespecial 9, 3) := by decide +kernel
theorem dX10_init_12 : decode cX10_init 12 = .ok (.putfield 10, 3) := by decide +kernel
theorem dX10_init_15 : decode cX10_init 15 = .ok (.aload_n 0, 1) := by decide +kernel
theorem dX10_init_16 : decode cX10_init 16 = .ok (.new 16, 3) := by decide +kernel
theorem dX10_init_19 : decode cX10_init 19 = .ok (.dup, 1) := by decide +kernel
theorem dX10_init_20 : decode cX10_init 20 = .ok (.invokespecial 18, 3) := by decide +kernel
theorem dX10_init_23 : decode cX10_init 23 = .ok (.putfield 19, 3) := by decide +kernel
theorem dX10_init_26 : decode cX10_init 26 = .ok (.aload_n 0, 1) := by decide +kernel
theorem dX10_init_27 : decode cX10_init 27 = .ok (.new 23, 3) := by decide +kernel
theorem dX10_init_30 : decode cX10_init 30 = .ok (.dup, 1) := by decide +kernel
theorem dX10_init_31 : decode cX10_init 31 = .ok (.aload_n 0, 1) := by decide +kernel
theorem dX10_init_32 : decode cX10_init 32 = .ok (.getfield 19, 3) := by decide +kernel
theorem dX10_init_35 : decode cX10_init 35 = .ok (.invokespecial 25, 3) := by decide +kernel
theorem dX10_init_38 : decode cX10_init 38 = .ok (.putfield 28, 3) := by decide +kernel
theorem dX10_init_41 : decode cX10_init 41 = .ok (.aload_n 0, 1) := by decide +kernel
theorem dX10_init_42 : decode cX10_init 42 = .ok (.new 32, 3) := by decide +kernel
theorem dX10_init_45 : decode cX10_init 45 = .ok (.dup, 1) := by decide +kernel
theorem dX10_init_46 : decode cX10_init 46 = .ok (.aload_n 0, 1) := by decide +kernel
theorem dX10_init_47 : decode cX10_init 47 = .ok (.getfield 19, 3) := by decide +kernel
theorem dX10_init_50 : decode cX10_init 50 = .ok (.aload_n 0, 1) := by decide +kernel
theorem dX10_init_51 : decode cX10_init 51 = .ok (.getfield 28, 3) := by decide +kernel
theorem dX10_init_54 : decode cX10_init 54 = .ok (.invokespecial 34, 3) := by decide +kernel
theorem dX10_init_57 : decode cX10_init 57 = .ok (.putfield 37, 3) := by decide +kernel
theorem dX10_init_60 : decode cX10_init 60 = .ok (.aload_n 0, 1) := by decide +kernel
theorem dX10_init_61 : decode cX10_init 61 = .ok (.new 41, 3) := by decide +kernel
theorem dX10_init_64 : decode cX10_init 64 = .ok (.dup, 1) := by decide +kernel
theorem dX10_init_65 : decode cX10_init 65 = .ok (.aload_n 0, 1) := by decide +kernel
theorem dX10_init_66 : decode cX10_init 66 = .ok (.getfield 28, 3) := by decide +kernel
theorem dX10_init_69 : decode cX10_init 69 = .ok (.invokespecial 43, 3) := by decide +kernel
theorem dX10_init_72 : decode cX10_init 72 = .ok (.putfield 46, 3) := by decide +kernel
theorem dX10_init_75 : decode cX10_init 75 = .ok (.aload_n 0, 1) := by decide +kernel
theorem dX10_init_76 : decode cX10_init 76 = .ok (.new 50, 3) := by decide +kernel
theorem dX10_init_79 : decode cX10_init 79 = .ok (.dup, 1) := by decide +kernel
theorem dX10_init_80 : decode cX10_init 80 = .ok (.aload_n 0, 1) := by decide +kernel
theorem dX10_init_81 : decode cX10_init 81 = .ok (.getfield 28, 3) := by decide +kernel
theorem dX10_init_84 : decode cX10_init 84 = .ok (.invokespecial 52, 3) := by decide +kernel
theorem dX10_init_87 : decode cX10_init 87 = .ok (.putfield 53, 3) := by decide +kernel
theorem dX10_init_90 : decode cX10_init 90 = .ok (.return_, 1) := by decide +kernel
set_option maxRecDepth 20000 in
theorem ggX10_board_X9_renew : GoodIn wsX10_board wsX9_renew := goodIn_r _ [6, 7, 8, 9, 10, 11, 5, 12, 13, 14, 15, 16, 68, 69, 70] (by decide +kernel) (by decide +kernel)
set_option maxRecDepth 20000 in
theorem gX10_board_X9_renew : GoodIn wsX10_board (wsV RX10 57 RX9 yX9_renew wsX9_renew) := goodIn_app (goodIn_of _ (by decide +kernel)) ggX10_board_X9_renew
set_option maxRecDepth 20000 in
theorem ggX10_board_X10_endPlay : GoodIn wsX10_board wsX10_endPlay := goodIn_r _ [21, 22, 23, 24, 25, 26, 27, 28, 29, 30, 31, 32, 33, 34, 35, 36, 37, 38, 39, 40, 41, 42, 43, 44, 45, 46, 47, 48, 14, 15, 16, 49, 50, 51, 52, 53, 54, 55, 56, 57, 58, 59, 60, 61, 62, 63, 64, 65, 66, 67, 71, 72, 73, 74, 75, 76, 77, 78, 79, 80, 81, 82, 83, 84, 85, 86, 87, 88, 89, 90, 91, 92, 93, 94, 95, 96, 97, 98, 99, 100, 101, 102, 103, 104, 105, 106, 107, 108, 109, 110, 111] (by decide +kernel) (by decide +kernel)
set_option maxRecDepth 20000 in
theorem gX10_board_X10_endPlay : GoodIn wsX10_board (wsV RX10 61 RX10 yX10_endPlay wsX10_endPlay) := goodIn_app (goodIn_of _ (by decide +kernel)) ggX10_board_X10_endPlay
theorem dX10_board_0 : decode cX10_board 0 = .ok (.aload_n 0, 1) := by decide +kernel
theorem dX10_board_1 : decode cX10_board 1 = .ok (.getfield 10, 3) := by decide +kernel
theorem dX10_board_4 : decode cX10_board 4 = .ok (.iload_n 1, 1) := by decide +kernel
theorem dX10_board_5 : decode cX10_board 5 = .ok (.iload_n 2, 1) := by decide +kernel
theorem dX10_board_6 : decode cX10_board 6 = .ok (.invokevirtual 57, 3) := by decide +kernel
theorem dX10_board_9 : decode cX10_board 9 = .ok (.ifCond .ne 5, 3) := by decide +kernel
theorem dX10_board_12 : decode cX10_board 12 = .ok (.iconst 0, 1) := by decide +kernel
theorem dX10_board_13 : decode cX10_board 13 = .ok (.ireturn, 1) := by decide +kernel
theorem dX10_board_14 : decode cX10_board 14 = .ok (.aload_n 0, 1) := by decide +kernel
theorem dX10_board_15 : decode cX10_board 15 = .ok (.invokevirtual 61, 3) := by decide +kernel
theorem dX10_board_18 : decode cX10_board 18 = .ok (.iconst 1, 1) := by decide +kernel
theorem dX10_board_19 : decode cX10_board 19 = .ok (.ireturn, 1) := by decide +kernel
set_option maxRecDepth 20000 in
theorem ggX10_line_X4_isThere : GoodIn wsX10_line wsX4_isThere := goodIn_r _ [7, 8, 23, 24, 25, 26, 27] (by decide +kernel) (by decide +kernel)
set_option maxRecDepth 20000 in
theorem gX10_line_X4_isThere : GoodIn wsX10_line (wsV RX10 64 RX4 yX4_isThere wsX4_isThere) := goodIn_app (goodIn_of _ (by decide +kernel)) ggX10_line_X4_isThere
set_option maxRecDepth 20000 in
theorem ggX10_line_X9_tell : GoodIn wsX10_line wsX9_tell := goodIn_r _ [13, 14, 15, 16, 28, 29, 30] (by decide +kernel) (by decide +kernel)
set_option maxRecDepth 20000 in
theorem gX10_line_X9_tell : GoodIn wsX10_line (wsV RX10 68 RX9 yX9_tell wsX9_tell) := goodIn_app (goodIn_of _ (by decide +kernel)) ggX10_line_X9_tell
theorem dX10_line_0 : decode cX10_line 0 = .ok (.aload_n 0, 1) := by decide +kernel
theorem dX10_line_1 : decode cX10_line 1 = .ok (.getfield 37, 3) := by decide +kernel
theorem dX10_line_4 : decode cX10_line 4 = .ok (.invokevirtual 64, 3) := by decide +kernel
theorem dX10_line_7 : decode cX10_line 7 = .ok (.ifCond .ne 20, 3) := by decide +kernel
theorem dX10_line_10 : decode cX10_line 10 = .ok (.aload_n 0, 1) := by decide +kernel
theorem dX10_line_11 : decode cX10_line 11 = .ok (.getfield 10, 3) := by decide +kernel
theorem dX10_line_14 : decode cX10_line 14 = .ok (.iload_n 1, 1) := by decide +kernel
theorem dX10_line_15 : decode cX10_line 15 = .ok (.iload_n 2, 1) := by decide +kernel
theorem dX10_line_16 : decode cX10_line 16 = .ok (.iload_n 3, 1) := by decide +kernel
theorem dX10_line_17 : decode cX10_line 17 = .ok (.invokevirtual 68, 3) := by decide +kernel
theorem dX10_line_20 : decode cX10_line 20 = .ok (.ifCond .eq 7, 3) := by decide +kernel
theorem dX10_line_23 : decode cX10_line 23 = .ok (.iconst 1, 1) := by decide +kernel
theorem dX10_line_24 : decode cX10_line 24 = .ok (.goto 4, 3) := by decide +kernel
theorem dX10_line_27 : decode cX10_line 27 = .ok (.iconst 0, 1) := by decide +kernel
theorem dX10_line_28 : decode cX10_line 28 = .ok (.ireturn, 1) := by decide +kernel
set_option maxRecDepth 20000 in
theorem ggX10_law_X4_isThere : GoodIn wsX10_law wsX4_isThere := goodIn_r _ [7, 8, 25, 26, 27, 28, 29] (by decide +kernel) (by decide +kernel)
set_option maxRecDepth 20000 in
theorem gX10_law_X4_isThere : GoodIn wsX10_law (wsV RX10 64 RX4 yX4_isThere wsX4_isThere) := goodIn_app (goodIn_of _ (by decide +kernel)) ggX10_law_X4_isThere
set_option maxRecDepth 20000 in
theorem ggX10_law_X1_change : GoodIn wsX10_law wsX1_change := goodIn_r _ [13, 14, 15, 16, 17, 18, 30, 31, 32, 33, 34] (by decide +kernel) (by decide +kernel)
set_option maxRecDepth 20000 in
theorem gX10_law_X1_change : GoodIn wsX10_law (wsV RX10 72 RX1 yX1_change wsX1_change) := goodIn_app (goodIn_of _ (by decide +kernel)) ggX10_law_X1_change
theorem dX10_law_0 : decode cX10_law 0 = .ok (.aload_n 0, 1) := by decide +kernel
theorem dX10_law_1 : decode cX10_law 1 = .ok (.getfield 37, 3) := by decide +kernel
theorem dX10_law_4 : decode cX10_law 4 = .ok (.invokevirtual 64, 3) := by decide +kernel
theorem dX10_law_7 : decode cX10_law 7 = .ok (.ifCond .ne 24, 3) := by decide +kernel
theorem dX10_law_10 : decode cX10_law 10 = .ok (.aload_n 0, 1) := by decide +kernel
theorem dX10_law_11 : decode cX10_law 11 = .ok (.getfield 19, 3) := by decide +kernel
theorem dX10_law_14 : decode cX10_law 14 = .ok (.iload_n 1, 1) := by decide +kernel
theorem dX10_law_15 : decode cX10_law 15 = .ok (.iload_n 2, 1) := by decide +kernel
theorem dX10_law_16 : decode cX10_law 16 = .ok (.iload_n 3, 1) := by decide +kernel
theorem dX10_law_17 : decode cX10_law 17 = .ok (.iload 4, 2) := by decide +kernel
theorem dX10_law_19 : decode cX10_law 19 = .ok (.iload 5, 2) := by decide +kernel
theorem dX10_law_21 : decode cX10_law 21 = .ok (.invokevirtual 72, 3) := by decide +kernel
theorem dX10_law_24 : decode cX10_law 24 = .ok (.ifCond .eq 7, 3) := by decide +kernel
theorem dX10_law_27 : decode cX10_law 27 = .ok (.iconst 1, 1) := by decide +kernel
theorem dX10_law_28 : decode cX10_law 28 = .ok (.goto 4, 3) := by decide +kernel
theorem dX10_law_31 : decode cX10_law 31 = .ok (.iconst 0, 1) := by decide +kernel
theorem dX10_law_32 : decode cX10_law 32 = .ok (.ireturn, 1) := by decide +kernel
set_option maxRecDepth 20000 in
theorem ggX10_begin_X4_isThere : GoodIn wsX10_begin wsX4_isThere := goodIn_r _ [9, 10, 151, 152, 153, 154, 155] (by decide +kernel) (by decide +kernel)
set_option maxRecDepth 20000 in
theorem gX10_begin_X4_isThere : GoodIn wsX10_begin (wsV RX10 64 RX4 yX4_isThere wsX4_isThere) := goodIn_app (goodIn_of _ (by decide +kernel)) ggX10_begin_X4_isThere
set_option maxRecDepth 20000 in
theorem ggX10_begin_X10_isSide : GoodIn wsX10_begin wsX10_isSide := goodIn_r _ [14] (by decide +kernel) (by decide +kernel)
set_option maxRecDepth 20000 in
theorem gX10_begin_X10_isSide : GoodIn wsX10_begin (va_wsS RX10 76 yX10_isSide wsX10_isSide) := goodIn_app (goodIn_of _ (by decide +kernel)) ggX10_begin_X10_isSide
set_option maxRecDepth 20000 in
theorem ggX10_begin_X9_canBegin : GoodIn wsX10_begin wsX9_canBegin := goodIn_r _ [19, 20, 21, 22, 23, 18, 24, 25, 26, 27, 13, 28, 29, 30, 156, 157, 158] (by decide +kernel) (by decide +kernel)
set_option maxRecDepth 20000 in
theorem gX10_begin_X9_canBegin : GoodIn wsX10_begin (wsV RX10 80 RX9 yX9_canBegin wsX9_canBegin) := goodIn_app (goodIn_of _ (by decide +kernel)) ggX10_begin_X9_canBegin
theorem dX10_begin_0 : decode cX10_begin 0 = .ok (.aload_n 0, 1) := by decide +kernel
theorem dX10_begin_1 : decode cX10_begin 1 = .ok (.getfield 37, 3) := by decide +kernel
theorem dX10_begin_4 : decode cX10_begin 4 = .ok (.invokevirtual 64, 3) := by decide +kernel
theorem dX10_begin_7 : decode cX10_begin 7 = .ok (.ifCond .ne 20, 3) := by decide +kernel
theorem dX10_begin_10 : decode cX10_begin 10 = .ok (.iload_n 1, 1) := by decide +kernel
theorem dX10_begin_11 : decode cX10_begin 11 = .ok (.invokestatic 76, 3) := by decide +kernel
theorem dX10_begin_14 : decode cX10_begin 14 = .ok (.ifCond .eq 13, 3) := by decide +kernel
theorem dX10_begin_17 : decode cX10_begin 17 = .ok (.aload_n 0, 1) := by decide +kernel
theorem dX10_begin_18 : decode cX10_begin 18 = .ok (.getfield 10, 3) := by decide +kernel
theorem dX10_begin_21 : decode cX10_begin 21 = .ok (.invokevirtual 80, 3) := by decide +kernel
theorem dX10_begin_24 : decode cX10_begin 24 = .ok (.ifCond .ne 5, 3) := by decide +kernel
theorem dX10_begin_27 : decode cX10_begin 27 = .ok (.iconst (-1), 1) := by decide +kernel
theorem dX10_begin_28 : decode cX10_begin 28 = .ok (.ireturn, 1) := by decide +kernel
set_option maxRecDepth 20000 in
theorem ggX10_stop_X4_isThere : GoodIn wsX10_stop wsX4_isThere := goodIn_r _ [6, 7, 59, 60, 61, 62, 63] (by decide +kernel) (by decide +kernel)
set_option maxRecDepth 20000 in
theorem gX10_stop_X4_isThere : GoodIn wsX10_stop (wsV RX10 64 RX4 yX4_isThere wsX4_isThere) := goodIn_app (goodIn_of _ (by decide +kernel)) ggX10_stop_X4_isThere
theorem dX10_stop_0 : decode cX10_stop 0 = .ok (.aload_n 0, 1) := by decide +kernel
theorem dX10_stop_1 : decode cX10_stop 1 = .ok (.getfield 37, 3) := by decide +kernel
theorem dX10_stop_4 : decode cX10_stop 4 = .ok (.invokevirtual 64, 3) := by decide +kernel
theorem dX10_stop_7 : decode cX10_stop 7 = .ok (.ifCond .ne 5, 3) := by decide +kernel
theorem dX10_stop_10 : decode cX10_stop 10 = .ok (.iconst 0, 1) := by decide +kernel
theorem dX10_stop_11 : decode cX10_stop 11 = .ok (.ireturn, 1) := by decide +kernel
set_option maxRecDepth 20000 in
theorem ggX10_go_X4_tryMove : GoodIn wsX10_go wsX4_tryMove := goodIn_r _ [6, 7, 8, 9, 10, 11, 12, 5, 13, 14, 15, 16, 17, 18, 19, 20, 21, 22, 23, 24, 25, 26, 27, 28, 29, 30, 31, 32, 33, 34, 35, 36, 37, 38, 39, 40, 41, 42, 43, 44, 45, 46, 47, 48, 49, 50, 51, 52, 53, 54, 55, 56, 57, 58, 59, 60, 61, 62, 63, 64, 65, 66, 67, 68, 69, 70, 71, 72, 73, 74, 75, 76, 77, 78, 79, 80, 81, 82, 83, 84, 85, 86, 87, 88, 89, 90, 91, 92, 93, 94, 95, 96, 97, 98, 99, 100, 101, 102, 103, 104, 105, 106, 107, 108, 109, 110, 111, 112, 113, 114, 115, 116, 117, 118, 119, 120, 121, 122, 123, 124, 125, 126, 127, 128, 129, 130, 131, 132, 133, 134, 135, 136, 137, 138, 139, 140, 141, 142, 143, 144, 145, 146, 147, 148, 149, 150, 151, 152, 153, 154, 161, 162, 163, 164, 165, 166, 167, 168, 169, 170, 171, 172, 173, 174, 175, 176, 177, 178, 179, 180, 181, 182, 183, 184, 185, 186, 187, 188, 189, 190, 191, 192, 193, 194, 195, 196] (by decide +kernel) (by decide +kernel)
set_option maxRecDepth 20000 in
theorem gX10_go_X4_tryMove : GoodIn wsX10_go (wsV RX10 94 RX4 yX4_tryMove wsX4_tryMove) := goodIn_app (goodIn_of _ (by decide +kernel)) ggX10_go_X4_tryMove
theorem dX10_go_0 : decode cX10_go 0 = .ok (.aload_n 0, 1) := by decide +kernel
theorem dX10_go_1 : decode cX10_go 1 = .ok (.getfield 37, 3) := by decide +kernel
theorem dX10_go_4 : decode cX10_go 4 = .ok (.iload_n 1, 1) := by decide +kernel
theorem dX10_go_5 : decode cX10_go 5 = .ok (.iload_n 2, 1) := by decide +kernel
theorem dX10_go_6 : decode cX10_go 6 = .ok (.iload_n 3, 1) := by decide +kernel
theorem dX10_go_7 : decode cX10_go 7 = .ok (.invokevirtual 94, 3) := by decide +kernel
theorem dX10_go_10 : decode cX10_go 10 = .ok (.ireturn, 1) := by decide +kernel
set_option maxRecDepth 20000 in
theorem ggX10_why_X4_reason : GoodIn wsX10_why wsX4_reason := goodIn_r _ [6, 7, 8, 9, 10, 11, 12, 13, 14, 15, 16, 17, 18, 19, 20, 21, 22, 23, 24, 25, 26, 27, 28, 29, 30, 31, 32, 33, 34, 35, 36, 37, 38, 39, 40, 41, 42, 5, 43, 44, 45, 46, 47, 48, 49, 50, 51, 52, 53, 54, 55, 56, 57, 58, 59, 60, 61, 62, 63, 64, 65, 66, 67, 68, 69, 70, 71, 72, 73, 74, 75, 76, 77, 78, 79, 80, 81, 82, 83, 84, 85, 86, 87, 88, 89, 90, 91, 92, 93, 94, 95, 96, 97, 98, 99, 100, 101, 102, 103, 110, 111, 112, 113, 114, 115, 116, 117, 118, 119, 120, 121, 122, 123, 124, 125, 126, 127, 128, 129, 130, 131, 132, 133, 134, 135, 136, 137, 138, 139, 140, 141, 142, 143, 144, 145] (by decide +kernel) (by decide +kernel)
set_option maxRecDepth 20000 in
theorem gX10_why_X4_reason : GoodIn wsX10_why (wsV RX10 98 RX4 yX4_reason wsX4_reason) := goodIn_app (goodIn_of _ (by decide +kernel)) ggX10_why_X4_reason
theorem dX10_why_0 : decode cX10_why 0 = .ok (.aload_n 0, 1) := by decide +kernel
theorem dX10_why_1 : decode cX10_why 1 = .ok (.getfield 37, 3) := by decide +kernel
theorem dX10_why_4 : decode cX10_why 4 = .ok (.iload_n 1, 1) := by decide +kernel
theorem dX10_why_5 : decode cX10_why 5 = .ok (.iload_n 2, 1) := by decide +kernel
theorem dX10_why_6 : decode cX10_why 6 = .ok (.iload_n 3, 1) := by decide +kernel
theorem dX10_why_7 : decode cX10_why 7 = .ok (.invokevirtual 98, 3) := by decide +kernel
theorem dX10_why_10 : decode cX10_why 10 = .ok (.ireturn, 1) := by decide +kernel
set_option maxRecDepth 20000 in
theorem ggX10_about_X4_sideOnTurn : GoodIn wsX10_about wsX4_sideOnTurn := goodIn_r _ [8, 9, 10, 42, 43, 44, 45, 46, 68, 69, 70] (by decide +kernel) (by decide +kernel)
set_option maxRecDepth 20000 in
theorem gX10_about_X4_sideOnTurn : GoodIn wsX10_about (wsV RX10 104 RX4 yX4_sideOnTurn wsX4_sideOnTurn) := goodIn_app (goodIn_of _ (by decide +kernel)) ggX10_about_X4_sideOnTurn
set_option maxRecDepth 20000 in
theorem ggX10_about_X4_lost : GoodIn wsX10_about wsX4_lost := goodIn_r _ [14, 15, 10, 16, 17, 18, 19, 20, 21, 42, 43, 44, 45, 46, 47, 48, 49, 50, 51, 52, 53, 54, 55, 68, 69, 70] (by decide +kernel) (by decide +kernel)
set_option maxRecDepth 20000 in
theorem gX10_about_X4_lost : GoodIn wsX10_about (wsV RX10 108 RX4 yX4_lost wsX4_lost) := goodIn_app (goodIn_of _ (by decide +kernel)) ggX10_about_X4_lost
set_option maxRecDepth 20000 in
theorem ggX10_about_X9_size : GoodIn wsX10_about wsX9_size := goodIn_r _ [26, 27, 28, 65, 66, 67] (by decide +kernel) (by decide +kernel)
set_option maxRecDepth 20000 in
theorem gX10_about_X9_size : GoodIn wsX10_about (wsV RX10 120 RX9 yX9_size wsX9_size) := goodIn_app (goodIn_of _ (by decide +kernel)) ggX10_about_X9_size
set_option maxRecDepth 20000 in
theorem ggX10_about_X3_latestTakings : GoodIn wsX10_about wsX3_latestTakings := goodIn_r _ [33, 34, 35, 56, 57, 58, 59, 60, 61, 62, 63, 64] (by decide +kernel) (by decide +kernel)
set_option maxRecDepth 20000 in
theorem gX10_about_X3_latestTakings : GoodIn wsX10_about (wsV RX10 129 RX3 yX3_latestTakings wsX3_latestTakings) := goodIn_app (goodIn_of _ (by decide +kernel)) ggX10_about_X3_latestTakings
theorem dX10_about_0 : decode cX10_about 0 = .ok (.iload_n 1, 1) := by decide +kernel
theorem dX10_about_1 : decode cX10_about 1 = .ok (.tableswitch 143 0 8 #[51, 59, 67, 75, 83, 94, 102, 124, 132], 51) := by decide +kernel
theorem dX10_about_52 : decode cX10_about 52 = .ok (.aload_n 0, 1) := by decide +kernel
theorem dX10_about_53 : decode cX10_about 53 = .ok (.getfield 37, 3) := by decide +kernel
theorem dX10_about_56 : decode cX10_about 56 = .ok (.getfield 101, 3) := by decide +kernel
theorem dX10_about_59 : decode cX10_about 59 = .ok (.ireturn, 1) := by decide +kernel
theorem dX10_about_60 : decode cX10_about 60 = .ok (.aload_n 0, 1) := by decide +kernel
theorem dX10_about_61 : decode cX10_about 61 = .ok (.getfield 37, 3) := by decide +kernel
theorem dX10_about_64 : decode cX10_about 64 = .ok (.invokevirtual 104, 3) := by decide +kernel
theorem dX10_about_67 : decode cX10_about 67 = .ok (.ireturn, 1) := by decide +kernel
theorem dX10_about_68 : decode cX10_about 68 = .ok (.aload_n 0, 1) := by decide +kernel
theorem dX10_about_69 : decode cX10_about 69 = .ok (.getfield 28, 3) := by decide +kernel
theorem dX10_about_72 : decode cX10_about 72 = .ok (.getfield 90, 3) := by decide +kernel
theorem dX10_about_75 : decode cX10_about 75 = .ok (.ireturn, 1) := by decide +kernel
theorem dX10_about_76 : decode cX10_about 76 = .ok (.aload_n 0, 1) := by decide +kernel
theorem dX10_about_77 : decode cX10_about 77 = .ok (.getfield 37, 3) := by decide +kernel
theorem dX10_about_80 : decode cX10_about 80 = .ok (.invokevirtual 108, 3) := by decide +kernel
theorem dX10_about_83 : decode cX10_about 83 = .ok (.ireturn, 1) := by decide +kernel
theorem dX10_about_84 : decode cX10_about 84 = .ok (.aload_n 0, 1) := by decide +kernel
theorem dX10_about_85 : decode cX10_about 85 = .ok (.getfield 37, 3) := by decide +kernel
theorem dX10_about_88 : decode cX10_about 88 = .ok (.getfield 111, 3) := by decide +kernel
theorem dX10_about_91 : decode cX10_about 91 = .ok (.getfield 115, 3) := by decide +kernel
theorem dX10_about_94 : decode cX10_about 94 = .ok (.ireturn, 1) := by decide +kernel
theorem dX10_about_95 : decode cX10_about 95 = .ok (.aload_n 0, 1) := by decide +kernel
theorem dX10_about_96 : decode cX10_about 96 = .ok (.getfield 10, 3) := by decide +kernel
theorem dX10_about_99 : decode cX10_about 99 = .ok (.invokevirtual 120, 3) := by decide +kernel
theorem dX10_about_102 : decode cX10_about 102 = .ok (.ireturn, 1) := by decide +kernel
theorem dX10_about_103 : decode cX10_about 103 = .ok (.aload_n 0, 1) := by decide +kernel
theorem dX10_about_104 : decode cX10_about 104 = .ok (.getfield 37, 3) := by decide +kernel
theorem dX10_about_107 : decode cX10_about 107 = .ok (.getfield 111, 3) := by decide +kernel
theorem dX10_about_110 : decode cX10_about 110 = .ok (.getfield 123, 3) := by decide +kernel
theorem dX10_about_113 : decode cX10_about 113 = .ok (.aload_n 0, 1) := by decide +kernel
theorem dX10_about_114 : decode cX10_about 114 = .ok (.getfield 37, 3) := by decide +kernel
theorem dX10_about_117 : decode cX10_about 117 = .ok (.getfield 111, 3) := by decide +kernel
theorem dX10_about_120 : decode cX10_about 120 = .ok (.getfield 115, 3) := by decide +kernel
theorem dX10_about_123 : decode cX10_about 123 = .ok (.isub, 1) := by decide +kernel
theorem dX10_about_124 : decode cX10_about 124 = .ok (.ireturn, 1) := by decide +kernel
theorem dX10_about_125 : decode cX10_about 125 = .ok (.aload_n 0, 1) := by decide +kernel
theorem dX10_about_126 : decode cX10_about 126 = .ok (.getfield 10, 3) := by decide +kernel
theorem dX10_about_129 : decode cX10_about 129 = .ok (.getfield 126, 3) := by decide +kernel
theorem dX10_about_132 : decode cX10_about 132 = .ok (.ireturn, 1) := by decide +kernel
theorem dX10_about_133 : decode cX10_about 133 = .ok (.aload_n 0, 1) := by decide +kernel
theorem dX10_about_134 : decode cX10_about 134 = .ok (.getfield 37, 3) := by decide +kernel
theorem dX10_about_137 : decode cX10_about 137 = .ok (.getfield 111, 3) := by decide +kernel
theorem dX10_about_140 : decode cX10_about 140 = .ok (.invokevirtual 129, 3) := by decide +kernel
theorem dX10_about_143 : decode cX10_about 143 = .ok (.ireturn, 1) := by decide +kernel
theorem dX10_about_144 : decode cX10_about 144 = .ok (.iconst (-1), 1) := by decide +kernel
theorem dX10_about_145 : decode cX10_about 145 = .ok (.ireturn, 1) := by decide +kernel
set_option maxRecDepth 20000 in
theorem ggX10_piece_X6_isPiece : GoodIn wsX10_piece wsX6_isPiece := goodIn_r _ [7, 8, 62, 63, 64, 65, 66, 67, 68, 69, 70] (by decide +kernel) (by decide +kernel)
set_option maxRecDepth 20000 in
theorem gX10_piece_X6_isPiece : GoodIn wsX10_piece (wsV RX10 132 RX6 yX6_isPiece wsX6_isPiece) := goodIn_app (goodIn_of _ (by decide +kernel)) ggX10_piece_X6_isPiece
theorem dX10_piece_0 : decode cX10_piece 0 = .ok (.aload_n 0, 1) := by decide +kernel
theorem dX10_piece_1 : decode cX10_piece 1 = .ok (.getfield 28, 3) := by decide +kernel
theorem dX10_piece_4 : decode cX10_piece 4 = .ok (.iload_n 1, 1) := by decide +kernel
theorem dX10_piece_5 : decode cX10_piece 5 = .ok (.invokevirtual 132, 3) := by decide +kernel
theorem dX10_piece_8 : decode cX10_piece 8 = .ok (.ifCond .ne 5, 3) := by decide +kernel
theorem dX10_piece_11 : decode cX10_piece 11 = .ok (.iconst (-1), 1) := by decide +kernel
theorem dX10_piece_12 : decode cX10_piece 12 = .ok (.ireturn, 1) := by decide +kernel
set_option maxRecDepth 20000 in
theorem ggX10_on_X8_holderOf : GoodIn wsX10_on wsX8_holderOf := goodIn_r _ [6, 7, 19, 20, 21] (by decide +kernel) (by decide +kernel)
set_option maxRecDepth 20000 in
theorem gX10_on_X8_holderOf : GoodIn wsX10_on (wsV RX10 156 RX8 yX8_holderOf wsX8_holderOf) := goodIn_app (goodIn_of _ (by decide +kernel)) ggX10_on_X8_holderOf
theorem dX10_on_0 : decode cX10_on 0 = .ok (.aload_n 0, 1) := by decide +kernel
theorem dX10_on_1 : decode cX10_on 1 = .ok (.getfield 37, 3) := by decide +kernel
theorem dX10_on_4 : decode cX10_on 4 = .ok (.getfield 139, 3) := by decide +kernel
theorem dX10_on_7 : decode cX10_on 7 = .ok (.iload_n 1, 1) := by decide +kernel
theorem dX10_on_8 : decode cX10_on 8 = .ok (.invokevirtual 156, 3) := by decide +kernel
theorem dX10_on_11 : decode cX10_on 11 = .ok (.ireturn, 1) := by decide +kernel
set_option maxRecDepth 20000 in
theorem ggX10_field_X4_isThere : GoodIn wsX10_field wsX4_isThere := goodIn_r _ [8, 9, 37, 38, 39, 40, 41] (by decide +kernel) (by decide +kernel)
set_option maxRecDepth 20000 in
theorem gX10_field_X4_isThere : GoodIn wsX10_field (wsV RX10 64 RX4 yX4_isThere wsX4_isThere) := goodIn_app (goodIn_of _ (by decide +kernel)) ggX10_field_X4_isThere
theorem dX10_field_0 : decode cX10_field 0 = .ok (.aload_n 0, 1) := by decide +kernel
theorem dX10_field_1 : decode cX10_field 1 = .ok (.getfield 37, 3) := by decide +kernel
theorem dX10_field_4 : decode cX10_field 4 = .ok (.invokevirtual 64, 3) := by decide +kernel
theorem dX10_field_7 : decode cX10_field 7 = .ok (.ifCond .eq 18, 3) := by decide +kernel
theorem dX10_field_25 : decode cX10_field 25 = .ok (.iconst (-1), 1) := by decide +kernel
theorem dX10_field_26 : decode cX10_field 26 = .ok (.ireturn, 1) := by decide +kernel
set_option maxRecDepth 20000 in
theorem ggX10_took_X3_latestVictim : GoodIn wsX10_took wsX3_latestVictim := goodIn_r _ [6, 7, 8, 9, 21, 22, 23, 24, 25, 26, 27, 28, 29] (by decide +kernel) (by decide +kernel)
set_option maxRecDepth 20000 in
theorem gX10_took_X3_latestVictim : GoodIn wsX10_took (wsV RX10 171 RX3 yX3_latestVictim wsX3_latestVictim) := goodIn_app (goodIn_of _ (by decide +kernel)) ggX10_took_X3_latestVictim
theorem dX10_took_0 : decode cX10_took 0 = .ok (.aload_n 0, 1) := by decide +kernel
theorem dX10_took_1 : decode cX10_took 1 = .ok (.getfield 37, 3) := by decide +kernel
theorem dX10_took_4 : decode cX10_took 4 = .ok (.getfield 111, 3) := by decide +kernel
theorem dX10_took_7 : decode cX10_took 7 = .ok (.iload_n 1, 1) := by decide +kernel
theorem dX10_took_8 : decode cX10_took 8 = .ok (.invokevirtual 171, 3) := by decide +kernel
theorem dX10_took_11 : decode cX10_took 11 = .ok (.ireturn, 1) := by decide +kernel
set_option maxRecDepth 20000 in
theorem ggX10_ring_X5_holds : GoodIn wsX10_ring wsX5_holds := goodIn_r _ [7, 8, 9, 10, 11, 12, 13, 14, 15, 16, 17, 18, 19, 20, 21, 22, 23, 24, 25, 26, 27, 28, 29, 30, 31, 32, 6, 33, 34, 35, 36, 37, 38, 39, 40, 41, 42, 43, 55, 56, 57, 58, 59, 60, 61, 62, 63, 64, 65, 66, 67, 68, 69, 70, 71, 72, 73, 74] (by decide +kernel) (by decide +kernel)
set_option maxRecDepth 20000 in
theorem gX10_ring_X5_holds : GoodIn wsX10_ring (wsV RX10 174 RX5 yX5_holds wsX5_holds) := goodIn_app (goodIn_of _ (by decide +kernel)) ggX10_ring_X5_holds
theorem dX10_ring_0 : decode cX10_ring 0 = .ok (.aload_n 0, 1) := by decide +kernel
theorem dX10_ring_1 : decode cX10_ring 1 = .ok (.getfield 46, 3) := by decide +kernel
theorem dX10_ring_4 : decode cX10_ring 4 = .ok (.aload_n 0, 1) := by decide +kernel
theorem dX10_ring_5 : decode cX10_ring 5 = .ok (.getfield 37, 3) := by decide +kernel
theorem dX10_ring_8 : decode cX10_ring 8 = .ok (.getfield 139, 3) := by decide +kernel
theorem dX10_ring_11 : decode cX10_ring 11 = .ok (.iconst (-1), 1) := by decide +kernel
theorem dX10_ring_12 : decode cX10_ring 12 = .ok (.invokevirtual 174, 3) := by decide +kernel
theorem dX10_ring_15 : decode cX10_ring 15 = .ok (.ireturn, 1) := by decide +kernel
set_option maxRecDepth 20000 in
theorem ggX10_needed_X6_isPiece : GoodIn wsX10_needed wsX6_isPiece := goodIn_r _ [8, 9, 52, 53, 54, 55, 56, 57, 58, 59, 60] (by decide +kernel) (by decide +kernel)
set_option maxRecDepth 20000 in
theorem gX10_needed_X6_isPiece : GoodIn wsX10_needed (wsV RX10 132 RX6 yX6_isPiece wsX6_isPiece) := goodIn_app (goodIn_of _ (by decide +kernel)) ggX10_needed_X6_isPiece
theorem dX10_needed_0 : decode cX10_needed 0 = .ok (.aload_n 0, 1) := by decide +kernel
theorem dX10_needed_1 : decode cX10_needed 1 = .ok (.getfield 28, 3) := by decide +kernel
theorem dX10_needed_4 : decode cX10_needed 4 = .ok (.iload_n 1, 1) := by decide +kernel
theorem dX10_needed_5 : decode cX10_needed 5 = .ok (.invokevirtual 132, 3) := by decide +kernel
theorem dX10_needed_8 : decode cX10_needed 8 = .ok (.ifCond .eq 56, 3) := by decide +kernel
theorem dX10_needed_64 : decode cX10_needed 64 = .ok (.iconst 0, 1) := by decide +kernel
theorem dX10_needed_65 : decode cX10_needed 65 = .ok (.ireturn, 1) := by decide +kernel
set_option maxRecDepth 20000 in
theorem ggX10_back_X4_takeBack : GoodIn wsX10_back wsX4_takeBack := goodIn_r _ [6, 7, 8, 9, 10, 11, 12, 13, 14, 15, 16, 17, 18, 19, 20, 21, 22, 23, 24, 25, 26, 27, 34, 35, 36, 37, 38, 39, 40, 41, 42, 43, 44, 45, 46, 47, 48, 49, 50] (by decide +kernel) (by decide +kernel)
set_option maxRecDepth 20000 in
theorem gX10_back_X4_takeBack : GoodIn wsX10_back (wsV RX10 181 RX4 yX4_takeBack wsX4_takeBack) := goodIn_app (goodIn_of _ (by decide +kernel)) ggX10_back_X4_takeBack
theorem dX10_back_0 : decode cX10_back 0 = .ok (.aload_n 0, 1) := by decide +kernel
theorem dX10_back_1 : decode cX10_back 1 = .ok (.getfield 37, 3) := by decide +kernel
theorem dX10_back_4 : decode cX10_back 4 = .ok (.invokevirtual 181, 3) := by decide +kernel
theorem dX10_back_7 : decode cX10_back 7 = .ok (.ireturn, 1) := by decide +kernel
set_option maxRecDepth 20000 in
theorem ggX10_again_X4_redo : GoodIn wsX10_again wsX4_redo := goodIn_r _ [6, 7, 8, 9, 10, 11, 12, 13, 14, 15, 16, 5, 17, 18, 19, 20, 21, 22, 23, 24, 25, 26, 27, 28, 29, 30, 31, 32, 33, 34, 35, 36, 37, 38, 39, 40, 41, 42, 43, 44, 45, 46, 47, 48, 49, 50, 51, 52, 53, 54, 55, 56, 57, 58, 59, 60, 61, 62, 63, 64, 65, 66, 67, 68, 69, 70, 71, 72, 73, 74, 75, 76, 77, 78, 79, 80, 81, 82, 83, 84, 85, 86, 87, 88, 89, 90, 91, 92, 93, 94, 95, 96, 97, 98, 99, 100, 101, 102, 103, 104, 105, 106, 107, 108, 109, 110, 111, 112, 113, 114, 115, 116, 117, 118, 119, 120, 121, 122, 123, 124, 125, 126, 127, 128, 135, 136, 137, 138, 139, 140, 141, 142, 143, 144, 145, 146, 147, 148, 149, 150, 151, 152, 153, 154, 155, 156, 157, 158, 159, 160, 161, 162, 163, 164, 165, 166, 167, 168, 169, 170] (by decide +kernel) (by decide +kernel)
set_option maxRecDepth 20000 in
theorem gX10_again_X4_redo : GoodIn wsX10_again (wsV RX10 184 RX4 yX4_redo wsX4_redo) := goodIn_app (goodIn_of _ (by decide +kernel)) ggX10_again_X4_redo
theorem dX10_again_0 : decode cX10_again 0 = .ok (.aload_n 0, 1) := by decide +kernel
theorem dX10_again_1 : decode cX10_again 1 = .ok (.getfield 37, 3) := by decide +kernel
theorem dX10_again_4 : decode cX10_again 4 = .ok (.invokevirtual 184, 3) := by decide +kernel
theorem dX10_again_7 : decode cX10_again 7 = .ok (.ireturn, 1) := by decide +kernel
set_option maxRecDepth 20000 in
theorem ggX10_solve_X4_isThere : GoodIn wsX10_solve wsX4_isThere := goodIn_r _ [7, 8, 195, 196, 197, 198, 199] (by decide +kernel) (by decide +kernel)
set_option maxRecDepth 20000 in
theorem gX10_solve_X4_isThere : GoodIn wsX10_solve (wsV RX10 64 RX4 yX4_isThere wsX4_isThere) := goodIn_app (goodIn_of _ (by decide +kernel)) ggX10_solve_X4_isThere
theorem dX10_solve_0 : decode cX10_solve 0 = .ok (.aload_n 0, 1) := by decide +kernel
theorem dX10_solve_1 : decode cX10_solve 1 = .ok (.getfield 37, 3) := by decide +kernel
theorem dX10_solve_4 : decode cX10_solve 4 = .ok (.invokevirtual 64, 3) := by decide +kernel
theorem dX10_solve_7 : decode cX10_solve 7 = .ok (.ifCond .eq 13, 3) := by decide +kernel
theorem dX10_solve_20 : decode cX10_solve 20 = .ok (.iconst (-1), 1) := by decide +kernel
theorem dX10_solve_21 : decode cX10_solve 21 = .ok (.ireturn, 1) := by decide +kernel
set_option maxRecDepth 20000 in
theorem ggX10_worth_X7_worthOf : GoodIn wsX10_worth wsX7_worthOf := goodIn_r _ [7, 8, 9, 10, 11, 6, 12, 13, 14, 15, 16, 17, 18, 19, 20, 21, 22, 34, 35, 36, 37, 38, 39, 40, 41, 42, 43, 44, 45, 46, 47, 48, 49, 50, 51, 52, 53, 54, 55, 56, 57, 58, 59, 60, 61, 62, 63, 64, 65] (by decide +kernel) (by decide +kernel)
set_option maxRecDepth 20000 in
theorem gX10_worth_X7_worthOf : GoodIn wsX10_worth (wsV RX10 190 RX7 yX7_worthOf wsX7_worthOf) := goodIn_app (goodIn_of _ (by decide +kernel)) ggX10_worth_X7_worthOf
theorem dX10_worth_0 : decode cX10_worth 0 = .ok (.aload_n 0, 1) := by decide +kernel
theorem dX10_worth_1 : decode cX10_worth 1 = .ok (.getfield 53, 3) := by decide +kernel
theorem dX10_worth_4 : decode cX10_worth 4 = .ok (.aload_n 0, 1) := by decide +kernel
theorem dX10_worth_5 : decode cX10_worth 5 = .ok (.getfield 37, 3) := by decide +kernel
theorem dX10_worth_8 : decode cX10_worth 8 = .ok (.getfield 139, 3) := by decide +kernel
theorem dX10_worth_11 : decode cX10_worth 11 = .ok (.invokevirtual 190, 3) := by decide +kernel
theorem dX10_worth_14 : decode cX10_worth 14 = .ok (.ireturn, 1) := by decide +kernel
set_option maxRecDepth 20000 in
theorem ggX10_deep_X7_deepOf : GoodIn wsX10_deep wsX7_deepOf := goodIn_r _ [7, 8, 9, 10, 11, 6, 12, 13, 14, 15, 16, 17, 18, 19, 20, 21, 22, 34, 35, 36, 37, 38, 39, 40, 41, 42, 43, 44, 45, 46, 47, 48, 49, 50, 51, 52, 53, 54, 55, 56, 57, 58, 59, 60, 61, 62, 63, 64, 65] (by decide +kernel) (by decide +kernel)
set_option maxRecDepth 20000 in
theorem gX10_deep_X7_deepOf : GoodIn wsX10_deep (wsV RX10 194 RX7 yX7_deepOf wsX7_deepOf) := goodIn_app (goodIn_of _ (by decide +kernel)) ggX10_deep_X7_deepOf
theorem dX10_deep_0 : decode cX10_deep 0 = .ok (.aload_n 0, 1) := by decide +kernel
theorem dX10_deep_1 : decode cX10_deep 1 = .ok (.getfield 53, 3) := by decide +kernel
theorem dX10_deep_4 : decode cX10_deep 4 = .ok (.aload_n 0, 1) := by decide +kernel
theorem dX10_deep_5 : decode cX10_deep 5 = .ok (.getfield 37, 3) := by decide +kernel
theorem dX10_deep_8 : decode cX10_deep 8 = .ok (.getfield 139, 3) := by decide +kernel
theorem dX10_deep_11 : decode cX10_deep 11 = .ok (.invokevirtual 194, 3) := by decide +kernel
theorem dX10_deep_14 : decode cX10_deep 14 = .ok (.ireturn, 1) := by decide +kernel
set_option maxRecDepth 20000 in
theorem ggX10_best_X7_bestMove : GoodIn wsX10_best wsX7_bestMove := goodIn_r _ [7, 8, 9, 10, 11, 12, 13, 6, 14, 15, 16, 17, 18, 19, 20, 21, 22, 23, 24, 25, 26, 27, 28, 29, 30, 31, 32, 33, 34, 35, 36, 37, 38, 39, 40, 41, 42, 43, 44, 45, 46, 47, 48, 49, 50, 51, 52, 53, 54, 55, 56, 57, 58, 59, 60, 61, 62, 63, 64, 65, 66, 67, 68, 69, 70, 71, 72, 73, 74, 75, 76, 77, 78, 79, 80, 81, 82, 83, 84, 85, 86, 87, 88, 89, 90, 91, 92, 104, 105, 106, 107, 108, 109, 110, 111, 112, 113, 114, 115, 116, 117, 118, 119, 120, 121, 122, 123, 124, 125, 126, 127, 128, 129, 130, 131, 132, 133, 134, 135, 136, 137, 138, 139, 140] (by decide +kernel) (by decide +kernel)
set_option maxRecDepth 20000 in
theorem gX10_best_X7_bestMove : GoodIn wsX10_best (wsV RX10 197 RX7 yX7_bestMove wsX7_bestMove) := goodIn_app (goodIn_of _ (by decide +kernel)) ggX10_best_X7_bestMove
theorem dX10_best_0 : decode cX10_best 0 = .ok (.aload_n 0, 1) := by decide +kernel
theorem dX10_best_1 : decode cX10_best 1 = .ok (.getfield 53, 3) := by decide +kernel
theorem dX10_best_4 : decode cX10_best 4 = .ok (.aload_n 0, 1) := by decide +kernel
theorem dX10_best_5 : decode cX10_best 5 = .ok (.getfield 37, 3) := by decide +kernel
theorem dX10_best_8 : decode cX10_best 8 = .ok (.getfield 139, 3) := by decide +kernel
theorem dX10_best_11 : decode cX10_best 11 = .ok (.invokevirtual 197, 3) := by decide +kernel
theorem dX10_best_14 : decode cX10_best 14 = .ok (.ireturn, 1) := by decide +kernel
set_option maxRecDepth 20000 in
theorem ggX10_count_X7_tally : GoodIn wsX10_count wsX7_tally := goodIn_r _ [6, 7, 8, 9, 10, 11, 18, 19, 20, 21, 22, 23, 24, 25, 26, 27, 28, 29, 30, 31, 32] (by decide +kernel) (by decide +kernel)
set_option maxRecDepth 20000 in
theorem gX10_count_X7_tally : GoodIn wsX10_count (wsV RX10 200 RX7 yX7_tally wsX7_tally) := goodIn_app (goodIn_of _ (by decide +kernel)) ggX10_count_X7_tally
theorem dX10_count_0 : decode cX10_count 0 = .ok (.aload_n 0, 1) := by decide +kernel
theorem dX10_count_1 : decode cX10_count 1 = .ok (.getfield 53, 3) := by decide +kernel
theorem dX10_count_4 : decode cX10_count 4 = .ok (.iload_n 1, 1) := by decide +kernel
theorem dX10_count_5 : decode cX10_count 5 = .ok (.iload_n 2, 1) := by decide +kernel
theorem dX10_count_6 : decode cX10_count 6 = .ok (.invokevirtual 200, 3) := by decide +kernel
theorem dX10_count_9 : decode cX10_count 9 = .ok (.ireturn, 1) := by decide +kernel
set_option maxRecDepth 20000 in
theorem ggX10_most_X7_greatestDeep : GoodIn wsX10_most wsX7_greatestDeep := goodIn_r _ [6, 7, 8, 9, 10, 11, 18, 19, 20, 21, 22, 23, 24, 25, 26, 27, 28, 29, 30, 31, 32] (by decide +kernel) (by decide +kernel)
set_option maxRecDepth 20000 in
theorem gX10_most_X7_greatestDeep : GoodIn wsX10_most (wsV RX10 204 RX7 yX7_greatestDeep wsX7_greatestDeep) := goodIn_app (goodIn_of _ (by decide +kernel)) ggX10_most_X7_greatestDeep
theorem dX10_most_0 : decode cX10_most 0 = .ok (.aload_n 0, 1) := by decide +kernel
theorem dX10_most_1 : decode cX10_most 1 = .ok (.getfield 53, 3) := by decide +kernel
theorem dX10_most_4 : decode cX10_most 4 = .ok (.iload_n 1, 1) := by decide +kernel
theorem dX10_most_5 : decode cX10_most 5 = .ok (.invokevirtual 204, 3) := by decide +kernel
theorem dX10_most_8 : decode cX10_most 8 = .ok (.ireturn, 1) := by decide +kernel
set_option maxRecDepth 20000 in
theorem ggX10_stand_X7_worthAt : GoodIn wsX10_stand wsX7_worthAt := goodIn_r _ [6, 7, 8, 9, 10, 11, 12, 19, 20, 21, 22, 23, 24, 25, 26, 27, 28, 29, 30, 31, 32, 33] (by decide +kernel) (by decide +kernel)
set_option maxRecDepth 20000 in
theorem gX10_stand_X7_worthAt : GoodIn wsX10_stand (wsV RX10 207 RX7 yX7_worthAt wsX7_worthAt) := goodIn_app (goodIn_of _ (by decide +kernel)) ggX10_stand_X7_worthAt
theorem dX10_stand_0 : decode cX10_stand 0 = .ok (.aload_n 0, 1) := by decide +kernel
theorem dX10_stand_1 : decode cX10_stand 1 = .ok (.getfield 53, 3) := by decide +kernel
theorem dX10_stand_4 : decode cX10_stand 4 = .ok (.iload_n 1, 1) := by decide +kernel
theorem dX10_stand_5 : decode cX10_stand 5 = .ok (.iload_n 2, 1) := by decide +kernel
theorem dX10_stand_6 : decode cX10_stand 6 = .ok (.invokevirtual 207, 3) := by decide +kernel
theorem dX10_stand_9 : decode cX10_stand 9 = .ok (.ireturn, 1) := by decide +kernel
set_option maxRecDepth 20000 in
theorem ggX10_endPlay_X4_finish : GoodIn wsX10_endPlay wsX4_finish := goodIn_r _ [7, 8, 9, 10, 11, 12, 13, 14, 15, 16, 17, 18, 19, 20, 21, 22, 23, 24, 25, 26, 27, 28, 29, 30, 31, 32, 33, 34, 35, 36, 37, 50, 51, 52, 53, 54, 55, 56, 57, 58, 59, 60, 61, 62, 63, 64, 65, 66, 67, 68, 69, 70, 71, 72, 73, 74, 75] (by decide +kernel) (by decide +kernel)
set_option maxRecDepth 20000 in
theorem gX10_endPlay_X4_finish : GoodIn wsX10_endPlay (wsV RX10 210 RX4 yX4_finish wsX4_finish) := goodIn_app (goodIn_of _ (by decide +kernel)) ggX10_endPlay_X4_finish
set_option maxRecDepth 20000 in
theorem ggX10_endPlay_X7_forget : GoodIn wsX10_endPlay wsX7_forget := goodIn_r _ [42, 43, 76, 77, 78, 79, 80, 81, 82, 83, 84, 85, 86, 87, 88, 89, 90] (by decide +kernel) (by decide +kernel)
set_option maxRecDepth 20000 in
theorem gX10_endPlay_X7_forget : GoodIn wsX10_endPlay (wsV RX10 83 RX7 yX7_forget wsX7_forget) := goodIn_app (goodIn_of _ (by decide +kernel)) ggX10_endPlay_X7_forget
theorem dX10_endPlay_0 : decode cX10_endPlay 0 = .ok (.aload_n 0, 1) := by decide +kernel
theorem dX10_endPlay_1 : decode cX10_endPlay 1 = .ok (.getfield 37, 3) := by decide +kernel
theorem dX10_endPlay_4 : decode cX10_endPlay 4 = .ok (.invokevirtual 210, 3) := by decide +kernel
theorem dX10_endPlay_7 : decode cX10_endPlay 7 = .ok (.aload_n 0, 1) := by decide +kernel
theorem dX10_endPlay_8 : decode cX10_endPlay 8 = .ok (.getfield 53, 3) := by decide +kernel
theorem dX10_endPlay_11 : decode cX10_endPlay 11 = .ok (.invokevirtual 83, 3) := by decide +kernel
theorem dX10_endPlay_14 : decode cX10_endPlay 14 = .ok (.return_, 1) := by decide +kernel
theorem dX10_isSide_0 : decode cX10_isSide 0 = .ok (.iload_n 0, 1) := by decide +kernel
theorem dX10_isSide_1 : decode cX10_isSide 1 = .ok (.ifCond .eq 8, 3) := by decide +kernel
theorem dX10_isSide_4 : decode cX10_isSide 4 = .ok (.iload_n 0, 1) := by decide +kernel
theorem dX10_isSide_5 : decode cX10_isSide 5 = .ok (.iconst 1, 1) := by decide +kernel
theorem dX10_isSide_6 : decode cX10_isSide 6 = .ok (.if_icmp .ne 7, 3) := by decide +kernel
theorem dX10_isSide_9 : decode cX10_isSide 9 = .ok (.iconst 1, 1) := by decide +kernel
theorem dX10_isSide_10 : decode cX10_isSide 10 = .ok (.goto 4, 3) := by decide +kernel
theorem dX10_isSide_13 : decode cX10_isSide 13 = .ok (.iconst 0, 1) := by decide +kernel
theorem dX10_isSide_14 : decode cX10_isSide 14 = .ok (.ireturn, 1) := by decide +kernel
theorem dX10_kindOfSign_0 : decode cX10_kindOfSign 0 = .ok (.iload_n 0, 1) := by decide +kernel
theorem dX10_kindOfSign_1 : decode cX10_kindOfSign 1 = .ok (.bipush 7, 2) := by decide +kernel
theorem dX10_kindOfSign_3 : decode cX10_kindOfSign 3 = .ok (.if_icmp .ne 5, 3) := by decide +kernel
theorem dX10_kindOfSign_8 : decode cX10_kindOfSign 8 = .ok (.iload_n 0, 1) := by decide +kernel
theorem dX10_kindOfSign_9 : decode cX10_kindOfSign 9 = .ok (.iconst 1, 1) := by decide +kernel
theorem dX10_kindOfSign_10 : decode cX10_kindOfSign 10 = .ok (.if_icmp .lt 12, 3) := by decide +kernel
theorem dX10_kindOfSign_22 : decode cX10_kindOfSign 22 = .ok (.iconst 0, 1) := by decide +kernel
theorem dX10_kindOfSign_23 : decode cX10_kindOfSign 23 = .ok (.ireturn, 1) := by decide +kernel
theorem dX10_typeOfSign_0 : decode cX10_typeOfSign 0 = .ok (.iload_n 0, 1) := by decide +kernel
theorem dX10_typeOfSign_1 : decode cX10_typeOfSign 1 = .ok (.iconst 5, 1) := by decide +kernel
theorem dX10_typeOfSign_2 : decode cX10_typeOfSign 2 = .ok (.if_icmp .eq 9, 3) := by decide +kernel
theorem dX10_typeOfSign_5 : decode cX10_typeOfSign 5 = .ok (.iload_n 0, 1) := by decide +kernel
theorem dX10_typeOfSign_6 : decode cX10_typeOfSign 6 = .ok (.bipush 7, 2) := by decide +kernel
theorem dX10_typeOfSign_8 : decode cX10_typeOfSign 8 = .ok (.if_icmp .ne 5, 3) := by decide +kernel
theorem dX10_typeOfSign_13 : decode cX10_typeOfSign 13 = .ok (.iload_n 0, 1) := by decide +kernel
theorem dX10_typeOfSign_14 : decode cX10_typeOfSign 14 = .ok (.bipush 6, 2) := by decide +kernel
theorem dX10_typeOfSign_16 : decode cX10_typeOfSign 16 = .ok (.if_icmp .ne 7, 3) := by decide +kernel
theorem dX10_typeOfSign_23 : decode cX10_typeOfSign 23 = .ok (.iconst 0, 1) := by decide +kernel
theorem dX10_typeOfSign_24 : decode cX10_typeOfSign 24 = .ok (.ireturn, 1) := by decide +kernel
theorem dX11_init_0 : decode cX11_init 0 = .ok (.aload_n 0, 1) := by decide +kernel
theorem dX11_init_1 : decode cX11_init 1 = .ok (.invokespecial 1, 3) := by decide +kernel
theorem dX11_init_4 : decode cX11_init 4 = .ok (.aload_n 0, 1) := by decide +kernel
theorem dX11_init_5 : decode cX11_init 5 = .ok (.iconst 3, 1) := by decide +kernel
theorem dX11_init_6 : decode cX11_init 6 = .ok (.putfield 7, 3) := by decide +kernel
theorem dX11_init_9 : decode cX11_init 9 = .ok (.aload_n 0, 1) := by decide +kernel
theorem dX11_init_10 : decode cX11_init 10 = .ok (.iconst 3, 1) := by decide +kernel
theorem dX11_init_11 : decode cX11_init 11 = .ok (.putfield 13, 3) := by decide +kernel
theorem dX11_init_14 : decode cX11_init 14 = .ok (.aload_n 0, 1) := by decide +kernel
theorem dX11_init_15 : decode cX11_init 15 = .ok (.bipush 81, 2) := by decide +kernel
theorem dX11_init_17 : decode cX11_init 17 = .ok (.newarray .int, 2) := by decide +kernel
theorem dX11_init_19 : decode cX11_init 19 = .ok (.putfield 16, 3) := by decide +kernel
theorem dX11_init_22 : decode cX11_init 22 = .ok (.aload_n 0, 1) := by decide +kernel
theorem dX11_init_23 : decode cX11_init 23 = .ok (.iconst 4, 1) := by decide +kernel
theorem dX11_init_24 : decode cX11_init 24 = .ok (.putfield 20, 3) := by decide +kernel
theorem dX11_init_27 : decode cX11_init 27 = .ok (.aload_n 0, 1) := by decide +kernel
theorem dX11_init_28 : decode cX11_init 28 = .ok (.iconst 1, 1) := by decide +kernel
theorem dX11_init_29 : decode cX11_init 29 = .ok (.putfield 23, 3) := by decide +kernel
theorem dX11_init_32 : decode cX11_init 32 = .ok (.aload_n 0, 1) := by decide +kernel
theorem dX11_init_33 : decode cX11_init 33 = .ok (.bipush 40, 2) := by decide +kernel
theorem dX11_init_35 : decode cX11_init 35 = .ok (.newarray .int, 2) := by decide +kernel
theorem dX11_init_37 : decode cX11_init 37 = .ok (.putfield 27, 3) := by decide +kernel
theorem dX11_init_40 : decode cX11_init 40 = .ok (.aload_n 0, 1) := by decide +kernel
theorem dX11_init_41 : decode cX11_init 41 = .ok (.bipush 40, 2) := by decide +kernel
theorem dX11_init_43 : decode cX11_init 43 = .ok (.newarray .int, 2) := by decide +kernel
theorem dX11_init_45 : decode cX11_init 45 = .ok (.putfield 30, 3) := by decide +kernel
theorem dX11_init_48 : decode cX11_init 48 = .ok (.aload_n 0, 1) := by decide +kernel
theorem dX11_init_49 : decode cX11_init 49 = .ok (.bipush 81, 2) := by decide +kernel
theorem dX11_init_51 : decode cX11_init 51 = .ok (.newarray .int, 2) := by decide +kernel
theorem dX11_init_53 : decode cX11_init 53 = .ok (.putfield 33, 3) := by decide +kernel
theorem dX11_init_56 : decode cX11_init 56 = .ok (.aload_n 0, 1) := by decide +kernel
theorem dX11_init_57 : decode cX11_init 57 = .ok (.bipush 81, 2) := by decide +kernel
theorem dX11_init_59 : decode cX11_init 59 = .ok (.newarray .int, 2) := by decide +kernel
theorem dX11_init_61 : decode cX11_init 61 = .ok (.putfield 36, 3) := by decide +kernel
theorem dX11_init_64 : decode cX11_init 64 = .ok (.aload_n 0, 1) := by decide +kernel
theorem dX11_init_65 : decode cX11_init 65 = .ok (.sipush 4200, 3) := by decide +kernel
theorem dX11_init_68 : decode cX11_init 68 = .ok (.newarray .int, 2) := by decide +kernel
theorem dX11_init_70 : decode cX11_init 70 = .ok (.putfield 39, 3) := by decide +kernel
theorem dX11_init_73 : decode cX11_init 73 = .ok (.aload_n 0, 1) := by decide +kernel
theorem dX11_init_74 : decode cX11_init 74 = .ok (.ldc 42, 2) := by decide +kernel
theorem dX11_init_76 : decode cX11_init 76 = .ok (.newarray .byte, 2) := by decide +kernel
theorem dX11_init_78 : decode cX11_init 78 = .ok (.putfield 43, 3) := by decide +kernel
theorem dX11_init_81 : decode cX11_init 81 = .ok (.aload_n 0, 1) := by decide +kernel
theorem dX11_init_82 : decode cX11_init 82 = .ok (.bipush 40, 2) := by decide +kernel
theorem dX11_init_84 : decode cX11_init 84 = .ok (.newarray .boolean, 2) := by decide +kernel
theorem dX11_init_86 : decode cX11_init 86 = .ok (.putfield 47, 3) := by decide +kernel
theorem dX11_init_89 : decode cX11_init 89 = .ok (.aload_n 0, 1) := by decide +kernel
theorem dX11_init_90 : decode cX11_init 90 = .ok (.bipush 81, 2) := by decide +kernel
theorem dX11_init_92 : decode cX11_init 92 = .ok (.newarray .boolean, 2) := by decide +kernel
theorem dX11_init_94 : decode cX11_init 94 = .ok (.putfield 51, 3) := by decide +kernel
theorem dX11_init_97 : decode cX11_init 97 = .ok (.aload_n 0, 1) := by decide +kernel
theorem dX11_init_98 : decode cX11_init 98 = .ok (.bipush 81, 2) := by decide +kernel
theorem dX11_init_100 : decode cX11_init 100 = .ok (.newarray .int, 2) := by decide +kernel
theorem dX11_init_102 : decode cX11_init 102 = .ok (.putfield 54, 3) := by decide +kernel
theorem dX11_init_105 : decode cX11_init 105 = .ok (.aload_n 0, 1) := by decide +kernel
theorem dX11_init_106 : decode cX11_init 106 = .ok (.sipush 10000, 3) := by decide +kernel
theorem dX11_init_109 : decode cX11_init 109 = .ok (.newarray .int, 2) := by decide +kernel
theorem dX11_init_111 : decode cX11_init 111 = .ok (.putfield 57, 3) := by decide +kernel
theorem dX11_init_114 : decode cX11_init 114 = .ok (.aload_n 0, 1) := by decide +kernel
theorem dX11_init_115 : decode cX11_init 115 = .ok (.sipush 10000, 3) := by decide +kernel
theorem dX11_init_118 : decode cX11_init 118 = .ok (.newarray .int, 2) := by decide +kernel
theorem dX11_init_120 : decode cX11_init 120 = .ok (.putfield 60, 3) := by decide +kernel
theorem dX11_init_123 : decode cX11_init 123 = .ok (.aload_n 0, 1) := by decide +kernel
theorem dX11_init_124 : decode cX11_init 124 = .ok (.sipush 10000, 3) := by decide +kernel
theorem dX11_init_127 : decode cX11_init 127 = .ok (.newarray .int, 2) := by decide +kernel
theorem dX11_init_129 : decode cX11_init 129 = .ok (.putfield 63, 3) := by decide +kernel
theorem dX11_init_132 : decode cX11_init 132 = .ok (.aload_n 0, 1) := by decide +kernel
theorem dX11_init_133 : decode cX11_init 133 = .ok (.sipush 10000, 3) := by decide +kernel
theorem dX11_init_136 : decode cX11_init 136 = .ok (.newarray .int, 2) := by decide +kernel
theorem dX11_init_138 : decode cX11_init 138 = .ok (.putfield 66, 3) := by decide +kernel
theorem dX11_init_141 : decode cX11_init 141 = .ok (.return_, 1) := by decide +kernel
theorem dX11_isIn_0 : decode cX11_isIn 0 = .ok (.iload_n 0, 1) := by decide +kernel
theorem dX11_isIn_1 : decode cX11_isIn 1 = .ok (.iload_n 1, 1) := by decide +kernel
theorem dX11_isIn_2 : decode cX11_isIn 2 = .ok (.if_icmp .lt 12, 3) := by decide +kernel
theorem dX11_isIn_5 : decode cX11_isIn 5 = .ok (.iload_n 0, 1) := by decide +kernel
theorem dX11_isIn_6 : decode cX11_isIn 6 = .ok (.iload_n 2, 1) := by decide +kernel
theorem dX11_isIn_7 : decode cX11_isIn 7 = .ok (.if_icmp .gt 7, 3) := by decide +kernel
theorem dX11_isIn_10 : decode cX11_isIn 10 = .ok (.iconst 1, 1) := by decide +kernel
theorem dX11_isIn_11 : decode cX11_isIn 11 = .ok (.goto 4, 3) := by decide +kernel
theorem dX11_isIn_14 : decode cX11_isIn 14 = .ok (.iconst 0, 1) := by decide +kernel
theorem dX11_isIn_15 : decode cX11_isIn 15 = .ok (.ireturn, 1) := by decide +kernel
theorem dX11_fields_0 : decode cX11_fields 0 = .ok (.aload_n 0, 1) := by decide +kernel
theorem dX11_fields_1 : decode cX11_fields 1 = .ok (.getfield 7, 3) := by decide +kernel
theorem dX11_fields_4 : decode cX11_fields 4 = .ok (.aload_n 0, 1) := by decide +kernel
theorem dX11_fields_5 : decode cX11_fields 5 = .ok (.getfield 13, 3) := by decide +kernel
theorem dX11_fields_8 : decode cX11_fields 8 = .ok (.imul, 1) := by decide +kernel
theorem dX11_fields_9 : decode cX11_fields 9 = .ok (.ireturn, 1) := by decide +kernel
set_option maxRecDepth 20000 in
theorem ggX11_board_X11_isIn : GoodIn wsX11_board wsX11_isIn := goodIn_r _ [9] (by decide +kernel) (by decide +kernel)
set_option maxRecDepth 20000 in
theorem gX11_board_X11_isIn : GoodIn wsX11_board (va_wsS RX11 69 yX11_isIn wsX11_isIn) := goodIn_app (goodIn_of _ (by decide +kernel)) ggX11_board_X11_isIn
theorem dX11_board_0 : decode cX11_board 0 = .ok (.iload_n 1, 1) := by decide +kernel
theorem dX11_board_1 : decode cX11_board 1 = .ok (.iconst 2, 1) := by decide +kernel
theorem dX11_board_2 : decode cX11_board 2 = .ok (.bipush 9, 2) := by decide +kernel
theorem dX11_board_4 : decode cX11_board 4 = .ok (.invokestatic 69, 3) := by decide +kernel
theorem dX11_board_7 : decode cX11_board 7 = .ok (.ifCond .eq 13, 3) := by decide +kernel
theorem dX11_board_10 : decode cX11_board 10 = .ok (.iload_n 2, 1) := by decide +kernel
theorem dX11_board_11 : decode cX11_board 11 = .ok (.iconst 2, 1) := by decide +kernel
theorem dX11_board_12 : decode cX11_board 12 = .ok (.bipush 9, 2) := by decide +kernel
theorem dX11_board_14 : decode cX11_board 14 = .ok (.invokestatic 69, 3) := by decide +kernel
theorem dX11_board_17 : decode cX11_board 17 = .ok (.ifCond .ne 5, 3) := by decide +kernel
theorem dX11_board_20 : decode cX11_board 20 = .ok (.iconst 0, 1) := by decide +kernel
theorem dX11_board_21 : decode cX11_board 21 = .ok (.ireturn, 1) := by decide +kernel
theorem dX11_board_22 : decode cX11_board 22 = .ok (.aload_n 0, 1) := by decide +kernel
theorem dX11_board_23 : decode cX11_board 23 = .ok (.iload_n 1, 1) := by decide +kernel
theorem dX11_board_24 : decode cX11_board 24 = .ok (.putfield 7, 3) := by decide +kernel
theorem dX11_board_27 : decode cX11_board 27 = .ok (.aload_n 0, 1) := by decide +kernel
theorem dX11_board_28 : decode cX11_board 28 = .ok (.iload_n 2, 1) := by decide +kernel
theorem dX11_board_29 : decode cX11_board 29 = .ok (.putfield 13, 3) := by decide +kernel
theorem dX11_board_32 : decode cX11_board 32 = .ok (.iconst 0, 1) := by decide +kernel
theorem dX11_board_33 : decode cX11_board 33 = .ok (.istore_n 3, 1) := by decide +kernel
theorem dX11_board_34 : decode cX11_board 34 = .ok (.iload_n 3, 1) := by decide +kernel
theorem dX11_board_35 : decode cX11_board 35 = .ok (.bipush 81, 2) := by decide +kernel
theorem dX11_board_37 : decode cX11_board 37 = .ok (.if_icmp .ge 16, 3) := by decide +kernel
theorem dX11_board_40 : decode cX11_board 40 = .ok (.aload_n 0, 1) := by decide +kernel
theorem dX11_board_41 : decode cX11_board 41 = .ok (.getfield 16, 3) := by decide +kernel
theorem dX11_board_44 : decode cX11_board 44 = .ok (.iload_n 3, 1) := by decide +kernel
theorem dX11_board_45 : decode cX11_board 45 = .ok (.iconst 0, 1) := by decide +kernel
theorem dX11_board_46 : decode cX11_board 46 = .ok (.iastore, 1) := by decide +kernel
theorem dX11_board_47 : decode cX11_board 47 = .ok (.iinc 3 1, 3) := by decide +kernel
theorem dX11_board_50 : decode cX11_board 50 = .ok (.goto (-16), 3) := by decide +kernel
theorem dX11_board_53 : decode cX11_board 53 = .ok (.aload_n 0, 1) := by decide +kernel
theorem dX11_board_54 : decode cX11_board 54 = .ok (.iconst 0, 1) := by decide +kernel
theorem dX11_board_55 : decode cX11_board 55 = .ok (.putfield 73, 3) := by decide +kernel
theorem dX11_board_58 : decode cX11_board 58 = .ok (.aload_n 0, 1) := by decide +kernel
theorem dX11_board_59 : decode cX11_board 59 = .ok (.iconst 0, 1) := by decide +kernel
theorem dX11_board_60 : decode cX11_board 60 = .ok (.putfield 76, 3) := by decide +kernel
theorem dX11_board_63 : decode cX11_board 63 = .ok (.iconst 1, 1) := by decide +kernel
theorem dX11_board_64 : decode cX11_board 64 = .ok (.ireturn, 1) := by decide +kernel
set_option maxRecDepth 20000 in
theorem ggX11_line_X11_isIn : GoodIn wsX11_line wsX11_isIn := goodIn_r _ [8] (by decide +kernel) (by decide +kernel)
set_option maxRecDepth 20000 in
theorem gX11_line_X11_isIn : GoodIn wsX11_line (va_wsS RX11 69 yX11_isIn wsX11_isIn) := goodIn_app (goodIn_of _ (by decide +kernel)) ggX11_line_X11_isIn
theorem dX11_line_0 : decode cX11_line 0 = .ok (.aload_n 0, 1) := by decide +kernel
theorem dX11_line_1 : decode cX11_line 1 = .ok (.getfield 73, 3) := by decide +kernel
theorem dX11_line_4 : decode cX11_line 4 = .ok (.ifCond .gt 29, 3) := by decide +kernel
theorem dX11_line_7 : decode cX11_line 7 = .ok (.iload_n 1, 1) := by decide +kernel
theorem dX11_line_8 : decode cX11_line 8 = .ok (.iconst 0, 1) := by decide +kernel
theorem dX11_line_9 : decode cX11_line 9 = .ok (.aload_n 0, 1) := by decide +kernel
theorem dX11_line_10 : decode cX11_line 10 = .ok (.getfield 7, 3) := by decide +kernel
theorem dX11_line_13 : decode cX11_line 13 = .ok (.iconst 1, 1) := by decide +kernel
theorem dX11_line_14 : decode cX11_line 14 = .ok (.isub, 1) := by decide +kernel
theorem dX11_line_15 : decode cX11_line 15 = .ok (.invokestatic 69, 3) := by decide +kernel
theorem dX11_line_18 : decode cX11_line 18 = .ok (.ifCond .eq 15, 3) := by decide +kernel
theorem dX11_line_21 : decode cX11_line 21 = .ok (.iload_n 2, 1) := by decide +kernel
theorem dX11_line_22 : decode cX11_line 22 = .ok (.iconst 0, 1) := by decide +kernel
theorem dX11_line_23 : decode cX11_line 23 = .ok (.aload_n 0, 1) := by decide +kernel
theorem dX11_line_24 : decode cX11_line 24 = .ok (.getfield 13, 3) := by decide +kernel
theorem dX11_line_27 : decode cX11_line 27 = .ok (.invokestatic 69, 3) := by decide +kernel
theorem dX11_line_30 : decode cX11_line 30 = .ok (.ifCond .ne 5, 3) := by decide +kernel
theorem dX11_line_33 : decode cX11_line 33 = .ok (.iconst 0, 1) := by decide +kernel
theorem dX11_line_34 : decode cX11_line 34 = .ok (.ireturn, 1) := by decide +kernel
theorem dX11_line_35 : decode cX11_line 35 = .ok (.iconst 0, 1) := by decide +kernel
theorem dX11_line_36 : decode cX11_line 36 = .ok (.istore 4, 2) := by decide +kernel
theorem dX11_line_38 : decode cX11_line 38 = .ok (.iload 4, 2) := by decide +kernel
theorem dX11_line_40 : decode cX11_line 40 = .ok (.aload_n 0, 1) := by decide +kernel
theorem dX11_line_41 : decode cX11_line 41 = .ok (.getfield 13, 3) := by decide +kernel
theorem dX11_line_44 : decode cX11_line 44 = .ok (.if_icmp .ge 42, 3) := by decide +kernel
theorem dX11_line_47 : decode cX11_line 47 = .ok (.aload_n 0, 1) := by decide +kernel
theorem dX11_line_48 : decode cX11_line 48 = .ok (.getfield 16, 3) := by decide +kernel
theorem dX11_line_51 : decode cX11_line 51 = .ok (.aload_n 0, 1) := by decide +kernel
theorem dX11_line_52 : decode cX11_line 52 = .ok (.getfield 13, 3) := by decide +kernel
theorem dX11_line_55 : decode cX11_line 55 = .ok (.iload_n 1, 1) := by decide +kernel
theorem dX11_line_56 : decode cX11_line 56 = .ok (.imul, 1) := by decide +kernel
theorem dX11_line_57 : decode cX11_line 57 = .ok (.iload 4, 2) := by decide +kernel
theorem dX11_line_59 : decode cX11_line 59 = .ok (.iadd, 1) := by decide +kernel
theorem dX11_line_60 : decode cX11_line 60 = .ok (.iload 4, 2) := by decide +kernel
theorem dX11_line_62 : decode cX11_line 62 = .ok (.iload_n 2, 1) := by decide +kernel
theorem dX11_line_63 : decode cX11_line 63 = .ok (.if_icmp .ge 15, 3) := by decide +kernel
theorem dX11_line_66 : decode cX11_line 66 = .ok (.iload_n 3, 1) := by decide +kernel
theorem dX11_line_67 : decode cX11_line 67 = .ok (.iconst 3, 1) := by decide +kernel
theorem dX11_line_68 : decode cX11_line 68 = .ok (.iload 4, 2) := by decide +kernel
theorem dX11_line_70 : decode cX11_line 70 = .ok (.imul, 1) := by decide +kernel
theorem dX11_line_71 : decode cX11_line 71 = .ok (.ishr, 1) := by decide +kernel
theorem dX11_line_72 : decode cX11_line 72 = .ok (.bipush 7, 2) := by decide +kernel
theorem dX11_line_74 : decode cX11_line 74 = .ok (.iand, 1) := by decide +kernel
theorem dX11_line_75 : decode cX11_line 75 = .ok (.goto 4, 3) := by decide +kernel
theorem dX11_line_78 : decode cX11_line 78 = .ok (.iconst 0, 1) := by decide +kernel
theorem dX11_line_79 : decode cX11_line 79 = .ok (.iastore, 1) := by decide +kernel
theorem dX11_line_80 : decode cX11_line 80 = .ok (.iinc 4 1, 3) := by decide +kernel
theorem dX11_line_83 : decode cX11_line 83 = .ok (.goto (-45), 3) := by decide +kernel
theorem dX11_line_86 : decode cX11_line 86 = .ok (.iconst 1, 1) := by decide +kernel
theorem dX11_line_87 : decode cX11_line 87 = .ok (.ireturn, 1) := by decide +kernel
set_option maxRecDepth 20000 in
theorem ggX11_law_X11_isIn : GoodIn wsX11_law wsX11_isIn := goodIn_r _ [10] (by decide +kernel) (by decide +kernel)
set_option maxRecDepth 20000 in
theorem gX11_law_X11_isIn : GoodIn wsX11_law (va_wsS RX11 69 yX11_isIn wsX11_isIn) := goodIn_app (goodIn_of _ (by decide +kernel)) ggX11_law_X11_isIn
theorem dX11_law_0 : decode cX11_law 0 = .ok (.aload_n 0, 1) := by decide +kernel
theorem dX11_law_1 : decode cX11_law 1 = .ok (.getfield 73, 3) := by decide +kernel
theorem dX11_law_4 : decode cX11_law 4 = .ok (.ifCond .gt 43, 3) := by decide +kernel
theorem dX11_law_7 : decode cX11_law 7 = .ok (.iload_n 1, 1) := by decide +kernel
theorem dX11_law_8 : decode cX11_law 8 = .ok (.iconst 0, 1) := by decide +kernel
theorem dX11_law_9 : decode cX11_law 9 = .ok (.iconst 1, 1) := by decide +kernel
theorem dX11_law_10 : decode cX11_law 10 = .ok (.invokestatic 69, 3) := by decide +kernel
theorem dX11_law_13 : decode cX11_law 13 = .ok (.ifCond .eq 34, 3) := by decide +kernel
theorem dX11_law_16 : decode cX11_law 16 = .ok (.iload_n 2, 1) := by decide +kernel
theorem dX11_law_17 : decode cX11_law 17 = .ok (.iconst 2, 1) := by decide +kernel
theorem dX11_law_18 : decode cX11_law 18 = .ok (.if_icmp .eq 8, 3) := by decide +kernel
theorem dX11_law_21 : decode cX11_law 21 = .ok (.iload_n 2, 1) := by decide +kernel
theorem dX11_law_22 : decode cX11_law 22 = .ok (.iconst 4, 1) := by decide +kernel
theorem dX11_law_23 : decode cX11_law 23 = .ok (.if_icmp .ne 24, 3) := by decide +kernel
theorem dX11_law_26 : decode cX11_law 26 = .ok (.iload 4, 2) := by decide +kernel
theorem dX11_law_28 : decode cX11_law 28 = .ok (.iconst 0, 1) := by decide +kernel
theorem dX11_law_29 : decode cX11_law 29 = .ok (.bipush 8, 2) := by decide +kernel
theorem dX11_law_31 : decode cX11_law 31 = .ok (.invokestatic 69, 3) := by decide +kernel
theorem dX11_law_34 : decode cX11_law 34 = .ok (.ifCond .eq 13, 3) := by decide +kernel
theorem dX11_law_37 : decode cX11_law 37 = .ok (.iload 5, 2) := by decide +kernel
theorem dX11_law_39 : decode cX11_law 39 = .ok (.iconst 0, 1) := by decide +kernel
theorem dX11_law_40 : decode cX11_law 40 = .ok (.iconst 1, 1) := by decide +kernel
theorem dX11_law_41 : decode cX11_law 41 = .ok (.invokestatic 69, 3) := by decide +kernel
theorem dX11_law_44 : decode cX11_law 44 = .ok (.ifCond .ne 5, 3) := by decide +kernel
theorem dX11_law_47 : decode cX11_law 47 = .ok (.iconst 0, 1) := by decide +kernel
theorem dX11_law_48 : decode cX11_law 48 = .ok (.ireturn, 1) := by decide +kernel
theorem dX11_law_49 : decode cX11_law 49 = .ok (.aload_n 0, 1) := by decide +kernel
theorem dX11_law_50 : decode cX11_law 50 = .ok (.iload_n 1, 1) := by decide +kernel
theorem dX11_law_51 : decode cX11_law 51 = .ok (.putfield 79, 3) := by decide +kernel
theorem dX11_law_54 : decode cX11_law 54 = .ok (.aload_n 0, 1) := by decide +kernel
theorem dX11_law_55 : decode cX11_law 55 = .ok (.iload_n 2, 1) := by decide +kernel
theorem dX11_law_56 : decode cX11_law 56 = .ok (.putfield 20, 3) := by decide +kernel
theorem dX11_law_59 : decode cX11_law 59 = .ok (.aload_n 0, 1) := by decide +kernel
theorem dX11_law_60 : decode cX11_law 60 = .ok (.iload_n 3, 1) := by decide +kernel
theorem dX11_law_61 : decode cX11_law 61 = .ok (.putfield 23, 3) := by decide +kernel
theorem dX11_law_64 : decode cX11_law 64 = .ok (.aload_n 0, 1) := by decide +kernel
theorem dX11_law_65 : decode cX11_law 65 = .ok (.iload 4, 2) := by decide +kernel
theorem dX11_law_67 : decode cX11_law 67 = .ok (.putfield 82, 3) := by decide +kernel
theorem dX11_law_70 : decode cX11_law 70 = .ok (.aload_n 0, 1) := by decide +kernel
theorem dX11_law_71 : decode cX11_law 71 = .ok (.iload 5, 2) := by decide +kernel
theorem dX11_law_73 : decode cX11_law 73 = .ok (.putfield 85, 3) := by decide +kernel
theorem dX11_law_76 : decode cX11_law 76 = .ok (.iconst 1, 1) := by decide +kernel
theorem dX11_law_77 : decode cX11_law 77 = .ok (.ireturn, 1) := by decide +kernel
set_option maxRecDepth 20000 in
theorem ggX11_begin_X11_isIn : GoodIn wsX11_begin wsX11_isIn := goodIn_r _ [17] (by decide +kernel) (by decide +kernel)
set_option maxRecDepth 20000 in
theorem gX11_begin_X11_isIn : GoodIn wsX11_begin (va_wsS RX11 69 yX11_isIn wsX11_isIn) := goodIn_app (goodIn_of _ (by decide +kernel)) ggX11_begin_X11_isIn
set_option maxRecDepth 20000 in
theorem ggX11_begin_X11_fields : GoodIn wsX11_begin wsX11_fields := goodIn_r _ [21, 22, 23, 63, 64, 65, 66, 67, 68, 69, 70, 71, 72, 73, 74, 75, 76, 77, 78, 79, 80, 81, 82, 83, 84, 85, 86, 87, 88, 89, 90, 91] (by decide +kernel) (by decide +kernel)
set_option maxRecDepth 20000 in
theorem gX11_begin_X11_fields : GoodIn wsX11_begin (wsV RX11 88 RX11 yX11_fields wsX11_fields) := goodIn_app (goodIn_of _ (by decide +kernel)) ggX11_begin_X11_fields
theorem dX11_begin_0 : decode cX11_begin 0 = .ok (.aload_n 0, 1) := by decide +kernel
theorem dX11_begin_1 : decode cX11_begin 1 = .ok (.getfield 73, 3) := by decide +kernel
theorem dX11_begin_4 : decode cX11_begin 4 = .ok (.ifCond .gt 12, 3) := by decide +kernel
theorem dX11_begin_7 : decode cX11_begin 7 = .ok (.iload_n 1, 1) := by decide +kernel
theorem dX11_begin_8 : decode cX11_begin 8 = .ok (.iconst 0, 1) := by decide +kernel
theorem dX11_begin_9 : decode cX11_begin 9 = .ok (.iconst 1, 1) := by decide +kernel
theorem dX11_begin_10 : decode cX11_begin 10 = .ok (.invokestatic 69, 3) := by decide +kernel
theorem dX11_begin_13 : decode cX11_begin 13 = .ok (.ifCond .ne 5, 3) := by decide +kernel
theorem dX11_begin_16 : decode cX11_begin 16 = .ok (.iconst (-1), 1) := by decide +kernel
theorem dX11_begin_17 : decode cX11_begin 17 = .ok (.ireturn, 1) := by decide +kernel
theorem dX11_begin_18 : decode cX11_begin 18 = .ok (.iconst 0, 1) := by decide +kernel
theorem dX11_begin_19 : decode cX11_begin 19 = .ok (.istore_n 2, 1) := by decide +kernel
theorem dX11_begin_20 : decode cX11_begin 20 = .ok (.iconst 0, 1) := by decide +kernel
theorem dX11_begin_21 : decode cX11_begin 21 = .ok (.istore_n 3, 1) := by decide +kernel
theorem dX11_begin_22 : decode cX11_begin 22 = .ok (.iconst 0, 1) := by decide +kernel
theorem dX11_begin_23 : decode cX11_begin 23 = .ok (.istore 4, 2) := by decide +kernel
theorem dX11_begin_25 : decode cX11_begin 25 = .ok (.iconst 0, 1) := by decide +kernel
theorem dX11_begin_26 : decode cX11_begin 26 = .ok (.istore 5, 2) := by decide +kernel
theorem dX11_begin_28 : decode cX11_begin 28 = .ok (.iconst 0, 1) := by decide +kernel
theorem dX11_begin_29 : decode cX11_begin 29 = .ok (.istore 6, 2) := by decide +kernel
theorem dX11_begin_31 : decode cX11_begin 31 = .ok (.iload 6, 2) := by decide +kernel
theorem dX11_begin_33 : decode cX11_begin 33 = .ok (.aload_n 0, 1) := by decide +kernel
theorem dX11_begin_34 : decode cX11_begin 34 = .ok (.invokevirtual 88, 3) := by decide +kernel
theorem dX11_begin_37 : decode cX11_begin 37 = .ok (.if_icmp .ge 110, 3) := by decide +kernel
theorem dX11_begin_40 : decode cX11_begin 40 = .ok (.aload_n 0, 1) := by decide +kernel
theorem dX11_begin_41 : decode cX11_begin 41 = .ok (.getfield 16, 3) := by decide +kernel
theorem dX11_begin_44 : decode cX11_begin 44 = .ok (.iload 6, 2) := by decide +kernel
theorem dX11_begin_46 : decode cX11_begin 46 = .ok (.iaload, 1) := by decide +kernel
theorem dX11_begin_47 : decode cX11_begin 47 = .ok (.istore 7, 2) := by decide +kernel
theorem dX11_begin_49 : decode cX11_begin 49 = .ok (.iload_n 2, 1) := by decide +kernel
theorem dX11_begin_50 : decode cX11_begin 50 = .ok (.iload 7, 2) := by decide +kernel
theorem dX11_begin_52 : decode cX11_begin 52 = .ok (.iconst 2, 1) := by decide +kernel
theorem dX11_begin_53 : decode cX11_begin 53 = .ok (.if_icmp .eq 10, 3) := by decide +kernel
theorem dX11_begin_56 : decode cX11_begin 56 = .ok (.iload 7, 2) := by decide +kernel
theorem dX11_begin_58 : decode cX11_begin 58 = .ok (.bipush 7, 2) := by decide +kernel
theorem dX11_begin_60 : decode cX11_begin 60 = .ok (.if_icmp .ne 7, 3) := by decide +kernel
theorem dX11_begin_67 : decode cX11_begin 67 = .ok (.iconst 0, 1) := by decide +kernel
theorem dX11_begin_68 : decode cX11_begin 68 = .ok (.iadd, 1) := by decide +kernel
theorem dX11_begin_69 : decode cX11_begin 69 = .ok (.istore_n 2, 1) := by decide +kernel
theorem dX11_begin_70 : decode cX11_begin 70 = .ok (.iload_n 3, 1) := by decide +kernel
theorem dX11_begin_71 : decode cX11_begin 71 = .ok (.iload 7, 2) := by decide +kernel
theorem dX11_begin_73 : decode cX11_begin 73 = .ok (.iconst 3, 1) := by decide +kernel
theorem dX11_begin_74 : decode cX11_begin 74 = .ok (.if_icmp .eq 9, 3) := by decide +kernel
theorem dX11_begin_77 : decode cX11_begin 77 = .ok (.iload 7, 2) := by decide +kernel
theorem dX11_begin_79 : decode cX11_begin 79 = .ok (.iconst 4, 1) := by decide +kernel
theorem dX11_begin_80 : decode cX11_begin 80 = .ok (.if_icmp .ne 7, 3) := by decide +kernel
theorem dX11_begin_87 : decode cX11_begin 87 = .ok (.iconst 0, 1) := by decide +kernel
theorem dX11_begin_88 : decode cX11_begin 88 = .ok (.iadd, 1) := by decide +kernel
theorem dX11_begin_89 : decode cX11_begin 89 = .ok (.istore_n 3, 1) := by decide +kernel
theorem dX11_begin_90 : decode cX11_begin 90 = .ok (.iload 4, 2) := by decide +kernel
theorem dX11_begin_92 : decode cX11_begin 92 = .ok (.iload 7, 2) := by decide +kernel
theorem dX11_begin_94 : decode cX11_begin 94 = .ok (.iconst 5, 1) := by decide +kernel
theorem dX11_begin_95 : decode cX11_begin 95 = .ok (.if_icmp .eq 10, 3) := by decide +kernel
theorem dX11_begin_98 : decode cX11_begin 98 = .ok (.iload 7, 2) := by decide +kernel
theorem dX11_begin_100 : decode cX11_begin 100 = .ok (.bipush 7, 2) := by decide +kernel
theorem dX11_begin_102 : decode cX11_begin 102 = .ok (.if_icmp .ne 7, 3) := by decide +kernel
theorem dX11_begin_109 : decode cX11_begin 109 = .ok (.iconst 0, 1) := by decide +kernel
theorem dX11_begin_110 : decode cX11_begin 110 = .ok (.iadd, 1) := by decide +kernel
theorem dX11_begin_111 : decode cX11_begin 111 = .ok (.istore 4, 2) := by decide +kernel
theorem dX11_begin_113 : decode cX11_begin 113 = .ok (.iload 5, 2) := by decide +kernel
theorem dX11_begin_115 : decode cX11_begin 115 = .ok (.iload 7, 2) := by decide +kernel
theorem dX11_begin_117 : decode cX11_begin 117 = .ok (.ifCond .eq 20, 3) := by decide +kernel
theorem dX11_begin_137 : decode cX11_begin 137 = .ok (.iconst 0, 1) := by decide +kernel
theorem dX11_begin_138 : decode cX11_begin 138 = .ok (.iadd, 1) := by decide +kernel
theorem dX11_begin_139 : decode cX11_begin 139 = .ok (.istore 5, 2) := by decide +kernel
theorem dX11_begin_141 : decode cX11_begin 141 = .ok (.iinc 6 1, 3) := by decide +kernel
theorem dX11_begin_144 : decode cX11_begin 144 = .ok (.goto (-113), 3) := by decide +kernel
theorem dX11_begin_147 : decode cX11_begin 147 = .ok (.iload_n 2, 1) := by decide +kernel
theorem dX11_begin_148 : decode cX11_begin 148 = .ok (.iconst 1, 1) := by decide +kernel
theorem dX11_begin_149 : decode cX11_begin 149 = .ok (.if_icmp .ne 20, 3) := by decide +kernel
theorem dX11_begin_169 : decode cX11_begin 169 = .ok (.iconst (-1), 1) := by decide +kernel
theorem dX11_begin_170 : decode cX11_begin 170 = .ok (.ireturn, 1) := by decide +kernel
theorem dX11_stop_0 : decode cX11_stop 0 = .ok (.aload_n 0, 1) := by decide +kernel
theorem dX11_stop_1 : decode cX11_stop 1 = .ok (.getfield 73, 3) := by decide +kernel
theorem dX11_stop_4 : decode cX11_stop 4 = .ok (.ifCond .ne 5, 3) := by decide +kernel
theorem dX11_stop_7 : decode cX11_stop 7 = .ok (.iconst 0, 1) := by decide +kernel
theorem dX11_stop_8 : decode cX11_stop 8 = .ok (.ireturn, 1) := by decide +kernel
theorem dX11_why_0 : decode cX11_why 0 = .ok (.aload_n 0, 1) := by decide +kernel
theorem dX11_why_1 : decode cX11_why 1 = .ok (.getfield 73, 3) := by decide +kernel
theorem dX11_why_4 : decode cX11_why 4 = .ok (.iconst 1, 1) := by decide +kernel
theorem dX11_why_5 : decode cX11_why 5 = .ok (.if_icmp .eq 5, 3) := by decide +kernel
theorem dX11_why_8 : decode cX11_why 8 = .ok (.iconst 1, 1) := by decide +kernel
theorem dX11_why_9 : decode cX11_why 9 = .ok (.ireturn, 1) := by decide +kernel
set_option maxRecDepth 20000 in
theorem ggX11_go_X11_why : GoodIn wsX11_go wsX11_why := goodIn_r _ [7, 8, 9, 10, 11, 12, 13, 14, 15, 6, 16, 17, 18, 19, 20, 21, 22, 23, 24, 25, 26, 27, 28, 29, 30, 31, 32, 33, 34, 35, 36, 37, 38, 39, 40, 41, 42, 43, 2, 44, 45, 46, 47, 48, 49, 50, 51, 52, 53, 54, 55, 56, 57, 58, 59, 60, 61, 62, 63, 64, 65, 66, 67, 68, 69, 70, 71, 72, 73, 74, 75, 76, 77, 78, 79, 80, 81, 82, 106, 107, 108, 109, 110, 111, 112, 113, 114, 115, 116, 117, 118, 119, 120, 121, 122, 123, 124, 125, 126, 127, 128, 129, 130, 131, 132, 133, 134] (by decide +kernel) (by decide +kernel)
set_option maxRecDepth 20000 in
theorem gX11_go_X11_why : GoodIn wsX11_go (wsV RX11 167 RX11 yX11_why wsX11_why) := goodIn_app (goodIn_of _ (by decide +kernel)) ggX11_go_X11_why
theorem dX11_go_0 : decode cX11_go 0 = .ok (.aload_n 0, 1) := by decide +kernel
theorem dX11_go_1 : decode cX11_go 1 = .ok (.iload_n 1, 1) := by decide +kernel
theorem dX11_go_2 : decode cX11_go 2 = .ok (.iload_n 2, 1) := by decide +kernel
theorem dX11_go_3 : decode cX11_go 3 = .ok (.iload_n 3, 1) := by decide +kernel
theorem dX11_go_4 : decode cX11_go 4 = .ok (.invokevirtual 167, 3) := by decide +kernel
theorem dX11_go_7 : decode cX11_go 7 = .ok (.ifCond .eq 5, 3) := by decide +kernel
theorem dX11_go_10 : decode cX11_go 10 = .ok (.iconst (-1), 1) := by decide +kernel
theorem dX11_go_11 : decode cX11_go 11 = .ok (.ireturn, 1) := by decide +kernel
theorem dX11_back_0 : decode cX11_back 0 = .ok (.aload_n 0, 1) := by decide +kernel
theorem dX11_back_1 : decode cX11_back 1 = .ok (.getfield 73, 3) := by decide +kernel
theorem dX11_back_4 : decode cX11_back 4 = .ok (.ifCond .eq 10, 3) := by decide +kernel
theorem dX11_back_14 : decode cX11_back 14 = .ok (.iconst 0, 1) := by decide +kernel
theorem dX11_back_15 : decode cX11_back 15 = .ok (.ireturn, 1) := by decide +kernel
theorem dX11_again_0 : decode cX11_again 0 = .ok (.aload_n 0, 1) := by decide +kernel
theorem dX11_again_1 : decode cX11_again 1 = .ok (.getfield 73, 3) := by decide +kernel
theorem dX11_again_4 : decode cX11_again 4 = .ok (.ifCond .eq 10, 3) := by decide +kernel
theorem dX11_again_14 : decode cX11_again 14 = .ok (.iconst 0, 1) := by decide +kernel
theorem dX11_again_15 : decode cX11_again 15 = .ok (.ireturn, 1) := by decide +kernel
set_option maxRecDepth 20000 in
theorem ggX11_about_X11_fields : GoodIn wsX11_about wsX11_fields := goodIn_r _ [13, 7, 14, 15, 16, 17, 18, 19, 20, 21, 22, 23, 24, 25, 26, 27, 28, 29, 30, 31, 32, 33, 34, 35, 36, 37, 38, 39, 40, 41, 42, 43] (by decide +kernel) (by decide +kernel)
set_option maxRecDepth 20000 in
theorem gX11_about_X11_fields : GoodIn wsX11_about (wsV RX11 88 RX11 yX11_fields wsX11_fields) := goodIn_app (goodIn_of _ (by decide +kernel)) ggX11_about_X11_fields
theorem dX11_about_0 : decode cX11_about 0 = .ok (.aload_n 0, 1) := by decide +kernel
theorem dX11_about_1 : decode cX11_about 1 = .ok (.getfield 73, 3) := by decide +kernel
theorem dX11_about_4 : decode cX11_about 4 = .ok (.ifCond .le 7, 3) := by decide +kernel
theorem dX11_about_11 : decode cX11_about 11 = .ok (.iconst 0, 1) := by decide +kernel
theorem dX11_about_12 : decode cX11_about 12 = .ok (.istore_n 2, 1) := by decide +kernel
theorem dX11_about_13 : decode cX11_about 13 = .ok (.iload_n 1, 1) := by decide +kernel
theorem dX11_about_14 : decode cX11_about 14 = .ok (.tableswitch 179 0 8 #[50, 55, 72, 85, 130, 143, 148, 161, 166], 50) := by decide +kernel
theorem dX11_about_64 : decode cX11_about 64 = .ok (.aload_n 0, 1) := by decide +kernel
theorem dX11_about_65 : decode cX11_about 65 = .ok (.getfield 73, 3) := by decide +kernel
theorem dX11_about_68 : decode cX11_about 68 = .ok (.ireturn, 1) := by decide +kernel
theorem dX11_about_69 : decode cX11_about 69 = .ok (.aload_n 0, 1) := by decide +kernel
theorem dX11_about_70 : decode cX11_about 70 = .ok (.getfield 73, 3) := by decide +kernel
theorem dX11_about_73 : decode cX11_about 73 = .ok (.iconst 1, 1) := by decide +kernel
theorem dX11_about_74 : decode cX11_about 74 = .ok (.if_icmp .ne 10, 3) := by decide +kernel
theorem dX11_about_84 : decode cX11_about 84 = .ok (.iconst (-1), 1) := by decide +kernel
theorem dX11_about_85 : decode cX11_about 85 = .ok (.ireturn, 1) := by decide +kernel
theorem dX11_about_86 : decode cX11_about 86 = .ok (.iload_n 2, 1) := by decide +kernel
theorem dX11_about_87 : decode cX11_about 87 = .ok (.ifCond .eq 10, 3) := by decide +kernel
theorem dX11_about_97 : decode cX11_about 97 = .ok (.iconst 0, 1) := by decide +kernel
theorem dX11_about_98 : decode cX11_about 98 = .ok (.ireturn, 1) := by decide +kernel
theorem dX11_about_99 : decode cX11_about 99 = .ok (.iconst 0, 1) := by decide +kernel
theorem dX11_about_100 : decode cX11_about 100 = .ok (.istore_n 3, 1) := by decide +kernel
theorem dX11_about_101 : decode cX11_about 101 = .ok (.iconst 0, 1) := by decide +kernel
theorem dX11_about_102 : decode cX11_about 102 = .ok (.istore 4, 2) := by decide +kernel
theorem dX11_about_104 : decode cX11_about 104 = .ok (.iload 4, 2) := by decide +kernel
theorem dX11_about_106 : decode cX11_about 106 = .ok (.aload_n 0, 1) := by decide +kernel
theorem dX11_about_107 : decode cX11_about 107 = .ok (.getfield 103, 3) := by decide +kernel
theorem dX11_about_110 : decode cX11_about 110 = .ok (.if_icmp .ge 32, 3) := by decide +kernel
theorem dX11_about_142 : decode cX11_about 142 = .ok (.iload_n 3, 1) := by decide +kernel
theorem dX11_about_143 : decode cX11_about 143 = .ok (.ireturn, 1) := by decide +kernel
theorem dX11_about_144 : decode cX11_about 144 = .ok (.iload_n 2, 1) := by decide +kernel
theorem dX11_about_145 : decode cX11_about 145 = .ok (.ifCond .eq 10, 3) := by decide +kernel
theorem dX11_about_155 : decode cX11_about 155 = .ok (.iconst 0, 1) := by decide +kernel
theorem dX11_about_156 : decode cX11_about 156 = .ok (.ireturn, 1) := by decide +kernel
theorem dX11_about_157 : decode cX11_about 157 = .ok (.aload_n 0, 1) := by decide +kernel
theorem dX11_about_158 : decode cX11_about 158 = .ok (.invokevirtual 88, 3) := by decide +kernel
theorem dX11_about_161 : decode cX11_about 161 = .ok (.ireturn, 1) := by decide +kernel
theorem dX11_about_162 : decode cX11_about 162 = .ok (.iload_n 2, 1) := by decide +kernel
theorem dX11_about_163 : decode cX11_about 163 = .ok (.ifCond .eq 10, 3) := by decide +kernel
theorem dX11_about_173 : decode cX11_about 173 = .ok (.iconst 0, 1) := by decide +kernel
theorem dX11_about_174 : decode cX11_about 174 = .ok (.ireturn, 1) := by decide +kernel
theorem dX11_about_175 : decode cX11_about 175 = .ok (.aload_n 0, 1) := by decide +kernel
theorem dX11_about_176 : decode cX11_about 176 = .ok (.getfield 7, 3) := by decide +kernel
theorem dX11_about_179 : decode cX11_about 179 = .ok (.ireturn, 1) := by decide +kernel
theorem dX11_about_180 : decode cX11_about 180 = .ok (.iload_n 2, 1) := by decide +kernel
theorem dX11_about_181 : decode cX11_about 181 = .ok (.ifCond .eq 10, 3) := by decide +kernel
theorem dX11_about_191 : decode cX11_about 191 = .ok (.iconst (-1), 1) := by decide +kernel
theorem dX11_about_192 : decode cX11_about 192 = .ok (.ireturn, 1) := by decide +kernel
theorem dX11_about_193 : decode cX11_about 193 = .ok (.iconst (-1), 1) := by decide +kernel
theorem dX11_about_194 : decode cX11_about 194 = .ok (.ireturn, 1) := by decide +kernel
theorem dX11_piece_0 : decode cX11_piece 0 = .ok (.aload_n 0, 1) := by decide +kernel
theorem dX11_piece_1 : decode cX11_piece 1 = .ok (.getfield 73, 3) := by decide +kernel
theorem dX11_piece_4 : decode cX11_piece 4 = .ok (.ifCond .eq 17, 3) := by decide +kernel
theorem dX11_piece_21 : decode cX11_piece 21 = .ok (.iconst (-1), 1) := by decide +kernel
theorem dX11_piece_22 : decode cX11_piece 22 = .ok (.ireturn, 1) := by decide +kernel
theorem dX11_on_0 : decode cX11_on 0 = .ok (.aload_n 0, 1) := by decide +kernel
theorem dX11_on_1 : decode cX11_on 1 = .ok (.getfield 73, 3) := by decide +kernel
theorem dX11_on_4 : decode cX11_on 4 = .ok (.ifCond .le 26, 3) := by decide +kernel
theorem dX11_on_30 : decode cX11_on 30 = .ok (.iconst (-1), 1) := by decide +kernel
theorem dX11_on_31 : decode cX11_on 31 = .ok (.ireturn, 1) := by decide +kernel
theorem dX11_field_0 : decode cX11_field 0 = .ok (.aload_n 0, 1) := by decide +kernel
theorem dX11_field_1 : decode cX11_field 1 = .ok (.getfield 73, 3) := by decide +kernel
theorem dX11_field_4 : decode cX11_field 4 = .ok (.ifCond .eq 17, 3) := by decide +kernel
theorem dX11_field_21 : decode cX11_field 21 = .ok (.iconst (-1), 1) := by decide +kernel
theorem dX11_field_22 : decode cX11_field 22 = .ok (.ireturn, 1) := by decide +kernel
theorem dX11_took_0 : decode cX11_took 0 = .ok (.aload_n 0, 1) := by decide +kernel
theorem dX11_took_1 : decode cX11_took 1 = .ok (.getfield 73, 3) := by decide +kernel
theorem dX11_took_4 : decode cX11_took 4 = .ok (.ifCond .eq 15, 3) := by decide +kernel
theorem dX11_took_19 : decode cX11_took 19 = .ok (.iconst (-1), 1) := by decide +kernel
theorem dX11_took_20 : decode cX11_took 20 = .ok (.ireturn, 1) := by decide +kernel
theorem dX11_ring_0 : decode cX11_ring 0 = .ok (.aload_n 0, 1) := by decide +kernel
theorem dX11_ring_1 : decode cX11_ring 1 = .ok (.getfield 73, 3) := by decide +kernel
theorem dX11_ring_4 : decode cX11_ring 4 = .ok (.ifCond .le 44, 3) := by decide +kernel
theorem dX11_ring_48 : decode cX11_ring 48 = .ok (.iconst 0, 1) := by decide +kernel
theorem dX11_ring_49 : decode cX11_ring 49 = .ok (.ireturn, 1) := by decide +kernel
set_option maxRecDepth 20000 in
theorem ggX11_needed_X11_ring : GoodIn wsX11_needed wsX11_ring := goodIn_r _ [7, 8, 2, 9, 10, 11, 12, 6, 13, 14, 15, 16, 17, 18, 19, 20, 21, 22, 23, 24, 25, 26, 27, 28, 29, 30, 31, 32, 41, 42, 43, 44, 45, 46, 47, 48, 49, 50, 51, 52, 53, 54, 55, 56, 57, 58, 59, 60, 61, 62, 63, 64, 65, 66, 67, 68, 69] (by decide +kernel) (by decide +kernel)
set_option maxRecDepth 20000 in
theorem gX11_needed_X11_ring : GoodIn wsX11_needed (wsV RX11 176 RX11 yX11_ring wsX11_ring) := goodIn_app (goodIn_of _ (by decide +kernel)) ggX11_needed_X11_ring
theorem dX11_needed_0 : decode cX11_needed 0 = .ok (.aload_n 0, 1) := by decide +kernel
theorem dX11_needed_1 : decode cX11_needed 1 = .ok (.invokevirtual 176, 3) := by decide +kernel
theorem dX11_needed_4 : decode cX11_needed 4 = .ok (.ifCond .eq 48, 3) := by decide +kernel
theorem dX11_needed_52 : decode cX11_needed 52 = .ok (.iconst 0, 1) := by decide +kernel
theorem dX11_needed_53 : decode cX11_needed 53 = .ok (.ireturn, 1) := by decide +kernel
theorem dX11_solve_0 : decode cX11_solve 0 = .ok (.aload_n 0, 1) := by decide +kernel
theorem dX11_solve_1 : decode cX11_solve 1 = .ok (.getfield 73, 3) := by decide +kernel
theorem dX11_solve_4 : decode cX11_solve 4 = .ok (.ifCond .eq 14, 3) := by decide +kernel
theorem dX11_solve_18 : decode cX11_solve 18 = .ok (.iconst (-1), 1) := by decide +kernel
theorem dX11_solve_19 : decode cX11_solve 19 = .ok (.ireturn, 1) := by decide +kernel
theorem dX11_worth_0 : decode cX11_worth 0 = .ok (.aload_n 0, 1) := by decide +kernel
theorem dX11_worth_1 : decode cX11_worth 1 = .ok (.getfield 76, 3) := by decide +kernel
theorem dX11_worth_4 : decode cX11_worth 4 = .ok (.ifCond .eq 15, 3) := by decide +kernel
theorem dX11_worth_19 : decode cX11_worth 19 = .ok (.iconst (-1), 1) := by decide +kernel
theorem dX11_worth_20 : decode cX11_worth 20 = .ok (.ireturn, 1) := by decide +kernel
theorem dX11_deep_0 : decode cX11_deep 0 = .ok (.aload_n 0, 1) := by decide +kernel
theorem dX11_deep_1 : decode cX11_deep 1 = .ok (.getfield 76, 3) := by decide +kernel
theorem dX11_deep_4 : decode cX11_deep 4 = .ok (.ifCond .eq 15, 3) := by decide +kernel
theorem dX11_deep_19 : decode cX11_deep 19 = .ok (.iconst (-1), 1) := by decide +kernel
theorem dX11_deep_20 : decode cX11_deep 20 = .ok (.ireturn, 1) := by decide +kernel
theorem dX11_best_0 : decode cX11_best 0 = .ok (.aload_n 0, 1) := by decide +kernel
theorem dX11_best_1 : decode cX11_best 1 = .ok (.getfield 76, 3) := by decide +kernel
theorem dX11_best_4 : decode cX11_best 4 = .ok (.ifCond .ne 5, 3) := by decide +kernel
theorem dX11_best_7 : decode cX11_best 7 = .ok (.iconst (-1), 1) := by decide +kernel
theorem dX11_best_8 : decode cX11_best 8 = .ok (.ireturn, 1) := by decide +kernel
theorem dX11_count_0 : decode cX11_count 0 = .ok (.aload_n 0, 1) := by decide +kernel
theorem dX11_count_1 : decode cX11_count 1 = .ok (.getfield 76, 3) := by decide +kernel
theorem dX11_count_4 : decode cX11_count 4 = .ok (.ifCond .eq 21, 3) := by decide +kernel
theorem dX11_count_25 : decode cX11_count 25 = .ok (.iconst (-1), 1) := by decide +kernel
theorem dX11_count_26 : decode cX11_count 26 = .ok (.ireturn, 1) := by decide +kernel
theorem dX11_most_0 : decode cX11_most 0 = .ok (.aload_n 0, 1) := by decide +kernel
theorem dX11_most_1 : decode cX11_most 1 = .ok (.getfield 76, 3) := by decide +kernel
theorem dX11_most_4 : decode cX11_most 4 = .ok (.ifCond .eq 12, 3) := by decide +kernel
theorem dX11_most_16 : decode cX11_most 16 = .ok (.iconst (-1), 1) := by decide +kernel
theorem dX11_most_17 : decode cX11_most 17 = .ok (.ireturn, 1) := by decide +kernel
theorem dX11_stand_0 : decode cX11_stand 0 = .ok (.aload_n 0, 1) := by decide +kernel
theorem dX11_stand_1 : decode cX11_stand 1 = .ok (.getfield 76, 3) := by decide +kernel
theorem dX11_stand_4 : decode cX11_stand 4 = .ok (.ifCond .eq 30, 3) := by decide +kernel
theorem dX11_stand_34 : decode cX11_stand 34 = .ok (.iconst (-1), 1) := by decide +kernel
theorem dX11_stand_35 : decode cX11_stand 35 = .ok (.ireturn, 1) := by decide +kernel
theorem dJ7_fill_53178_0 : decode cJ7_fill_53178 0 = .ok (.iconst 0, 1) := by decide +kernel
theorem dJ7_fill_53178_1 : decode cJ7_fill_53178 1 = .ok (.istore_n 2, 1) := by decide +kernel
theorem dJ7_fill_53178_2 : decode cJ7_fill_53178 2 = .ok (.aload_n 0, 1) := by decide +kernel
theorem dJ7_fill_53178_3 : decode cJ7_fill_53178 3 = .ok (.arraylength, 1) := by decide +kernel
theorem dJ7_fill_53178_4 : decode cJ7_fill_53178 4 = .ok (.istore_n 3, 1) := by decide +kernel
theorem dJ7_fill_53178_5 : decode cJ7_fill_53178 5 = .ok (.iload_n 2, 1) := by decide +kernel
theorem dJ7_fill_53178_6 : decode cJ7_fill_53178 6 = .ok (.iload_n 3, 1) := by decide +kernel
theorem dJ7_fill_53178_7 : decode cJ7_fill_53178 7 = .ok (.if_icmp .ge 13, 3) := by decide +kernel
theorem dJ7_fill_53178_10 : decode cJ7_fill_53178 10 = .ok (.aload_n 0, 1) := by decide +kernel
theorem dJ7_fill_53178_11 : decode cJ7_fill_53178 11 = .ok (.iload_n 2, 1) := by decide +kernel
theorem dJ7_fill_53178_12 : decode cJ7_fill_53178 12 = .ok (.iload_n 1, 1) := by decide +kernel
theorem dJ7_fill_53178_13 : decode cJ7_fill_53178 13 = .ok (.iastore, 1) := by decide +kernel
theorem dJ7_fill_53178_14 : decode cJ7_fill_53178 14 = .ok (.iinc 2 1, 3) := by decide +kernel
theorem dJ7_fill_53178_17 : decode cJ7_fill_53178 17 = .ok (.goto (-12), 3) := by decide +kernel
theorem dJ7_fill_53178_20 : decode cJ7_fill_53178 20 = .ok (.return_, 1) := by decide +kernel
abbrev vwCl : List vw_C := [(RX0, TX0, 5), (RX1, TX1, 5), (RX2, TX2, 4), (RX3, TX3, 9), (RX4, TX4, 5), (RX5, TX5, 3), (RX6, TX6, 9), (RX7, TX7, 15), (RX8, TX8, 3), (RX9, TX9, 3), (RX10, TX10, 6), (RX11, TX11, 29)]
end
section
set_option maxRecDepth 20000 in
theorem ggL_law_X10_init : GoodIn wsL_law wsX10_init := goodIn_r _ [8, 9, 10, 11, 12, 13, 14, 15, 16, 17, 18, 19, 20, 21, 22, 23, 24, 25, 26, 27, 28, 29, 30, 31, 32, 33, 34, 35, 36, 37, 38, 39, 40, 41, 42, 43, 44, 45, 46, 47, 48, 49, 50, 51, 52, 53, 54, 55, 56, 57, 58, 59, 60, 61, 62, 63, 64, 65, 66, 67, 68, 69, 70, 71, 72, 73, 74, 75, 76, 77, 78, 79, 80, 81, 82, 83, 84, 85, 86, 87, 88, 89, 90, 91, 92, 93, 94, 95, 96, 97, 98, 99, 100, 101, 102, 103, 104, 105, 106, 107, 108, 109, 110, 111, 112, 113, 114, 115, 116, 117, 118, 119, 120, 121, 122, 123, 124, 125, 126, 127, 128, 129, 130, 131, 132, 133, 134, 135, 136, 137, 138, 139, 140, 141, 142, 143, 144, 878, 879, 880, 843, 844, 845, 846, 847, 848, 881, 882, 883, 884, 885, 886, 887, 888, 889, 890, 891, 892, 893, 894, 895, 896, 897, 898, 899, 900, 901, 902, 903, 904, 905, 906, 907, 908, 909, 910, 911, 912, 913, 914, 915, 916, 917, 918, 919, 920, 921, 922, 923, 924, 925, 926, 927, 928, 929, 930, 931, 932, 933, 934, 935, 936, 937, 938] (by decide +kernel) (by decide +kernel)
set_option maxRecDepth 20000 in
theorem gL_law_X10_init : GoodIn wsL_law (wsX10_init) := ggL_law_X10_init
set_option maxRecDepth 20000 in
theorem ggL_law_X11_init : GoodIn wsL_law wsX11_init := goodIn_r _ [147, 148, 10, 11, 149, 150, 39, 151, 152, 153, 154, 155, 156, 157, 158, 159, 160, 161, 61, 162, 163, 164, 165, 166, 167, 168, 849, 850, 851, 852, 853, 854, 855, 856, 857, 858, 859, 860, 861, 862, 863, 864, 865, 866, 867, 868, 869, 870, 871, 872, 873, 874, 875, 876, 877] (by decide +kernel) (by decide +kernel)
set_option maxRecDepth 20000 in
theorem gL_law_X11_init : GoodIn wsL_law (wsX11_init) := ggL_law_X11_init
set_option maxRecDepth 20000 in
theorem ggL_law_X10_board : GoodIn wsL_law wsX10_board := goodIn_r _ [172, 15, 173, 174, 175, 14, 176, 41, 42, 40, 177, 178, 179, 180, 99, 100, 101, 181, 182, 183, 2, 184, 27, 35, 185, 186, 187, 26, 188, 84, 86, 79, 83, 189, 190, 191, 22, 192, 193, 63, 194, 94, 95, 78, 96, 91, 92, 97, 98, 195, 196, 197, 82, 198, 199, 200, 201, 202, 203, 34, 204, 205, 843, 844, 845, 846, 847, 848, 878, 879, 880, 895, 896, 897, 898, 899, 886, 887, 888, 889, 890, 891, 892, 893, 894, 923, 924, 925, 926, 927, 928, 929, 930, 931, 932, 933, 934, 903, 904, 905, 906, 907, 908, 909, 910, 911, 912, 913, 914, 915, 916, 917] (by decide +kernel) (by decide +kernel)
set_option maxRecDepth 20000 in
theorem gL_law_X10_board : GoodIn wsL_law (wsV RL 13 RX10 yX10_board wsX10_board) := goodIn_app (goodIn_of _ (by decide +kernel)) ggL_law_X10_board
set_option maxRecDepth 20000 in
theorem ggL_law_X11_board : GoodIn wsL_law wsX11_board := goodIn_r _ [209, 149, 150, 151, 210, 211, 212, 213, 5, 214, 849, 850, 851, 852, 853, 854, 855, 856, 857, 858, 859, 860, 861, 862, 863, 864, 865, 866, 867, 868, 869, 870, 871, 872, 873, 874, 875, 876, 877] (by decide +kernel) (by decide +kernel)
set_option maxRecDepth 20000 in
theorem gL_law_X11_board : GoodIn wsL_law (wsV RL 17 RX11 yX11_board wsX11_board) := goodIn_app (goodIn_of _ (by decide +kernel)) ggL_law_X11_board
set_option maxRecDepth 20000 in
theorem ggL_law_X10_line : GoodIn wsL_law wsX10_line := goodIn_r _ [218, 27, 15, 219, 220, 221, 26, 222, 84, 223, 224, 225, 14, 226, 41, 42, 40, 843, 844, 845, 846, 847, 848, 895, 896, 897, 898, 899, 878, 879, 880] (by decide +kernel) (by decide +kernel)
set_option maxRecDepth 20000 in
theorem gL_law_X10_line : GoodIn wsL_law (wsV RL 18 RX10 yX10_line wsX10_line) := goodIn_app (goodIn_of _ (by decide +kernel)) ggL_law_X10_line
set_option maxRecDepth 20000 in
theorem ggL_law_X11_line : GoodIn wsL_law wsX11_line := goodIn_r _ [230, 210, 149, 150, 151, 212, 213, 5, 214, 849, 850, 851, 852, 853, 854, 855, 856, 857, 858, 859, 860, 861, 862, 863, 864, 865, 866, 867, 868, 869, 870, 871, 872, 873, 874, 875, 876, 877] (by decide +kernel) (by decide +kernel)
set_option maxRecDepth 20000 in
theorem gL_law_X11_line : GoodIn wsL_law (wsV RL 22 RX11 yX11_line wsX11_line) := goodIn_app (goodIn_of _ (by decide +kernel)) ggL_law_X11_line
set_option maxRecDepth 20000 in
theorem ggL_law_X10_law : GoodIn wsL_law wsX10_law := goodIn_r _ [234, 27, 19, 219, 220, 221, 26, 222, 84, 235, 236, 237, 18, 238, 46, 47, 48, 49, 50, 843, 844, 845, 846, 847, 848, 895, 896, 897, 898, 899, 881, 882, 883, 884, 885] (by decide +kernel) (by decide +kernel)
set_option maxRecDepth 20000 in
theorem gL_law_X10_law : GoodIn wsL_law (wsV RL 23 RX10 yX10_law wsX10_law) := goodIn_app (goodIn_of _ (by decide +kernel)) ggL_law_X10_law
set_option maxRecDepth 20000 in
theorem ggL_law_X11_law : GoodIn wsL_law wsX11_law := goodIn_r _ [242, 210, 243, 152, 153, 244, 245, 212, 213, 5, 214, 849, 850, 851, 852, 853, 854, 855, 856, 857, 858, 859, 860, 861, 862, 863, 864, 865, 866, 867, 868, 869, 870, 871, 872, 873, 874, 875, 876, 877] (by decide +kernel) (by decide +kernel)
set_option maxRecDepth 20000 in
theorem gL_law_X11_law : GoodIn wsL_law (wsV RL 27 RX11 yX11_law wsX11_law) := goodIn_app (goodIn_of _ (by decide +kernel)) ggL_law_X11_law
set_option maxRecDepth 20000 in
theorem ggL_law_X10_begin : GoodIn wsL_law wsX10_begin := goodIn_r _ [249, 27, 15, 35, 23, 219, 220, 221, 26, 222, 84, 250, 251, 2, 252, 253, 254, 255, 14, 256, 40, 257, 258, 259, 260, 41, 42, 261, 262, 263, 264, 201, 202, 203, 34, 204, 205, 265, 266, 267, 268, 86, 85, 79, 269, 186, 187, 188, 83, 189, 190, 191, 22, 192, 193, 63, 194, 94, 95, 78, 96, 91, 92, 97, 98, 99, 100, 101, 195, 196, 197, 82, 198, 199, 200, 270, 271, 272, 57, 273, 274, 275, 69, 70, 71, 276, 277, 278, 279, 280, 281, 282, 283, 284, 285, 59, 60, 62, 65, 286, 287, 288, 289, 290, 291, 292, 293, 294, 295, 296, 297, 298, 299, 300, 301, 58, 302, 303, 304, 305, 306, 307, 308, 309, 310, 311, 312, 313, 314, 315, 316, 317, 318, 319, 320, 321, 843, 844, 845, 846, 847, 848, 886, 887, 888, 889, 890, 891, 892, 893, 894, 895, 896, 897, 898, 899, 878, 879, 880, 903, 904, 905, 906, 907, 908, 909, 910, 911, 912, 913, 914, 915, 916, 917, 881, 882, 883, 884, 885, 923, 924, 925, 926, 927, 928, 929, 930, 931, 932, 933, 934, 918, 919, 920, 921, 922] (by decide +kernel) (by decide +kernel)
set_option maxRecDepth 20000 in
theorem gL_law_X10_begin : GoodIn wsL_law (wsV RL 28 RX10 yX10_begin wsX10_begin) := goodIn_app (goodIn_of _ (by decide +kernel)) ggL_law_X10_begin
set_option maxRecDepth 20000 in
theorem ggL_law_X11_begin : GoodIn wsL_law wsX11_begin := goodIn_r _ [325, 210, 151, 326, 157, 156, 154, 155, 327, 328, 329, 330, 331, 211, 212, 213, 5, 214, 332, 333, 334, 335, 149, 150, 336, 337, 338, 339, 161, 340, 341, 342, 343, 344, 345, 346, 347, 243, 348, 349, 350, 351, 352, 353, 354, 355, 356, 357, 358, 359, 360, 361, 362, 363, 244, 364, 365, 366, 367, 368, 369, 370, 371, 849, 850, 851, 852, 853, 854, 855, 856, 857, 858, 859, 860, 861, 862, 863, 864, 865, 866, 867, 868, 869, 870, 871, 872, 873, 874, 875, 876, 877] (by decide +kernel) (by decide +kernel)
set_option maxRecDepth 20000 in
theorem gL_law_X11_begin : GoodIn wsL_law (wsV RL 32 RX11 yX11_begin wsX11_begin) := goodIn_app (goodIn_of _ (by decide +kernel)) ggL_law_X11_begin
set_option maxRecDepth 20000 in
theorem ggL_law_X10_stop : GoodIn wsL_law wsX10_stop := goodIn_r _ [375, 27, 219, 220, 221, 26, 222, 84, 181, 182, 183, 2, 184, 35, 185, 186, 187, 188, 86, 79, 83, 189, 190, 191, 22, 192, 193, 63, 194, 94, 95, 78, 96, 91, 92, 97, 98, 99, 100, 101, 195, 196, 197, 82, 198, 199, 200, 201, 202, 203, 34, 204, 205, 843, 844, 845, 846, 847, 848, 895, 896, 897, 898, 899, 886, 887, 888, 889, 890, 891, 892, 893, 894, 923, 924, 925, 926, 927, 928, 929, 930, 931, 932, 933, 934, 903, 904, 905, 906, 907, 908, 909, 910, 911, 912, 913, 914, 915, 916, 917] (by decide +kernel) (by decide +kernel)
set_option maxRecDepth 20000 in
theorem gL_law_X10_stop : GoodIn wsL_law (wsV RL 33 RX10 yX10_stop wsX10_stop) := goodIn_app (goodIn_of _ (by decide +kernel)) ggL_law_X10_stop
set_option maxRecDepth 20000 in
theorem ggL_law_X11_stop : GoodIn wsL_law wsX11_stop := goodIn_r _ [379, 210, 211, 849, 850, 851, 852, 853, 854, 855, 856, 857, 858, 859, 860, 861, 862, 863, 864, 865, 866, 867, 868, 869, 870, 871, 872, 873, 874, 875, 876, 877] (by decide +kernel) (by decide +kernel)
set_option maxRecDepth 20000 in
theorem gL_law_X11_stop : GoodIn wsL_law (wsV RL 37 RX11 yX11_stop wsX11_stop) := goodIn_app (goodIn_of _ (by decide +kernel)) ggL_law_X11_stop
set_option maxRecDepth 20000 in
theorem ggL_law_X10_go : GoodIn wsL_law wsX10_go := goodIn_r _ [383, 27, 384, 385, 386, 26, 387, 83, 86, 79, 388, 389, 390, 391, 84, 85, 392, 393, 394, 22, 395, 193, 396, 295, 296, 78, 297, 91, 397, 398, 399, 57, 400, 401, 311, 312, 313, 274, 71, 402, 403, 404, 405, 63, 65, 406, 407, 408, 409, 410, 411, 315, 316, 317, 92, 412, 319, 320, 321, 58, 413, 414, 415, 416, 417, 418, 419, 420, 421, 62, 60, 422, 294, 423, 279, 280, 281, 310, 314, 424, 425, 426, 427, 59, 428, 429, 430, 431, 432, 433, 434, 435, 64, 436, 437, 438, 82, 439, 111, 440, 441, 442, 443, 199, 108, 105, 106, 444, 445, 446, 447, 448, 449, 450, 451, 452, 453, 454, 455, 456, 107, 109, 110, 200, 457, 458, 459, 460, 461, 278, 286, 287, 288, 289, 290, 291, 292, 293, 298, 299, 300, 301, 302, 303, 304, 305, 306, 307, 308, 309, 318, 462, 463, 464, 465, 843, 844, 845, 846, 847, 848, 895, 896, 897, 898, 899, 926, 927, 928, 929, 930, 931, 932, 933, 934, 886, 887, 888, 889, 890, 891, 892, 893, 894, 923, 924, 925, 881, 882, 883, 884, 885, 918, 919, 920, 921, 922] (by decide +kernel) (by decide +kernel)
set_option maxRecDepth 20000 in
theorem gL_law_X10_go : GoodIn wsL_law (wsV RL 38 RX10 yX10_go wsX10_go) := goodIn_app (goodIn_of _ (by decide +kernel)) ggL_law_X10_go
set_option maxRecDepth 20000 in
theorem ggL_law_X11_go : GoodIn wsL_law wsX11_go := goodIn_r _ [469, 330, 331, 470, 471, 472, 5, 473, 210, 326, 155, 328, 245, 329, 212, 213, 214, 352, 353, 354, 355, 154, 360, 361, 362, 363, 244, 156, 364, 365, 366, 367, 150, 149, 368, 369, 370, 371, 157, 474, 475, 476, 477, 162, 478, 479, 480, 481, 153, 482, 483, 484, 485, 152, 486, 487, 488, 489, 336, 337, 338, 339, 161, 340, 341, 342, 343, 490, 491, 492, 493, 494, 495, 496, 497, 498, 499, 500, 501, 502, 503, 504, 505, 506, 507, 508, 509, 158, 327, 344, 345, 346, 347, 243, 332, 333, 334, 335, 348, 349, 350, 351, 356, 357, 358, 359, 849, 850, 851, 852, 853, 854, 855, 856, 857, 858, 859, 860, 861, 862, 863, 864, 865, 866, 867, 868, 869, 870, 871, 872, 873, 874, 875, 876, 877] (by decide +kernel) (by decide +kernel)
set_option maxRecDepth 20000 in
theorem gL_law_X11_go : GoodIn wsL_law (wsV RL 42 RX11 yX11_go wsX11_go) := goodIn_app (goodIn_of _ (by decide +kernel)) ggL_law_X11_go
set_option maxRecDepth 20000 in
theorem ggL_law_X10_why : GoodIn wsL_law wsX10_why := goodIn_r _ [513, 27, 514, 389, 390, 26, 391, 84, 86, 79, 85, 392, 393, 394, 22, 395, 193, 396, 295, 296, 78, 297, 91, 397, 398, 399, 57, 400, 401, 311, 312, 313, 274, 71, 402, 403, 404, 405, 63, 65, 406, 407, 408, 409, 410, 411, 315, 316, 317, 92, 412, 319, 320, 321, 58, 413, 414, 415, 416, 83, 417, 418, 419, 420, 421, 62, 60, 422, 294, 423, 279, 280, 281, 310, 314, 424, 425, 426, 427, 59, 428, 429, 430, 431, 432, 433, 434, 435, 64, 436, 437, 438, 82, 439, 111, 440, 441, 442, 443, 199, 108, 105, 106, 444, 843, 844, 845, 846, 847, 848, 895, 896, 897, 898, 899, 886, 887, 888, 889, 890, 891, 892, 893, 894, 923, 924, 925, 881, 882, 883, 884, 885, 918, 919, 920, 921, 922, 926, 927, 928, 929, 930, 931, 932, 933, 934] (by decide +kernel) (by decide +kernel)
set_option maxRecDepth 20000 in
theorem gL_law_X10_why : GoodIn wsL_law (wsV RL 43 RX10 yX10_why wsX10_why) := goodIn_app (goodIn_of _ (by decide +kernel)) ggL_law_X10_why
set_option maxRecDepth 20000 in
theorem ggL_law_X11_why : GoodIn wsL_law wsX11_why := goodIn_r _ [473, 210, 326, 155, 328, 245, 329, 212, 213, 5, 214, 352, 353, 354, 355, 154, 360, 361, 362, 363, 244, 156, 364, 365, 366, 367, 150, 149, 368, 369, 370, 371, 157, 474, 475, 476, 477, 162, 331, 478, 479, 480, 481, 153, 482, 483, 484, 485, 152, 486, 487, 488, 489, 336, 337, 338, 339, 161, 340, 341, 342, 343, 490, 491, 492, 493, 494, 495, 496, 497, 498, 499, 500, 501, 502, 503, 504, 505, 849, 850, 851, 852, 853, 854, 855, 856, 857, 858, 859, 860, 861, 862, 863, 864, 865, 866, 867, 868, 869, 870, 871, 872, 873, 874, 875, 876, 877] (by decide +kernel) (by decide +kernel)
set_option maxRecDepth 20000 in
theorem gL_law_X11_why : GoodIn wsL_law (wsV RL 46 RX11 yX11_why wsX11_why) := goodIn_app (goodIn_of _ (by decide +kernel)) ggL_law_X11_why
set_option maxRecDepth 20000 in
theorem ggL_law_X10_about : GoodIn wsL_law wsX10_about := goodIn_r _ [519, 27, 23, 15, 520, 521, 522, 26, 523, 84, 79, 524, 525, 526, 527, 86, 396, 295, 296, 78, 297, 91, 528, 258, 259, 14, 260, 41, 42, 529, 463, 464, 82, 465, 199, 108, 843, 844, 845, 846, 847, 848, 895, 896, 897, 898, 899, 886, 887, 888, 889, 890, 891, 892, 893, 894, 926, 927, 928, 929, 930, 931, 932, 933, 934, 878, 879, 880, 923, 924, 925] (by decide +kernel) (by decide +kernel)
set_option maxRecDepth 20000 in
theorem gL_law_X10_about : GoodIn wsL_law (wsV RL 47 RX10 yX10_about wsX10_about) := goodIn_app (goodIn_of _ (by decide +kernel)) ggL_law_X10_about
set_option maxRecDepth 20000 in
theorem ggL_law_X11_about : GoodIn wsL_law wsX11_about := goodIn_r _ [533, 210, 328, 326, 155, 329, 330, 149, 331, 332, 333, 334, 5, 335, 150, 849, 850, 851, 852, 853, 854, 855, 856, 857, 858, 859, 860, 861, 862, 863, 864, 865, 866, 867, 868, 869, 870, 871, 872, 873, 874, 875, 876, 877] (by decide +kernel) (by decide +kernel)
set_option maxRecDepth 20000 in
theorem gL_law_X11_about : GoodIn wsL_law (wsV RL 50 RX11 yX11_about wsX11_about) := goodIn_app (goodIn_of _ (by decide +kernel)) ggL_law_X11_about
set_option maxRecDepth 20000 in
theorem ggL_law_X10_piece : GoodIn wsL_law wsX10_piece := goodIn_r _ [537, 23, 27, 538, 393, 394, 22, 395, 193, 539, 295, 296, 78, 297, 91, 540, 541, 542, 26, 543, 86, 79, 392, 544, 521, 522, 523, 84, 545, 546, 547, 548, 306, 307, 308, 309, 63, 65, 58, 294, 310, 311, 312, 57, 313, 274, 71, 314, 315, 316, 317, 92, 318, 319, 320, 321, 843, 844, 845, 846, 847, 848, 886, 887, 888, 889, 890, 891, 892, 893, 894, 895, 896, 897, 898, 899, 923, 924, 925, 881, 882, 883, 884, 885, 918, 919, 920, 921, 922] (by decide +kernel) (by decide +kernel)
set_option maxRecDepth 20000 in
theorem gL_law_X10_piece : GoodIn wsL_law (wsV RL 51 RX10 yX10_piece wsX10_piece) := goodIn_app (goodIn_of _ (by decide +kernel)) ggL_law_X10_piece
set_option maxRecDepth 20000 in
theorem ggL_law_X11_piece : GoodIn wsL_law wsX11_piece := goodIn_r _ [552, 210, 326, 154, 155, 328, 212, 213, 5, 214, 352, 353, 354, 355, 356, 357, 358, 359, 360, 361, 362, 363, 244, 156, 364, 365, 366, 367, 150, 149, 368, 369, 370, 371, 157, 478, 479, 480, 481, 153, 849, 850, 851, 852, 853, 854, 855, 856, 857, 858, 859, 860, 861, 862, 863, 864, 865, 866, 867, 868, 869, 870, 871, 872, 873, 874, 875, 876, 877] (by decide +kernel) (by decide +kernel)
set_option maxRecDepth 20000 in
theorem gL_law_X11_piece : GoodIn wsL_law (wsV RL 55 RX11 yX11_piece wsX11_piece) := goodIn_app (goodIn_of _ (by decide +kernel)) ggL_law_X11_piece
set_option maxRecDepth 20000 in
theorem ggL_law_X10_on : GoodIn wsL_law wsX10_on := goodIn_r _ [556, 27, 557, 315, 316, 78, 317, 92, 843, 844, 845, 846, 847, 848, 895, 896, 897, 898, 899, 923, 924, 925] (by decide +kernel) (by decide +kernel)
set_option maxRecDepth 20000 in
theorem gL_law_X10_on : GoodIn wsL_law (wsV RL 56 RX10 yX10_on wsX10_on) := goodIn_app (goodIn_of _ (by decide +kernel)) ggL_law_X10_on
set_option maxRecDepth 20000 in
theorem ggL_law_X11_on : GoodIn wsL_law wsX11_on := goodIn_r _ [561, 210, 156, 332, 333, 334, 5, 335, 149, 150, 212, 213, 214, 849, 850, 851, 852, 853, 854, 855, 856, 857, 858, 859, 860, 861, 862, 863, 864, 865, 866, 867, 868, 869, 870, 871, 872, 873, 874, 875, 876, 877] (by decide +kernel) (by decide +kernel)
set_option maxRecDepth 20000 in
theorem gL_law_X11_on : GoodIn wsL_law (wsV RL 59 RX11 yX11_on wsX11_on) := goodIn_app (goodIn_of _ (by decide +kernel)) ggL_law_X11_on
set_option maxRecDepth 20000 in
theorem ggL_law_X10_field : GoodIn wsL_law wsX10_field := goodIn_r _ [565, 27, 15, 23, 219, 220, 221, 26, 222, 84, 528, 258, 259, 14, 260, 41, 42, 843, 844, 845, 846, 847, 848, 886, 887, 888, 889, 890, 891, 892, 893, 894, 918, 919, 920, 921, 922, 895, 896, 897, 898, 899, 878, 879, 880] (by decide +kernel) (by decide +kernel)
set_option maxRecDepth 20000 in
theorem gL_law_X10_field : GoodIn wsL_law (wsV RL 60 RX10 yX10_field wsX10_field) := goodIn_app (goodIn_of _ (by decide +kernel)) ggL_law_X10_field
set_option maxRecDepth 20000 in
theorem ggL_law_X11_field : GoodIn wsL_law wsX11_field := goodIn_r _ [569, 210, 157, 332, 333, 334, 5, 335, 149, 150, 212, 213, 214, 344, 345, 346, 347, 243, 849, 850, 851, 852, 853, 854, 855, 856, 857, 858, 859, 860, 861, 862, 863, 864, 865, 866, 867, 868, 869, 870, 871, 872, 873, 874, 875, 876, 877] (by decide +kernel) (by decide +kernel)
set_option maxRecDepth 20000 in
theorem gL_law_X11_field : GoodIn wsL_law (wsV RL 63 RX11 yX11_field wsX11_field) := goodIn_app (goodIn_of _ (by decide +kernel)) ggL_law_X11_field
set_option maxRecDepth 20000 in
theorem ggL_law_X10_took : GoodIn wsL_law wsX10_took := goodIn_r _ [573, 27, 574, 575, 576, 82, 577, 199, 108, 109, 843, 844, 845, 846, 847, 848, 895, 896, 897, 898, 899, 926, 927, 928, 929, 930, 931, 932, 933, 934] (by decide +kernel) (by decide +kernel)
set_option maxRecDepth 20000 in
theorem gL_law_X10_took : GoodIn wsL_law (wsV RL 64 RX10 yX10_took wsX10_took) := goodIn_app (goodIn_of _ (by decide +kernel)) ggL_law_X10_took
set_option maxRecDepth 20000 in
theorem ggL_law_X11_took : GoodIn wsL_law wsX11_took := goodIn_r _ [581, 210, 331, 326, 162, 849, 850, 851, 852, 853, 854, 855, 856, 857, 858, 859, 860, 861, 862, 863, 864, 865, 866, 867, 868, 869, 870, 871, 872, 873, 874, 875, 876, 877] (by decide +kernel) (by decide +kernel)
set_option maxRecDepth 20000 in
theorem gL_law_X11_took : GoodIn wsL_law (wsV RL 67 RX11 yX11_took wsX11_took) := goodIn_app (goodIn_of _ (by decide +kernel)) ggL_law_X11_took
set_option maxRecDepth 20000 in
theorem ggL_law_X10_ring : GoodIn wsL_law wsX10_ring := goodIn_r _ [585, 31, 27, 586, 587, 588, 30, 589, 118, 117, 116, 590, 295, 296, 78, 297, 91, 591, 299, 300, 22, 301, 58, 592, 311, 312, 57, 313, 274, 71, 593, 594, 595, 596, 597, 315, 316, 317, 92, 598, 393, 394, 395, 193, 843, 844, 845, 846, 847, 848, 895, 896, 897, 898, 899, 900, 901, 902, 886, 887, 888, 889, 890, 891, 892, 893, 894, 923, 924, 925, 918, 919, 920, 921, 922] (by decide +kernel) (by decide +kernel)
set_option maxRecDepth 20000 in
theorem gL_law_X10_ring : GoodIn wsL_law (wsV RL 68 RX10 yX10_ring wsX10_ring) := goodIn_app (goodIn_of _ (by decide +kernel)) ggL_law_X10_ring
set_option maxRecDepth 20000 in
theorem ggL_law_X11_ring : GoodIn wsL_law wsX11_ring := goodIn_r _ [602, 210, 155, 327, 344, 345, 346, 5, 347, 243, 157, 150, 332, 333, 334, 335, 149, 603, 604, 605, 606, 163, 164, 156, 364, 365, 366, 367, 849, 850, 851, 852, 853, 854, 855, 856, 857, 858, 859, 860, 861, 862, 863, 864, 865, 866, 867, 868, 869, 870, 871, 872, 873, 874, 875, 876, 877] (by decide +kernel) (by decide +kernel)
set_option maxRecDepth 20000 in
theorem gL_law_X11_ring : GoodIn wsL_law (wsV RL 71 RX11 yX11_ring wsX11_ring) := goodIn_app (goodIn_of _ (by decide +kernel)) ggL_law_X11_ring
set_option maxRecDepth 20000 in
theorem ggL_law_X10_needed : GoodIn wsL_law wsX10_needed := goodIn_r _ [610, 23, 31, 27, 538, 393, 394, 22, 395, 193, 586, 587, 588, 30, 589, 118, 117, 116, 590, 295, 296, 78, 297, 91, 591, 299, 300, 301, 58, 592, 311, 312, 57, 313, 274, 71, 593, 594, 595, 596, 597, 315, 316, 317, 92, 598, 843, 844, 845, 846, 847, 848, 886, 887, 888, 889, 890, 891, 892, 893, 894, 895, 896, 897, 898, 899, 900, 901, 902, 923, 924, 925, 918, 919, 920, 921, 922] (by decide +kernel) (by decide +kernel)
set_option maxRecDepth 20000 in
theorem gL_law_X10_needed : GoodIn wsL_law (wsV RL 72 RX10 yX10_needed wsX10_needed) := goodIn_app (goodIn_of _ (by decide +kernel)) ggL_law_X10_needed
set_option maxRecDepth 20000 in
theorem ggL_law_X11_needed : GoodIn wsL_law wsX11_needed := goodIn_r _ [614, 326, 155, 615, 600, 601, 5, 602, 210, 327, 344, 345, 346, 347, 243, 157, 150, 332, 333, 334, 335, 149, 603, 604, 605, 606, 163, 164, 156, 364, 365, 366, 367, 212, 213, 214, 352, 353, 354, 355, 154, 849, 850, 851, 852, 853, 854, 855, 856, 857, 858, 859, 860, 861, 862, 863, 864, 865, 866, 867, 868, 869, 870, 871, 872, 873, 874, 875, 876, 877] (by decide +kernel) (by decide +kernel)
set_option maxRecDepth 20000 in
theorem gL_law_X11_needed : GoodIn wsL_law (wsV RL 76 RX11 yX11_needed wsX11_needed) := goodIn_app (goodIn_of _ (by decide +kernel)) ggL_law_X11_needed
set_option maxRecDepth 20000 in
theorem ggL_law_X10_back : GoodIn wsL_law wsX10_back := goodIn_r _ [619, 27, 620, 621, 622, 26, 623, 83, 79, 84, 624, 625, 626, 82, 627, 199, 105, 106, 108, 109, 110, 628, 279, 280, 78, 281, 91, 92, 843, 844, 845, 846, 847, 848, 895, 896, 897, 898, 899, 926, 927, 928, 929, 930, 931, 932, 933, 934, 923, 924, 925] (by decide +kernel) (by decide +kernel)
set_option maxRecDepth 20000 in
theorem gL_law_X10_back : GoodIn wsL_law (wsV RL 77 RX10 yX10_back wsX10_back) := goodIn_app (goodIn_of _ (by decide +kernel)) ggL_law_X10_back
set_option maxRecDepth 20000 in
theorem ggL_law_X11_back : GoodIn wsL_law wsX11_back := goodIn_r _ [632, 210, 329, 330, 498, 499, 500, 5, 501, 156, 326, 155, 161, 328, 340, 341, 342, 343, 502, 503, 504, 505, 331, 162, 849, 850, 851, 852, 853, 854, 855, 856, 857, 858, 859, 860, 861, 862, 863, 864, 865, 866, 867, 868, 869, 870, 871, 872, 873, 874, 875, 876, 877] (by decide +kernel) (by decide +kernel)
set_option maxRecDepth 20000 in
theorem gL_law_X11_back : GoodIn wsL_law (wsV RL 80 RX11 yX11_back wsX11_back) := goodIn_app (goodIn_of _ (by decide +kernel)) ggL_law_X11_back
set_option maxRecDepth 20000 in
theorem ggL_law_X10_again : GoodIn wsL_law wsX10_again := goodIn_r _ [636, 27, 637, 638, 639, 26, 640, 83, 445, 446, 447, 82, 448, 199, 449, 450, 451, 452, 79, 86, 413, 414, 415, 416, 417, 418, 419, 22, 420, 421, 62, 58, 60, 422, 393, 394, 395, 193, 294, 295, 296, 78, 297, 91, 423, 279, 280, 281, 92, 310, 311, 312, 57, 313, 274, 71, 314, 315, 316, 317, 424, 425, 426, 427, 59, 63, 65, 428, 429, 430, 431, 432, 433, 434, 435, 64, 436, 437, 438, 439, 111, 440, 441, 442, 443, 108, 105, 106, 444, 453, 454, 455, 456, 107, 109, 110, 200, 457, 458, 459, 460, 461, 278, 286, 287, 288, 289, 84, 85, 290, 291, 292, 293, 298, 299, 300, 301, 302, 303, 304, 305, 306, 307, 308, 309, 318, 319, 320, 321, 843, 844, 845, 846, 847, 848, 895, 896, 897, 898, 899, 926, 927, 928, 929, 930, 931, 932, 933, 934, 886, 887, 888, 889, 890, 891, 892, 893, 894, 923, 924, 925, 918, 919, 920, 921, 922, 881, 882, 883, 884, 885] (by decide +kernel) (by decide +kernel)
set_option maxRecDepth 20000 in
theorem gL_law_X10_again : GoodIn wsL_law (wsV RL 81 RX10 yX10_again wsX10_again) := goodIn_app (goodIn_of _ (by decide +kernel)) ggL_law_X10_again
set_option maxRecDepth 20000 in
theorem ggL_law_X11_again : GoodIn wsL_law wsX11_again := goodIn_r _ [644, 210, 330, 158, 329, 506, 507, 508, 5, 509, 328, 155, 327, 245, 474, 475, 476, 477, 156, 326, 162, 331, 364, 365, 366, 367, 150, 149, 478, 479, 480, 481, 154, 153, 352, 353, 354, 355, 482, 483, 484, 485, 152, 486, 487, 488, 489, 157, 336, 337, 338, 339, 161, 340, 341, 342, 343, 344, 345, 346, 347, 243, 332, 333, 334, 335, 348, 349, 350, 351, 356, 357, 358, 359, 360, 361, 362, 363, 244, 368, 369, 370, 371, 490, 491, 492, 493, 494, 495, 496, 497, 849, 850, 851, 852, 853, 854, 855, 856, 857, 858, 859, 860, 861, 862, 863, 864, 865, 866, 867, 868, 869, 870, 871, 872, 873, 874, 875, 876, 877] (by decide +kernel) (by decide +kernel)
set_option maxRecDepth 20000 in
theorem gL_law_X11_again : GoodIn wsL_law (wsV RL 84 RX11 yX11_again wsX11_again) := goodIn_app (goodIn_of _ (by decide +kernel)) ggL_law_X11_again
set_option maxRecDepth 20000 in
theorem ggL_law_X10_solve : GoodIn wsL_law wsX10_solve := goodIn_r _ [648, 27, 35, 219, 220, 221, 26, 222, 84, 649, 650, 651, 34, 652, 205, 653, 654, 128, 137, 124, 130, 655, 656, 657, 658, 659, 129, 660, 661, 662, 663, 133, 39, 134, 135, 136, 664, 665, 127, 666, 667, 668, 459, 669, 670, 458, 460, 671, 672, 673, 674, 142, 143, 675, 144, 676, 677, 678, 99, 100, 101, 679, 94, 95, 78, 96, 91, 92, 97, 98, 680, 681, 682, 683, 684, 685, 686, 687, 688, 689, 279, 280, 281, 690, 315, 316, 317, 691, 319, 320, 22, 321, 63, 58, 692, 291, 292, 293, 294, 295, 296, 297, 298, 299, 300, 301, 302, 303, 304, 305, 193, 60, 306, 307, 308, 309, 65, 310, 311, 312, 57, 313, 274, 71, 314, 318, 693, 694, 695, 696, 697, 698, 699, 700, 701, 702, 703, 704, 418, 419, 420, 421, 62, 422, 393, 394, 395, 423, 424, 425, 426, 427, 59, 428, 429, 430, 431, 432, 433, 434, 435, 64, 705, 706, 707, 708, 709, 710, 711, 712, 713, 714, 715, 716, 717, 718, 719, 720, 721, 722, 723, 724, 725, 726, 727, 728, 131, 132, 729, 843, 844, 845, 846, 847, 848, 895, 896, 897, 898, 899, 903, 904, 905, 906, 907, 908, 909, 910, 911, 912, 913, 914, 915, 916, 917, 886, 887, 888, 889, 890, 891, 892, 893, 894, 918, 919, 920, 921, 922, 935, 936, 937, 938, 923, 924, 925, 881, 882, 883, 884, 885] (by decide +kernel) (by decide +kernel)
set_option maxRecDepth 20000 in
theorem gL_law_X10_solve : GoodIn wsL_law (wsV RL 85 RX10 yX10_solve wsX10_solve) := goodIn_app (goodIn_of _ (by decide +kernel)) ggL_law_X10_solve
set_option maxRecDepth 20000 in
theorem ggL_law_X11_solve : GoodIn wsL_law wsX11_solve := goodIn_r _ [733, 210, 734, 165, 166, 168, 329, 211, 735, 736, 737, 5, 738, 739, 326, 332, 333, 334, 335, 149, 150, 740, 741, 742, 743, 328, 156, 155, 368, 369, 370, 371, 157, 154, 744, 745, 746, 747, 327, 344, 345, 346, 347, 243, 348, 349, 350, 351, 352, 353, 354, 355, 356, 357, 358, 359, 360, 361, 362, 363, 244, 364, 365, 366, 367, 748, 749, 750, 751, 474, 475, 476, 477, 162, 331, 478, 479, 480, 481, 153, 482, 483, 484, 485, 152, 486, 487, 488, 489, 752, 753, 754, 755, 498, 499, 500, 501, 161, 340, 341, 342, 343, 502, 503, 504, 505, 849, 850, 851, 852, 853, 854, 855, 856, 857, 858, 859, 860, 861, 862, 863, 864, 865, 866, 867, 868, 869, 870, 871, 872, 873, 874, 875, 876, 877] (by decide +kernel) (by decide +kernel)
set_option maxRecDepth 20000 in
theorem gL_law_X11_solve : GoodIn wsL_law (wsV RL 89 RX11 yX11_solve wsX11_solve) := goodIn_app (goodIn_of _ (by decide +kernel)) ggL_law_X11_solve
set_option maxRecDepth 20000 in
theorem ggL_law_X10_worth : GoodIn wsL_law wsX10_worth := goodIn_r _ [759, 35, 27, 760, 761, 762, 34, 763, 133, 764, 765, 766, 767, 205, 137, 129, 654, 702, 295, 296, 78, 297, 91, 843, 844, 845, 846, 847, 848, 895, 896, 897, 898, 899, 903, 904, 905, 906, 907, 908, 909, 910, 911, 912, 913, 914, 915, 916, 917, 886, 887, 888, 889, 890, 891, 892, 893, 894, 918, 919, 920, 921, 922, 923, 924, 925] (by decide +kernel) (by decide +kernel)
set_option maxRecDepth 20000 in
theorem gL_law_X10_worth : GoodIn wsL_law (wsV RL 90 RX10 yX10_worth wsX10_worth) := goodIn_app (goodIn_of _ (by decide +kernel)) ggL_law_X10_worth
set_option maxRecDepth 20000 in
theorem ggL_law_X11_worth : GoodIn wsL_law wsX11_worth := goodIn_r _ [771, 211, 165, 752, 753, 754, 5, 755, 326, 155, 328, 332, 333, 334, 335, 149, 150, 849, 850, 851, 852, 853, 854, 855, 856, 857, 858, 859, 860, 861, 862, 863, 864, 865, 866, 867, 868, 869, 870, 871, 872, 873, 874, 875, 876, 877] (by decide +kernel) (by decide +kernel)
set_option maxRecDepth 20000 in
theorem gL_law_X11_worth : GoodIn wsL_law (wsV RL 93 RX11 yX11_worth wsX11_worth) := goodIn_app (goodIn_of _ (by decide +kernel)) ggL_law_X11_worth
set_option maxRecDepth 20000 in
theorem ggL_law_X10_deep : GoodIn wsL_law wsX10_deep := goodIn_r _ [775, 35, 27, 776, 777, 778, 34, 779, 134, 764, 765, 766, 767, 205, 137, 129, 654, 702, 295, 296, 78, 297, 91, 843, 844, 845, 846, 847, 848, 895, 896, 897, 898, 899, 903, 904, 905, 906, 907, 908, 909, 910, 911, 912, 913, 914, 915, 916, 917, 886, 887, 888, 889, 890, 891, 892, 893, 894, 918, 919, 920, 921, 922, 923, 924, 925] (by decide +kernel) (by decide +kernel)
set_option maxRecDepth 20000 in
theorem gL_law_X10_deep : GoodIn wsL_law (wsV RL 94 RX10 yX10_deep wsX10_deep) := goodIn_app (goodIn_of _ (by decide +kernel)) ggL_law_X10_deep
set_option maxRecDepth 20000 in
theorem ggL_law_X11_deep : GoodIn wsL_law wsX11_deep := goodIn_r _ [783, 211, 166, 752, 753, 754, 5, 755, 326, 155, 328, 332, 333, 334, 335, 149, 150, 849, 850, 851, 852, 853, 854, 855, 856, 857, 858, 859, 860, 861, 862, 863, 864, 865, 866, 867, 868, 869, 870, 871, 872, 873, 874, 875, 876, 877] (by decide +kernel) (by decide +kernel)
set_option maxRecDepth 20000 in
theorem gL_law_X11_deep : GoodIn wsL_law (wsV RL 97 RX11 yX11_deep wsX11_deep) := goodIn_app (goodIn_of _ (by decide +kernel)) ggL_law_X11_deep
set_option maxRecDepth 20000 in
theorem ggL_law_X10_best : GoodIn wsL_law wsX10_best := goodIn_r _ [787, 35, 27, 788, 789, 790, 34, 791, 133, 134, 137, 764, 765, 766, 767, 205, 129, 654, 702, 295, 296, 78, 297, 91, 792, 793, 794, 795, 796, 393, 394, 22, 395, 193, 701, 307, 308, 309, 63, 65, 58, 294, 310, 311, 312, 57, 313, 274, 71, 314, 315, 316, 317, 92, 318, 319, 320, 321, 797, 398, 399, 400, 401, 704, 418, 419, 420, 421, 62, 60, 422, 423, 279, 280, 281, 424, 425, 426, 427, 59, 428, 429, 430, 431, 432, 433, 434, 435, 64, 705, 706, 707, 708, 843, 844, 845, 846, 847, 848, 895, 896, 897, 898, 899, 903, 904, 905, 906, 907, 908, 909, 910, 911, 912, 913, 914, 915, 916, 917, 886, 887, 888, 889, 890, 891, 892, 893, 894, 923, 924, 925, 918, 919, 920, 921, 922, 881, 882, 883, 884, 885] (by decide +kernel) (by decide +kernel)
set_option maxRecDepth 20000 in
theorem gL_law_X10_best : GoodIn wsL_law (wsV RL 98 RX10 yX10_best wsX10_best) := goodIn_app (goodIn_of _ (by decide +kernel)) ggL_law_X10_best
set_option maxRecDepth 20000 in
theorem ggL_law_X11_best : GoodIn wsL_law wsX11_best := goodIn_r _ [801, 211, 326, 165, 166, 329, 752, 753, 754, 5, 755, 155, 328, 332, 333, 334, 335, 149, 150, 744, 745, 746, 747, 327, 344, 345, 346, 347, 243, 157, 348, 349, 350, 351, 352, 353, 354, 355, 154, 356, 357, 358, 359, 360, 361, 362, 363, 244, 156, 364, 365, 366, 367, 368, 369, 370, 371, 802, 803, 804, 805, 740, 741, 742, 743, 474, 475, 476, 477, 162, 331, 478, 479, 480, 481, 153, 482, 483, 484, 485, 152, 486, 487, 488, 489, 498, 499, 500, 501, 161, 340, 341, 342, 343, 502, 503, 504, 505, 849, 850, 851, 852, 853, 854, 855, 856, 857, 858, 859, 860, 861, 862, 863, 864, 865, 866, 867, 868, 869, 870, 871, 872, 873, 874, 875, 876, 877] (by decide +kernel) (by decide +kernel)
set_option maxRecDepth 20000 in
theorem gL_law_X11_best : GoodIn wsL_law (wsV RL 101 RX11 yX11_best wsX11_best) := goodIn_app (goodIn_of _ (by decide +kernel)) ggL_law_X11_best
set_option maxRecDepth 20000 in
theorem ggL_law_X10_count : GoodIn wsL_law wsX10_count := goodIn_r _ [809, 35, 810, 811, 812, 34, 813, 205, 131, 251, 2, 252, 843, 844, 845, 846, 847, 848, 903, 904, 905, 906, 907, 908, 909, 910, 911, 912, 913, 914, 915, 916, 917] (by decide +kernel) (by decide +kernel)
set_option maxRecDepth 20000 in
theorem gL_law_X10_count : GoodIn wsL_law (wsV RL 102 RX10 yX10_count wsX10_count) := goodIn_app (goodIn_of _ (by decide +kernel)) ggL_law_X10_count
set_option maxRecDepth 20000 in
theorem ggL_law_X11_count : GoodIn wsL_law wsX11_count := goodIn_r _ [817, 211, 165, 212, 213, 5, 214, 735, 736, 737, 738, 739, 326, 734, 332, 333, 334, 335, 149, 150, 849, 850, 851, 852, 853, 854, 855, 856, 857, 858, 859, 860, 861, 862, 863, 864, 865, 866, 867, 868, 869, 870, 871, 872, 873, 874, 875, 876, 877] (by decide +kernel) (by decide +kernel)
set_option maxRecDepth 20000 in
theorem gL_law_X11_count : GoodIn wsL_law (wsV RL 105 RX11 yX11_count wsX11_count) := goodIn_app (goodIn_of _ (by decide +kernel)) ggL_law_X11_count
set_option maxRecDepth 20000 in
theorem ggL_law_X10_most : GoodIn wsL_law wsX10_most := goodIn_r _ [821, 35, 822, 823, 824, 34, 825, 205, 132, 251, 2, 252, 843, 844, 845, 846, 847, 848, 903, 904, 905, 906, 907, 908, 909, 910, 911, 912, 913, 914, 915, 916, 917] (by decide +kernel) (by decide +kernel)
set_option maxRecDepth 20000 in
theorem gL_law_X10_most : GoodIn wsL_law (wsV RL 106 RX10 yX10_most wsX10_most) := goodIn_app (goodIn_of _ (by decide +kernel)) ggL_law_X10_most
set_option maxRecDepth 20000 in
theorem ggL_law_X11_most : GoodIn wsL_law wsX11_most := goodIn_r _ [829, 211, 165, 166, 830, 458, 459, 460, 212, 213, 5, 214, 735, 736, 737, 738, 739, 326, 734, 332, 333, 334, 335, 149, 150, 849, 850, 851, 852, 853, 854, 855, 856, 857, 858, 859, 860, 861, 862, 863, 864, 865, 866, 867, 868, 869, 870, 871, 872, 873, 874, 875, 876, 877] (by decide +kernel) (by decide +kernel)
set_option maxRecDepth 20000 in
theorem gL_law_X11_most : GoodIn wsL_law (wsV RL 109 RX11 yX11_most wsX11_most) := goodIn_app (goodIn_of _ (by decide +kernel)) ggL_law_X11_most
set_option maxRecDepth 20000 in
theorem ggL_law_X10_stand : GoodIn wsL_law wsX10_stand := goodIn_r _ [834, 35, 835, 836, 837, 34, 838, 205, 654, 133, 251, 2, 252, 843, 844, 845, 846, 847, 848, 903, 904, 905, 906, 907, 908, 909, 910, 911, 912, 913, 914, 915, 916, 917] (by decide +kernel) (by decide +kernel)
set_option maxRecDepth 20000 in
theorem gL_law_X10_stand : GoodIn wsL_law (wsV RL 110 RX10 yX10_stand wsX10_stand) := goodIn_app (goodIn_of _ (by decide +kernel)) ggL_law_X10_stand
set_option maxRecDepth 20000 in
theorem ggL_law_X11_stand : GoodIn wsL_law wsX11_stand := goodIn_r _ [842, 211, 739, 165, 212, 213, 5, 214, 735, 736, 737, 738, 326, 734, 332, 333, 334, 335, 149, 150, 849, 850, 851, 852, 853, 854, 855, 856, 857, 858, 859, 860, 861, 862, 863, 864, 865, 866, 867, 868, 869, 870, 871, 872, 873, 874, 875, 876, 877] (by decide +kernel) (by decide +kernel)
set_option maxRecDepth 20000 in
theorem gL_law_X11_stand : GoodIn wsL_law (wsV RL 113 RX11 yX11_stand wsX11_stand) := goodIn_app (goodIn_of _ (by decide +kernel)) ggL_law_X11_stand
theorem dL_law_0 : decode cL_law 0 = .ok (.new 7, 3) := by decide +kernel
theorem dL_law_3 : decode cL_law 3 = .ok (.dup, 1) := by decide +kernel
theorem dL_law_4 : decode cL_law 4 = .ok (.invokespecial 9, 3) := by decide +kernel
theorem dL_law_7 : decode cL_law 7 = .ok (.astore_n 1, 1) := by decide +kernel
theorem dL_law_8 : decode cL_law 8 = .ok (.new 10, 3) := by decide +kernel
theorem dL_law_11 : decode cL_law 11 = .ok (.dup, 1) := by decide +kernel
theorem dL_law_12 : decode cL_law 12 = .ok (.invokespecial 12, 3) := by decide +kernel
theorem dL_law_15 : decode cL_law 15 = .ok (.astore_n 2, 1) := by decide +kernel
theorem dL_law_16 : decode cL_law 16 = .ok (.iconst 0, 1) := by decide +kernel
theorem dL_law_17 : decode cL_law 17 = .ok (.istore_n 3, 1) := by decide +kernel
theorem dL_law_18 : decode cL_law 18 = .ok (.iload_n 3, 1) := by decide +kernel
theorem dL_law_19 : decode cL_law 19 = .ok (.aload_n 0, 1) := by decide +kernel
theorem dL_law_20 : decode cL_law 20 = .ok (.arraylength, 1) := by decide +kernel
theorem dL_law_21 : decode cL_law 21 = .ok (.bipush 6, 2) := by decide +kernel
theorem dL_law_23 : decode cL_law 23 = .ok (.isub, 1) := by decide +kernel
theorem dL_law_24 : decode cL_law 24 = .ok (.if_icmp .gt 727, 3) := by decide +kernel
theorem dL_law_27 : decode cL_law 27 = .ok (.aload_n 0, 1) := by decide +kernel
theorem dL_law_28 : decode cL_law 28 = .ok (.iload_n 3, 1) := by decide +kernel
theorem dL_law_29 : decode cL_law 29 = .ok (.iaload, 1) := by decide +kernel
theorem dL_law_30 : decode cL_law 30 = .ok (.bipush 31, 2) := by decide +kernel
theorem dL_law_32 : decode cL_law 32 = .ok (.iand, 1) := by decide +kernel
theorem dL_law_33 : decode cL_law 33 = .ok (.tableswitch 712 0 22 #[107, 140, 183, 262, 285, 298, 341, 384, 407, 440, 463, 486, 509, 522, 545, 558, 571, 584, 597, 610, 623, 656, 679], 107) := by decide +kernel
theorem dL_law_140 : decode cL_law 140 = .ok (.aload_n 1, 1) := by decide +kernel
theorem dL_law_141 : decode cL_law 141 = .ok (.aload_n 0, 1) := by decide +kernel
theorem dL_law_142 : decode cL_law 142 = .ok (.iload_n 3, 1) := by decide +kernel
theorem dL_law_143 : decode cL_law 143 = .ok (.iconst 1, 1) := by decide +kernel
theorem dL_law_144 : decode cL_law 144 = .ok (.iadd, 1) := by decide +kernel
theorem dL_law_145 : decode cL_law 145 = .ok (.iaload, 1) := by decide +kernel
theorem dL_law_146 : decode cL_law 146 = .ok (.aload_n 0, 1) := by decide +kernel
theorem dL_law_147 : decode cL_law 147 = .ok (.iload_n 3, 1) := by decide +kernel
theorem dL_law_148 : decode cL_law 148 = .ok (.iconst 2, 1) := by decide +kernel
theorem dL_law_149 : decode cL_law 149 = .ok (.iadd, 1) := by decide +kernel
theorem dL_law_150 : decode cL_law 150 = .ok (.iaload, 1) := by decide +kernel
theorem dL_law_151 : decode cL_law 151 = .ok (.invokevirtual 13, 3) := by decide +kernel
theorem dL_law_154 : decode cL_law 154 = .ok (.aload_n 2, 1) := by decide +kernel
theorem dL_law_155 : decode cL_law 155 = .ok (.aload_n 0, 1) := by decide +kernel
theorem dL_law_156 : decode cL_law 156 = .ok (.iload_n 3, 1) := by decide +kernel
theorem dL_law_157 : decode cL_law 157 = .ok (.iconst 1, 1) := by decide +kernel
theorem dL_law_158 : decode cL_law 158 = .ok (.iadd, 1) := by decide +kernel
theorem dL_law_159 : decode cL_law 159 = .ok (.iaload, 1) := by decide +kernel
theorem dL_law_160 : decode cL_law 160 = .ok (.aload_n 0, 1) := by decide +kernel
theorem dL_law_161 : decode cL_law 161 = .ok (.iload_n 3, 1) := by decide +kernel
theorem dL_law_162 : decode cL_law 162 = .ok (.iconst 2, 1) := by decide +kernel
theorem dL_law_163 : decode cL_law 163 = .ok (.iadd, 1) := by decide +kernel
theorem dL_law_164 : decode cL_law 164 = .ok (.iaload, 1) := by decide +kernel
theorem dL_law_165 : decode cL_law 165 = .ok (.invokevirtual 17, 3) := by decide +kernel
theorem dL_law_168 : decode cL_law 168 = .ok (.if_icmp .eq 577, 3) := by decide +kernel
theorem dL_law_173 : decode cL_law 173 = .ok (.aload_n 1, 1) := by decide +kernel
theorem dL_law_174 : decode cL_law 174 = .ok (.aload_n 0, 1) := by decide +kernel
theorem dL_law_175 : decode cL_law 175 = .ok (.iload_n 3, 1) := by decide +kernel
theorem dL_law_176 : decode cL_law 176 = .ok (.iconst 1, 1) := by decide +kernel
theorem dL_law_177 : decode cL_law 177 = .ok (.iadd, 1) := by decide +kernel
theorem dL_law_178 : decode cL_law 178 = .ok (.iaload, 1) := by decide +kernel
theorem dL_law_179 : decode cL_law 179 = .ok (.aload_n 0, 1) := by decide +kernel
theorem dL_law_180 : decode cL_law 180 = .ok (.iload_n 3, 1) := by decide +kernel
theorem dL_law_181 : decode cL_law 181 = .ok (.iconst 2, 1) := by decide +kernel
theorem dL_law_182 : decode cL_law 182 = .ok (.iadd, 1) := by decide +kernel
theorem dL_law_183 : decode cL_law 183 = .ok (.iaload, 1) := by decide +kernel
theorem dL_law_184 : decode cL_law 184 = .ok (.aload_n 0, 1) := by decide +kernel
theorem dL_law_185 : decode cL_law 185 = .ok (.iload_n 3, 1) := by decide +kernel
theorem dL_law_186 : decode cL_law 186 = .ok (.iconst 3, 1) := by decide +kernel
theorem dL_law_187 : decode cL_law 187 = .ok (.iadd, 1) := by decide +kernel
theorem dL_law_188 : decode cL_law 188 = .ok (.iaload, 1) := by decide +kernel
theorem dL_law_189 : decode cL_law 189 = .ok (.invokevirtual 18, 3) := by decide +kernel
theorem dL_law_192 : decode cL_law 192 = .ok (.aload_n 2, 1) := by decide +kernel
theorem dL_law_193 : decode cL_law 193 = .ok (.aload_n 0, 1) := by decide +kernel
theorem dL_law_194 : decode cL_law 194 = .ok (.iload_n 3, 1) := by decide +kernel
theorem dL_law_195 : decode cL_law 195 = .ok (.iconst 1, 1) := by decide +kernel
theorem dL_law_196 : decode cL_law 196 = .ok (.iadd, 1) := by decide +kernel
theorem dL_law_197 : decode cL_law 197 = .ok (.iaload, 1) := by decide +kernel
theorem dL_law_198 : decode cL_law 198 = .ok (.aload_n 0, 1) := by decide +kernel
theorem dL_law_199 : decode cL_law 199 = .ok (.iload_n 3, 1) := by decide +kernel
theorem dL_law_200 : decode cL_law 200 = .ok (.iconst 2, 1) := by decide +kernel
theorem dL_law_201 : decode cL_law 201 = .ok (.iadd, 1) := by decide +kernel
theorem dL_law_202 : decode cL_law 202 = .ok (.iaload, 1) := by decide +kernel
theorem dL_law_203 : decode cL_law 203 = .ok (.aload_n 0, 1) := by decide +kernel
theorem dL_law_204 : decode cL_law 204 = .ok (.iload_n 3, 1) := by decide +kernel
theorem dL_law_205 : decode cL_law 205 = .ok (.iconst 3, 1) := by decide +kernel
theorem dL_law_206 : decode cL_law 206 = .ok (.iadd, 1) := by decide +kernel
theorem dL_law_207 : decode cL_law 207 = .ok (.iaload, 1) := by decide +kernel
theorem dL_law_208 : decode cL_law 208 = .ok (.invokevirtual 22, 3) := by decide +kernel
theorem dL_law_211 : decode cL_law 211 = .ok (.if_icmp .eq 534, 3) := by decide +kernel
theorem dL_law_216 : decode cL_law 216 = .ok (.aload_n 1, 1) := by decide +kernel
theorem dL_law_217 : decode cL_law 217 = .ok (.aload_n 0, 1) := by decide +kernel
theorem dL_law_218 : decode cL_law 218 = .ok (.iload_n 3, 1) := by decide +kernel
theorem dL_law_219 : decode cL_law 219 = .ok (.iconst 1, 1) := by decide +kernel
theorem dL_law_220 : decode cL_law 220 = .ok (.iadd, 1) := by decide +kernel
theorem dL_law_221 : decode cL_law 221 = .ok (.iaload, 1) := by decide +kernel
theorem dL_law_222 : decode cL_law 222 = .ok (.aload_n 0, 1) := by decide +kernel
theorem dL_law_223 : decode cL_law 223 = .ok (.iload_n 3, 1) := by decide +kernel
theorem dL_law_224 : decode cL_law 224 = .ok (.iconst 2, 1) := by decide +kernel
theorem dL_law_225 : decode cL_law 225 = .ok (.iadd, 1) := by decide +kernel
theorem dL_law_226 : decode cL_law 226 = .ok (.iaload, 1) := by decide +kernel
theorem dL_law_227 : decode cL_law 227 = .ok (.aload_n 0, 1) := by decide +kernel
theorem dL_law_228 : decode cL_law 228 = .ok (.iload_n 3, 1) := by decide +kernel
theorem dL_law_229 : decode cL_law 229 = .ok (.iconst 3, 1) := by decide +kernel
theorem dL_law_230 : decode cL_law 230 = .ok (.iadd, 1) := by decide +kernel
theorem dL_law_231 : decode cL_law 231 = .ok (.iaload, 1) := by decide +kernel
theorem dL_law_232 : decode cL_law 232 = .ok (.ifCond .eq 7, 3) := by decide +kernel
theorem dL_law_235 : decode cL_law 235 = .ok (.iconst 1, 1) := by decide +kernel
theorem dL_law_236 : decode cL_law 236 = .ok (.goto 4, 3) := by decide +kernel
theorem dL_law_239 : decode cL_law 239 = .ok (.iconst 0, 1) := by decide +kernel
theorem dL_law_240 : decode cL_law 240 = .ok (.aload_n 0, 1) := by decide +kernel
theorem dL_law_241 : decode cL_law 241 = .ok (.iload_n 3, 1) := by decide +kernel
theorem dL_law_242 : decode cL_law 242 = .ok (.iconst 4, 1) := by decide +kernel
theorem dL_law_243 : decode cL_law 243 = .ok (.iadd, 1) := by decide +kernel
theorem dL_law_244 : decode cL_law 244 = .ok (.iaload, 1) := by decide +kernel
theorem dL_law_245 : decode cL_law 245 = .ok (.aload_n 0, 1) := by decide +kernel
theorem dL_law_246 : decode cL_law 246 = .ok (.iload_n 3, 1) := by decide +kernel
theorem dL_law_247 : decode cL_law 247 = .ok (.iconst 5, 1) := by decide +kernel
theorem dL_law_248 : decode cL_law 248 = .ok (.iadd, 1) := by decide +kernel
theorem dL_law_249 : decode cL_law 249 = .ok (.iaload, 1) := by decide +kernel
theorem dL_law_250 : decode cL_law 250 = .ok (.invokevirtual 23, 3) := by decide +kernel
theorem dL_law_253 : decode cL_law 253 = .ok (.aload_n 2, 1) := by decide +kernel
theorem dL_law_254 : decode cL_law 254 = .ok (.aload_n 0, 1) := by decide +kernel
theorem dL_law_255 : decode cL_law 255 = .ok (.iload_n 3, 1) := by decide +kernel
theorem dL_law_256 : decode cL_law 256 = .ok (.iconst 1, 1) := by decide +kernel
theorem dL_law_257 : decode cL_law 257 = .ok (.iadd, 1) := by decide +kernel
theorem dL_law_258 : decode cL_law 258 = .ok (.iaload, 1) := by decide +kernel
theorem dL_law_259 : decode cL_law 259 = .ok (.aload_n 0, 1) := by decide +kernel
theorem dL_law_260 : decode cL_law 260 = .ok (.iload_n 3, 1) := by decide +kernel
theorem dL_law_261 : decode cL_law 261 = .ok (.iconst 2, 1) := by decide +kernel
theorem dL_law_262 : decode cL_law 262 = .ok (.iadd, 1) := by decide +kernel
theorem dL_law_263 : decode cL_law 263 = .ok (.iaload, 1) := by decide +kernel
theorem dL_law_264 : decode cL_law 264 = .ok (.aload_n 0, 1) := by decide +kernel
theorem dL_law_265 : decode cL_law 265 = .ok (.iload_n 3, 1) := by decide +kernel
theorem dL_law_266 : decode cL_law 266 = .ok (.iconst 3, 1) := by decide +kernel
theorem dL_law_267 : decode cL_law 267 = .ok (.iadd, 1) := by decide +kernel
theorem dL_law_268 : decode cL_law 268 = .ok (.iaload, 1) := by decide +kernel
theorem dL_law_269 : decode cL_law 269 = .ok (.ifCond .eq 7, 3) := by decide +kernel
theorem dL_law_272 : decode cL_law 272 = .ok (.iconst 1, 1) := by decide +kernel
theorem dL_law_273 : decode cL_law 273 = .ok (.goto 4, 3) := by decide +kernel
theorem dL_law_276 : decode cL_law 276 = .ok (.iconst 0, 1) := by decide +kernel
theorem dL_law_277 : decode cL_law 277 = .ok (.aload_n 0, 1) := by decide +kernel
theorem dL_law_278 : decode cL_law 278 = .ok (.iload_n 3, 1) := by decide +kernel
theorem dL_law_279 : decode cL_law 279 = .ok (.iconst 4, 1) := by decide +kernel
theorem dL_law_280 : decode cL_law 280 = .ok (.iadd, 1) := by decide +kernel
theorem dL_law_281 : decode cL_law 281 = .ok (.iaload, 1) := by decide +kernel
theorem dL_law_282 : decode cL_law 282 = .ok (.aload_n 0, 1) := by decide +kernel
theorem dL_law_283 : decode cL_law 283 = .ok (.iload_n 3, 1) := by decide +kernel
theorem dL_law_284 : decode cL_law 284 = .ok (.iconst 5, 1) := by decide +kernel
theorem dL_law_285 : decode cL_law 285 = .ok (.iadd, 1) := by decide +kernel
theorem dL_law_286 : decode cL_law 286 = .ok (.iaload, 1) := by decide +kernel
theorem dL_law_287 : decode cL_law 287 = .ok (.invokevirtual 27, 3) := by decide +kernel
theorem dL_law_290 : decode cL_law 290 = .ok (.if_icmp .eq 455, 3) := by decide +kernel
theorem dL_law_295 : decode cL_law 295 = .ok (.aload_n 1, 1) := by decide +kernel
theorem dL_law_296 : decode cL_law 296 = .ok (.aload_n 0, 1) := by decide +kernel
theorem dL_law_297 : decode cL_law 297 = .ok (.iload_n 3, 1) := by decide +kernel
theorem dL_law_298 : decode cL_law 298 = .ok (.iconst 1, 1) := by decide +kernel
theorem dL_law_299 : decode cL_law 299 = .ok (.iadd, 1) := by decide +kernel
theorem dL_law_300 : decode cL_law 300 = .ok (.iaload, 1) := by decide +kernel
theorem dL_law_301 : decode cL_law 301 = .ok (.invokevirtual 28, 3) := by decide +kernel
theorem dL_law_304 : decode cL_law 304 = .ok (.aload_n 2, 1) := by decide +kernel
theorem dL_law_305 : decode cL_law 305 = .ok (.aload_n 0, 1) := by decide +kernel
theorem dL_law_306 : decode cL_law 306 = .ok (.iload_n 3, 1) := by decide +kernel
theorem dL_law_307 : decode cL_law 307 = .ok (.iconst 1, 1) := by decide +kernel
theorem dL_law_308 : decode cL_law 308 = .ok (.iadd, 1) := by decide +kernel
theorem dL_law_309 : decode cL_law 309 = .ok (.iaload, 1) := by decide +kernel
theorem dL_law_310 : decode cL_law 310 = .ok (.invokevirtual 32, 3) := by decide +kernel
theorem dL_law_313 : decode cL_law 313 = .ok (.if_icmp .eq 432, 3) := by decide +kernel
theorem dL_law_318 : decode cL_law 318 = .ok (.aload_n 1, 1) := by decide +kernel
theorem dL_law_319 : decode cL_law 319 = .ok (.invokevirtual 33, 3) := by decide +kernel
theorem dL_law_322 : decode cL_law 322 = .ok (.aload_n 2, 1) := by decide +kernel
theorem dL_law_323 : decode cL_law 323 = .ok (.invokevirtual 37, 3) := by decide +kernel
theorem dL_law_326 : decode cL_law 326 = .ok (.if_icmp .eq 419, 3) := by decide +kernel
theorem dL_law_331 : decode cL_law 331 = .ok (.aload_n 1, 1) := by decide +kernel
theorem dL_law_332 : decode cL_law 332 = .ok (.aload_n 0, 1) := by decide +kernel
theorem dL_law_333 : decode cL_law 333 = .ok (.iload_n 3, 1) := by decide +kernel
theorem dL_law_334 : decode cL_law 334 = .ok (.iconst 1, 1) := by decide +kernel
theorem dL_law_335 : decode cL_law 335 = .ok (.iadd, 1) := by decide +kernel
theorem dL_law_336 : decode cL_law 336 = .ok (.iaload, 1) := by decide +kernel
end
section
theorem dL_law_337 : decode cL_law 337 = .ok (.aload_n 0, 1) := by decide +kernel
theorem dL_law_338 : decode cL_law 338 = .ok (.iload_n 3, 1) := by decide +kernel
theorem dL_law_339 : decode cL_law 339 = .ok (.iconst 2, 1) := by decide +kernel
theorem dL_law_340 : decode cL_law 340 = .ok (.iadd, 1) := by decide +kernel
theorem dL_law_341 : decode cL_law 341 = .ok (.iaload, 1) := by decide +kernel
theorem dL_law_342 : decode cL_law 342 = .ok (.aload_n 0, 1) := by decide +kernel
theorem dL_law_343 : decode cL_law 343 = .ok (.iload_n 3, 1) := by decide +kernel
theorem dL_law_344 : decode cL_law 344 = .ok (.iconst 3, 1) := by decide +kernel
theorem dL_law_345 : decode cL_law 345 = .ok (.iadd, 1) := by decide +kernel
theorem dL_law_346 : decode cL_law 346 = .ok (.iaload, 1) := by decide +kernel
theorem dL_law_347 : decode cL_law 347 = .ok (.invokevirtual 38, 3) := by decide +kernel
theorem dL_law_350 : decode cL_law 350 = .ok (.aload_n 2, 1) := by decide +kernel
theorem dL_law_351 : decode cL_law 351 = .ok (.aload_n 0, 1) := by decide +kernel
theorem dL_law_352 : decode cL_law 352 = .ok (.iload_n 3, 1) := by decide +kernel
theorem dL_law_353 : decode cL_law 353 = .ok (.iconst 1, 1) := by decide +kernel
theorem dL_law_354 : decode cL_law 354 = .ok (.iadd, 1) := by decide +kernel
theorem dL_law_355 : decode cL_law 355 = .ok (.iaload, 1) := by decide +kernel
theorem dL_law_356 : decode cL_law 356 = .ok (.aload_n 0, 1) := by decide +kernel
theorem dL_law_357 : decode cL_law 357 = .ok (.iload_n 3, 1) := by decide +kernel
theorem dL_law_358 : decode cL_law 358 = .ok (.iconst 2, 1) := by decide +kernel
theorem dL_law_359 : decode cL_law 359 = .ok (.iadd, 1) := by decide +kernel
theorem dL_law_360 : decode cL_law 360 = .ok (.iaload, 1) := by decide +kernel
theorem dL_law_361 : decode cL_law 361 = .ok (.aload_n 0, 1) := by decide +kernel
theorem dL_law_362 : decode cL_law 362 = .ok (.iload_n 3, 1) := by decide +kernel
theorem dL_law_363 : decode cL_law 363 = .ok (.iconst 3, 1) := by decide +kernel
theorem dL_law_364 : decode cL_law 364 = .ok (.iadd, 1) := by decide +kernel
theorem dL_law_365 : decode cL_law 365 = .ok (.iaload, 1) := by decide +kernel
theorem dL_law_366 : decode cL_law 366 = .ok (.invokevirtual 42, 3) := by decide +kernel
theorem dL_law_369 : decode cL_law 369 = .ok (.if_icmp .eq 376, 3) := by decide +kernel
theorem dL_law_374 : decode cL_law 374 = .ok (.aload_n 1, 1) := by decide +kernel
theorem dL_law_375 : decode cL_law 375 = .ok (.aload_n 0, 1) := by decide +kernel
theorem dL_law_376 : decode cL_law 376 = .ok (.iload_n 3, 1) := by decide +kernel
theorem dL_law_377 : decode cL_law 377 = .ok (.iconst 1, 1) := by decide +kernel
theorem dL_law_378 : decode cL_law 378 = .ok (.iadd, 1) := by decide +kernel
theorem dL_law_379 : decode cL_law 379 = .ok (.iaload, 1) := by decide +kernel
theorem dL_law_380 : decode cL_law 380 = .ok (.aload_n 0, 1) := by decide +kernel
theorem dL_law_381 : decode cL_law 381 = .ok (.iload_n 3, 1) := by decide +kernel
theorem dL_law_382 : decode cL_law 382 = .ok (.iconst 2, 1) := by decide +kernel
theorem dL_law_383 : decode cL_law 383 = .ok (.iadd, 1) := by decide +kernel
theorem dL_law_384 : decode cL_law 384 = .ok (.iaload, 1) := by decide +kernel
theorem dL_law_385 : decode cL_law 385 = .ok (.aload_n 0, 1) := by decide +kernel
theorem dL_law_386 : decode cL_law 386 = .ok (.iload_n 3, 1) := by decide +kernel
theorem dL_law_387 : decode cL_law 387 = .ok (.iconst 3, 1) := by decide +kernel
theorem dL_law_388 : decode cL_law 388 = .ok (.iadd, 1) := by decide +kernel
theorem dL_law_389 : decode cL_law 389 = .ok (.iaload, 1) := by decide +kernel
theorem dL_law_390 : decode cL_law 390 = .ok (.invokevirtual 43, 3) := by decide +kernel
theorem dL_law_393 : decode cL_law 393 = .ok (.aload_n 2, 1) := by decide +kernel
theorem dL_law_394 : decode cL_law 394 = .ok (.aload_n 0, 1) := by decide +kernel
theorem dL_law_395 : decode cL_law 395 = .ok (.iload_n 3, 1) := by decide +kernel
theorem dL_law_396 : decode cL_law 396 = .ok (.iconst 1, 1) := by decide +kernel
theorem dL_law_397 : decode cL_law 397 = .ok (.iadd, 1) := by decide +kernel
theorem dL_law_398 : decode cL_law 398 = .ok (.iaload, 1) := by decide +kernel
theorem dL_law_399 : decode cL_law 399 = .ok (.aload_n 0, 1) := by decide +kernel
theorem dL_law_400 : decode cL_law 400 = .ok (.iload_n 3, 1) := by decide +kernel
theorem dL_law_401 : decode cL_law 401 = .ok (.iconst 2, 1) := by decide +kernel
theorem dL_law_402 : decode cL_law 402 = .ok (.iadd, 1) := by decide +kernel
theorem dL_law_403 : decode cL_law 403 = .ok (.iaload, 1) := by decide +kernel
theorem dL_law_404 : decode cL_law 404 = .ok (.aload_n 0, 1) := by decide +kernel
theorem dL_law_405 : decode cL_law 405 = .ok (.iload_n 3, 1) := by decide +kernel
theorem dL_law_406 : decode cL_law 406 = .ok (.iconst 3, 1) := by decide +kernel
theorem dL_law_407 : decode cL_law 407 = .ok (.iadd, 1) := by decide +kernel
theorem dL_law_408 : decode cL_law 408 = .ok (.iaload, 1) := by decide +kernel
theorem dL_law_409 : decode cL_law 409 = .ok (.invokevirtual 46, 3) := by decide +kernel
theorem dL_law_412 : decode cL_law 412 = .ok (.if_icmp .eq 333, 3) := by decide +kernel
theorem dL_law_417 : decode cL_law 417 = .ok (.aload_n 1, 1) := by decide +kernel
theorem dL_law_418 : decode cL_law 418 = .ok (.aload_n 0, 1) := by decide +kernel
theorem dL_law_419 : decode cL_law 419 = .ok (.iload_n 3, 1) := by decide +kernel
theorem dL_law_420 : decode cL_law 420 = .ok (.iconst 1, 1) := by decide +kernel
theorem dL_law_421 : decode cL_law 421 = .ok (.iadd, 1) := by decide +kernel
theorem dL_law_422 : decode cL_law 422 = .ok (.iaload, 1) := by decide +kernel
theorem dL_law_423 : decode cL_law 423 = .ok (.invokevirtual 47, 3) := by decide +kernel
theorem dL_law_426 : decode cL_law 426 = .ok (.aload_n 2, 1) := by decide +kernel
theorem dL_law_427 : decode cL_law 427 = .ok (.aload_n 0, 1) := by decide +kernel
theorem dL_law_428 : decode cL_law 428 = .ok (.iload_n 3, 1) := by decide +kernel
theorem dL_law_429 : decode cL_law 429 = .ok (.iconst 1, 1) := by decide +kernel
theorem dL_law_430 : decode cL_law 430 = .ok (.iadd, 1) := by decide +kernel
theorem dL_law_431 : decode cL_law 431 = .ok (.iaload, 1) := by decide +kernel
theorem dL_law_432 : decode cL_law 432 = .ok (.invokevirtual 50, 3) := by decide +kernel
theorem dL_law_435 : decode cL_law 435 = .ok (.if_icmp .eq 310, 3) := by decide +kernel
theorem dL_law_440 : decode cL_law 440 = .ok (.aload_n 1, 1) := by decide +kernel
theorem dL_law_441 : decode cL_law 441 = .ok (.aload_n 0, 1) := by decide +kernel
theorem dL_law_442 : decode cL_law 442 = .ok (.iload_n 3, 1) := by decide +kernel
theorem dL_law_443 : decode cL_law 443 = .ok (.iconst 1, 1) := by decide +kernel
theorem dL_law_444 : decode cL_law 444 = .ok (.iadd, 1) := by decide +kernel
theorem dL_law_445 : decode cL_law 445 = .ok (.iaload, 1) := by decide +kernel
theorem dL_law_446 : decode cL_law 446 = .ok (.aload_n 0, 1) := by decide +kernel
theorem dL_law_447 : decode cL_law 447 = .ok (.iload_n 3, 1) := by decide +kernel
theorem dL_law_448 : decode cL_law 448 = .ok (.iconst 2, 1) := by decide +kernel
theorem dL_law_449 : decode cL_law 449 = .ok (.iadd, 1) := by decide +kernel
theorem dL_law_450 : decode cL_law 450 = .ok (.iaload, 1) := by decide +kernel
theorem dL_law_451 : decode cL_law 451 = .ok (.invokevirtual 51, 3) := by decide +kernel
theorem dL_law_454 : decode cL_law 454 = .ok (.aload_n 2, 1) := by decide +kernel
theorem dL_law_455 : decode cL_law 455 = .ok (.aload_n 0, 1) := by decide +kernel
theorem dL_law_456 : decode cL_law 456 = .ok (.iload_n 3, 1) := by decide +kernel
theorem dL_law_457 : decode cL_law 457 = .ok (.iconst 1, 1) := by decide +kernel
theorem dL_law_458 : decode cL_law 458 = .ok (.iadd, 1) := by decide +kernel
theorem dL_law_459 : decode cL_law 459 = .ok (.iaload, 1) := by decide +kernel
theorem dL_law_460 : decode cL_law 460 = .ok (.aload_n 0, 1) := by decide +kernel
theorem dL_law_461 : decode cL_law 461 = .ok (.iload_n 3, 1) := by decide +kernel
theorem dL_law_462 : decode cL_law 462 = .ok (.iconst 2, 1) := by decide +kernel
theorem dL_law_463 : decode cL_law 463 = .ok (.iadd, 1) := by decide +kernel
theorem dL_law_464 : decode cL_law 464 = .ok (.iaload, 1) := by decide +kernel
theorem dL_law_465 : decode cL_law 465 = .ok (.invokevirtual 55, 3) := by decide +kernel
theorem dL_law_468 : decode cL_law 468 = .ok (.if_icmp .eq 277, 3) := by decide +kernel
theorem dL_law_473 : decode cL_law 473 = .ok (.aload_n 1, 1) := by decide +kernel
theorem dL_law_474 : decode cL_law 474 = .ok (.aload_n 0, 1) := by decide +kernel
theorem dL_law_475 : decode cL_law 475 = .ok (.iload_n 3, 1) := by decide +kernel
theorem dL_law_476 : decode cL_law 476 = .ok (.iconst 1, 1) := by decide +kernel
theorem dL_law_477 : decode cL_law 477 = .ok (.iadd, 1) := by decide +kernel
theorem dL_law_478 : decode cL_law 478 = .ok (.iaload, 1) := by decide +kernel
theorem dL_law_479 : decode cL_law 479 = .ok (.invokevirtual 56, 3) := by decide +kernel
theorem dL_law_482 : decode cL_law 482 = .ok (.aload_n 2, 1) := by decide +kernel
theorem dL_law_483 : decode cL_law 483 = .ok (.aload_n 0, 1) := by decide +kernel
theorem dL_law_484 : decode cL_law 484 = .ok (.iload_n 3, 1) := by decide +kernel
theorem dL_law_485 : decode cL_law 485 = .ok (.iconst 1, 1) := by decide +kernel
theorem dL_law_486 : decode cL_law 486 = .ok (.iadd, 1) := by decide +kernel
theorem dL_law_487 : decode cL_law 487 = .ok (.iaload, 1) := by decide +kernel
theorem dL_law_488 : decode cL_law 488 = .ok (.invokevirtual 59, 3) := by decide +kernel
theorem dL_law_491 : decode cL_law 491 = .ok (.if_icmp .eq 254, 3) := by decide +kernel
theorem dL_law_496 : decode cL_law 496 = .ok (.aload_n 1, 1) := by decide +kernel
theorem dL_law_497 : decode cL_law 497 = .ok (.aload_n 0, 1) := by decide +kernel
theorem dL_law_498 : decode cL_law 498 = .ok (.iload_n 3, 1) := by decide +kernel
theorem dL_law_499 : decode cL_law 499 = .ok (.iconst 1, 1) := by decide +kernel
theorem dL_law_500 : decode cL_law 500 = .ok (.iadd, 1) := by decide +kernel
theorem dL_law_501 : decode cL_law 501 = .ok (.iaload, 1) := by decide +kernel
theorem dL_law_502 : decode cL_law 502 = .ok (.invokevirtual 60, 3) := by decide +kernel
theorem dL_law_505 : decode cL_law 505 = .ok (.aload_n 2, 1) := by decide +kernel
theorem dL_law_506 : decode cL_law 506 = .ok (.aload_n 0, 1) := by decide +kernel
theorem dL_law_507 : decode cL_law 507 = .ok (.iload_n 3, 1) := by decide +kernel
theorem dL_law_508 : decode cL_law 508 = .ok (.iconst 1, 1) := by decide +kernel
theorem dL_law_509 : decode cL_law 509 = .ok (.iadd, 1) := by decide +kernel
theorem dL_law_510 : decode cL_law 510 = .ok (.iaload, 1) := by decide +kernel
theorem dL_law_511 : decode cL_law 511 = .ok (.invokevirtual 63, 3) := by decide +kernel
theorem dL_law_514 : decode cL_law 514 = .ok (.if_icmp .eq 231, 3) := by decide +kernel
theorem dL_law_519 : decode cL_law 519 = .ok (.aload_n 1, 1) := by decide +kernel
theorem dL_law_520 : decode cL_law 520 = .ok (.aload_n 0, 1) := by decide +kernel
theorem dL_law_521 : decode cL_law 521 = .ok (.iload_n 3, 1) := by decide +kernel
theorem dL_law_522 : decode cL_law 522 = .ok (.iconst 1, 1) := by decide +kernel
theorem dL_law_523 : decode cL_law 523 = .ok (.iadd, 1) := by decide +kernel
theorem dL_law_524 : decode cL_law 524 = .ok (.iaload, 1) := by decide +kernel
theorem dL_law_525 : decode cL_law 525 = .ok (.invokevirtual 64, 3) := by decide +kernel
theorem dL_law_528 : decode cL_law 528 = .ok (.aload_n 2, 1) := by decide +kernel
theorem dL_law_529 : decode cL_law 529 = .ok (.aload_n 0, 1) := by decide +kernel
theorem dL_law_530 : decode cL_law 530 = .ok (.iload_n 3, 1) := by decide +kernel
theorem dL_law_531 : decode cL_law 531 = .ok (.iconst 1, 1) := by decide +kernel
theorem dL_law_532 : decode cL_law 532 = .ok (.iadd, 1) := by decide +kernel
theorem dL_law_533 : decode cL_law 533 = .ok (.iaload, 1) := by decide +kernel
theorem dL_law_534 : decode cL_law 534 = .ok (.invokevirtual 67, 3) := by decide +kernel
theorem dL_law_537 : decode cL_law 537 = .ok (.if_icmp .eq 208, 3) := by decide +kernel
theorem dL_law_542 : decode cL_law 542 = .ok (.aload_n 1, 1) := by decide +kernel
theorem dL_law_543 : decode cL_law 543 = .ok (.invokevirtual 68, 3) := by decide +kernel
theorem dL_law_546 : decode cL_law 546 = .ok (.aload_n 2, 1) := by decide +kernel
theorem dL_law_547 : decode cL_law 547 = .ok (.invokevirtual 71, 3) := by decide +kernel
theorem dL_law_550 : decode cL_law 550 = .ok (.if_icmp .eq 195, 3) := by decide +kernel
theorem dL_law_555 : decode cL_law 555 = .ok (.aload_n 1, 1) := by decide +kernel
theorem dL_law_556 : decode cL_law 556 = .ok (.aload_n 0, 1) := by decide +kernel
theorem dL_law_557 : decode cL_law 557 = .ok (.iload_n 3, 1) := by decide +kernel
theorem dL_law_558 : decode cL_law 558 = .ok (.iconst 1, 1) := by decide +kernel
theorem dL_law_559 : decode cL_law 559 = .ok (.iadd, 1) := by decide +kernel
theorem dL_law_560 : decode cL_law 560 = .ok (.iaload, 1) := by decide +kernel
theorem dL_law_561 : decode cL_law 561 = .ok (.invokevirtual 72, 3) := by decide +kernel
theorem dL_law_564 : decode cL_law 564 = .ok (.aload_n 2, 1) := by decide +kernel
theorem dL_law_565 : decode cL_law 565 = .ok (.aload_n 0, 1) := by decide +kernel
theorem dL_law_566 : decode cL_law 566 = .ok (.iload_n 3, 1) := by decide +kernel
theorem dL_law_567 : decode cL_law 567 = .ok (.iconst 1, 1) := by decide +kernel
theorem dL_law_568 : decode cL_law 568 = .ok (.iadd, 1) := by decide +kernel
theorem dL_law_569 : decode cL_law 569 = .ok (.iaload, 1) := by decide +kernel
theorem dL_law_570 : decode cL_law 570 = .ok (.invokevirtual 76, 3) := by decide +kernel
theorem dL_law_573 : decode cL_law 573 = .ok (.if_icmp .eq 172, 3) := by decide +kernel
theorem dL_law_578 : decode cL_law 578 = .ok (.aload_n 1, 1) := by decide +kernel
theorem dL_law_579 : decode cL_law 579 = .ok (.invokevirtual 77, 3) := by decide +kernel
theorem dL_law_582 : decode cL_law 582 = .ok (.aload_n 2, 1) := by decide +kernel
theorem dL_law_583 : decode cL_law 583 = .ok (.invokevirtual 80, 3) := by decide +kernel
theorem dL_law_586 : decode cL_law 586 = .ok (.if_icmp .eq 159, 3) := by decide +kernel
theorem dL_law_591 : decode cL_law 591 = .ok (.aload_n 1, 1) := by decide +kernel
theorem dL_law_592 : decode cL_law 592 = .ok (.invokevirtual 81, 3) := by decide +kernel
theorem dL_law_595 : decode cL_law 595 = .ok (.aload_n 2, 1) := by decide +kernel
theorem dL_law_596 : decode cL_law 596 = .ok (.invokevirtual 84, 3) := by decide +kernel
theorem dL_law_599 : decode cL_law 599 = .ok (.if_icmp .eq 146, 3) := by decide +kernel
theorem dL_law_604 : decode cL_law 604 = .ok (.aload_n 1, 1) := by decide +kernel
theorem dL_law_605 : decode cL_law 605 = .ok (.invokevirtual 85, 3) := by decide +kernel
theorem dL_law_608 : decode cL_law 608 = .ok (.aload_n 2, 1) := by decide +kernel
theorem dL_law_609 : decode cL_law 609 = .ok (.invokevirtual 89, 3) := by decide +kernel
theorem dL_law_612 : decode cL_law 612 = .ok (.if_icmp .eq 133, 3) := by decide +kernel
theorem dL_law_617 : decode cL_law 617 = .ok (.aload_n 1, 1) := by decide +kernel
theorem dL_law_618 : decode cL_law 618 = .ok (.invokevirtual 90, 3) := by decide +kernel
theorem dL_law_621 : decode cL_law 621 = .ok (.aload_n 2, 1) := by decide +kernel
theorem dL_law_622 : decode cL_law 622 = .ok (.invokevirtual 93, 3) := by decide +kernel
theorem dL_law_625 : decode cL_law 625 = .ok (.if_icmp .eq 120, 3) := by decide +kernel
theorem dL_law_630 : decode cL_law 630 = .ok (.aload_n 1, 1) := by decide +kernel
theorem dL_law_631 : decode cL_law 631 = .ok (.invokevirtual 94, 3) := by decide +kernel
theorem dL_law_634 : decode cL_law 634 = .ok (.aload_n 2, 1) := by decide +kernel
theorem dL_law_635 : decode cL_law 635 = .ok (.invokevirtual 97, 3) := by decide +kernel
theorem dL_law_638 : decode cL_law 638 = .ok (.if_icmp .eq 107, 3) := by decide +kernel
theorem dL_law_643 : decode cL_law 643 = .ok (.aload_n 1, 1) := by decide +kernel
theorem dL_law_644 : decode cL_law 644 = .ok (.invokevirtual 98, 3) := by decide +kernel
theorem dL_law_647 : decode cL_law 647 = .ok (.aload_n 2, 1) := by decide +kernel
theorem dL_law_648 : decode cL_law 648 = .ok (.invokevirtual 101, 3) := by decide +kernel
theorem dL_law_651 : decode cL_law 651 = .ok (.if_icmp .eq 94, 3) := by decide +kernel
theorem dL_law_656 : decode cL_law 656 = .ok (.aload_n 1, 1) := by decide +kernel
theorem dL_law_657 : decode cL_law 657 = .ok (.aload_n 0, 1) := by decide +kernel
theorem dL_law_658 : decode cL_law 658 = .ok (.iload_n 3, 1) := by decide +kernel
theorem dL_law_659 : decode cL_law 659 = .ok (.iconst 1, 1) := by decide +kernel
theorem dL_law_660 : decode cL_law 660 = .ok (.iadd, 1) := by decide +kernel
theorem dL_law_661 : decode cL_law 661 = .ok (.iaload, 1) := by decide +kernel
theorem dL_law_662 : decode cL_law 662 = .ok (.aload_n 0, 1) := by decide +kernel
theorem dL_law_663 : decode cL_law 663 = .ok (.iload_n 3, 1) := by decide +kernel
theorem dL_law_664 : decode cL_law 664 = .ok (.iconst 2, 1) := by decide +kernel
theorem dL_law_665 : decode cL_law 665 = .ok (.iadd, 1) := by decide +kernel
theorem dL_law_666 : decode cL_law 666 = .ok (.iaload, 1) := by decide +kernel
theorem dL_law_667 : decode cL_law 667 = .ok (.invokevirtual 102, 3) := by decide +kernel
theorem dL_law_670 : decode cL_law 670 = .ok (.aload_n 2, 1) := by decide +kernel
theorem dL_law_671 : decode cL_law 671 = .ok (.aload_n 0, 1) := by decide +kernel
theorem dL_law_672 : decode cL_law 672 = .ok (.iload_n 3, 1) := by decide +kernel
theorem dL_law_673 : decode cL_law 673 = .ok (.iconst 1, 1) := by decide +kernel
theorem dL_law_674 : decode cL_law 674 = .ok (.iadd, 1) := by decide +kernel
theorem dL_law_675 : decode cL_law 675 = .ok (.iaload, 1) := by decide +kernel
theorem dL_law_676 : decode cL_law 676 = .ok (.aload_n 0, 1) := by decide +kernel
theorem dL_law_677 : decode cL_law 677 = .ok (.iload_n 3, 1) := by decide +kernel
theorem dL_law_678 : decode cL_law 678 = .ok (.iconst 2, 1) := by decide +kernel
theorem dL_law_679 : decode cL_law 679 = .ok (.iadd, 1) := by decide +kernel
theorem dL_law_680 : decode cL_law 680 = .ok (.iaload, 1) := by decide +kernel
theorem dL_law_681 : decode cL_law 681 = .ok (.invokevirtual 105, 3) := by decide +kernel
theorem dL_law_684 : decode cL_law 684 = .ok (.if_icmp .eq 61, 3) := by decide +kernel
theorem dL_law_689 : decode cL_law 689 = .ok (.aload_n 1, 1) := by decide +kernel
theorem dL_law_690 : decode cL_law 690 = .ok (.aload_n 0, 1) := by decide +kernel
theorem dL_law_691 : decode cL_law 691 = .ok (.iload_n 3, 1) := by decide +kernel
theorem dL_law_692 : decode cL_law 692 = .ok (.iconst 1, 1) := by decide +kernel
theorem dL_law_693 : decode cL_law 693 = .ok (.iadd, 1) := by decide +kernel
theorem dL_law_694 : decode cL_law 694 = .ok (.iaload, 1) := by decide +kernel
theorem dL_law_695 : decode cL_law 695 = .ok (.invokevirtual 106, 3) := by decide +kernel
theorem dL_law_698 : decode cL_law 698 = .ok (.aload_n 2, 1) := by decide +kernel
theorem dL_law_699 : decode cL_law 699 = .ok (.aload_n 0, 1) := by decide +kernel
theorem dL_law_700 : decode cL_law 700 = .ok (.iload_n 3, 1) := by decide +kernel
theorem dL_law_701 : decode cL_law 701 = .ok (.iconst 1, 1) := by decide +kernel
theorem dL_law_702 : decode cL_law 702 = .ok (.iadd, 1) := by decide +kernel
theorem dL_law_703 : decode cL_law 703 = .ok (.iaload, 1) := by decide +kernel
theorem dL_law_704 : decode cL_law 704 = .ok (.invokevirtual 109, 3) := by decide +kernel
theorem dL_law_707 : decode cL_law 707 = .ok (.if_icmp .eq 38, 3) := by decide +kernel
theorem dL_law_712 : decode cL_law 712 = .ok (.aload_n 1, 1) := by decide +kernel
theorem dL_law_713 : decode cL_law 713 = .ok (.aload_n 0, 1) := by decide +kernel
theorem dL_law_714 : decode cL_law 714 = .ok (.iload_n 3, 1) := by decide +kernel
theorem dL_law_715 : decode cL_law 715 = .ok (.iconst 1, 1) := by decide +kernel
theorem dL_law_716 : decode cL_law 716 = .ok (.iadd, 1) := by decide +kernel
theorem dL_law_717 : decode cL_law 717 = .ok (.iaload, 1) := by decide +kernel
theorem dL_law_718 : decode cL_law 718 = .ok (.aload_n 0, 1) := by decide +kernel
theorem dL_law_719 : decode cL_law 719 = .ok (.iload_n 3, 1) := by decide +kernel
theorem dL_law_720 : decode cL_law 720 = .ok (.iconst 2, 1) := by decide +kernel
theorem dL_law_721 : decode cL_law 721 = .ok (.iadd, 1) := by decide +kernel
theorem dL_law_722 : decode cL_law 722 = .ok (.iaload, 1) := by decide +kernel
theorem dL_law_723 : decode cL_law 723 = .ok (.invokevirtual 110, 3) := by decide +kernel
theorem dL_law_726 : decode cL_law 726 = .ok (.aload_n 2, 1) := by decide +kernel
theorem dL_law_727 : decode cL_law 727 = .ok (.aload_n 0, 1) := by decide +kernel
theorem dL_law_728 : decode cL_law 728 = .ok (.iload_n 3, 1) := by decide +kernel
theorem dL_law_729 : decode cL_law 729 = .ok (.iconst 1, 1) := by decide +kernel
theorem dL_law_730 : decode cL_law 730 = .ok (.iadd, 1) := by decide +kernel
theorem dL_law_731 : decode cL_law 731 = .ok (.iaload, 1) := by decide +kernel
theorem dL_law_732 : decode cL_law 732 = .ok (.aload_n 0, 1) := by decide +kernel
theorem dL_law_733 : decode cL_law 733 = .ok (.iload_n 3, 1) := by decide +kernel
theorem dL_law_734 : decode cL_law 734 = .ok (.iconst 2, 1) := by decide +kernel
theorem dL_law_735 : decode cL_law 735 = .ok (.iadd, 1) := by decide +kernel
theorem dL_law_736 : decode cL_law 736 = .ok (.iaload, 1) := by decide +kernel
theorem dL_law_737 : decode cL_law 737 = .ok (.invokevirtual 113, 3) := by decide +kernel
theorem dL_law_740 : decode cL_law 740 = .ok (.if_icmp .eq 5, 3) := by decide +kernel
theorem dL_law_745 : decode cL_law 745 = .ok (.iinc 3 6, 3) := by decide +kernel
theorem dL_law_748 : decode cL_law 748 = .ok (.goto (-730), 3) := by decide +kernel
theorem dL_law_751 : decode cL_law 751 = .ok (.iconst 1, 1) := by decide +kernel
theorem dL_law_752 : decode cL_law 752 = .ok (.ireturn, 1) := by decide +kernel
end
section
/-! ===== my own kit: contracts of one form, calls in one row ===== -/
/-- the links between nest mates, which no method's word list holds -/
def kt_nw : List Cond := [.fieldLinkNest "KingTable$Ground" 40 "KingTable$Told" "signs" "[I" "KingTable",
  .fieldLinkNest "KingTable$Play" 63 "KingTable$Told" "signs" "[I" "KingTable",
  .fieldLinkNest "KingTable$Ground" 31 "KingTable$Told" "lines" "I" "KingTable",
  .fieldLinkNest "KingTable" 126 "KingTable$Told" "lines" "I" "KingTable",
  .fieldLinkNest "KingTable$Ground" 34 "KingTable$Told" "width" "I" "KingTable",
  .fieldLinkNest "KingTable$Play" 46 "KingTable$Laws" "goal" "I" "KingTable",
  .fieldLinkNest "KingTable$Rules" 111 "KingTable$Laws" "hard" "I" "KingTable",
  .fieldLinkNest "KingTable$Rules" 43 "KingTable$Laws" "kingTakes" "Z" "KingTable",
  .fieldLinkNest "KingTable$Rules" 58 "KingTable$Laws" "reach" "I" "KingTable",
  .fieldLinkNest "KingTable$Play" 100 "KingTable$Laws" "comeback" "I" "KingTable",
  .fieldLinkNest "KingTable$Rules" 52 "KingTable$Ground" "types" "[I" "KingTable",
  .fieldLinkNest "KingTable" 163 "KingTable$Ground" "types" "[I" "KingTable",
  .fieldLinkNest "KingTable$Rules" 55 "KingTable$Ground" "goals" "[Z" "KingTable",
  .fieldLinkNest "KingTable" 168 "KingTable$Ground" "goals" "[Z" "KingTable",
  .fieldLinkNest "KingTable$Solver" 115 "KingTable$Ground" "size" "I" "KingTable",
  .fieldLinkNest "KingTable$Rules" 49 "KingTable$Ground" "size" "I" "KingTable",
  .fieldLinkNest "KingTable$Solver" 82 "KingTable$Ground" "mostMoves" "I" "KingTable",
  .fieldLinkNest "KingTable$Ring" 39 "KingTable$Rules" "ground" "LKingTable$Ground;" "KingTable",
  .fieldLinkNest "KingTable$Play" 40 "KingTable$Rules" "ground" "LKingTable$Ground;" "KingTable",
  .fieldLinkNest "KingTable$Solver" 78 "KingTable$Rules" "ground" "LKingTable$Ground;" "KingTable",
  .fieldLinkNest "KingTable" 159 "KingTable$Rules" "ground" "LKingTable$Ground;" "KingTable",
  .fieldLinkNest "KingTable" 135 "KingTable$Rules" "kinds" "[I" "KingTable",
  .fieldLinkNest "KingTable$Ring" 59 "KingTable$Rules" "sides" "[I" "KingTable",
  .fieldLinkNest "KingTable$Play" 110 "KingTable$Rules" "sides" "[I" "KingTable",
  .fieldLinkNest "KingTable$Solver" 150 "KingTable$Rules" "sides" "[I" "KingTable",
  .fieldLinkNest "KingTable" 178 "KingTable$Rules" "sides" "[I" "KingTable",
  .fieldLinkNest "KingTable" 152 "KingTable$Rules" "takers" "[Z" "KingTable",
  .fieldLinkNest "KingTable$Solver" 73 "KingTable$Rules" "total" "I" "KingTable",
  .fieldLinkNest "KingTable$Play" 71 "KingTable$Rules" "total" "I" "KingTable",
  .fieldLinkNest "KingTable" 90 "KingTable$Rules" "total" "I" "KingTable",
  .fieldLinkNest "KingTable$Ring" 23 "KingTable$Rules" "king" "I" "KingTable",
  .fieldLinkNest "KingTable$Log" 55 "KingTable$Rules" "victims" "[I" "KingTable",
  .fieldLinkNest "KingTable$Solver" 177 "KingTable$Rules" "victims" "[I" "KingTable",
  .fieldLinkNest "KingTable$Play" 178 "KingTable$Rules" "victims" "[I" "KingTable",
  .fieldLinkNest "KingTable$Log" 50 "KingTable$Rules" "victimCount" "I" "KingTable",
  .fieldLinkNest "KingTable$Solver" 174 "KingTable$Rules" "victimCount" "I" "KingTable",
  .fieldLinkNest "KingTable$Play" 175 "KingTable$Rules" "victimCount" "I" "KingTable",
  .fieldLinkNest "KingTable$Log" 69 "KingTable$Stand" "fields" "[I" "KingTable",
  .fieldLinkNest "KingTable$Rules" 117 "KingTable$Stand" "holders" "[I" "KingTable",
  .fieldLinkNest "KingTable$Play" 82 "KingTable$Stand" "turn" "I" "KingTable",
  .fieldLinkNest "KingTable$Solver" 125 "KingTable$Stand" "turn" "I" "KingTable",
  .fieldLinkNest "KingTable$Log" 66 "KingTable$Stand" "turn" "I" "KingTable",
  .fieldLinkNest "KingTable$Rules" 82 "KingTable$Stand" "turn" "I" "KingTable",
  .fieldLinkNest "KingTable$Play" 185 "KingTable$Log" "movers" "[I" "KingTable",
  .fieldLinkNest "KingTable$Play" 188 "KingTable$Log" "tos" "[I" "KingTable",
  .fieldLinkNest "KingTable" 115 "KingTable$Log" "done" "I" "KingTable",
  .fieldLinkNest "KingTable$Play" 159 "KingTable$Log" "done" "I" "KingTable",
  .fieldLinkNest "KingTable" 123 "KingTable$Log" "known" "I" "KingTable",
  .fieldLinkNest "KingTable$Play" 162 "KingTable$Log" "known" "I" "KingTable",
  .fieldLinkNest "KingTable" 139 "KingTable$Play" "now" "LKingTable$Stand;" "KingTable",
  .fieldLinkNest "KingTable" 111 "KingTable$Play" "log" "LKingTable$Log;" "KingTable",
  .fieldLinkNest "KingTable" 101 "KingTable$Play" "state" "I" "KingTable",
  .fieldLinkNest "KingTable$Solver" 180 "KingTable$Links" "heads" "[I" "KingTable",
  .fieldLinkNest "KingTable$Solver" 186 "KingTable$Links" "sources" "[I" "KingTable",
  .fieldLinkNest "KingTable$Solver" 192 "KingTable$Links" "nexts" "[I" "KingTable",
  .fieldLinkNest "KingTable$Solver" 183 "KingTable$Links" "used" "I" "KingTable",
  .methodLinkNest "KingTable" 9 ⟨"KingTable$Told", "<init>", "()V"⟩ "KingTable",
  .methodLinkNest "KingTable" 18 ⟨"KingTable$Laws", "<init>", "()V"⟩ "KingTable",
  .methodLinkNest "KingTable$Rules" 11 ⟨"KingTable$Ground", "<init>", "()V"⟩ "KingTable",
  .methodLinkNest "KingTable$Play" 20 ⟨"KingTable$Log", "<init>", "()V"⟩ "KingTable",
  .methodLinkNest "KingTable$Solver" 20 ⟨"KingTable$Links", "<init>", "()V"⟩ "KingTable",
  .methodLinkNest "KingTable$Told" 36 ⟨"KingTable", "kindOfSign", "(I)I"⟩ "KingTable",
  .methodLinkNest "KingTable$Told" 40 ⟨"KingTable", "typeOfSign", "(I)I"⟩ "KingTable",
  .methodLinkNest "KingTable$Ground" 43 ⟨"KingTable", "typeOfSign", "(I)I"⟩ "KingTable",
  .methodLinkNest "KingTable$Play" 67 ⟨"KingTable", "kindOfSign", "(I)I"⟩ "KingTable",
  .methodLinkNest "KingTable$Solver" 213 ⟨"KingTable", "isSide", "(I)Z"⟩ "KingTable"]
def kt_isN (w : Cond) : Bool := match w with
  | .fieldLinkNest _ _ _ _ _ _ => true
  | .methodLinkNest _ _ _ _ => true
  | _ => false
def kt_NW (U : State) : Prop := ∀ w ∈ kt_nw, va_Nw w U
theorem kt_nw_ok : ∀ w ∈ kt_nw, kt_isN w = true := by decide +kernel
theorem kt_NW.warm {s U : State} (hW : s.WarmedH U.vm) (h : kt_NW s) : kt_NW U := by
  intro w hw
  have h1 := kt_nw_ok w hw
  have h2 := h w hw
  cases w <;> first | exact va_Nw.warmF hW h2 | exact va_Nw.warmM hW h2 | (exact absurd h1 (by simp [kt_isN]))
theorem kt_NW.same {s U : State} (hv : s.vm = U.vm) (h : kt_NW s) : kt_NW U := by
  intro w hw
  have h1 := kt_nw_ok w hw
  have h2 := h w hw
  cases w <;> first | exact va_Nw.same rfl hv h2 | (exact absurd h1 (by simp [kt_isN]))
theorem kt_NW.of {s : State} {args : Array Value} (hts : ∀ w ∈ tables_1, w.before args s = true) (hin : ∀ w ∈ kt_nw, w ∈ tables_1) : kt_NW s := by
  intro w hw
  have h1 := kt_nw_ok w hw
  have h2 := hts w (hin w hw)
  cases w <;> first | exact va_Nw.of rfl h2 | (exact absurd h1 (by simp [kt_isN]))
abbrev kt_ty (cI cZ cB : ClassId) : List (ClassId × FieldType) := [(cI, .int), (cZ, .boolean), (cB, .byte)]
def kt_In (D : va_G) (tys : List (ClassId × FieldType)) (ws : va_W) (sz : Nat) (U : State) : Prop := U.heap.size = sz ∧ va_P D vwCl ws U.heap ∧ va_K D vwCl tys U ∧ va_D (fun _ => True) ws ∧ kt_NW U
def kt_Out (D : va_G) (A : Nat → Prop) (ws : va_W) (t : State) : Prop := va_P D vwCl ws t.heap ∧ va_D A ws
theorem kt_blind {D : va_G} {tys : List (ClassId × FieldType)} {ws : va_W} {sz : Nat} {av : List Value} : FrameBlind (va_Pc av (kt_In D tys ws sz)) := by
  intro a U g mk q
  obtain ⟨q0, q1, qP, qK, qD, qN⟩ := q
  exact ⟨q0, q1, qP, va_K.moved (u := U) (U := U.calling g mk a) (Vm.Alike.refl U.vm) qK, qD, kt_NW.same (s := U) (U := U.calling g mk a) rfl qN⟩
/-- a contract with an int (or boolean) answer, one with none, one with a long -/
def kt_Mi {S : Type} (l : Launch) (y : MethodName) (wy : List Cond) (rm : Room) (D : va_G) (tys : List (ClassId × FieldType)) (av : List Value) (sz : Nat) (ws : va_W) (post : Int32 → S → Prop) (out : S → va_W) (mc ms : Nat) : Prop :=
  Met l y wy rm (va_Pc av (kt_In D tys ws sz)) (va_Qi post (fun u t => kt_Out D (va_A ws sz) (out u) t) (va_A ws sz)) mc ms (va_A ws sz)
def kt_Mv {S : Type} (l : Launch) (y : MethodName) (wy : List Cond) (rm : Room) (D : va_G) (tys : List (ClassId × FieldType)) (av : List Value) (sz : Nat) (ws : va_W) (post : S → Prop) (out : S → va_W) (mc ms : Nat) : Prop :=
  Met l y wy rm (va_Pc av (kt_In D tys ws sz)) (va_Qv post (fun u t => kt_Out D (va_A ws sz) (out u) t) (va_A ws sz)) mc ms (va_A ws sz)
def kt_Ml {S : Type} (l : Launch) (y : MethodName) (wy : List Cond) (rm : Room) (D : va_G) (tys : List (ClassId × FieldType)) (av : List Value) (sz : Nat) (ws : va_W) (post : Int64 → S → Prop) (out : S → va_W) (mc ms : Nat) : Prop :=
  Met l y wy rm (va_Pc av (kt_In D tys ws sz)) (va_Ql post (fun u t => kt_Out D (va_A ws sz) (out u) t) (va_A ws sz)) mc ms (va_A ws sz)
/-- what holds in a method's body from its entry on -/
def kt_At (p : Program) (s : State) (m : MethodId) (meth : Method) (c : Code) (A : Nat → Prop) (y : MethodName) (cc : ByteArray) (maxL : Nat) (ret : Option FieldType) (wy : List Cond) (D : va_G) (tys : List (ClassId × FieldType)) (av : List Value) : Prop :=
  p.tables.exec = Jvm.exec ∧ c.code = cc ∧ meth.sig.returnType = ret ∧ c.maxLocals = maxL ∧ s.vm.findClass y.cls = some m.cls ∧ (∀ w ∈ wy, w.before av.toArray s = true) ∧ kt_NW s ∧ va_K D vwCl tys s ∧ meth.locks = false ∧ meth.name = y.name ∧ ∀ q : Nat, s.heap.size ≤ q → A q
theorem kt_Mi.of {S : Type} {l : Launch} {y : MethodName} {wy wy' : List Cond} {rm : Room} {D : va_G} {tys : List (ClassId × FieldType)} {av : List Value} {sz : Nat} {ws : va_W} {post : Int32 → S → Prop} {out : S → va_W} {mc ms : Nat} {cc : ByteArray} {maxL : Nat} {ret : Option FieldType} (hy : plainName y.cls = true) (hw : wy = Cond.code y cc maxL ret :: wy') (hn : (lg_sl av).length ≤ maxL)
    (body : ∀ (p : Program) (e : Env) (s : State) (m : MethodId) (below : List Frame) (meth : Method) (c : Code) (A : Nat → Prop) (ls : Array Slot) (H : Heap), kt_At p s m meth c A y cc maxL ret wy D tys av → va_P D vwCl ws H → va_D A ws → va_S A s.heap H [] → lv_has ls maxL (lv_args 0 av) → W p l e rm s m av.toArray below meth c H [] 0 0 (MQ below (va_Qi post (fun u t => kt_Out D A (out u) t) A) av.toArray s mc ms A) (F0 m 0 ls [])) : kt_Mi l y wy rm D tys av sz ws post out mc ms := by
  refine Met.ofW (cc := cc) (maxL := maxL) (ret := ret) hy hw ?_
  intro p e s m args below meth c s₁ B hml hv
  obtain ⟨rfl, hsz, hP, hK, hD0, hN⟩ := hv
  subst hsz
  have hD := hD0.self (sz := s.heap.size)
  have hA : ∀ q : Nat, s.heap.size ≤ q → va_A ws s.heap.size q := fun q h => Or.inr h
  have hl := lv_entry av (n := maxL) hn
  rw [lg_entry_eq]
  exact body p e s m below meth c _ _ _ ⟨B.exec, B.bytes, B.returns, hml, findClass_of_methodNamed B.named, atoms_spec (ws := wy) B.pre, hN, hK, B.notSynchronized, (name_of_methodNamed B.named B.method).1, hA⟩ hP hD va_S.rf hl
theorem kt_Mv.of {S : Type} {l : Launch} {y : MethodName} {wy wy' : List Cond} {rm : Room} {D : va_G} {tys : List (ClassId × FieldType)} {av : List Value} {sz : Nat} {ws : va_W} {post : S → Prop} {out : S → va_W} {mc ms : Nat} {cc : ByteArray} {maxL : Nat} {ret : Option FieldType} (hy : plainName y.cls = true) (hw : wy = Cond.code y cc maxL ret :: wy') (hn : (lg_sl av).length ≤ maxL)
    (body : ∀ (p : Program) (e : Env) (s : State) (m : MethodId) (below : List Frame) (meth : Method) (c : Code) (A : Nat → Prop) (ls : Array Slot) (H : Heap), kt_At p s m meth c A y cc maxL ret wy D tys av → va_P D vwCl ws H → va_D A ws → va_S A s.heap H [] → lv_has ls maxL (lv_args 0 av) → W p l e rm s m av.toArray below meth c H [] 0 0 (MQ below (va_Qv post (fun u t => kt_Out D A (out u) t) A) av.toArray s mc ms A) (F0 m 0 ls [])) : kt_Mv l y wy rm D tys av sz ws post out mc ms := by
  refine Met.ofW (cc := cc) (maxL := maxL) (ret := ret) hy hw ?_
  intro p e s m args below meth c s₁ B hml hv
  obtain ⟨rfl, hsz, hP, hK, hD0, hN⟩ := hv
  subst hsz
  have hD := hD0.self (sz := s.heap.size)
  have hA : ∀ q : Nat, s.heap.size ≤ q → va_A ws s.heap.size q := fun q h => Or.inr h
  have hl := lv_entry av (n := maxL) hn
  rw [lg_entry_eq]
  exact body p e s m below meth c _ _ _ ⟨B.exec, B.bytes, B.returns, hml, findClass_of_methodNamed B.named, atoms_spec (ws := wy) B.pre, hN, hK, B.notSynchronized, (name_of_methodNamed B.named B.method).1, hA⟩ hP hD va_S.rf hl
theorem kt_Ml.of {S : Type} {l : Launch} {y : MethodName} {wy wy' : List Cond} {rm : Room} {D : va_G} {tys : List (ClassId × FieldType)} {av : List Value} {sz : Nat} {ws : va_W} {post : Int64 → S → Prop} {out : S → va_W} {mc ms : Nat} {cc : ByteArray} {maxL : Nat} {ret : Option FieldType} (hy : plainName y.cls = true) (hw : wy = Cond.code y cc maxL ret :: wy') (hn : (lg_sl av).length ≤ maxL)
    (body : ∀ (p : Program) (e : Env) (s : State) (m : MethodId) (below : List Frame) (meth : Method) (c : Code) (A : Nat → Prop) (ls : Array Slot) (H : Heap), kt_At p s m meth c A y cc maxL ret wy D tys av → va_P D vwCl ws H → va_D A ws → va_S A s.heap H [] → lv_has ls maxL (lv_args 0 av) → W p l e rm s m av.toArray below meth c H [] 0 0 (MQ below (va_Ql post (fun u t => kt_Out D A (out u) t) A) av.toArray s mc ms A) (F0 m 0 ls [])) : kt_Ml l y wy rm D tys av sz ws post out mc ms := by
  refine Met.ofW (cc := cc) (maxL := maxL) (ret := ret) hy hw ?_
  intro p e s m args below meth c s₁ B hml hv
  obtain ⟨rfl, hsz, hP, hK, hD0, hN⟩ := hv
  subst hsz
  have hD := hD0.self (sz := s.heap.size)
  have hA : ∀ q : Nat, s.heap.size ≤ q → va_A ws s.heap.size q := fun q h => Or.inr h
  have hl := lv_entry av (n := maxL) hn
  rw [lg_entry_eq]
  exact body p e s m below meth c _ _ _ ⟨B.exec, B.bytes, B.returns, hml, findClass_of_methodNamed B.named, atoms_spec (ws := wy) B.pre, hN, hK, B.notSynchronized, (name_of_methodNamed B.named B.method).1, hA⟩ hP hD va_S.rf hl
section KT
variable {p : Program} {l : Launch} {e : Env} {R : Room} {s : State} {m : MethodId} {args : Array Value} {below : List Frame} {meth : Method} {c : Code} {H : Heap} {locs : List Loc} {cells slots : Nat} {Q : State → Prop}
variable {pc : Nat} {ls : Array Slot} {rest st0 : List Value} {a : Array Value} {A : Nat → Prop} {H0 : Heap} {mc ms : Nat} {D : va_G} {tys : List (ClassId × FieldType)} {ws wc wr : va_W} {cc : ByteArray}
theorem kt_ri {S : Type} {post : Int32 → S → Prop} {out : S → va_W} {v : Int32} (u : S) (hx : p.tables.exec = Jvm.exec) (hb : c.code = cc) (hr : meth.sig.returnType = some .int) (hlocks : meth.locks = false) (hS : va_S A s.heap H locs) (hdg : decode cc pc = .ok (.ireturn, 1)) (hP : va_P D vwCl (out u) H) (hD : va_D A (out u)) (hp : post v u) :
    W p l e R s m args below meth c H locs cells slots (MQ below (va_Qi post (fun u t => kt_Out D A (out u) t) A) args s cells slots A) (F0 m pc ls [.int v]) :=
  W.iret hx hb hr (fun t ht _ => ⟨⟨v, u, rfl, hp, by rw [ht]; exact hP, hD⟩, hS.F ht⟩) hS.2.2 hdg hlocks
theorem kt_rz {S : Type} {post : Int32 → S → Prop} {out : S → va_W} {v : Int32} (u : S) (hx : p.tables.exec = Jvm.exec) (hb : c.code = cc) (hr : meth.sig.returnType = some .boolean) (hlocks : meth.locks = false) (hS : va_S A s.heap H locs) (hdg : decode cc pc = .ok (.ireturn, 1)) (hP : va_P D vwCl (out u) H) (hD : va_D A (out u)) (hp : post v u) (hn : narrow .boolean (.int v) = .int v) :
    W p l e R s m args below meth c H locs cells slots (MQ below (va_Qi post (fun u t => kt_Out D A (out u) t) A) args s cells slots A) (F0 m pc ls [.int v]) :=
  W.zret hx hb hr hn (fun t ht _ => ⟨⟨v, u, rfl, hp, by rw [ht]; exact hP, hD⟩, hS.F ht⟩) hS.2.2 hdg hlocks
theorem kt_rl {S : Type} {post : Int64 → S → Prop} {out : S → va_W} {v : Int64} (u : S) (hx : p.tables.exec = Jvm.exec) (hb : c.code = cc) (hr : meth.sig.returnType = some .long) (hlocks : meth.locks = false) (hS : va_S A s.heap H locs) (hdg : decode cc pc = .ok (.lreturn, 1)) (hP : va_P D vwCl (out u) H) (hD : va_D A (out u)) (hp : post v u) :
    W p l e R s m args below meth c H locs cells slots (MQ below (va_Ql post (fun u t => kt_Out D A (out u) t) A) args s cells slots A) (F0 m pc ls [.long v]) :=
  W.lret hx hb hr (fun t ht _ => ⟨⟨v, u, rfl, hp, by rw [ht]; exact hP, hD⟩, hS.F ht⟩) hS.2.2 hdg hlocks
theorem kt_rv {S : Type} {post : S → Prop} {out : S → va_W} (u : S) (hx : p.tables.exec = Jvm.exec) (hb : c.code = cc) (hr : meth.sig.returnType = none) (hlocks : meth.locks = false) (hS : va_S A s.heap H locs) (hdg : decode cc pc = .ok (.return_, 1)) (hP : va_P D vwCl (out u) H) (hD : va_D A (out u)) (hp : post u) :
    W p l e R s m args below meth c H locs cells slots (MQ below (va_Qv post (fun u t => kt_Out D A (out u) t) A) args s cells slots A) (F0 m pc ls []) :=
  W.vret hx hb hr (fun t ht _ => ⟨⟨u, rfl, hp, by rw [ht]; exact hP, hD⟩, hS.F ht⟩) hS.2.2 hdg hlocks
theorem kt_fm {is : List Nat} (h : is.map (fun i => ws[i]?) = wc.map some) : is.filterMap (fun i => ws[i]?) = wc := by
  have h1 : is.filterMap (fun i => ws[i]?) = (is.map (fun i => ws[i]?)).filterMap id := by rw [List.filterMap_map]; rfl
  rw [h1, h, List.filterMap_map]
  exact List.filterMap_some
theorem kt_pure {D : va_G} {H1 : Heap} (hP : va_P D vwCl ws H) (hD : va_D A ws) (is : List Nat) (hC : is.map (fun i => ws[i]?) = wc.map some) (hk : ∀ q : Nat, q < H.size → ¬ va_A wc H.size q → H1[q]? = H[q]?) (hP1 : va_P D vwCl wc H1) : va_P D vwCl ws H1 := by
  intro k q hk1
  by_cases hq : ∃ (j : Nat) (e : va_E), wc[j]? = some (q.1, e)
  · obtain ⟨j, e, hj⟩ := hq
    have h1 : (is.map (fun i => ws[i]?))[j]? = some (some (q.1, e)) := by rw [hC, List.getElem?_map, hj]; rfl
    rw [List.getElem?_map] at h1
    cases hi : is[j]? with
    | none => rw [hi] at h1; cases h1
    | some i =>
      rw [hi] at h1
      have h2 : ws[i]? = some (q.1, e) := Option.some.inj h1
      have h3 : i = k := hD.1 i k _ _ h2 hk1 rfl
      subst h3
      have h4 : q = (q.1, e) := Option.some.inj (hk1.symm.trans h2)
      rw [h4]
      exact hP1 j _ hj
  · exact (hP k q hk1).kept (hk q.1 (hP k q hk1).lt (fun h => h.elim hq (fun h2 => absurd (hP k q hk1).lt (Nat.not_lt.mpr h2))))
theorem kt_preV {b : Addr} {As : List Value} (hN : kt_NW s) (hK : va_K D vwCl tys s) (hPc : va_P D vwCl wc H) (hDc : va_D A wc) (q0 : Nat) {ci : Nat} {q : vw_C} {fs : List Value} (hc : vwCl[ci]? = some q) (he : wc[q0]? = some (b, .inr (ci, fs))) : PreV s H q.1 b (va_Pc (.ref b :: As) (kt_In D tys wc H.size)) As :=
  ⟨kt_blind, va_recv hK hPc hc he, fun U hU hW => ⟨rfl, by rw [hU], by rw [hU]; exact hPc, va_K.moved hW.alike hK, hDc.weaken (fun _ _ _ _ => trivial), hN.warm hW⟩⟩
theorem kt_preS {As : List Value} (hN : kt_NW s) (hK : va_K D vwCl tys s) (hPc : va_P D vwCl wc H) (hDc : va_D A wc) : PreS s H (va_Pc As (kt_In D tys wc H.size)) As :=
  ⟨kt_blind, fun U hU hW => ⟨rfl, by rw [hU], by rw [hU]; exact hPc, va_K.moved hW.alike hK, hDc.weaken (fun _ _ _ _ => trivial), hN.warm hW⟩⟩
theorem kt_bi {S : Type} {post : Int32 → S → Prop} {out : S → va_W} (isC isR : List Nat) (hP : va_P D vwCl ws H) (hD : va_D A ws) (hS : va_S A H0 H locs) (hA : ∀ q, H0.size ≤ q → A q) (hC : isC.map (fun i => ws[i]?) = wc.map some) (hR : isR.map (fun i => ws[i]?) = wr.map some) (hnC : va_nd isC = true) (hnR : va_nd isR = true) (hdis : ∀ i ∈ isR, i ∉ isC)
    (hr : va_P D vwCl wc H → va_D A wc → va_Run p l e R s m args below meth c H locs cells slots mc ms (F0 m pc ls st0) rest (va_Qi post (fun u t => kt_Out D (va_A wc H.size) (out u) t) (va_A wc H.size) a) (va_A wc H.size))
    (kk : ∀ (r : Int32) (u : S) (H1 : Heap) (locs1 : List Loc), post r u → va_P D vwCl (wr ++ out u) H1 → va_D A (wr ++ out u) → va_S A H0 H1 locs1 → W p l e R s m args below meth c H1 locs1 (cells + mc) (slots + ms) Q (F0 m (pc + 3) ls (.int r :: rest))) : W p l e R s m args below meth c H locs cells slots Q (F0 m pc ls st0) := by
  have hFc := va_free hD hS hA isC hC
  refine va_calli (hr (hP.sub isC (kt_fm hC)) (hD.sub isC hnC hC)) hS (fun q _ h => hFc q h) hFc (fun r u t H1 locs1 ht hvm hw hB hz1 hk1 hS => ?_)
  obtain ⟨hP1, hD1⟩ := hB
  rw [ht] at hP1
  obtain ⟨hP, hD⟩ := va_join hP hD isC isR hC hR hnR hdis hk1 hFc hP1 hD1
  exact kk r u H1 locs1 hw hP hD hS
theorem kt_pi {S : Type} {post : Int32 → S → Prop} (isC : List Nat) (hP : va_P D vwCl ws H) (hD : va_D A ws) (hS : va_S A H0 H locs) (hA : ∀ q, H0.size ≤ q → A q) (hC : isC.map (fun i => ws[i]?) = wc.map some) (hnC : va_nd isC = true)
    (hr : va_P D vwCl wc H → va_D A wc → va_Run p l e R s m args below meth c H locs cells slots mc ms (F0 m pc ls st0) rest (va_Qi post (fun _ t => kt_Out D (va_A wc H.size) wc t) (va_A wc H.size) a) (va_A wc H.size))
    (kk : ∀ (r : Int32) (u : S) (H1 : Heap) (locs1 : List Loc), post r u → va_P D vwCl ws H1 → va_S A H0 H1 locs1 → W p l e R s m args below meth c H1 locs1 (cells + mc) (slots + ms) Q (F0 m (pc + 3) ls (.int r :: rest))) : W p l e R s m args below meth c H locs cells slots Q (F0 m pc ls st0) := by
  have hFc := va_free hD hS hA isC hC
  refine va_calli (hr (hP.sub isC (kt_fm hC)) (hD.sub isC hnC hC)) hS (fun q _ h => hFc q h) hFc (fun r u t H1 locs1 ht hvm hw hB hz1 hk1 hS => ?_)
  obtain ⟨hP1, hD1⟩ := hB
  rw [ht] at hP1
  exact kk r u H1 locs1 hw (kt_pure hP hD isC hC hk1 hP1) hS
theorem kt_bv {S : Type} {post : S → Prop} {out : S → va_W} (isC isR : List Nat) (hP : va_P D vwCl ws H) (hD : va_D A ws) (hS : va_S A H0 H locs) (hA : ∀ q, H0.size ≤ q → A q) (hC : isC.map (fun i => ws[i]?) = wc.map some) (hR : isR.map (fun i => ws[i]?) = wr.map some) (hnC : va_nd isC = true) (hnR : va_nd isR = true) (hdis : ∀ i ∈ isR, i ∉ isC)
    (hr : va_P D vwCl wc H → va_D A wc → va_Run p l e R s m args below meth c H locs cells slots mc ms (F0 m pc ls st0) rest (va_Qv post (fun u t => kt_Out D (va_A wc H.size) (out u) t) (va_A wc H.size) a) (va_A wc H.size))
    (kk : ∀ (u : S) (H1 : Heap) (locs1 : List Loc), post u → va_P D vwCl (wr ++ out u) H1 → va_D A (wr ++ out u) → va_S A H0 H1 locs1 → W p l e R s m args below meth c H1 locs1 (cells + mc) (slots + ms) Q (F0 m (pc + 3) ls rest)) : W p l e R s m args below meth c H locs cells slots Q (F0 m pc ls st0) := by
  have hFc := va_free hD hS hA isC hC
  refine va_callv (hr (hP.sub isC (kt_fm hC)) (hD.sub isC hnC hC)) hS (fun q _ h => hFc q h) hFc (fun u t H1 locs1 ht hvm hw hB hz1 hk1 hS => ?_)
  obtain ⟨hP1, hD1⟩ := hB
  rw [ht] at hP1
  obtain ⟨hP, hD⟩ := va_join hP hD isC isR hC hR hnR hdis hk1 hFc hP1 hD1
  exact kk u H1 locs1 hw hP hD hS
theorem kt_pv {S : Type} {post : S → Prop} (isC : List Nat) (hP : va_P D vwCl ws H) (hD : va_D A ws) (hS : va_S A H0 H locs) (hA : ∀ q, H0.size ≤ q → A q) (hC : isC.map (fun i => ws[i]?) = wc.map some) (hnC : va_nd isC = true)
    (hr : va_P D vwCl wc H → va_D A wc → va_Run p l e R s m args below meth c H locs cells slots mc ms (F0 m pc ls st0) rest (va_Qv post (fun _ t => kt_Out D (va_A wc H.size) wc t) (va_A wc H.size) a) (va_A wc H.size))
    (kk : ∀ (u : S) (H1 : Heap) (locs1 : List Loc), post u → va_P D vwCl ws H1 → va_S A H0 H1 locs1 → W p l e R s m args below meth c H1 locs1 (cells + mc) (slots + ms) Q (F0 m (pc + 3) ls rest)) : W p l e R s m args below meth c H locs cells slots Q (F0 m pc ls st0) := by
  have hFc := va_free hD hS hA isC hC
  refine va_callv (hr (hP.sub isC (kt_fm hC)) (hD.sub isC hnC hC)) hS (fun q _ h => hFc q h) hFc (fun u t H1 locs1 ht hvm hw hB hz1 hk1 hS => ?_)
  obtain ⟨hP1, hD1⟩ := hB
  rw [ht] at hP1
  exact kk u H1 locs1 hw (kt_pure hP hD isC hC hk1 hP1) hS
theorem kt_bl {S : Type} {post : Int64 → S → Prop} {out : S → va_W} (isC isR : List Nat) (hP : va_P D vwCl ws H) (hD : va_D A ws) (hS : va_S A H0 H locs) (hA : ∀ q, H0.size ≤ q → A q) (hC : isC.map (fun i => ws[i]?) = wc.map some) (hR : isR.map (fun i => ws[i]?) = wr.map some) (hnC : va_nd isC = true) (hnR : va_nd isR = true) (hdis : ∀ i ∈ isR, i ∉ isC)
    (hr : va_P D vwCl wc H → va_D A wc → va_Run p l e R s m args below meth c H locs cells slots mc ms (F0 m pc ls st0) rest (va_Ql post (fun u t => kt_Out D (va_A wc H.size) (out u) t) (va_A wc H.size) a) (va_A wc H.size))
    (kk : ∀ (r : Int64) (u : S) (H1 : Heap) (locs1 : List Loc), post r u → va_P D vwCl (wr ++ out u) H1 → va_D A (wr ++ out u) → va_S A H0 H1 locs1 → W p l e R s m args below meth c H1 locs1 (cells + mc) (slots + ms) Q (F0 m (pc + 3) ls (.long r :: rest))) : W p l e R s m args below meth c H locs cells slots Q (F0 m pc ls st0) := by
  have hFc := va_free hD hS hA isC hC
  refine va_calll (hr (hP.sub isC (kt_fm hC)) (hD.sub isC hnC hC)) hS (fun q _ h => hFc q h) hFc (fun r u t H1 locs1 ht hvm hw hB hz1 hk1 hS => ?_)
  obtain ⟨hP1, hD1⟩ := hB
  rw [ht] at hP1
  obtain ⟨hP, hD⟩ := va_join hP hD isC isR hC hR hnR hdis hk1 hFc hP1 hD1
  exact kk r u H1 locs1 hw hP hD hS
theorem kt_pl {S : Type} {post : Int64 → S → Prop} (isC : List Nat) (hP : va_P D vwCl ws H) (hD : va_D A ws) (hS : va_S A H0 H locs) (hA : ∀ q, H0.size ≤ q → A q) (hC : isC.map (fun i => ws[i]?) = wc.map some) (hnC : va_nd isC = true)
    (hr : va_P D vwCl wc H → va_D A wc → va_Run p l e R s m args below meth c H locs cells slots mc ms (F0 m pc ls st0) rest (va_Ql post (fun _ t => kt_Out D (va_A wc H.size) wc t) (va_A wc H.size) a) (va_A wc H.size))
    (kk : ∀ (r : Int64) (u : S) (H1 : Heap) (locs1 : List Loc), post r u → va_P D vwCl ws H1 → va_S A H0 H1 locs1 → W p l e R s m args below meth c H1 locs1 (cells + mc) (slots + ms) Q (F0 m (pc + 3) ls (.long r :: rest))) : W p l e R s m args below meth c H locs cells slots Q (F0 m pc ls st0) := by
  have hFc := va_free hD hS hA isC hC
  refine va_calll (hr (hP.sub isC (kt_fm hC)) (hD.sub isC hnC hC)) hS (fun q _ h => hFc q h) hFc (fun r u t H1 locs1 ht hvm hw hB hz1 hk1 hS => ?_)
  obtain ⟨hP1, hD1⟩ := hB
  rw [ht] at hP1
  exact kk r u H1 locs1 hw (kt_pure hP hD isC hC hk1 hP1) hS
theorem kt_newa (hx : p.tables.exec = Jvm.exec) (hb : c.code = cc) {atype : ArrayType} (harr : (Cond.arrayClass (newarray.typeOf atype)).before args s = true) {ty : FieldType} (hty : newarray.typeOf atype = ty) (hK : va_K D vwCl tys s) (hP : va_P D vwCl ws H) (hD : va_D A ws) (hS : va_S A H0 H locs) (hA : ∀ q, H0.size ≤ q → A q) {cA : ClassId} (t0 : Nat) (ht : tys[t0]? = some (cA, ty)) (hra : ∀ cA : ClassId, va_RA s cA ty → s.vm.findClass ("[" ++ ty.toString) = some cA)
    {n : Int32} {N' : Nat} (ha : ∀ cA : ClassId, vp_cell cA (N', .inl (fun _ => 0)) = arrV cA N' (fun _ => defaultValue ty)) (hn : ¬ n < 0) (hN : n.toNatClampNeg = N') (hbytes : N' * componentBytes ty ≤ 536870912) (hcells : cells + 1 ≤ R.cells) (hslots : slots + N' ≤ R.slots) (hdg : decode cc pc = .ok (.newarray atype, 2))
    (kk : ∀ (q : Nat) (H1 : Heap), va_P D vwCl (ws ++ [(q, .inl (cA, N', .inl (fun _ => 0)))]) H1 → va_D A (ws ++ [(q, .inl (cA, N', .inl (fun _ => 0)))]) → va_S A H0 H1 locs → W p l e R s m args below meth c H1 locs (cells + 1) (slots + N') Q (F0 m (pc + 2) ls (.ref q :: rest))) : W p l e R s m args below meth c H locs cells slots Q (F0 m pc ls (.int n :: rest)) := by
  refine va_newa hx hb harr hty hK hP hD hS hA ha hn hN hbytes hcells hslots hdg (fun q cA' H1 hK1 hP1 hD1 hS1 => ?_)
  have h1 := hra _ (hK.2 t0 _ ht).2
  have h2 := hra _ (hK1.2 tys.length (cA', ty) (by simp)).2
  have h3 : cA' = cA := Option.some.inj (h2.symm.trans h1)
  subst h3
  exact kk q H1 hP1 hD1 hS1
/-- a loop: at its head J, with fuel n; the goal behind it is walked in the step -/
theorem kt_loop {σ : Type} (J nL : Nat) (wsf : σ → va_W) (lf : σ → List (Nat × Value)) (I : Nat → σ → Prop) (h0 : ∀ u, ¬ I 0 u)
    (hs : ∀ n, (∀ u, I n u → ∀ (H1 : Heap) (locs1 : List Loc), va_P D vwCl (wsf u) H1 → va_D A (wsf u) → va_S A H0 H1 locs1 → ∀ ls1 : Array Slot, lv_has ls1 nL (lf u) → W p l e R s m args below meth c H1 locs1 cells slots Q (F0 m J ls1 [])) → ∀ u, I (n + 1) u → ∀ (H1 : Heap) (locs1 : List Loc), va_P D vwCl (wsf u) H1 → va_D A (wsf u) → va_S A H0 H1 locs1 → ∀ ls1 : Array Slot, lv_has ls1 nL (lf u) → W p l e R s m args below meth c H1 locs1 cells slots Q (F0 m J ls1 []))
    (n0 : Nat) (u0 : σ) (hI : I n0 u0) (hP : va_P D vwCl (wsf u0) H) (hD : va_D A (wsf u0)) (hS : va_S A H0 H locs) (hl : lv_has ls nL (lf u0)) : W p l e R s m args below meth c H locs cells slots Q (F0 m J ls []) := by
  have key : ∀ n u, I n u → ∀ (H1 : Heap) (locs1 : List Loc), va_P D vwCl (wsf u) H1 → va_D A (wsf u) → va_S A H0 H1 locs1 → ∀ ls1 : Array Slot, lv_has ls1 nL (lf u) → W p l e R s m args below meth c H1 locs1 cells slots Q (F0 m J ls1 []) := by
    intro n
    induction n with
    | zero => intro u h; exact absurd h (h0 u)
    | succ n ih => exact hs n ih
  exact key n0 u0 hI H locs hP hD hS ls hl
/-- a place where roads meet -/
theorem kt_join {σ : Type} {g : JFrame} (J nL : Nat) (wsf : σ → va_W) (lf : σ → List (Nat × Value)) (sf : σ → List Value) (I : σ → Prop)
    (h1 : ∀ u, I u → ∀ (H1 : Heap) (locs1 : List Loc), va_P D vwCl (wsf u) H1 → va_D A (wsf u) → va_S A H0 H1 locs1 → ∀ ls1 : Array Slot, lv_has ls1 nL (lf u) → W p l e R s m args below meth c H1 locs1 cells slots Q (F0 m J ls1 (sf u)))
    (h2 : (∀ u, I u → ∀ (H1 : Heap) (locs1 : List Loc), va_P D vwCl (wsf u) H1 → va_D A (wsf u) → va_S A H0 H1 locs1 → ∀ ls1 : Array Slot, lv_has ls1 nL (lf u) → W p l e R s m args below meth c H1 locs1 cells slots Q (F0 m J ls1 (sf u))) → W p l e R s m args below meth c H locs cells slots Q g) : W p l e R s m args below meth c H locs cells slots Q g := h2 h1
end KT
theorem kt_P_arr {D : va_G} {ws : va_W} {H : Heap} {a n : Nat} {cA : ClassId} {f g : Nat → Int32} (hP : va_P D vwCl ws H) (i : Nat) (he : ws[i]? = some (a, .inl (cA, n, .inl f))) (hfg : ∀ j, j < n → f j = g j) : va_P D vwCl (ws.set i (a, .inl (cA, n, .inl g))) H := by
  have hl := (List.getElem?_eq_some_iff.mp he).1
  intro k q hk
  by_cases hki : k = i
  · subst hki
    rw [List.getElem?_set_self hl] at hk
    cases hk
    have h1 : H[a]? = some (vp_cell cA (n, .inl f)) := hP k _ he
    show H[a]? = some (vp_cell cA (n, .inl g))
    rw [h1]
    have h2 : (Array.ofFn (n := n) fun j => Value.int (f j.val)) = Array.ofFn (n := n) fun j => Value.int (g j.val) := by
      congr 1
      funext j
      rw [hfg j.val j.isLt]
    show some (arrV cA n (fun j => .int (f j))) = some (arrV cA n (fun j => .int (g j)))
    unfold arrV
    rw [h2]
  · rw [List.getElem?_set_ne (Ne.symm hki)] at hk
    exact hP k q hk
/-- a boolean answer -/
def kt_B (r : Int32) (P : Prop) : Prop := (r = 1 ∧ P) ∨ (r = 0 ∧ ¬ P)
theorem kt_B.t {r : Int32} {P : Prop} (h : kt_B r P) (hr : ¬ r = 0) : P := by
  rcases h with ⟨-, h⟩ | ⟨h, -⟩
  · exact h
  · exact absurd h hr
theorem kt_B.f {r : Int32} {P : Prop} (h : kt_B r P) (hr : r = 0) : ¬ P := by
  rcases h with ⟨h, -⟩ | ⟨-, h⟩
  · rw [hr] at h; exact absurd h (by decide)
  · exact h
theorem kt_B.z {r : Int32} {P : Prop} (h : kt_B r P) : narrow .boolean (.int r) = .int r := by
  rcases h with ⟨rfl, -⟩ | ⟨rfl, -⟩ <;> rfl
theorem kt_B.n {r : Int32} {P : Prop} (h : kt_B r P) : fits .boolean (.int r) = true := by
  rcases h with ⟨rfl, -⟩ | ⟨rfl, -⟩ <;> rfl
theorem kt_lt (a b : Int32) : a < b ↔ a.toInt < b.toInt := Int32.lt_iff_toInt_lt
theorem kt_le (a b : Int32) : a ≤ b ↔ a.toInt ≤ b.toInt := Int32.le_iff_toInt_le
theorem kt_eq (a b : Int32) : a = b ↔ a.toInt = b.toInt := Int32.toInt_inj.symm
theorem kt_c0 : (0 : Int32).toInt = 0 := by decide
theorem kt_c1 : (1 : Int32).toInt = 1 := by decide
theorem kt_c2 : (2 : Int32).toInt = 2 := by decide
theorem kt_c3 : (3 : Int32).toInt = 3 := by decide
theorem kt_c4 : (4 : Int32).toInt = 4 := by decide
theorem kt_c5 : (5 : Int32).toInt = 5 := by decide
theorem kt_c6 : (6 : Int32).toInt = 6 := by decide
theorem kt_c7 : (7 : Int32).toInt = 7 := by decide
theorem kt_c8 : (8 : Int32).toInt = 8 := by decide
theorem kt_c9 : (9 : Int32).toInt = 9 := by decide
theorem kt_c40 : (40 : Int32).toInt = 40 := by decide
theorem kt_c81 : (81 : Int32).toInt = 81 := by decide
theorem kt_cm1 : (-1 : Int32).toInt = -1 := by decide
theorem kt_sw (x : Int32) (n : Nat) : (x.toInt < 0 ∨ (n : Int) ≤ x.toInt) ∨ (0 ≤ x.toInt ∧ x.toInt < n) := by omega
theorem kt_nIof {x : Int32} (h : 0 ≤ x.toInt) : x = nI x.toInt.toNat := by
  rw [kt_eq, nI_toInt]
  · omega
  · have := Int32.toInt_lt x; omega
theorem kt_nI {n : Nat} (h : n < 1000000000) : (nI n).toInt = (n : Int) := nI_toInt (by omega)
theorem kt_in {x : Int32} {n : Nat} (h1 : 0 ≤ x.toInt) (h2 : x.toInt < n) : vp_in x n := vp_in_iff.mpr ⟨h1, h2⟩
end
section
-- ===== end of PART A; then your names; then what follows =====
/-! THE CLAIM OUT OF ONE WALK OF THE LAW'S BODY. Your part is whole_start (and what it stands on); all else here is the same for every law, but numbers. -/
def R_law : String := "KingTableLaw"
def lw_P (b : Addr) (xs : List Int32) (args : Array Value) (s : State) : Prop := args = #[.ref b] ∧ s.IntsAt b xs ∧ xs.length ≤ 6 ∧ (Jvm.Cond.and given_1 narrow_1).before args s = true
def lw_Q (_ : Array Value) (s : State) (o : Outcome) (t : State) : Prop := o = .returned (some (.int 1)) ∧ Framed s o t [] 600000 7302250
def lw_Z (below : List Frame) (a : Array Value) (s : State) : State → Prop := fun t => ∃ o, t.status = .running ∧ Ended t below o ∧ lw_Q a s o t
/-- the law's own end, with 1 on the stack, nothing written that was there before, its room as the claim has it -/
theorem lw_ret {p : Program} {l : Launch} {e : Env} {s : State} {m : MethodId} {below : List Frame} {meth : Method} {c : Code} {b : Nat} (hx : p.tables.exec = Jvm.exec) (hb : c.code = code) (hr : meth.sig.returnType = ret) (hlocks : meth.locks = false) {pc : Nat} {H : Heap} {ls : Array Slot} (hdg : decode code pc = .ok (.ireturn, 1)) : W p l e room_1 s m #[Value.ref b] below meth c H [] 600000 7302250 (lw_Z below #[Value.ref b] s) (F0 m pc ls [.int 1]) := by
  intro T hT X
  obtain ⟨fs, hret, hrun, hended, hW, hframe⟩ := X.leave (v := some (.int 1)) (hlocks := hlocks) (fun h => by rw [hr] at h; cases h)
  have hmeth' : T.vm.method? m = some meth := X.method'
  refine ⟨T.setFrames fs, ?_, .returned (some (.int 1)), hrun, hended, rfl, ⟨_, rfl⟩, hW, hframe⟩
  jvm_step X.here [X.here.top, hx, hb, hdg, hmeth', hr, ret, narrow_b1]
  (try refine ⟨rfl, ?_⟩); (try refine ⟨rfl, ?_⟩)
  first | (intro acts; rw [hret _ acts rfl rfl rfl]) | rw [hret _ _ rfl rfl rfl]
  exact Steps.refl _
/-- what holds at the law's entry: the machine, the code, the tables' words (any of lw_tbl by 'hts w (by decide +kernel)'), the script of L ints xs at the cell b, what the Statement gives of the start (any of its parts by flat_of_before) -/
def lw_At (p : Program) (s : State) (m : MethodId) (meth : Method) (c : Code) (b L : Nat) (xs : Nat → Int32) : Prop :=
  p.tables.exec = Jvm.exec ∧ c.code = code ∧ meth.sig.returnType = ret ∧ c.maxLocals = 4 ∧ s.vm.findClass R_law = some m.cls ∧ (∀ w ∈ lw_tbl, w.before #[Value.ref b] s = true) ∧ va_X b L xs s s.heap ∧ b < s.heap.size ∧ meth.locks = false ∧ (Jvm.Cond.and given_1 narrow_1).before #[Value.ref b] s = true
end
section
set_option maxHeartbeats 4000000 in
set_option maxRecDepth 100000 in
theorem c_fill (l : Launch) (D : va_G) (cI cZ cB : ClassId) (sz : Nat) (a : Nat) (N0 : Nat) (f : Nat → Int32) (v : Int32) (hN0 : N0 < 1000000) : kt_Mv l yJ7_fill_53178 wsJ7_fill_53178 { frames := 0, cells := 0, slots := 0, locals := 0 } D (kt_ty cI cZ cB) [.ref a, .int v] sz [(a, .inl (cI, N0, .inl f))] (fun (u : Unit) => True) (fun (u : Unit) => [(a, .inl (cI, N0, .inl (fun _ => v)))]) 0 0 := by
  refine kt_Mv.of (cc := cJ7_fill_53178) (maxL := 4) (ret := none) (by decide) rfl (Nat.le_of_ble_eq_true rfl) ?_
  intro p e s m below meth c A ls H hAt hP hD hS hl
  obtain ⟨hx, hb, hr, hml, hown, hts, hN, hK, hlk, hnm, hA⟩ := hAt
  have hl : lv_has ls 4 [(0, .ref a), (1, .int v)] := hl
  have hown : s.vm.findClass RJ7 = some m.cls := hown
  refine lv_iconst (v := 0) hx hb dJ7_fill_53178_0 (by decide) ?_
  refine lv_istore_n (lv' := [(2, .int 0), (0, .ref a), (1, .int v)]) hx hb dJ7_fill_53178_1 rfl hl (by decide) rfl (fun ls hl => ?_)
  refine lv_aload_n hx hb dJ7_fill_53178_2 rfl (lv_at hl 1 rfl) ?_
  refine va_alen hx hb hK hP 0 0 rfl rfl (v := nI N0) rfl dJ7_fill_53178_3 ?_
  refine lv_istore_n (lv' := [(3, .int (nI N0)), (2, .int 0), (0, .ref a), (1, .int v)]) hx hb dJ7_fill_53178_4 rfl hl (by decide) rfl (fun ls hl => ?_)
  refine kt_loop (σ := Nat × (Nat → Int32)) 5 4 (fun u => [(a, .inl (cI, N0, .inl u.2))]) (fun u => [(3, .int (nI N0)), (2, .int (nI u.1)), (0, .ref a), (1, .int v)]) (fun n u => u.1 ≤ N0 ∧ N0 < u.1 + n ∧ ∀ j, j < u.1 → u.2 j = v) (fun u h => by obtain ⟨h1, h2, -⟩ := h; omega) (fun n ih_5 u hI H locs hP hD hS ls hl => ?_) (N0 + 1) (0, f) (by show 0 ≤ N0 ∧ N0 < 0 + (N0 + 1) ∧ ∀ j, j < 0 → f j = v; exact ⟨by omega, by omega, fun j h => absurd h (Nat.not_lt_zero j)⟩) hP hD hS (lv_sub hl [0, 1, 2, 3] rfl)
  obtain ⟨k, g⟩ := u
  have hP : va_P D vwCl [(a, .inl (cI, N0, .inl g))] H := hP
  have hD : va_D A [(a, .inl (cI, N0, .inl g))] := hD
  have hl : lv_has ls 4 [(3, .int (nI N0)), (2, .int (nI k)), (0, .ref a), (1, .int v)] := hl
  have hI : k ≤ N0 ∧ N0 < k + (n + 1) ∧ ∀ j, j < k → g j = v := hI
  refine lv_iload_n hx hb dJ7_fill_53178_5 rfl (lv_at hl 1 rfl) ?_
  refine lv_iload_n hx hb dJ7_fill_53178_6 rfl (lv_at hl 0 rfl) ?_
  refine lv_icmp_ge (tgt := 20) hx hb dJ7_fill_53178_7 (by decide) (fun c_7 => ?_) (fun c_7 => ?_)
  · obtain ⟨h1, h2, h3⟩ := hI
    have hkk : k = N0 := by
      rcases Nat.lt_or_ge k N0 with q | q
      · exact absurd c_7 (nI_ge q (by omega))
      · omega
    subst hkk
    have hD : va_D A [(a, .inl (cI, k, .inl (fun _ => v)))] := hD.set (p := 0) rfl
    have hP : va_P D vwCl [(a, .inl (cI, k, .inl (fun _ => v)))] H := kt_P_arr hP 0 rfl (fun j hj => h3 j hj)
    exact kt_rv () hx hb hr hlk hS dJ7_fill_53178_20 hP hD (by first | rfl | trivial | assumption | (simp_all; done) | grind)
  · have hk : k < N0 := by
      rcases Nat.lt_or_ge k N0 with q | q
      · exact q
      · exact absurd (nI_le q (by omega)) c_7
    refine lv_aload_n hx hb dJ7_fill_53178_10 rfl (lv_at hl 2 rfl) ?_
    refine lv_iload_n hx hb dJ7_fill_53178_11 rfl (lv_at hl 1 rfl) ?_
    refine lv_iload_n hx hb dJ7_fill_53178_12 rfl (lv_at hl 3 rfl) ?_
    have hi_1 : vp_in (nI k) N0 := by exact vp_in_nI hk (by omega)
    refine va_iast hx hb hK hP hD hS 0 0 rfl rfl hi_1 dJ7_fill_53178_13 (fun H locs hP hD hS => ?_)
    have hP : va_P D vwCl [(a, .inl (cI, N0, .inl (upd g (nI k).toNatClampNeg v)))] H := hP
    have hD : va_D A [(a, .inl (cI, N0, .inl (upd g (nI k).toNatClampNeg v)))] := hD
    refine lv_iinc (v := nI (k + 1)) (lv' := [(2, .int (nI (k + 1))), (3, .int (nI N0)), (0, .ref a), (1, .int v)]) hx hb dJ7_fill_53178_14 hl (k := 1) rfl (nI_1 _) (by decide) rfl (fun ls hl => ?_)
    refine lv_goto (tgt := 5) hx hb dJ7_fill_53178_17 (by decide) ?_
    exact ih_5 ((k + 1), (upd g (nI k).toNatClampNeg v)) (by show (k + 1) ≤ N0 ∧ N0 < (k + 1) + n ∧ ∀ j, j < (k + 1) → (upd g (nI k).toNatClampNeg v) j = v; obtain ⟨h1, h2, h3⟩ := hI; refine ⟨by omega, by omega, fun j hj => ?_⟩; rw [nI_clamp (by omega)]; exact if hjk : j = k then (by rw [hjk, pk_us]) else (by rw [pk_un hjk]; exact h3 j (by omega))) H _ hP hD hS ls (lv_sub hl [1, 0, 2, 3] rfl)
end
section
theorem iw_X9_init_X9 : ∀ w ∈ wsX90, w ∈ wsX9_init := by decide +kernel
set_option maxHeartbeats 4000000 in
set_option maxRecDepth 100000 in
theorem c_X9_init (l : Launch) (D : va_G) (cI cZ cB : ClassId) (sz : Nat) (h0 : Nat) : kt_Mv l yX9_init wsX9_init { frames := 1, cells := 1, slots := 81, locals := 12 } D (kt_ty cI cZ cB) [.ref h0] sz [(h0, .inr (9, [.null, .int 0, .int 0]))] (fun (u : Nat) => True) (fun (u : Nat) => [(h0, .inr (9, [.ref u, .int 3, .int 3])), (u, .inl (cI, 81, .inl (fun _ => 0)))]) 1 81 := by
  refine kt_Mv.of (cc := cX9_init) (maxL := 1) (ret := none) (by decide) rfl (Nat.le_of_ble_eq_true rfl) ?_
  intro p e s m below meth c A ls H hAt hP hD hS hl
  obtain ⟨hx, hb, hr, hml, hown, hts, hN, hK, hlk, hnm, hA⟩ := hAt
  have hl : lv_has ls 1 [(0, .ref h0)] := hl
  have hown : s.vm.findClass RX9 = some m.cls := hown
  refine lv_aload_n hx hb dX9_init_0 rfl (lv_at hl 0 rfl) ?_
  refine W.objInit hx hb hown (hts (.methodLink RX9 3 objectInit) (by decide +kernel)) (hts (.instanceMethod objectInit) (by decide +kernel)) (hts (.code objectInit ⟨#[0xb1]⟩ 1 none) (by decide +kernel)) rfl (by rw [hml]; exact hl.1) rfl dX9_init_1 (Nat.le_of_ble_eq_true rfl) (Nat.le_of_ble_eq_true rfl) ?_
  refine W.eq (g2 := F0 m 4 ls []) rfl ?_
  refine lv_aload_n hx hb dX9_init_4 rfl (lv_at hl 0 rfl) ?_
  refine lv_bipush (v := 81) hx hb dX9_init_5 (by decide) ?_
  refine kt_newa (atype := .int) (ty := .int) (cA := cI) hx hb (hts (.arrayClass .int) (by decide +kernel)) rfl hK hP hD hS hA 0 rfl (fun _ h => h) (N' := 81) (fun _ => rfl) (by decide) (by decide) (Nat.le_of_ble_eq_true rfl) (Nat.le_of_ble_eq_true rfl) (Nat.le_of_ble_eq_true rfl) dX9_init_7 (fun q7 H hP hD hS => ?_)
  have hP : va_P D vwCl [(h0, .inr (9, [.null, .int 0, .int 0])), (q7, .inl (cI, 81, .inl (fun _ => 0)))] H := hP
  have hD : va_D A [(h0, .inr (9, [.null, .int 0, .int 0])), (q7, .inl (cI, 81, .inl (fun _ => 0)))] := hD
  refine W.widen (k := 1) (n := 81) (Nat.le_of_ble_eq_true rfl) (Nat.le_of_ble_eq_true rfl) ?_
  refine va_putF (D := D) (ci := 9) (v := .ref q7) (ty := .array .int) (C := RX9) (T := TX9) (N := 3) hx hb hts iw_X9_init_X9 tyX9 tyX9_ok nmX9 hown hK hP hD hS 0 rfl rfl 0 (by decide) (hts (.fieldLink RX9 9 "KingTable$Told" "signs" "[I") (by decide +kernel)) (fun _ h9 => h9) rfl hnm rfl (by decide +kernel) rfl rfl (Nat.le_of_ble_eq_true rfl) dX9_init_9 (fun H locs hP hD hS => ?_)
  have hP : va_P D vwCl [(h0, .inr (9, [.ref q7, .int 0, .int 0])), (q7, .inl (cI, 81, .inl (fun _ => 0)))] H := hP
  have hD : va_D A [(h0, .inr (9, [.ref q7, .int 0, .int 0])), (q7, .inl (cI, 81, .inl (fun _ => 0)))] := hD
  refine lv_aload_n hx hb dX9_init_12 rfl (lv_at hl 0 rfl) ?_
  refine lv_iconst (v := 3) hx hb dX9_init_13 (by decide) ?_
  refine va_put (D := D) (ci := 9) (v := .int 3) (ty := .int) (C := RX9) (T := TX9) (N := 3) hx hb hts iw_X9_init_X9 tyX9 tyX9_ok nmX9 hown hK hP hD hS 0 rfl rfl 1 (by decide) (hts (.fieldLink RX9 15 "KingTable$Told" "lines" "I") (by decide +kernel)) (fun _ h9 => h9) rfl (by decide +kernel) rfl rfl (Nat.le_of_ble_eq_true rfl) dX9_init_14 (fun H locs hP hD hS => ?_)
  have hP : va_P D vwCl [(h0, .inr (9, [.ref q7, .int 3, .int 0])), (q7, .inl (cI, 81, .inl (fun _ => 0)))] H := hP
  have hD : va_D A [(h0, .inr (9, [.ref q7, .int 3, .int 0])), (q7, .inl (cI, 81, .inl (fun _ => 0)))] := hD
  refine lv_aload_n hx hb dX9_init_17 rfl (lv_at hl 0 rfl) ?_
  refine lv_iconst (v := 3) hx hb dX9_init_18 (by decide) ?_
  refine va_put (D := D) (ci := 9) (v := .int 3) (ty := .int) (C := RX9) (T := TX9) (N := 3) hx hb hts iw_X9_init_X9 tyX9 tyX9_ok nmX9 hown hK hP hD hS 0 rfl rfl 2 (by decide) (hts (.fieldLink RX9 19 "KingTable$Told" "width" "I") (by decide +kernel)) (fun _ h9 => h9) rfl (by decide +kernel) rfl rfl (Nat.le_of_ble_eq_true rfl) dX9_init_19 (fun H locs hP hD hS => ?_)
  have hP : va_P D vwCl [(h0, .inr (9, [.ref q7, .int 3, .int 3])), (q7, .inl (cI, 81, .inl (fun _ => 0)))] H := hP
  have hD : va_D A [(h0, .inr (9, [.ref q7, .int 3, .int 3])), (q7, .inl (cI, 81, .inl (fun _ => 0)))] := hD
  refine W.widen (k := 1) (n := 81) (Nat.le_of_ble_eq_true rfl) (Nat.le_of_ble_eq_true rfl) ?_
  exact kt_rv q7 hx hb hr hlk hS dX9_init_22 hP hD (by first | rfl | trivial | assumption | (simp_all; done) | grind)

theorem iw_X1_init_X1 : ∀ w ∈ wsX10, w ∈ wsX1_init := by decide +kernel
set_option maxHeartbeats 4000000 in
set_option maxRecDepth 100000 in
theorem c_X1_init (l : Launch) (D : va_G) (cI cZ cB : ClassId) (sz : Nat) (h0 : Nat) : kt_Mv l yX1_init wsX1_init { frames := 1, cells := 0, slots := 0, locals := 12 } D (kt_ty cI cZ cB) [.ref h0] sz [(h0, .inr (1, [.int 0, .int 0, .int 0, .int 0, .int 0]))] (fun (u : Unit) => True) (fun (u : Unit) => [(h0, .inr (1, [.int 0, .int 4, .int 1, .int 0, .int 0]))]) 0 0 := by
  refine kt_Mv.of (cc := cX1_init) (maxL := 1) (ret := none) (by decide) rfl (Nat.le_of_ble_eq_true rfl) ?_
  intro p e s m below meth c A ls H hAt hP hD hS hl
  obtain ⟨hx, hb, hr, hml, hown, hts, hN, hK, hlk, hnm, hA⟩ := hAt
  have hl : lv_has ls 1 [(0, .ref h0)] := hl
  have hown : s.vm.findClass RX1 = some m.cls := hown
  refine lv_aload_n hx hb dX1_init_0 rfl (lv_at hl 0 rfl) ?_
  refine W.objInit hx hb hown (hts (.methodLink RX1 1 objectInit) (by decide +kernel)) (hts (.instanceMethod objectInit) (by decide +kernel)) (hts (.code objectInit ⟨#[0xb1]⟩ 1 none) (by decide +kernel)) rfl (by rw [hml]; exact hl.1) rfl dX1_init_1 (Nat.le_of_ble_eq_true rfl) (Nat.le_of_ble_eq_true rfl) ?_
  refine W.eq (g2 := F0 m 4 ls []) rfl ?_
  refine lv_aload_n hx hb dX1_init_4 rfl (lv_at hl 0 rfl) ?_
  refine lv_iconst (v := 0) hx hb dX1_init_5 (by decide) ?_
  refine va_put (D := D) (ci := 1) (v := .int 0) (ty := .int) (C := RX1) (T := TX1) (N := 5) hx hb hts iw_X1_init_X1 tyX1 tyX1_ok nmX1 hown hK hP hD hS 0 rfl rfl 0 (by decide) (hts (.fieldLink RX1 7 "KingTable$Laws" "goal" "I") (by decide +kernel)) (fun _ h9 => h9) rfl (by decide +kernel) rfl rfl (Nat.le_of_ble_eq_true rfl) dX1_init_6 (fun H locs hP hD hS => ?_)
  have hP : va_P D vwCl [(h0, .inr (1, [.int 0, .int 0, .int 0, .int 0, .int 0]))] H := hP
  have hD : va_D A [(h0, .inr (1, [.int 0, .int 0, .int 0, .int 0, .int 0]))] := hD
  refine lv_aload_n hx hb dX1_init_9 rfl (lv_at hl 0 rfl) ?_
  refine lv_iconst (v := 4) hx hb dX1_init_10 (by decide) ?_
  refine va_put (D := D) (ci := 1) (v := .int 4) (ty := .int) (C := RX1) (T := TX1) (N := 5) hx hb hts iw_X1_init_X1 tyX1 tyX1_ok nmX1 hown hK hP hD hS 0 rfl rfl 1 (by decide) (hts (.fieldLink RX1 13 "KingTable$Laws" "hard" "I") (by decide +kernel)) (fun _ h9 => h9) rfl (by decide +kernel) rfl rfl (Nat.le_of_ble_eq_true rfl) dX1_init_11 (fun H locs hP hD hS => ?_)
  have hP : va_P D vwCl [(h0, .inr (1, [.int 0, .int 4, .int 0, .int 0, .int 0]))] H := hP
  have hD : va_D A [(h0, .inr (1, [.int 0, .int 4, .int 0, .int 0, .int 0]))] := hD
  refine lv_aload_n hx hb dX1_init_14 rfl (lv_at hl 0 rfl) ?_
  refine lv_iconst (v := 1) hx hb dX1_init_15 (by decide) ?_
  refine va_put (D := D) (ci := 1) (v := .int 1) (ty := .boolean) (C := RX1) (T := TX1) (N := 5) hx hb hts iw_X1_init_X1 tyX1 tyX1_ok nmX1 hown hK hP hD hS 0 rfl rfl 2 (by decide) (hts (.fieldLink RX1 16 "KingTable$Laws" "kingTakes" "Z") (by decide +kernel)) (fun _ h9 => h9) rfl (by decide +kernel) rfl rfl (Nat.le_of_ble_eq_true rfl) dX1_init_16 (fun H locs hP hD hS => ?_)
  have hP : va_P D vwCl [(h0, .inr (1, [.int 0, .int 4, .int 1, .int 0, .int 0]))] H := hP
  have hD : va_D A [(h0, .inr (1, [.int 0, .int 4, .int 1, .int 0, .int 0]))] := hD
  refine lv_aload_n hx hb dX1_init_19 rfl (lv_at hl 0 rfl) ?_
  refine lv_iconst (v := 0) hx hb dX1_init_20 (by decide) ?_
  refine va_put (D := D) (ci := 1) (v := .int 0) (ty := .int) (C := RX1) (T := TX1) (N := 5) hx hb hts iw_X1_init_X1 tyX1 tyX1_ok nmX1 hown hK hP hD hS 0 rfl rfl 3 (by decide) (hts (.fieldLink RX1 20 "KingTable$Laws" "reach" "I") (by decide +kernel)) (fun _ h9 => h9) rfl (by decide +kernel) rfl rfl (Nat.le_of_ble_eq_true rfl) dX1_init_21 (fun H locs hP hD hS => ?_)
  have hP : va_P D vwCl [(h0, .inr (1, [.int 0, .int 4, .int 1, .int 0, .int 0]))] H := hP
  have hD : va_D A [(h0, .inr (1, [.int 0, .int 4, .int 1, .int 0, .int 0]))] := hD
  refine lv_aload_n hx hb dX1_init_24 rfl (lv_at hl 0 rfl) ?_
  refine lv_iconst (v := 0) hx hb dX1_init_25 (by decide) ?_
  refine va_put (D := D) (ci := 1) (v := .int 0) (ty := .int) (C := RX1) (T := TX1) (N := 5) hx hb hts iw_X1_init_X1 tyX1 tyX1_ok nmX1 hown hK hP hD hS 0 rfl rfl 4 (by decide) (hts (.fieldLink RX1 23 "KingTable$Laws" "comeback" "I") (by decide +kernel)) (fun _ h9 => h9) rfl (by decide +kernel) rfl rfl (Nat.le_of_ble_eq_true rfl) dX1_init_26 (fun H locs hP hD hS => ?_)
  have hP : va_P D vwCl [(h0, .inr (1, [.int 0, .int 4, .int 1, .int 0, .int 0]))] H := hP
  have hD : va_D A [(h0, .inr (1, [.int 0, .int 4, .int 1, .int 0, .int 0]))] := hD
  exact kt_rv () hx hb hr hlk hS dX1_init_29 hP hD (by first | rfl | trivial | assumption | (simp_all; done) | grind)

theorem iw_X0_init_X0 : ∀ w ∈ wsX00, w ∈ wsX0_init := by decide +kernel
set_option maxHeartbeats 4000000 in
set_option maxRecDepth 100000 in
theorem c_X0_init (l : Launch) (D : va_G) (cI cZ cB : ClassId) (sz : Nat) (h0 : Nat) : kt_Mv l yX0_init wsX0_init { frames := 1, cells := 3, slots := 486, locals := 12 } D (kt_ty cI cZ cB) [.ref h0] sz [(h0, .inr (0, [.null, .null, .null, .int 0, .int 0]))] (fun (u : Nat × Nat × Nat) => True) (fun (u : Nat × Nat × Nat) => [(h0, .inr (0, [.ref u.1, .ref u.2.1, .ref u.2.2, .int 0, .int 0])), (u.1, .inl (cI, 81, .inl (fun _ => 0))), (u.2.1, .inl (cZ, 81, .inl (fun _ => 0))), (u.2.2, .inl (cI, 324, .inl (fun _ => 0)))]) 3 486 := by
  refine kt_Mv.of (cc := cX0_init) (maxL := 1) (ret := none) (by decide) rfl (Nat.le_of_ble_eq_true rfl) ?_
  intro p e s m below meth c A ls H hAt hP hD hS hl
  obtain ⟨hx, hb, hr, hml, hown, hts, hN, hK, hlk, hnm, hA⟩ := hAt
  have hl : lv_has ls 1 [(0, .ref h0)] := hl
  have hown : s.vm.findClass RX0 = some m.cls := hown
  refine lv_aload_n hx hb dX0_init_0 rfl (lv_at hl 0 rfl) ?_
  refine W.objInit hx hb hown (hts (.methodLink RX0 3 objectInit) (by decide +kernel)) (hts (.instanceMethod objectInit) (by decide +kernel)) (hts (.code objectInit ⟨#[0xb1]⟩ 1 none) (by decide +kernel)) rfl (by rw [hml]; exact hl.1) rfl dX0_init_1 (Nat.le_of_ble_eq_true rfl) (Nat.le_of_ble_eq_true rfl) ?_
  refine W.eq (g2 := F0 m 4 ls []) rfl ?_
  refine lv_aload_n hx hb dX0_init_4 rfl (lv_at hl 0 rfl) ?_
  refine lv_bipush (v := 81) hx hb dX0_init_5 (by decide) ?_
  refine kt_newa (atype := .int) (ty := .int) (cA := cI) hx hb (hts (.arrayClass .int) (by decide +kernel)) rfl hK hP hD hS hA 0 rfl (fun _ h => h) (N' := 81) (fun _ => rfl) (by decide) (by decide) (Nat.le_of_ble_eq_true rfl) (Nat.le_of_ble_eq_true rfl) (Nat.le_of_ble_eq_true rfl) dX0_init_7 (fun q7 H hP hD hS => ?_)
  have hP : va_P D vwCl [(h0, .inr (0, [.null, .null, .null, .int 0, .int 0])), (q7, .inl (cI, 81, .inl (fun _ => 0)))] H := hP
  have hD : va_D A [(h0, .inr (0, [.null, .null, .null, .int 0, .int 0])), (q7, .inl (cI, 81, .inl (fun _ => 0)))] := hD
  refine W.widen (k := 1) (n := 81) (Nat.le_of_ble_eq_true rfl) (Nat.le_of_ble_eq_true rfl) ?_
  refine va_putF (D := D) (ci := 0) (v := .ref q7) (ty := .array .int) (C := RX0) (T := TX0) (N := 5) hx hb hts iw_X0_init_X0 tyX0 tyX0_ok nmX0 hown hK hP hD hS 0 rfl rfl 0 (by decide) (hts (.fieldLink RX0 9 "KingTable$Ground" "types" "[I") (by decide +kernel)) (fun _ h9 => h9) rfl hnm rfl (by decide +kernel) rfl rfl (Nat.le_of_ble_eq_true rfl) dX0_init_9 (fun H locs hP hD hS => ?_)
  have hP : va_P D vwCl [(h0, .inr (0, [.ref q7, .null, .null, .int 0, .int 0])), (q7, .inl (cI, 81, .inl (fun _ => 0)))] H := hP
  have hD : va_D A [(h0, .inr (0, [.ref q7, .null, .null, .int 0, .int 0])), (q7, .inl (cI, 81, .inl (fun _ => 0)))] := hD
  refine lv_aload_n hx hb dX0_init_12 rfl (lv_at hl 0 rfl) ?_
  refine lv_bipush (v := 81) hx hb dX0_init_13 (by decide) ?_
  refine kt_newa (atype := .boolean) (ty := .boolean) (cA := cZ) hx hb (hts (.arrayClass .boolean) (by decide +kernel)) rfl hK hP hD hS hA 1 rfl (fun _ h => h) (N' := 81) (fun _ => rfl) (by decide) (by decide) (Nat.le_of_ble_eq_true rfl) (Nat.le_of_ble_eq_true rfl) (Nat.le_of_ble_eq_true rfl) dX0_init_15 (fun q15 H hP hD hS => ?_)
  have hP : va_P D vwCl [(h0, .inr (0, [.ref q7, .null, .null, .int 0, .int 0])), (q7, .inl (cI, 81, .inl (fun _ => 0))), (q15, .inl (cZ, 81, .inl (fun _ => 0)))] H := hP
  have hD : va_D A [(h0, .inr (0, [.ref q7, .null, .null, .int 0, .int 0])), (q7, .inl (cI, 81, .inl (fun _ => 0))), (q15, .inl (cZ, 81, .inl (fun _ => 0)))] := hD
  refine W.widen (k := 2) (n := 162) (Nat.le_of_ble_eq_true rfl) (Nat.le_of_ble_eq_true rfl) ?_
  refine va_putF (D := D) (ci := 0) (v := .ref q15) (ty := .array .boolean) (C := RX0) (T := TX0) (N := 5) hx hb hts iw_X0_init_X0 tyX0 tyX0_ok nmX0 hown hK hP hD hS 0 rfl rfl 1 (by decide) (hts (.fieldLink RX0 15 "KingTable$Ground" "goals" "[Z") (by decide +kernel)) (fun _ h9 => h9) rfl hnm rfl (by decide +kernel) rfl rfl (Nat.le_of_ble_eq_true rfl) dX0_init_17 (fun H locs hP hD hS => ?_)
  have hP : va_P D vwCl [(h0, .inr (0, [.ref q7, .ref q15, .null, .int 0, .int 0])), (q7, .inl (cI, 81, .inl (fun _ => 0))), (q15, .inl (cZ, 81, .inl (fun _ => 0)))] H := hP
  have hD : va_D A [(h0, .inr (0, [.ref q7, .ref q15, .null, .int 0, .int 0])), (q7, .inl (cI, 81, .inl (fun _ => 0))), (q15, .inl (cZ, 81, .inl (fun _ => 0)))] := hD
  refine lv_aload_n hx hb dX0_init_20 rfl (lv_at hl 0 rfl) ?_
  refine lv_sipush (v := 324) hx hb dX0_init_21 (by decide) ?_
  refine kt_newa (atype := .int) (ty := .int) (cA := cI) hx hb (hts (.arrayClass .int) (by decide +kernel)) rfl hK hP hD hS hA 0 rfl (fun _ h => h) (N' := 324) (fun _ => rfl) (by decide) (by decide) (Nat.le_of_ble_eq_true rfl) (Nat.le_of_ble_eq_true rfl) (Nat.le_of_ble_eq_true rfl) dX0_init_24 (fun q24 H hP hD hS => ?_)
  have hP : va_P D vwCl [(h0, .inr (0, [.ref q7, .ref q15, .null, .int 0, .int 0])), (q7, .inl (cI, 81, .inl (fun _ => 0))), (q15, .inl (cZ, 81, .inl (fun _ => 0))), (q24, .inl (cI, 324, .inl (fun _ => 0)))] H := hP
  have hD : va_D A [(h0, .inr (0, [.ref q7, .ref q15, .null, .int 0, .int 0])), (q7, .inl (cI, 81, .inl (fun _ => 0))), (q15, .inl (cZ, 81, .inl (fun _ => 0))), (q24, .inl (cI, 324, .inl (fun _ => 0)))] := hD
  refine W.widen (k := 3) (n := 486) (Nat.le_of_ble_eq_true rfl) (Nat.le_of_ble_eq_true rfl) ?_
  refine va_putF (D := D) (ci := 0) (v := .ref q24) (ty := .array .int) (C := RX0) (T := TX0) (N := 5) hx hb hts iw_X0_init_X0 tyX0 tyX0_ok nmX0 hown hK hP hD hS 0 rfl rfl 2 (by decide) (hts (.fieldLink RX0 19 "KingTable$Ground" "neighbours" "[I") (by decide +kernel)) (fun _ h9 => h9) rfl hnm rfl (by decide +kernel) rfl rfl (Nat.le_of_ble_eq_true rfl) dX0_init_26 (fun H locs hP hD hS => ?_)
  have hP : va_P D vwCl [(h0, .inr (0, [.ref q7, .ref q15, .ref q24, .int 0, .int 0])), (q7, .inl (cI, 81, .inl (fun _ => 0))), (q15, .inl (cZ, 81, .inl (fun _ => 0))), (q24, .inl (cI, 324, .inl (fun _ => 0)))] H := hP
  have hD : va_D A [(h0, .inr (0, [.ref q7, .ref q15, .ref q24, .int 0, .int 0])), (q7, .inl (cI, 81, .inl (fun _ => 0))), (q15, .inl (cZ, 81, .inl (fun _ => 0))), (q24, .inl (cI, 324, .inl (fun _ => 0)))] := hD
  refine W.widen (k := 3) (n := 486) (Nat.le_of_ble_eq_true rfl) (Nat.le_of_ble_eq_true rfl) ?_
  exact kt_rv (q7, q15, q24) hx hb hr hlk hS dX0_init_29 hP hD (by first | rfl | trivial | assumption | (simp_all; done) | grind)

theorem iw_X8_clear_X8 : ∀ w ∈ wsX80, w ∈ wsX8_clear := by decide +kernel
set_option maxHeartbeats 4000000 in
set_option maxRecDepth 100000 in
theorem c_X8_clear (l : Launch) (D : va_G) (cI cZ cB : ClassId) (sz : Nat) (h0 : Nat) (sf : Nat) (sh : Nat) (ff : Nat → Int32) (fh : Nat → Int32) (tu : Int32) : kt_Mv l yX8_clear wsX8_clear { frames := 1, cells := 0, slots := 0, locals := 23 } D (kt_ty cI cZ cB) [.ref h0] sz [(h0, .inr (8, [.ref sf, .ref sh, .int tu])), (sf, .inl (cI, 40, .inl ff)), (sh, .inl (cI, 81, .inl fh))] (fun (u : Unit) => True) (fun (u : Unit) => [(h0, .inr (8, [.ref sf, .ref sh, .int 0])), (sf, .inl (cI, 40, .inl (fun _ => (-1)))), (sh, .inl (cI, 81, .inl (fun _ => (-1))))]) 0 0 := by
  refine kt_Mv.of (cc := cX8_clear) (maxL := 1) (ret := none) (by decide) rfl (Nat.le_of_ble_eq_true rfl) ?_
  intro p e s m below meth c A ls H hAt hP hD hS hl
  obtain ⟨hx, hb, hr, hml, hown, hts, hN, hK, hlk, hnm, hA⟩ := hAt
  have hl : lv_has ls 1 [(0, .ref h0)] := hl
  have hown : s.vm.findClass RX8 = some m.cls := hown
  refine lv_aload_n hx hb dX8_clear_0 rfl (lv_at hl 0 rfl) ?_
  refine va_get (D := D) (ci := 8) (C := RX8) (T := TX8) (N := 3) hx hb hts iw_X8_clear_X8 hown hK hP 0 rfl rfl 0 (by decide) (hts (.fieldLink RX8 9 "KingTable$Stand" "fields" "[I") (by decide +kernel)) (fun _ h9 => h9) rfl dX8_clear_1 ?_
  refine lv_iconst (v := (-1)) hx hb dX8_clear_4 (by decide) ?_
  refine kt_bv (wc := [(sf, .inl (cI, 40, .inl ff))]) (wr := [(h0, .inr (8, [.ref sf, .ref sh, .int tu])), (sh, .inl (cI, 81, .inl fh))]) [1] [0, 2] hP hD hS hA rfl rfl (by decide) (by decide) (by decide) (fun hPc hDc => va_runS (As := [.ref sf, .int (-1)]) (rest := []) ⟨hx, hb, hml, hown, hts⟩ (c_fill l D cI cZ cB H.size sf 40 ff (-1) (by first | assumption | omega | rfl | decide)) (va_cwS 2 hts gX8_clear_J7_fill_53178 rfl rfl rfl (by decide +kernel) ⟨Nat.le_of_ble_eq_true rfl, Nat.le_of_ble_eq_true rfl⟩) (kt_preS hN hK hPc hDc) rfl rfl hl.1 rfl (lv_room (Nat.le_of_ble_eq_true rfl)) dX8_clear_5 ⟨Nat.le_of_ble_eq_true rfl, Nat.le_of_ble_eq_true rfl⟩) (fun u_ H locs hw_5 hP hD hS => ?_)
  have hP : va_P D vwCl [(h0, .inr (8, [.ref sf, .ref sh, .int tu])), (sf, .inl (cI, 40, .inl (fun _ => (-1)))), (sh, .inl (cI, 81, .inl fh))] H := hP.sub [0, 2, 1] rfl
  have hD : va_D A [(h0, .inr (8, [.ref sf, .ref sh, .int tu])), (sf, .inl (cI, 40, .inl (fun _ => (-1)))), (sh, .inl (cI, 81, .inl fh))] := hD.sub [0, 2, 1] (by decide) rfl
  refine lv_aload_n hx hb dX8_clear_8 rfl (lv_at hl 0 rfl) ?_
  refine va_get (D := D) (ci := 8) (C := RX8) (T := TX8) (N := 3) hx hb hts iw_X8_clear_X8 hown hK hP 0 rfl rfl 1 (by decide) (hts (.fieldLink RX8 15 "KingTable$Stand" "holders" "[I") (by decide +kernel)) (fun _ h9 => h9) rfl dX8_clear_9 ?_
  refine lv_iconst (v := (-1)) hx hb dX8_clear_12 (by decide) ?_
  refine kt_bv (wc := [(sh, .inl (cI, 81, .inl fh))]) (wr := [(h0, .inr (8, [.ref sf, .ref sh, .int tu])), (sf, .inl (cI, 40, .inl (fun _ => (-1))))]) [2] [0, 1] hP hD hS hA rfl rfl (by decide) (by decide) (by decide) (fun hPc hDc => va_runS (As := [.ref sh, .int (-1)]) (rest := []) ⟨hx, hb, hml, hown, hts⟩ (c_fill l D cI cZ cB H.size sh 81 fh (-1) (by first | assumption | omega | rfl | decide)) (va_cwS 2 hts gX8_clear_J7_fill_53178 rfl rfl rfl (by decide +kernel) ⟨Nat.le_of_ble_eq_true rfl, Nat.le_of_ble_eq_true rfl⟩) (kt_preS hN hK hPc hDc) rfl rfl hl.1 rfl (lv_room (Nat.le_of_ble_eq_true rfl)) dX8_clear_13 ⟨Nat.le_of_ble_eq_true rfl, Nat.le_of_ble_eq_true rfl⟩) (fun u_ H locs hw_13 hP hD hS => ?_)
  have hP : va_P D vwCl [(h0, .inr (8, [.ref sf, .ref sh, .int tu])), (sf, .inl (cI, 40, .inl (fun _ => (-1)))), (sh, .inl (cI, 81, .inl (fun _ => (-1))))] H := hP.sub [0, 1, 2] rfl
  have hD : va_D A [(h0, .inr (8, [.ref sf, .ref sh, .int tu])), (sf, .inl (cI, 40, .inl (fun _ => (-1)))), (sh, .inl (cI, 81, .inl (fun _ => (-1))))] := hD.sub [0, 1, 2] (by decide) rfl
  refine lv_aload_n hx hb dX8_clear_16 rfl (lv_at hl 0 rfl) ?_
  refine lv_iconst (v := 0) hx hb dX8_clear_17 (by decide) ?_
  refine va_put (D := D) (ci := 8) (v := .int 0) (ty := .int) (C := RX8) (T := TX8) (N := 3) hx hb hts iw_X8_clear_X8 tyX8 tyX8_ok nmX8 hown hK hP hD hS 0 rfl rfl 2 (by decide) (hts (.fieldLink RX8 27 "KingTable$Stand" "turn" "I") (by decide +kernel)) (fun _ h9 => h9) rfl (by decide +kernel) rfl rfl (Nat.le_of_ble_eq_true rfl) dX8_clear_18 (fun H locs hP hD hS => ?_)
  have hP : va_P D vwCl [(h0, .inr (8, [.ref sf, .ref sh, .int 0])), (sf, .inl (cI, 40, .inl (fun _ => (-1)))), (sh, .inl (cI, 81, .inl (fun _ => (-1))))] H := hP
  have hD : va_D A [(h0, .inr (8, [.ref sf, .ref sh, .int 0])), (sf, .inl (cI, 40, .inl (fun _ => (-1)))), (sh, .inl (cI, 81, .inl (fun _ => (-1))))] := hD
  exact kt_rv () hx hb hr hlk hS dX8_clear_21 hP hD (by first | rfl | trivial | assumption | (simp_all; done) | grind)

theorem iw_X8_init_X8 : ∀ w ∈ wsX80, w ∈ wsX8_init := by decide +kernel
set_option maxHeartbeats 4000000 in
set_option maxRecDepth 100000 in
theorem c_X8_init (l : Launch) (D : va_G) (cI cZ cB : ClassId) (sz : Nat) (h0 : Nat) : kt_Mv l yX8_init wsX8_init { frames := 2, cells := 2, slots := 121, locals := 43 } D (kt_ty cI cZ cB) [.ref h0] sz [(h0, .inr (8, [.null, .null, .int 0]))] (fun (u : Nat × Nat) => True) (fun (u : Nat × Nat) => [(h0, .inr (8, [.ref u.1, .ref u.2, .int 0])), (u.1, .inl (cI, 40, .inl (fun _ => (-1)))), (u.2, .inl (cI, 81, .inl (fun _ => (-1))))]) 2 121 := by
  refine kt_Mv.of (cc := cX8_init) (maxL := 1) (ret := none) (by decide) rfl (Nat.le_of_ble_eq_true rfl) ?_
  intro p e s m below meth c A ls H hAt hP hD hS hl
  obtain ⟨hx, hb, hr, hml, hown, hts, hN, hK, hlk, hnm, hA⟩ := hAt
  have hl : lv_has ls 1 [(0, .ref h0)] := hl
  have hown : s.vm.findClass RX8 = some m.cls := hown
  refine lv_aload_n hx hb dX8_init_0 rfl (lv_at hl 0 rfl) ?_
  refine W.objInit hx hb hown (hts (.methodLink RX8 3 objectInit) (by decide +kernel)) (hts (.instanceMethod objectInit) (by decide +kernel)) (hts (.code objectInit ⟨#[0xb1]⟩ 1 none) (by decide +kernel)) rfl (by rw [hml]; exact hl.1) rfl dX8_init_1 (Nat.le_of_ble_eq_true rfl) (Nat.le_of_ble_eq_true rfl) ?_
  refine W.eq (g2 := F0 m 4 ls []) rfl ?_
  refine lv_aload_n hx hb dX8_init_4 rfl (lv_at hl 0 rfl) ?_
  refine lv_bipush (v := 40) hx hb dX8_init_5 (by decide) ?_
  refine kt_newa (atype := .int) (ty := .int) (cA := cI) hx hb (hts (.arrayClass .int) (by decide +kernel)) rfl hK hP hD hS hA 0 rfl (fun _ h => h) (N' := 40) (fun _ => rfl) (by decide) (by decide) (Nat.le_of_ble_eq_true rfl) (Nat.le_of_ble_eq_true rfl) (Nat.le_of_ble_eq_true rfl) dX8_init_7 (fun q7 H hP hD hS => ?_)
  have hP : va_P D vwCl [(h0, .inr (8, [.null, .null, .int 0])), (q7, .inl (cI, 40, .inl (fun _ => 0)))] H := hP
  have hD : va_D A [(h0, .inr (8, [.null, .null, .int 0])), (q7, .inl (cI, 40, .inl (fun _ => 0)))] := hD
  refine W.widen (k := 1) (n := 40) (Nat.le_of_ble_eq_true rfl) (Nat.le_of_ble_eq_true rfl) ?_
  refine va_putF (D := D) (ci := 8) (v := .ref q7) (ty := .array .int) (C := RX8) (T := TX8) (N := 3) hx hb hts iw_X8_init_X8 tyX8 tyX8_ok nmX8 hown hK hP hD hS 0 rfl rfl 0 (by decide) (hts (.fieldLink RX8 9 "KingTable$Stand" "fields" "[I") (by decide +kernel)) (fun _ h9 => h9) rfl hnm rfl (by decide +kernel) rfl rfl (Nat.le_of_ble_eq_true rfl) dX8_init_9 (fun H locs hP hD hS => ?_)
  have hP : va_P D vwCl [(h0, .inr (8, [.ref q7, .null, .int 0])), (q7, .inl (cI, 40, .inl (fun _ => 0)))] H := hP
  have hD : va_D A [(h0, .inr (8, [.ref q7, .null, .int 0])), (q7, .inl (cI, 40, .inl (fun _ => 0)))] := hD
  refine lv_aload_n hx hb dX8_init_12 rfl (lv_at hl 0 rfl) ?_
  refine lv_bipush (v := 81) hx hb dX8_init_13 (by decide) ?_
  refine kt_newa (atype := .int) (ty := .int) (cA := cI) hx hb (hts (.arrayClass .int) (by decide +kernel)) rfl hK hP hD hS hA 0 rfl (fun _ h => h) (N' := 81) (fun _ => rfl) (by decide) (by decide) (Nat.le_of_ble_eq_true rfl) (Nat.le_of_ble_eq_true rfl) (Nat.le_of_ble_eq_true rfl) dX8_init_15 (fun q15 H hP hD hS => ?_)
  have hP : va_P D vwCl [(h0, .inr (8, [.ref q7, .null, .int 0])), (q7, .inl (cI, 40, .inl (fun _ => 0))), (q15, .inl (cI, 81, .inl (fun _ => 0)))] H := hP
  have hD : va_D A [(h0, .inr (8, [.ref q7, .null, .int 0])), (q7, .inl (cI, 40, .inl (fun _ => 0))), (q15, .inl (cI, 81, .inl (fun _ => 0)))] := hD
  refine W.widen (k := 2) (n := 121) (Nat.le_of_ble_eq_true rfl) (Nat.le_of_ble_eq_true rfl) ?_
  refine va_putF (D := D) (ci := 8) (v := .ref q15) (ty := .array .int) (C := RX8) (T := TX8) (N := 3) hx hb hts iw_X8_init_X8 tyX8 tyX8_ok nmX8 hown hK hP hD hS 0 rfl rfl 1 (by decide) (hts (.fieldLink RX8 15 "KingTable$Stand" "holders" "[I") (by decide +kernel)) (fun _ h9 => h9) rfl hnm rfl (by decide +kernel) rfl rfl (Nat.le_of_ble_eq_true rfl) dX8_init_17 (fun H locs hP hD hS => ?_)
  have hP : va_P D vwCl [(h0, .inr (8, [.ref q7, .ref q15, .int 0])), (q7, .inl (cI, 40, .inl (fun _ => 0))), (q15, .inl (cI, 81, .inl (fun _ => 0)))] H := hP
  have hD : va_D A [(h0, .inr (8, [.ref q7, .ref q15, .int 0])), (q7, .inl (cI, 40, .inl (fun _ => 0))), (q15, .inl (cI, 81, .inl (fun _ => 0)))] := hD
  refine lv_aload_n hx hb dX8_init_20 rfl (lv_at hl 0 rfl) ?_
  refine kt_bv (wc := [(h0, .inr (8, [.ref q7, .ref q15, .int 0])), (q7, .inl (cI, 40, .inl (fun _ => 0))), (q15, .inl (cI, 81, .inl (fun _ => 0)))]) (wr := []) [0, 1, 2] [] hP hD hS hA rfl rfl (by decide) (by decide) (by decide) (fun hPc hDc => va_runV (As := []) (rest := []) ⟨hx, hb, hml, hown, hts⟩ (c_X8_clear l D cI cZ cB H.size h0 q7 q15 (fun _ => 0) (fun _ => 0) 0 ) (cwV 0 hts gX8_init_X8_clear rfl rfl rfl (by decide +kernel) ⟨Nat.le_of_ble_eq_true rfl, Nat.le_of_ble_eq_true rfl⟩) (kt_preV hN hK hPc hDc 0 (ci := 8) (q := (RX8, TX8, 3)) rfl rfl) rfl rfl hl.1 rfl (lv_room (Nat.le_of_ble_eq_true rfl)) dX8_init_21 ⟨Nat.le_of_ble_eq_true rfl, Nat.le_of_ble_eq_true rfl⟩) (fun u_ H locs hw_21 hP hD hS => ?_)
  have hP : va_P D vwCl [(h0, .inr (8, [.ref q7, .ref q15, .int 0])), (q7, .inl (cI, 40, .inl (fun _ => (-1)))), (q15, .inl (cI, 81, .inl (fun _ => (-1))))] H := hP.sub [0, 1, 2] rfl
  have hD : va_D A [(h0, .inr (8, [.ref q7, .ref q15, .int 0])), (q7, .inl (cI, 40, .inl (fun _ => (-1)))), (q15, .inl (cI, 81, .inl (fun _ => (-1))))] := hD.sub [0, 1, 2] (by decide) rfl
  refine W.widen (k := 2) (n := 121) (Nat.le_of_ble_eq_true rfl) (Nat.le_of_ble_eq_true rfl) ?_
  exact kt_rv (q7, q15) hx hb hr hlk hS dX8_init_24 hP hD (by first | rfl | trivial | assumption | (simp_all; done) | grind)

theorem iw_X3_init_X3 : ∀ w ∈ wsX30, w ∈ wsX3_init := by decide +kernel
set_option maxHeartbeats 4000000 in
set_option maxRecDepth 100000 in
theorem c_X3_init (l : Launch) (D : va_G) (cI cZ cB : ClassId) (sz : Nat) (h0 : Nat) : kt_Mv l yX3_init wsX3_init { frames := 1, cells := 7, slots := 6184, locals := 12 } D (kt_ty cI cZ cB) [.ref h0] sz [(h0, .inr (3, [.null, .null, .null, .null, .null, .null, .null, .int 0, .int 0]))] (fun (u : Nat × Nat × Nat × Nat × Nat × Nat × Nat) => True) (fun (u : Nat × Nat × Nat × Nat × Nat × Nat × Nat) => [(h0, .inr (3, [.ref u.1, .ref u.2.1, .ref u.2.2.1, .ref u.2.2.2.1, .ref u.2.2.2.2.1, .ref u.2.2.2.2.2.1, .ref u.2.2.2.2.2.2, .int 0, .int 0])), (u.1, .inl (cI, 512, .inl (fun _ => 0))), (u.2.1, .inl (cI, 512, .inl (fun _ => 0))), (u.2.2.1, .inl (cI, 512, .inl (fun _ => 0))), (u.2.2.2.1, .inl (cI, 512, .inl (fun _ => 0))), (u.2.2.2.2.1, .inl (cI, 2048, .inl (fun _ => 0))), (u.2.2.2.2.2.1, .inl (cI, 2048, .inl (fun _ => 0))), (u.2.2.2.2.2.2, .inl (cI, 40, .inl (fun _ => 0)))]) 7 6184 := by
  refine kt_Mv.of (cc := cX3_init) (maxL := 1) (ret := none) (by decide) rfl (Nat.le_of_ble_eq_true rfl) ?_
  intro p e s m below meth c A ls H hAt hP hD hS hl
  obtain ⟨hx, hb, hr, hml, hown, hts, hN, hK, hlk, hnm, hA⟩ := hAt
  have hl : lv_has ls 1 [(0, .ref h0)] := hl
  have hown : s.vm.findClass RX3 = some m.cls := hown
  refine lv_aload_n hx hb dX3_init_0 rfl (lv_at hl 0 rfl) ?_
  refine W.objInit hx hb hown (hts (.methodLink RX3 3 objectInit) (by decide +kernel)) (hts (.instanceMethod objectInit) (by decide +kernel)) (hts (.code objectInit ⟨#[0xb1]⟩ 1 none) (by decide +kernel)) rfl (by rw [hml]; exact hl.1) rfl dX3_init_1 (Nat.le_of_ble_eq_true rfl) (Nat.le_of_ble_eq_true rfl) ?_
  refine W.eq (g2 := F0 m 4 ls []) rfl ?_
  refine lv_aload_n hx hb dX3_init_4 rfl (lv_at hl 0 rfl) ?_
  refine lv_sipush (v := 512) hx hb dX3_init_5 (by decide) ?_
  refine kt_newa (atype := .int) (ty := .int) (cA := cI) hx hb (hts (.arrayClass .int) (by decide +kernel)) rfl hK hP hD hS hA 0 rfl (fun _ h => h) (N' := 512) (fun _ => rfl) (by decide) (by decide) (Nat.le_of_ble_eq_true rfl) (Nat.le_of_ble_eq_true rfl) (Nat.le_of_ble_eq_true rfl) dX3_init_8 (fun q8 H hP hD hS => ?_)
  have hP : va_P D vwCl [(h0, .inr (3, [.null, .null, .null, .null, .null, .null, .null, .int 0, .int 0])), (q8, .inl (cI, 512, .inl (fun _ => 0)))] H := hP
  have hD : va_D A [(h0, .inr (3, [.null, .null, .null, .null, .null, .null, .null, .int 0, .int 0])), (q8, .inl (cI, 512, .inl (fun _ => 0)))] := hD
  refine W.widen (k := 1) (n := 512) (Nat.le_of_ble_eq_true rfl) (Nat.le_of_ble_eq_true rfl) ?_
  refine va_putF (D := D) (ci := 3) (v := .ref q8) (ty := .array .int) (C := RX3) (T := TX3) (N := 9) hx hb hts iw_X3_init_X3 tyX3 tyX3_ok nmX3 hown hK hP hD hS 0 rfl rfl 0 (by decide) (hts (.fieldLink RX3 9 "KingTable$Log" "movers" "[I") (by decide +kernel)) (fun _ h9 => h9) rfl hnm rfl (by decide +kernel) rfl rfl (Nat.le_of_ble_eq_true rfl) dX3_init_10 (fun H locs hP hD hS => ?_)
  have hP : va_P D vwCl [(h0, .inr (3, [.ref q8, .null, .null, .null, .null, .null, .null, .int 0, .int 0])), (q8, .inl (cI, 512, .inl (fun _ => 0)))] H := hP
  have hD : va_D A [(h0, .inr (3, [.ref q8, .null, .null, .null, .null, .null, .null, .int 0, .int 0])), (q8, .inl (cI, 512, .inl (fun _ => 0)))] := hD
  refine lv_aload_n hx hb dX3_init_13 rfl (lv_at hl 0 rfl) ?_
  refine lv_sipush (v := 512) hx hb dX3_init_14 (by decide) ?_
  refine kt_newa (atype := .int) (ty := .int) (cA := cI) hx hb (hts (.arrayClass .int) (by decide +kernel)) rfl hK hP hD hS hA 0 rfl (fun _ h => h) (N' := 512) (fun _ => rfl) (by decide) (by decide) (Nat.le_of_ble_eq_true rfl) (Nat.le_of_ble_eq_true rfl) (Nat.le_of_ble_eq_true rfl) dX3_init_17 (fun q17 H hP hD hS => ?_)
  have hP : va_P D vwCl [(h0, .inr (3, [.ref q8, .null, .null, .null, .null, .null, .null, .int 0, .int 0])), (q8, .inl (cI, 512, .inl (fun _ => 0))), (q17, .inl (cI, 512, .inl (fun _ => 0)))] H := hP
  have hD : va_D A [(h0, .inr (3, [.ref q8, .null, .null, .null, .null, .null, .null, .int 0, .int 0])), (q8, .inl (cI, 512, .inl (fun _ => 0))), (q17, .inl (cI, 512, .inl (fun _ => 0)))] := hD
  refine W.widen (k := 2) (n := 1024) (Nat.le_of_ble_eq_true rfl) (Nat.le_of_ble_eq_true rfl) ?_
  refine va_putF (D := D) (ci := 3) (v := .ref q17) (ty := .array .int) (C := RX3) (T := TX3) (N := 9) hx hb hts iw_X3_init_X3 tyX3 tyX3_ok nmX3 hown hK hP hD hS 0 rfl rfl 1 (by decide) (hts (.fieldLink RX3 15 "KingTable$Log" "froms" "[I") (by decide +kernel)) (fun _ h9 => h9) rfl hnm rfl (by decide +kernel) rfl rfl (Nat.le_of_ble_eq_true rfl) dX3_init_19 (fun H locs hP hD hS => ?_)
  have hP : va_P D vwCl [(h0, .inr (3, [.ref q8, .ref q17, .null, .null, .null, .null, .null, .int 0, .int 0])), (q8, .inl (cI, 512, .inl (fun _ => 0))), (q17, .inl (cI, 512, .inl (fun _ => 0)))] H := hP
  have hD : va_D A [(h0, .inr (3, [.ref q8, .ref q17, .null, .null, .null, .null, .null, .int 0, .int 0])), (q8, .inl (cI, 512, .inl (fun _ => 0))), (q17, .inl (cI, 512, .inl (fun _ => 0)))] := hD
  refine lv_aload_n hx hb dX3_init_22 rfl (lv_at hl 0 rfl) ?_
  refine lv_sipush (v := 512) hx hb dX3_init_23 (by decide) ?_
  refine kt_newa (atype := .int) (ty := .int) (cA := cI) hx hb (hts (.arrayClass .int) (by decide +kernel)) rfl hK hP hD hS hA 0 rfl (fun _ h => h) (N' := 512) (fun _ => rfl) (by decide) (by decide) (Nat.le_of_ble_eq_true rfl) (Nat.le_of_ble_eq_true rfl) (Nat.le_of_ble_eq_true rfl) dX3_init_26 (fun q26 H hP hD hS => ?_)
  have hP : va_P D vwCl [(h0, .inr (3, [.ref q8, .ref q17, .null, .null, .null, .null, .null, .int 0, .int 0])), (q8, .inl (cI, 512, .inl (fun _ => 0))), (q17, .inl (cI, 512, .inl (fun _ => 0))), (q26, .inl (cI, 512, .inl (fun _ => 0)))] H := hP
  have hD : va_D A [(h0, .inr (3, [.ref q8, .ref q17, .null, .null, .null, .null, .null, .int 0, .int 0])), (q8, .inl (cI, 512, .inl (fun _ => 0))), (q17, .inl (cI, 512, .inl (fun _ => 0))), (q26, .inl (cI, 512, .inl (fun _ => 0)))] := hD
  refine W.widen (k := 3) (n := 1536) (Nat.le_of_ble_eq_true rfl) (Nat.le_of_ble_eq_true rfl) ?_
  refine va_putF (D := D) (ci := 3) (v := .ref q26) (ty := .array .int) (C := RX3) (T := TX3) (N := 9) hx hb hts iw_X3_init_X3 tyX3 tyX3_ok nmX3 hown hK hP hD hS 0 rfl rfl 2 (by decide) (hts (.fieldLink RX3 18 "KingTable$Log" "tos" "[I") (by decide +kernel)) (fun _ h9 => h9) rfl hnm rfl (by decide +kernel) rfl rfl (Nat.le_of_ble_eq_true rfl) dX3_init_28 (fun H locs hP hD hS => ?_)
  have hP : va_P D vwCl [(h0, .inr (3, [.ref q8, .ref q17, .ref q26, .null, .null, .null, .null, .int 0, .int 0])), (q8, .inl (cI, 512, .inl (fun _ => 0))), (q17, .inl (cI, 512, .inl (fun _ => 0))), (q26, .inl (cI, 512, .inl (fun _ => 0)))] H := hP
  have hD : va_D A [(h0, .inr (3, [.ref q8, .ref q17, .ref q26, .null, .null, .null, .null, .int 0, .int 0])), (q8, .inl (cI, 512, .inl (fun _ => 0))), (q17, .inl (cI, 512, .inl (fun _ => 0))), (q26, .inl (cI, 512, .inl (fun _ => 0)))] := hD
  refine lv_aload_n hx hb dX3_init_31 rfl (lv_at hl 0 rfl) ?_
  refine lv_sipush (v := 512) hx hb dX3_init_32 (by decide) ?_
  refine kt_newa (atype := .int) (ty := .int) (cA := cI) hx hb (hts (.arrayClass .int) (by decide +kernel)) rfl hK hP hD hS hA 0 rfl (fun _ h => h) (N' := 512) (fun _ => rfl) (by decide) (by decide) (Nat.le_of_ble_eq_true rfl) (Nat.le_of_ble_eq_true rfl) (Nat.le_of_ble_eq_true rfl) dX3_init_35 (fun q35 H hP hD hS => ?_)
  have hP : va_P D vwCl [(h0, .inr (3, [.ref q8, .ref q17, .ref q26, .null, .null, .null, .null, .int 0, .int 0])), (q8, .inl (cI, 512, .inl (fun _ => 0))), (q17, .inl (cI, 512, .inl (fun _ => 0))), (q26, .inl (cI, 512, .inl (fun _ => 0))), (q35, .inl (cI, 512, .inl (fun _ => 0)))] H := hP
  have hD : va_D A [(h0, .inr (3, [.ref q8, .ref q17, .ref q26, .null, .null, .null, .null, .int 0, .int 0])), (q8, .inl (cI, 512, .inl (fun _ => 0))), (q17, .inl (cI, 512, .inl (fun _ => 0))), (q26, .inl (cI, 512, .inl (fun _ => 0))), (q35, .inl (cI, 512, .inl (fun _ => 0)))] := hD
  refine W.widen (k := 4) (n := 2048) (Nat.le_of_ble_eq_true rfl) (Nat.le_of_ble_eq_true rfl) ?_
  refine va_putF (D := D) (ci := 3) (v := .ref q35) (ty := .array .int) (C := RX3) (T := TX3) (N := 9) hx hb hts iw_X3_init_X3 tyX3 tyX3_ok nmX3 hown hK hP hD hS 0 rfl rfl 3 (by decide) (hts (.fieldLink RX3 21 "KingTable$Log" "takings" "[I") (by decide +kernel)) (fun _ h9 => h9) rfl hnm rfl (by decide +kernel) rfl rfl (Nat.le_of_ble_eq_true rfl) dX3_init_37 (fun H locs hP hD hS => ?_)
  have hP : va_P D vwCl [(h0, .inr (3, [.ref q8, .ref q17, .ref q26, .ref q35, .null, .null, .null, .int 0, .int 0])), (q8, .inl (cI, 512, .inl (fun _ => 0))), (q17, .inl (cI, 512, .inl (fun _ => 0))), (q26, .inl (cI, 512, .inl (fun _ => 0))), (q35, .inl (cI, 512, .inl (fun _ => 0)))] H := hP
  have hD : va_D A [(h0, .inr (3, [.ref q8, .ref q17, .ref q26, .ref q35, .null, .null, .null, .int 0, .int 0])), (q8, .inl (cI, 512, .inl (fun _ => 0))), (q17, .inl (cI, 512, .inl (fun _ => 0))), (q26, .inl (cI, 512, .inl (fun _ => 0))), (q35, .inl (cI, 512, .inl (fun _ => 0)))] := hD
  refine lv_aload_n hx hb dX3_init_40 rfl (lv_at hl 0 rfl) ?_
  refine lv_sipush (v := 2048) hx hb dX3_init_41 (by decide) ?_
  refine kt_newa (atype := .int) (ty := .int) (cA := cI) hx hb (hts (.arrayClass .int) (by decide +kernel)) rfl hK hP hD hS hA 0 rfl (fun _ h => h) (N' := 2048) (fun _ => rfl) (by decide) (by decide) (Nat.le_of_ble_eq_true rfl) (Nat.le_of_ble_eq_true rfl) (Nat.le_of_ble_eq_true rfl) dX3_init_44 (fun q44 H hP hD hS => ?_)
  have hP : va_P D vwCl [(h0, .inr (3, [.ref q8, .ref q17, .ref q26, .ref q35, .null, .null, .null, .int 0, .int 0])), (q8, .inl (cI, 512, .inl (fun _ => 0))), (q17, .inl (cI, 512, .inl (fun _ => 0))), (q26, .inl (cI, 512, .inl (fun _ => 0))), (q35, .inl (cI, 512, .inl (fun _ => 0))), (q44, .inl (cI, 2048, .inl (fun _ => 0)))] H := hP
  have hD : va_D A [(h0, .inr (3, [.ref q8, .ref q17, .ref q26, .ref q35, .null, .null, .null, .int 0, .int 0])), (q8, .inl (cI, 512, .inl (fun _ => 0))), (q17, .inl (cI, 512, .inl (fun _ => 0))), (q26, .inl (cI, 512, .inl (fun _ => 0))), (q35, .inl (cI, 512, .inl (fun _ => 0))), (q44, .inl (cI, 2048, .inl (fun _ => 0)))] := hD
  refine W.widen (k := 5) (n := 4096) (Nat.le_of_ble_eq_true rfl) (Nat.le_of_ble_eq_true rfl) ?_
  refine va_putF (D := D) (ci := 3) (v := .ref q44) (ty := .array .int) (C := RX3) (T := TX3) (N := 9) hx hb hts iw_X3_init_X3 tyX3 tyX3_ok nmX3 hown hK hP hD hS 0 rfl rfl 4 (by decide) (hts (.fieldLink RX3 24 "KingTable$Log" "victims" "[I") (by decide +kernel)) (fun _ h9 => h9) rfl hnm rfl (by decide +kernel) rfl rfl (Nat.le_of_ble_eq_true rfl) dX3_init_46 (fun H locs hP hD hS => ?_)
  have hP : va_P D vwCl [(h0, .inr (3, [.ref q8, .ref q17, .ref q26, .ref q35, .ref q44, .null, .null, .int 0, .int 0])), (q8, .inl (cI, 512, .inl (fun _ => 0))), (q17, .inl (cI, 512, .inl (fun _ => 0))), (q26, .inl (cI, 512, .inl (fun _ => 0))), (q35, .inl (cI, 512, .inl (fun _ => 0))), (q44, .inl (cI, 2048, .inl (fun _ => 0)))] H := hP
  have hD : va_D A [(h0, .inr (3, [.ref q8, .ref q17, .ref q26, .ref q35, .ref q44, .null, .null, .int 0, .int 0])), (q8, .inl (cI, 512, .inl (fun _ => 0))), (q17, .inl (cI, 512, .inl (fun _ => 0))), (q26, .inl (cI, 512, .inl (fun _ => 0))), (q35, .inl (cI, 512, .inl (fun _ => 0))), (q44, .inl (cI, 2048, .inl (fun _ => 0)))] := hD
  refine lv_aload_n hx hb dX3_init_49 rfl (lv_at hl 0 rfl) ?_
  refine lv_sipush (v := 2048) hx hb dX3_init_50 (by decide) ?_
  refine kt_newa (atype := .int) (ty := .int) (cA := cI) hx hb (hts (.arrayClass .int) (by decide +kernel)) rfl hK hP hD hS hA 0 rfl (fun _ h => h) (N' := 2048) (fun _ => rfl) (by decide) (by decide) (Nat.le_of_ble_eq_true rfl) (Nat.le_of_ble_eq_true rfl) (Nat.le_of_ble_eq_true rfl) dX3_init_53 (fun q53 H hP hD hS => ?_)
  have hP : va_P D vwCl [(h0, .inr (3, [.ref q8, .ref q17, .ref q26, .ref q35, .ref q44, .null, .null, .int 0, .int 0])), (q8, .inl (cI, 512, .inl (fun _ => 0))), (q17, .inl (cI, 512, .inl (fun _ => 0))), (q26, .inl (cI, 512, .inl (fun _ => 0))), (q35, .inl (cI, 512, .inl (fun _ => 0))), (q44, .inl (cI, 2048, .inl (fun _ => 0))), (q53, .inl (cI, 2048, .inl (fun _ => 0)))] H := hP
  have hD : va_D A [(h0, .inr (3, [.ref q8, .ref q17, .ref q26, .ref q35, .ref q44, .null, .null, .int 0, .int 0])), (q8, .inl (cI, 512, .inl (fun _ => 0))), (q17, .inl (cI, 512, .inl (fun _ => 0))), (q26, .inl (cI, 512, .inl (fun _ => 0))), (q35, .inl (cI, 512, .inl (fun _ => 0))), (q44, .inl (cI, 2048, .inl (fun _ => 0))), (q53, .inl (cI, 2048, .inl (fun _ => 0)))] := hD
  refine W.widen (k := 6) (n := 6144) (Nat.le_of_ble_eq_true rfl) (Nat.le_of_ble_eq_true rfl) ?_
  refine va_putF (D := D) (ci := 3) (v := .ref q53) (ty := .array .int) (C := RX3) (T := TX3) (N := 9) hx hb hts iw_X3_init_X3 tyX3 tyX3_ok nmX3 hown hK hP hD hS 0 rfl rfl 5 (by decide) (hts (.fieldLink RX3 27 "KingTable$Log" "victimFields" "[I") (by decide +kernel)) (fun _ h9 => h9) rfl hnm rfl (by decide +kernel) rfl rfl (Nat.le_of_ble_eq_true rfl) dX3_init_55 (fun H locs hP hD hS => ?_)
  have hP : va_P D vwCl [(h0, .inr (3, [.ref q8, .ref q17, .ref q26, .ref q35, .ref q44, .ref q53, .null, .int 0, .int 0])), (q8, .inl (cI, 512, .inl (fun _ => 0))), (q17, .inl (cI, 512, .inl (fun _ => 0))), (q26, .inl (cI, 512, .inl (fun _ => 0))), (q35, .inl (cI, 512, .inl (fun _ => 0))), (q44, .inl (cI, 2048, .inl (fun _ => 0))), (q53, .inl (cI, 2048, .inl (fun _ => 0)))] H := hP
  have hD : va_D A [(h0, .inr (3, [.ref q8, .ref q17, .ref q26, .ref q35, .ref q44, .ref q53, .null, .int 0, .int 0])), (q8, .inl (cI, 512, .inl (fun _ => 0))), (q17, .inl (cI, 512, .inl (fun _ => 0))), (q26, .inl (cI, 512, .inl (fun _ => 0))), (q35, .inl (cI, 512, .inl (fun _ => 0))), (q44, .inl (cI, 2048, .inl (fun _ => 0))), (q53, .inl (cI, 2048, .inl (fun _ => 0)))] := hD
  refine lv_aload_n hx hb dX3_init_58 rfl (lv_at hl 0 rfl) ?_
  refine lv_bipush (v := 40) hx hb dX3_init_59 (by decide) ?_
  refine kt_newa (atype := .int) (ty := .int) (cA := cI) hx hb (hts (.arrayClass .int) (by decide +kernel)) rfl hK hP hD hS hA 0 rfl (fun _ h => h) (N' := 40) (fun _ => rfl) (by decide) (by decide) (Nat.le_of_ble_eq_true rfl) (Nat.le_of_ble_eq_true rfl) (Nat.le_of_ble_eq_true rfl) dX3_init_61 (fun q61 H hP hD hS => ?_)
  have hP : va_P D vwCl [(h0, .inr (3, [.ref q8, .ref q17, .ref q26, .ref q35, .ref q44, .ref q53, .null, .int 0, .int 0])), (q8, .inl (cI, 512, .inl (fun _ => 0))), (q17, .inl (cI, 512, .inl (fun _ => 0))), (q26, .inl (cI, 512, .inl (fun _ => 0))), (q35, .inl (cI, 512, .inl (fun _ => 0))), (q44, .inl (cI, 2048, .inl (fun _ => 0))), (q53, .inl (cI, 2048, .inl (fun _ => 0))), (q61, .inl (cI, 40, .inl (fun _ => 0)))] H := hP
  have hD : va_D A [(h0, .inr (3, [.ref q8, .ref q17, .ref q26, .ref q35, .ref q44, .ref q53, .null, .int 0, .int 0])), (q8, .inl (cI, 512, .inl (fun _ => 0))), (q17, .inl (cI, 512, .inl (fun _ => 0))), (q26, .inl (cI, 512, .inl (fun _ => 0))), (q35, .inl (cI, 512, .inl (fun _ => 0))), (q44, .inl (cI, 2048, .inl (fun _ => 0))), (q53, .inl (cI, 2048, .inl (fun _ => 0))), (q61, .inl (cI, 40, .inl (fun _ => 0)))] := hD
  refine W.widen (k := 7) (n := 6184) (Nat.le_of_ble_eq_true rfl) (Nat.le_of_ble_eq_true rfl) ?_
  refine va_putF (D := D) (ci := 3) (v := .ref q61) (ty := .array .int) (C := RX3) (T := TX3) (N := 9) hx hb hts iw_X3_init_X3 tyX3 tyX3_ok nmX3 hown hK hP hD hS 0 rfl rfl 6 (by decide) (hts (.fieldLink RX3 30 "KingTable$Log" "then" "[I") (by decide +kernel)) (fun _ h9 => h9) rfl hnm rfl (by decide +kernel) rfl rfl (Nat.le_of_ble_eq_true rfl) dX3_init_63 (fun H locs hP hD hS => ?_)
  have hP : va_P D vwCl [(h0, .inr (3, [.ref q8, .ref q17, .ref q26, .ref q35, .ref q44, .ref q53, .ref q61, .int 0, .int 0])), (q8, .inl (cI, 512, .inl (fun _ => 0))), (q17, .inl (cI, 512, .inl (fun _ => 0))), (q26, .inl (cI, 512, .inl (fun _ => 0))), (q35, .inl (cI, 512, .inl (fun _ => 0))), (q44, .inl (cI, 2048, .inl (fun _ => 0))), (q53, .inl (cI, 2048, .inl (fun _ => 0))), (q61, .inl (cI, 40, .inl (fun _ => 0)))] H := hP
  have hD : va_D A [(h0, .inr (3, [.ref q8, .ref q17, .ref q26, .ref q35, .ref q44, .ref q53, .ref q61, .int 0, .int 0])), (q8, .inl (cI, 512, .inl (fun _ => 0))), (q17, .inl (cI, 512, .inl (fun _ => 0))), (q26, .inl (cI, 512, .inl (fun _ => 0))), (q35, .inl (cI, 512, .inl (fun _ => 0))), (q44, .inl (cI, 2048, .inl (fun _ => 0))), (q53, .inl (cI, 2048, .inl (fun _ => 0))), (q61, .inl (cI, 40, .inl (fun _ => 0)))] := hD
  refine W.widen (k := 7) (n := 6184) (Nat.le_of_ble_eq_true rfl) (Nat.le_of_ble_eq_true rfl) ?_
  exact kt_rv (q8, q17, q26, q35, q44, q53, q61) hx hb hr hlk hS dX3_init_66 hP hD (by first | rfl | trivial | assumption | (simp_all; done) | grind)

theorem iw_X6_init_X0 : ∀ w ∈ wsX00, w ∈ wsX6_init := by decide +kernel
theorem iw_X6_init_X6 : ∀ w ∈ wsX60, w ∈ wsX6_init := by decide +kernel
set_option maxHeartbeats 4000000 in
set_option maxRecDepth 100000 in
theorem c_X6_init (l : Launch) (D : va_G) (cI cZ cB : ClassId) (sz : Nat) (h0 : Nat) (la : Nat) : kt_Mv l yX6_init wsX6_init { frames := 2, cells := 8, slots := 615, locals := 32 } D (kt_ty cI cZ cB) [.ref h0, .ref la] sz [(h0, .inr (6, [.null, .null, .null, .null, .null, .int 0, .int 0, .null, .int 0]))] (fun (u : Nat × Nat × Nat × Nat × Nat × Nat × Nat × Nat) => True) (fun (u : Nat × Nat × Nat × Nat × Nat × Nat × Nat × Nat) => [(h0, .inr (6, [.ref la, .ref u.1, .ref u.2.2.2.2.1, .ref u.2.2.2.2.2.1, .ref u.2.2.2.2.2.2.1, .int 0, .int (-1), .ref u.2.2.2.2.2.2.2, .int 0])), (u.1, .inr (0, [.ref u.2.1, .ref u.2.2.1, .ref u.2.2.2.1, .int 0, .int 0])), (u.2.1, .inl (cI, 81, .inl (fun _ => 0))), (u.2.2.1, .inl (cZ, 81, .inl (fun _ => 0))), (u.2.2.2.1, .inl (cI, 324, .inl (fun _ => 0))), (u.2.2.2.2.1, .inl (cI, 40, .inl (fun _ => 0))), (u.2.2.2.2.2.1, .inl (cI, 40, .inl (fun _ => 0))), (u.2.2.2.2.2.2.1, .inl (cZ, 40, .inl (fun _ => 0))), (u.2.2.2.2.2.2.2, .inl (cI, 4, .inl (fun _ => 0)))]) 8 615 := by
  refine kt_Mv.of (cc := cX6_init) (maxL := 2) (ret := none) (by decide) rfl (Nat.le_of_ble_eq_true rfl) ?_
  intro p e s m below meth c A ls H hAt hP hD hS hl
  obtain ⟨hx, hb, hr, hml, hown, hts, hN, hK, hlk, hnm, hA⟩ := hAt
  have hl : lv_has ls 2 [(0, .ref h0), (1, .ref la)] := hl
  have hown : s.vm.findClass RX6 = some m.cls := hown
  refine lv_aload_n hx hb dX6_init_0 rfl (lv_at hl 0 rfl) ?_
  refine W.objInit hx hb hown (hts (.methodLink RX6 3 objectInit) (by decide +kernel)) (hts (.instanceMethod objectInit) (by decide +kernel)) (hts (.code objectInit ⟨#[0xb1]⟩ 1 none) (by decide +kernel)) rfl (by rw [hml]; exact hl.1) rfl dX6_init_1 (Nat.le_of_ble_eq_true rfl) (Nat.le_of_ble_eq_true rfl) ?_
  refine W.eq (g2 := F0 m 4 ls []) rfl ?_
  refine lv_aload_n hx hb dX6_init_4 rfl (lv_at hl 0 rfl) ?_
  refine va_new (ci := 0) (fs := [.null, .null, .null, .int 0, .int 0]) (C := RX0) (T := TX0) (N := 5) hx hb hts iw_X6_init_X0 tyX0 tyX0_ok hown (hts (.classLink RX6 9 RX0) (by decide +kernel)) (hts (.instantiable RX0 5) (by decide +kernel)) (hts (.initialized RX0) (by decide +kernel)) hK hP hD hS hA rfl (fun j hj => by rcases (show j = 0 ∨ j = 1 ∨ j = 2 ∨ j = 3 ∨ j = 4 by omega) with rfl | rfl | rfl | rfl | rfl <;> rfl) (Nat.le_of_ble_eq_true rfl) (Nat.le_of_ble_eq_true rfl) dX6_init_5 (fun q5 H hP hD hS => ?_)
  have hP : va_P D vwCl [(h0, .inr (6, [.null, .null, .null, .null, .null, .int 0, .int 0, .null, .int 0])), (q5, .inr (0, [.null, .null, .null, .int 0, .int 0]))] H := hP
  have hD : va_D A [(h0, .inr (6, [.null, .null, .null, .null, .null, .int 0, .int 0, .null, .int 0])), (q5, .inr (0, [.null, .null, .null, .int 0, .int 0]))] := hD
  refine W.widen (k := 1) (n := 5) (Nat.le_of_ble_eq_true rfl) (Nat.le_of_ble_eq_true rfl) ?_
  refine lv_dup hx hb dX6_init_8 rfl ?_
  refine kt_bv (wc := [(q5, .inr (0, [.null, .null, .null, .int 0, .int 0]))]) (wr := [(h0, .inr (6, [.null, .null, .null, .null, .null, .int 0, .int 0, .null, .int 0]))]) [1] [0] hP hD hS hA rfl rfl (by decide) (by decide) (by decide) (fun hPc hDc => va_runIN (As := []) (rest := [.ref q5, .ref h0]) ⟨hx, hb, hml, hown, hts⟩ (c_X0_init l D cI cZ cB H.size q5 ) ⟨va_cnB 0 hts gX6_init_X0_init_n11 rfl rfl rfl (hN (.methodLinkNest "KingTable$Rules" 11 yX0_init "KingTable") (by decide +kernel)) (hts (.initialized RX0) (by decide +kernel)) (by decide +kernel) ⟨Nat.le_of_ble_eq_true rfl, Nat.le_of_ble_eq_true rfl⟩, rfl, (hts (.instanceMethod yX0_init) (by decide +kernel))⟩ (kt_preS hN hK hPc hDc) rfl rfl hl.1 rfl (lv_room (Nat.le_of_ble_eq_true rfl)) dX6_init_9 ⟨Nat.le_of_ble_eq_true rfl, Nat.le_of_ble_eq_true rfl⟩) (fun u_ H locs hw_9 hP hD hS => ?_)
  obtain ⟨gt_9, gg_9, gn_9⟩ := u_
  have hP : va_P D vwCl [(h0, .inr (6, [.null, .null, .null, .null, .null, .int 0, .int 0, .null, .int 0])), (q5, .inr (0, [.ref gt_9, .ref gg_9, .ref gn_9, .int 0, .int 0])), (gt_9, .inl (cI, 81, .inl (fun _ => 0))), (gg_9, .inl (cZ, 81, .inl (fun _ => 0))), (gn_9, .inl (cI, 324, .inl (fun _ => 0)))] H := hP.sub [0, 1, 2, 3, 4] rfl
  have hD : va_D A [(h0, .inr (6, [.null, .null, .null, .null, .null, .int 0, .int 0, .null, .int 0])), (q5, .inr (0, [.ref gt_9, .ref gg_9, .ref gn_9, .int 0, .int 0])), (gt_9, .inl (cI, 81, .inl (fun _ => 0))), (gg_9, .inl (cZ, 81, .inl (fun _ => 0))), (gn_9, .inl (cI, 324, .inl (fun _ => 0)))] := hD.sub [0, 1, 2, 3, 4] (by decide) rfl
  refine W.widen (k := 4) (n := 491) (Nat.le_of_ble_eq_true rfl) (Nat.le_of_ble_eq_true rfl) ?_
  refine va_putF (D := D) (ci := 6) (v := .ref q5) (ty := .object "KingTable$Ground") (C := RX6) (T := TX6) (N := 9) hx hb hts iw_X6_init_X6 tyX6 tyX6_ok nmX6 hown hK hP hD hS 0 rfl rfl 1 (by decide) (hts (.fieldLink RX6 12 "KingTable$Rules" "ground" "LKingTable$Ground;") (by decide +kernel)) (fun _ h9 => h9) rfl hnm rfl (by decide +kernel) rfl rfl (Nat.le_of_ble_eq_true rfl) dX6_init_12 (fun H locs hP hD hS => ?_)
  have hP : va_P D vwCl [(h0, .inr (6, [.null, .ref q5, .null, .null, .null, .int 0, .int 0, .null, .int 0])), (q5, .inr (0, [.ref gt_9, .ref gg_9, .ref gn_9, .int 0, .int 0])), (gt_9, .inl (cI, 81, .inl (fun _ => 0))), (gg_9, .inl (cZ, 81, .inl (fun _ => 0))), (gn_9, .inl (cI, 324, .inl (fun _ => 0)))] H := hP
  have hD : va_D A [(h0, .inr (6, [.null, .ref q5, .null, .null, .null, .int 0, .int 0, .null, .int 0])), (q5, .inr (0, [.ref gt_9, .ref gg_9, .ref gn_9, .int 0, .int 0])), (gt_9, .inl (cI, 81, .inl (fun _ => 0))), (gg_9, .inl (cZ, 81, .inl (fun _ => 0))), (gn_9, .inl (cI, 324, .inl (fun _ => 0)))] := hD
  refine lv_aload_n hx hb dX6_init_15 rfl (lv_at hl 0 rfl) ?_
  refine lv_bipush (v := 40) hx hb dX6_init_16 (by decide) ?_
  refine kt_newa (atype := .int) (ty := .int) (cA := cI) hx hb (hts (.arrayClass .int) (by decide +kernel)) rfl hK hP hD hS hA 0 rfl (fun _ h => h) (N' := 40) (fun _ => rfl) (by decide) (by decide) (Nat.le_of_ble_eq_true rfl) (Nat.le_of_ble_eq_true rfl) (Nat.le_of_ble_eq_true rfl) dX6_init_18 (fun q18 H hP hD hS => ?_)
  have hP : va_P D vwCl [(h0, .inr (6, [.null, .ref q5, .null, .null, .null, .int 0, .int 0, .null, .int 0])), (q5, .inr (0, [.ref gt_9, .ref gg_9, .ref gn_9, .int 0, .int 0])), (gt_9, .inl (cI, 81, .inl (fun _ => 0))), (gg_9, .inl (cZ, 81, .inl (fun _ => 0))), (gn_9, .inl (cI, 324, .inl (fun _ => 0))), (q18, .inl (cI, 40, .inl (fun _ => 0)))] H := hP
  have hD : va_D A [(h0, .inr (6, [.null, .ref q5, .null, .null, .null, .int 0, .int 0, .null, .int 0])), (q5, .inr (0, [.ref gt_9, .ref gg_9, .ref gn_9, .int 0, .int 0])), (gt_9, .inl (cI, 81, .inl (fun _ => 0))), (gg_9, .inl (cZ, 81, .inl (fun _ => 0))), (gn_9, .inl (cI, 324, .inl (fun _ => 0))), (q18, .inl (cI, 40, .inl (fun _ => 0)))] := hD
  refine W.widen (k := 5) (n := 531) (Nat.le_of_ble_eq_true rfl) (Nat.le_of_ble_eq_true rfl) ?_
  refine va_putF (D := D) (ci := 6) (v := .ref q18) (ty := .array .int) (C := RX6) (T := TX6) (N := 9) hx hb hts iw_X6_init_X6 tyX6 tyX6_ok nmX6 hown hK hP hD hS 0 rfl rfl 2 (by decide) (hts (.fieldLink RX6 18 "KingTable$Rules" "kinds" "[I") (by decide +kernel)) (fun _ h9 => h9) rfl hnm rfl (by decide +kernel) rfl rfl (Nat.le_of_ble_eq_true rfl) dX6_init_20 (fun H locs hP hD hS => ?_)
  have hP : va_P D vwCl [(h0, .inr (6, [.null, .ref q5, .ref q18, .null, .null, .int 0, .int 0, .null, .int 0])), (q5, .inr (0, [.ref gt_9, .ref gg_9, .ref gn_9, .int 0, .int 0])), (gt_9, .inl (cI, 81, .inl (fun _ => 0))), (gg_9, .inl (cZ, 81, .inl (fun _ => 0))), (gn_9, .inl (cI, 324, .inl (fun _ => 0))), (q18, .inl (cI, 40, .inl (fun _ => 0)))] H := hP
  have hD : va_D A [(h0, .inr (6, [.null, .ref q5, .ref q18, .null, .null, .int 0, .int 0, .null, .int 0])), (q5, .inr (0, [.ref gt_9, .ref gg_9, .ref gn_9, .int 0, .int 0])), (gt_9, .inl (cI, 81, .inl (fun _ => 0))), (gg_9, .inl (cZ, 81, .inl (fun _ => 0))), (gn_9, .inl (cI, 324, .inl (fun _ => 0))), (q18, .inl (cI, 40, .inl (fun _ => 0)))] := hD
  refine lv_aload_n hx hb dX6_init_23 rfl (lv_at hl 0 rfl) ?_
  refine lv_bipush (v := 40) hx hb dX6_init_24 (by decide) ?_
  refine kt_newa (atype := .int) (ty := .int) (cA := cI) hx hb (hts (.arrayClass .int) (by decide +kernel)) rfl hK hP hD hS hA 0 rfl (fun _ h => h) (N' := 40) (fun _ => rfl) (by decide) (by decide) (Nat.le_of_ble_eq_true rfl) (Nat.le_of_ble_eq_true rfl) (Nat.le_of_ble_eq_true rfl) dX6_init_26 (fun q26 H hP hD hS => ?_)
  have hP : va_P D vwCl [(h0, .inr (6, [.null, .ref q5, .ref q18, .null, .null, .int 0, .int 0, .null, .int 0])), (q5, .inr (0, [.ref gt_9, .ref gg_9, .ref gn_9, .int 0, .int 0])), (gt_9, .inl (cI, 81, .inl (fun _ => 0))), (gg_9, .inl (cZ, 81, .inl (fun _ => 0))), (gn_9, .inl (cI, 324, .inl (fun _ => 0))), (q18, .inl (cI, 40, .inl (fun _ => 0))), (q26, .inl (cI, 40, .inl (fun _ => 0)))] H := hP
  have hD : va_D A [(h0, .inr (6, [.null, .ref q5, .ref q18, .null, .null, .int 0, .int 0, .null, .int 0])), (q5, .inr (0, [.ref gt_9, .ref gg_9, .ref gn_9, .int 0, .int 0])), (gt_9, .inl (cI, 81, .inl (fun _ => 0))), (gg_9, .inl (cZ, 81, .inl (fun _ => 0))), (gn_9, .inl (cI, 324, .inl (fun _ => 0))), (q18, .inl (cI, 40, .inl (fun _ => 0))), (q26, .inl (cI, 40, .inl (fun _ => 0)))] := hD
  refine W.widen (k := 6) (n := 571) (Nat.le_of_ble_eq_true rfl) (Nat.le_of_ble_eq_true rfl) ?_
  refine va_putF (D := D) (ci := 6) (v := .ref q26) (ty := .array .int) (C := RX6) (T := TX6) (N := 9) hx hb hts iw_X6_init_X6 tyX6 tyX6_ok nmX6 hown hK hP hD hS 0 rfl rfl 3 (by decide) (hts (.fieldLink RX6 22 "KingTable$Rules" "sides" "[I") (by decide +kernel)) (fun _ h9 => h9) rfl hnm rfl (by decide +kernel) rfl rfl (Nat.le_of_ble_eq_true rfl) dX6_init_28 (fun H locs hP hD hS => ?_)
  have hP : va_P D vwCl [(h0, .inr (6, [.null, .ref q5, .ref q18, .ref q26, .null, .int 0, .int 0, .null, .int 0])), (q5, .inr (0, [.ref gt_9, .ref gg_9, .ref gn_9, .int 0, .int 0])), (gt_9, .inl (cI, 81, .inl (fun _ => 0))), (gg_9, .inl (cZ, 81, .inl (fun _ => 0))), (gn_9, .inl (cI, 324, .inl (fun _ => 0))), (q18, .inl (cI, 40, .inl (fun _ => 0))), (q26, .inl (cI, 40, .inl (fun _ => 0)))] H := hP
  have hD : va_D A [(h0, .inr (6, [.null, .ref q5, .ref q18, .ref q26, .null, .int 0, .int 0, .null, .int 0])), (q5, .inr (0, [.ref gt_9, .ref gg_9, .ref gn_9, .int 0, .int 0])), (gt_9, .inl (cI, 81, .inl (fun _ => 0))), (gg_9, .inl (cZ, 81, .inl (fun _ => 0))), (gn_9, .inl (cI, 324, .inl (fun _ => 0))), (q18, .inl (cI, 40, .inl (fun _ => 0))), (q26, .inl (cI, 40, .inl (fun _ => 0)))] := hD
  refine lv_aload_n hx hb dX6_init_31 rfl (lv_at hl 0 rfl) ?_
  refine lv_bipush (v := 40) hx hb dX6_init_32 (by decide) ?_
  refine kt_newa (atype := .boolean) (ty := .boolean) (cA := cZ) hx hb (hts (.arrayClass .boolean) (by decide +kernel)) rfl hK hP hD hS hA 1 rfl (fun _ h => h) (N' := 40) (fun _ => rfl) (by decide) (by decide) (Nat.le_of_ble_eq_true rfl) (Nat.le_of_ble_eq_true rfl) (Nat.le_of_ble_eq_true rfl) dX6_init_34 (fun q34 H hP hD hS => ?_)
  have hP : va_P D vwCl [(h0, .inr (6, [.null, .ref q5, .ref q18, .ref q26, .null, .int 0, .int 0, .null, .int 0])), (q5, .inr (0, [.ref gt_9, .ref gg_9, .ref gn_9, .int 0, .int 0])), (gt_9, .inl (cI, 81, .inl (fun _ => 0))), (gg_9, .inl (cZ, 81, .inl (fun _ => 0))), (gn_9, .inl (cI, 324, .inl (fun _ => 0))), (q18, .inl (cI, 40, .inl (fun _ => 0))), (q26, .inl (cI, 40, .inl (fun _ => 0))), (q34, .inl (cZ, 40, .inl (fun _ => 0)))] H := hP
  have hD : va_D A [(h0, .inr (6, [.null, .ref q5, .ref q18, .ref q26, .null, .int 0, .int 0, .null, .int 0])), (q5, .inr (0, [.ref gt_9, .ref gg_9, .ref gn_9, .int 0, .int 0])), (gt_9, .inl (cI, 81, .inl (fun _ => 0))), (gg_9, .inl (cZ, 81, .inl (fun _ => 0))), (gn_9, .inl (cI, 324, .inl (fun _ => 0))), (q18, .inl (cI, 40, .inl (fun _ => 0))), (q26, .inl (cI, 40, .inl (fun _ => 0))), (q34, .inl (cZ, 40, .inl (fun _ => 0)))] := hD
  refine W.widen (k := 7) (n := 611) (Nat.le_of_ble_eq_true rfl) (Nat.le_of_ble_eq_true rfl) ?_
  refine va_putF (D := D) (ci := 6) (v := .ref q34) (ty := .array .boolean) (C := RX6) (T := TX6) (N := 9) hx hb hts iw_X6_init_X6 tyX6 tyX6_ok nmX6 hown hK hP hD hS 0 rfl rfl 4 (by decide) (hts (.fieldLink RX6 25 "KingTable$Rules" "takers" "[Z") (by decide +kernel)) (fun _ h9 => h9) rfl hnm rfl (by decide +kernel) rfl rfl (Nat.le_of_ble_eq_true rfl) dX6_init_36 (fun H locs hP hD hS => ?_)
  have hP : va_P D vwCl [(h0, .inr (6, [.null, .ref q5, .ref q18, .ref q26, .ref q34, .int 0, .int 0, .null, .int 0])), (q5, .inr (0, [.ref gt_9, .ref gg_9, .ref gn_9, .int 0, .int 0])), (gt_9, .inl (cI, 81, .inl (fun _ => 0))), (gg_9, .inl (cZ, 81, .inl (fun _ => 0))), (gn_9, .inl (cI, 324, .inl (fun _ => 0))), (q18, .inl (cI, 40, .inl (fun _ => 0))), (q26, .inl (cI, 40, .inl (fun _ => 0))), (q34, .inl (cZ, 40, .inl (fun _ => 0)))] H := hP
  have hD : va_D A [(h0, .inr (6, [.null, .ref q5, .ref q18, .ref q26, .ref q34, .int 0, .int 0, .null, .int 0])), (q5, .inr (0, [.ref gt_9, .ref gg_9, .ref gn_9, .int 0, .int 0])), (gt_9, .inl (cI, 81, .inl (fun _ => 0))), (gg_9, .inl (cZ, 81, .inl (fun _ => 0))), (gn_9, .inl (cI, 324, .inl (fun _ => 0))), (q18, .inl (cI, 40, .inl (fun _ => 0))), (q26, .inl (cI, 40, .inl (fun _ => 0))), (q34, .inl (cZ, 40, .inl (fun _ => 0)))] := hD
  refine lv_aload_n hx hb dX6_init_39 rfl (lv_at hl 0 rfl) ?_
  refine lv_iconst (v := (-1)) hx hb dX6_init_40 (by decide) ?_
  refine va_put (D := D) (ci := 6) (v := .int (-1)) (ty := .int) (C := RX6) (T := TX6) (N := 9) hx hb hts iw_X6_init_X6 tyX6 tyX6_ok nmX6 hown hK hP hD hS 0 rfl rfl 6 (by decide) (hts (.fieldLink RX6 29 "KingTable$Rules" "king" "I") (by decide +kernel)) (fun _ h9 => h9) rfl (by decide +kernel) rfl rfl (Nat.le_of_ble_eq_true rfl) dX6_init_41 (fun H locs hP hD hS => ?_)
  have hP : va_P D vwCl [(h0, .inr (6, [.null, .ref q5, .ref q18, .ref q26, .ref q34, .int 0, .int (-1), .null, .int 0])), (q5, .inr (0, [.ref gt_9, .ref gg_9, .ref gn_9, .int 0, .int 0])), (gt_9, .inl (cI, 81, .inl (fun _ => 0))), (gg_9, .inl (cZ, 81, .inl (fun _ => 0))), (gn_9, .inl (cI, 324, .inl (fun _ => 0))), (q18, .inl (cI, 40, .inl (fun _ => 0))), (q26, .inl (cI, 40, .inl (fun _ => 0))), (q34, .inl (cZ, 40, .inl (fun _ => 0)))] H := hP
  have hD : va_D A [(h0, .inr (6, [.null, .ref q5, .ref q18, .ref q26, .ref q34, .int 0, .int (-1), .null, .int 0])), (q5, .inr (0, [.ref gt_9, .ref gg_9, .ref gn_9, .int 0, .int 0])), (gt_9, .inl (cI, 81, .inl (fun _ => 0))), (gg_9, .inl (cZ, 81, .inl (fun _ => 0))), (gn_9, .inl (cI, 324, .inl (fun _ => 0))), (q18, .inl (cI, 40, .inl (fun _ => 0))), (q26, .inl (cI, 40, .inl (fun _ => 0))), (q34, .inl (cZ, 40, .inl (fun _ => 0)))] := hD
  refine lv_aload_n hx hb dX6_init_44 rfl (lv_at hl 0 rfl) ?_
  refine lv_iconst (v := 4) hx hb dX6_init_45 (by decide) ?_
  refine kt_newa (atype := .int) (ty := .int) (cA := cI) hx hb (hts (.arrayClass .int) (by decide +kernel)) rfl hK hP hD hS hA 0 rfl (fun _ h => h) (N' := 4) (fun _ => rfl) (by decide) (by decide) (Nat.le_of_ble_eq_true rfl) (Nat.le_of_ble_eq_true rfl) (Nat.le_of_ble_eq_true rfl) dX6_init_46 (fun q46 H hP hD hS => ?_)
  have hP : va_P D vwCl [(h0, .inr (6, [.null, .ref q5, .ref q18, .ref q26, .ref q34, .int 0, .int (-1), .null, .int 0])), (q5, .inr (0, [.ref gt_9, .ref gg_9, .ref gn_9, .int 0, .int 0])), (gt_9, .inl (cI, 81, .inl (fun _ => 0))), (gg_9, .inl (cZ, 81, .inl (fun _ => 0))), (gn_9, .inl (cI, 324, .inl (fun _ => 0))), (q18, .inl (cI, 40, .inl (fun _ => 0))), (q26, .inl (cI, 40, .inl (fun _ => 0))), (q34, .inl (cZ, 40, .inl (fun _ => 0))), (q46, .inl (cI, 4, .inl (fun _ => 0)))] H := hP
  have hD : va_D A [(h0, .inr (6, [.null, .ref q5, .ref q18, .ref q26, .ref q34, .int 0, .int (-1), .null, .int 0])), (q5, .inr (0, [.ref gt_9, .ref gg_9, .ref gn_9, .int 0, .int 0])), (gt_9, .inl (cI, 81, .inl (fun _ => 0))), (gg_9, .inl (cZ, 81, .inl (fun _ => 0))), (gn_9, .inl (cI, 324, .inl (fun _ => 0))), (q18, .inl (cI, 40, .inl (fun _ => 0))), (q26, .inl (cI, 40, .inl (fun _ => 0))), (q34, .inl (cZ, 40, .inl (fun _ => 0))), (q46, .inl (cI, 4, .inl (fun _ => 0)))] := hD
  refine W.widen (k := 8) (n := 615) (Nat.le_of_ble_eq_true rfl) (Nat.le_of_ble_eq_true rfl) ?_
  refine va_putF (D := D) (ci := 6) (v := .ref q46) (ty := .array .int) (C := RX6) (T := TX6) (N := 9) hx hb hts iw_X6_init_X6 tyX6 tyX6_ok nmX6 hown hK hP hD hS 0 rfl rfl 7 (by decide) (hts (.fieldLink RX6 33 "KingTable$Rules" "victims" "[I") (by decide +kernel)) (fun _ h9 => h9) rfl hnm rfl (by decide +kernel) rfl rfl (Nat.le_of_ble_eq_true rfl) dX6_init_48 (fun H locs hP hD hS => ?_)
  have hP : va_P D vwCl [(h0, .inr (6, [.null, .ref q5, .ref q18, .ref q26, .ref q34, .int 0, .int (-1), .ref q46, .int 0])), (q5, .inr (0, [.ref gt_9, .ref gg_9, .ref gn_9, .int 0, .int 0])), (gt_9, .inl (cI, 81, .inl (fun _ => 0))), (gg_9, .inl (cZ, 81, .inl (fun _ => 0))), (gn_9, .inl (cI, 324, .inl (fun _ => 0))), (q18, .inl (cI, 40, .inl (fun _ => 0))), (q26, .inl (cI, 40, .inl (fun _ => 0))), (q34, .inl (cZ, 40, .inl (fun _ => 0))), (q46, .inl (cI, 4, .inl (fun _ => 0)))] H := hP
  have hD : va_D A [(h0, .inr (6, [.null, .ref q5, .ref q18, .ref q26, .ref q34, .int 0, .int (-1), .ref q46, .int 0])), (q5, .inr (0, [.ref gt_9, .ref gg_9, .ref gn_9, .int 0, .int 0])), (gt_9, .inl (cI, 81, .inl (fun _ => 0))), (gg_9, .inl (cZ, 81, .inl (fun _ => 0))), (gn_9, .inl (cI, 324, .inl (fun _ => 0))), (q18, .inl (cI, 40, .inl (fun _ => 0))), (q26, .inl (cI, 40, .inl (fun _ => 0))), (q34, .inl (cZ, 40, .inl (fun _ => 0))), (q46, .inl (cI, 4, .inl (fun _ => 0)))] := hD
  refine lv_aload_n hx hb dX6_init_51 rfl (lv_at hl 0 rfl) ?_
  refine lv_aload_n hx hb dX6_init_52 rfl (lv_at hl 1 rfl) ?_
  refine va_putF (D := D) (ci := 6) (v := .ref la) (ty := .object "KingTable$Laws") (C := RX6) (T := TX6) (N := 9) hx hb hts iw_X6_init_X6 tyX6 tyX6_ok nmX6 hown hK hP hD hS 0 rfl rfl 0 (by decide) (hts (.fieldLink RX6 36 "KingTable$Rules" "laws" "LKingTable$Laws;") (by decide +kernel)) (fun _ h9 => h9) rfl hnm rfl (by decide +kernel) rfl rfl (Nat.le_of_ble_eq_true rfl) dX6_init_53 (fun H locs hP hD hS => ?_)
  have hP : va_P D vwCl [(h0, .inr (6, [.ref la, .ref q5, .ref q18, .ref q26, .ref q34, .int 0, .int (-1), .ref q46, .int 0])), (q5, .inr (0, [.ref gt_9, .ref gg_9, .ref gn_9, .int 0, .int 0])), (gt_9, .inl (cI, 81, .inl (fun _ => 0))), (gg_9, .inl (cZ, 81, .inl (fun _ => 0))), (gn_9, .inl (cI, 324, .inl (fun _ => 0))), (q18, .inl (cI, 40, .inl (fun _ => 0))), (q26, .inl (cI, 40, .inl (fun _ => 0))), (q34, .inl (cZ, 40, .inl (fun _ => 0))), (q46, .inl (cI, 4, .inl (fun _ => 0)))] H := hP
  have hD : va_D A [(h0, .inr (6, [.ref la, .ref q5, .ref q18, .ref q26, .ref q34, .int 0, .int (-1), .ref q46, .int 0])), (q5, .inr (0, [.ref gt_9, .ref gg_9, .ref gn_9, .int 0, .int 0])), (gt_9, .inl (cI, 81, .inl (fun _ => 0))), (gg_9, .inl (cZ, 81, .inl (fun _ => 0))), (gn_9, .inl (cI, 324, .inl (fun _ => 0))), (q18, .inl (cI, 40, .inl (fun _ => 0))), (q26, .inl (cI, 40, .inl (fun _ => 0))), (q34, .inl (cZ, 40, .inl (fun _ => 0))), (q46, .inl (cI, 4, .inl (fun _ => 0)))] := hD
  refine W.widen (k := 8) (n := 615) (Nat.le_of_ble_eq_true rfl) (Nat.le_of_ble_eq_true rfl) ?_
  exact kt_rv (q5, gt_9, gg_9, gn_9, q18, q26, q34, q46) hx hb hr hlk hS dX6_init_56 hP hD (by first | rfl | trivial | assumption | (simp_all; done) | grind)

theorem iw_X4_init_X8 : ∀ w ∈ wsX80, w ∈ wsX4_init := by decide +kernel
theorem iw_X4_init_X4 : ∀ w ∈ wsX40, w ∈ wsX4_init := by decide +kernel
theorem iw_X4_init_X3 : ∀ w ∈ wsX30, w ∈ wsX4_init := by decide +kernel
set_option maxHeartbeats 4000000 in
set_option maxRecDepth 100000 in
theorem c_X4_init (l : Launch) (D : va_G) (cI cZ cB : ClassId) (sz : Nat) (h0 : Nat) (la : Nat) (ru : Nat) : kt_Mv l yX4_init wsX4_init { frames := 3, cells := 11, slots := 6317, locals := 63 } D (kt_ty cI cZ cB) [.ref h0, .ref la, .ref ru] sz [(h0, .inr (4, [.null, .null, .null, .null, .int 0]))] (fun (u : Nat × Nat × Nat × Nat × Nat × Nat × Nat × Nat × Nat × Nat × Nat) => True) (fun (u : Nat × Nat × Nat × Nat × Nat × Nat × Nat × Nat × Nat × Nat × Nat) => [(h0, .inr (4, [.ref la, .ref ru, .ref u.1, .ref u.2.2.2.1, .int 0])), (u.1, .inr (8, [.ref u.2.1, .ref u.2.2.1, .int 0])), (u.2.1, .inl (cI, 40, .inl (fun _ => (-1)))), (u.2.2.1, .inl (cI, 81, .inl (fun _ => (-1)))), (u.2.2.2.1, .inr (3, [.ref u.2.2.2.2.1, .ref u.2.2.2.2.2.1, .ref u.2.2.2.2.2.2.1, .ref u.2.2.2.2.2.2.2.1, .ref u.2.2.2.2.2.2.2.2.1, .ref u.2.2.2.2.2.2.2.2.2.1, .ref u.2.2.2.2.2.2.2.2.2.2, .int 0, .int 0])), (u.2.2.2.2.1, .inl (cI, 512, .inl (fun _ => 0))), (u.2.2.2.2.2.1, .inl (cI, 512, .inl (fun _ => 0))), (u.2.2.2.2.2.2.1, .inl (cI, 512, .inl (fun _ => 0))), (u.2.2.2.2.2.2.2.1, .inl (cI, 512, .inl (fun _ => 0))), (u.2.2.2.2.2.2.2.2.1, .inl (cI, 2048, .inl (fun _ => 0))), (u.2.2.2.2.2.2.2.2.2.1, .inl (cI, 2048, .inl (fun _ => 0))), (u.2.2.2.2.2.2.2.2.2.2, .inl (cI, 40, .inl (fun _ => 0)))]) 11 6317 := by
  refine kt_Mv.of (cc := cX4_init) (maxL := 3) (ret := none) (by decide) rfl (Nat.le_of_ble_eq_true rfl) ?_
  intro p e s m below meth c A ls H hAt hP hD hS hl
  obtain ⟨hx, hb, hr, hml, hown, hts, hN, hK, hlk, hnm, hA⟩ := hAt
  have hl : lv_has ls 3 [(0, .ref h0), (1, .ref la), (2, .ref ru)] := hl
  have hown : s.vm.findClass RX4 = some m.cls := hown
  refine lv_aload_n hx hb dX4_init_0 rfl (lv_at hl 0 rfl) ?_
  refine W.objInit hx hb hown (hts (.methodLink RX4 3 objectInit) (by decide +kernel)) (hts (.instanceMethod objectInit) (by decide +kernel)) (hts (.code objectInit ⟨#[0xb1]⟩ 1 none) (by decide +kernel)) rfl (by rw [hml]; exact hl.1) rfl dX4_init_1 (Nat.le_of_ble_eq_true rfl) (Nat.le_of_ble_eq_true rfl) ?_
  refine W.eq (g2 := F0 m 4 ls []) rfl ?_
  refine lv_aload_n hx hb dX4_init_4 rfl (lv_at hl 0 rfl) ?_
  refine va_new (ci := 8) (fs := [.null, .null, .int 0]) (C := RX8) (T := TX8) (N := 3) hx hb hts iw_X4_init_X8 tyX8 tyX8_ok hown (hts (.classLink RX4 9 RX8) (by decide +kernel)) (hts (.instantiable RX8 3) (by decide +kernel)) (hts (.initialized RX8) (by decide +kernel)) hK hP hD hS hA rfl (fun j hj => by rcases (show j = 0 ∨ j = 1 ∨ j = 2 by omega) with rfl | rfl | rfl <;> rfl) (Nat.le_of_ble_eq_true rfl) (Nat.le_of_ble_eq_true rfl) dX4_init_5 (fun q5 H hP hD hS => ?_)
  have hP : va_P D vwCl [(h0, .inr (4, [.null, .null, .null, .null, .int 0])), (q5, .inr (8, [.null, .null, .int 0]))] H := hP
  have hD : va_D A [(h0, .inr (4, [.null, .null, .null, .null, .int 0])), (q5, .inr (8, [.null, .null, .int 0]))] := hD
  refine W.widen (k := 1) (n := 3) (Nat.le_of_ble_eq_true rfl) (Nat.le_of_ble_eq_true rfl) ?_
  refine lv_dup hx hb dX4_init_8 rfl ?_
  refine kt_bv (wc := [(q5, .inr (8, [.null, .null, .int 0]))]) (wr := [(h0, .inr (4, [.null, .null, .null, .null, .int 0]))]) [1] [0] hP hD hS hA rfl rfl (by decide) (by decide) (by decide) (fun hPc hDc => va_runI (As := []) (rest := [.ref q5, .ref h0]) ⟨hx, hb, hml, hown, hts⟩ (c_X8_init l D cI cZ cB H.size q5 ) (cwI 0 hts gX4_init_X8_init rfl rfl rfl (hts (.initialized RX8) (by decide +kernel)) (hts (.methodLink RX4 11 yX8_init) (by decide +kernel)) (hts (.instanceMethod yX8_init) (by decide +kernel)) rfl (by decide +kernel) ⟨Nat.le_of_ble_eq_true rfl, Nat.le_of_ble_eq_true rfl⟩) (kt_preS hN hK hPc hDc) rfl rfl hl.1 rfl (lv_room (Nat.le_of_ble_eq_true rfl)) dX4_init_9 ⟨Nat.le_of_ble_eq_true rfl, Nat.le_of_ble_eq_true rfl⟩) (fun u_ H locs hw_9 hP hD hS => ?_)
  obtain ⟨sf_9, sh_9⟩ := u_
  have hP : va_P D vwCl [(h0, .inr (4, [.null, .null, .null, .null, .int 0])), (q5, .inr (8, [.ref sf_9, .ref sh_9, .int 0])), (sf_9, .inl (cI, 40, .inl (fun _ => (-1)))), (sh_9, .inl (cI, 81, .inl (fun _ => (-1))))] H := hP.sub [0, 1, 2, 3] rfl
  have hD : va_D A [(h0, .inr (4, [.null, .null, .null, .null, .int 0])), (q5, .inr (8, [.ref sf_9, .ref sh_9, .int 0])), (sf_9, .inl (cI, 40, .inl (fun _ => (-1)))), (sh_9, .inl (cI, 81, .inl (fun _ => (-1))))] := hD.sub [0, 1, 2, 3] (by decide) rfl
  refine W.widen (k := 3) (n := 124) (Nat.le_of_ble_eq_true rfl) (Nat.le_of_ble_eq_true rfl) ?_
  refine va_putF (D := D) (ci := 4) (v := .ref q5) (ty := .object "KingTable$Stand") (C := RX4) (T := TX4) (N := 5) hx hb hts iw_X4_init_X4 tyX4 tyX4_ok nmX4 hown hK hP hD hS 0 rfl rfl 2 (by decide) (hts (.fieldLink RX4 12 "KingTable$Play" "now" "LKingTable$Stand;") (by decide +kernel)) (fun _ h9 => h9) rfl hnm rfl (by decide +kernel) rfl rfl (Nat.le_of_ble_eq_true rfl) dX4_init_12 (fun H locs hP hD hS => ?_)
  have hP : va_P D vwCl [(h0, .inr (4, [.null, .null, .ref q5, .null, .int 0])), (q5, .inr (8, [.ref sf_9, .ref sh_9, .int 0])), (sf_9, .inl (cI, 40, .inl (fun _ => (-1)))), (sh_9, .inl (cI, 81, .inl (fun _ => (-1))))] H := hP
  have hD : va_D A [(h0, .inr (4, [.null, .null, .ref q5, .null, .int 0])), (q5, .inr (8, [.ref sf_9, .ref sh_9, .int 0])), (sf_9, .inl (cI, 40, .inl (fun _ => (-1)))), (sh_9, .inl (cI, 81, .inl (fun _ => (-1))))] := hD
  refine lv_aload_n hx hb dX4_init_15 rfl (lv_at hl 0 rfl) ?_
  refine va_new (ci := 3) (fs := [.null, .null, .null, .null, .null, .null, .null, .int 0, .int 0]) (C := RX3) (T := TX3) (N := 9) hx hb hts iw_X4_init_X3 tyX3 tyX3_ok hown (hts (.classLink RX4 18 RX3) (by decide +kernel)) (hts (.instantiable RX3 9) (by decide +kernel)) (hts (.initialized RX3) (by decide +kernel)) hK hP hD hS hA rfl (fun j hj => by rcases (show j = 0 ∨ j = 1 ∨ j = 2 ∨ j = 3 ∨ j = 4 ∨ j = 5 ∨ j = 6 ∨ j = 7 ∨ j = 8 by omega) with rfl | rfl | rfl | rfl | rfl | rfl | rfl | rfl | rfl <;> rfl) (Nat.le_of_ble_eq_true rfl) (Nat.le_of_ble_eq_true rfl) dX4_init_16 (fun q16 H hP hD hS => ?_)
  have hP : va_P D vwCl [(h0, .inr (4, [.null, .null, .ref q5, .null, .int 0])), (q5, .inr (8, [.ref sf_9, .ref sh_9, .int 0])), (sf_9, .inl (cI, 40, .inl (fun _ => (-1)))), (sh_9, .inl (cI, 81, .inl (fun _ => (-1)))), (q16, .inr (3, [.null, .null, .null, .null, .null, .null, .null, .int 0, .int 0]))] H := hP
  have hD : va_D A [(h0, .inr (4, [.null, .null, .ref q5, .null, .int 0])), (q5, .inr (8, [.ref sf_9, .ref sh_9, .int 0])), (sf_9, .inl (cI, 40, .inl (fun _ => (-1)))), (sh_9, .inl (cI, 81, .inl (fun _ => (-1)))), (q16, .inr (3, [.null, .null, .null, .null, .null, .null, .null, .int 0, .int 0]))] := hD
  refine W.widen (k := 4) (n := 133) (Nat.le_of_ble_eq_true rfl) (Nat.le_of_ble_eq_true rfl) ?_
  refine lv_dup hx hb dX4_init_19 rfl ?_
  refine kt_bv (wc := [(q16, .inr (3, [.null, .null, .null, .null, .null, .null, .null, .int 0, .int 0]))]) (wr := [(h0, .inr (4, [.null, .null, .ref q5, .null, .int 0])), (q5, .inr (8, [.ref sf_9, .ref sh_9, .int 0])), (sf_9, .inl (cI, 40, .inl (fun _ => (-1)))), (sh_9, .inl (cI, 81, .inl (fun _ => (-1))))]) [4] [0, 1, 2, 3] hP hD hS hA rfl rfl (by decide) (by decide) (by decide) (fun hPc hDc => va_runIN (As := []) (rest := [.ref q16, .ref h0]) ⟨hx, hb, hml, hown, hts⟩ (c_X3_init l D cI cZ cB H.size q16 ) ⟨va_cnB 0 hts gX4_init_X3_init_n20 rfl rfl rfl (hN (.methodLinkNest "KingTable$Play" 20 yX3_init "KingTable") (by decide +kernel)) (hts (.initialized RX3) (by decide +kernel)) (by decide +kernel) ⟨Nat.le_of_ble_eq_true rfl, Nat.le_of_ble_eq_true rfl⟩, rfl, (hts (.instanceMethod yX3_init) (by decide +kernel))⟩ (kt_preS hN hK hPc hDc) rfl rfl hl.1 rfl (lv_room (Nat.le_of_ble_eq_true rfl)) dX4_init_20 ⟨Nat.le_of_ble_eq_true rfl, Nat.le_of_ble_eq_true rfl⟩) (fun u_ H locs hw_20 hP hD hS => ?_)
  obtain ⟨l0_20, l1_20, l2_20, l3_20, l4_20, l5_20, l6_20⟩ := u_
  have hP : va_P D vwCl [(h0, .inr (4, [.null, .null, .ref q5, .null, .int 0])), (q5, .inr (8, [.ref sf_9, .ref sh_9, .int 0])), (sf_9, .inl (cI, 40, .inl (fun _ => (-1)))), (sh_9, .inl (cI, 81, .inl (fun _ => (-1)))), (q16, .inr (3, [.ref l0_20, .ref l1_20, .ref l2_20, .ref l3_20, .ref l4_20, .ref l5_20, .ref l6_20, .int 0, .int 0])), (l0_20, .inl (cI, 512, .inl (fun _ => 0))), (l1_20, .inl (cI, 512, .inl (fun _ => 0))), (l2_20, .inl (cI, 512, .inl (fun _ => 0))), (l3_20, .inl (cI, 512, .inl (fun _ => 0))), (l4_20, .inl (cI, 2048, .inl (fun _ => 0))), (l5_20, .inl (cI, 2048, .inl (fun _ => 0))), (l6_20, .inl (cI, 40, .inl (fun _ => 0)))] H := hP.sub [0, 1, 2, 3, 4, 5, 6, 7, 8, 9, 10, 11] rfl
  have hD : va_D A [(h0, .inr (4, [.null, .null, .ref q5, .null, .int 0])), (q5, .inr (8, [.ref sf_9, .ref sh_9, .int 0])), (sf_9, .inl (cI, 40, .inl (fun _ => (-1)))), (sh_9, .inl (cI, 81, .inl (fun _ => (-1)))), (q16, .inr (3, [.ref l0_20, .ref l1_20, .ref l2_20, .ref l3_20, .ref l4_20, .ref l5_20, .ref l6_20, .int 0, .int 0])), (l0_20, .inl (cI, 512, .inl (fun _ => 0))), (l1_20, .inl (cI, 512, .inl (fun _ => 0))), (l2_20, .inl (cI, 512, .inl (fun _ => 0))), (l3_20, .inl (cI, 512, .inl (fun _ => 0))), (l4_20, .inl (cI, 2048, .inl (fun _ => 0))), (l5_20, .inl (cI, 2048, .inl (fun _ => 0))), (l6_20, .inl (cI, 40, .inl (fun _ => 0)))] := hD.sub [0, 1, 2, 3, 4, 5, 6, 7, 8, 9, 10, 11] (by decide) rfl
  refine W.widen (k := 11) (n := 6317) (Nat.le_of_ble_eq_true rfl) (Nat.le_of_ble_eq_true rfl) ?_
  refine va_putF (D := D) (ci := 4) (v := .ref q16) (ty := .object "KingTable$Log") (C := RX4) (T := TX4) (N := 5) hx hb hts iw_X4_init_X4 tyX4 tyX4_ok nmX4 hown hK hP hD hS 0 rfl rfl 3 (by decide) (hts (.fieldLink RX4 21 "KingTable$Play" "log" "LKingTable$Log;") (by decide +kernel)) (fun _ h9 => h9) rfl hnm rfl (by decide +kernel) rfl rfl (Nat.le_of_ble_eq_true rfl) dX4_init_23 (fun H locs hP hD hS => ?_)
  have hP : va_P D vwCl [(h0, .inr (4, [.null, .null, .ref q5, .ref q16, .int 0])), (q5, .inr (8, [.ref sf_9, .ref sh_9, .int 0])), (sf_9, .inl (cI, 40, .inl (fun _ => (-1)))), (sh_9, .inl (cI, 81, .inl (fun _ => (-1)))), (q16, .inr (3, [.ref l0_20, .ref l1_20, .ref l2_20, .ref l3_20, .ref l4_20, .ref l5_20, .ref l6_20, .int 0, .int 0])), (l0_20, .inl (cI, 512, .inl (fun _ => 0))), (l1_20, .inl (cI, 512, .inl (fun _ => 0))), (l2_20, .inl (cI, 512, .inl (fun _ => 0))), (l3_20, .inl (cI, 512, .inl (fun _ => 0))), (l4_20, .inl (cI, 2048, .inl (fun _ => 0))), (l5_20, .inl (cI, 2048, .inl (fun _ => 0))), (l6_20, .inl (cI, 40, .inl (fun _ => 0)))] H := hP
  have hD : va_D A [(h0, .inr (4, [.null, .null, .ref q5, .ref q16, .int 0])), (q5, .inr (8, [.ref sf_9, .ref sh_9, .int 0])), (sf_9, .inl (cI, 40, .inl (fun _ => (-1)))), (sh_9, .inl (cI, 81, .inl (fun _ => (-1)))), (q16, .inr (3, [.ref l0_20, .ref l1_20, .ref l2_20, .ref l3_20, .ref l4_20, .ref l5_20, .ref l6_20, .int 0, .int 0])), (l0_20, .inl (cI, 512, .inl (fun _ => 0))), (l1_20, .inl (cI, 512, .inl (fun _ => 0))), (l2_20, .inl (cI, 512, .inl (fun _ => 0))), (l3_20, .inl (cI, 512, .inl (fun _ => 0))), (l4_20, .inl (cI, 2048, .inl (fun _ => 0))), (l5_20, .inl (cI, 2048, .inl (fun _ => 0))), (l6_20, .inl (cI, 40, .inl (fun _ => 0)))] := hD
  refine lv_aload_n hx hb dX4_init_26 rfl (lv_at hl 0 rfl) ?_
  refine lv_iconst (v := 0) hx hb dX4_init_27 (by decide) ?_
  refine va_put (D := D) (ci := 4) (v := .int 0) (ty := .int) (C := RX4) (T := TX4) (N := 5) hx hb hts iw_X4_init_X4 tyX4 tyX4_ok nmX4 hown hK hP hD hS 0 rfl rfl 4 (by decide) (hts (.fieldLink RX4 25 "KingTable$Play" "state" "I") (by decide +kernel)) (fun _ h9 => h9) rfl (by decide +kernel) rfl rfl (Nat.le_of_ble_eq_true rfl) dX4_init_28 (fun H locs hP hD hS => ?_)
  have hP : va_P D vwCl [(h0, .inr (4, [.null, .null, .ref q5, .ref q16, .int 0])), (q5, .inr (8, [.ref sf_9, .ref sh_9, .int 0])), (sf_9, .inl (cI, 40, .inl (fun _ => (-1)))), (sh_9, .inl (cI, 81, .inl (fun _ => (-1)))), (q16, .inr (3, [.ref l0_20, .ref l1_20, .ref l2_20, .ref l3_20, .ref l4_20, .ref l5_20, .ref l6_20, .int 0, .int 0])), (l0_20, .inl (cI, 512, .inl (fun _ => 0))), (l1_20, .inl (cI, 512, .inl (fun _ => 0))), (l2_20, .inl (cI, 512, .inl (fun _ => 0))), (l3_20, .inl (cI, 512, .inl (fun _ => 0))), (l4_20, .inl (cI, 2048, .inl (fun _ => 0))), (l5_20, .inl (cI, 2048, .inl (fun _ => 0))), (l6_20, .inl (cI, 40, .inl (fun _ => 0)))] H := hP
  have hD : va_D A [(h0, .inr (4, [.null, .null, .ref q5, .ref q16, .int 0])), (q5, .inr (8, [.ref sf_9, .ref sh_9, .int 0])), (sf_9, .inl (cI, 40, .inl (fun _ => (-1)))), (sh_9, .inl (cI, 81, .inl (fun _ => (-1)))), (q16, .inr (3, [.ref l0_20, .ref l1_20, .ref l2_20, .ref l3_20, .ref l4_20, .ref l5_20, .ref l6_20, .int 0, .int 0])), (l0_20, .inl (cI, 512, .inl (fun _ => 0))), (l1_20, .inl (cI, 512, .inl (fun _ => 0))), (l2_20, .inl (cI, 512, .inl (fun _ => 0))), (l3_20, .inl (cI, 512, .inl (fun _ => 0))), (l4_20, .inl (cI, 2048, .inl (fun _ => 0))), (l5_20, .inl (cI, 2048, .inl (fun _ => 0))), (l6_20, .inl (cI, 40, .inl (fun _ => 0)))] := hD
  refine lv_aload_n hx hb dX4_init_31 rfl (lv_at hl 0 rfl) ?_
  refine lv_aload_n hx hb dX4_init_32 rfl (lv_at hl 1 rfl) ?_
  refine va_putF (D := D) (ci := 4) (v := .ref la) (ty := .object "KingTable$Laws") (C := RX4) (T := TX4) (N := 5) hx hb hts iw_X4_init_X4 tyX4 tyX4_ok nmX4 hown hK hP hD hS 0 rfl rfl 0 (by decide) (hts (.fieldLink RX4 29 "KingTable$Play" "laws" "LKingTable$Laws;") (by decide +kernel)) (fun _ h9 => h9) rfl hnm rfl (by decide +kernel) rfl rfl (Nat.le_of_ble_eq_true rfl) dX4_init_33 (fun H locs hP hD hS => ?_)
  have hP : va_P D vwCl [(h0, .inr (4, [.ref la, .null, .ref q5, .ref q16, .int 0])), (q5, .inr (8, [.ref sf_9, .ref sh_9, .int 0])), (sf_9, .inl (cI, 40, .inl (fun _ => (-1)))), (sh_9, .inl (cI, 81, .inl (fun _ => (-1)))), (q16, .inr (3, [.ref l0_20, .ref l1_20, .ref l2_20, .ref l3_20, .ref l4_20, .ref l5_20, .ref l6_20, .int 0, .int 0])), (l0_20, .inl (cI, 512, .inl (fun _ => 0))), (l1_20, .inl (cI, 512, .inl (fun _ => 0))), (l2_20, .inl (cI, 512, .inl (fun _ => 0))), (l3_20, .inl (cI, 512, .inl (fun _ => 0))), (l4_20, .inl (cI, 2048, .inl (fun _ => 0))), (l5_20, .inl (cI, 2048, .inl (fun _ => 0))), (l6_20, .inl (cI, 40, .inl (fun _ => 0)))] H := hP
  have hD : va_D A [(h0, .inr (4, [.ref la, .null, .ref q5, .ref q16, .int 0])), (q5, .inr (8, [.ref sf_9, .ref sh_9, .int 0])), (sf_9, .inl (cI, 40, .inl (fun _ => (-1)))), (sh_9, .inl (cI, 81, .inl (fun _ => (-1)))), (q16, .inr (3, [.ref l0_20, .ref l1_20, .ref l2_20, .ref l3_20, .ref l4_20, .ref l5_20, .ref l6_20, .int 0, .int 0])), (l0_20, .inl (cI, 512, .inl (fun _ => 0))), (l1_20, .inl (cI, 512, .inl (fun _ => 0))), (l2_20, .inl (cI, 512, .inl (fun _ => 0))), (l3_20, .inl (cI, 512, .inl (fun _ => 0))), (l4_20, .inl (cI, 2048, .inl (fun _ => 0))), (l5_20, .inl (cI, 2048, .inl (fun _ => 0))), (l6_20, .inl (cI, 40, .inl (fun _ => 0)))] := hD
  refine lv_aload_n hx hb dX4_init_36 rfl (lv_at hl 0 rfl) ?_
  refine lv_aload_n hx hb dX4_init_37 rfl (lv_at hl 2 rfl) ?_
  refine va_putF (D := D) (ci := 4) (v := .ref ru) (ty := .object "KingTable$Rules") (C := RX4) (T := TX4) (N := 5) hx hb hts iw_X4_init_X4 tyX4 tyX4_ok nmX4 hown hK hP hD hS 0 rfl rfl 1 (by decide) (hts (.fieldLink RX4 33 "KingTable$Play" "rules" "LKingTable$Rules;") (by decide +kernel)) (fun _ h9 => h9) rfl hnm rfl (by decide +kernel) rfl rfl (Nat.le_of_ble_eq_true rfl) dX4_init_38 (fun H locs hP hD hS => ?_)
  have hP : va_P D vwCl [(h0, .inr (4, [.ref la, .ref ru, .ref q5, .ref q16, .int 0])), (q5, .inr (8, [.ref sf_9, .ref sh_9, .int 0])), (sf_9, .inl (cI, 40, .inl (fun _ => (-1)))), (sh_9, .inl (cI, 81, .inl (fun _ => (-1)))), (q16, .inr (3, [.ref l0_20, .ref l1_20, .ref l2_20, .ref l3_20, .ref l4_20, .ref l5_20, .ref l6_20, .int 0, .int 0])), (l0_20, .inl (cI, 512, .inl (fun _ => 0))), (l1_20, .inl (cI, 512, .inl (fun _ => 0))), (l2_20, .inl (cI, 512, .inl (fun _ => 0))), (l3_20, .inl (cI, 512, .inl (fun _ => 0))), (l4_20, .inl (cI, 2048, .inl (fun _ => 0))), (l5_20, .inl (cI, 2048, .inl (fun _ => 0))), (l6_20, .inl (cI, 40, .inl (fun _ => 0)))] H := hP
  have hD : va_D A [(h0, .inr (4, [.ref la, .ref ru, .ref q5, .ref q16, .int 0])), (q5, .inr (8, [.ref sf_9, .ref sh_9, .int 0])), (sf_9, .inl (cI, 40, .inl (fun _ => (-1)))), (sh_9, .inl (cI, 81, .inl (fun _ => (-1)))), (q16, .inr (3, [.ref l0_20, .ref l1_20, .ref l2_20, .ref l3_20, .ref l4_20, .ref l5_20, .ref l6_20, .int 0, .int 0])), (l0_20, .inl (cI, 512, .inl (fun _ => 0))), (l1_20, .inl (cI, 512, .inl (fun _ => 0))), (l2_20, .inl (cI, 512, .inl (fun _ => 0))), (l3_20, .inl (cI, 512, .inl (fun _ => 0))), (l4_20, .inl (cI, 2048, .inl (fun _ => 0))), (l5_20, .inl (cI, 2048, .inl (fun _ => 0))), (l6_20, .inl (cI, 40, .inl (fun _ => 0)))] := hD
  refine W.widen (k := 11) (n := 6317) (Nat.le_of_ble_eq_true rfl) (Nat.le_of_ble_eq_true rfl) ?_
  exact kt_rv (q5, sf_9, sh_9, q16, l0_20, l1_20, l2_20, l3_20, l4_20, l5_20, l6_20) hx hb hr hlk hS dX4_init_41 hP hD (by first | rfl | trivial | assumption | (simp_all; done) | grind)

theorem iw_X5_init_X5 : ∀ w ∈ wsX50, w ∈ wsX5_init := by decide +kernel
set_option maxHeartbeats 4000000 in
set_option maxRecDepth 100000 in
theorem c_X5_init (l : Launch) (D : va_G) (cI cZ cB : ClassId) (sz : Nat) (h0 : Nat) (ru : Nat) : kt_Mv l yX5_init wsX5_init { frames := 1, cells := 2, slots := 162, locals := 12 } D (kt_ty cI cZ cB) [.ref h0, .ref ru] sz [(h0, .inr (5, [.null, .null, .null]))] (fun (u : Nat × Nat) => True) (fun (u : Nat × Nat) => [(h0, .inr (5, [.ref ru, .ref u.1, .ref u.2])), (u.1, .inl (cI, 81, .inl (fun _ => 0))), (u.2, .inl (cZ, 81, .inl (fun _ => 0)))]) 2 162 := by
  refine kt_Mv.of (cc := cX5_init) (maxL := 2) (ret := none) (by decide) rfl (Nat.le_of_ble_eq_true rfl) ?_
  intro p e s m below meth c A ls H hAt hP hD hS hl
  obtain ⟨hx, hb, hr, hml, hown, hts, hN, hK, hlk, hnm, hA⟩ := hAt
  have hl : lv_has ls 2 [(0, .ref h0), (1, .ref ru)] := hl
  have hown : s.vm.findClass RX5 = some m.cls := hown
  refine lv_aload_n hx hb dX5_init_0 rfl (lv_at hl 0 rfl) ?_
  refine W.objInit hx hb hown (hts (.methodLink RX5 3 objectInit) (by decide +kernel)) (hts (.instanceMethod objectInit) (by decide +kernel)) (hts (.code objectInit ⟨#[0xb1]⟩ 1 none) (by decide +kernel)) rfl (by rw [hml]; exact hl.1) rfl dX5_init_1 (Nat.le_of_ble_eq_true rfl) (Nat.le_of_ble_eq_true rfl) ?_
  refine W.eq (g2 := F0 m 4 ls []) rfl ?_
  refine lv_aload_n hx hb dX5_init_4 rfl (lv_at hl 0 rfl) ?_
  refine lv_bipush (v := 81) hx hb dX5_init_5 (by decide) ?_
  refine kt_newa (atype := .int) (ty := .int) (cA := cI) hx hb (hts (.arrayClass .int) (by decide +kernel)) rfl hK hP hD hS hA 0 rfl (fun _ h => h) (N' := 81) (fun _ => rfl) (by decide) (by decide) (Nat.le_of_ble_eq_true rfl) (Nat.le_of_ble_eq_true rfl) (Nat.le_of_ble_eq_true rfl) dX5_init_7 (fun q7 H hP hD hS => ?_)
  have hP : va_P D vwCl [(h0, .inr (5, [.null, .null, .null])), (q7, .inl (cI, 81, .inl (fun _ => 0)))] H := hP
  have hD : va_D A [(h0, .inr (5, [.null, .null, .null])), (q7, .inl (cI, 81, .inl (fun _ => 0)))] := hD
  refine W.widen (k := 1) (n := 81) (Nat.le_of_ble_eq_true rfl) (Nat.le_of_ble_eq_true rfl) ?_
  refine va_putF (D := D) (ci := 5) (v := .ref q7) (ty := .array .int) (C := RX5) (T := TX5) (N := 3) hx hb hts iw_X5_init_X5 tyX5 tyX5_ok nmX5 hown hK hP hD hS 0 rfl rfl 1 (by decide) (hts (.fieldLink RX5 9 "KingTable$Ring" "reached" "[I") (by decide +kernel)) (fun _ h9 => h9) rfl hnm rfl (by decide +kernel) rfl rfl (Nat.le_of_ble_eq_true rfl) dX5_init_9 (fun H locs hP hD hS => ?_)
  have hP : va_P D vwCl [(h0, .inr (5, [.null, .ref q7, .null])), (q7, .inl (cI, 81, .inl (fun _ => 0)))] H := hP
  have hD : va_D A [(h0, .inr (5, [.null, .ref q7, .null])), (q7, .inl (cI, 81, .inl (fun _ => 0)))] := hD
  refine lv_aload_n hx hb dX5_init_12 rfl (lv_at hl 0 rfl) ?_
  refine lv_bipush (v := 81) hx hb dX5_init_13 (by decide) ?_
  refine kt_newa (atype := .boolean) (ty := .boolean) (cA := cZ) hx hb (hts (.arrayClass .boolean) (by decide +kernel)) rfl hK hP hD hS hA 1 rfl (fun _ h => h) (N' := 81) (fun _ => rfl) (by decide) (by decide) (Nat.le_of_ble_eq_true rfl) (Nat.le_of_ble_eq_true rfl) (Nat.le_of_ble_eq_true rfl) dX5_init_15 (fun q15 H hP hD hS => ?_)
  have hP : va_P D vwCl [(h0, .inr (5, [.null, .ref q7, .null])), (q7, .inl (cI, 81, .inl (fun _ => 0))), (q15, .inl (cZ, 81, .inl (fun _ => 0)))] H := hP
  have hD : va_D A [(h0, .inr (5, [.null, .ref q7, .null])), (q7, .inl (cI, 81, .inl (fun _ => 0))), (q15, .inl (cZ, 81, .inl (fun _ => 0)))] := hD
  refine W.widen (k := 2) (n := 162) (Nat.le_of_ble_eq_true rfl) (Nat.le_of_ble_eq_true rfl) ?_
  refine va_putF (D := D) (ci := 5) (v := .ref q15) (ty := .array .boolean) (C := RX5) (T := TX5) (N := 3) hx hb hts iw_X5_init_X5 tyX5 tyX5_ok nmX5 hown hK hP hD hS 0 rfl rfl 2 (by decide) (hts (.fieldLink RX5 15 "KingTable$Ring" "seen" "[Z") (by decide +kernel)) (fun _ h9 => h9) rfl hnm rfl (by decide +kernel) rfl rfl (Nat.le_of_ble_eq_true rfl) dX5_init_17 (fun H locs hP hD hS => ?_)
  have hP : va_P D vwCl [(h0, .inr (5, [.null, .ref q7, .ref q15])), (q7, .inl (cI, 81, .inl (fun _ => 0))), (q15, .inl (cZ, 81, .inl (fun _ => 0)))] H := hP
  have hD : va_D A [(h0, .inr (5, [.null, .ref q7, .ref q15])), (q7, .inl (cI, 81, .inl (fun _ => 0))), (q15, .inl (cZ, 81, .inl (fun _ => 0)))] := hD
  refine lv_aload_n hx hb dX5_init_20 rfl (lv_at hl 0 rfl) ?_
  refine lv_aload_n hx hb dX5_init_21 rfl (lv_at hl 1 rfl) ?_
  refine va_putF (D := D) (ci := 5) (v := .ref ru) (ty := .object "KingTable$Rules") (C := RX5) (T := TX5) (N := 3) hx hb hts iw_X5_init_X5 tyX5 tyX5_ok nmX5 hown hK hP hD hS 0 rfl rfl 0 (by decide) (hts (.fieldLink RX5 19 "KingTable$Ring" "rules" "LKingTable$Rules;") (by decide +kernel)) (fun _ h9 => h9) rfl hnm rfl (by decide +kernel) rfl rfl (Nat.le_of_ble_eq_true rfl) dX5_init_22 (fun H locs hP hD hS => ?_)
  have hP : va_P D vwCl [(h0, .inr (5, [.ref ru, .ref q7, .ref q15])), (q7, .inl (cI, 81, .inl (fun _ => 0))), (q15, .inl (cZ, 81, .inl (fun _ => 0)))] H := hP
  have hD : va_D A [(h0, .inr (5, [.ref ru, .ref q7, .ref q15])), (q7, .inl (cI, 81, .inl (fun _ => 0))), (q15, .inl (cZ, 81, .inl (fun _ => 0)))] := hD
  refine W.widen (k := 2) (n := 162) (Nat.le_of_ble_eq_true rfl) (Nat.le_of_ble_eq_true rfl) ?_
  exact kt_rv (q7, q15) hx hb hr hlk hS dX5_init_25 hP hD (by first | rfl | trivial | assumption | (simp_all; done) | grind)

theorem iw_X2_init_X2 : ∀ w ∈ wsX20, w ∈ wsX2_init := by decide +kernel
set_option maxHeartbeats 4000000 in
set_option maxRecDepth 100000 in
theorem c_X2_init (l : Launch) (D : va_G) (cI cZ cB : ClassId) (sz : Nat) (h0 : Nat) : kt_Mv l yX2_init wsX2_init { frames := 1, cells := 3, slots := 0, locals := 12 } D (kt_ty cI cZ cB) [.ref h0] sz [(h0, .inr (2, [.null, .null, .null, .int 0]))] (fun (u : Nat × Nat × Nat) => True) (fun (u : Nat × Nat × Nat) => [(h0, .inr (2, [.ref u.1, .ref u.2.1, .ref u.2.2, .int 0])), (u.1, .inl (cI, 0, .inl (fun _ => 0))), (u.2.1, .inl (cI, 0, .inl (fun _ => 0))), (u.2.2, .inl (cI, 0, .inl (fun _ => 0)))]) 3 0 := by
  refine kt_Mv.of (cc := cX2_init) (maxL := 1) (ret := none) (by decide) rfl (Nat.le_of_ble_eq_true rfl) ?_
  intro p e s m below meth c A ls H hAt hP hD hS hl
  obtain ⟨hx, hb, hr, hml, hown, hts, hN, hK, hlk, hnm, hA⟩ := hAt
  have hl : lv_has ls 1 [(0, .ref h0)] := hl
  have hown : s.vm.findClass RX2 = some m.cls := hown
  refine lv_aload_n hx hb dX2_init_0 rfl (lv_at hl 0 rfl) ?_
  refine W.objInit hx hb hown (hts (.methodLink RX2 3 objectInit) (by decide +kernel)) (hts (.instanceMethod objectInit) (by decide +kernel)) (hts (.code objectInit ⟨#[0xb1]⟩ 1 none) (by decide +kernel)) rfl (by rw [hml]; exact hl.1) rfl dX2_init_1 (Nat.le_of_ble_eq_true rfl) (Nat.le_of_ble_eq_true rfl) ?_
  refine W.eq (g2 := F0 m 4 ls []) rfl ?_
  refine lv_aload_n hx hb dX2_init_4 rfl (lv_at hl 0 rfl) ?_
  refine lv_iconst (v := 0) hx hb dX2_init_5 (by decide) ?_
  refine kt_newa (atype := .int) (ty := .int) (cA := cI) hx hb (hts (.arrayClass .int) (by decide +kernel)) rfl hK hP hD hS hA 0 rfl (fun _ h => h) (N' := 0) (fun _ => rfl) (by decide) (by decide) (Nat.le_of_ble_eq_true rfl) (Nat.le_of_ble_eq_true rfl) (Nat.le_of_ble_eq_true rfl) dX2_init_6 (fun q6 H hP hD hS => ?_)
  have hP : va_P D vwCl [(h0, .inr (2, [.null, .null, .null, .int 0])), (q6, .inl (cI, 0, .inl (fun _ => 0)))] H := hP
  have hD : va_D A [(h0, .inr (2, [.null, .null, .null, .int 0])), (q6, .inl (cI, 0, .inl (fun _ => 0)))] := hD
  refine W.widen (k := 1) (n := 0) (Nat.le_of_ble_eq_true rfl) (Nat.le_of_ble_eq_true rfl) ?_
  refine va_put (D := D) (ci := 2) (v := .ref q6) (ty := .array .int) (C := RX2) (T := TX2) (N := 4) hx hb hts iw_X2_init_X2 tyX2 tyX2_ok nmX2 hown hK hP hD hS 0 rfl rfl 0 (by decide) (hts (.fieldLink RX2 9 "KingTable$Links" "heads" "[I") (by decide +kernel)) (fun _ h9 => h9) rfl (by decide +kernel) rfl rfl (Nat.le_of_ble_eq_true rfl) dX2_init_8 (fun H locs hP hD hS => ?_)
  have hP : va_P D vwCl [(h0, .inr (2, [.ref q6, .null, .null, .int 0])), (q6, .inl (cI, 0, .inl (fun _ => 0)))] H := hP
  have hD : va_D A [(h0, .inr (2, [.ref q6, .null, .null, .int 0])), (q6, .inl (cI, 0, .inl (fun _ => 0)))] := hD
  refine lv_aload_n hx hb dX2_init_11 rfl (lv_at hl 0 rfl) ?_
  refine lv_iconst (v := 0) hx hb dX2_init_12 (by decide) ?_
  refine kt_newa (atype := .int) (ty := .int) (cA := cI) hx hb (hts (.arrayClass .int) (by decide +kernel)) rfl hK hP hD hS hA 0 rfl (fun _ h => h) (N' := 0) (fun _ => rfl) (by decide) (by decide) (Nat.le_of_ble_eq_true rfl) (Nat.le_of_ble_eq_true rfl) (Nat.le_of_ble_eq_true rfl) dX2_init_13 (fun q13 H hP hD hS => ?_)
  have hP : va_P D vwCl [(h0, .inr (2, [.ref q6, .null, .null, .int 0])), (q6, .inl (cI, 0, .inl (fun _ => 0))), (q13, .inl (cI, 0, .inl (fun _ => 0)))] H := hP
  have hD : va_D A [(h0, .inr (2, [.ref q6, .null, .null, .int 0])), (q6, .inl (cI, 0, .inl (fun _ => 0))), (q13, .inl (cI, 0, .inl (fun _ => 0)))] := hD
  refine W.widen (k := 2) (n := 0) (Nat.le_of_ble_eq_true rfl) (Nat.le_of_ble_eq_true rfl) ?_
  refine va_put (D := D) (ci := 2) (v := .ref q13) (ty := .array .int) (C := RX2) (T := TX2) (N := 4) hx hb hts iw_X2_init_X2 tyX2 tyX2_ok nmX2 hown hK hP hD hS 0 rfl rfl 1 (by decide) (hts (.fieldLink RX2 15 "KingTable$Links" "sources" "[I") (by decide +kernel)) (fun _ h9 => h9) rfl (by decide +kernel) rfl rfl (Nat.le_of_ble_eq_true rfl) dX2_init_15 (fun H locs hP hD hS => ?_)
  have hP : va_P D vwCl [(h0, .inr (2, [.ref q6, .ref q13, .null, .int 0])), (q6, .inl (cI, 0, .inl (fun _ => 0))), (q13, .inl (cI, 0, .inl (fun _ => 0)))] H := hP
  have hD : va_D A [(h0, .inr (2, [.ref q6, .ref q13, .null, .int 0])), (q6, .inl (cI, 0, .inl (fun _ => 0))), (q13, .inl (cI, 0, .inl (fun _ => 0)))] := hD
  refine lv_aload_n hx hb dX2_init_18 rfl (lv_at hl 0 rfl) ?_
  refine lv_iconst (v := 0) hx hb dX2_init_19 (by decide) ?_
  refine kt_newa (atype := .int) (ty := .int) (cA := cI) hx hb (hts (.arrayClass .int) (by decide +kernel)) rfl hK hP hD hS hA 0 rfl (fun _ h => h) (N' := 0) (fun _ => rfl) (by decide) (by decide) (Nat.le_of_ble_eq_true rfl) (Nat.le_of_ble_eq_true rfl) (Nat.le_of_ble_eq_true rfl) dX2_init_20 (fun q20 H hP hD hS => ?_)
  have hP : va_P D vwCl [(h0, .inr (2, [.ref q6, .ref q13, .null, .int 0])), (q6, .inl (cI, 0, .inl (fun _ => 0))), (q13, .inl (cI, 0, .inl (fun _ => 0))), (q20, .inl (cI, 0, .inl (fun _ => 0)))] H := hP
  have hD : va_D A [(h0, .inr (2, [.ref q6, .ref q13, .null, .int 0])), (q6, .inl (cI, 0, .inl (fun _ => 0))), (q13, .inl (cI, 0, .inl (fun _ => 0))), (q20, .inl (cI, 0, .inl (fun _ => 0)))] := hD
  refine W.widen (k := 3) (n := 0) (Nat.le_of_ble_eq_true rfl) (Nat.le_of_ble_eq_true rfl) ?_
  refine va_put (D := D) (ci := 2) (v := .ref q20) (ty := .array .int) (C := RX2) (T := TX2) (N := 4) hx hb hts iw_X2_init_X2 tyX2 tyX2_ok nmX2 hown hK hP hD hS 0 rfl rfl 2 (by decide) (hts (.fieldLink RX2 18 "KingTable$Links" "nexts" "[I") (by decide +kernel)) (fun _ h9 => h9) rfl (by decide +kernel) rfl rfl (Nat.le_of_ble_eq_true rfl) dX2_init_22 (fun H locs hP hD hS => ?_)
  have hP : va_P D vwCl [(h0, .inr (2, [.ref q6, .ref q13, .ref q20, .int 0])), (q6, .inl (cI, 0, .inl (fun _ => 0))), (q13, .inl (cI, 0, .inl (fun _ => 0))), (q20, .inl (cI, 0, .inl (fun _ => 0)))] H := hP
  have hD : va_D A [(h0, .inr (2, [.ref q6, .ref q13, .ref q20, .int 0])), (q6, .inl (cI, 0, .inl (fun _ => 0))), (q13, .inl (cI, 0, .inl (fun _ => 0))), (q20, .inl (cI, 0, .inl (fun _ => 0)))] := hD
  refine W.widen (k := 3) (n := 0) (Nat.le_of_ble_eq_true rfl) (Nat.le_of_ble_eq_true rfl) ?_
  exact kt_rv (q6, q13, q20) hx hb hr hlk hS dX2_init_25 hP hD (by first | rfl | trivial | assumption | (simp_all; done) | grind)

theorem iw_X7_init_X8 : ∀ w ∈ wsX80, w ∈ wsX7_init := by decide +kernel
theorem iw_X7_init_X7 : ∀ w ∈ wsX70, w ∈ wsX7_init := by decide +kernel
theorem iw_X7_init_X2 : ∀ w ∈ wsX20, w ∈ wsX7_init := by decide +kernel
set_option maxHeartbeats 4000000 in
set_option maxRecDepth 100000 in
theorem c_X7_init (l : Launch) (D : va_G) (cI cZ cB : ClassId) (sz : Nat) (h0 : Nat) (ru : Nat) : kt_Mv l yX7_init wsX7_init { frames := 3, cells := 15, slots := 216, locals := 63 } D (kt_ty cI cZ cB) [.ref h0, .ref ru] sz [(h0, .inr (7, [.null, .null, .null, .null, .null, .null, .null, .null, .null, .null, .null, .int 0, .int 0, .int 0, .int 0]))] (fun (u : Nat × Nat × Nat × Nat × Nat × Nat × Nat × Nat × Nat × Nat × Nat × Nat × Nat × Nat × Nat) => True) (fun (u : Nat × Nat × Nat × Nat × Nat × Nat × Nat × Nat × Nat × Nat × Nat × Nat × Nat × Nat × Nat) => [(h0, .inr (7, [.ref ru, .ref u.1, .ref u.2.2.2.1, .ref u.2.2.2.2.2.2.2.1, .ref u.2.2.2.2.2.2.2.2.1, .ref u.2.2.2.2.2.2.2.2.2.1, .ref u.2.2.2.2.2.2.2.2.2.2.1, .ref u.2.2.2.2.2.2.2.2.2.2.2.1, .ref u.2.2.2.2.2.2.2.2.2.2.2.2.1, .ref u.2.2.2.2.2.2.2.2.2.2.2.2.2.1, .ref u.2.2.2.2.2.2.2.2.2.2.2.2.2.2, .int 0, .int 0, .int 0, .int 0])), (u.1, .inr (8, [.ref u.2.1, .ref u.2.2.1, .int 0])), (u.2.1, .inl (cI, 40, .inl (fun _ => (-1)))), (u.2.2.1, .inl (cI, 81, .inl (fun _ => (-1)))), (u.2.2.2.1, .inr (2, [.ref u.2.2.2.2.1, .ref u.2.2.2.2.2.1, .ref u.2.2.2.2.2.2.1, .int 0])), (u.2.2.2.2.1, .inl (cI, 0, .inl (fun _ => 0))), (u.2.2.2.2.2.1, .inl (cI, 0, .inl (fun _ => 0))), (u.2.2.2.2.2.2.1, .inl (cI, 0, .inl (fun _ => 0))), (u.2.2.2.2.2.2.2.1, .inl (cI, 40, .inl (fun _ => 0))), (u.2.2.2.2.2.2.2.2.1, .inl (cI, 40, .inl (fun _ => 0))), (u.2.2.2.2.2.2.2.2.2.1, .inl (cI, 6, .inl (fun _ => 0))), (u.2.2.2.2.2.2.2.2.2.2.1, .inl (cI, 2, .inl (fun _ => 0))), (u.2.2.2.2.2.2.2.2.2.2.2.1, .inl (cI, 0, .inl (fun _ => 0))), (u.2.2.2.2.2.2.2.2.2.2.2.2.1, .inl (cI, 0, .inl (fun _ => 0))), (u.2.2.2.2.2.2.2.2.2.2.2.2.2.1, .inl (cI, 0, .inl (fun _ => 0))), (u.2.2.2.2.2.2.2.2.2.2.2.2.2.2, .inl (cI, 0, .inl (fun _ => 0)))]) 15 216 := by
  refine kt_Mv.of (cc := cX7_init) (maxL := 2) (ret := none) (by decide) rfl (Nat.le_of_ble_eq_true rfl) ?_
  intro p e s m below meth c A ls H hAt hP hD hS hl
  obtain ⟨hx, hb, hr, hml, hown, hts, hN, hK, hlk, hnm, hA⟩ := hAt
  have hl : lv_has ls 2 [(0, .ref h0), (1, .ref ru)] := hl
  have hown : s.vm.findClass RX7 = some m.cls := hown
  refine lv_aload_n hx hb dX7_init_0 rfl (lv_at hl 0 rfl) ?_
  refine W.objInit hx hb hown (hts (.methodLink RX7 3 objectInit) (by decide +kernel)) (hts (.instanceMethod objectInit) (by decide +kernel)) (hts (.code objectInit ⟨#[0xb1]⟩ 1 none) (by decide +kernel)) rfl (by rw [hml]; exact hl.1) rfl dX7_init_1 (Nat.le_of_ble_eq_true rfl) (Nat.le_of_ble_eq_true rfl) ?_
  refine W.eq (g2 := F0 m 4 ls []) rfl ?_
  refine lv_aload_n hx hb dX7_init_4 rfl (lv_at hl 0 rfl) ?_
  refine va_new (ci := 8) (fs := [.null, .null, .int 0]) (C := RX8) (T := TX8) (N := 3) hx hb hts iw_X7_init_X8 tyX8 tyX8_ok hown (hts (.classLink RX7 9 RX8) (by decide +kernel)) (hts (.instantiable RX8 3) (by decide +kernel)) (hts (.initialized RX8) (by decide +kernel)) hK hP hD hS hA rfl (fun j hj => by rcases (show j = 0 ∨ j = 1 ∨ j = 2 by omega) with rfl | rfl | rfl <;> rfl) (Nat.le_of_ble_eq_true rfl) (Nat.le_of_ble_eq_true rfl) dX7_init_5 (fun q5 H hP hD hS => ?_)
  have hP : va_P D vwCl [(h0, .inr (7, [.null, .null, .null, .null, .null, .null, .null, .null, .null, .null, .null, .int 0, .int 0, .int 0, .int 0])), (q5, .inr (8, [.null, .null, .int 0]))] H := hP
  have hD : va_D A [(h0, .inr (7, [.null, .null, .null, .null, .null, .null, .null, .null, .null, .null, .null, .int 0, .int 0, .int 0, .int 0])), (q5, .inr (8, [.null, .null, .int 0]))] := hD
  refine W.widen (k := 1) (n := 3) (Nat.le_of_ble_eq_true rfl) (Nat.le_of_ble_eq_true rfl) ?_
  refine lv_dup hx hb dX7_init_8 rfl ?_
  refine kt_bv (wc := [(q5, .inr (8, [.null, .null, .int 0]))]) (wr := [(h0, .inr (7, [.null, .null, .null, .null, .null, .null, .null, .null, .null, .null, .null, .int 0, .int 0, .int 0, .int 0]))]) [1] [0] hP hD hS hA rfl rfl (by decide) (by decide) (by decide) (fun hPc hDc => va_runI (As := []) (rest := [.ref q5, .ref h0]) ⟨hx, hb, hml, hown, hts⟩ (c_X8_init l D cI cZ cB H.size q5 ) (cwI 0 hts gX7_init_X8_init rfl rfl rfl (hts (.initialized RX8) (by decide +kernel)) (hts (.methodLink RX7 11 yX8_init) (by decide +kernel)) (hts (.instanceMethod yX8_init) (by decide +kernel)) rfl (by decide +kernel) ⟨Nat.le_of_ble_eq_true rfl, Nat.le_of_ble_eq_true rfl⟩) (kt_preS hN hK hPc hDc) rfl rfl hl.1 rfl (lv_room (Nat.le_of_ble_eq_true rfl)) dX7_init_9 ⟨Nat.le_of_ble_eq_true rfl, Nat.le_of_ble_eq_true rfl⟩) (fun u_ H locs hw_9 hP hD hS => ?_)
  obtain ⟨sf_9, sh_9⟩ := u_
  have hP : va_P D vwCl [(h0, .inr (7, [.null, .null, .null, .null, .null, .null, .null, .null, .null, .null, .null, .int 0, .int 0, .int 0, .int 0])), (q5, .inr (8, [.ref sf_9, .ref sh_9, .int 0])), (sf_9, .inl (cI, 40, .inl (fun _ => (-1)))), (sh_9, .inl (cI, 81, .inl (fun _ => (-1))))] H := hP.sub [0, 1, 2, 3] rfl
  have hD : va_D A [(h0, .inr (7, [.null, .null, .null, .null, .null, .null, .null, .null, .null, .null, .null, .int 0, .int 0, .int 0, .int 0])), (q5, .inr (8, [.ref sf_9, .ref sh_9, .int 0])), (sf_9, .inl (cI, 40, .inl (fun _ => (-1)))), (sh_9, .inl (cI, 81, .inl (fun _ => (-1))))] := hD.sub [0, 1, 2, 3] (by decide) rfl
  refine W.widen (k := 3) (n := 124) (Nat.le_of_ble_eq_true rfl) (Nat.le_of_ble_eq_true rfl) ?_
  refine va_putF (D := D) (ci := 7) (v := .ref q5) (ty := .object "KingTable$Stand") (C := RX7) (T := TX7) (N := 15) hx hb hts iw_X7_init_X7 tyX7 tyX7_ok nmX7 hown hK hP hD hS 0 rfl rfl 1 (by decide) (hts (.fieldLink RX7 12 "KingTable$Solver" "trial" "LKingTable$Stand;") (by decide +kernel)) (fun _ h9 => h9) rfl hnm rfl (by decide +kernel) rfl rfl (Nat.le_of_ble_eq_true rfl) dX7_init_12 (fun H locs hP hD hS => ?_)
  have hP : va_P D vwCl [(h0, .inr (7, [.null, .ref q5, .null, .null, .null, .null, .null, .null, .null, .null, .null, .int 0, .int 0, .int 0, .int 0])), (q5, .inr (8, [.ref sf_9, .ref sh_9, .int 0])), (sf_9, .inl (cI, 40, .inl (fun _ => (-1)))), (sh_9, .inl (cI, 81, .inl (fun _ => (-1))))] H := hP
  have hD : va_D A [(h0, .inr (7, [.null, .ref q5, .null, .null, .null, .null, .null, .null, .null, .null, .null, .int 0, .int 0, .int 0, .int 0])), (q5, .inr (8, [.ref sf_9, .ref sh_9, .int 0])), (sf_9, .inl (cI, 40, .inl (fun _ => (-1)))), (sh_9, .inl (cI, 81, .inl (fun _ => (-1))))] := hD
  refine lv_aload_n hx hb dX7_init_15 rfl (lv_at hl 0 rfl) ?_
  refine va_new (ci := 2) (fs := [.null, .null, .null, .int 0]) (C := RX2) (T := TX2) (N := 4) hx hb hts iw_X7_init_X2 tyX2 tyX2_ok hown (hts (.classLink RX7 18 RX2) (by decide +kernel)) (hts (.instantiable RX2 4) (by decide +kernel)) (hts (.initialized RX2) (by decide +kernel)) hK hP hD hS hA rfl (fun j hj => by rcases (show j = 0 ∨ j = 1 ∨ j = 2 ∨ j = 3 by omega) with rfl | rfl | rfl | rfl <;> rfl) (Nat.le_of_ble_eq_true rfl) (Nat.le_of_ble_eq_true rfl) dX7_init_16 (fun q16 H hP hD hS => ?_)
  have hP : va_P D vwCl [(h0, .inr (7, [.null, .ref q5, .null, .null, .null, .null, .null, .null, .null, .null, .null, .int 0, .int 0, .int 0, .int 0])), (q5, .inr (8, [.ref sf_9, .ref sh_9, .int 0])), (sf_9, .inl (cI, 40, .inl (fun _ => (-1)))), (sh_9, .inl (cI, 81, .inl (fun _ => (-1)))), (q16, .inr (2, [.null, .null, .null, .int 0]))] H := hP
  have hD : va_D A [(h0, .inr (7, [.null, .ref q5, .null, .null, .null, .null, .null, .null, .null, .null, .null, .int 0, .int 0, .int 0, .int 0])), (q5, .inr (8, [.ref sf_9, .ref sh_9, .int 0])), (sf_9, .inl (cI, 40, .inl (fun _ => (-1)))), (sh_9, .inl (cI, 81, .inl (fun _ => (-1)))), (q16, .inr (2, [.null, .null, .null, .int 0]))] := hD
  refine W.widen (k := 4) (n := 128) (Nat.le_of_ble_eq_true rfl) (Nat.le_of_ble_eq_true rfl) ?_
  refine lv_dup hx hb dX7_init_19 rfl ?_
  refine kt_bv (wc := [(q16, .inr (2, [.null, .null, .null, .int 0]))]) (wr := [(h0, .inr (7, [.null, .ref q5, .null, .null, .null, .null, .null, .null, .null, .null, .null, .int 0, .int 0, .int 0, .int 0])), (q5, .inr (8, [.ref sf_9, .ref sh_9, .int 0])), (sf_9, .inl (cI, 40, .inl (fun _ => (-1)))), (sh_9, .inl (cI, 81, .inl (fun _ => (-1))))]) [4] [0, 1, 2, 3] hP hD hS hA rfl rfl (by decide) (by decide) (by decide) (fun hPc hDc => va_runIN (As := []) (rest := [.ref q16, .ref h0]) ⟨hx, hb, hml, hown, hts⟩ (c_X2_init l D cI cZ cB H.size q16 ) ⟨va_cnB 0 hts gX7_init_X2_init_n20 rfl rfl rfl (hN (.methodLinkNest "KingTable$Solver" 20 yX2_init "KingTable") (by decide +kernel)) (hts (.initialized RX2) (by decide +kernel)) (by decide +kernel) ⟨Nat.le_of_ble_eq_true rfl, Nat.le_of_ble_eq_true rfl⟩, rfl, (hts (.instanceMethod yX2_init) (by decide +kernel))⟩ (kt_preS hN hK hPc hDc) rfl rfl hl.1 rfl (lv_room (Nat.le_of_ble_eq_true rfl)) dX7_init_20 ⟨Nat.le_of_ble_eq_true rfl, Nat.le_of_ble_eq_true rfl⟩) (fun u_ H locs hw_20 hP hD hS => ?_)
  obtain ⟨kh_20, ks_20, kn_20⟩ := u_
  have hP : va_P D vwCl [(h0, .inr (7, [.null, .ref q5, .null, .null, .null, .null, .null, .null, .null, .null, .null, .int 0, .int 0, .int 0, .int 0])), (q5, .inr (8, [.ref sf_9, .ref sh_9, .int 0])), (sf_9, .inl (cI, 40, .inl (fun _ => (-1)))), (sh_9, .inl (cI, 81, .inl (fun _ => (-1)))), (q16, .inr (2, [.ref kh_20, .ref ks_20, .ref kn_20, .int 0])), (kh_20, .inl (cI, 0, .inl (fun _ => 0))), (ks_20, .inl (cI, 0, .inl (fun _ => 0))), (kn_20, .inl (cI, 0, .inl (fun _ => 0)))] H := hP.sub [0, 1, 2, 3, 4, 5, 6, 7] rfl
  have hD : va_D A [(h0, .inr (7, [.null, .ref q5, .null, .null, .null, .null, .null, .null, .null, .null, .null, .int 0, .int 0, .int 0, .int 0])), (q5, .inr (8, [.ref sf_9, .ref sh_9, .int 0])), (sf_9, .inl (cI, 40, .inl (fun _ => (-1)))), (sh_9, .inl (cI, 81, .inl (fun _ => (-1)))), (q16, .inr (2, [.ref kh_20, .ref ks_20, .ref kn_20, .int 0])), (kh_20, .inl (cI, 0, .inl (fun _ => 0))), (ks_20, .inl (cI, 0, .inl (fun _ => 0))), (kn_20, .inl (cI, 0, .inl (fun _ => 0)))] := hD.sub [0, 1, 2, 3, 4, 5, 6, 7] (by decide) rfl
  refine W.widen (k := 7) (n := 128) (Nat.le_of_ble_eq_true rfl) (Nat.le_of_ble_eq_true rfl) ?_
  refine va_putF (D := D) (ci := 7) (v := .ref q16) (ty := .object "KingTable$Links") (C := RX7) (T := TX7) (N := 15) hx hb hts iw_X7_init_X7 tyX7 tyX7_ok nmX7 hown hK hP hD hS 0 rfl rfl 2 (by decide) (hts (.fieldLink RX7 21 "KingTable$Solver" "links" "LKingTable$Links;") (by decide +kernel)) (fun _ h9 => h9) rfl hnm rfl (by decide +kernel) rfl rfl (Nat.le_of_ble_eq_true rfl) dX7_init_23 (fun H locs hP hD hS => ?_)
  have hP : va_P D vwCl [(h0, .inr (7, [.null, .ref q5, .ref q16, .null, .null, .null, .null, .null, .null, .null, .null, .int 0, .int 0, .int 0, .int 0])), (q5, .inr (8, [.ref sf_9, .ref sh_9, .int 0])), (sf_9, .inl (cI, 40, .inl (fun _ => (-1)))), (sh_9, .inl (cI, 81, .inl (fun _ => (-1)))), (q16, .inr (2, [.ref kh_20, .ref ks_20, .ref kn_20, .int 0])), (kh_20, .inl (cI, 0, .inl (fun _ => 0))), (ks_20, .inl (cI, 0, .inl (fun _ => 0))), (kn_20, .inl (cI, 0, .inl (fun _ => 0)))] H := hP
  have hD : va_D A [(h0, .inr (7, [.null, .ref q5, .ref q16, .null, .null, .null, .null, .null, .null, .null, .null, .int 0, .int 0, .int 0, .int 0])), (q5, .inr (8, [.ref sf_9, .ref sh_9, .int 0])), (sf_9, .inl (cI, 40, .inl (fun _ => (-1)))), (sh_9, .inl (cI, 81, .inl (fun _ => (-1)))), (q16, .inr (2, [.ref kh_20, .ref ks_20, .ref kn_20, .int 0])), (kh_20, .inl (cI, 0, .inl (fun _ => 0))), (ks_20, .inl (cI, 0, .inl (fun _ => 0))), (kn_20, .inl (cI, 0, .inl (fun _ => 0)))] := hD
  refine lv_aload_n hx hb dX7_init_26 rfl (lv_at hl 0 rfl) ?_
  refine lv_bipush (v := 40) hx hb dX7_init_27 (by decide) ?_
  refine kt_newa (atype := .int) (ty := .int) (cA := cI) hx hb (hts (.arrayClass .int) (by decide +kernel)) rfl hK hP hD hS hA 0 rfl (fun _ h => h) (N' := 40) (fun _ => rfl) (by decide) (by decide) (Nat.le_of_ble_eq_true rfl) (Nat.le_of_ble_eq_true rfl) (Nat.le_of_ble_eq_true rfl) dX7_init_29 (fun q29 H hP hD hS => ?_)
  have hP : va_P D vwCl [(h0, .inr (7, [.null, .ref q5, .ref q16, .null, .null, .null, .null, .null, .null, .null, .null, .int 0, .int 0, .int 0, .int 0])), (q5, .inr (8, [.ref sf_9, .ref sh_9, .int 0])), (sf_9, .inl (cI, 40, .inl (fun _ => (-1)))), (sh_9, .inl (cI, 81, .inl (fun _ => (-1)))), (q16, .inr (2, [.ref kh_20, .ref ks_20, .ref kn_20, .int 0])), (kh_20, .inl (cI, 0, .inl (fun _ => 0))), (ks_20, .inl (cI, 0, .inl (fun _ => 0))), (kn_20, .inl (cI, 0, .inl (fun _ => 0))), (q29, .inl (cI, 40, .inl (fun _ => 0)))] H := hP
  have hD : va_D A [(h0, .inr (7, [.null, .ref q5, .ref q16, .null, .null, .null, .null, .null, .null, .null, .null, .int 0, .int 0, .int 0, .int 0])), (q5, .inr (8, [.ref sf_9, .ref sh_9, .int 0])), (sf_9, .inl (cI, 40, .inl (fun _ => (-1)))), (sh_9, .inl (cI, 81, .inl (fun _ => (-1)))), (q16, .inr (2, [.ref kh_20, .ref ks_20, .ref kn_20, .int 0])), (kh_20, .inl (cI, 0, .inl (fun _ => 0))), (ks_20, .inl (cI, 0, .inl (fun _ => 0))), (kn_20, .inl (cI, 0, .inl (fun _ => 0))), (q29, .inl (cI, 40, .inl (fun _ => 0)))] := hD
  refine W.widen (k := 8) (n := 168) (Nat.le_of_ble_eq_true rfl) (Nat.le_of_ble_eq_true rfl) ?_
  refine va_putF (D := D) (ci := 7) (v := .ref q29) (ty := .array .int) (C := RX7) (T := TX7) (N := 15) hx hb hts iw_X7_init_X7 tyX7 tyX7_ok nmX7 hown hK hP hD hS 0 rfl rfl 3 (by decide) (hts (.fieldLink RX7 25 "KingTable$Solver" "powers" "[I") (by decide +kernel)) (fun _ h9 => h9) rfl hnm rfl (by decide +kernel) rfl rfl (Nat.le_of_ble_eq_true rfl) dX7_init_31 (fun H locs hP hD hS => ?_)
  have hP : va_P D vwCl [(h0, .inr (7, [.null, .ref q5, .ref q16, .ref q29, .null, .null, .null, .null, .null, .null, .null, .int 0, .int 0, .int 0, .int 0])), (q5, .inr (8, [.ref sf_9, .ref sh_9, .int 0])), (sf_9, .inl (cI, 40, .inl (fun _ => (-1)))), (sh_9, .inl (cI, 81, .inl (fun _ => (-1)))), (q16, .inr (2, [.ref kh_20, .ref ks_20, .ref kn_20, .int 0])), (kh_20, .inl (cI, 0, .inl (fun _ => 0))), (ks_20, .inl (cI, 0, .inl (fun _ => 0))), (kn_20, .inl (cI, 0, .inl (fun _ => 0))), (q29, .inl (cI, 40, .inl (fun _ => 0)))] H := hP
  have hD : va_D A [(h0, .inr (7, [.null, .ref q5, .ref q16, .ref q29, .null, .null, .null, .null, .null, .null, .null, .int 0, .int 0, .int 0, .int 0])), (q5, .inr (8, [.ref sf_9, .ref sh_9, .int 0])), (sf_9, .inl (cI, 40, .inl (fun _ => (-1)))), (sh_9, .inl (cI, 81, .inl (fun _ => (-1)))), (q16, .inr (2, [.ref kh_20, .ref ks_20, .ref kn_20, .int 0])), (kh_20, .inl (cI, 0, .inl (fun _ => 0))), (ks_20, .inl (cI, 0, .inl (fun _ => 0))), (kn_20, .inl (cI, 0, .inl (fun _ => 0))), (q29, .inl (cI, 40, .inl (fun _ => 0)))] := hD
  refine lv_aload_n hx hb dX7_init_34 rfl (lv_at hl 0 rfl) ?_
  refine lv_bipush (v := 40) hx hb dX7_init_35 (by decide) ?_
  refine kt_newa (atype := .int) (ty := .int) (cA := cI) hx hb (hts (.arrayClass .int) (by decide +kernel)) rfl hK hP hD hS hA 0 rfl (fun _ h => h) (N' := 40) (fun _ => rfl) (by decide) (by decide) (Nat.le_of_ble_eq_true rfl) (Nat.le_of_ble_eq_true rfl) (Nat.le_of_ble_eq_true rfl) dX7_init_37 (fun q37 H hP hD hS => ?_)
  have hP : va_P D vwCl [(h0, .inr (7, [.null, .ref q5, .ref q16, .ref q29, .null, .null, .null, .null, .null, .null, .null, .int 0, .int 0, .int 0, .int 0])), (q5, .inr (8, [.ref sf_9, .ref sh_9, .int 0])), (sf_9, .inl (cI, 40, .inl (fun _ => (-1)))), (sh_9, .inl (cI, 81, .inl (fun _ => (-1)))), (q16, .inr (2, [.ref kh_20, .ref ks_20, .ref kn_20, .int 0])), (kh_20, .inl (cI, 0, .inl (fun _ => 0))), (ks_20, .inl (cI, 0, .inl (fun _ => 0))), (kn_20, .inl (cI, 0, .inl (fun _ => 0))), (q29, .inl (cI, 40, .inl (fun _ => 0))), (q37, .inl (cI, 40, .inl (fun _ => 0)))] H := hP
  have hD : va_D A [(h0, .inr (7, [.null, .ref q5, .ref q16, .ref q29, .null, .null, .null, .null, .null, .null, .null, .int 0, .int 0, .int 0, .int 0])), (q5, .inr (8, [.ref sf_9, .ref sh_9, .int 0])), (sf_9, .inl (cI, 40, .inl (fun _ => (-1)))), (sh_9, .inl (cI, 81, .inl (fun _ => (-1)))), (q16, .inr (2, [.ref kh_20, .ref ks_20, .ref kn_20, .int 0])), (kh_20, .inl (cI, 0, .inl (fun _ => 0))), (ks_20, .inl (cI, 0, .inl (fun _ => 0))), (kn_20, .inl (cI, 0, .inl (fun _ => 0))), (q29, .inl (cI, 40, .inl (fun _ => 0))), (q37, .inl (cI, 40, .inl (fun _ => 0)))] := hD
  refine W.widen (k := 9) (n := 208) (Nat.le_of_ble_eq_true rfl) (Nat.le_of_ble_eq_true rfl) ?_
  refine va_putF (D := D) (ci := 7) (v := .ref q37) (ty := .array .int) (C := RX7) (T := TX7) (N := 15) hx hb hts iw_X7_init_X7 tyX7 tyX7_ok nmX7 hown hK hP hD hS 0 rfl rfl 4 (by decide) (hts (.fieldLink RX7 29 "KingTable$Solver" "digits" "[I") (by decide +kernel)) (fun _ h9 => h9) rfl hnm rfl (by decide +kernel) rfl rfl (Nat.le_of_ble_eq_true rfl) dX7_init_39 (fun H locs hP hD hS => ?_)
  have hP : va_P D vwCl [(h0, .inr (7, [.null, .ref q5, .ref q16, .ref q29, .ref q37, .null, .null, .null, .null, .null, .null, .int 0, .int 0, .int 0, .int 0])), (q5, .inr (8, [.ref sf_9, .ref sh_9, .int 0])), (sf_9, .inl (cI, 40, .inl (fun _ => (-1)))), (sh_9, .inl (cI, 81, .inl (fun _ => (-1)))), (q16, .inr (2, [.ref kh_20, .ref ks_20, .ref kn_20, .int 0])), (kh_20, .inl (cI, 0, .inl (fun _ => 0))), (ks_20, .inl (cI, 0, .inl (fun _ => 0))), (kn_20, .inl (cI, 0, .inl (fun _ => 0))), (q29, .inl (cI, 40, .inl (fun _ => 0))), (q37, .inl (cI, 40, .inl (fun _ => 0)))] H := hP
  have hD : va_D A [(h0, .inr (7, [.null, .ref q5, .ref q16, .ref q29, .ref q37, .null, .null, .null, .null, .null, .null, .int 0, .int 0, .int 0, .int 0])), (q5, .inr (8, [.ref sf_9, .ref sh_9, .int 0])), (sf_9, .inl (cI, 40, .inl (fun _ => (-1)))), (sh_9, .inl (cI, 81, .inl (fun _ => (-1)))), (q16, .inr (2, [.ref kh_20, .ref ks_20, .ref kn_20, .int 0])), (kh_20, .inl (cI, 0, .inl (fun _ => 0))), (ks_20, .inl (cI, 0, .inl (fun _ => 0))), (kn_20, .inl (cI, 0, .inl (fun _ => 0))), (q29, .inl (cI, 40, .inl (fun _ => 0))), (q37, .inl (cI, 40, .inl (fun _ => 0)))] := hD
  refine lv_aload_n hx hb dX7_init_42 rfl (lv_at hl 0 rfl) ?_
  refine lv_bipush (v := 6) hx hb dX7_init_43 (by decide) ?_
  refine kt_newa (atype := .int) (ty := .int) (cA := cI) hx hb (hts (.arrayClass .int) (by decide +kernel)) rfl hK hP hD hS hA 0 rfl (fun _ h => h) (N' := 6) (fun _ => rfl) (by decide) (by decide) (Nat.le_of_ble_eq_true rfl) (Nat.le_of_ble_eq_true rfl) (Nat.le_of_ble_eq_true rfl) dX7_init_45 (fun q45 H hP hD hS => ?_)
  have hP : va_P D vwCl [(h0, .inr (7, [.null, .ref q5, .ref q16, .ref q29, .ref q37, .null, .null, .null, .null, .null, .null, .int 0, .int 0, .int 0, .int 0])), (q5, .inr (8, [.ref sf_9, .ref sh_9, .int 0])), (sf_9, .inl (cI, 40, .inl (fun _ => (-1)))), (sh_9, .inl (cI, 81, .inl (fun _ => (-1)))), (q16, .inr (2, [.ref kh_20, .ref ks_20, .ref kn_20, .int 0])), (kh_20, .inl (cI, 0, .inl (fun _ => 0))), (ks_20, .inl (cI, 0, .inl (fun _ => 0))), (kn_20, .inl (cI, 0, .inl (fun _ => 0))), (q29, .inl (cI, 40, .inl (fun _ => 0))), (q37, .inl (cI, 40, .inl (fun _ => 0))), (q45, .inl (cI, 6, .inl (fun _ => 0)))] H := hP
  have hD : va_D A [(h0, .inr (7, [.null, .ref q5, .ref q16, .ref q29, .ref q37, .null, .null, .null, .null, .null, .null, .int 0, .int 0, .int 0, .int 0])), (q5, .inr (8, [.ref sf_9, .ref sh_9, .int 0])), (sf_9, .inl (cI, 40, .inl (fun _ => (-1)))), (sh_9, .inl (cI, 81, .inl (fun _ => (-1)))), (q16, .inr (2, [.ref kh_20, .ref ks_20, .ref kn_20, .int 0])), (kh_20, .inl (cI, 0, .inl (fun _ => 0))), (ks_20, .inl (cI, 0, .inl (fun _ => 0))), (kn_20, .inl (cI, 0, .inl (fun _ => 0))), (q29, .inl (cI, 40, .inl (fun _ => 0))), (q37, .inl (cI, 40, .inl (fun _ => 0))), (q45, .inl (cI, 6, .inl (fun _ => 0)))] := hD
  refine W.widen (k := 10) (n := 214) (Nat.le_of_ble_eq_true rfl) (Nat.le_of_ble_eq_true rfl) ?_
  refine va_putF (D := D) (ci := 7) (v := .ref q45) (ty := .array .int) (C := RX7) (T := TX7) (N := 15) hx hb hts iw_X7_init_X7 tyX7 tyX7_ok nmX7 hown hK hP hD hS 0 rfl rfl 5 (by decide) (hts (.fieldLink RX7 32 "KingTable$Solver" "tallies" "[I") (by decide +kernel)) (fun _ h9 => h9) rfl hnm rfl (by decide +kernel) rfl rfl (Nat.le_of_ble_eq_true rfl) dX7_init_47 (fun H locs hP hD hS => ?_)
  have hP : va_P D vwCl [(h0, .inr (7, [.null, .ref q5, .ref q16, .ref q29, .ref q37, .ref q45, .null, .null, .null, .null, .null, .int 0, .int 0, .int 0, .int 0])), (q5, .inr (8, [.ref sf_9, .ref sh_9, .int 0])), (sf_9, .inl (cI, 40, .inl (fun _ => (-1)))), (sh_9, .inl (cI, 81, .inl (fun _ => (-1)))), (q16, .inr (2, [.ref kh_20, .ref ks_20, .ref kn_20, .int 0])), (kh_20, .inl (cI, 0, .inl (fun _ => 0))), (ks_20, .inl (cI, 0, .inl (fun _ => 0))), (kn_20, .inl (cI, 0, .inl (fun _ => 0))), (q29, .inl (cI, 40, .inl (fun _ => 0))), (q37, .inl (cI, 40, .inl (fun _ => 0))), (q45, .inl (cI, 6, .inl (fun _ => 0)))] H := hP
  have hD : va_D A [(h0, .inr (7, [.null, .ref q5, .ref q16, .ref q29, .ref q37, .ref q45, .null, .null, .null, .null, .null, .int 0, .int 0, .int 0, .int 0])), (q5, .inr (8, [.ref sf_9, .ref sh_9, .int 0])), (sf_9, .inl (cI, 40, .inl (fun _ => (-1)))), (sh_9, .inl (cI, 81, .inl (fun _ => (-1)))), (q16, .inr (2, [.ref kh_20, .ref ks_20, .ref kn_20, .int 0])), (kh_20, .inl (cI, 0, .inl (fun _ => 0))), (ks_20, .inl (cI, 0, .inl (fun _ => 0))), (kn_20, .inl (cI, 0, .inl (fun _ => 0))), (q29, .inl (cI, 40, .inl (fun _ => 0))), (q37, .inl (cI, 40, .inl (fun _ => 0))), (q45, .inl (cI, 6, .inl (fun _ => 0)))] := hD
  refine lv_aload_n hx hb dX7_init_50 rfl (lv_at hl 0 rfl) ?_
  refine lv_iconst (v := 2) hx hb dX7_init_51 (by decide) ?_
  refine kt_newa (atype := .int) (ty := .int) (cA := cI) hx hb (hts (.arrayClass .int) (by decide +kernel)) rfl hK hP hD hS hA 0 rfl (fun _ h => h) (N' := 2) (fun _ => rfl) (by decide) (by decide) (Nat.le_of_ble_eq_true rfl) (Nat.le_of_ble_eq_true rfl) (Nat.le_of_ble_eq_true rfl) dX7_init_52 (fun q52 H hP hD hS => ?_)
  have hP : va_P D vwCl [(h0, .inr (7, [.null, .ref q5, .ref q16, .ref q29, .ref q37, .ref q45, .null, .null, .null, .null, .null, .int 0, .int 0, .int 0, .int 0])), (q5, .inr (8, [.ref sf_9, .ref sh_9, .int 0])), (sf_9, .inl (cI, 40, .inl (fun _ => (-1)))), (sh_9, .inl (cI, 81, .inl (fun _ => (-1)))), (q16, .inr (2, [.ref kh_20, .ref ks_20, .ref kn_20, .int 0])), (kh_20, .inl (cI, 0, .inl (fun _ => 0))), (ks_20, .inl (cI, 0, .inl (fun _ => 0))), (kn_20, .inl (cI, 0, .inl (fun _ => 0))), (q29, .inl (cI, 40, .inl (fun _ => 0))), (q37, .inl (cI, 40, .inl (fun _ => 0))), (q45, .inl (cI, 6, .inl (fun _ => 0))), (q52, .inl (cI, 2, .inl (fun _ => 0)))] H := hP
  have hD : va_D A [(h0, .inr (7, [.null, .ref q5, .ref q16, .ref q29, .ref q37, .ref q45, .null, .null, .null, .null, .null, .int 0, .int 0, .int 0, .int 0])), (q5, .inr (8, [.ref sf_9, .ref sh_9, .int 0])), (sf_9, .inl (cI, 40, .inl (fun _ => (-1)))), (sh_9, .inl (cI, 81, .inl (fun _ => (-1)))), (q16, .inr (2, [.ref kh_20, .ref ks_20, .ref kn_20, .int 0])), (kh_20, .inl (cI, 0, .inl (fun _ => 0))), (ks_20, .inl (cI, 0, .inl (fun _ => 0))), (kn_20, .inl (cI, 0, .inl (fun _ => 0))), (q29, .inl (cI, 40, .inl (fun _ => 0))), (q37, .inl (cI, 40, .inl (fun _ => 0))), (q45, .inl (cI, 6, .inl (fun _ => 0))), (q52, .inl (cI, 2, .inl (fun _ => 0)))] := hD
  refine W.widen (k := 11) (n := 216) (Nat.le_of_ble_eq_true rfl) (Nat.le_of_ble_eq_true rfl) ?_
  refine va_putF (D := D) (ci := 7) (v := .ref q52) (ty := .array .int) (C := RX7) (T := TX7) (N := 15) hx hb hts iw_X7_init_X7 tyX7 tyX7_ok nmX7 hown hK hP hD hS 0 rfl rfl 6 (by decide) (hts (.fieldLink RX7 35 "KingTable$Solver" "greatest" "[I") (by decide +kernel)) (fun _ h9 => h9) rfl hnm rfl (by decide +kernel) rfl rfl (Nat.le_of_ble_eq_true rfl) dX7_init_54 (fun H locs hP hD hS => ?_)
  have hP : va_P D vwCl [(h0, .inr (7, [.null, .ref q5, .ref q16, .ref q29, .ref q37, .ref q45, .ref q52, .null, .null, .null, .null, .int 0, .int 0, .int 0, .int 0])), (q5, .inr (8, [.ref sf_9, .ref sh_9, .int 0])), (sf_9, .inl (cI, 40, .inl (fun _ => (-1)))), (sh_9, .inl (cI, 81, .inl (fun _ => (-1)))), (q16, .inr (2, [.ref kh_20, .ref ks_20, .ref kn_20, .int 0])), (kh_20, .inl (cI, 0, .inl (fun _ => 0))), (ks_20, .inl (cI, 0, .inl (fun _ => 0))), (kn_20, .inl (cI, 0, .inl (fun _ => 0))), (q29, .inl (cI, 40, .inl (fun _ => 0))), (q37, .inl (cI, 40, .inl (fun _ => 0))), (q45, .inl (cI, 6, .inl (fun _ => 0))), (q52, .inl (cI, 2, .inl (fun _ => 0)))] H := hP
  have hD : va_D A [(h0, .inr (7, [.null, .ref q5, .ref q16, .ref q29, .ref q37, .ref q45, .ref q52, .null, .null, .null, .null, .int 0, .int 0, .int 0, .int 0])), (q5, .inr (8, [.ref sf_9, .ref sh_9, .int 0])), (sf_9, .inl (cI, 40, .inl (fun _ => (-1)))), (sh_9, .inl (cI, 81, .inl (fun _ => (-1)))), (q16, .inr (2, [.ref kh_20, .ref ks_20, .ref kn_20, .int 0])), (kh_20, .inl (cI, 0, .inl (fun _ => 0))), (ks_20, .inl (cI, 0, .inl (fun _ => 0))), (kn_20, .inl (cI, 0, .inl (fun _ => 0))), (q29, .inl (cI, 40, .inl (fun _ => 0))), (q37, .inl (cI, 40, .inl (fun _ => 0))), (q45, .inl (cI, 6, .inl (fun _ => 0))), (q52, .inl (cI, 2, .inl (fun _ => 0)))] := hD
  refine lv_aload_n hx hb dX7_init_57 rfl (lv_at hl 0 rfl) ?_
  refine lv_iconst (v := 0) hx hb dX7_init_58 (by decide) ?_
  refine kt_newa (atype := .int) (ty := .int) (cA := cI) hx hb (hts (.arrayClass .int) (by decide +kernel)) rfl hK hP hD hS hA 0 rfl (fun _ h => h) (N' := 0) (fun _ => rfl) (by decide) (by decide) (Nat.le_of_ble_eq_true rfl) (Nat.le_of_ble_eq_true rfl) (Nat.le_of_ble_eq_true rfl) dX7_init_59 (fun q59 H hP hD hS => ?_)
  have hP : va_P D vwCl [(h0, .inr (7, [.null, .ref q5, .ref q16, .ref q29, .ref q37, .ref q45, .ref q52, .null, .null, .null, .null, .int 0, .int 0, .int 0, .int 0])), (q5, .inr (8, [.ref sf_9, .ref sh_9, .int 0])), (sf_9, .inl (cI, 40, .inl (fun _ => (-1)))), (sh_9, .inl (cI, 81, .inl (fun _ => (-1)))), (q16, .inr (2, [.ref kh_20, .ref ks_20, .ref kn_20, .int 0])), (kh_20, .inl (cI, 0, .inl (fun _ => 0))), (ks_20, .inl (cI, 0, .inl (fun _ => 0))), (kn_20, .inl (cI, 0, .inl (fun _ => 0))), (q29, .inl (cI, 40, .inl (fun _ => 0))), (q37, .inl (cI, 40, .inl (fun _ => 0))), (q45, .inl (cI, 6, .inl (fun _ => 0))), (q52, .inl (cI, 2, .inl (fun _ => 0))), (q59, .inl (cI, 0, .inl (fun _ => 0)))] H := hP
  have hD : va_D A [(h0, .inr (7, [.null, .ref q5, .ref q16, .ref q29, .ref q37, .ref q45, .ref q52, .null, .null, .null, .null, .int 0, .int 0, .int 0, .int 0])), (q5, .inr (8, [.ref sf_9, .ref sh_9, .int 0])), (sf_9, .inl (cI, 40, .inl (fun _ => (-1)))), (sh_9, .inl (cI, 81, .inl (fun _ => (-1)))), (q16, .inr (2, [.ref kh_20, .ref ks_20, .ref kn_20, .int 0])), (kh_20, .inl (cI, 0, .inl (fun _ => 0))), (ks_20, .inl (cI, 0, .inl (fun _ => 0))), (kn_20, .inl (cI, 0, .inl (fun _ => 0))), (q29, .inl (cI, 40, .inl (fun _ => 0))), (q37, .inl (cI, 40, .inl (fun _ => 0))), (q45, .inl (cI, 6, .inl (fun _ => 0))), (q52, .inl (cI, 2, .inl (fun _ => 0))), (q59, .inl (cI, 0, .inl (fun _ => 0)))] := hD
  refine W.widen (k := 12) (n := 216) (Nat.le_of_ble_eq_true rfl) (Nat.le_of_ble_eq_true rfl) ?_
  refine va_put (D := D) (ci := 7) (v := .ref q59) (ty := .array .int) (C := RX7) (T := TX7) (N := 15) hx hb hts iw_X7_init_X7 tyX7 tyX7_ok nmX7 hown hK hP hD hS 0 rfl rfl 7 (by decide) (hts (.fieldLink RX7 38 "KingTable$Solver" "worths" "[I") (by decide +kernel)) (fun _ h9 => h9) rfl (by decide +kernel) rfl rfl (Nat.le_of_ble_eq_true rfl) dX7_init_61 (fun H locs hP hD hS => ?_)
  have hP : va_P D vwCl [(h0, .inr (7, [.null, .ref q5, .ref q16, .ref q29, .ref q37, .ref q45, .ref q52, .ref q59, .null, .null, .null, .int 0, .int 0, .int 0, .int 0])), (q5, .inr (8, [.ref sf_9, .ref sh_9, .int 0])), (sf_9, .inl (cI, 40, .inl (fun _ => (-1)))), (sh_9, .inl (cI, 81, .inl (fun _ => (-1)))), (q16, .inr (2, [.ref kh_20, .ref ks_20, .ref kn_20, .int 0])), (kh_20, .inl (cI, 0, .inl (fun _ => 0))), (ks_20, .inl (cI, 0, .inl (fun _ => 0))), (kn_20, .inl (cI, 0, .inl (fun _ => 0))), (q29, .inl (cI, 40, .inl (fun _ => 0))), (q37, .inl (cI, 40, .inl (fun _ => 0))), (q45, .inl (cI, 6, .inl (fun _ => 0))), (q52, .inl (cI, 2, .inl (fun _ => 0))), (q59, .inl (cI, 0, .inl (fun _ => 0)))] H := hP
  have hD : va_D A [(h0, .inr (7, [.null, .ref q5, .ref q16, .ref q29, .ref q37, .ref q45, .ref q52, .ref q59, .null, .null, .null, .int 0, .int 0, .int 0, .int 0])), (q5, .inr (8, [.ref sf_9, .ref sh_9, .int 0])), (sf_9, .inl (cI, 40, .inl (fun _ => (-1)))), (sh_9, .inl (cI, 81, .inl (fun _ => (-1)))), (q16, .inr (2, [.ref kh_20, .ref ks_20, .ref kn_20, .int 0])), (kh_20, .inl (cI, 0, .inl (fun _ => 0))), (ks_20, .inl (cI, 0, .inl (fun _ => 0))), (kn_20, .inl (cI, 0, .inl (fun _ => 0))), (q29, .inl (cI, 40, .inl (fun _ => 0))), (q37, .inl (cI, 40, .inl (fun _ => 0))), (q45, .inl (cI, 6, .inl (fun _ => 0))), (q52, .inl (cI, 2, .inl (fun _ => 0))), (q59, .inl (cI, 0, .inl (fun _ => 0)))] := hD
  refine lv_aload_n hx hb dX7_init_64 rfl (lv_at hl 0 rfl) ?_
  refine lv_iconst (v := 0) hx hb dX7_init_65 (by decide) ?_
  refine kt_newa (atype := .int) (ty := .int) (cA := cI) hx hb (hts (.arrayClass .int) (by decide +kernel)) rfl hK hP hD hS hA 0 rfl (fun _ h => h) (N' := 0) (fun _ => rfl) (by decide) (by decide) (Nat.le_of_ble_eq_true rfl) (Nat.le_of_ble_eq_true rfl) (Nat.le_of_ble_eq_true rfl) dX7_init_66 (fun q66 H hP hD hS => ?_)
  have hP : va_P D vwCl [(h0, .inr (7, [.null, .ref q5, .ref q16, .ref q29, .ref q37, .ref q45, .ref q52, .ref q59, .null, .null, .null, .int 0, .int 0, .int 0, .int 0])), (q5, .inr (8, [.ref sf_9, .ref sh_9, .int 0])), (sf_9, .inl (cI, 40, .inl (fun _ => (-1)))), (sh_9, .inl (cI, 81, .inl (fun _ => (-1)))), (q16, .inr (2, [.ref kh_20, .ref ks_20, .ref kn_20, .int 0])), (kh_20, .inl (cI, 0, .inl (fun _ => 0))), (ks_20, .inl (cI, 0, .inl (fun _ => 0))), (kn_20, .inl (cI, 0, .inl (fun _ => 0))), (q29, .inl (cI, 40, .inl (fun _ => 0))), (q37, .inl (cI, 40, .inl (fun _ => 0))), (q45, .inl (cI, 6, .inl (fun _ => 0))), (q52, .inl (cI, 2, .inl (fun _ => 0))), (q59, .inl (cI, 0, .inl (fun _ => 0))), (q66, .inl (cI, 0, .inl (fun _ => 0)))] H := hP
  have hD : va_D A [(h0, .inr (7, [.null, .ref q5, .ref q16, .ref q29, .ref q37, .ref q45, .ref q52, .ref q59, .null, .null, .null, .int 0, .int 0, .int 0, .int 0])), (q5, .inr (8, [.ref sf_9, .ref sh_9, .int 0])), (sf_9, .inl (cI, 40, .inl (fun _ => (-1)))), (sh_9, .inl (cI, 81, .inl (fun _ => (-1)))), (q16, .inr (2, [.ref kh_20, .ref ks_20, .ref kn_20, .int 0])), (kh_20, .inl (cI, 0, .inl (fun _ => 0))), (ks_20, .inl (cI, 0, .inl (fun _ => 0))), (kn_20, .inl (cI, 0, .inl (fun _ => 0))), (q29, .inl (cI, 40, .inl (fun _ => 0))), (q37, .inl (cI, 40, .inl (fun _ => 0))), (q45, .inl (cI, 6, .inl (fun _ => 0))), (q52, .inl (cI, 2, .inl (fun _ => 0))), (q59, .inl (cI, 0, .inl (fun _ => 0))), (q66, .inl (cI, 0, .inl (fun _ => 0)))] := hD
  refine W.widen (k := 13) (n := 216) (Nat.le_of_ble_eq_true rfl) (Nat.le_of_ble_eq_true rfl) ?_
  refine va_put (D := D) (ci := 7) (v := .ref q66) (ty := .array .int) (C := RX7) (T := TX7) (N := 15) hx hb hts iw_X7_init_X7 tyX7 tyX7_ok nmX7 hown hK hP hD hS 0 rfl rfl 8 (by decide) (hts (.fieldLink RX7 41 "KingTable$Solver" "deeps" "[I") (by decide +kernel)) (fun _ h9 => h9) rfl (by decide +kernel) rfl rfl (Nat.le_of_ble_eq_true rfl) dX7_init_68 (fun H locs hP hD hS => ?_)
  have hP : va_P D vwCl [(h0, .inr (7, [.null, .ref q5, .ref q16, .ref q29, .ref q37, .ref q45, .ref q52, .ref q59, .ref q66, .null, .null, .int 0, .int 0, .int 0, .int 0])), (q5, .inr (8, [.ref sf_9, .ref sh_9, .int 0])), (sf_9, .inl (cI, 40, .inl (fun _ => (-1)))), (sh_9, .inl (cI, 81, .inl (fun _ => (-1)))), (q16, .inr (2, [.ref kh_20, .ref ks_20, .ref kn_20, .int 0])), (kh_20, .inl (cI, 0, .inl (fun _ => 0))), (ks_20, .inl (cI, 0, .inl (fun _ => 0))), (kn_20, .inl (cI, 0, .inl (fun _ => 0))), (q29, .inl (cI, 40, .inl (fun _ => 0))), (q37, .inl (cI, 40, .inl (fun _ => 0))), (q45, .inl (cI, 6, .inl (fun _ => 0))), (q52, .inl (cI, 2, .inl (fun _ => 0))), (q59, .inl (cI, 0, .inl (fun _ => 0))), (q66, .inl (cI, 0, .inl (fun _ => 0)))] H := hP
  have hD : va_D A [(h0, .inr (7, [.null, .ref q5, .ref q16, .ref q29, .ref q37, .ref q45, .ref q52, .ref q59, .ref q66, .null, .null, .int 0, .int 0, .int 0, .int 0])), (q5, .inr (8, [.ref sf_9, .ref sh_9, .int 0])), (sf_9, .inl (cI, 40, .inl (fun _ => (-1)))), (sh_9, .inl (cI, 81, .inl (fun _ => (-1)))), (q16, .inr (2, [.ref kh_20, .ref ks_20, .ref kn_20, .int 0])), (kh_20, .inl (cI, 0, .inl (fun _ => 0))), (ks_20, .inl (cI, 0, .inl (fun _ => 0))), (kn_20, .inl (cI, 0, .inl (fun _ => 0))), (q29, .inl (cI, 40, .inl (fun _ => 0))), (q37, .inl (cI, 40, .inl (fun _ => 0))), (q45, .inl (cI, 6, .inl (fun _ => 0))), (q52, .inl (cI, 2, .inl (fun _ => 0))), (q59, .inl (cI, 0, .inl (fun _ => 0))), (q66, .inl (cI, 0, .inl (fun _ => 0)))] := hD
  refine lv_aload_n hx hb dX7_init_71 rfl (lv_at hl 0 rfl) ?_
  refine lv_iconst (v := 0) hx hb dX7_init_72 (by decide) ?_
  refine kt_newa (atype := .int) (ty := .int) (cA := cI) hx hb (hts (.arrayClass .int) (by decide +kernel)) rfl hK hP hD hS hA 0 rfl (fun _ h => h) (N' := 0) (fun _ => rfl) (by decide) (by decide) (Nat.le_of_ble_eq_true rfl) (Nat.le_of_ble_eq_true rfl) (Nat.le_of_ble_eq_true rfl) dX7_init_73 (fun q73 H hP hD hS => ?_)
  have hP : va_P D vwCl [(h0, .inr (7, [.null, .ref q5, .ref q16, .ref q29, .ref q37, .ref q45, .ref q52, .ref q59, .ref q66, .null, .null, .int 0, .int 0, .int 0, .int 0])), (q5, .inr (8, [.ref sf_9, .ref sh_9, .int 0])), (sf_9, .inl (cI, 40, .inl (fun _ => (-1)))), (sh_9, .inl (cI, 81, .inl (fun _ => (-1)))), (q16, .inr (2, [.ref kh_20, .ref ks_20, .ref kn_20, .int 0])), (kh_20, .inl (cI, 0, .inl (fun _ => 0))), (ks_20, .inl (cI, 0, .inl (fun _ => 0))), (kn_20, .inl (cI, 0, .inl (fun _ => 0))), (q29, .inl (cI, 40, .inl (fun _ => 0))), (q37, .inl (cI, 40, .inl (fun _ => 0))), (q45, .inl (cI, 6, .inl (fun _ => 0))), (q52, .inl (cI, 2, .inl (fun _ => 0))), (q59, .inl (cI, 0, .inl (fun _ => 0))), (q66, .inl (cI, 0, .inl (fun _ => 0))), (q73, .inl (cI, 0, .inl (fun _ => 0)))] H := hP
  have hD : va_D A [(h0, .inr (7, [.null, .ref q5, .ref q16, .ref q29, .ref q37, .ref q45, .ref q52, .ref q59, .ref q66, .null, .null, .int 0, .int 0, .int 0, .int 0])), (q5, .inr (8, [.ref sf_9, .ref sh_9, .int 0])), (sf_9, .inl (cI, 40, .inl (fun _ => (-1)))), (sh_9, .inl (cI, 81, .inl (fun _ => (-1)))), (q16, .inr (2, [.ref kh_20, .ref ks_20, .ref kn_20, .int 0])), (kh_20, .inl (cI, 0, .inl (fun _ => 0))), (ks_20, .inl (cI, 0, .inl (fun _ => 0))), (kn_20, .inl (cI, 0, .inl (fun _ => 0))), (q29, .inl (cI, 40, .inl (fun _ => 0))), (q37, .inl (cI, 40, .inl (fun _ => 0))), (q45, .inl (cI, 6, .inl (fun _ => 0))), (q52, .inl (cI, 2, .inl (fun _ => 0))), (q59, .inl (cI, 0, .inl (fun _ => 0))), (q66, .inl (cI, 0, .inl (fun _ => 0))), (q73, .inl (cI, 0, .inl (fun _ => 0)))] := hD
  refine W.widen (k := 14) (n := 216) (Nat.le_of_ble_eq_true rfl) (Nat.le_of_ble_eq_true rfl) ?_
  refine va_put (D := D) (ci := 7) (v := .ref q73) (ty := .array .int) (C := RX7) (T := TX7) (N := 15) hx hb hts iw_X7_init_X7 tyX7 tyX7_ok nmX7 hown hK hP hD hS 0 rfl rfl 9 (by decide) (hts (.fieldLink RX7 44 "KingTable$Solver" "open" "[I") (by decide +kernel)) (fun _ h9 => h9) rfl (by decide +kernel) rfl rfl (Nat.le_of_ble_eq_true rfl) dX7_init_75 (fun H locs hP hD hS => ?_)
  have hP : va_P D vwCl [(h0, .inr (7, [.null, .ref q5, .ref q16, .ref q29, .ref q37, .ref q45, .ref q52, .ref q59, .ref q66, .ref q73, .null, .int 0, .int 0, .int 0, .int 0])), (q5, .inr (8, [.ref sf_9, .ref sh_9, .int 0])), (sf_9, .inl (cI, 40, .inl (fun _ => (-1)))), (sh_9, .inl (cI, 81, .inl (fun _ => (-1)))), (q16, .inr (2, [.ref kh_20, .ref ks_20, .ref kn_20, .int 0])), (kh_20, .inl (cI, 0, .inl (fun _ => 0))), (ks_20, .inl (cI, 0, .inl (fun _ => 0))), (kn_20, .inl (cI, 0, .inl (fun _ => 0))), (q29, .inl (cI, 40, .inl (fun _ => 0))), (q37, .inl (cI, 40, .inl (fun _ => 0))), (q45, .inl (cI, 6, .inl (fun _ => 0))), (q52, .inl (cI, 2, .inl (fun _ => 0))), (q59, .inl (cI, 0, .inl (fun _ => 0))), (q66, .inl (cI, 0, .inl (fun _ => 0))), (q73, .inl (cI, 0, .inl (fun _ => 0)))] H := hP
  have hD : va_D A [(h0, .inr (7, [.null, .ref q5, .ref q16, .ref q29, .ref q37, .ref q45, .ref q52, .ref q59, .ref q66, .ref q73, .null, .int 0, .int 0, .int 0, .int 0])), (q5, .inr (8, [.ref sf_9, .ref sh_9, .int 0])), (sf_9, .inl (cI, 40, .inl (fun _ => (-1)))), (sh_9, .inl (cI, 81, .inl (fun _ => (-1)))), (q16, .inr (2, [.ref kh_20, .ref ks_20, .ref kn_20, .int 0])), (kh_20, .inl (cI, 0, .inl (fun _ => 0))), (ks_20, .inl (cI, 0, .inl (fun _ => 0))), (kn_20, .inl (cI, 0, .inl (fun _ => 0))), (q29, .inl (cI, 40, .inl (fun _ => 0))), (q37, .inl (cI, 40, .inl (fun _ => 0))), (q45, .inl (cI, 6, .inl (fun _ => 0))), (q52, .inl (cI, 2, .inl (fun _ => 0))), (q59, .inl (cI, 0, .inl (fun _ => 0))), (q66, .inl (cI, 0, .inl (fun _ => 0))), (q73, .inl (cI, 0, .inl (fun _ => 0)))] := hD
  refine lv_aload_n hx hb dX7_init_78 rfl (lv_at hl 0 rfl) ?_
  refine lv_iconst (v := 0) hx hb dX7_init_79 (by decide) ?_
  refine kt_newa (atype := .int) (ty := .int) (cA := cI) hx hb (hts (.arrayClass .int) (by decide +kernel)) rfl hK hP hD hS hA 0 rfl (fun _ h => h) (N' := 0) (fun _ => rfl) (by decide) (by decide) (Nat.le_of_ble_eq_true rfl) (Nat.le_of_ble_eq_true rfl) (Nat.le_of_ble_eq_true rfl) dX7_init_80 (fun q80 H hP hD hS => ?_)
  have hP : va_P D vwCl [(h0, .inr (7, [.null, .ref q5, .ref q16, .ref q29, .ref q37, .ref q45, .ref q52, .ref q59, .ref q66, .ref q73, .null, .int 0, .int 0, .int 0, .int 0])), (q5, .inr (8, [.ref sf_9, .ref sh_9, .int 0])), (sf_9, .inl (cI, 40, .inl (fun _ => (-1)))), (sh_9, .inl (cI, 81, .inl (fun _ => (-1)))), (q16, .inr (2, [.ref kh_20, .ref ks_20, .ref kn_20, .int 0])), (kh_20, .inl (cI, 0, .inl (fun _ => 0))), (ks_20, .inl (cI, 0, .inl (fun _ => 0))), (kn_20, .inl (cI, 0, .inl (fun _ => 0))), (q29, .inl (cI, 40, .inl (fun _ => 0))), (q37, .inl (cI, 40, .inl (fun _ => 0))), (q45, .inl (cI, 6, .inl (fun _ => 0))), (q52, .inl (cI, 2, .inl (fun _ => 0))), (q59, .inl (cI, 0, .inl (fun _ => 0))), (q66, .inl (cI, 0, .inl (fun _ => 0))), (q73, .inl (cI, 0, .inl (fun _ => 0))), (q80, .inl (cI, 0, .inl (fun _ => 0)))] H := hP
  have hD : va_D A [(h0, .inr (7, [.null, .ref q5, .ref q16, .ref q29, .ref q37, .ref q45, .ref q52, .ref q59, .ref q66, .ref q73, .null, .int 0, .int 0, .int 0, .int 0])), (q5, .inr (8, [.ref sf_9, .ref sh_9, .int 0])), (sf_9, .inl (cI, 40, .inl (fun _ => (-1)))), (sh_9, .inl (cI, 81, .inl (fun _ => (-1)))), (q16, .inr (2, [.ref kh_20, .ref ks_20, .ref kn_20, .int 0])), (kh_20, .inl (cI, 0, .inl (fun _ => 0))), (ks_20, .inl (cI, 0, .inl (fun _ => 0))), (kn_20, .inl (cI, 0, .inl (fun _ => 0))), (q29, .inl (cI, 40, .inl (fun _ => 0))), (q37, .inl (cI, 40, .inl (fun _ => 0))), (q45, .inl (cI, 6, .inl (fun _ => 0))), (q52, .inl (cI, 2, .inl (fun _ => 0))), (q59, .inl (cI, 0, .inl (fun _ => 0))), (q66, .inl (cI, 0, .inl (fun _ => 0))), (q73, .inl (cI, 0, .inl (fun _ => 0))), (q80, .inl (cI, 0, .inl (fun _ => 0)))] := hD
  refine W.widen (k := 15) (n := 216) (Nat.le_of_ble_eq_true rfl) (Nat.le_of_ble_eq_true rfl) ?_
  refine va_put (D := D) (ci := 7) (v := .ref q80) (ty := .array .int) (C := RX7) (T := TX7) (N := 15) hx hb hts iw_X7_init_X7 tyX7 tyX7_ok nmX7 hown hK hP hD hS 0 rfl rfl 10 (by decide) (hts (.fieldLink RX7 47 "KingTable$Solver" "queue" "[I") (by decide +kernel)) (fun _ h9 => h9) rfl (by decide +kernel) rfl rfl (Nat.le_of_ble_eq_true rfl) dX7_init_82 (fun H locs hP hD hS => ?_)
  have hP : va_P D vwCl [(h0, .inr (7, [.null, .ref q5, .ref q16, .ref q29, .ref q37, .ref q45, .ref q52, .ref q59, .ref q66, .ref q73, .ref q80, .int 0, .int 0, .int 0, .int 0])), (q5, .inr (8, [.ref sf_9, .ref sh_9, .int 0])), (sf_9, .inl (cI, 40, .inl (fun _ => (-1)))), (sh_9, .inl (cI, 81, .inl (fun _ => (-1)))), (q16, .inr (2, [.ref kh_20, .ref ks_20, .ref kn_20, .int 0])), (kh_20, .inl (cI, 0, .inl (fun _ => 0))), (ks_20, .inl (cI, 0, .inl (fun _ => 0))), (kn_20, .inl (cI, 0, .inl (fun _ => 0))), (q29, .inl (cI, 40, .inl (fun _ => 0))), (q37, .inl (cI, 40, .inl (fun _ => 0))), (q45, .inl (cI, 6, .inl (fun _ => 0))), (q52, .inl (cI, 2, .inl (fun _ => 0))), (q59, .inl (cI, 0, .inl (fun _ => 0))), (q66, .inl (cI, 0, .inl (fun _ => 0))), (q73, .inl (cI, 0, .inl (fun _ => 0))), (q80, .inl (cI, 0, .inl (fun _ => 0)))] H := hP
  have hD : va_D A [(h0, .inr (7, [.null, .ref q5, .ref q16, .ref q29, .ref q37, .ref q45, .ref q52, .ref q59, .ref q66, .ref q73, .ref q80, .int 0, .int 0, .int 0, .int 0])), (q5, .inr (8, [.ref sf_9, .ref sh_9, .int 0])), (sf_9, .inl (cI, 40, .inl (fun _ => (-1)))), (sh_9, .inl (cI, 81, .inl (fun _ => (-1)))), (q16, .inr (2, [.ref kh_20, .ref ks_20, .ref kn_20, .int 0])), (kh_20, .inl (cI, 0, .inl (fun _ => 0))), (ks_20, .inl (cI, 0, .inl (fun _ => 0))), (kn_20, .inl (cI, 0, .inl (fun _ => 0))), (q29, .inl (cI, 40, .inl (fun _ => 0))), (q37, .inl (cI, 40, .inl (fun _ => 0))), (q45, .inl (cI, 6, .inl (fun _ => 0))), (q52, .inl (cI, 2, .inl (fun _ => 0))), (q59, .inl (cI, 0, .inl (fun _ => 0))), (q66, .inl (cI, 0, .inl (fun _ => 0))), (q73, .inl (cI, 0, .inl (fun _ => 0))), (q80, .inl (cI, 0, .inl (fun _ => 0)))] := hD
  refine lv_aload_n hx hb dX7_init_85 rfl (lv_at hl 0 rfl) ?_
  refine lv_aload_n hx hb dX7_init_86 rfl (lv_at hl 1 rfl) ?_
  refine va_putF (D := D) (ci := 7) (v := .ref ru) (ty := .object "KingTable$Rules") (C := RX7) (T := TX7) (N := 15) hx hb hts iw_X7_init_X7 tyX7 tyX7_ok nmX7 hown hK hP hD hS 0 rfl rfl 0 (by decide) (hts (.fieldLink RX7 50 "KingTable$Solver" "rules" "LKingTable$Rules;") (by decide +kernel)) (fun _ h9 => h9) rfl hnm rfl (by decide +kernel) rfl rfl (Nat.le_of_ble_eq_true rfl) dX7_init_87 (fun H locs hP hD hS => ?_)
  have hP : va_P D vwCl [(h0, .inr (7, [.ref ru, .ref q5, .ref q16, .ref q29, .ref q37, .ref q45, .ref q52, .ref q59, .ref q66, .ref q73, .ref q80, .int 0, .int 0, .int 0, .int 0])), (q5, .inr (8, [.ref sf_9, .ref sh_9, .int 0])), (sf_9, .inl (cI, 40, .inl (fun _ => (-1)))), (sh_9, .inl (cI, 81, .inl (fun _ => (-1)))), (q16, .inr (2, [.ref kh_20, .ref ks_20, .ref kn_20, .int 0])), (kh_20, .inl (cI, 0, .inl (fun _ => 0))), (ks_20, .inl (cI, 0, .inl (fun _ => 0))), (kn_20, .inl (cI, 0, .inl (fun _ => 0))), (q29, .inl (cI, 40, .inl (fun _ => 0))), (q37, .inl (cI, 40, .inl (fun _ => 0))), (q45, .inl (cI, 6, .inl (fun _ => 0))), (q52, .inl (cI, 2, .inl (fun _ => 0))), (q59, .inl (cI, 0, .inl (fun _ => 0))), (q66, .inl (cI, 0, .inl (fun _ => 0))), (q73, .inl (cI, 0, .inl (fun _ => 0))), (q80, .inl (cI, 0, .inl (fun _ => 0)))] H := hP
  have hD : va_D A [(h0, .inr (7, [.ref ru, .ref q5, .ref q16, .ref q29, .ref q37, .ref q45, .ref q52, .ref q59, .ref q66, .ref q73, .ref q80, .int 0, .int 0, .int 0, .int 0])), (q5, .inr (8, [.ref sf_9, .ref sh_9, .int 0])), (sf_9, .inl (cI, 40, .inl (fun _ => (-1)))), (sh_9, .inl (cI, 81, .inl (fun _ => (-1)))), (q16, .inr (2, [.ref kh_20, .ref ks_20, .ref kn_20, .int 0])), (kh_20, .inl (cI, 0, .inl (fun _ => 0))), (ks_20, .inl (cI, 0, .inl (fun _ => 0))), (kn_20, .inl (cI, 0, .inl (fun _ => 0))), (q29, .inl (cI, 40, .inl (fun _ => 0))), (q37, .inl (cI, 40, .inl (fun _ => 0))), (q45, .inl (cI, 6, .inl (fun _ => 0))), (q52, .inl (cI, 2, .inl (fun _ => 0))), (q59, .inl (cI, 0, .inl (fun _ => 0))), (q66, .inl (cI, 0, .inl (fun _ => 0))), (q73, .inl (cI, 0, .inl (fun _ => 0))), (q80, .inl (cI, 0, .inl (fun _ => 0)))] := hD
  refine W.widen (k := 15) (n := 216) (Nat.le_of_ble_eq_true rfl) (Nat.le_of_ble_eq_true rfl) ?_
  exact kt_rv (q5, sf_9, sh_9, q16, kh_20, ks_20, kn_20, q29, q37, q45, q52, q59, q66, q73, q80) hx hb hr hlk hS dX7_init_90 hP hD (by first | rfl | trivial | assumption | (simp_all; done) | grind)
end
section
set_option maxHeartbeats 4000000 in
set_option maxRecDepth 100000 in
theorem c_X9_isSpan (l : Launch) (D : va_G) (cI cZ cB : ClassId) (sz : Nat) (p0 : Int32) : kt_Mi l yX9_isSpan wsX9_isSpan { frames := 0, cells := 0, slots := 0, locals := 0 } D (kt_ty cI cZ cB) [.int p0] sz [] (fun (r : Int32) (u : Unit) => kt_B r (2 ≤ p0 ∧ p0 ≤ 9)) (fun (u : Unit) => []) 0 0 := by
  refine kt_Mi.of (cc := cX9_isSpan) (maxL := 1) (ret := some .boolean) (by decide) rfl (Nat.le_of_ble_eq_true rfl) ?_
  intro p e s m below meth c A ls H hAt hP hD hS hl
  obtain ⟨hx, hb, hr, hml, hown, hts, hN, hK, hlk, hnm, hA⟩ := hAt
  have hl : lv_has ls 1 [(0, .int p0)] := hl
  have hown : s.vm.findClass RX9 = some m.cls := hown
  refine lv_iload_n hx hb dX9_isSpan_0 rfl (lv_at hl 0 rfl) ?_
  refine lv_iconst (v := 2) hx hb dX9_isSpan_1 (by decide) ?_
  refine lv_icmp_lt (tgt := 15) hx hb dX9_isSpan_2 (by decide) (fun c_2 => ?_) (fun c_2 => ?_)
  · refine lv_iconst (v := 0) hx hb dX9_isSpan_15 (by decide) ?_
    exact kt_rz () hx hb hr hlk hS dX9_isSpan_16 hP hD (by first | exact Or.inl ⟨rfl, by (simp only [kt_lt, kt_le, kt_eq, kt_c0 , kt_c1 , kt_c2 , kt_c3 , kt_c4 , kt_c8 , kt_c9 , kt_cm1 , kt_c81 , kt_c40 , kt_c7 , kt_c5 , kt_c6] at *; omega)⟩ | exact Or.inr ⟨rfl, by (simp only [kt_lt, kt_le, kt_eq, kt_c0 , kt_c1 , kt_c2 , kt_c3 , kt_c4 , kt_c8 , kt_c9 , kt_cm1 , kt_c81 , kt_c40 , kt_c7 , kt_c5 , kt_c6] at *; omega)⟩) rfl
  · refine lv_iload_n hx hb dX9_isSpan_5 rfl (lv_at hl 0 rfl) ?_
    refine lv_bipush (v := 9) hx hb dX9_isSpan_6 (by decide) ?_
    refine lv_icmp_gt (tgt := 15) hx hb dX9_isSpan_8 (by decide) (fun c_8 => ?_) (fun c_8 => ?_)
    · refine lv_iconst (v := 0) hx hb dX9_isSpan_15 (by decide) ?_
      exact kt_rz () hx hb hr hlk hS dX9_isSpan_16 hP hD (by first | exact Or.inl ⟨rfl, by (simp only [kt_lt, kt_le, kt_eq, kt_c0 , kt_c1 , kt_c2 , kt_c3 , kt_c4 , kt_c8 , kt_c9 , kt_cm1 , kt_c81 , kt_c40 , kt_c7 , kt_c5 , kt_c6] at *; omega)⟩ | exact Or.inr ⟨rfl, by (simp only [kt_lt, kt_le, kt_eq, kt_c0 , kt_c1 , kt_c2 , kt_c3 , kt_c4 , kt_c8 , kt_c9 , kt_cm1 , kt_c81 , kt_c40 , kt_c7 , kt_c5 , kt_c6] at *; omega)⟩) rfl
    · refine lv_iconst (v := 1) hx hb dX9_isSpan_11 (by decide) ?_
      refine lv_goto (tgt := 16) hx hb dX9_isSpan_12 (by decide) ?_
      exact kt_rz () hx hb hr hlk hS dX9_isSpan_16 hP hD (by first | exact Or.inl ⟨rfl, by (simp only [kt_lt, kt_le, kt_eq, kt_c0 , kt_c1 , kt_c2 , kt_c3 , kt_c4 , kt_c8 , kt_c9 , kt_cm1 , kt_c81 , kt_c40 , kt_c7 , kt_c5 , kt_c6] at *; omega)⟩ | exact Or.inr ⟨rfl, by (simp only [kt_lt, kt_le, kt_eq, kt_c0 , kt_c1 , kt_c2 , kt_c3 , kt_c4 , kt_c8 , kt_c9 , kt_cm1 , kt_c81 , kt_c40 , kt_c7 , kt_c5 , kt_c6] at *; omega)⟩) rfl

set_option maxHeartbeats 4000000 in
set_option maxRecDepth 100000 in
theorem c_X11_isIn (l : Launch) (D : va_G) (cI cZ cB : ClassId) (sz : Nat) (p0 : Int32) (p1 : Int32) (p2 : Int32) : kt_Mi l yX11_isIn wsX11_isIn { frames := 0, cells := 0, slots := 0, locals := 0 } D (kt_ty cI cZ cB) [.int p0, .int p1, .int p2] sz [] (fun (r : Int32) (u : Unit) => kt_B r (p1 ≤ p0 ∧ p0 ≤ p2)) (fun (u : Unit) => []) 0 0 := by
  refine kt_Mi.of (cc := cX11_isIn) (maxL := 3) (ret := some .boolean) (by decide) rfl (Nat.le_of_ble_eq_true rfl) ?_
  intro p e s m below meth c A ls H hAt hP hD hS hl
  obtain ⟨hx, hb, hr, hml, hown, hts, hN, hK, hlk, hnm, hA⟩ := hAt
  have hl : lv_has ls 3 [(0, .int p0), (1, .int p1), (2, .int p2)] := hl
  have hown : s.vm.findClass RX11 = some m.cls := hown
  refine lv_iload_n hx hb dX11_isIn_0 rfl (lv_at hl 0 rfl) ?_
  refine lv_iload_n hx hb dX11_isIn_1 rfl (lv_at hl 1 rfl) ?_
  refine lv_icmp_lt (tgt := 14) hx hb dX11_isIn_2 (by decide) (fun c_2 => ?_) (fun c_2 => ?_)
  · refine lv_iconst (v := 0) hx hb dX11_isIn_14 (by decide) ?_
    exact kt_rz () hx hb hr hlk hS dX11_isIn_15 hP hD (by first | exact Or.inl ⟨rfl, by (simp only [kt_lt, kt_le, kt_eq, kt_c0 , kt_c1 , kt_c2 , kt_c3 , kt_c4 , kt_c8 , kt_c9 , kt_cm1 , kt_c81 , kt_c40 , kt_c7 , kt_c5 , kt_c6] at *; omega)⟩ | exact Or.inr ⟨rfl, by (simp only [kt_lt, kt_le, kt_eq, kt_c0 , kt_c1 , kt_c2 , kt_c3 , kt_c4 , kt_c8 , kt_c9 , kt_cm1 , kt_c81 , kt_c40 , kt_c7 , kt_c5 , kt_c6] at *; omega)⟩) rfl
  · refine lv_iload_n hx hb dX11_isIn_5 rfl (lv_at hl 0 rfl) ?_
    refine lv_iload_n hx hb dX11_isIn_6 rfl (lv_at hl 2 rfl) ?_
    refine lv_icmp_gt (tgt := 14) hx hb dX11_isIn_7 (by decide) (fun c_7 => ?_) (fun c_7 => ?_)
    · refine lv_iconst (v := 0) hx hb dX11_isIn_14 (by decide) ?_
      exact kt_rz () hx hb hr hlk hS dX11_isIn_15 hP hD (by first | exact Or.inl ⟨rfl, by (simp only [kt_lt, kt_le, kt_eq, kt_c0 , kt_c1 , kt_c2 , kt_c3 , kt_c4 , kt_c8 , kt_c9 , kt_cm1 , kt_c81 , kt_c40 , kt_c7 , kt_c5 , kt_c6] at *; omega)⟩ | exact Or.inr ⟨rfl, by (simp only [kt_lt, kt_le, kt_eq, kt_c0 , kt_c1 , kt_c2 , kt_c3 , kt_c4 , kt_c8 , kt_c9 , kt_cm1 , kt_c81 , kt_c40 , kt_c7 , kt_c5 , kt_c6] at *; omega)⟩) rfl
    · refine lv_iconst (v := 1) hx hb dX11_isIn_10 (by decide) ?_
      refine lv_goto (tgt := 15) hx hb dX11_isIn_11 (by decide) ?_
      exact kt_rz () hx hb hr hlk hS dX11_isIn_15 hP hD (by first | exact Or.inl ⟨rfl, by (simp only [kt_lt, kt_le, kt_eq, kt_c0 , kt_c1 , kt_c2 , kt_c3 , kt_c4 , kt_c8 , kt_c9 , kt_cm1 , kt_c81 , kt_c40 , kt_c7 , kt_c5 , kt_c6] at *; omega)⟩ | exact Or.inr ⟨rfl, by (simp only [kt_lt, kt_le, kt_eq, kt_c0 , kt_c1 , kt_c2 , kt_c3 , kt_c4 , kt_c8 , kt_c9 , kt_cm1 , kt_c81 , kt_c40 , kt_c7 , kt_c5 , kt_c6] at *; omega)⟩) rfl

set_option maxHeartbeats 4000000 in
set_option maxRecDepth 100000 in
theorem c_X10_isSide (l : Launch) (D : va_G) (cI cZ cB : ClassId) (sz : Nat) (p0 : Int32) : kt_Mi l yX10_isSide wsX10_isSide { frames := 0, cells := 0, slots := 0, locals := 0 } D (kt_ty cI cZ cB) [.int p0] sz [] (fun (r : Int32) (u : Unit) => kt_B r (p0 = 0 ∨ p0 = 1)) (fun (u : Unit) => []) 0 0 := by
  refine kt_Mi.of (cc := cX10_isSide) (maxL := 1) (ret := some .boolean) (by decide) rfl (Nat.le_of_ble_eq_true rfl) ?_
  intro p e s m below meth c A ls H hAt hP hD hS hl
  obtain ⟨hx, hb, hr, hml, hown, hts, hN, hK, hlk, hnm, hA⟩ := hAt
  have hl : lv_has ls 1 [(0, .int p0)] := hl
  have hown : s.vm.findClass RX10 = some m.cls := hown
  refine lv_iload_n hx hb dX10_isSide_0 rfl (lv_at hl 0 rfl) ?_
  refine lv_if_eq (tgt := 9) hx hb dX10_isSide_1 (by decide) (fun c_1 => ?_) (fun c_1 => ?_)
  · refine lv_iconst (v := 1) hx hb dX10_isSide_9 (by decide) ?_
    refine lv_goto (tgt := 14) hx hb dX10_isSide_10 (by decide) ?_
    exact kt_rz () hx hb hr hlk hS dX10_isSide_14 hP hD (by first | exact Or.inl ⟨rfl, by (simp only [kt_lt, kt_le, kt_eq, kt_c0 , kt_c1 , kt_c2 , kt_c3 , kt_c4 , kt_c8 , kt_c9 , kt_cm1 , kt_c81 , kt_c40 , kt_c7 , kt_c5 , kt_c6] at *; omega)⟩ | exact Or.inr ⟨rfl, by (simp only [kt_lt, kt_le, kt_eq, kt_c0 , kt_c1 , kt_c2 , kt_c3 , kt_c4 , kt_c8 , kt_c9 , kt_cm1 , kt_c81 , kt_c40 , kt_c7 , kt_c5 , kt_c6] at *; omega)⟩) rfl
  · refine lv_iload_n hx hb dX10_isSide_4 rfl (lv_at hl 0 rfl) ?_
    refine lv_iconst (v := 1) hx hb dX10_isSide_5 (by decide) ?_
    refine lv_icmp_ne (tgt := 13) hx hb dX10_isSide_6 (by decide) (fun c_6 => ?_) (fun c_6 => ?_)
    · refine lv_iconst (v := 0) hx hb dX10_isSide_13 (by decide) ?_
      exact kt_rz () hx hb hr hlk hS dX10_isSide_14 hP hD (by first | exact Or.inl ⟨rfl, by (simp only [kt_lt, kt_le, kt_eq, kt_c0 , kt_c1 , kt_c2 , kt_c3 , kt_c4 , kt_c8 , kt_c9 , kt_cm1 , kt_c81 , kt_c40 , kt_c7 , kt_c5 , kt_c6] at *; omega)⟩ | exact Or.inr ⟨rfl, by (simp only [kt_lt, kt_le, kt_eq, kt_c0 , kt_c1 , kt_c2 , kt_c3 , kt_c4 , kt_c8 , kt_c9 , kt_cm1 , kt_c81 , kt_c40 , kt_c7 , kt_c5 , kt_c6] at *; omega)⟩) rfl
    · refine lv_iconst (v := 1) hx hb dX10_isSide_9 (by decide) ?_
      refine lv_goto (tgt := 14) hx hb dX10_isSide_10 (by decide) ?_
      exact kt_rz () hx hb hr hlk hS dX10_isSide_14 hP hD (by first | exact Or.inl ⟨rfl, by (simp only [kt_lt, kt_le, kt_eq, kt_c0 , kt_c1 , kt_c2 , kt_c3 , kt_c4 , kt_c8 , kt_c9 , kt_cm1 , kt_c81 , kt_c40 , kt_c7 , kt_c5 , kt_c6] at *; omega)⟩ | exact Or.inr ⟨rfl, by (simp only [kt_lt, kt_le, kt_eq, kt_c0 , kt_c1 , kt_c2 , kt_c3 , kt_c4 , kt_c8 , kt_c9 , kt_cm1 , kt_c81 , kt_c40 , kt_c7 , kt_c5 , kt_c6] at *; omega)⟩) rfl

set_option maxHeartbeats 4000000 in
set_option maxRecDepth 100000 in
theorem f_X10_kindOfSign (l : Launch) (D : va_G) (cI cZ cB : ClassId) (sz : Nat) : kt_Mi l yX10_kindOfSign wsX10_kindOfSign { frames := 0, cells := 0, slots := 0, locals := 0 } D (kt_ty cI cZ cB) [.int 0] sz [] (fun (r : Int32) (u : Unit) => r = 0) (fun (u : Unit) => []) 0 0 := by
  refine kt_Mi.of (cc := cX10_kindOfSign) (maxL := 1) (ret := some .int) (by decide) rfl (Nat.le_of_ble_eq_true rfl) ?_
  intro p e s m below meth c A ls H hAt hP hD hS hl
  obtain ⟨hx, hb, hr, hml, hown, hts, hN, hK, hlk, hnm, hA⟩ := hAt
  have hl : lv_has ls 1 [(0, .int 0)] := hl
  have hown : s.vm.findClass RX10 = some m.cls := hown
  refine lv_iload_n hx hb dX10_kindOfSign_0 rfl (lv_at hl 0 rfl) ?_
  refine lv_bipush (v := 7) hx hb dX10_kindOfSign_1 (by decide) ?_
  refine lv_icmp_ne (tgt := 8) hx hb dX10_kindOfSign_3 (by decide) (fun c_3 => ?_) (fun c_3 => absurd c_3 (by decide))
  refine lv_iload_n hx hb dX10_kindOfSign_8 rfl (lv_at hl 0 rfl) ?_
  refine lv_iconst (v := 1) hx hb dX10_kindOfSign_9 (by decide) ?_
  refine lv_icmp_lt (tgt := 22) hx hb dX10_kindOfSign_10 (by decide) (fun c_10 => ?_) (fun c_10 => absurd c_10 (by decide))
  refine lv_iconst (v := 0) hx hb dX10_kindOfSign_22 (by decide) ?_
  exact kt_ri () hx hb hr hlk hS dX10_kindOfSign_23 hP hD (by rfl)

set_option maxHeartbeats 4000000 in
set_option maxRecDepth 100000 in
theorem f_X10_typeOfSign (l : Launch) (D : va_G) (cI cZ cB : ClassId) (sz : Nat) : kt_Mi l yX10_typeOfSign wsX10_typeOfSign { frames := 0, cells := 0, slots := 0, locals := 0 } D (kt_ty cI cZ cB) [.int 0] sz [] (fun (r : Int32) (u : Unit) => r = 0) (fun (u : Unit) => []) 0 0 := by
  refine kt_Mi.of (cc := cX10_typeOfSign) (maxL := 1) (ret := some .int) (by decide) rfl (Nat.le_of_ble_eq_true rfl) ?_
  intro p e s m below meth c A ls H hAt hP hD hS hl
  obtain ⟨hx, hb, hr, hml, hown, hts, hN, hK, hlk, hnm, hA⟩ := hAt
  have hl : lv_has ls 1 [(0, .int 0)] := hl
  have hown : s.vm.findClass RX10 = some m.cls := hown
  refine lv_iload_n hx hb dX10_typeOfSign_0 rfl (lv_at hl 0 rfl) ?_
  refine lv_iconst (v := 5) hx hb dX10_typeOfSign_1 (by decide) ?_
  refine lv_icmp_eq (tgt := 11) hx hb dX10_typeOfSign_2 (by decide) (fun c_2 => absurd c_2 (by decide)) (fun c_2 => ?_)
  refine lv_iload_n hx hb dX10_typeOfSign_5 rfl (lv_at hl 0 rfl) ?_
  refine lv_bipush (v := 7) hx hb dX10_typeOfSign_6 (by decide) ?_
  refine lv_icmp_ne (tgt := 13) hx hb dX10_typeOfSign_8 (by decide) (fun c_8 => ?_) (fun c_8 => absurd c_8 (by decide))
  refine lv_iload_n hx hb dX10_typeOfSign_13 rfl (lv_at hl 0 rfl) ?_
  refine lv_bipush (v := 6) hx hb dX10_typeOfSign_14 (by decide) ?_
  refine lv_icmp_ne (tgt := 23) hx hb dX10_typeOfSign_16 (by decide) (fun c_16 => ?_) (fun c_16 => absurd c_16 (by decide))
  refine lv_iconst (v := 0) hx hb dX10_typeOfSign_23 (by decide) ?_
  exact kt_ri () hx hb hr hlk hS dX10_typeOfSign_24 hP hD (by rfl)

theorem iw_X9_size_X9 : ∀ w ∈ wsX90, w ∈ wsX9_size := by decide +kernel
set_option maxHeartbeats 4000000 in
set_option maxRecDepth 100000 in
theorem f_X9_size (l : Launch) (D : va_G) (cI cZ cB : ClassId) (sz : Nat) (to : Nat) (sg : Nat) : kt_Mi l yX9_size wsX9_size { frames := 0, cells := 0, slots := 0, locals := 0 } D (kt_ty cI cZ cB) [.ref to] sz [(to, .inr (9, [.ref sg, .int 3, .int 3]))] (fun (r : Int32) (u : Unit) => r = 9) (fun (u : Unit) => [(to, .inr (9, [.ref sg, .int 3, .int 3]))]) 0 0 := by
  refine kt_Mi.of (cc := cX9_size) (maxL := 1) (ret := some .int) (by decide) rfl (Nat.le_of_ble_eq_true rfl) ?_
  intro p e s m below meth c A ls H hAt hP hD hS hl
  obtain ⟨hx, hb, hr, hml, hown, hts, hN, hK, hlk, hnm, hA⟩ := hAt
  have hl : lv_has ls 1 [(0, .ref to)] := hl
  have hown : s.vm.findClass RX9 = some m.cls := hown
  refine lv_aload_n hx hb dX9_size_0 rfl (lv_at hl 0 rfl) ?_
  refine va_get (D := D) (ci := 9) (C := RX9) (T := TX9) (N := 3) hx hb hts iw_X9_size_X9 hown hK hP 0 rfl rfl 1 (by decide) (hts (.fieldLink RX9 15 "KingTable$Told" "lines" "I") (by decide +kernel)) (fun _ h9 => h9) rfl dX9_size_1 ?_
  refine lv_aload_n hx hb dX9_size_4 rfl (lv_at hl 0 rfl) ?_
  refine va_get (D := D) (ci := 9) (C := RX9) (T := TX9) (N := 3) hx hb hts iw_X9_size_X9 hown hK hP 0 rfl rfl 2 (by decide) (hts (.fieldLink RX9 19 "KingTable$Told" "width" "I") (by decide +kernel)) (fun _ h9 => h9) rfl dX9_size_5 ?_
  refine lv_imul hx hb dX9_size_8 ?_
  refine W.eq (g2 := F0 m 9 ls (.int 9 :: [])) rfl ?_
  exact kt_ri () hx hb hr hlk hS dX9_size_9 hP hD (by rfl)

theorem iw_X4_isThere_X4 : ∀ w ∈ wsX40, w ∈ wsX4_isThere := by decide +kernel
set_option maxHeartbeats 4000000 in
set_option maxRecDepth 100000 in
theorem f_X4_isThere (l : Launch) (D : va_G) (cI cZ cB : ClassId) (sz : Nat) (pl : Nat) (la : Nat) (ru : Nat) (nw : Nat) (lo : Nat) : kt_Mi l yX4_isThere wsX4_isThere { frames := 0, cells := 0, slots := 0, locals := 0 } D (kt_ty cI cZ cB) [.ref pl] sz [(pl, .inr (4, [.ref la, .ref ru, .ref nw, .ref lo, .int 0]))] (fun (r : Int32) (u : Unit) => r = 0) (fun (u : Unit) => [(pl, .inr (4, [.ref la, .ref ru, .ref nw, .ref lo, .int 0]))]) 0 0 := by
  refine kt_Mi.of (cc := cX4_isThere) (maxL := 1) (ret := some .boolean) (by decide) rfl (Nat.le_of_ble_eq_true rfl) ?_
  intro p e s m below meth c A ls H hAt hP hD hS hl
  obtain ⟨hx, hb, hr, hml, hown, hts, hN, hK, hlk, hnm, hA⟩ := hAt
  have hl : lv_has ls 1 [(0, .ref pl)] := hl
  have hown : s.vm.findClass RX4 = some m.cls := hown
  refine lv_aload_n hx hb dX4_isThere_0 rfl (lv_at hl 0 rfl) ?_
  refine va_get (D := D) (ci := 4) (C := RX4) (T := TX4) (N := 5) hx hb hts iw_X4_isThere_X4 hown hK hP 0 rfl rfl 4 (by decide) (hts (.fieldLink RX4 25 "KingTable$Play" "state" "I") (by decide +kernel)) (fun _ h9 => h9) rfl dX4_isThere_1 ?_
  refine lv_if_eq (tgt := 11) hx hb dX4_isThere_4 (by decide) (fun c_4 => ?_) (fun c_4 => absurd c_4 (by decide))
  refine lv_iconst (v := 0) hx hb dX4_isThere_11 (by decide) ?_
  exact kt_rz () hx hb hr hlk hS dX4_isThere_12 hP hD (by rfl) rfl

theorem iw_X4_sideOnTurn_X4 : ∀ w ∈ wsX40, w ∈ wsX4_sideOnTurn := by decide +kernel
set_option maxHeartbeats 4000000 in
set_option maxRecDepth 100000 in
theorem f_X4_sideOnTurn (l : Launch) (D : va_G) (cI cZ cB : ClassId) (sz : Nat) (pl : Nat) (la : Nat) (ru : Nat) (nw : Nat) (lo : Nat) : kt_Mi l yX4_sideOnTurn wsX4_sideOnTurn { frames := 0, cells := 0, slots := 0, locals := 0 } D (kt_ty cI cZ cB) [.ref pl] sz [(pl, .inr (4, [.ref la, .ref ru, .ref nw, .ref lo, .int 0]))] (fun (r : Int32) (u : Unit) => r = (-1)) (fun (u : Unit) => [(pl, .inr (4, [.ref la, .ref ru, .ref nw, .ref lo, .int 0]))]) 0 0 := by
  refine kt_Mi.of (cc := cX4_sideOnTurn) (maxL := 1) (ret := some .int) (by decide) rfl (Nat.le_of_ble_eq_true rfl) ?_
  intro p e s m below meth c A ls H hAt hP hD hS hl
  obtain ⟨hx, hb, hr, hml, hown, hts, hN, hK, hlk, hnm, hA⟩ := hAt
  have hl : lv_has ls 1 [(0, .ref pl)] := hl
  have hown : s.vm.findClass RX4 = some m.cls := hown
  refine lv_aload_n hx hb dX4_sideOnTurn_0 rfl (lv_at hl 0 rfl) ?_
  refine va_get (D := D) (ci := 4) (C := RX4) (T := TX4) (N := 5) hx hb hts iw_X4_sideOnTurn_X4 hown hK hP 0 rfl rfl 4 (by decide) (hts (.fieldLink RX4 25 "KingTable$Play" "state" "I") (by decide +kernel)) (fun _ h9 => h9) rfl dX4_sideOnTurn_1 ?_
  refine lv_iconst (v := 1) hx hb dX4_sideOnTurn_4 (by decide) ?_
  refine lv_icmp_ne (tgt := 18) hx hb dX4_sideOnTurn_5 (by decide) (fun c_5 => ?_) (fun c_5 => absurd c_5 (by decide))
  refine lv_iconst (v := (-1)) hx hb dX4_sideOnTurn_18 (by decide) ?_
  exact kt_ri () hx hb hr hlk hS dX4_sideOnTurn_19 hP hD (by rfl)

theorem iw_X3_latestTakings_X3 : ∀ w ∈ wsX30, w ∈ wsX3_latestTakings := by decide +kernel
set_option maxHeartbeats 4000000 in
set_option maxRecDepth 100000 in
theorem f_X3_latestTakings (l : Launch) (D : va_G) (cI cZ cB : ClassId) (sz : Nat) (lo : Nat) (l0 : Nat) (l1 : Nat) (l2 : Nat) (l3 : Nat) (l4 : Nat) (l5 : Nat) (l6 : Nat) : kt_Mi l yX3_latestTakings wsX3_latestTakings { frames := 0, cells := 0, slots := 0, locals := 0 } D (kt_ty cI cZ cB) [.ref lo] sz [(lo, .inr (3, [.ref l0, .ref l1, .ref l2, .ref l3, .ref l4, .ref l5, .ref l6, .int 0, .int 0]))] (fun (r : Int32) (u : Unit) => r = (-1)) (fun (u : Unit) => [(lo, .inr (3, [.ref l0, .ref l1, .ref l2, .ref l3, .ref l4, .ref l5, .ref l6, .int 0, .int 0]))]) 0 0 := by
  refine kt_Mi.of (cc := cX3_latestTakings) (maxL := 1) (ret := some .int) (by decide) rfl (Nat.le_of_ble_eq_true rfl) ?_
  intro p e s m below meth c A ls H hAt hP hD hS hl
  obtain ⟨hx, hb, hr, hml, hown, hts, hN, hK, hlk, hnm, hA⟩ := hAt
  have hl : lv_has ls 1 [(0, .ref lo)] := hl
  have hown : s.vm.findClass RX3 = some m.cls := hown
  refine lv_aload_n hx hb dX3_latestTakings_0 rfl (lv_at hl 0 rfl) ?_
  refine va_get (D := D) (ci := 3) (C := RX3) (T := TX3) (N := 9) hx hb hts iw_X3_latestTakings_X3 hown hK hP 0 rfl rfl 7 (by decide) (hts (.fieldLink RX3 33 "KingTable$Log" "done" "I") (by decide +kernel)) (fun _ h9 => h9) rfl dX3_latestTakings_1 ?_
  refine lv_if_le (tgt := 21) hx hb dX3_latestTakings_4 (by decide) (fun c_4 => ?_) (fun c_4 => absurd c_4 (by decide))
  refine lv_iconst (v := (-1)) hx hb dX3_latestTakings_21 (by decide) ?_
  exact kt_ri () hx hb hr hlk hS dX3_latestTakings_22 hP hD (by rfl)

theorem iw_X3_latestVictim_X3 : ∀ w ∈ wsX30, w ∈ wsX3_latestVictim := by decide +kernel
set_option maxHeartbeats 4000000 in
set_option maxRecDepth 100000 in
theorem f_X3_latestVictim (l : Launch) (D : va_G) (cI cZ cB : ClassId) (sz : Nat) (lo : Nat) (l0 : Nat) (l1 : Nat) (l2 : Nat) (l3 : Nat) (l4 : Nat) (l5 : Nat) (l6 : Nat) (p0 : Int32) : kt_Mi l yX3_latestVictim wsX3_latestVictim { frames := 0, cells := 0, slots := 0, locals := 0 } D (kt_ty cI cZ cB) [.ref lo, .int p0] sz [(lo, .inr (3, [.ref l0, .ref l1, .ref l2, .ref l3, .ref l4, .ref l5, .ref l6, .int 0, .int 0]))] (fun (r : Int32) (u : Unit) => r = (-1)) (fun (u : Unit) => [(lo, .inr (3, [.ref l0, .ref l1, .ref l2, .ref l3, .ref l4, .ref l5, .ref l6, .int 0, .int 0]))]) 0 0 := by
  refine kt_Mi.of (cc := cX3_latestVictim) (maxL := 3) (ret := some .int) (by decide) rfl (Nat.le_of_ble_eq_true rfl) ?_
  intro p e s m below meth c A ls H hAt hP hD hS hl
  obtain ⟨hx, hb, hr, hml, hown, hts, hN, hK, hlk, hnm, hA⟩ := hAt
  have hl : lv_has ls 3 [(0, .ref lo), (1, .int p0)] := hl
  have hown : s.vm.findClass RX3 = some m.cls := hown
  refine lv_aload_n hx hb dX3_latestVictim_0 rfl (lv_at hl 0 rfl) ?_
  refine va_get (D := D) (ci := 3) (C := RX3) (T := TX3) (N := 9) hx hb hts iw_X3_latestVictim_X3 hown hK hP 0 rfl rfl 7 (by decide) (hts (.fieldLink RX3 33 "KingTable$Log" "done" "I") (by decide +kernel)) (fun _ h9 => h9) rfl dX3_latestVictim_1 ?_
  refine lv_if_le (tgt := 30) hx hb dX3_latestVictim_4 (by decide) (fun c_4 => ?_) (fun c_4 => absurd c_4 (by decide))
  refine lv_iconst (v := 0) hx hb dX3_latestVictim_30 (by decide) ?_
  refine lv_istore_n (lv' := [(2, .int 0), (0, .ref lo), (1, .int p0)]) hx hb dX3_latestVictim_31 rfl hl (by decide) rfl (fun ls hl => ?_)
  refine lv_iload_n hx hb dX3_latestVictim_32 rfl (lv_at hl 0 rfl) ?_
  refine lv_if_eq (tgt := 54) hx hb dX3_latestVictim_33 (by decide) (fun c_33 => ?_) (fun c_33 => absurd c_33 (by decide))
  refine lv_iconst (v := (-1)) hx hb dX3_latestVictim_54 (by decide) ?_
  exact kt_ri () hx hb hr hlk hS dX3_latestVictim_55 hP hD (by rfl)

theorem iw_X4_lost_X4 : ∀ w ∈ wsX40, w ∈ wsX4_lost := by decide +kernel
theorem iw_X4_lost_X6 : ∀ w ∈ wsX60, w ∈ wsX4_lost := by decide +kernel
set_option maxHeartbeats 4000000 in
set_option maxRecDepth 100000 in
theorem f_X4_lost (l : Launch) (D : va_G) (cI cZ cB : ClassId) (sz : Nat) (pl : Nat) (la : Nat) (ru : Nat) (nw : Nat) (lo : Nat) (gr : Nat) (rk : Nat) (rs : Nat) (rt : Nat) (rv : Nat) : kt_Mi l yX4_lost wsX4_lost { frames := 0, cells := 0, slots := 0, locals := 0 } D (kt_ty cI cZ cB) [.ref pl] sz [(pl, .inr (4, [.ref la, .ref ru, .ref nw, .ref lo, .int 0])), (ru, .inr (6, [.ref la, .ref gr, .ref rk, .ref rs, .ref rt, .int 0, .int (-1), .ref rv, .int 0]))] (fun (r : Int32) (u : Unit) => r = 0) (fun (u : Unit) => [(pl, .inr (4, [.ref la, .ref ru, .ref nw, .ref lo, .int 0])), (ru, .inr (6, [.ref la, .ref gr, .ref rk, .ref rs, .ref rt, .int 0, .int (-1), .ref rv, .int 0]))]) 0 0 := by
  refine kt_Mi.of (cc := cX4_lost) (maxL := 3) (ret := some .int) (by decide) rfl (Nat.le_of_ble_eq_true rfl) ?_
  intro p e s m below meth c A ls H hAt hP hD hS hl
  obtain ⟨hx, hb, hr, hml, hown, hts, hN, hK, hlk, hnm, hA⟩ := hAt
  have hl : lv_has ls 3 [(0, .ref pl)] := hl
  have hown : s.vm.findClass RX4 = some m.cls := hown
  refine lv_iconst (v := 0) hx hb dX4_lost_0 (by decide) ?_
  refine lv_istore_n (lv' := [(1, .int 0), (0, .ref pl)]) hx hb dX4_lost_1 rfl hl (by decide) rfl (fun ls hl => ?_)
  refine lv_iconst (v := 0) hx hb dX4_lost_2 (by decide) ?_
  refine lv_istore_n (lv' := [(2, .int 0), (1, .int 0), (0, .ref pl)]) hx hb dX4_lost_3 rfl hl (by decide) rfl (fun ls hl => ?_)
  refine lv_iload_n hx hb dX4_lost_4 rfl (lv_at hl 0 rfl) ?_
  refine lv_aload_n hx hb dX4_lost_5 rfl (lv_at hl 2 rfl) ?_
  refine va_get (D := D) (ci := 4) (C := RX4) (T := TX4) (N := 5) hx hb hts iw_X4_lost_X4 hown hK hP 0 rfl rfl 1 (by decide) (hts (.fieldLink RX4 33 "KingTable$Play" "rules" "LKingTable$Rules;") (by decide +kernel)) (fun _ h9 => h9) rfl dX4_lost_6 ?_
  refine va_getN (D := D) (ci := 6) (C := RX6) (T := TX6) (N := 9) hx hb hts iw_X4_lost_X6 hown hK hP 1 rfl rfl 5 (by decide) (va_Nw.use (w := .fieldLinkNest RX4 71 "KingTable$Rules" "total" "I" "KingTable") rfl (hN _ (by decide +kernel))) (fun _ h9 => h9) rfl dX4_lost_9 ?_
  refine lv_icmp_ge (tgt := 41) hx hb dX4_lost_12 (by decide) (fun c_12 => ?_) (fun c_12 => absurd c_12 (by decide))
  refine lv_iload_n hx hb dX4_lost_41 rfl (lv_at hl 1 rfl) ?_
  exact kt_ri () hx hb hr hlk hS dX4_lost_42 hP hD (by rfl)

theorem iw_X6_isPiece_X6 : ∀ w ∈ wsX60, w ∈ wsX6_isPiece := by decide +kernel
set_option maxHeartbeats 4000000 in
set_option maxRecDepth 100000 in
theorem f_X6_isPiece (l : Launch) (D : va_G) (cI cZ cB : ClassId) (sz : Nat) (ru : Nat) (la : Nat) (gr : Nat) (rk : Nat) (rs : Nat) (rt : Nat) (rv : Nat) (p0 : Int32) : kt_Mi l yX6_isPiece wsX6_isPiece { frames := 0, cells := 0, slots := 0, locals := 0 } D (kt_ty cI cZ cB) [.ref ru, .int p0] sz [(ru, .inr (6, [.ref la, .ref gr, .ref rk, .ref rs, .ref rt, .int 0, .int (-1), .ref rv, .int 0]))] (fun (r : Int32) (u : Unit) => r = 0) (fun (u : Unit) => [(ru, .inr (6, [.ref la, .ref gr, .ref rk, .ref rs, .ref rt, .int 0, .int (-1), .ref rv, .int 0]))]) 0 0 := by
  refine kt_Mi.of (cc := cX6_isPiece) (maxL := 2) (ret := some .boolean) (by decide) rfl (Nat.le_of_ble_eq_true rfl) ?_
  intro p e s m below meth c A ls H hAt hP hD hS hl
  obtain ⟨hx, hb, hr, hml, hown, hts, hN, hK, hlk, hnm, hA⟩ := hAt
  have hl : lv_has ls 2 [(0, .ref ru), (1, .int p0)] := hl
  have hown : s.vm.findClass RX6 = some m.cls := hown
  refine lv_iload_n hx hb dX6_isPiece_0 rfl (lv_at hl 1 rfl) ?_
  refine lv_if_lt (tgt := 16) hx hb dX6_isPiece_1 (by decide) (fun c_1 => ?_) (fun c_1 => ?_)
  · refine lv_iconst (v := 0) hx hb dX6_isPiece_16 (by decide) ?_
    exact kt_rz () hx hb hr hlk hS dX6_isPiece_17 hP hD (by rfl) rfl
  · refine lv_iload_n hx hb dX6_isPiece_4 rfl (lv_at hl 1 rfl) ?_
    refine lv_aload_n hx hb dX6_isPiece_5 rfl (lv_at hl 0 rfl) ?_
    refine va_get (D := D) (ci := 6) (C := RX6) (T := TX6) (N := 9) hx hb hts iw_X6_isPiece_X6 hown hK hP 0 rfl rfl 5 (by decide) (hts (.fieldLink RX6 40 "KingTable$Rules" "total" "I") (by decide +kernel)) (fun _ h9 => h9) rfl dX6_isPiece_6 ?_
    refine lv_icmp_ge (tgt := 16) hx hb dX6_isPiece_9 (by decide) (fun c_9 => ?_) (fun c_9 => (by exfalso; exact c_9 (Int32.not_lt.mp c_1)))
    refine lv_iconst (v := 0) hx hb dX6_isPiece_16 (by decide) ?_
    exact kt_rz () hx hb hr hlk hS dX6_isPiece_17 hP hD (by rfl) rfl

theorem iw_X8_holderOf_X8 : ∀ w ∈ wsX80, w ∈ wsX8_holderOf := by decide +kernel
set_option maxHeartbeats 4000000 in
set_option maxRecDepth 100000 in
theorem c_X8_holderOf (l : Launch) (D : va_G) (cI cZ cB : ClassId) (sz : Nat) (nw : Nat) (sf : Nat) (sh : Nat) (tu : Int32) (fh : Nat → Int32) (p0 : Int32) : kt_Mi l yX8_holderOf wsX8_holderOf { frames := 0, cells := 0, slots := 0, locals := 0 } D (kt_ty cI cZ cB) [.ref nw, .int p0] sz [(nw, .inr (8, [.ref sf, .ref sh, .int tu])), (sh, .inl (cI, 81, .inl fh))] (fun (r : Int32) (u : Unit) => r = if 0 ≤ p0 ∧ p0 < 81 then fh p0.toNatClampNeg else -1) (fun (u : Unit) => [(nw, .inr (8, [.ref sf, .ref sh, .int tu])), (sh, .inl (cI, 81, .inl fh))]) 0 0 := by
  refine kt_Mi.of (cc := cX8_holderOf) (maxL := 2) (ret := some .int) (by decide) rfl (Nat.le_of_ble_eq_true rfl) ?_
  intro p e s m below meth c A ls H hAt hP hD hS hl
  obtain ⟨hx, hb, hr, hml, hown, hts, hN, hK, hlk, hnm, hA⟩ := hAt
  have hl : lv_has ls 2 [(0, .ref nw), (1, .int p0)] := hl
  have hown : s.vm.findClass RX8 = some m.cls := hown
  refine lv_iload_n hx hb dX8_holderOf_0 rfl (lv_at hl 1 rfl) ?_
  refine lv_if_lt (tgt := 19) hx hb dX8_holderOf_1 (by decide) (fun c_1 => ?_) (fun c_1 => ?_)
  · refine lv_iconst (v := (-1)) hx hb dX8_holderOf_19 (by decide) ?_
    exact kt_ri () hx hb hr hlk hS dX8_holderOf_20 hP hD (by first | (rw [ea_15, if_pos (by (simp only [kt_lt, kt_le, kt_eq, kt_c0 , kt_c1 , kt_c2 , kt_c3 , kt_c4 , kt_c8 , kt_c9 , kt_cm1 , kt_c81 , kt_c40 , kt_c7 , kt_c5 , kt_c6] at *; omega))]; done) | (rw [if_neg (by (simp only [kt_lt, kt_le, kt_eq, kt_c0 , kt_c1 , kt_c2 , kt_c3 , kt_c4 , kt_c8 , kt_c9 , kt_cm1 , kt_c81 , kt_c40 , kt_c7 , kt_c5 , kt_c6] at *; omega))]; done))
  · refine lv_iload_n hx hb dX8_holderOf_4 rfl (lv_at hl 1 rfl) ?_
    refine lv_bipush (v := 81) hx hb dX8_holderOf_5 (by decide) ?_
    refine lv_icmp_ge (tgt := 19) hx hb dX8_holderOf_7 (by decide) (fun c_7 => ?_) (fun c_7 => ?_)
    · refine lv_iconst (v := (-1)) hx hb dX8_holderOf_19 (by decide) ?_
      exact kt_ri () hx hb hr hlk hS dX8_holderOf_20 hP hD (by first | (rw [ea_15, if_pos (by (simp only [kt_lt, kt_le, kt_eq, kt_c0 , kt_c1 , kt_c2 , kt_c3 , kt_c4 , kt_c8 , kt_c9 , kt_cm1 , kt_c81 , kt_c40 , kt_c7 , kt_c5 , kt_c6] at *; omega))]; done) | (rw [if_neg (by (simp only [kt_lt, kt_le, kt_eq, kt_c0 , kt_c1 , kt_c2 , kt_c3 , kt_c4 , kt_c8 , kt_c9 , kt_cm1 , kt_c81 , kt_c40 , kt_c7 , kt_c5 , kt_c6] at *; omega))]; done))
    · refine lv_aload_n hx hb dX8_holderOf_10 rfl (lv_at hl 0 rfl) ?_
      refine va_get (D := D) (ci := 8) (C := RX8) (T := TX8) (N := 3) hx hb hts iw_X8_holderOf_X8 hown hK hP 0 rfl rfl 1 (by decide) (hts (.fieldLink RX8 15 "KingTable$Stand" "holders" "[I") (by decide +kernel)) (fun _ h9 => h9) rfl dX8_holderOf_11 ?_
      refine lv_iload_n hx hb dX8_holderOf_14 rfl (lv_at hl 1 rfl) ?_
      have hi_1 : vp_in p0 81 := by exact kt_in (by (simp only [kt_lt, kt_le, kt_eq, kt_c0 , kt_c1 , kt_c2 , kt_c3 , kt_c4 , kt_c8 , kt_c9 , kt_cm1 , kt_c81 , kt_c40 , kt_c7 , kt_c5 , kt_c6] at *; omega)) (by (simp only [kt_lt, kt_le, kt_eq, kt_c0 , kt_c1 , kt_c2 , kt_c3 , kt_c4 , kt_c8 , kt_c9 , kt_cm1 , kt_c81 , kt_c40 , kt_c7 , kt_c5 , kt_c6] at *; omega))
      refine va_iald hx hb hK hP 1 0 rfl rfl hi_1 dX8_holderOf_15 ?_
      refine lv_topi (fun a_15 ea_15 => ?_)
      refine lv_goto (tgt := 20) hx hb dX8_holderOf_16 (by decide) ?_
      exact kt_ri () hx hb hr hlk hS dX8_holderOf_20 hP hD (by first | (rw [ea_15, if_pos (by (simp only [kt_lt, kt_le, kt_eq, kt_c0 , kt_c1 , kt_c2 , kt_c3 , kt_c4 , kt_c8 , kt_c9 , kt_cm1 , kt_c81 , kt_c40 , kt_c7 , kt_c5 , kt_c6] at *; omega))]; done) | (rw [if_neg (by (simp only [kt_lt, kt_le, kt_eq, kt_c0 , kt_c1 , kt_c2 , kt_c3 , kt_c4 , kt_c8 , kt_c9 , kt_cm1 , kt_c81 , kt_c40 , kt_c7 , kt_c5 , kt_c6] at *; omega))]; done))

theorem iw_X8_fieldOf_X8 : ∀ w ∈ wsX80, w ∈ wsX8_fieldOf := by decide +kernel
set_option maxHeartbeats 4000000 in
set_option maxRecDepth 100000 in
theorem c_X8_fieldOf (l : Launch) (D : va_G) (cI cZ cB : ClassId) (sz : Nat) (nw : Nat) (sf : Nat) (sh : Nat) (tu : Int32) (ff : Nat → Int32) (p0 : Int32) : kt_Mi l yX8_fieldOf wsX8_fieldOf { frames := 0, cells := 0, slots := 0, locals := 0 } D (kt_ty cI cZ cB) [.ref nw, .int p0] sz [(nw, .inr (8, [.ref sf, .ref sh, .int tu])), (sf, .inl (cI, 40, .inl ff))] (fun (r : Int32) (u : Unit) => r = if 0 ≤ p0 ∧ p0 < 40 then ff p0.toNatClampNeg else -1) (fun (u : Unit) => [(nw, .inr (8, [.ref sf, .ref sh, .int tu])), (sf, .inl (cI, 40, .inl ff))]) 0 0 := by
  refine kt_Mi.of (cc := cX8_fieldOf) (maxL := 2) (ret := some .int) (by decide) rfl (Nat.le_of_ble_eq_true rfl) ?_
  intro p e s m below meth c A ls H hAt hP hD hS hl
  obtain ⟨hx, hb, hr, hml, hown, hts, hN, hK, hlk, hnm, hA⟩ := hAt
  have hl : lv_has ls 2 [(0, .ref nw), (1, .int p0)] := hl
  have hown : s.vm.findClass RX8 = some m.cls := hown
  refine lv_iload_n hx hb dX8_fieldOf_0 rfl (lv_at hl 1 rfl) ?_
  refine lv_if_lt (tgt := 19) hx hb dX8_fieldOf_1 (by decide) (fun c_1 => ?_) (fun c_1 => ?_)
  · refine lv_iconst (v := (-1)) hx hb dX8_fieldOf_19 (by decide) ?_
    exact kt_ri () hx hb hr hlk hS dX8_fieldOf_20 hP hD (by first | (rw [ea_15, if_pos (by (simp only [kt_lt, kt_le, kt_eq, kt_c0 , kt_c1 , kt_c2 , kt_c3 , kt_c4 , kt_c8 , kt_c9 , kt_cm1 , kt_c81 , kt_c40 , kt_c7 , kt_c5 , kt_c6] at *; omega))]; done) | (rw [if_neg (by (simp only [kt_lt, kt_le, kt_eq, kt_c0 , kt_c1 , kt_c2 , kt_c3 , kt_c4 , kt_c8 , kt_c9 , kt_cm1 , kt_c81 , kt_c40 , kt_c7 , kt_c5 , kt_c6] at *; omega))]; done))
  · refine lv_iload_n hx hb dX8_fieldOf_4 rfl (lv_at hl 1 rfl) ?_
    refine lv_bipush (v := 40) hx hb dX8_fieldOf_5 (by decide) ?_
    refine lv_icmp_ge (tgt := 19) hx hb dX8_fieldOf_7 (by decide) (fun c_7 => ?_) (fun c_7 => ?_)
    · refine lv_iconst (v := (-1)) hx hb dX8_fieldOf_19 (by decide) ?_
      exact kt_ri () hx hb hr hlk hS dX8_fieldOf_20 hP hD (by first | (rw [ea_15, if_pos (by (simp only [kt_lt, kt_le, kt_eq, kt_c0 , kt_c1 , kt_c2 , kt_c3 , kt_c4 , kt_c8 , kt_c9 , kt_cm1 , kt_c81 , kt_c40 , kt_c7 , kt_c5 , kt_c6] at *; omega))]; done) | (rw [if_neg (by (simp only [kt_lt, kt_le, kt_eq, kt_c0 , kt_c1 , kt_c2 , kt_c3 , kt_c4 , kt_c8 , kt_c9 , kt_cm1 , kt_c81 , kt_c40 , kt_c7 , kt_c5 , kt_c6] at *; omega))]; done))
    · refine lv_aload_n hx hb dX8_fieldOf_10 rfl (lv_at hl 0 rfl) ?_
      refine va_get (D := D) (ci := 8) (C := RX8) (T := TX8) (N := 3) hx hb hts iw_X8_fieldOf_X8 hown hK hP 0 rfl rfl 0 (by decide) (hts (.fieldLink RX8 9 "KingTable$Stand" "fields" "[I") (by decide +kernel)) (fun _ h9 => h9) rfl dX8_fieldOf_11 ?_
      refine lv_iload_n hx hb dX8_fieldOf_14 rfl (lv_at hl 1 rfl) ?_
      have hi_1 : vp_in p0 40 := by exact kt_in (by (simp only [kt_lt, kt_le, kt_eq, kt_c0 , kt_c1 , kt_c2 , kt_c3 , kt_c4 , kt_c8 , kt_c9 , kt_cm1 , kt_c81 , kt_c40 , kt_c7 , kt_c5 , kt_c6] at *; omega)) (by (simp only [kt_lt, kt_le, kt_eq, kt_c0 , kt_c1 , kt_c2 , kt_c3 , kt_c4 , kt_c8 , kt_c9 , kt_cm1 , kt_c81 , kt_c40 , kt_c7 , kt_c5 , kt_c6] at *; omega))
      refine va_iald hx hb hK hP 1 0 rfl rfl hi_1 dX8_fieldOf_15 ?_
      refine lv_topi (fun a_15 ea_15 => ?_)
      refine lv_goto (tgt := 20) hx hb dX8_fieldOf_16 (by decide) ?_
      exact kt_ri () hx hb hr hlk hS dX8_fieldOf_20 hP hD (by first | (rw [ea_15, if_pos (by (simp only [kt_lt, kt_le, kt_eq, kt_c0 , kt_c1 , kt_c2 , kt_c3 , kt_c4 , kt_c8 , kt_c9 , kt_cm1 , kt_c81 , kt_c40 , kt_c7 , kt_c5 , kt_c6] at *; omega))]; done) | (rw [if_neg (by (simp only [kt_lt, kt_le, kt_eq, kt_c0 , kt_c1 , kt_c2 , kt_c3 , kt_c4 , kt_c8 , kt_c9 , kt_cm1 , kt_c81 , kt_c40 , kt_c7 , kt_c5 , kt_c6] at *; omega))]; done))
end
section
theorem iw_X9_tell_X9 : ∀ w ∈ wsX90, w ∈ wsX9_tell := by decide +kernel
set_option maxHeartbeats 4000000 in
set_option maxRecDepth 100000 in
theorem f_X9_tell (l : Launch) (D : va_G) (cI cZ cB : ClassId) (sz : Nat) (to : Nat) (sg : Nat) (p1 : Int32) (p2 : Int32) (p3 : Int32) : kt_Mi l yX9_tell wsX9_tell { frames := 0, cells := 0, slots := 0, locals := 0 } D (kt_ty cI cZ cB) [.ref to, .int p1, .int p2, .int p3] sz [(to, .inr (9, [.ref sg, .int 3, .int 3])), (sg, .inl (cI, 81, .inl (fun _ => 0)))] (fun (r : Int32) (u : (Nat → Int32)) => kt_B r (0 ≤ p1 ∧ p1 < 3 ∧ 0 ≤ p2 ∧ p2 ≤ 3)) (fun (u : (Nat → Int32)) => [(to, .inr (9, [.ref sg, .int 3, .int 3])), (sg, .inl (cI, 81, .inl u))]) 0 0 := by
  refine kt_Mi.of (cc := cX9_tell) (maxL := 5) (ret := some .boolean) (by decide) rfl (Nat.le_of_ble_eq_true rfl) ?_
  intro p e s m below meth c A ls H hAt hP hD hS hl
  obtain ⟨hx, hb, hr, hml, hown, hts, hN, hK, hlk, hnm, hA⟩ := hAt
  have hl : lv_has ls 5 [(0, .ref to), (1, .int p1), (2, .int p2), (3, .int p3)] := hl
  have hown : s.vm.findClass RX9 = some m.cls := hown
  refine lv_iload_n hx hb dX9_tell_0 rfl (lv_at hl 1 rfl) ?_
  refine lv_if_lt (tgt := 24) hx hb dX9_tell_1 (by decide) (fun c_1 => ?_) (fun c_1 => ?_)
  · refine lv_iconst (v := 0) hx hb dX9_tell_24 (by decide) ?_
    exact kt_rz (fun _ => 0) hx hb hr hlk hS dX9_tell_25 hP hD (by first | exact Or.inl ⟨rfl, by (simp only [kt_lt, kt_le, kt_eq, kt_c0 , kt_c1 , kt_c2 , kt_c3 , kt_c4 , kt_c8 , kt_c9 , kt_cm1 , kt_c81 , kt_c40 , kt_c7 , kt_c5 , kt_c6] at *; omega)⟩ | exact Or.inr ⟨rfl, by (simp only [kt_lt, kt_le, kt_eq, kt_c0 , kt_c1 , kt_c2 , kt_c3 , kt_c4 , kt_c8 , kt_c9 , kt_cm1 , kt_c81 , kt_c40 , kt_c7 , kt_c5 , kt_c6] at *; omega)⟩) rfl
  · refine lv_iload_n hx hb dX9_tell_4 rfl (lv_at hl 1 rfl) ?_
    refine lv_aload_n hx hb dX9_tell_5 rfl (lv_at hl 0 rfl) ?_
    refine va_get (D := D) (ci := 9) (C := RX9) (T := TX9) (N := 3) hx hb hts iw_X9_tell_X9 hown hK hP 0 rfl rfl 1 (by decide) (hts (.fieldLink RX9 15 "KingTable$Told" "lines" "I") (by decide +kernel)) (fun _ h9 => h9) rfl dX9_tell_6 ?_
    refine lv_icmp_ge (tgt := 24) hx hb dX9_tell_9 (by decide) (fun c_9 => ?_) (fun c_9 => ?_)
    · refine lv_iconst (v := 0) hx hb dX9_tell_24 (by decide) ?_
      exact kt_rz (fun _ => 0) hx hb hr hlk hS dX9_tell_25 hP hD (by first | exact Or.inl ⟨rfl, by (simp only [kt_lt, kt_le, kt_eq, kt_c0 , kt_c1 , kt_c2 , kt_c3 , kt_c4 , kt_c8 , kt_c9 , kt_cm1 , kt_c81 , kt_c40 , kt_c7 , kt_c5 , kt_c6] at *; omega)⟩ | exact Or.inr ⟨rfl, by (simp only [kt_lt, kt_le, kt_eq, kt_c0 , kt_c1 , kt_c2 , kt_c3 , kt_c4 , kt_c8 , kt_c9 , kt_cm1 , kt_c81 , kt_c40 , kt_c7 , kt_c5 , kt_c6] at *; omega)⟩) rfl
    · refine lv_iload_n hx hb dX9_tell_12 rfl (lv_at hl 2 rfl) ?_
      refine lv_if_lt (tgt := 24) hx hb dX9_tell_13 (by decide) (fun c_13 => ?_) (fun c_13 => ?_)
      · refine lv_iconst (v := 0) hx hb dX9_tell_24 (by decide) ?_
        exact kt_rz (fun _ => 0) hx hb hr hlk hS dX9_tell_25 hP hD (by first | exact Or.inl ⟨rfl, by (simp only [kt_lt, kt_le, kt_eq, kt_c0 , kt_c1 , kt_c2 , kt_c3 , kt_c4 , kt_c8 , kt_c9 , kt_cm1 , kt_c81 , kt_c40 , kt_c7 , kt_c5 , kt_c6] at *; omega)⟩ | exact Or.inr ⟨rfl, by (simp only [kt_lt, kt_le, kt_eq, kt_c0 , kt_c1 , kt_c2 , kt_c3 , kt_c4 , kt_c8 , kt_c9 , kt_cm1 , kt_c81 , kt_c40 , kt_c7 , kt_c5 , kt_c6] at *; omega)⟩) rfl
      · refine lv_iload_n hx hb dX9_tell_16 rfl (lv_at hl 2 rfl) ?_
        refine lv_aload_n hx hb dX9_tell_17 rfl (lv_at hl 0 rfl) ?_
        refine va_get (D := D) (ci := 9) (C := RX9) (T := TX9) (N := 3) hx hb hts iw_X9_tell_X9 hown hK hP 0 rfl rfl 2 (by decide) (hts (.fieldLink RX9 19 "KingTable$Told" "width" "I") (by decide +kernel)) (fun _ h9 => h9) rfl dX9_tell_18 ?_
        refine lv_icmp_le (tgt := 26) hx hb dX9_tell_21 (by decide) (fun c_21 => ?_) (fun c_21 => ?_)
        · refine lv_iconst (v := 0) hx hb dX9_tell_26 (by decide) ?_
          refine lv_istore (lv' := [(4, .int 0), (0, .ref to), (1, .int p1), (2, .int p2), (3, .int p3)]) hx hb dX9_tell_27 hl (by decide) rfl (fun ls hl => ?_)
          refine kt_loop (σ := Nat × (Nat → Int32)) 29 5 (fun u => [(to, .inr (9, [.ref sg, .int 3, .int 3])), (sg, .inl (cI, 81, .inl u.2))]) (fun u => [(4, .int (nI u.1)), (0, .ref to), (1, .int p1), (2, .int p2), (3, .int p3)]) (fun n u => u.1 ≤ 3 ∧ 3 < u.1 + n) (fun u h => by omega) (fun n ih_29 u hI H locs hP hD hS ls hl => ?_) (4) (0, (fun _ => 0)) (by show 0 ≤ 3 ∧ 3 < 0 + 4; exact ⟨by decide, by decide⟩) hP hD hS (lv_sub hl [0, 1, 2, 3, 4] rfl)
          obtain ⟨k, g⟩ := u
          have hP : va_P D vwCl [(to, .inr (9, [.ref sg, .int 3, .int 3])), (sg, .inl (cI, 81, .inl g))] H := hP
          have hD : va_D A [(to, .inr (9, [.ref sg, .int 3, .int 3])), (sg, .inl (cI, 81, .inl g))] := hD
          have hl : lv_has ls 5 [(4, .int (nI k)), (0, .ref to), (1, .int p1), (2, .int p2), (3, .int p3)] := hl
          have hI : k ≤ 3 ∧ 3 < k + (n + 1) := hI
          refine lv_iload hx hb dX9_tell_29 (lv_at hl 0 rfl) ?_
          refine lv_aload_n hx hb dX9_tell_31 rfl (lv_at hl 1 rfl) ?_
          refine va_get (D := D) (ci := 9) (C := RX9) (T := TX9) (N := 3) hx hb hts iw_X9_tell_X9 hown hK hP 0 rfl rfl 2 (by decide) (hts (.fieldLink RX9 19 "KingTable$Told" "width" "I") (by decide +kernel)) (fun _ h9 => h9) rfl dX9_tell_32 ?_
          refine lv_icmp_ge (tgt := 77) hx hb dX9_tell_35 (by decide) (fun c_35 => ?_) (fun c_35 => ?_)
          · refine lv_iconst (v := 1) hx hb dX9_tell_77 (by decide) ?_
            exact kt_rz g hx hb hr hlk hS dX9_tell_78 hP hD (by first | exact Or.inl ⟨rfl, by (simp only [kt_lt, kt_le, kt_eq, kt_c0 , kt_c1 , kt_c2 , kt_c3 , kt_c4 , kt_c8 , kt_c9 , kt_cm1 , kt_c81 , kt_c40 , kt_c7 , kt_c5 , kt_c6] at *; omega)⟩ | exact Or.inr ⟨rfl, by (simp only [kt_lt, kt_le, kt_eq, kt_c0 , kt_c1 , kt_c2 , kt_c3 , kt_c4 , kt_c8 , kt_c9 , kt_cm1 , kt_c81 , kt_c40 , kt_c7 , kt_c5 , kt_c6] at *; omega)⟩) rfl
          · have hk : k < 3 := by
              rcases Nat.lt_or_ge k 3 with q | q
              · exact q
              · exact absurd (nI_le q (by omega)) c_35
            refine lv_aload_n hx hb dX9_tell_38 rfl (lv_at hl 1 rfl) ?_
            refine va_get (D := D) (ci := 9) (C := RX9) (T := TX9) (N := 3) hx hb hts iw_X9_tell_X9 hown hK hP 0 rfl rfl 0 (by decide) (hts (.fieldLink RX9 9 "KingTable$Told" "signs" "[I") (by decide +kernel)) (fun _ h9 => h9) rfl dX9_tell_39 ?_
            refine lv_iload_n hx hb dX9_tell_42 rfl (lv_at hl 2 rfl) ?_
            refine lv_aload_n hx hb dX9_tell_43 rfl (lv_at hl 1 rfl) ?_
            refine va_get (D := D) (ci := 9) (C := RX9) (T := TX9) (N := 3) hx hb hts iw_X9_tell_X9 hown hK hP 0 rfl rfl 2 (by decide) (hts (.fieldLink RX9 19 "KingTable$Told" "width" "I") (by decide +kernel)) (fun _ h9 => h9) rfl dX9_tell_44 ?_
            refine lv_imul hx hb dX9_tell_47 ?_
            refine lv_iload hx hb dX9_tell_48 (lv_at hl 0 rfl) ?_
            refine lv_iadd hx hb dX9_tell_50 ?_
            refine lv_iload hx hb dX9_tell_51 (lv_at hl 0 rfl) ?_
            refine lv_iload_n hx hb dX9_tell_53 rfl (lv_at hl 3 rfl) ?_
            refine lv_icmp_ge (tgt := 69) hx hb dX9_tell_54 (by decide) (fun c_54 => ?_) (fun c_54 => ?_)
            · refine lv_iconst (v := 0) hx hb dX9_tell_69 (by decide) ?_
              have hi_1 : vp_in ((p1 * 3) + (nI k)) 81 := by obtain ⟨r0, hr0, er0⟩ : ∃ r0 : Nat, r0 < 3 ∧ p1 = nI r0 := ⟨p1.toInt.toNat, by (simp only [kt_lt, kt_le, kt_eq, kt_c0 , kt_c1 , kt_c2 , kt_c3 , kt_c4 , kt_c8 , kt_c9 , kt_cm1 , kt_c81 , kt_c40 , kt_c7 , kt_c5 , kt_c6] at *; omega), kt_nIof (by (simp only [kt_lt, kt_le, kt_eq, kt_c0 , kt_c1 , kt_c2 , kt_c3 , kt_c4 , kt_c8 , kt_c9 , kt_cm1 , kt_c81 , kt_c40 , kt_c7 , kt_c5 , kt_c6] at *; omega))⟩; rw [show p1 * 3 + nI k = nI (r0 * 3 + k) by rw [er0, show (3 : Int32) = nI 3 from rfl, pk_mul, nI_add]]; exact vp_in_nI (by omega) (by omega)
              refine va_iast hx hb hK hP hD hS 1 0 rfl rfl hi_1 dX9_tell_70 (fun H locs hP hD hS => ?_)
              have hP : va_P D vwCl [(to, .inr (9, [.ref sg, .int 3, .int 3])), (sg, .inl (cI, 81, .inl (upd g ((p1 * 3) + (nI k)).toNatClampNeg 0)))] H := hP
              have hD : va_D A [(to, .inr (9, [.ref sg, .int 3, .int 3])), (sg, .inl (cI, 81, .inl (upd g ((p1 * 3) + (nI k)).toNatClampNeg 0)))] := hD
              refine lv_iinc (v := nI (k + 1)) (lv' := [(4, .int (nI (k + 1))), (0, .ref to), (1, .int p1), (2, .int p2), (3, .int p3)]) hx hb dX9_tell_71 hl (k := 0) rfl (nI_1 _) (by decide) rfl (fun ls hl => ?_)
              refine lv_goto (tgt := 29) hx hb dX9_tell_74 (by decide) ?_
              exact ih_29 ((k + 1), (upd g ((p1 * 3) + (nI k)).toNatClampNeg 0)) (by show (k + 1) ≤ 3 ∧ 3 < (k + 1) + n; omega) H _ hP hD hS ls (lv_sub hl [0, 1, 2, 3, 4] rfl)
            · refine lv_iload_n hx hb dX9_tell_57 rfl (lv_at hl 4 rfl) ?_
              refine lv_iconst (v := 3) hx hb dX9_tell_58 (by decide) ?_
              refine lv_iload hx hb dX9_tell_59 (lv_at hl 0 rfl) ?_
              refine lv_imul hx hb dX9_tell_61 ?_
              refine lv_ishr hx hb dX9_tell_62 ?_
              refine lv_bipush (v := 7) hx hb dX9_tell_63 (by decide) ?_
              refine lv_iand hx hb dX9_tell_65 ?_
              refine lv_goto (tgt := 70) hx hb dX9_tell_66 (by decide) ?_
              have hi_2 : vp_in ((p1 * 3) + (nI k)) 81 := by obtain ⟨r0, hr0, er0⟩ : ∃ r0 : Nat, r0 < 3 ∧ p1 = nI r0 := ⟨p1.toInt.toNat, by (simp only [kt_lt, kt_le, kt_eq, kt_c0 , kt_c1 , kt_c2 , kt_c3 , kt_c4 , kt_c8 , kt_c9 , kt_cm1 , kt_c81 , kt_c40 , kt_c7 , kt_c5 , kt_c6] at *; omega), kt_nIof (by (simp only [kt_lt, kt_le, kt_eq, kt_c0 , kt_c1 , kt_c2 , kt_c3 , kt_c4 , kt_c8 , kt_c9 , kt_cm1 , kt_c81 , kt_c40 , kt_c7 , kt_c5 , kt_c6] at *; omega))⟩; rw [show p1 * 3 + nI k = nI (r0 * 3 + k) by rw [er0, show (3 : Int32) = nI 3 from rfl, pk_mul, nI_add]]; exact vp_in_nI (by omega) (by omega)
              refine va_iast hx hb hK hP hD hS 1 0 rfl rfl hi_2 dX9_tell_70 (fun H locs hP hD hS => ?_)
              have hP : va_P D vwCl [(to, .inr (9, [.ref sg, .int 3, .int 3])), (sg, .inl (cI, 81, .inl (upd g ((p1 * 3) + (nI k)).toNatClampNeg ((p3 >>> ((3 * (nI k)) &&& 31)) &&& 7))))] H := hP
              have hD : va_D A [(to, .inr (9, [.ref sg, .int 3, .int 3])), (sg, .inl (cI, 81, .inl (upd g ((p1 * 3) + (nI k)).toNatClampNeg ((p3 >>> ((3 * (nI k)) &&& 31)) &&& 7))))] := hD
              refine lv_iinc (v := nI (k + 1)) (lv' := [(4, .int (nI (k + 1))), (0, .ref to), (1, .int p1), (2, .int p2), (3, .int p3)]) hx hb dX9_tell_71 hl (k := 0) rfl (nI_1 _) (by decide) rfl (fun ls hl => ?_)
              refine lv_goto (tgt := 29) hx hb dX9_tell_74 (by decide) ?_
              exact ih_29 ((k + 1), (upd g ((p1 * 3) + (nI k)).toNatClampNeg ((p3 >>> ((3 * (nI k)) &&& 31)) &&& 7))) (by show (k + 1) ≤ 3 ∧ 3 < (k + 1) + n; omega) H _ hP hD hS ls (lv_sub hl [0, 1, 2, 3, 4] rfl)
        · refine lv_iconst (v := 0) hx hb dX9_tell_24 (by decide) ?_
          exact kt_rz (fun _ => 0) hx hb hr hlk hS dX9_tell_25 hP hD (by first | exact Or.inl ⟨rfl, by (simp only [kt_lt, kt_le, kt_eq, kt_c0 , kt_c1 , kt_c2 , kt_c3 , kt_c4 , kt_c8 , kt_c9 , kt_cm1 , kt_c81 , kt_c40 , kt_c7 , kt_c5 , kt_c6] at *; omega)⟩ | exact Or.inr ⟨rfl, by (simp only [kt_lt, kt_le, kt_eq, kt_c0 , kt_c1 , kt_c2 , kt_c3 , kt_c4 , kt_c8 , kt_c9 , kt_cm1 , kt_c81 , kt_c40 , kt_c7 , kt_c5 , kt_c6] at *; omega)⟩) rfl

theorem iw_X1_change_X1 : ∀ w ∈ wsX10, w ∈ wsX1_change := by decide +kernel
set_option maxHeartbeats 4000000 in
set_option maxRecDepth 100000 in
theorem c_X1_change (l : Launch) (D : va_G) (cI cZ cB : ClassId) (sz : Nat) (la : Nat) (o1 : Int32) (o2 : Int32) (o3 : Int32) (o4 : Int32) (o5 : Int32) (p1 : Int32) (p2 : Int32) (p3 : Int32) (p4 : Int32) (p5 : Int32) (hz : narrow .boolean (.int p3) = .int p3) (hf : fits .boolean (.int p3) = true) : kt_Mi l yX1_change wsX1_change { frames := 0, cells := 0, slots := 0, locals := 0 } D (kt_ty cI cZ cB) [.ref la, .int p1, .int p2, .int p3, .int p4, .int p5] sz [(la, .inr (1, [.int o1, .int o2, .int o3, .int o4, .int o5]))] (fun (r : Int32) (u : Int32 × Int32 × Int32 × Int32 × Int32) => kt_B r ((p1 = 0 ∨ p1 = 1) ∧ (p2 = 2 ∨ p2 = 4) ∧ 0 ≤ p4 ∧ p4 ≤ 8 ∧ (p5 = 0 ∨ p5 = 1))) (fun (u : Int32 × Int32 × Int32 × Int32 × Int32) => [(la, .inr (1, [.int u.1, .int u.2.1, .int u.2.2.1, .int u.2.2.2.1, .int u.2.2.2.2]))]) 0 0 := by
  refine kt_Mi.of (cc := cX1_change) (maxL := 7) (ret := some .boolean) (by decide) rfl (Nat.le_of_ble_eq_true rfl) ?_
  intro p e s m below meth c A ls H hAt hP hD hS hl
  obtain ⟨hx, hb, hr, hml, hown, hts, hN, hK, hlk, hnm, hA⟩ := hAt
  have hl : lv_has ls 7 [(0, .ref la), (1, .int p1), (2, .int p2), (3, .int p3), (4, .int p4), (5, .int p5)] := hl
  have hown : s.vm.findClass RX1 = some m.cls := hown
  refine lv_iload_n hx hb dX1_change_0 rfl (lv_at hl 1 rfl) ?_
  refine kt_join (σ := Unit) 9 7 (fun u => [(la, .inr (1, [.int o1, .int o2, .int o3, .int o4, .int o5]))]) (fun u => [(0, .ref la), (1, .int p1), (2, .int p2), (3, .int p3), (4, .int p4), (5, .int p5)]) (fun u => []) (fun u => p1 = 0 ∨ p1 = 1) (D := D) (A := A) (H0 := s.heap) (fun u hI H locs hP hD hS ls hl => ?_) (fun j_9 => ?_)
  · have hP : va_P D vwCl [(la, .inr (1, [.int o1, .int o2, .int o3, .int o4, .int o5]))] H := hP
    have hD : va_D A [(la, .inr (1, [.int o1, .int o2, .int o3, .int o4, .int o5]))] := hD
    have hl : lv_has ls 7 [(0, .ref la), (1, .int p1), (2, .int p2), (3, .int p3), (4, .int p4), (5, .int p5)] := hl
    have hI : p1 = 0 ∨ p1 = 1 := hI
    have hI9 := hI
    refine lv_iload_n hx hb dX1_change_9 rfl (lv_at hl 2 rfl) ?_
    refine lv_iconst (v := 2) hx hb dX1_change_10 (by decide) ?_
    refine kt_join (σ := Unit) 19 7 (fun u => [(la, .inr (1, [.int o1, .int o2, .int o3, .int o4, .int o5]))]) (fun u => [(0, .ref la), (1, .int p1), (2, .int p2), (3, .int p3), (4, .int p4), (5, .int p5)]) (fun u => []) (fun u => p2 = 2 ∨ p2 = 4) (D := D) (A := A) (H0 := s.heap) (fun u hI H locs hP hD hS ls hl => ?_) (fun j_19 => ?_)
    · have hP : va_P D vwCl [(la, .inr (1, [.int o1, .int o2, .int o3, .int o4, .int o5]))] H := hP
      have hD : va_D A [(la, .inr (1, [.int o1, .int o2, .int o3, .int o4, .int o5]))] := hD
      have hl : lv_has ls 7 [(0, .ref la), (1, .int p1), (2, .int p2), (3, .int p3), (4, .int p4), (5, .int p5)] := hl
      have hI : p2 = 2 ∨ p2 = 4 := hI
      have hI19 := hI
      refine lv_iload hx hb dX1_change_19 (lv_at hl 4 rfl) ?_
      refine lv_if_lt (tgt := 46) hx hb dX1_change_21 (by decide) (fun c_21 => ?_) (fun c_21 => ?_)
      · refine lv_iconst (v := 0) hx hb dX1_change_46 (by decide) ?_
        refine lv_istore (lv' := [(6, .int 0), (0, .ref la), (1, .int p1), (2, .int p2), (3, .int p3), (4, .int p4), (5, .int p5)]) hx hb dX1_change_47 hl (by decide) rfl (fun ls hl => ?_)
        refine lv_iload hx hb dX1_change_49 (lv_at hl 0 rfl) ?_
        refine lv_if_ne (tgt := 56) hx hb dX1_change_51 (by decide) (fun c_51 => absurd c_51 (by decide)) (fun c_51 => ?_)
        refine lv_iconst (v := 0) hx hb dX1_change_54 (by decide) ?_
        exact kt_rz (o1, o2, o3, o4, o5) hx hb hr hlk hS dX1_change_55 hP hD (by first | exact Or.inl ⟨rfl, by (simp only [kt_lt, kt_le, kt_eq, kt_c0 , kt_c1 , kt_c2 , kt_c3 , kt_c4 , kt_c8 , kt_c9 , kt_cm1 , kt_c81 , kt_c40 , kt_c7 , kt_c5 , kt_c6] at *; omega)⟩ | exact Or.inr ⟨rfl, by (simp only [kt_lt, kt_le, kt_eq, kt_c0 , kt_c1 , kt_c2 , kt_c3 , kt_c4 , kt_c8 , kt_c9 , kt_cm1 , kt_c81 , kt_c40 , kt_c7 , kt_c5 , kt_c6] at *; omega)⟩) rfl
      · refine lv_iload hx hb dX1_change_24 (lv_at hl 4 rfl) ?_
        refine lv_bipush (v := 8) hx hb dX1_change_26 (by decide) ?_
        refine lv_icmp_gt (tgt := 46) hx hb dX1_change_28 (by decide) (fun c_28 => ?_) (fun c_28 => ?_)
        · refine lv_iconst (v := 0) hx hb dX1_change_46 (by decide) ?_
          refine lv_istore (lv' := [(6, .int 0), (0, .ref la), (1, .int p1), (2, .int p2), (3, .int p3), (4, .int p4), (5, .int p5)]) hx hb dX1_change_47 hl (by decide) rfl (fun ls hl => ?_)
          refine lv_iload hx hb dX1_change_49 (lv_at hl 0 rfl) ?_
          refine lv_if_ne (tgt := 56) hx hb dX1_change_51 (by decide) (fun c_51 => absurd c_51 (by decide)) (fun c_51 => ?_)
          refine lv_iconst (v := 0) hx hb dX1_change_54 (by decide) ?_
          exact kt_rz (o1, o2, o3, o4, o5) hx hb hr hlk hS dX1_change_55 hP hD (by first | exact Or.inl ⟨rfl, by (simp only [kt_lt, kt_le, kt_eq, kt_c0 , kt_c1 , kt_c2 , kt_c3 , kt_c4 , kt_c8 , kt_c9 , kt_cm1 , kt_c81 , kt_c40 , kt_c7 , kt_c5 , kt_c6] at *; omega)⟩ | exact Or.inr ⟨rfl, by (simp only [kt_lt, kt_le, kt_eq, kt_c0 , kt_c1 , kt_c2 , kt_c3 , kt_c4 , kt_c8 , kt_c9 , kt_cm1 , kt_c81 , kt_c40 , kt_c7 , kt_c5 , kt_c6] at *; omega)⟩) rfl
        · refine lv_iload hx hb dX1_change_31 (lv_at hl 5 rfl) ?_
          refine kt_join (σ := Unit) 42 7 (fun u => [(la, .inr (1, [.int o1, .int o2, .int o3, .int o4, .int o5]))]) (fun u => [(0, .ref la), (1, .int p1), (2, .int p2), (3, .int p3), (4, .int p4), (5, .int p5)]) (fun u => []) (fun u => p5 = 0 ∨ p5 = 1) (D := D) (A := A) (H0 := s.heap) (fun u hI H locs hP hD hS ls hl => ?_) (fun j_42 => ?_)
          · have hP : va_P D vwCl [(la, .inr (1, [.int o1, .int o2, .int o3, .int o4, .int o5]))] H := hP
            have hD : va_D A [(la, .inr (1, [.int o1, .int o2, .int o3, .int o4, .int o5]))] := hD
            have hl : lv_has ls 7 [(0, .ref la), (1, .int p1), (2, .int p2), (3, .int p3), (4, .int p4), (5, .int p5)] := hl
            have hI : p5 = 0 ∨ p5 = 1 := hI
            have hI42 := hI
            refine lv_iconst (v := 1) hx hb dX1_change_42 (by decide) ?_
            refine lv_goto (tgt := 47) hx hb dX1_change_43 (by decide) ?_
            refine lv_istore (lv' := [(6, .int 1), (0, .ref la), (1, .int p1), (2, .int p2), (3, .int p3), (4, .int p4), (5, .int p5)]) hx hb dX1_change_47 hl (by decide) rfl (fun ls hl => ?_)
            refine lv_iload hx hb dX1_change_49 (lv_at hl 0 rfl) ?_
            refine lv_if_ne (tgt := 56) hx hb dX1_change_51 (by decide) (fun c_51 => ?_) (fun c_51 => absurd c_51 (by decide))
            refine lv_aload_n hx hb dX1_change_56 rfl (lv_at hl 1 rfl) ?_
            refine lv_iload_n hx hb dX1_change_57 rfl (lv_at hl 2 rfl) ?_
            refine va_put (D := D) (ci := 1) (v := .int p1) (ty := .int) (C := RX1) (T := TX1) (N := 5) hx hb hts iw_X1_change_X1 tyX1 tyX1_ok nmX1 hown hK hP hD hS 0 rfl rfl 0 (by decide) (hts (.fieldLink RX1 7 "KingTable$Laws" "goal" "I") (by decide +kernel)) (fun _ h9 => h9) rfl (by decide +kernel) rfl rfl (Nat.le_of_ble_eq_true rfl) dX1_change_58 (fun H locs hP hD hS => ?_)
            have hP : va_P D vwCl [(la, .inr (1, [.int p1, .int o2, .int o3, .int o4, .int o5]))] H := hP
            have hD : va_D A [(la, .inr (1, [.int p1, .int o2, .int o3, .int o4, .int o5]))] := hD
            refine lv_aload_n hx hb dX1_change_61 rfl (lv_at hl 1 rfl) ?_
            refine lv_iload_n hx hb dX1_change_62 rfl (lv_at hl 3 rfl) ?_
            refine va_put (D := D) (ci := 1) (v := .int p2) (ty := .int) (C := RX1) (T := TX1) (N := 5) hx hb hts iw_X1_change_X1 tyX1 tyX1_ok nmX1 hown hK hP hD hS 0 rfl rfl 1 (by decide) (hts (.fieldLink RX1 13 "KingTable$Laws" "hard" "I") (by decide +kernel)) (fun _ h9 => h9) rfl (by decide +kernel) rfl rfl (Nat.le_of_ble_eq_true rfl) dX1_change_63 (fun H locs hP hD hS => ?_)
            have hP : va_P D vwCl [(la, .inr (1, [.int p1, .int p2, .int o3, .int o4, .int o5]))] H := hP
            have hD : va_D A [(la, .inr (1, [.int p1, .int p2, .int o3, .int o4, .int o5]))] := hD
            refine lv_aload_n hx hb dX1_change_66 rfl (lv_at hl 1 rfl) ?_
            refine lv_iload_n hx hb dX1_change_67 rfl (lv_at hl 4 rfl) ?_
            refine va_put (D := D) (ci := 1) (v := .int p3) (ty := .boolean) (C := RX1) (T := TX1) (N := 5) hx hb hts iw_X1_change_X1 tyX1 tyX1_ok nmX1 hown hK hP hD hS 0 rfl rfl 2 (by decide) (hts (.fieldLink RX1 16 "KingTable$Laws" "kingTakes" "Z") (by decide +kernel)) (fun _ h9 => h9) rfl (by decide +kernel) (by exact hz) (by exact hf) (Nat.le_of_ble_eq_true rfl) dX1_change_68 (fun H locs hP hD hS => ?_)
            have hP : va_P D vwCl [(la, .inr (1, [.int p1, .int p2, .int p3, .int o4, .int o5]))] H := hP
            have hD : va_D A [(la, .inr (1, [.int p1, .int p2, .int p3, .int o4, .int o5]))] := hD
            refine lv_aload_n hx hb dX1_change_71 rfl (lv_at hl 1 rfl) ?_
            refine lv_iload hx hb dX1_change_72 (lv_at hl 5 rfl) ?_
            refine va_put (D := D) (ci := 1) (v := .int p4) (ty := .int) (C := RX1) (T := TX1) (N := 5) hx hb hts iw_X1_change_X1 tyX1 tyX1_ok nmX1 hown hK hP hD hS 0 rfl rfl 3 (by decide) (hts (.fieldLink RX1 20 "KingTable$Laws" "reach" "I") (by decide +kernel)) (fun _ h9 => h9) rfl (by decide +kernel) rfl rfl (Nat.le_of_ble_eq_true rfl) dX1_change_74 (fun H locs hP hD hS => ?_)
            have hP : va_P D vwCl [(la, .inr (1, [.int p1, .int p2, .int p3, .int p4, .int o5]))] H := hP
            have hD : va_D A [(la, .inr (1, [.int p1, .int p2, .int p3, .int p4, .int o5]))] := hD
            refine lv_aload_n hx hb dX1_change_77 rfl (lv_at hl 1 rfl) ?_
            refine lv_iload hx hb dX1_change_78 (lv_at hl 6 rfl) ?_
            refine va_put (D := D) (ci := 1) (v := .int p5) (ty := .int) (C := RX1) (T := TX1) (N := 5) hx hb hts iw_X1_change_X1 tyX1 tyX1_ok nmX1 hown hK hP hD hS 0 rfl rfl 4 (by decide) (hts (.fieldLink RX1 23 "KingTable$Laws" "comeback" "I") (by decide +kernel)) (fun _ h9 => h9) rfl (by decide +kernel) rfl rfl (Nat.le_of_ble_eq_true rfl) dX1_change_80 (fun H locs hP hD hS => ?_)
            have hP : va_P D vwCl [(la, .inr (1, [.int p1, .int p2, .int p3, .int p4, .int p5]))] H := hP
            have hD : va_D A [(la, .inr (1, [.int p1, .int p2, .int p3, .int p4, .int p5]))] := hD
            refine lv_iconst (v := 1) hx hb dX1_change_83 (by decide) ?_
            exact kt_rz (p1, p2, p3, p4, p5) hx hb hr hlk hS dX1_change_84 hP hD (by first | exact Or.inl ⟨rfl, by (simp only [kt_lt, kt_le, kt_eq, kt_c0 , kt_c1 , kt_c2 , kt_c3 , kt_c4 , kt_c8 , kt_c9 , kt_cm1 , kt_c81 , kt_c40 , kt_c7 , kt_c5 , kt_c6] at *; omega)⟩ | exact Or.inr ⟨rfl, by (simp only [kt_lt, kt_le, kt_eq, kt_c0 , kt_c1 , kt_c2 , kt_c3 , kt_c4 , kt_c8 , kt_c9 , kt_cm1 , kt_c81 , kt_c40 , kt_c7 , kt_c5 , kt_c6] at *; omega)⟩) rfl
          refine lv_if_eq (tgt := 42) hx hb dX1_change_33 (by decide) (fun c_33 => ?_) (fun c_33 => ?_)
          · exact j_42 () (by show p5 = 0 ∨ p5 = 1; first | exact Or.inl c_33 | exact Or.inr c_39) H _ hP hD hS ls (lv_sub hl [0, 1, 2, 3, 4, 5] rfl)
          · refine lv_iload hx hb dX1_change_36 (lv_at hl 5 rfl) ?_
            refine lv_iconst (v := 1) hx hb dX1_change_38 (by decide) ?_
            refine lv_icmp_ne (tgt := 46) hx hb dX1_change_39 (by decide) (fun c_39 => ?_) (fun c_39 => ?_)
            · refine lv_iconst (v := 0) hx hb dX1_change_46 (by decide) ?_
              refine lv_istore (lv' := [(6, .int 0), (0, .ref la), (1, .int p1), (2, .int p2), (3, .int p3), (4, .int p4), (5, .int p5)]) hx hb dX1_change_47 hl (by decide) rfl (fun ls hl => ?_)
              refine lv_iload hx hb dX1_change_49 (lv_at hl 0 rfl) ?_
              refine lv_if_ne (tgt := 56) hx hb dX1_change_51 (by decide) (fun c_51 => absurd c_51 (by decide)) (fun c_51 => ?_)
              refine lv_iconst (v := 0) hx hb dX1_change_54 (by decide) ?_
              exact kt_rz (o1, o2, o3, o4, o5) hx hb hr hlk hS dX1_change_55 hP hD (by first | exact Or.inl ⟨rfl, by (simp only [kt_lt, kt_le, kt_eq, kt_c0 , kt_c1 , kt_c2 , kt_c3 , kt_c4 , kt_c8 , kt_c9 , kt_cm1 , kt_c81 , kt_c40 , kt_c7 , kt_c5 , kt_c6] at *; omega)⟩ | exact Or.inr ⟨rfl, by (simp only [kt_lt, kt_le, kt_eq, kt_c0 , kt_c1 , kt_c2 , kt_c3 , kt_c4 , kt_c8 , kt_c9 , kt_cm1 , kt_c81 , kt_c40 , kt_c7 , kt_c5 , kt_c6] at *; omega)⟩) rfl
            · exact j_42 () (by show p5 = 0 ∨ p5 = 1; first | exact Or.inl c_33 | exact Or.inr c_39) H _ hP hD hS ls (lv_sub hl [0, 1, 2, 3, 4, 5] rfl)
    refine lv_icmp_eq (tgt := 19) hx hb dX1_change_11 (by decide) (fun c_11 => ?_) (fun c_11 => ?_)
    · exact j_19 () (by show p2 = 2 ∨ p2 = 4; first | exact Or.inl c_11 | exact Or.inr c_16) H _ hP hD hS ls (lv_sub hl [0, 1, 2, 3, 4, 5] rfl)
    · refine lv_iload_n hx hb dX1_change_14 rfl (lv_at hl 2 rfl) ?_
      refine lv_iconst (v := 4) hx hb dX1_change_15 (by decide) ?_
      refine lv_icmp_ne (tgt := 46) hx hb dX1_change_16 (by decide) (fun c_16 => ?_) (fun c_16 => ?_)
      · refine lv_iconst (v := 0) hx hb dX1_change_46 (by decide) ?_
        refine lv_istore (lv' := [(6, .int 0), (0, .ref la), (1, .int p1), (2, .int p2), (3, .int p3), (4, .int p4), (5, .int p5)]) hx hb dX1_change_47 hl (by decide) rfl (fun ls hl => ?_)
        refine lv_iload hx hb dX1_change_49 (lv_at hl 0 rfl) ?_
        refine lv_if_ne (tgt := 56) hx hb dX1_change_51 (by decide) (fun c_51 => absurd c_51 (by decide)) (fun c_51 => ?_)
        refine lv_iconst (v := 0) hx hb dX1_change_54 (by decide) ?_
        exact kt_rz (o1, o2, o3, o4, o5) hx hb hr hlk hS dX1_change_55 hP hD (by first | exact Or.inl ⟨rfl, by (simp only [kt_lt, kt_le, kt_eq, kt_c0 , kt_c1 , kt_c2 , kt_c3 , kt_c4 , kt_c8 , kt_c9 , kt_cm1 , kt_c81 , kt_c40 , kt_c7 , kt_c5 , kt_c6] at *; omega)⟩ | exact Or.inr ⟨rfl, by (simp only [kt_lt, kt_le, kt_eq, kt_c0 , kt_c1 , kt_c2 , kt_c3 , kt_c4 , kt_c8 , kt_c9 , kt_cm1 , kt_c81 , kt_c40 , kt_c7 , kt_c5 , kt_c6] at *; omega)⟩) rfl
      · exact j_19 () (by show p2 = 2 ∨ p2 = 4; first | exact Or.inl c_11 | exact Or.inr c_16) H _ hP hD hS ls (lv_sub hl [0, 1, 2, 3, 4, 5] rfl)
  refine lv_if_eq (tgt := 9) hx hb dX1_change_1 (by decide) (fun c_1 => ?_) (fun c_1 => ?_)
  · exact j_9 () (by show p1 = 0 ∨ p1 = 1; first | exact Or.inl c_1 | exact Or.inr c_6) H _ hP hD hS ls (lv_sub hl [0, 1, 2, 3, 4, 5] rfl)
  · refine lv_iload_n hx hb dX1_change_4 rfl (lv_at hl 1 rfl) ?_
    refine lv_iconst (v := 1) hx hb dX1_change_5 (by decide) ?_
    refine lv_icmp_ne (tgt := 46) hx hb dX1_change_6 (by decide) (fun c_6 => ?_) (fun c_6 => ?_)
    · refine lv_iconst (v := 0) hx hb dX1_change_46 (by decide) ?_
      refine lv_istore (lv' := [(6, .int 0), (0, .ref la), (1, .int p1), (2, .int p2), (3, .int p3), (4, .int p4), (5, .int p5)]) hx hb dX1_change_47 hl (by decide) rfl (fun ls hl => ?_)
      refine lv_iload hx hb dX1_change_49 (lv_at hl 0 rfl) ?_
      refine lv_if_ne (tgt := 56) hx hb dX1_change_51 (by decide) (fun c_51 => absurd c_51 (by decide)) (fun c_51 => ?_)
      refine lv_iconst (v := 0) hx hb dX1_change_54 (by decide) ?_
      exact kt_rz (o1, o2, o3, o4, o5) hx hb hr hlk hS dX1_change_55 hP hD (by first | exact Or.inl ⟨rfl, by (simp only [kt_lt, kt_le, kt_eq, kt_c0 , kt_c1 , kt_c2 , kt_c3 , kt_c4 , kt_c8 , kt_c9 , kt_cm1 , kt_c81 , kt_c40 , kt_c7 , kt_c5 , kt_c6] at *; omega)⟩ | exact Or.inr ⟨rfl, by (simp only [kt_lt, kt_le, kt_eq, kt_c0 , kt_c1 , kt_c2 , kt_c3 , kt_c4 , kt_c8 , kt_c9 , kt_cm1 , kt_c81 , kt_c40 , kt_c7 , kt_c5 , kt_c6] at *; omega)⟩) rfl
    · exact j_9 () (by show p1 = 0 ∨ p1 = 1; first | exact Or.inl c_1 | exact Or.inr c_6) H _ hP hD hS ls (lv_sub hl [0, 1, 2, 3, 4, 5] rfl)

theorem iw_X9_renew_X9 : ∀ w ∈ wsX90, w ∈ wsX9_renew := by decide +kernel
set_option maxHeartbeats 4000000 in
set_option maxRecDepth 100000 in
theorem c_X9_renew (l : Launch) (D : va_G) (cI cZ cB : ClassId) (sz : Nat) (to : Nat) (sg : Nat) (ln : Int32) (wd : Int32) (fs : Nat → Int32) (p1 : Int32) (p2 : Int32) : kt_Mi l yX9_renew wsX9_renew { frames := 1, cells := 0, slots := 0, locals := 23 } D (kt_ty cI cZ cB) [.ref to, .int p1, .int p2] sz [(to, .inr (9, [.ref sg, .int ln, .int wd])), (sg, .inl (cI, 81, .inl fs))] (fun (r : Int32) (u : Int32 × Int32 × (Nat → Int32)) => (r = 1 ∧ (2 ≤ p1 ∧ p1 ≤ 9 ∧ 2 ≤ p2 ∧ p2 ≤ 9) ∧ u.1 = p1 ∧ u.2.1 = p2 ∧ u.2.2 = fun _ => 0) ∨ (r = 0 ∧ ¬ (2 ≤ p1 ∧ p1 ≤ 9 ∧ 2 ≤ p2 ∧ p2 ≤ 9) ∧ u.1 = ln ∧ u.2.1 = wd ∧ u.2.2 = fs)) (fun (u : Int32 × Int32 × (Nat → Int32)) => [(to, .inr (9, [.ref sg, .int u.1, .int u.2.1])), (sg, .inl (cI, 81, .inl u.2.2))]) 0 0 := by
  refine kt_Mi.of (cc := cX9_renew) (maxL := 3) (ret := some .boolean) (by decide) rfl (Nat.le_of_ble_eq_true rfl) ?_
  intro p e s m below meth c A ls H hAt hP hD hS hl
  obtain ⟨hx, hb, hr, hml, hown, hts, hN, hK, hlk, hnm, hA⟩ := hAt
  have hl : lv_has ls 3 [(0, .ref to), (1, .int p1), (2, .int p2)] := hl
  have hown : s.vm.findClass RX9 = some m.cls := hown
  refine lv_iload_n hx hb dX9_renew_0 rfl (lv_at hl 1 rfl) ?_
  refine kt_pi (wc := []) [] hP hD hS hA rfl (by decide) (fun hPc hDc => va_runS (As := [.int p1]) (rest := []) ⟨hx, hb, hml, hown, hts⟩ (c_X9_isSpan l D cI cZ cB H.size p1 ) (va_cwS 1 hts gX9_renew_X9_isSpan rfl rfl rfl (by decide +kernel) ⟨Nat.le_of_ble_eq_true rfl, Nat.le_of_ble_eq_true rfl⟩) (kt_preS hN hK hPc hDc) rfl rfl hl.1 rfl (lv_room (Nat.le_of_ble_eq_true rfl)) dX9_renew_1 ⟨Nat.le_of_ble_eq_true rfl, Nat.le_of_ble_eq_true rfl⟩) (fun r_1 _ H locs hw_1 hP hS => ?_)
  refine lv_if_eq (tgt := 14) hx hb dX9_renew_4 (by decide) (fun c_4 => ?_) (fun c_4 => ?_)
  · refine lv_iconst (v := 0) hx hb dX9_renew_14 (by decide) ?_
    exact kt_rz (ln, wd, fs) hx hb hr hlk hS dX9_renew_15 hP hD (by first | exact Or.inr ⟨rfl, fun h => (hw_1.f c_4) ⟨h.1, h.2.1⟩, rfl, rfl, rfl⟩ | exact Or.inr ⟨rfl, fun h => (hw_8.f c_11) ⟨h.2.2.1, h.2.2.2⟩, rfl, rfl, rfl⟩ | exact Or.inl ⟨rfl, ⟨(hw_1.t c_4).1, (hw_1.t c_4).2, (hw_8.t c_11).1, (hw_8.t c_11).2⟩, rfl, rfl, rfl⟩) rfl
  · refine lv_iload_n hx hb dX9_renew_7 rfl (lv_at hl 2 rfl) ?_
    refine kt_pi (wc := []) [] hP hD hS hA rfl (by decide) (fun hPc hDc => va_runS (As := [.int p2]) (rest := []) ⟨hx, hb, hml, hown, hts⟩ (c_X9_isSpan l D cI cZ cB H.size p2 ) (va_cwS 1 hts gX9_renew_X9_isSpan rfl rfl rfl (by decide +kernel) ⟨Nat.le_of_ble_eq_true rfl, Nat.le_of_ble_eq_true rfl⟩) (kt_preS hN hK hPc hDc) rfl rfl hl.1 rfl (lv_room (Nat.le_of_ble_eq_true rfl)) dX9_renew_8 ⟨Nat.le_of_ble_eq_true rfl, Nat.le_of_ble_eq_true rfl⟩) (fun r_8 _ H locs hw_8 hP hS => ?_)
    refine lv_if_ne (tgt := 16) hx hb dX9_renew_11 (by decide) (fun c_11 => ?_) (fun c_11 => ?_)
    · refine lv_aload_n hx hb dX9_renew_16 rfl (lv_at hl 0 rfl) ?_
      refine lv_iload_n hx hb dX9_renew_17 rfl (lv_at hl 1 rfl) ?_
      refine va_put (D := D) (ci := 9) (v := .int p1) (ty := .int) (C := RX9) (T := TX9) (N := 3) hx hb hts iw_X9_renew_X9 tyX9 tyX9_ok nmX9 hown hK hP hD hS 0 rfl rfl 1 (by decide) (hts (.fieldLink RX9 15 "KingTable$Told" "lines" "I") (by decide +kernel)) (fun _ h9 => h9) rfl (by decide +kernel) rfl rfl (Nat.le_of_ble_eq_true rfl) dX9_renew_18 (fun H locs hP hD hS => ?_)
      have hP : va_P D vwCl [(to, .inr (9, [.ref sg, .int p1, .int wd])), (sg, .inl (cI, 81, .inl fs))] H := hP
      have hD : va_D A [(to, .inr (9, [.ref sg, .int p1, .int wd])), (sg, .inl (cI, 81, .inl fs))] := hD
      refine lv_aload_n hx hb dX9_renew_21 rfl (lv_at hl 0 rfl) ?_
      refine lv_iload_n hx hb dX9_renew_22 rfl (lv_at hl 2 rfl) ?_
      refine va_put (D := D) (ci := 9) (v := .int p2) (ty := .int) (C := RX9) (T := TX9) (N := 3) hx hb hts iw_X9_renew_X9 tyX9 tyX9_ok nmX9 hown hK hP hD hS 0 rfl rfl 2 (by decide) (hts (.fieldLink RX9 19 "KingTable$Told" "width" "I") (by decide +kernel)) (fun _ h9 => h9) rfl (by decide +kernel) rfl rfl (Nat.le_of_ble_eq_true rfl) dX9_renew_23 (fun H locs hP hD hS => ?_)
      have hP : va_P D vwCl [(to, .inr (9, [.ref sg, .int p1, .int p2])), (sg, .inl (cI, 81, .inl fs))] H := hP
      have hD : va_D A [(to, .inr (9, [.ref sg, .int p1, .int p2])), (sg, .inl (cI, 81, .inl fs))] := hD
      refine lv_aload_n hx hb dX9_renew_26 rfl (lv_at hl 0 rfl) ?_
      refine va_get (D := D) (ci := 9) (C := RX9) (T := TX9) (N := 3) hx hb hts iw_X9_renew_X9 hown hK hP 0 rfl rfl 0 (by decide) (hts (.fieldLink RX9 9 "KingTable$Told" "signs" "[I") (by decide +kernel)) (fun _ h9 => h9) rfl dX9_renew_27 ?_
      refine lv_iconst (v := 0) hx hb dX9_renew_30 (by decide) ?_
      refine kt_bv (wc := [(sg, .inl (cI, 81, .inl fs))]) (wr := [(to, .inr (9, [.ref sg, .int p1, .int p2]))]) [1] [0] hP hD hS hA rfl rfl (by decide) (by decide) (by decide) (fun hPc hDc => va_runS (As := [.ref sg, .int 0]) (rest := []) ⟨hx, hb, hml, hown, hts⟩ (c_fill l D cI cZ cB H.size sg 81 fs 0 (by decide)) (va_cwS 2 hts gX9_renew_J7_fill_53178 rfl rfl rfl (by decide +kernel) ⟨Nat.le_of_ble_eq_true rfl, Nat.le_of_ble_eq_true rfl⟩) (kt_preS hN hK hPc hDc) rfl rfl hl.1 rfl (lv_room (Nat.le_of_ble_eq_true rfl)) dX9_renew_31 ⟨Nat.le_of_ble_eq_true rfl, Nat.le_of_ble_eq_true rfl⟩) (fun u_ H locs hw_31 hP hD hS => ?_)
      have hP : va_P D vwCl [(to, .inr (9, [.ref sg, .int p1, .int p2])), (sg, .inl (cI, 81, .inl (fun _ => 0)))] H := hP.sub [0, 1] rfl
      have hD : va_D A [(to, .inr (9, [.ref sg, .int p1, .int p2])), (sg, .inl (cI, 81, .inl (fun _ => 0)))] := hD.sub [0, 1] (by decide) rfl
      refine lv_iconst (v := 1) hx hb dX9_renew_34 (by decide) ?_
      exact kt_rz (p1, p2, fun _ => 0) hx hb hr hlk hS dX9_renew_35 hP hD (by first | exact Or.inr ⟨rfl, fun h => (hw_1.f c_4) ⟨h.1, h.2.1⟩, rfl, rfl, rfl⟩ | exact Or.inr ⟨rfl, fun h => (hw_8.f c_11) ⟨h.2.2.1, h.2.2.2⟩, rfl, rfl, rfl⟩ | exact Or.inl ⟨rfl, ⟨(hw_1.t c_4).1, (hw_1.t c_4).2, (hw_8.t c_11).1, (hw_8.t c_11).2⟩, rfl, rfl, rfl⟩) rfl
    · refine lv_iconst (v := 0) hx hb dX9_renew_14 (by decide) ?_
      exact kt_rz (ln, wd, fs) hx hb hr hlk hS dX9_renew_15 hP hD (by first | exact Or.inr ⟨rfl, fun h => (hw_1.f c_4) ⟨h.1, h.2.1⟩, rfl, rfl, rfl⟩ | exact Or.inr ⟨rfl, fun h => (hw_8.f c_11) ⟨h.2.2.1, h.2.2.2⟩, rfl, rfl, rfl⟩ | exact Or.inl ⟨rfl, ⟨(hw_1.t c_4).1, (hw_1.t c_4).2, (hw_8.t c_11).1, (hw_8.t c_11).2⟩, rfl, rfl, rfl⟩) rfl

theorem iw_X3_clear_X3 : ∀ w ∈ wsX30, w ∈ wsX3_clear := by decide +kernel
set_option maxHeartbeats 4000000 in
set_option maxRecDepth 100000 in
theorem c_X3_clear (l : Launch) (D : va_G) (cI cZ cB : ClassId) (sz : Nat) (lo : Nat) (l0 : Nat) (l1 : Nat) (l2 : Nat) (l3 : Nat) (l4 : Nat) (l5 : Nat) (l6 : Nat) (dn : Int32) (kn : Int32) : kt_Mv l yX3_clear wsX3_clear { frames := 0, cells := 0, slots := 0, locals := 0 } D (kt_ty cI cZ cB) [.ref lo] sz [(lo, .inr (3, [.ref l0, .ref l1, .ref l2, .ref l3, .ref l4, .ref l5, .ref l6, .int dn, .int kn]))] (fun (u : Unit) => True) (fun (u : Unit) => [(lo, .inr (3, [.ref l0, .ref l1, .ref l2, .ref l3, .ref l4, .ref l5, .ref l6, .int 0, .int 0]))]) 0 0 := by
  refine kt_Mv.of (cc := cX3_clear) (maxL := 1) (ret := none) (by decide) rfl (Nat.le_of_ble_eq_true rfl) ?_
  intro p e s m below meth c A ls H hAt hP hD hS hl
  obtain ⟨hx, hb, hr, hml, hown, hts, hN, hK, hlk, hnm, hA⟩ := hAt
  have hl : lv_has ls 1 [(0, .ref lo)] := hl
  have hown : s.vm.findClass RX3 = some m.cls := hown
  refine lv_aload_n hx hb dX3_clear_0 rfl (lv_at hl 0 rfl) ?_
  refine lv_iconst (v := 0) hx hb dX3_clear_1 (by decide) ?_
  refine va_put (D := D) (ci := 3) (v := .int 0) (ty := .int) (C := RX3) (T := TX3) (N := 9) hx hb hts iw_X3_clear_X3 tyX3 tyX3_ok nmX3 hown hK hP hD hS 0 rfl rfl 7 (by decide) (hts (.fieldLink RX3 33 "KingTable$Log" "done" "I") (by decide +kernel)) (fun _ h9 => h9) rfl (by decide +kernel) rfl rfl (Nat.le_of_ble_eq_true rfl) dX3_clear_2 (fun H locs hP hD hS => ?_)
  have hP : va_P D vwCl [(lo, .inr (3, [.ref l0, .ref l1, .ref l2, .ref l3, .ref l4, .ref l5, .ref l6, .int 0, .int kn]))] H := hP
  have hD : va_D A [(lo, .inr (3, [.ref l0, .ref l1, .ref l2, .ref l3, .ref l4, .ref l5, .ref l6, .int 0, .int kn]))] := hD
  refine lv_aload_n hx hb dX3_clear_5 rfl (lv_at hl 0 rfl) ?_
  refine lv_iconst (v := 0) hx hb dX3_clear_6 (by decide) ?_
  refine va_put (D := D) (ci := 3) (v := .int 0) (ty := .int) (C := RX3) (T := TX3) (N := 9) hx hb hts iw_X3_clear_X3 tyX3 tyX3_ok nmX3 hown hK hP hD hS 0 rfl rfl 8 (by decide) (hts (.fieldLink RX3 37 "KingTable$Log" "known" "I") (by decide +kernel)) (fun _ h9 => h9) rfl (by decide +kernel) rfl rfl (Nat.le_of_ble_eq_true rfl) dX3_clear_7 (fun H locs hP hD hS => ?_)
  have hP : va_P D vwCl [(lo, .inr (3, [.ref l0, .ref l1, .ref l2, .ref l3, .ref l4, .ref l5, .ref l6, .int 0, .int 0]))] H := hP
  have hD : va_D A [(lo, .inr (3, [.ref l0, .ref l1, .ref l2, .ref l3, .ref l4, .ref l5, .ref l6, .int 0, .int 0]))] := hD
  exact kt_rv () hx hb hr hlk hS dX3_clear_10 hP hD (by first | rfl | trivial | assumption | (simp_all; done) | grind)

theorem iw_X6_dismiss_X6 : ∀ w ∈ wsX60, w ∈ wsX6_dismiss := by decide +kernel
set_option maxHeartbeats 4000000 in
set_option maxRecDepth 100000 in
theorem c_X6_dismiss (l : Launch) (D : va_G) (cI cZ cB : ClassId) (sz : Nat) (ru : Nat) (la : Nat) (gr : Nat) (rk : Nat) (rs : Nat) (rt : Nat) (rv : Nat) (tt : Int32) (kg : Int32) (vc : Int32) : kt_Mv l yX6_dismiss wsX6_dismiss { frames := 0, cells := 0, slots := 0, locals := 0 } D (kt_ty cI cZ cB) [.ref ru] sz [(ru, .inr (6, [.ref la, .ref gr, .ref rk, .ref rs, .ref rt, .int tt, .int kg, .ref rv, .int vc]))] (fun (u : Unit) => True) (fun (u : Unit) => [(ru, .inr (6, [.ref la, .ref gr, .ref rk, .ref rs, .ref rt, .int 0, .int (-1), .ref rv, .int vc]))]) 0 0 := by
  refine kt_Mv.of (cc := cX6_dismiss) (maxL := 1) (ret := none) (by decide) rfl (Nat.le_of_ble_eq_true rfl) ?_
  intro p e s m below meth c A ls H hAt hP hD hS hl
  obtain ⟨hx, hb, hr, hml, hown, hts, hN, hK, hlk, hnm, hA⟩ := hAt
  have hl : lv_has ls 1 [(0, .ref ru)] := hl
  have hown : s.vm.findClass RX6 = some m.cls := hown
  refine lv_aload_n hx hb dX6_dismiss_0 rfl (lv_at hl 0 rfl) ?_
  refine lv_iconst (v := 0) hx hb dX6_dismiss_1 (by decide) ?_
  refine va_put (D := D) (ci := 6) (v := .int 0) (ty := .int) (C := RX6) (T := TX6) (N := 9) hx hb hts iw_X6_dismiss_X6 tyX6 tyX6_ok nmX6 hown hK hP hD hS 0 rfl rfl 5 (by decide) (hts (.fieldLink RX6 40 "KingTable$Rules" "total" "I") (by decide +kernel)) (fun _ h9 => h9) rfl (by decide +kernel) rfl rfl (Nat.le_of_ble_eq_true rfl) dX6_dismiss_2 (fun H locs hP hD hS => ?_)
  have hP : va_P D vwCl [(ru, .inr (6, [.ref la, .ref gr, .ref rk, .ref rs, .ref rt, .int 0, .int kg, .ref rv, .int vc]))] H := hP
  have hD : va_D A [(ru, .inr (6, [.ref la, .ref gr, .ref rk, .ref rs, .ref rt, .int 0, .int kg, .ref rv, .int vc]))] := hD
  refine lv_aload_n hx hb dX6_dismiss_5 rfl (lv_at hl 0 rfl) ?_
  refine lv_iconst (v := (-1)) hx hb dX6_dismiss_6 (by decide) ?_
  refine va_put (D := D) (ci := 6) (v := .int (-1)) (ty := .int) (C := RX6) (T := TX6) (N := 9) hx hb hts iw_X6_dismiss_X6 tyX6 tyX6_ok nmX6 hown hK hP hD hS 0 rfl rfl 6 (by decide) (hts (.fieldLink RX6 29 "KingTable$Rules" "king" "I") (by decide +kernel)) (fun _ h9 => h9) rfl (by decide +kernel) rfl rfl (Nat.le_of_ble_eq_true rfl) dX6_dismiss_7 (fun H locs hP hD hS => ?_)
  have hP : va_P D vwCl [(ru, .inr (6, [.ref la, .ref gr, .ref rk, .ref rs, .ref rt, .int 0, .int (-1), .ref rv, .int vc]))] H := hP
  have hD : va_D A [(ru, .inr (6, [.ref la, .ref gr, .ref rk, .ref rs, .ref rt, .int 0, .int (-1), .ref rv, .int vc]))] := hD
  exact kt_rv () hx hb hr hlk hS dX6_dismiss_10 hP hD (by first | rfl | trivial | assumption | (simp_all; done) | grind)

theorem iw_X4_finish_X4 : ∀ w ∈ wsX40, w ∈ wsX4_finish := by decide +kernel
set_option maxHeartbeats 4000000 in
set_option maxRecDepth 100000 in
theorem c_X4_finish (l : Launch) (D : va_G) (cI cZ cB : ClassId) (sz : Nat) (pl : Nat) (la : Nat) (ru : Nat) (nw : Nat) (lo : Nat) (gr : Nat) (rk : Nat) (rs : Nat) (rt : Nat) (rv : Nat) (sf : Nat) (sh : Nat) (l0 : Nat) (l1 : Nat) (l2 : Nat) (l3 : Nat) (l4 : Nat) (l5 : Nat) (l6 : Nat) (st : Int32) (tt : Int32) (kg : Int32) (vc : Int32) (tu : Int32) (dn : Int32) (kn : Int32) (ff : Nat → Int32) (fh : Nat → Int32) : kt_Mv l yX4_finish wsX4_finish { frames := 2, cells := 0, slots := 0, locals := 43 } D (kt_ty cI cZ cB) [.ref pl] sz [(pl, .inr (4, [.ref la, .ref ru, .ref nw, .ref lo, .int st])), (ru, .inr (6, [.ref la, .ref gr, .ref rk, .ref rs, .ref rt, .int tt, .int kg, .ref rv, .int vc])), (nw, .inr (8, [.ref sf, .ref sh, .int tu])), (sf, .inl (cI, 40, .inl ff)), (sh, .inl (cI, 81, .inl fh)), (lo, .inr (3, [.ref l0, .ref l1, .ref l2, .ref l3, .ref l4, .ref l5, .ref l6, .int dn, .int kn]))] (fun (u : Unit) => True) (fun (u : Unit) => [(pl, .inr (4, [.ref la, .ref ru, .ref nw, .ref lo, .int 0])), (ru, .inr (6, [.ref la, .ref gr, .ref rk, .ref rs, .ref rt, .int 0, .int (-1), .ref rv, .int vc])), (nw, .inr (8, [.ref sf, .ref sh, .int 0])), (sf, .inl (cI, 40, .inl (fun _ => (-1)))), (sh, .inl (cI, 81, .inl (fun _ => (-1)))), (lo, .inr (3, [.ref l0, .ref l1, .ref l2, .ref l3, .ref l4, .ref l5, .ref l6, .int 0, .int 0]))]) 0 0 := by
  refine kt_Mv.of (cc := cX4_finish) (maxL := 1) (ret := none) (by decide) rfl (Nat.le_of_ble_eq_true rfl) ?_
  intro p e s m below meth c A ls H hAt hP hD hS hl
  obtain ⟨hx, hb, hr, hml, hown, hts, hN, hK, hlk, hnm, hA⟩ := hAt
  have hl : lv_has ls 1 [(0, .ref pl)] := hl
  have hown : s.vm.findClass RX4 = some m.cls := hown
  refine lv_aload_n hx hb dX4_finish_0 rfl (lv_at hl 0 rfl) ?_
  refine lv_iconst (v := 0) hx hb dX4_finish_1 (by decide) ?_
  refine va_put (D := D) (ci := 4) (v := .int 0) (ty := .int) (C := RX4) (T := TX4) (N := 5) hx hb hts iw_X4_finish_X4 tyX4 tyX4_ok nmX4 hown hK hP hD hS 0 rfl rfl 4 (by decide) (hts (.fieldLink RX4 25 "KingTable$Play" "state" "I") (by decide +kernel)) (fun _ h9 => h9) rfl (by decide +kernel) rfl rfl (Nat.le_of_ble_eq_true rfl) dX4_finish_2 (fun H locs hP hD hS => ?_)
  have hP : va_P D vwCl [(pl, .inr (4, [.ref la, .ref ru, .ref nw, .ref lo, .int 0])), (ru, .inr (6, [.ref la, .ref gr, .ref rk, .ref rs, .ref rt, .int tt, .int kg, .ref rv, .int vc])), (nw, .inr (8, [.ref sf, .ref sh, .int tu])), (sf, .inl (cI, 40, .inl ff)), (sh, .inl (cI, 81, .inl fh)), (lo, .inr (3, [.ref l0, .ref l1, .ref l2, .ref l3, .ref l4, .ref l5, .ref l6, .int dn, .int kn]))] H := hP
  have hD : va_D A [(pl, .inr (4, [.ref la, .ref ru, .ref nw, .ref lo, .int 0])), (ru, .inr (6, [.ref la, .ref gr, .ref rk, .ref rs, .ref rt, .int tt, .int kg, .ref rv, .int vc])), (nw, .inr (8, [.ref sf, .ref sh, .int tu])), (sf, .inl (cI, 40, .inl ff)), (sh, .inl (cI, 81, .inl fh)), (lo, .inr (3, [.ref l0, .ref l1, .ref l2, .ref l3, .ref l4, .ref l5, .ref l6, .int dn, .int kn]))] := hD
  refine lv_aload_n hx hb dX4_finish_5 rfl (lv_at hl 0 rfl) ?_
  refine va_get (D := D) (ci := 4) (C := RX4) (T := TX4) (N := 5) hx hb hts iw_X4_finish_X4 hown hK hP 0 rfl rfl 1 (by decide) (hts (.fieldLink RX4 33 "KingTable$Play" "rules" "LKingTable$Rules;") (by decide +kernel)) (fun _ h9 => h9) rfl dX4_finish_6 ?_
  refine kt_bv (wc := [(ru, .inr (6, [.ref la, .ref gr, .ref rk, .ref rs, .ref rt, .int tt, .int kg, .ref rv, .int vc]))]) (wr := [(pl, .inr (4, [.ref la, .ref ru, .ref nw, .ref lo, .int 0])), (nw, .inr (8, [.ref sf, .ref sh, .int tu])), (sf, .inl (cI, 40, .inl ff)), (sh, .inl (cI, 81, .inl fh)), (lo, .inr (3, [.ref l0, .ref l1, .ref l2, .ref l3, .ref l4, .ref l5, .ref l6, .int dn, .int kn]))]) [1] [0, 2, 3, 4, 5] hP hD hS hA rfl rfl (by decide) (by decide) (by decide) (fun hPc hDc => va_runV (As := []) (rest := []) ⟨hx, hb, hml, hown, hts⟩ (c_X6_dismiss l D cI cZ cB H.size ru la gr rk rs rt rv tt kg vc ) (cwV 0 hts gX4_finish_X6_dismiss rfl rfl rfl (by decide +kernel) ⟨Nat.le_of_ble_eq_true rfl, Nat.le_of_ble_eq_true rfl⟩) (kt_preV hN hK hPc hDc 0 (ci := 6) (q := (RX6, TX6, 9)) rfl rfl) rfl rfl hl.1 rfl (lv_room (Nat.le_of_ble_eq_true rfl)) dX4_finish_9 ⟨Nat.le_of_ble_eq_true rfl, Nat.le_of_ble_eq_true rfl⟩) (fun u_ H locs hw_9 hP hD hS => ?_)
  have hP : va_P D vwCl [(pl, .inr (4, [.ref la, .ref ru, .ref nw, .ref lo, .int 0])), (ru, .inr (6, [.ref la, .ref gr, .ref rk, .ref rs, .ref rt, .int 0, .int (-1), .ref rv, .int vc])), (nw, .inr (8, [.ref sf, .ref sh, .int tu])), (sf, .inl (cI, 40, .inl ff)), (sh, .inl (cI, 81, .inl fh)), (lo, .inr (3, [.ref l0, .ref l1, .ref l2, .ref l3, .ref l4, .ref l5, .ref l6, .int dn, .int kn]))] H := hP.sub [0, 5, 1, 2, 3, 4] rfl
  have hD : va_D A [(pl, .inr (4, [.ref la, .ref ru, .ref nw, .ref lo, .int 0])), (ru, .inr (6, [.ref la, .ref gr, .ref rk, .ref rs, .ref rt, .int 0, .int (-1), .ref rv, .int vc])), (nw, .inr (8, [.ref sf, .ref sh, .int tu])), (sf, .inl (cI, 40, .inl ff)), (sh, .inl (cI, 81, .inl fh)), (lo, .inr (3, [.ref l0, .ref l1, .ref l2, .ref l3, .ref l4, .ref l5, .ref l6, .int dn, .int kn]))] := hD.sub [0, 5, 1, 2, 3, 4] (by decide) rfl
  refine lv_aload_n hx hb dX4_finish_12 rfl (lv_at hl 0 rfl) ?_
  refine va_get (D := D) (ci := 4) (C := RX4) (T := TX4) (N := 5) hx hb hts iw_X4_finish_X4 hown hK hP 0 rfl rfl 2 (by decide) (hts (.fieldLink RX4 12 "KingTable$Play" "now" "LKingTable$Stand;") (by decide +kernel)) (fun _ h9 => h9) rfl dX4_finish_13 ?_
  refine kt_bv (wc := [(nw, .inr (8, [.ref sf, .ref sh, .int tu])), (sf, .inl (cI, 40, .inl ff)), (sh, .inl (cI, 81, .inl fh))]) (wr := [(pl, .inr (4, [.ref la, .ref ru, .ref nw, .ref lo, .int 0])), (ru, .inr (6, [.ref la, .ref gr, .ref rk, .ref rs, .ref rt, .int 0, .int (-1), .ref rv, .int vc])), (lo, .inr (3, [.ref l0, .ref l1, .ref l2, .ref l3, .ref l4, .ref l5, .ref l6, .int dn, .int kn]))]) [2, 3, 4] [0, 1, 5] hP hD hS hA rfl rfl (by decide) (by decide) (by decide) (fun hPc hDc => va_runV (As := []) (rest := []) ⟨hx, hb, hml, hown, hts⟩ (c_X8_clear l D cI cZ cB H.size nw sf sh ff fh tu ) (cwV 0 hts gX4_finish_X8_clear rfl rfl rfl (by decide +kernel) ⟨Nat.le_of_ble_eq_true rfl, Nat.le_of_ble_eq_true rfl⟩) (kt_preV hN hK hPc hDc 0 (ci := 8) (q := (RX8, TX8, 3)) rfl rfl) rfl rfl hl.1 rfl (lv_room (Nat.le_of_ble_eq_true rfl)) dX4_finish_16 ⟨Nat.le_of_ble_eq_true rfl, Nat.le_of_ble_eq_true rfl⟩) (fun u_ H locs hw_16 hP hD hS => ?_)
  have hP : va_P D vwCl [(pl, .inr (4, [.ref la, .ref ru, .ref nw, .ref lo, .int 0])), (ru, .inr (6, [.ref la, .ref gr, .ref rk, .ref rs, .ref rt, .int 0, .int (-1), .ref rv, .int vc])), (nw, .inr (8, [.ref sf, .ref sh, .int 0])), (sf, .inl (cI, 40, .inl (fun _ => (-1)))), (sh, .inl (cI, 81, .inl (fun _ => (-1)))), (lo, .inr (3, [.ref l0, .ref l1, .ref l2, .ref l3, .ref l4, .ref l5, .ref l6, .int dn, .int kn]))] H := hP.sub [0, 1, 3, 4, 5, 2] rfl
  have hD : va_D A [(pl, .inr (4, [.ref la, .ref ru, .ref nw, .ref lo, .int 0])), (ru, .inr (6, [.ref la, .ref gr, .ref rk, .ref rs, .ref rt, .int 0, .int (-1), .ref rv, .int vc])), (nw, .inr (8, [.ref sf, .ref sh, .int 0])), (sf, .inl (cI, 40, .inl (fun _ => (-1)))), (sh, .inl (cI, 81, .inl (fun _ => (-1)))), (lo, .inr (3, [.ref l0, .ref l1, .ref l2, .ref l3, .ref l4, .ref l5, .ref l6, .int dn, .int kn]))] := hD.sub [0, 1, 3, 4, 5, 2] (by decide) rfl
  refine lv_aload_n hx hb dX4_finish_19 rfl (lv_at hl 0 rfl) ?_
  refine va_get (D := D) (ci := 4) (C := RX4) (T := TX4) (N := 5) hx hb hts iw_X4_finish_X4 hown hK hP 0 rfl rfl 3 (by decide) (hts (.fieldLink RX4 21 "KingTable$Play" "log" "LKingTable$Log;") (by decide +kernel)) (fun _ h9 => h9) rfl dX4_finish_20 ?_
  refine kt_bv (wc := [(lo, .inr (3, [.ref l0, .ref l1, .ref l2, .ref l3, .ref l4, .ref l5, .ref l6, .int dn, .int kn]))]) (wr := [(pl, .inr (4, [.ref la, .ref ru, .ref nw, .ref lo, .int 0])), (ru, .inr (6, [.ref la, .ref gr, .ref rk, .ref rs, .ref rt, .int 0, .int (-1), .ref rv, .int vc])), (nw, .inr (8, [.ref sf, .ref sh, .int 0])), (sf, .inl (cI, 40, .inl (fun _ => (-1)))), (sh, .inl (cI, 81, .inl (fun _ => (-1))))]) [5] [0, 1, 2, 3, 4] hP hD hS hA rfl rfl (by decide) (by decide) (by decide) (fun hPc hDc => va_runV (As := []) (rest := []) ⟨hx, hb, hml, hown, hts⟩ (c_X3_clear l D cI cZ cB H.size lo l0 l1 l2 l3 l4 l5 l6 dn kn ) (cwV 0 hts gX4_finish_X3_clear rfl rfl rfl (by decide +kernel) ⟨Nat.le_of_ble_eq_true rfl, Nat.le_of_ble_eq_true rfl⟩) (kt_preV hN hK hPc hDc 0 (ci := 3) (q := (RX3, TX3, 9)) rfl rfl) rfl rfl hl.1 rfl (lv_room (Nat.le_of_ble_eq_true rfl)) dX4_finish_23 ⟨Nat.le_of_ble_eq_true rfl, Nat.le_of_ble_eq_true rfl⟩) (fun u_ H locs hw_23 hP hD hS => ?_)
  have hP : va_P D vwCl [(pl, .inr (4, [.ref la, .ref ru, .ref nw, .ref lo, .int 0])), (ru, .inr (6, [.ref la, .ref gr, .ref rk, .ref rs, .ref rt, .int 0, .int (-1), .ref rv, .int vc])), (nw, .inr (8, [.ref sf, .ref sh, .int 0])), (sf, .inl (cI, 40, .inl (fun _ => (-1)))), (sh, .inl (cI, 81, .inl (fun _ => (-1)))), (lo, .inr (3, [.ref l0, .ref l1, .ref l2, .ref l3, .ref l4, .ref l5, .ref l6, .int 0, .int 0]))] H := hP.sub [0, 1, 2, 3, 4, 5] rfl
  have hD : va_D A [(pl, .inr (4, [.ref la, .ref ru, .ref nw, .ref lo, .int 0])), (ru, .inr (6, [.ref la, .ref gr, .ref rk, .ref rs, .ref rt, .int 0, .int (-1), .ref rv, .int vc])), (nw, .inr (8, [.ref sf, .ref sh, .int 0])), (sf, .inl (cI, 40, .inl (fun _ => (-1)))), (sh, .inl (cI, 81, .inl (fun _ => (-1)))), (lo, .inr (3, [.ref l0, .ref l1, .ref l2, .ref l3, .ref l4, .ref l5, .ref l6, .int 0, .int 0]))] := hD.sub [0, 1, 2, 3, 4, 5] (by decide) rfl
  exact kt_rv () hx hb hr hlk hS dX4_finish_26 hP hD (by first | rfl | trivial | assumption | (simp_all; done) | grind)

theorem iw_X7_forget_X7 : ∀ w ∈ wsX70, w ∈ wsX7_forget := by decide +kernel
set_option maxHeartbeats 4000000 in
set_option maxRecDepth 100000 in
theorem c_X7_forget (l : Launch) (D : va_G) (cI cZ cB : ClassId) (sz : Nat) (so : Nat) (ru : Nat) (tr : Nat) (lk : Nat) (vp : Nat) (vd : Nat) (vt : Nat) (vg : Nat) (vw : Nat) (ve : Nat) (vo : Nat) (vq : Nat) (qd : Int32) (pp : Int32) (ct : Int32) (sv : Int32) : kt_Mv l yX7_forget wsX7_forget { frames := 0, cells := 0, slots := 0, locals := 0 } D (kt_ty cI cZ cB) [.ref so] sz [(so, .inr (7, [.ref ru, .ref tr, .ref lk, .ref vp, .ref vd, .ref vt, .ref vg, .ref vw, .ref ve, .ref vo, .ref vq, .int qd, .int pp, .int ct, .int sv]))] (fun (u : Unit) => True) (fun (u : Unit) => [(so, .inr (7, [.ref ru, .ref tr, .ref lk, .ref vp, .ref vd, .ref vt, .ref vg, .ref vw, .ref ve, .ref vo, .ref vq, .int qd, .int pp, .int ct, .int 0]))]) 0 0 := by
  refine kt_Mv.of (cc := cX7_forget) (maxL := 1) (ret := none) (by decide) rfl (Nat.le_of_ble_eq_true rfl) ?_
  intro p e s m below meth c A ls H hAt hP hD hS hl
  obtain ⟨hx, hb, hr, hml, hown, hts, hN, hK, hlk, hnm, hA⟩ := hAt
  have hl : lv_has ls 1 [(0, .ref so)] := hl
  have hown : s.vm.findClass RX7 = some m.cls := hown
  refine lv_aload_n hx hb dX7_forget_0 rfl (lv_at hl 0 rfl) ?_
  refine lv_iconst (v := 0) hx hb dX7_forget_1 (by decide) ?_
  refine va_put (D := D) (ci := 7) (v := .int 0) (ty := .boolean) (C := RX7) (T := TX7) (N := 15) hx hb hts iw_X7_forget_X7 tyX7 tyX7_ok nmX7 hown hK hP hD hS 0 rfl rfl 14 (by decide) (hts (.fieldLink RX7 54 "KingTable$Solver" "solved" "Z") (by decide +kernel)) (fun _ h9 => h9) rfl (by decide +kernel) rfl rfl (Nat.le_of_ble_eq_true rfl) dX7_forget_2 (fun H locs hP hD hS => ?_)
  have hP : va_P D vwCl [(so, .inr (7, [.ref ru, .ref tr, .ref lk, .ref vp, .ref vd, .ref vt, .ref vg, .ref vw, .ref ve, .ref vo, .ref vq, .int qd, .int pp, .int ct, .int 0]))] H := hP
  have hD : va_D A [(so, .inr (7, [.ref ru, .ref tr, .ref lk, .ref vp, .ref vd, .ref vt, .ref vg, .ref vw, .ref ve, .ref vo, .ref vq, .int qd, .int pp, .int ct, .int 0]))] := hD
  exact kt_rv () hx hb hr hlk hS dX7_forget_5 hP hD (by first | rfl | trivial | assumption | (simp_all; done) | grind)

theorem iw_X10_endPlay_X10 : ∀ w ∈ wsX100, w ∈ wsX10_endPlay := by decide +kernel
set_option maxHeartbeats 4000000 in
set_option maxRecDepth 100000 in
theorem c_X10_endPlay (l : Launch) (D : va_G) (cI cZ cB : ClassId) (sz : Nat) (kt : Nat) (to : Nat) (ho : Nat) (so : Nat) (pl : Nat) (la : Nat) (ru : Nat) (nw : Nat) (lo : Nat) (gr : Nat) (rk : Nat) (rs : Nat) (rt : Nat) (rv : Nat) (sf : Nat) (sh : Nat) (l0 : Nat) (l1 : Nat) (l2 : Nat) (l3 : Nat) (l4 : Nat) (l5 : Nat) (l6 : Nat) (st : Int32) (tt : Int32) (kg : Int32) (vc : Int32) (tu : Int32) (dn : Int32) (kn : Int32) (ff : Nat → Int32) (fh : Nat → Int32) (tr : Nat) (lk : Nat) (vp : Nat) (vd : Nat) (vt : Nat) (vg : Nat) (vw : Nat) (ve : Nat) (vo : Nat) (vq : Nat) (qd : Int32) (pp : Int32) (ct : Int32) (sv : Int32) : kt_Mv l yX10_endPlay wsX10_endPlay { frames := 3, cells := 0, slots := 0, locals := 63 } D (kt_ty cI cZ cB) [.ref kt] sz [(kt, .inr (10, [.ref to, .ref la, .ref ru, .ref pl, .ref ho, .ref so])), (pl, .inr (4, [.ref la, .ref ru, .ref nw, .ref lo, .int st])), (ru, .inr (6, [.ref la, .ref gr, .ref rk, .ref rs, .ref rt, .int tt, .int kg, .ref rv, .int vc])), (nw, .inr (8, [.ref sf, .ref sh, .int tu])), (sf, .inl (cI, 40, .inl ff)), (sh, .inl (cI, 81, .inl fh)), (lo, .inr (3, [.ref l0, .ref l1, .ref l2, .ref l3, .ref l4, .ref l5, .ref l6, .int dn, .int kn])), (so, .inr (7, [.ref ru, .ref tr, .ref lk, .ref vp, .ref vd, .ref vt, .ref vg, .ref vw, .ref ve, .ref vo, .ref vq, .int qd, .int pp, .int ct, .int sv]))] (fun (u : Unit) => True) (fun (u : Unit) => [(kt, .inr (10, [.ref to, .ref la, .ref ru, .ref pl, .ref ho, .ref so])), (pl, .inr (4, [.ref la, .ref ru, .ref nw, .ref lo, .int 0])), (ru, .inr (6, [.ref la, .ref gr, .ref rk, .ref rs, .ref rt, .int 0, .int (-1), .ref rv, .int vc])), (nw, .inr (8, [.ref sf, .ref sh, .int 0])), (sf, .inl (cI, 40, .inl (fun _ => (-1)))), (sh, .inl (cI, 81, .inl (fun _ => (-1)))), (lo, .inr (3, [.ref l0, .ref l1, .ref l2, .ref l3, .ref l4, .ref l5, .ref l6, .int 0, .int 0])), (so, .inr (7, [.ref ru, .ref tr, .ref lk, .ref vp, .ref vd, .ref vt, .ref vg, .ref vw, .ref ve, .ref vo, .ref vq, .int qd, .int pp, .int ct, .int 0]))]) 0 0 := by
  refine kt_Mv.of (cc := cX10_endPlay) (maxL := 1) (ret := none) (by decide) rfl (Nat.le_of_ble_eq_true rfl) ?_
  intro p e s m below meth c A ls H hAt hP hD hS hl
  obtain ⟨hx, hb, hr, hml, hown, hts, hN, hK, hlk, hnm, hA⟩ := hAt
  have hl : lv_has ls 1 [(0, .ref kt)] := hl
  have hown : s.vm.findClass RX10 = some m.cls := hown
  refine lv_aload_n hx hb dX10_endPlay_0 rfl (lv_at hl 0 rfl) ?_
  refine va_get (D := D) (ci := 10) (C := RX10) (T := TX10) (N := 6) hx hb hts iw_X10_endPlay_X10 hown hK hP 0 rfl rfl 3 (by decide) (hts (.fieldLink RX10 37 "KingTable" "play" "LKingTable$Play;") (by decide +kernel)) (fun _ h9 => h9) rfl dX10_endPlay_1 ?_
  refine kt_bv (wc := [(pl, .inr (4, [.ref la, .ref ru, .ref nw, .ref lo, .int st])), (ru, .inr (6, [.ref la, .ref gr, .ref rk, .ref rs, .ref rt, .int tt, .int kg, .ref rv, .int vc])), (nw, .inr (8, [.ref sf, .ref sh, .int tu])), (sf, .inl (cI, 40, .inl ff)), (sh, .inl (cI, 81, .inl fh)), (lo, .inr (3, [.ref l0, .ref l1, .ref l2, .ref l3, .ref l4, .ref l5, .ref l6, .int dn, .int kn]))]) (wr := [(kt, .inr (10, [.ref to, .ref la, .ref ru, .ref pl, .ref ho, .ref so])), (so, .inr (7, [.ref ru, .ref tr, .ref lk, .ref vp, .ref vd, .ref vt, .ref vg, .ref vw, .ref ve, .ref vo, .ref vq, .int qd, .int pp, .int ct, .int sv]))]) [1, 2, 3, 4, 5, 6] [0, 7] hP hD hS hA rfl rfl (by decide) (by decide) (by decide) (fun hPc hDc => va_runV (As := []) (rest := []) ⟨hx, hb, hml, hown, hts⟩ (c_X4_finish l D cI cZ cB H.size pl la ru nw lo gr rk rs rt rv sf sh l0 l1 l2 l3 l4 l5 l6 st tt kg vc tu dn kn ff fh ) (cwV 0 hts gX10_endPlay_X4_finish rfl rfl rfl (by decide +kernel) ⟨Nat.le_of_ble_eq_true rfl, Nat.le_of_ble_eq_true rfl⟩) (kt_preV hN hK hPc hDc 0 (ci := 4) (q := (RX4, TX4, 5)) rfl rfl) rfl rfl hl.1 rfl (lv_room (Nat.le_of_ble_eq_true rfl)) dX10_endPlay_4 ⟨Nat.le_of_ble_eq_true rfl, Nat.le_of_ble_eq_true rfl⟩) (fun u_ H locs hw_4 hP hD hS => ?_)
  have hP : va_P D vwCl [(kt, .inr (10, [.ref to, .ref la, .ref ru, .ref pl, .ref ho, .ref so])), (pl, .inr (4, [.ref la, .ref ru, .ref nw, .ref lo, .int 0])), (ru, .inr (6, [.ref la, .ref gr, .ref rk, .ref rs, .ref rt, .int 0, .int (-1), .ref rv, .int vc])), (nw, .inr (8, [.ref sf, .ref sh, .int 0])), (sf, .inl (cI, 40, .inl (fun _ => (-1)))), (sh, .inl (cI, 81, .inl (fun _ => (-1)))), (lo, .inr (3, [.ref l0, .ref l1, .ref l2, .ref l3, .ref l4, .ref l5, .ref l6, .int 0, .int 0])), (so, .inr (7, [.ref ru, .ref tr, .ref lk, .ref vp, .ref vd, .ref vt, .ref vg, .ref vw, .ref ve, .ref vo, .ref vq, .int qd, .int pp, .int ct, .int sv]))] H := hP.sub [0, 2, 3, 4, 5, 6, 7, 1] rfl
  have hD : va_D A [(kt, .inr (10, [.ref to, .ref la, .ref ru, .ref pl, .ref ho, .ref so])), (pl, .inr (4, [.ref la, .ref ru, .ref nw, .ref lo, .int 0])), (ru, .inr (6, [.ref la, .ref gr, .ref rk, .ref rs, .ref rt, .int 0, .int (-1), .ref rv, .int vc])), (nw, .inr (8, [.ref sf, .ref sh, .int 0])), (sf, .inl (cI, 40, .inl (fun _ => (-1)))), (sh, .inl (cI, 81, .inl (fun _ => (-1)))), (lo, .inr (3, [.ref l0, .ref l1, .ref l2, .ref l3, .ref l4, .ref l5, .ref l6, .int 0, .int 0])), (so, .inr (7, [.ref ru, .ref tr, .ref lk, .ref vp, .ref vd, .ref vt, .ref vg, .ref vw, .ref ve, .ref vo, .ref vq, .int qd, .int pp, .int ct, .int sv]))] := hD.sub [0, 2, 3, 4, 5, 6, 7, 1] (by decide) rfl
  refine lv_aload_n hx hb dX10_endPlay_7 rfl (lv_at hl 0 rfl) ?_
  refine va_get (D := D) (ci := 10) (C := RX10) (T := TX10) (N := 6) hx hb hts iw_X10_endPlay_X10 hown hK hP 0 rfl rfl 5 (by decide) (hts (.fieldLink RX10 53 "KingTable" "solver" "LKingTable$Solver;") (by decide +kernel)) (fun _ h9 => h9) rfl dX10_endPlay_8 ?_
  refine kt_bv (wc := [(so, .inr (7, [.ref ru, .ref tr, .ref lk, .ref vp, .ref vd, .ref vt, .ref vg, .ref vw, .ref ve, .ref vo, .ref vq, .int qd, .int pp, .int ct, .int sv]))]) (wr := [(kt, .inr (10, [.ref to, .ref la, .ref ru, .ref pl, .ref ho, .ref so])), (pl, .inr (4, [.ref la, .ref ru, .ref nw, .ref lo, .int 0])), (ru, .inr (6, [.ref la, .ref gr, .ref rk, .ref rs, .ref rt, .int 0, .int (-1), .ref rv, .int vc])), (nw, .inr (8, [.ref sf, .ref sh, .int 0])), (sf, .inl (cI, 40, .inl (fun _ => (-1)))), (sh, .inl (cI, 81, .inl (fun _ => (-1)))), (lo, .inr (3, [.ref l0, .ref l1, .ref l2, .ref l3, .ref l4, .ref l5, .ref l6, .int 0, .int 0]))]) [7] [0, 1, 2, 3, 4, 5, 6] hP hD hS hA rfl rfl (by decide) (by decide) (by decide) (fun hPc hDc => va_runV (As := []) (rest := []) ⟨hx, hb, hml, hown, hts⟩ (c_X7_forget l D cI cZ cB H.size so ru tr lk vp vd vt vg vw ve vo vq qd pp ct sv ) (cwV 0 hts gX10_endPlay_X7_forget rfl rfl rfl (by decide +kernel) ⟨Nat.le_of_ble_eq_true rfl, Nat.le_of_ble_eq_true rfl⟩) (kt_preV hN hK hPc hDc 0 (ci := 7) (q := (RX7, TX7, 15)) rfl rfl) rfl rfl hl.1 rfl (lv_room (Nat.le_of_ble_eq_true rfl)) dX10_endPlay_11 ⟨Nat.le_of_ble_eq_true rfl, Nat.le_of_ble_eq_true rfl⟩) (fun u_ H locs hw_11 hP hD hS => ?_)
  have hP : va_P D vwCl [(kt, .inr (10, [.ref to, .ref la, .ref ru, .ref pl, .ref ho, .ref so])), (pl, .inr (4, [.ref la, .ref ru, .ref nw, .ref lo, .int 0])), (ru, .inr (6, [.ref la, .ref gr, .ref rk, .ref rs, .ref rt, .int 0, .int (-1), .ref rv, .int vc])), (nw, .inr (8, [.ref sf, .ref sh, .int 0])), (sf, .inl (cI, 40, .inl (fun _ => (-1)))), (sh, .inl (cI, 81, .inl (fun _ => (-1)))), (lo, .inr (3, [.ref l0, .ref l1, .ref l2, .ref l3, .ref l4, .ref l5, .ref l6, .int 0, .int 0])), (so, .inr (7, [.ref ru, .ref tr, .ref lk, .ref vp, .ref vd, .ref vt, .ref vg, .ref vw, .ref ve, .ref vo, .ref vq, .int qd, .int pp, .int ct, .int 0]))] H := hP.sub [0, 1, 2, 3, 4, 5, 6, 7] rfl
  have hD : va_D A [(kt, .inr (10, [.ref to, .ref la, .ref ru, .ref pl, .ref ho, .ref so])), (pl, .inr (4, [.ref la, .ref ru, .ref nw, .ref lo, .int 0])), (ru, .inr (6, [.ref la, .ref gr, .ref rk, .ref rs, .ref rt, .int 0, .int (-1), .ref rv, .int vc])), (nw, .inr (8, [.ref sf, .ref sh, .int 0])), (sf, .inl (cI, 40, .inl (fun _ => (-1)))), (sh, .inl (cI, 81, .inl (fun _ => (-1)))), (lo, .inr (3, [.ref l0, .ref l1, .ref l2, .ref l3, .ref l4, .ref l5, .ref l6, .int 0, .int 0])), (so, .inr (7, [.ref ru, .ref tr, .ref lk, .ref vp, .ref vd, .ref vt, .ref vg, .ref vw, .ref ve, .ref vo, .ref vq, .int qd, .int pp, .int ct, .int 0]))] := hD.sub [0, 1, 2, 3, 4, 5, 6, 7] (by decide) rfl
  exact kt_rv () hx hb hr hlk hS dX10_endPlay_14 hP hD (by first | rfl | trivial | assumption | (simp_all; done) | grind)

theorem iw_X10_board_X10 : ∀ w ∈ wsX100, w ∈ wsX10_board := by decide +kernel
set_option maxHeartbeats 4000000 in
set_option maxRecDepth 100000 in
theorem f_X10_board (l : Launch) (D : va_G) (cI cZ cB : ClassId) (sz : Nat) (kt : Nat) (to : Nat) (la : Nat) (ru : Nat) (pl : Nat) (ho : Nat) (so : Nat) (sg : Nat) (nw : Nat) (lo : Nat) (gr : Nat) (rk : Nat) (rs : Nat) (rt : Nat) (rv : Nat) (sf : Nat) (sh : Nat) (l0 : Nat) (l1 : Nat) (l2 : Nat) (l3 : Nat) (l4 : Nat) (l5 : Nat) (l6 : Nat) (tr : Nat) (lk : Nat) (vp : Nat) (vd : Nat) (vt : Nat) (vg : Nat) (vw : Nat) (ve : Nat) (vo : Nat) (vq : Nat) (p1 : Int32) (p2 : Int32) : kt_Mi l yX10_board wsX10_board { frames := 4, cells := 0, slots := 0, locals := 83 } D (kt_ty cI cZ cB) [.ref kt, .int p1, .int p2] sz [(kt, .inr (10, [.ref to, .ref la, .ref ru, .ref pl, .ref ho, .ref so])), (to, .inr (9, [.ref sg, .int 3, .int 3])), (sg, .inl (cI, 81, .inl (fun _ => 0))), (pl, .inr (4, [.ref la, .ref ru, .ref nw, .ref lo, .int 0])), (ru, .inr (6, [.ref la, .ref gr, .ref rk, .ref rs, .ref rt, .int 0, .int (-1), .ref rv, .int 0])), (nw, .inr (8, [.ref sf, .ref sh, .int 0])), (sf, .inl (cI, 40, .inl (fun _ => (-1)))), (sh, .inl (cI, 81, .inl (fun _ => (-1)))), (lo, .inr (3, [.ref l0, .ref l1, .ref l2, .ref l3, .ref l4, .ref l5, .ref l6, .int 0, .int 0])), (so, .inr (7, [.ref ru, .ref tr, .ref lk, .ref vp, .ref vd, .ref vt, .ref vg, .ref vw, .ref ve, .ref vo, .ref vq, .int 0, .int 0, .int 0, .int 0]))] (fun (r : Int32) (u : Int32 × Int32 × (Nat → Int32)) => kt_B r (2 ≤ p1 ∧ p1 ≤ 9 ∧ 2 ≤ p2 ∧ p2 ≤ 9)) (fun (u : Int32 × Int32 × (Nat → Int32)) => [(kt, .inr (10, [.ref to, .ref la, .ref ru, .ref pl, .ref ho, .ref so])), (to, .inr (9, [.ref sg, .int u.1, .int u.2.1])), (sg, .inl (cI, 81, .inl u.2.2)), (pl, .inr (4, [.ref la, .ref ru, .ref nw, .ref lo, .int 0])), (ru, .inr (6, [.ref la, .ref gr, .ref rk, .ref rs, .ref rt, .int 0, .int (-1), .ref rv, .int 0])), (nw, .inr (8, [.ref sf, .ref sh, .int 0])), (sf, .inl (cI, 40, .inl (fun _ => (-1)))), (sh, .inl (cI, 81, .inl (fun _ => (-1)))), (lo, .inr (3, [.ref l0, .ref l1, .ref l2, .ref l3, .ref l4, .ref l5, .ref l6, .int 0, .int 0])), (so, .inr (7, [.ref ru, .ref tr, .ref lk, .ref vp, .ref vd, .ref vt, .ref vg, .ref vw, .ref ve, .ref vo, .ref vq, .int 0, .int 0, .int 0, .int 0]))]) 0 0 := by
  refine kt_Mi.of (cc := cX10_board) (maxL := 3) (ret := some .boolean) (by decide) rfl (Nat.le_of_ble_eq_true rfl) ?_
  intro p e s m below meth c A ls H hAt hP hD hS hl
  obtain ⟨hx, hb, hr, hml, hown, hts, hN, hK, hlk, hnm, hA⟩ := hAt
  have hl : lv_has ls 3 [(0, .ref kt), (1, .int p1), (2, .int p2)] := hl
  have hown : s.vm.findClass RX10 = some m.cls := hown
  refine lv_aload_n hx hb dX10_board_0 rfl (lv_at hl 0 rfl) ?_
  refine va_get (D := D) (ci := 10) (C := RX10) (T := TX10) (N := 6) hx hb hts iw_X10_board_X10 hown hK hP 0 rfl rfl 0 (by decide) (hts (.fieldLink RX10 10 "KingTable" "told" "LKingTable$Told;") (by decide +kernel)) (fun _ h9 => h9) rfl dX10_board_1 ?_
  refine lv_iload_n hx hb dX10_board_4 rfl (lv_at hl 1 rfl) ?_
  refine lv_iload_n hx hb dX10_board_5 rfl (lv_at hl 2 rfl) ?_
  refine kt_bi (wc := [(to, .inr (9, [.ref sg, .int 3, .int 3])), (sg, .inl (cI, 81, .inl (fun _ => 0)))]) (wr := [(kt, .inr (10, [.ref to, .ref la, .ref ru, .ref pl, .ref ho, .ref so])), (pl, .inr (4, [.ref la, .ref ru, .ref nw, .ref lo, .int 0])), (ru, .inr (6, [.ref la, .ref gr, .ref rk, .ref rs, .ref rt, .int 0, .int (-1), .ref rv, .int 0])), (nw, .inr (8, [.ref sf, .ref sh, .int 0])), (sf, .inl (cI, 40, .inl (fun _ => (-1)))), (sh, .inl (cI, 81, .inl (fun _ => (-1)))), (lo, .inr (3, [.ref l0, .ref l1, .ref l2, .ref l3, .ref l4, .ref l5, .ref l6, .int 0, .int 0])), (so, .inr (7, [.ref ru, .ref tr, .ref lk, .ref vp, .ref vd, .ref vt, .ref vg, .ref vw, .ref ve, .ref vo, .ref vq, .int 0, .int 0, .int 0, .int 0]))]) [1, 2] [0, 3, 4, 5, 6, 7, 8, 9] hP hD hS hA rfl rfl (by decide) (by decide) (by decide) (fun hPc hDc => va_runV (As := [.int p1, .int p2]) (rest := []) ⟨hx, hb, hml, hown, hts⟩ (c_X9_renew l D cI cZ cB H.size to sg 3 3 (fun _ => 0) p1 p2 ) (cwV 2 hts gX10_board_X9_renew rfl rfl rfl (by decide +kernel) ⟨Nat.le_of_ble_eq_true rfl, Nat.le_of_ble_eq_true rfl⟩) (kt_preV hN hK hPc hDc 0 (ci := 9) (q := (RX9, TX9, 3)) rfl rfl) rfl rfl hl.1 rfl (lv_room (Nat.le_of_ble_eq_true rfl)) dX10_board_6 ⟨Nat.le_of_ble_eq_true rfl, Nat.le_of_ble_eq_true rfl⟩) (fun r_6 u_ H locs hw_6 hP hD hS => ?_)
  obtain ⟨ln2_6, wd2_6, fs2_6⟩ := u_
  have hP : va_P D vwCl [(kt, .inr (10, [.ref to, .ref la, .ref ru, .ref pl, .ref ho, .ref so])), (to, .inr (9, [.ref sg, .int ln2_6, .int wd2_6])), (sg, .inl (cI, 81, .inl fs2_6)), (pl, .inr (4, [.ref la, .ref ru, .ref nw, .ref lo, .int 0])), (ru, .inr (6, [.ref la, .ref gr, .ref rk, .ref rs, .ref rt, .int 0, .int (-1), .ref rv, .int 0])), (nw, .inr (8, [.ref sf, .ref sh, .int 0])), (sf, .inl (cI, 40, .inl (fun _ => (-1)))), (sh, .inl (cI, 81, .inl (fun _ => (-1)))), (lo, .inr (3, [.ref l0, .ref l1, .ref l2, .ref l3, .ref l4, .ref l5, .ref l6, .int 0, .int 0])), (so, .inr (7, [.ref ru, .ref tr, .ref lk, .ref vp, .ref vd, .ref vt, .ref vg, .ref vw, .ref ve, .ref vo, .ref vq, .int 0, .int 0, .int 0, .int 0]))] H := hP.sub [0, 8, 9, 1, 2, 3, 4, 5, 6, 7] rfl
  have hD : va_D A [(kt, .inr (10, [.ref to, .ref la, .ref ru, .ref pl, .ref ho, .ref so])), (to, .inr (9, [.ref sg, .int ln2_6, .int wd2_6])), (sg, .inl (cI, 81, .inl fs2_6)), (pl, .inr (4, [.ref la, .ref ru, .ref nw, .ref lo, .int 0])), (ru, .inr (6, [.ref la, .ref gr, .ref rk, .ref rs, .ref rt, .int 0, .int (-1), .ref rv, .int 0])), (nw, .inr (8, [.ref sf, .ref sh, .int 0])), (sf, .inl (cI, 40, .inl (fun _ => (-1)))), (sh, .inl (cI, 81, .inl (fun _ => (-1)))), (lo, .inr (3, [.ref l0, .ref l1, .ref l2, .ref l3, .ref l4, .ref l5, .ref l6, .int 0, .int 0])), (so, .inr (7, [.ref ru, .ref tr, .ref lk, .ref vp, .ref vd, .ref vt, .ref vg, .ref vw, .ref ve, .ref vo, .ref vq, .int 0, .int 0, .int 0, .int 0]))] := hD.sub [0, 8, 9, 1, 2, 3, 4, 5, 6, 7] (by decide) rfl
  try dsimp only at hw_6
  have hB : kt_B r_6 (2 ≤ p1 ∧ p1 ≤ 9 ∧ 2 ≤ p2 ∧ p2 ≤ 9) := by
    rcases hw_6 with ⟨h1, h2, -⟩ | ⟨h1, h2, -⟩
    · exact Or.inl ⟨h1, h2⟩
    · exact Or.inr ⟨h1, h2⟩
  refine lv_if_ne (tgt := 14) hx hb dX10_board_9 (by decide) (fun c_9 => ?_) (fun c_9 => ?_)
  · refine lv_aload_n hx hb dX10_board_14 rfl (lv_at hl 0 rfl) ?_
    refine kt_bv (wc := [(kt, .inr (10, [.ref to, .ref la, .ref ru, .ref pl, .ref ho, .ref so])), (pl, .inr (4, [.ref la, .ref ru, .ref nw, .ref lo, .int 0])), (ru, .inr (6, [.ref la, .ref gr, .ref rk, .ref rs, .ref rt, .int 0, .int (-1), .ref rv, .int 0])), (nw, .inr (8, [.ref sf, .ref sh, .int 0])), (sf, .inl (cI, 40, .inl (fun _ => (-1)))), (sh, .inl (cI, 81, .inl (fun _ => (-1)))), (lo, .inr (3, [.ref l0, .ref l1, .ref l2, .ref l3, .ref l4, .ref l5, .ref l6, .int 0, .int 0])), (so, .inr (7, [.ref ru, .ref tr, .ref lk, .ref vp, .ref vd, .ref vt, .ref vg, .ref vw, .ref ve, .ref vo, .ref vq, .int 0, .int 0, .int 0, .int 0]))]) (wr := [(to, .inr (9, [.ref sg, .int ln2_6, .int wd2_6])), (sg, .inl (cI, 81, .inl fs2_6))]) [0, 3, 4, 5, 6, 7, 8, 9] [1, 2] hP hD hS hA rfl rfl (by decide) (by decide) (by decide) (fun hPc hDc => va_runV (As := []) (rest := []) ⟨hx, hb, hml, hown, hts⟩ (c_X10_endPlay l D cI cZ cB H.size kt to ho so pl la ru nw lo gr rk rs rt rv sf sh l0 l1 l2 l3 l4 l5 l6 0 0 (-1) 0 0 0 0 (fun _ => (-1)) (fun _ => (-1)) tr lk vp vd vt vg vw ve vo vq 0 0 0 0 ) (cwV 0 hts gX10_board_X10_endPlay rfl rfl rfl (by decide +kernel) ⟨Nat.le_of_ble_eq_true rfl, Nat.le_of_ble_eq_true rfl⟩) (kt_preV hN hK hPc hDc 0 (ci := 10) (q := (RX10, TX10, 6)) rfl rfl) rfl rfl hl.1 rfl (lv_room (Nat.le_of_ble_eq_true rfl)) dX10_board_15 ⟨Nat.le_of_ble_eq_true rfl, Nat.le_of_ble_eq_true rfl⟩) (fun u_ H locs hw_15 hP hD hS => ?_)
    have hP : va_P D vwCl [(kt, .inr (10, [.ref to, .ref la, .ref ru, .ref pl, .ref ho, .ref so])), (to, .inr (9, [.ref sg, .int ln2_6, .int wd2_6])), (sg, .inl (cI, 81, .inl fs2_6)), (pl, .inr (4, [.ref la, .ref ru, .ref nw, .ref lo, .int 0])), (ru, .inr (6, [.ref la, .ref gr, .ref rk, .ref rs, .ref rt, .int 0, .int (-1), .ref rv, .int 0])), (nw, .inr (8, [.ref sf, .ref sh, .int 0])), (sf, .inl (cI, 40, .inl (fun _ => (-1)))), (sh, .inl (cI, 81, .inl (fun _ => (-1)))), (lo, .inr (3, [.ref l0, .ref l1, .ref l2, .ref l3, .ref l4, .ref l5, .ref l6, .int 0, .int 0])), (so, .inr (7, [.ref ru, .ref tr, .ref lk, .ref vp, .ref vd, .ref vt, .ref vg, .ref vw, .ref ve, .ref vo, .ref vq, .int 0, .int 0, .int 0, .int 0]))] H := hP.sub [2, 0, 1, 3, 4, 5, 6, 7, 8, 9] rfl
    have hD : va_D A [(kt, .inr (10, [.ref to, .ref la, .ref ru, .ref pl, .ref ho, .ref so])), (to, .inr (9, [.ref sg, .int ln2_6, .int wd2_6])), (sg, .inl (cI, 81, .inl fs2_6)), (pl, .inr (4, [.ref la, .ref ru, .ref nw, .ref lo, .int 0])), (ru, .inr (6, [.ref la, .ref gr, .ref rk, .ref rs, .ref rt, .int 0, .int (-1), .ref rv, .int 0])), (nw, .inr (8, [.ref sf, .ref sh, .int 0])), (sf, .inl (cI, 40, .inl (fun _ => (-1)))), (sh, .inl (cI, 81, .inl (fun _ => (-1)))), (lo, .inr (3, [.ref l0, .ref l1, .ref l2, .ref l3, .ref l4, .ref l5, .ref l6, .int 0, .int 0])), (so, .inr (7, [.ref ru, .ref tr, .ref lk, .ref vp, .ref vd, .ref vt, .ref vg, .ref vw, .ref ve, .ref vo, .ref vq, .int 0, .int 0, .int 0, .int 0]))] := hD.sub [2, 0, 1, 3, 4, 5, 6, 7, 8, 9] (by decide) rfl
    refine lv_iconst (v := 1) hx hb dX10_board_18 (by decide) ?_
    exact kt_rz (ln2_6, wd2_6, fs2_6) hx hb hr hlk hS dX10_board_19 hP hD (by first | exact Or.inl ⟨rfl, hB.t c_9⟩ | exact Or.inr ⟨rfl, hB.f c_9⟩) rfl
  · refine lv_iconst (v := 0) hx hb dX10_board_12 (by decide) ?_
    exact kt_rz (ln2_6, wd2_6, fs2_6) hx hb hr hlk hS dX10_board_13 hP hD (by first | exact Or.inl ⟨rfl, hB.t c_9⟩ | exact Or.inr ⟨rfl, hB.f c_9⟩) rfl

theorem iw_X10_line_X10 : ∀ w ∈ wsX100, w ∈ wsX10_line := by decide +kernel
set_option maxHeartbeats 4000000 in
set_option maxRecDepth 100000 in
theorem f_X10_line (l : Launch) (D : va_G) (cI cZ cB : ClassId) (sz : Nat) (kt : Nat) (to : Nat) (la : Nat) (ru : Nat) (pl : Nat) (ho : Nat) (so : Nat) (sg : Nat) (nw : Nat) (lo : Nat) (p1 : Int32) (p2 : Int32) (p3 : Int32) : kt_Mi l yX10_line wsX10_line { frames := 1, cells := 0, slots := 0, locals := 24 } D (kt_ty cI cZ cB) [.ref kt, .int p1, .int p2, .int p3] sz [(kt, .inr (10, [.ref to, .ref la, .ref ru, .ref pl, .ref ho, .ref so])), (pl, .inr (4, [.ref la, .ref ru, .ref nw, .ref lo, .int 0])), (to, .inr (9, [.ref sg, .int 3, .int 3])), (sg, .inl (cI, 81, .inl (fun _ => 0)))] (fun (r : Int32) (u : (Nat → Int32)) => kt_B r (0 ≤ p1 ∧ p1 < 3 ∧ 0 ≤ p2 ∧ p2 ≤ 3)) (fun (u : (Nat → Int32)) => [(kt, .inr (10, [.ref to, .ref la, .ref ru, .ref pl, .ref ho, .ref so])), (pl, .inr (4, [.ref la, .ref ru, .ref nw, .ref lo, .int 0])), (to, .inr (9, [.ref sg, .int 3, .int 3])), (sg, .inl (cI, 81, .inl u))]) 0 0 := by
  refine kt_Mi.of (cc := cX10_line) (maxL := 4) (ret := some .boolean) (by decide) rfl (Nat.le_of_ble_eq_true rfl) ?_
  intro p e s m below meth c A ls H hAt hP hD hS hl
  obtain ⟨hx, hb, hr, hml, hown, hts, hN, hK, hlk, hnm, hA⟩ := hAt
  have hl : lv_has ls 4 [(0, .ref kt), (1, .int p1), (2, .int p2), (3, .int p3)] := hl
  have hown : s.vm.findClass RX10 = some m.cls := hown
  refine lv_aload_n hx hb dX10_line_0 rfl (lv_at hl 0 rfl) ?_
  refine va_get (D := D) (ci := 10) (C := RX10) (T := TX10) (N := 6) hx hb hts iw_X10_line_X10 hown hK hP 0 rfl rfl 3 (by decide) (hts (.fieldLink RX10 37 "KingTable" "play" "LKingTable$Play;") (by decide +kernel)) (fun _ h9 => h9) rfl dX10_line_1 ?_
  refine kt_pi (wc := [(pl, .inr (4, [.ref la, .ref ru, .ref nw, .ref lo, .int 0]))]) [1] hP hD hS hA rfl (by decide) (fun hPc hDc => va_runV (As := []) (rest := []) ⟨hx, hb, hml, hown, hts⟩ (f_X4_isThere l D cI cZ cB H.size pl la ru nw lo ) (cwV 0 hts gX10_line_X4_isThere rfl rfl rfl (by decide +kernel) ⟨Nat.le_of_ble_eq_true rfl, Nat.le_of_ble_eq_true rfl⟩) (kt_preV hN hK hPc hDc 0 (ci := 4) (q := (RX4, TX4, 5)) rfl rfl) rfl rfl hl.1 rfl (lv_room (Nat.le_of_ble_eq_true rfl)) dX10_line_4 ⟨Nat.le_of_ble_eq_true rfl, Nat.le_of_ble_eq_true rfl⟩) (fun r_4 _ H locs hw_4 hP hS => ?_)
  subst hw_4
  refine lv_if_ne (tgt := 27) hx hb dX10_line_7 (by decide) (fun c_7 => absurd c_7 (by decide)) (fun c_7 => ?_)
  refine lv_aload_n hx hb dX10_line_10 rfl (lv_at hl 0 rfl) ?_
  refine va_get (D := D) (ci := 10) (C := RX10) (T := TX10) (N := 6) hx hb hts iw_X10_line_X10 hown hK hP 0 rfl rfl 0 (by decide) (hts (.fieldLink RX10 10 "KingTable" "told" "LKingTable$Told;") (by decide +kernel)) (fun _ h9 => h9) rfl dX10_line_11 ?_
  refine lv_iload_n hx hb dX10_line_14 rfl (lv_at hl 1 rfl) ?_
  refine lv_iload_n hx hb dX10_line_15 rfl (lv_at hl 2 rfl) ?_
  refine lv_iload_n hx hb dX10_line_16 rfl (lv_at hl 3 rfl) ?_
  refine kt_bi (wc := [(to, .inr (9, [.ref sg, .int 3, .int 3])), (sg, .inl (cI, 81, .inl (fun _ => 0)))]) (wr := [(kt, .inr (10, [.ref to, .ref la, .ref ru, .ref pl, .ref ho, .ref so])), (pl, .inr (4, [.ref la, .ref ru, .ref nw, .ref lo, .int 0]))]) [2, 3] [0, 1] hP hD hS hA rfl rfl (by decide) (by decide) (by decide) (fun hPc hDc => va_runV (As := [.int p1, .int p2, .int p3]) (rest := []) ⟨hx, hb, hml, hown, hts⟩ (f_X9_tell l D cI cZ cB H.size to sg p1 p2 p3 ) (cwV 3 hts gX10_line_X9_tell rfl rfl rfl (by decide +kernel) ⟨Nat.le_of_ble_eq_true rfl, Nat.le_of_ble_eq_true rfl⟩) (kt_preV hN hK hPc hDc 0 (ci := 9) (q := (RX9, TX9, 3)) rfl rfl) rfl rfl hl.1 rfl (lv_room (Nat.le_of_ble_eq_true rfl)) dX10_line_17 ⟨Nat.le_of_ble_eq_true rfl, Nat.le_of_ble_eq_true rfl⟩) (fun r_17 u_ H locs hw_17 hP hD hS => ?_)
  obtain ⟨g2_17, rfl⟩ : ∃ z, z = u_ := ⟨_, rfl⟩
  have hP : va_P D vwCl [(kt, .inr (10, [.ref to, .ref la, .ref ru, .ref pl, .ref ho, .ref so])), (pl, .inr (4, [.ref la, .ref ru, .ref nw, .ref lo, .int 0])), (to, .inr (9, [.ref sg, .int 3, .int 3])), (sg, .inl (cI, 81, .inl g2_17))] H := hP.sub [0, 1, 2, 3] rfl
  have hD : va_D A [(kt, .inr (10, [.ref to, .ref la, .ref ru, .ref pl, .ref ho, .ref so])), (pl, .inr (4, [.ref la, .ref ru, .ref nw, .ref lo, .int 0])), (to, .inr (9, [.ref sg, .int 3, .int 3])), (sg, .inl (cI, 81, .inl g2_17))] := hD.sub [0, 1, 2, 3] (by decide) rfl
  try dsimp only at hw_17
  refine lv_if_eq (tgt := 27) hx hb dX10_line_20 (by decide) (fun c_20 => ?_) (fun c_20 => ?_)
  · refine lv_iconst (v := 0) hx hb dX10_line_27 (by decide) ?_
    exact kt_rz g2_17 hx hb hr hlk hS dX10_line_28 hP hD (by first | exact Or.inl ⟨rfl, hw_17.t c_20⟩ | exact Or.inr ⟨rfl, hw_17.f c_20⟩) rfl
  · refine lv_iconst (v := 1) hx hb dX10_line_23 (by decide) ?_
    refine lv_goto (tgt := 28) hx hb dX10_line_24 (by decide) ?_
    exact kt_rz g2_17 hx hb hr hlk hS dX10_line_28 hP hD (by first | exact Or.inl ⟨rfl, hw_17.t c_20⟩ | exact Or.inr ⟨rfl, hw_17.f c_20⟩) rfl

theorem iw_X10_law_X10 : ∀ w ∈ wsX100, w ∈ wsX10_law := by decide +kernel
set_option maxHeartbeats 4000000 in
set_option maxRecDepth 100000 in
theorem f_X10_law (l : Launch) (D : va_G) (cI cZ cB : ClassId) (sz : Nat) (kt : Nat) (to : Nat) (la : Nat) (ru : Nat) (pl : Nat) (ho : Nat) (so : Nat) (nw : Nat) (lo : Nat) (p1 : Int32) (p2 : Int32) (p3 : Int32) (p4 : Int32) (p5 : Int32) (hz : narrow .boolean (.int p3) = .int p3) (hf : fits .boolean (.int p3) = true) : kt_Mi l yX10_law wsX10_law { frames := 1, cells := 0, slots := 0, locals := 26 } D (kt_ty cI cZ cB) [.ref kt, .int p1, .int p2, .int p3, .int p4, .int p5] sz [(kt, .inr (10, [.ref to, .ref la, .ref ru, .ref pl, .ref ho, .ref so])), (pl, .inr (4, [.ref la, .ref ru, .ref nw, .ref lo, .int 0])), (la, .inr (1, [.int 0, .int 4, .int 1, .int 0, .int 0]))] (fun (r : Int32) (u : Int32 × Int32 × Int32 × Int32 × Int32) => kt_B r ((p1 = 0 ∨ p1 = 1) ∧ (p2 = 2 ∨ p2 = 4) ∧ 0 ≤ p4 ∧ p4 ≤ 8 ∧ (p5 = 0 ∨ p5 = 1))) (fun (u : Int32 × Int32 × Int32 × Int32 × Int32) => [(kt, .inr (10, [.ref to, .ref la, .ref ru, .ref pl, .ref ho, .ref so])), (pl, .inr (4, [.ref la, .ref ru, .ref nw, .ref lo, .int 0])), (la, .inr (1, [.int u.1, .int u.2.1, .int u.2.2.1, .int u.2.2.2.1, .int u.2.2.2.2]))]) 0 0 := by
  refine kt_Mi.of (cc := cX10_law) (maxL := 6) (ret := some .boolean) (by decide) rfl (Nat.le_of_ble_eq_true rfl) ?_
  intro p e s m below meth c A ls H hAt hP hD hS hl
  obtain ⟨hx, hb, hr, hml, hown, hts, hN, hK, hlk, hnm, hA⟩ := hAt
  have hl : lv_has ls 6 [(0, .ref kt), (1, .int p1), (2, .int p2), (3, .int p3), (4, .int p4), (5, .int p5)] := hl
  have hown : s.vm.findClass RX10 = some m.cls := hown
  refine lv_aload_n hx hb dX10_law_0 rfl (lv_at hl 0 rfl) ?_
  refine va_get (D := D) (ci := 10) (C := RX10) (T := TX10) (N := 6) hx hb hts iw_X10_law_X10 hown hK hP 0 rfl rfl 3 (by decide) (hts (.fieldLink RX10 37 "KingTable" "play" "LKingTable$Play;") (by decide +kernel)) (fun _ h9 => h9) rfl dX10_law_1 ?_
  refine kt_pi (wc := [(pl, .inr (4, [.ref la, .ref ru, .ref nw, .ref lo, .int 0]))]) [1] hP hD hS hA rfl (by decide) (fun hPc hDc => va_runV (As := []) (rest := []) ⟨hx, hb, hml, hown, hts⟩ (f_X4_isThere l D cI cZ cB H.size pl la ru nw lo ) (cwV 0 hts gX10_law_X4_isThere rfl rfl rfl (by decide +kernel) ⟨Nat.le_of_ble_eq_true rfl, Nat.le_of_ble_eq_true rfl⟩) (kt_preV hN hK hPc hDc 0 (ci := 4) (q := (RX4, TX4, 5)) rfl rfl) rfl rfl hl.1 rfl (lv_room (Nat.le_of_ble_eq_true rfl)) dX10_law_4 ⟨Nat.le_of_ble_eq_true rfl, Nat.le_of_ble_eq_true rfl⟩) (fun r_4 _ H locs hw_4 hP hS => ?_)
  subst hw_4
  refine lv_if_ne (tgt := 31) hx hb dX10_law_7 (by decide) (fun c_7 => absurd c_7 (by decide)) (fun c_7 => ?_)
  refine lv_aload_n hx hb dX10_law_10 rfl (lv_at hl 0 rfl) ?_
  refine va_get (D := D) (ci := 10) (C := RX10) (T := TX10) (N := 6) hx hb hts iw_X10_law_X10 hown hK hP 0 rfl rfl 1 (by decide) (hts (.fieldLink RX10 19 "KingTable" "laws" "LKingTable$Laws;") (by decide +kernel)) (fun _ h9 => h9) rfl dX10_law_11 ?_
  refine lv_iload_n hx hb dX10_law_14 rfl (lv_at hl 1 rfl) ?_
  refine lv_iload_n hx hb dX10_law_15 rfl (lv_at hl 2 rfl) ?_
  refine lv_iload_n hx hb dX10_law_16 rfl (lv_at hl 3 rfl) ?_
  refine lv_iload hx hb dX10_law_17 (lv_at hl 4 rfl) ?_
  refine lv_iload hx hb dX10_law_19 (lv_at hl 5 rfl) ?_
  refine kt_bi (wc := [(la, .inr (1, [.int 0, .int 4, .int 1, .int 0, .int 0]))]) (wr := [(kt, .inr (10, [.ref to, .ref la, .ref ru, .ref pl, .ref ho, .ref so])), (pl, .inr (4, [.ref la, .ref ru, .ref nw, .ref lo, .int 0]))]) [2] [0, 1] hP hD hS hA rfl rfl (by decide) (by decide) (by decide) (fun hPc hDc => va_runV (As := [.int p1, .int p2, .int p3, .int p4, .int p5]) (rest := []) ⟨hx, hb, hml, hown, hts⟩ (c_X1_change l D cI cZ cB H.size la 0 4 1 0 0 p1 p2 p3 p4 p5 hz hf) (cwV 5 hts gX10_law_X1_change rfl rfl rfl (by decide +kernel) ⟨Nat.le_of_ble_eq_true rfl, Nat.le_of_ble_eq_true rfl⟩) (kt_preV hN hK hPc hDc 0 (ci := 1) (q := (RX1, TX1, 5)) rfl rfl) rfl rfl hl.1 rfl (lv_room (Nat.le_of_ble_eq_true rfl)) dX10_law_21 ⟨Nat.le_of_ble_eq_true rfl, Nat.le_of_ble_eq_true rfl⟩) (fun r_21 u_ H locs hw_21 hP hD hS => ?_)
  obtain ⟨n1_21, n2_21, n3_21, n4_21, n5_21⟩ := u_
  have hP : va_P D vwCl [(kt, .inr (10, [.ref to, .ref la, .ref ru, .ref pl, .ref ho, .ref so])), (pl, .inr (4, [.ref la, .ref ru, .ref nw, .ref lo, .int 0])), (la, .inr (1, [.int n1_21, .int n2_21, .int n3_21, .int n4_21, .int n5_21]))] H := hP.sub [0, 1, 2] rfl
  have hD : va_D A [(kt, .inr (10, [.ref to, .ref la, .ref ru, .ref pl, .ref ho, .ref so])), (pl, .inr (4, [.ref la, .ref ru, .ref nw, .ref lo, .int 0])), (la, .inr (1, [.int n1_21, .int n2_21, .int n3_21, .int n4_21, .int n5_21]))] := hD.sub [0, 1, 2] (by decide) rfl
  try dsimp only at hw_21
  refine lv_if_eq (tgt := 31) hx hb dX10_law_24 (by decide) (fun c_24 => ?_) (fun c_24 => ?_)
  · refine lv_iconst (v := 0) hx hb dX10_law_31 (by decide) ?_
    exact kt_rz (n1_21, n2_21, n3_21, n4_21, n5_21) hx hb hr hlk hS dX10_law_32 hP hD (by first | exact Or.inl ⟨rfl, hw_21.t c_24⟩ | exact Or.inr ⟨rfl, hw_21.f c_24⟩) rfl
  · refine lv_iconst (v := 1) hx hb dX10_law_27 (by decide) ?_
    refine lv_goto (tgt := 32) hx hb dX10_law_28 (by decide) ?_
    exact kt_rz (n1_21, n2_21, n3_21, n4_21, n5_21) hx hb hr hlk hS dX10_law_32 hP hD (by first | exact Or.inl ⟨rfl, hw_21.t c_24⟩ | exact Or.inr ⟨rfl, hw_21.f c_24⟩) rfl
end
