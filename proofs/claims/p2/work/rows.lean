section
-- ===== PART A: goes FIRST, ahead of the names: the tables' words, and 'selects' of the private methods out of them =====
/-- a private method of a class that the tables say can be made, by its rows of tables_1 -/
def lw_okq (q : MethodName × Nat) : Prop := (q.1.cls ≠ "java/lang/invoke/MethodHandle" ∧ q.1.cls ≠ "java/lang/invoke/VarHandle") ∧ Cond.instantiable q.1.cls q.2 ∈ tables_1 ∧ Cond.privateMethod q.1 ∈ tables_1 ∧ Cond.instanceMethod q.1 ∈ tables_1
theorem lw_p0 : lw_okq (⟨"NothingJudge", "putNumber", "(I)V"⟩, 13) := ⟨⟨by decide +kernel, by decide +kernel⟩, List.mem_of_getElem? (i := 20) (by decide +kernel), List.mem_of_getElem? (i := 427) (by decide +kernel), List.mem_of_getElem? (i := 428) (by decide +kernel)⟩
theorem lw_p1 : lw_okq (⟨"NothingJudge$Tokens", "endOfWord", "([BI)I"⟩, 3) := ⟨⟨by decide +kernel, by decide +kernel⟩, List.mem_of_getElem? (i := 28) (by decide +kernel), List.mem_of_getElem? (i := 445) (by decide +kernel), List.mem_of_getElem? (i := 446) (by decide +kernel)⟩
theorem lw_p2 : lw_okq (⟨"NothingJudge$Tokens", "add", "(III)V"⟩, 3) := ⟨⟨by decide +kernel, by decide +kernel⟩, List.mem_of_getElem? (i := 28) (by decide +kernel), List.mem_of_getElem? (i := 512) (by decide +kernel), List.mem_of_getElem? (i := 513) (by decide +kernel)⟩
theorem lw_p3 : lw_okq (⟨"NothingJudge$Reader", "seen", "(I)Z"⟩, 10) := ⟨⟨by decide +kernel, by decide +kernel⟩, List.mem_of_getElem? (i := 132) (by decide +kernel), List.mem_of_getElem? (i := 533) (by decide +kernel), List.mem_of_getElem? (i := 534) (by decide +kernel)⟩
theorem lw_p4 : lw_okq (⟨"NothingJudge$Reader", "readHead", "()Z"⟩, 10) := ⟨⟨by decide +kernel, by decide +kernel⟩, List.mem_of_getElem? (i := 132) (by decide +kernel), List.mem_of_getElem? (i := 541) (by decide +kernel), List.mem_of_getElem? (i := 542) (by decide +kernel)⟩
theorem lw_p5 : lw_okq (⟨"NothingJudge$Reader", "take", "(I)Z"⟩, 10) := ⟨⟨by decide +kernel, by decide +kernel⟩, List.mem_of_getElem? (i := 132) (by decide +kernel), List.mem_of_getElem? (i := 545) (by decide +kernel), List.mem_of_getElem? (i := 546) (by decide +kernel)⟩
theorem lw_p6 : lw_okq (⟨"NothingJudge$Reader", "refuse", "(II)Z"⟩, 10) := ⟨⟨by decide +kernel, by decide +kernel⟩, List.mem_of_getElem? (i := 132) (by decide +kernel), List.mem_of_getElem? (i := 553) (by decide +kernel), List.mem_of_getElem? (i := 554) (by decide +kernel)⟩
theorem lw_p7 : lw_okq (⟨"NothingJudge$Reader", "readParameters", "()Z"⟩, 10) := ⟨⟨by decide +kernel, by decide +kernel⟩, List.mem_of_getElem? (i := 132) (by decide +kernel), List.mem_of_getElem? (i := 570) (by decide +kernel), List.mem_of_getElem? (i := 571) (by decide +kernel)⟩
theorem lw_p8 : lw_okq (⟨"NothingJudge$Reader", "openBlock", "(II)Z"⟩, 10) := ⟨⟨by decide +kernel, by decide +kernel⟩, List.mem_of_getElem? (i := 132) (by decide +kernel), List.mem_of_getElem? (i := 589) (by decide +kernel), List.mem_of_getElem? (i := 590) (by decide +kernel)⟩
theorem lw_p9 : lw_okq (⟨"NothingJudge$Reader", "closeBlock", "()V"⟩, 10) := ⟨⟨by decide +kernel, by decide +kernel⟩, List.mem_of_getElem? (i := 132) (by decide +kernel), List.mem_of_getElem? (i := 594) (by decide +kernel), List.mem_of_getElem? (i := 595) (by decide +kernel)⟩
theorem lw_p10 : lw_okq (⟨"NothingJudge$Reader", "closeIf", "(I)V"⟩, 10) := ⟨⟨by decide +kernel, by decide +kernel⟩, List.mem_of_getElem? (i := 132) (by decide +kernel), List.mem_of_getElem? (i := 608) (by decide +kernel), List.mem_of_getElem? (i := 609) (by decide +kernel)⟩
theorem lw_p11 : lw_okq (⟨"NothingJudge$Reader", "readStatement", "()Z"⟩, 10) := ⟨⟨by decide +kernel, by decide +kernel⟩, List.mem_of_getElem? (i := 132) (by decide +kernel), List.mem_of_getElem? (i := 612) (by decide +kernel), List.mem_of_getElem? (i := 613) (by decide +kernel)⟩
theorem lw_p12 : lw_okq (⟨"NothingJudge$Reader", "readPut", "()Z"⟩, 10) := ⟨⟨by decide +kernel, by decide +kernel⟩, List.mem_of_getElem? (i := 132) (by decide +kernel), List.mem_of_getElem? (i := 616) (by decide +kernel), List.mem_of_getElem? (i := 617) (by decide +kernel)⟩
theorem lw_p13 : lw_okq (⟨"NothingJudge$Reader", "readUse", "(III)Z"⟩, 10) := ⟨⟨by decide +kernel, by decide +kernel⟩, List.mem_of_getElem? (i := 132) (by decide +kernel), List.mem_of_getElem? (i := 620) (by decide +kernel), List.mem_of_getElem? (i := 621) (by decide +kernel)⟩
theorem lw_p14 : lw_okq (⟨"NothingJudge$Reader", "readField", "(II)Z"⟩, 10) := ⟨⟨by decide +kernel, by decide +kernel⟩, List.mem_of_getElem? (i := 132) (by decide +kernel), List.mem_of_getElem? (i := 628) (by decide +kernel), List.mem_of_getElem? (i := 629) (by decide +kernel)⟩
theorem lw_p15 : lw_okq (⟨"NothingJudge$Reader", "readValue", "(I)Z"⟩, 10) := ⟨⟨by decide +kernel, by decide +kernel⟩, List.mem_of_getElem? (i := 132) (by decide +kernel), List.mem_of_getElem? (i := 632) (by decide +kernel), List.mem_of_getElem? (i := 633) (by decide +kernel)⟩
def lw_privs_1 : List (MethodName × Nat) := [(⟨"NothingJudge", "putNumber", "(I)V"⟩, 13), (⟨"NothingJudge$Tokens", "endOfWord", "([BI)I"⟩, 3), (⟨"NothingJudge$Tokens", "add", "(III)V"⟩, 3), (⟨"NothingJudge$Reader", "seen", "(I)Z"⟩, 10), (⟨"NothingJudge$Reader", "readHead", "()Z"⟩, 10), (⟨"NothingJudge$Reader", "take", "(I)Z"⟩, 10), (⟨"NothingJudge$Reader", "refuse", "(II)Z"⟩, 10), (⟨"NothingJudge$Reader", "readParameters", "()Z"⟩, 10), (⟨"NothingJudge$Reader", "openBlock", "(II)Z"⟩, 10), (⟨"NothingJudge$Reader", "closeBlock", "()V"⟩, 10), (⟨"NothingJudge$Reader", "closeIf", "(I)V"⟩, 10), (⟨"NothingJudge$Reader", "readStatement", "()Z"⟩, 10), (⟨"NothingJudge$Reader", "readPut", "()Z"⟩, 10), (⟨"NothingJudge$Reader", "readUse", "(III)Z"⟩, 10), (⟨"NothingJudge$Reader", "readField", "(II)Z"⟩, 10), (⟨"NothingJudge$Reader", "readValue", "(I)Z"⟩, 10)]
theorem lw_r1 : ∀ q ∈ lw_privs_1, lw_okq q := List.forall_mem_cons.mpr ⟨lw_p0, List.forall_mem_cons.mpr ⟨lw_p1, List.forall_mem_cons.mpr ⟨lw_p2, List.forall_mem_cons.mpr ⟨lw_p3, List.forall_mem_cons.mpr ⟨lw_p4, List.forall_mem_cons.mpr ⟨lw_p5, List.forall_mem_cons.mpr ⟨lw_p6, List.forall_mem_cons.mpr ⟨lw_p7, List.forall_mem_cons.mpr ⟨lw_p8, List.forall_mem_cons.mpr ⟨lw_p9, List.forall_mem_cons.mpr ⟨lw_p10, List.forall_mem_cons.mpr ⟨lw_p11, List.forall_mem_cons.mpr ⟨lw_p12, List.forall_mem_cons.mpr ⟨lw_p13, List.forall_mem_cons.mpr ⟨lw_p14, List.forall_mem_cons.mpr ⟨lw_p15, fun _ h => absurd h List.not_mem_nil⟩⟩⟩⟩⟩⟩⟩⟩⟩⟩⟩⟩⟩⟩⟩⟩
theorem lw_p16 : lw_okq (⟨"NothingJudge$Reader", "readName", "(II)Z"⟩, 10) := ⟨⟨by decide +kernel, by decide +kernel⟩, List.mem_of_getElem? (i := 132) (by decide +kernel), List.mem_of_getElem? (i := 636) (by decide +kernel), List.mem_of_getElem? (i := 637) (by decide +kernel)⟩
theorem lw_p17 : lw_okq (⟨"NothingJudge$Reader", "readNameOrField", "(I)Z"⟩, 10) := ⟨⟨by decide +kernel, by decide +kernel⟩, List.mem_of_getElem? (i := 132) (by decide +kernel), List.mem_of_getElem? (i := 640) (by decide +kernel), List.mem_of_getElem? (i := 641) (by decide +kernel)⟩
theorem lw_p18 : lw_okq (⟨"NothingJudge$Reader", "readCall", "(I)Z"⟩, 10) := ⟨⟨by decide +kernel, by decide +kernel⟩, List.mem_of_getElem? (i := 132) (by decide +kernel), List.mem_of_getElem? (i := 644) (by decide +kernel), List.mem_of_getElem? (i := 645) (by decide +kernel)⟩
theorem lw_p19 : lw_okq (⟨"NothingJudge$Reader", "readReturn", "()Z"⟩, 10) := ⟨⟨by decide +kernel, by decide +kernel⟩, List.mem_of_getElem? (i := 132) (by decide +kernel), List.mem_of_getElem? (i := 657) (by decide +kernel), List.mem_of_getElem? (i := 658) (by decide +kernel)⟩
theorem lw_p20 : lw_okq (⟨"NothingJudge$Reader", "readBranch", "(I)Z"⟩, 10) := ⟨⟨by decide +kernel, by decide +kernel⟩, List.mem_of_getElem? (i := 132) (by decide +kernel), List.mem_of_getElem? (i := 661) (by decide +kernel), List.mem_of_getElem? (i := 662) (by decide +kernel)⟩
theorem lw_p21 : lw_okq (⟨"NothingJudge$Reader", "readComparison", "(I)Z"⟩, 10) := ⟨⟨by decide +kernel, by decide +kernel⟩, List.mem_of_getElem? (i := 132) (by decide +kernel), List.mem_of_getElem? (i := 669) (by decide +kernel), List.mem_of_getElem? (i := 670) (by decide +kernel)⟩
theorem lw_p22 : lw_okq (⟨"NothingJudge$Reader", "checkCalls", "()V"⟩, 10) := ⟨⟨by decide +kernel, by decide +kernel⟩, List.mem_of_getElem? (i := 132) (by decide +kernel), List.mem_of_getElem? (i := 673) (by decide +kernel), List.mem_of_getElem? (i := 674) (by decide +kernel)⟩
theorem lw_p23 : lw_okq (⟨"NothingJudge", "forget", "()V"⟩, 13) := ⟨⟨by decide +kernel, by decide +kernel⟩, List.mem_of_getElem? (i := 20) (by decide +kernel), List.mem_of_getElem? (i := 689) (by decide +kernel), List.mem_of_getElem? (i := 690) (by decide +kernel)⟩
theorem lw_p24 : lw_okq (⟨"NothingJudge", "markIndex", "(III)I"⟩, 13) := ⟨⟨by decide +kernel, by decide +kernel⟩, List.mem_of_getElem? (i := 20) (by decide +kernel), List.mem_of_getElem? (i := 718) (by decide +kernel), List.mem_of_getElem? (i := 719) (by decide +kernel)⟩
theorem lw_p25 : lw_okq (⟨"NothingJudge$Facts", "clear", "()V"⟩, 14) := ⟨⟨by decide +kernel, by decide +kernel⟩, List.mem_of_getElem? (i := 196) (by decide +kernel), List.mem_of_getElem? (i := 727) (by decide +kernel), List.mem_of_getElem? (i := 728) (by decide +kernel)⟩
theorem lw_p26 : lw_okq (⟨"NothingJudge$Facts", "reachEntry", "()V"⟩, 14) := ⟨⟨by decide +kernel, by decide +kernel⟩, List.mem_of_getElem? (i := 196) (by decide +kernel), List.mem_of_getElem? (i := 735) (by decide +kernel), List.mem_of_getElem? (i := 736) (by decide +kernel)⟩
theorem lw_p27 : lw_okq (⟨"NothingJudge$Facts", "raise", "(II)V"⟩, 14) := ⟨⟨by decide +kernel, by decide +kernel⟩, List.mem_of_getElem? (i := 196) (by decide +kernel), List.mem_of_getElem? (i := 742) (by decide +kernel), List.mem_of_getElem? (i := 743) (by decide +kernel)⟩
theorem lw_p28 : lw_okq (⟨"NothingJudge$Facts", "openRoutines", "()V"⟩, 14) := ⟨⟨by decide +kernel, by decide +kernel⟩, List.mem_of_getElem? (i := 196) (by decide +kernel), List.mem_of_getElem? (i := 747) (by decide +kernel), List.mem_of_getElem? (i := 748) (by decide +kernel)⟩
theorem lw_p29 : lw_okq (⟨"NothingJudge$Facts", "join", "(IJ)V"⟩, 14) := ⟨⟨by decide +kernel, by decide +kernel⟩, List.mem_of_getElem? (i := 196) (by decide +kernel), List.mem_of_getElem? (i := 757) (by decide +kernel), List.mem_of_getElem? (i := 758) (by decide +kernel)⟩
theorem lw_p30 : lw_okq (⟨"NothingJudge$Facts", "advance", "(IJ)V"⟩, 14) := ⟨⟨by decide +kernel, by decide +kernel⟩, List.mem_of_getElem? (i := 196) (by decide +kernel), List.mem_of_getElem? (i := 761) (by decide +kernel), List.mem_of_getElem? (i := 762) (by decide +kernel)⟩
theorem lw_p31 : lw_okq (⟨"NothingJudge$Facts", "fork", "(IJ)V"⟩, 14) := ⟨⟨by decide +kernel, by decide +kernel⟩, List.mem_of_getElem? (i := 196) (by decide +kernel), List.mem_of_getElem? (i := 766) (by decide +kernel), List.mem_of_getElem? (i := 767) (by decide +kernel)⟩
def lw_privs_2 : List (MethodName × Nat) := [(⟨"NothingJudge$Reader", "readName", "(II)Z"⟩, 10), (⟨"NothingJudge$Reader", "readNameOrField", "(I)Z"⟩, 10), (⟨"NothingJudge$Reader", "readCall", "(I)Z"⟩, 10), (⟨"NothingJudge$Reader", "readReturn", "()Z"⟩, 10), (⟨"NothingJudge$Reader", "readBranch", "(I)Z"⟩, 10), (⟨"NothingJudge$Reader", "readComparison", "(I)Z"⟩, 10), (⟨"NothingJudge$Reader", "checkCalls", "()V"⟩, 10), (⟨"NothingJudge", "forget", "()V"⟩, 13), (⟨"NothingJudge", "markIndex", "(III)I"⟩, 13), (⟨"NothingJudge$Facts", "clear", "()V"⟩, 14), (⟨"NothingJudge$Facts", "reachEntry", "()V"⟩, 14), (⟨"NothingJudge$Facts", "raise", "(II)V"⟩, 14), (⟨"NothingJudge$Facts", "openRoutines", "()V"⟩, 14), (⟨"NothingJudge$Facts", "join", "(IJ)V"⟩, 14), (⟨"NothingJudge$Facts", "advance", "(IJ)V"⟩, 14), (⟨"NothingJudge$Facts", "fork", "(IJ)V"⟩, 14)]
theorem lw_r2 : ∀ q ∈ lw_privs_2, lw_okq q := List.forall_mem_cons.mpr ⟨lw_p16, List.forall_mem_cons.mpr ⟨lw_p17, List.forall_mem_cons.mpr ⟨lw_p18, List.forall_mem_cons.mpr ⟨lw_p19, List.forall_mem_cons.mpr ⟨lw_p20, List.forall_mem_cons.mpr ⟨lw_p21, List.forall_mem_cons.mpr ⟨lw_p22, List.forall_mem_cons.mpr ⟨lw_p23, List.forall_mem_cons.mpr ⟨lw_p24, List.forall_mem_cons.mpr ⟨lw_p25, List.forall_mem_cons.mpr ⟨lw_p26, List.forall_mem_cons.mpr ⟨lw_p27, List.forall_mem_cons.mpr ⟨lw_p28, List.forall_mem_cons.mpr ⟨lw_p29, List.forall_mem_cons.mpr ⟨lw_p30, List.forall_mem_cons.mpr ⟨lw_p31, fun _ h => absurd h List.not_mem_nil⟩⟩⟩⟩⟩⟩⟩⟩⟩⟩⟩⟩⟩⟩⟩⟩
theorem lw_p32 : lw_okq (⟨"NothingJudge$Facts", "work", "(IJ)I"⟩, 14) := ⟨⟨by decide +kernel, by decide +kernel⟩, List.mem_of_getElem? (i := 196) (by decide +kernel), List.mem_of_getElem? (i := 776) (by decide +kernel), List.mem_of_getElem? (i := 777) (by decide +kernel)⟩
theorem lw_p33 : lw_okq (⟨"NothingJudge$Facts", "noteUse", "(II)V"⟩, 14) := ⟨⟨by decide +kernel, by decide +kernel⟩, List.mem_of_getElem? (i := 196) (by decide +kernel), List.mem_of_getElem? (i := 780) (by decide +kernel), List.mem_of_getElem? (i := 781) (by decide +kernel)⟩
theorem lw_p34 : lw_okq (⟨"NothingJudge$Facts", "workCall", "(IJI)I"⟩, 14) := ⟨⟨by decide +kernel, by decide +kernel⟩, List.mem_of_getElem? (i := 196) (by decide +kernel), List.mem_of_getElem? (i := 784) (by decide +kernel), List.mem_of_getElem? (i := 785) (by decide +kernel)⟩
theorem lw_p35 : lw_okq (⟨"NothingJudge$Facts", "finish", "(III)V"⟩, 14) := ⟨⟨by decide +kernel, by decide +kernel⟩, List.mem_of_getElem? (i := 196) (by decide +kernel), List.mem_of_getElem? (i := 793) (by decide +kernel), List.mem_of_getElem? (i := 794) (by decide +kernel)⟩
theorem lw_p36 : lw_okq (⟨"NothingJudge$Runner", "begin", "(II)V"⟩, 16) := ⟨⟨by decide +kernel, by decide +kernel⟩, List.mem_of_getElem? (i := 252) (by decide +kernel), List.mem_of_getElem? (i := 824) (by decide +kernel), List.mem_of_getElem? (i := 825) (by decide +kernel)⟩
theorem lw_p37 : lw_okq (⟨"NothingJudge$Runner", "clearNames", "()V"⟩, 16) := ⟨⟨by decide +kernel, by decide +kernel⟩, List.mem_of_getElem? (i := 252) (by decide +kernel), List.mem_of_getElem? (i := 828) (by decide +kernel), List.mem_of_getElem? (i := 829) (by decide +kernel)⟩
theorem lw_p38 : lw_okq (⟨"NothingJudge$Runner", "makeLoop", "()I"⟩, 16) := ⟨⟨by decide +kernel, by decide +kernel⟩, List.mem_of_getElem? (i := 252) (by decide +kernel), List.mem_of_getElem? (i := 835) (by decide +kernel), List.mem_of_getElem? (i := 836) (by decide +kernel)⟩
theorem lw_p39 : lw_okq (⟨"NothingJudge$Runner", "make", "(II)I"⟩, 16) := ⟨⟨by decide +kernel, by decide +kernel⟩, List.mem_of_getElem? (i := 252) (by decide +kernel), List.mem_of_getElem? (i := 839) (by decide +kernel), List.mem_of_getElem? (i := 840) (by decide +kernel)⟩
theorem lw_p40 : lw_okq (⟨"NothingJudge$Runner", "setName", "(II)V"⟩, 16) := ⟨⟨by decide +kernel, by decide +kernel⟩, List.mem_of_getElem? (i := 252) (by decide +kernel), List.mem_of_getElem? (i := 843) (by decide +kernel), List.mem_of_getElem? (i := 844) (by decide +kernel)⟩
theorem lw_p41 : lw_okq (⟨"NothingJudge$Runner", "finish", "()V"⟩, 16) := ⟨⟨by decide +kernel, by decide +kernel⟩, List.mem_of_getElem? (i := 252) (by decide +kernel), List.mem_of_getElem? (i := 849) (by decide +kernel), List.mem_of_getElem? (i := 850) (by decide +kernel)⟩
theorem lw_p42 : lw_okq (⟨"NothingJudge$Runner", "leave", "(I)V"⟩, 16) := ⟨⟨by decide +kernel, by decide +kernel⟩, List.mem_of_getElem? (i := 252) (by decide +kernel), List.mem_of_getElem? (i := 854) (by decide +kernel), List.mem_of_getElem? (i := 855) (by decide +kernel)⟩
theorem lw_p43 : lw_okq (⟨"NothingJudge$Runner", "nameOf", "(I)I"⟩, 16) := ⟨⟨by decide +kernel, by decide +kernel⟩, List.mem_of_getElem? (i := 252) (by decide +kernel), List.mem_of_getElem? (i := 858) (by decide +kernel), List.mem_of_getElem? (i := 859) (by decide +kernel)⟩
theorem lw_p44 : lw_okq (⟨"NothingJudge$Runner", "store", "(I)V"⟩, 16) := ⟨⟨by decide +kernel, by decide +kernel⟩, List.mem_of_getElem? (i := 252) (by decide +kernel), List.mem_of_getElem? (i := 862) (by decide +kernel), List.mem_of_getElem? (i := 863) (by decide +kernel)⟩
theorem lw_p45 : lw_okq (⟨"NothingJudge$Runner", "step", "()V"⟩, 16) := ⟨⟨by decide +kernel, by decide +kernel⟩, List.mem_of_getElem? (i := 252) (by decide +kernel), List.mem_of_getElem? (i := 866) (by decide +kernel), List.mem_of_getElem? (i := 867) (by decide +kernel)⟩
theorem lw_p46 : lw_okq (⟨"NothingJudge$Runner", "holds", "()Z"⟩, 16) := ⟨⟨by decide +kernel, by decide +kernel⟩, List.mem_of_getElem? (i := 252) (by decide +kernel), List.mem_of_getElem? (i := 870) (by decide +kernel), List.mem_of_getElem? (i := 871) (by decide +kernel)⟩
theorem lw_p47 : lw_okq (⟨"NothingJudge$Runner", "choose", "()Z"⟩, 16) := ⟨⟨by decide +kernel, by decide +kernel⟩, List.mem_of_getElem? (i := 252) (by decide +kernel), List.mem_of_getElem? (i := 874) (by decide +kernel), List.mem_of_getElem? (i := 875) (by decide +kernel)⟩
def lw_privs_3 : List (MethodName × Nat) := [(⟨"NothingJudge$Facts", "work", "(IJ)I"⟩, 14), (⟨"NothingJudge$Facts", "noteUse", "(II)V"⟩, 14), (⟨"NothingJudge$Facts", "workCall", "(IJI)I"⟩, 14), (⟨"NothingJudge$Facts", "finish", "(III)V"⟩, 14), (⟨"NothingJudge$Runner", "begin", "(II)V"⟩, 16), (⟨"NothingJudge$Runner", "clearNames", "()V"⟩, 16), (⟨"NothingJudge$Runner", "makeLoop", "()I"⟩, 16), (⟨"NothingJudge$Runner", "make", "(II)I"⟩, 16), (⟨"NothingJudge$Runner", "setName", "(II)V"⟩, 16), (⟨"NothingJudge$Runner", "finish", "()V"⟩, 16), (⟨"NothingJudge$Runner", "leave", "(I)V"⟩, 16), (⟨"NothingJudge$Runner", "nameOf", "(I)I"⟩, 16), (⟨"NothingJudge$Runner", "store", "(I)V"⟩, 16), (⟨"NothingJudge$Runner", "step", "()V"⟩, 16), (⟨"NothingJudge$Runner", "holds", "()Z"⟩, 16), (⟨"NothingJudge$Runner", "choose", "()Z"⟩, 16)]
theorem lw_r3 : ∀ q ∈ lw_privs_3, lw_okq q := List.forall_mem_cons.mpr ⟨lw_p32, List.forall_mem_cons.mpr ⟨lw_p33, List.forall_mem_cons.mpr ⟨lw_p34, List.forall_mem_cons.mpr ⟨lw_p35, List.forall_mem_cons.mpr ⟨lw_p36, List.forall_mem_cons.mpr ⟨lw_p37, List.forall_mem_cons.mpr ⟨lw_p38, List.forall_mem_cons.mpr ⟨lw_p39, List.forall_mem_cons.mpr ⟨lw_p40, List.forall_mem_cons.mpr ⟨lw_p41, List.forall_mem_cons.mpr ⟨lw_p42, List.forall_mem_cons.mpr ⟨lw_p43, List.forall_mem_cons.mpr ⟨lw_p44, List.forall_mem_cons.mpr ⟨lw_p45, List.forall_mem_cons.mpr ⟨lw_p46, List.forall_mem_cons.mpr ⟨lw_p47, fun _ h => absurd h List.not_mem_nil⟩⟩⟩⟩⟩⟩⟩⟩⟩⟩⟩⟩⟩⟩⟩⟩
theorem lw_p48 : lw_okq (⟨"NothingJudge$Runner", "work", "()V"⟩, 16) := ⟨⟨by decide +kernel, by decide +kernel⟩, List.mem_of_getElem? (i := 252) (by decide +kernel), List.mem_of_getElem? (i := 881) (by decide +kernel), List.mem_of_getElem? (i := 882) (by decide +kernel)⟩
theorem lw_p49 : lw_okq (⟨"NothingJudge$Runner", "fieldOf", "(II)I"⟩, 16) := ⟨⟨by decide +kernel, by decide +kernel⟩, List.mem_of_getElem? (i := 252) (by decide +kernel), List.mem_of_getElem? (i := 885) (by decide +kernel), List.mem_of_getElem? (i := 886) (by decide +kernel)⟩
theorem lw_p50 : lw_okq (⟨"NothingJudge$Runner", "enter", "(I)V"⟩, 16) := ⟨⟨by decide +kernel, by decide +kernel⟩, List.mem_of_getElem? (i := 252) (by decide +kernel), List.mem_of_getElem? (i := 889) (by decide +kernel), List.mem_of_getElem? (i := 890) (by decide +kernel)⟩
theorem lw_p51 : lw_okq (⟨"NothingJudge$Trials", "noteFailure", "(II)V"⟩, 6) := ⟨⟨by decide +kernel, by decide +kernel⟩, List.mem_of_getElem? (i := 313) (by decide +kernel), List.mem_of_getElem? (i := 915) (by decide +kernel), List.mem_of_getElem? (i := 916) (by decide +kernel)⟩
theorem lw_p52 : lw_okq (⟨"NothingJudge$Trials", "skipTheSame", "(II)V"⟩, 6) := ⟨⟨by decide +kernel, by decide +kernel⟩, List.mem_of_getElem? (i := 313) (by decide +kernel), List.mem_of_getElem? (i := 920) (by decide +kernel), List.mem_of_getElem? (i := 921) (by decide +kernel)⟩
theorem lw_p53 : lw_okq (⟨"NothingJudge$Mender", "findCandidates", "()V"⟩, 10) := ⟨⟨by decide +kernel, by decide +kernel⟩, List.mem_of_getElem? (i := 340) (by decide +kernel), List.mem_of_getElem? (i := 937) (by decide +kernel), List.mem_of_getElem? (i := 938) (by decide +kernel)⟩
theorem lw_p54 : lw_okq (⟨"NothingJudge$Mender", "marksOf", "(I)J"⟩, 10) := ⟨⟨by decide +kernel, by decide +kernel⟩, List.mem_of_getElem? (i := 340) (by decide +kernel), List.mem_of_getElem? (i := 944) (by decide +kernel), List.mem_of_getElem? (i := 945) (by decide +kernel)⟩
theorem lw_p55 : lw_okq (⟨"NothingJudge$Mender", "consider", "(II)V"⟩, 10) := ⟨⟨by decide +kernel, by decide +kernel⟩, List.mem_of_getElem? (i := 340) (by decide +kernel), List.mem_of_getElem? (i := 948) (by decide +kernel), List.mem_of_getElem? (i := 949) (by decide +kernel)⟩
theorem lw_p56 : lw_okq (⟨"NothingJudge$Mender", "priceOf", "(I)I"⟩, 10) := ⟨⟨by decide +kernel, by decide +kernel⟩, List.mem_of_getElem? (i := 340) (by decide +kernel), List.mem_of_getElem? (i := 952) (by decide +kernel), List.mem_of_getElem? (i := 953) (by decide +kernel)⟩
theorem lw_p57 : lw_okq (⟨"NothingJudge$Mender", "nextBelow", "(II)I"⟩, 10) := ⟨⟨by decide +kernel, by decide +kernel⟩, List.mem_of_getElem? (i := 340) (by decide +kernel), List.mem_of_getElem? (i := 959) (by decide +kernel), List.mem_of_getElem? (i := 960) (by decide +kernel)⟩
theorem lw_p58 : lw_okq (⟨"NothingJudge$Mender", "isTooDear", "(II)Z"⟩, 10) := ⟨⟨by decide +kernel, by decide +kernel⟩, List.mem_of_getElem? (i := 340) (by decide +kernel), List.mem_of_getElem? (i := 963) (by decide +kernel), List.mem_of_getElem? (i := 964) (by decide +kernel)⟩
theorem lw_p59 : lw_okq (⟨"NothingJudge$Mender", "nameHeld", "()V"⟩, 10) := ⟨⟨by decide +kernel, by decide +kernel⟩, List.mem_of_getElem? (i := 340) (by decide +kernel), List.mem_of_getElem? (i := 968) (by decide +kernel), List.mem_of_getElem? (i := 969) (by decide +kernel)⟩
theorem lw_p60 : lw_okq (⟨"NothingJudge", "usesOfFact", "(I)I"⟩, 13) := ⟨⟨by decide +kernel, by decide +kernel⟩, List.mem_of_getElem? (i := 20) (by decide +kernel), List.mem_of_getElem? (i := 983) (by decide +kernel), List.mem_of_getElem? (i := 984) (by decide +kernel)⟩
theorem lw_p61 : lw_okq (⟨"NothingJudgeModel", "parses", "()V"⟩, 68) := ⟨⟨by decide +kernel, by decide +kernel⟩, List.mem_of_getElem? (i := 987) (by decide +kernel), List.mem_of_getElem? (i := 1207) (by decide +kernel), List.mem_of_getElem? (i := 1208) (by decide +kernel)⟩
theorem lw_p62 : lw_okq (⟨"NothingJudgeModel", "next", "()V"⟩, 68) := ⟨⟨by decide +kernel, by decide +kernel⟩, List.mem_of_getElem? (i := 987) (by decide +kernel), List.mem_of_getElem? (i := 1211) (by decide +kernel), List.mem_of_getElem? (i := 1212) (by decide +kernel)⟩
theorem lw_p63 : lw_okq (⟨"NothingJudgeModel", "here", "()I"⟩, 68) := ⟨⟨by decide +kernel, by decide +kernel⟩, List.mem_of_getElem? (i := 987) (by decide +kernel), List.mem_of_getElem? (i := 1215) (by decide +kernel), List.mem_of_getElem? (i := 1216) (by decide +kernel)⟩
def lw_privs_4 : List (MethodName × Nat) := [(⟨"NothingJudge$Runner", "work", "()V"⟩, 16), (⟨"NothingJudge$Runner", "fieldOf", "(II)I"⟩, 16), (⟨"NothingJudge$Runner", "enter", "(I)V"⟩, 16), (⟨"NothingJudge$Trials", "noteFailure", "(II)V"⟩, 6), (⟨"NothingJudge$Trials", "skipTheSame", "(II)V"⟩, 6), (⟨"NothingJudge$Mender", "findCandidates", "()V"⟩, 10), (⟨"NothingJudge$Mender", "marksOf", "(I)J"⟩, 10), (⟨"NothingJudge$Mender", "consider", "(II)V"⟩, 10), (⟨"NothingJudge$Mender", "priceOf", "(I)I"⟩, 10), (⟨"NothingJudge$Mender", "nextBelow", "(II)I"⟩, 10), (⟨"NothingJudge$Mender", "isTooDear", "(II)Z"⟩, 10), (⟨"NothingJudge$Mender", "nameHeld", "()V"⟩, 10), (⟨"NothingJudge", "usesOfFact", "(I)I"⟩, 13), (⟨"NothingJudgeModel", "parses", "()V"⟩, 68), (⟨"NothingJudgeModel", "next", "()V"⟩, 68), (⟨"NothingJudgeModel", "here", "()I"⟩, 68)]
theorem lw_r4 : ∀ q ∈ lw_privs_4, lw_okq q := List.forall_mem_cons.mpr ⟨lw_p48, List.forall_mem_cons.mpr ⟨lw_p49, List.forall_mem_cons.mpr ⟨lw_p50, List.forall_mem_cons.mpr ⟨lw_p51, List.forall_mem_cons.mpr ⟨lw_p52, List.forall_mem_cons.mpr ⟨lw_p53, List.forall_mem_cons.mpr ⟨lw_p54, List.forall_mem_cons.mpr ⟨lw_p55, List.forall_mem_cons.mpr ⟨lw_p56, List.forall_mem_cons.mpr ⟨lw_p57, List.forall_mem_cons.mpr ⟨lw_p58, List.forall_mem_cons.mpr ⟨lw_p59, List.forall_mem_cons.mpr ⟨lw_p60, List.forall_mem_cons.mpr ⟨lw_p61, List.forall_mem_cons.mpr ⟨lw_p62, List.forall_mem_cons.mpr ⟨lw_p63, fun _ h => absurd h List.not_mem_nil⟩⟩⟩⟩⟩⟩⟩⟩⟩⟩⟩⟩⟩⟩⟩⟩
theorem lw_p64 : lw_okq (⟨"NothingJudgeModel", "wordOf", "()I"⟩, 68) := ⟨⟨by decide +kernel, by decide +kernel⟩, List.mem_of_getElem? (i := 987) (by decide +kernel), List.mem_of_getElem? (i := 1222) (by decide +kernel), List.mem_of_getElem? (i := 1223) (by decide +kernel)⟩
theorem lw_p65 : lw_okq (⟨"NothingJudgeModel", "head", "()V"⟩, 68) := ⟨⟨by decide +kernel, by decide +kernel⟩, List.mem_of_getElem? (i := 987) (by decide +kernel), List.mem_of_getElem? (i := 1229) (by decide +kernel), List.mem_of_getElem? (i := 1230) (by decide +kernel)⟩
theorem lw_p66 : lw_okq (⟨"NothingJudgeModel", "taken", "(I)I"⟩, 68) := ⟨⟨by decide +kernel, by decide +kernel⟩, List.mem_of_getElem? (i := 987) (by decide +kernel), List.mem_of_getElem? (i := 1233) (by decide +kernel), List.mem_of_getElem? (i := 1234) (by decide +kernel)⟩
theorem lw_p67 : lw_okq (⟨"NothingJudgeModel", "wrong", "(II)V"⟩, 68) := ⟨⟨by decide +kernel, by decide +kernel⟩, List.mem_of_getElem? (i := 987) (by decide +kernel), List.mem_of_getElem? (i := 1237) (by decide +kernel), List.mem_of_getElem? (i := 1238) (by decide +kernel)⟩
theorem lw_p68 : lw_okq (⟨"NothingJudgeModel", "wants", "(I)V"⟩, 68) := ⟨⟨by decide +kernel, by decide +kernel⟩, List.mem_of_getElem? (i := 987) (by decide +kernel), List.mem_of_getElem? (i := 1241) (by decide +kernel), List.mem_of_getElem? (i := 1242) (by decide +kernel)⟩
theorem lw_p69 : lw_okq (⟨"NothingJudgeModel", "takesSign", "(I)Z"⟩, 68) := ⟨⟨by decide +kernel, by decide +kernel⟩, List.mem_of_getElem? (i := 987) (by decide +kernel), List.mem_of_getElem? (i := 1245) (by decide +kernel), List.mem_of_getElem? (i := 1246) (by decide +kernel)⟩
theorem lw_p70 : lw_okq (⟨"NothingJudgeModel", "isSign", "(I)Z"⟩, 68) := ⟨⟨by decide +kernel, by decide +kernel⟩, List.mem_of_getElem? (i := 987) (by decide +kernel), List.mem_of_getElem? (i := 1249) (by decide +kernel), List.mem_of_getElem? (i := 1250) (by decide +kernel)⟩
theorem lw_p71 : lw_okq (⟨"NothingJudgeModel", "opens", "(III)V"⟩, 68) := ⟨⟨by decide +kernel, by decide +kernel⟩, List.mem_of_getElem? (i := 987) (by decide +kernel), List.mem_of_getElem? (i := 1253) (by decide +kernel), List.mem_of_getElem? (i := 1254) (by decide +kernel)⟩
theorem lw_p72 : lw_okq (⟨"NothingJudgeModel", "closes", "()V"⟩, 68) := ⟨⟨by decide +kernel, by decide +kernel⟩, List.mem_of_getElem? (i := 987) (by decide +kernel), List.mem_of_getElem? (i := 1257) (by decide +kernel), List.mem_of_getElem? (i := 1258) (by decide +kernel)⟩
theorem lw_p73 : lw_okq (⟨"NothingJudgeModel", "emit", "(IIII)I"⟩, 68) := ⟨⟨by decide +kernel, by decide +kernel⟩, List.mem_of_getElem? (i := 987) (by decide +kernel), List.mem_of_getElem? (i := 1261) (by decide +kernel), List.mem_of_getElem? (i := 1262) (by decide +kernel)⟩
theorem lw_p74 : lw_okq (⟨"NothingJudgeModel", "isWord", "(I)Z"⟩, 68) := ⟨⟨by decide +kernel, by decide +kernel⟩, List.mem_of_getElem? (i := 987) (by decide +kernel), List.mem_of_getElem? (i := 1265) (by decide +kernel), List.mem_of_getElem? (i := 1266) (by decide +kernel)⟩
theorem lw_p75 : lw_okq (⟨"NothingJudgeModel", "statement", "()V"⟩, 68) := ⟨⟨by decide +kernel, by decide +kernel⟩, List.mem_of_getElem? (i := 987) (by decide +kernel), List.mem_of_getElem? (i := 1269) (by decide +kernel), List.mem_of_getElem? (i := 1270) (by decide +kernel)⟩
theorem lw_p76 : lw_okq (⟨"NothingJudgeModel", "newUse", "(II)I"⟩, 68) := ⟨⟨by decide +kernel, by decide +kernel⟩, List.mem_of_getElem? (i := 987) (by decide +kernel), List.mem_of_getElem? (i := 1273) (by decide +kernel), List.mem_of_getElem? (i := 1274) (by decide +kernel)⟩
theorem lw_p77 : lw_okq (⟨"NothingJudgeModel", "field", "()I"⟩, 68) := ⟨⟨by decide +kernel, by decide +kernel⟩, List.mem_of_getElem? (i := 987) (by decide +kernel), List.mem_of_getElem? (i := 1277) (by decide +kernel), List.mem_of_getElem? (i := 1278) (by decide +kernel)⟩
theorem lw_p78 : lw_okq (⟨"NothingJudgeModel", "worth", "()V"⟩, 68) := ⟨⟨by decide +kernel, by decide +kernel⟩, List.mem_of_getElem? (i := 987) (by decide +kernel), List.mem_of_getElem? (i := 1281) (by decide +kernel), List.mem_of_getElem? (i := 1282) (by decide +kernel)⟩
theorem lw_p79 : lw_okq (⟨"NothingJudgeModel", "call", "()V"⟩, 68) := ⟨⟨by decide +kernel, by decide +kernel⟩, List.mem_of_getElem? (i := 987) (by decide +kernel), List.mem_of_getElem? (i := 1285) (by decide +kernel), List.mem_of_getElem? (i := 1286) (by decide +kernel)⟩
def lw_privs_5 : List (MethodName × Nat) := [(⟨"NothingJudgeModel", "wordOf", "()I"⟩, 68), (⟨"NothingJudgeModel", "head", "()V"⟩, 68), (⟨"NothingJudgeModel", "taken", "(I)I"⟩, 68), (⟨"NothingJudgeModel", "wrong", "(II)V"⟩, 68), (⟨"NothingJudgeModel", "wants", "(I)V"⟩, 68), (⟨"NothingJudgeModel", "takesSign", "(I)Z"⟩, 68), (⟨"NothingJudgeModel", "isSign", "(I)Z"⟩, 68), (⟨"NothingJudgeModel", "opens", "(III)V"⟩, 68), (⟨"NothingJudgeModel", "closes", "()V"⟩, 68), (⟨"NothingJudgeModel", "emit", "(IIII)I"⟩, 68), (⟨"NothingJudgeModel", "isWord", "(I)Z"⟩, 68), (⟨"NothingJudgeModel", "statement", "()V"⟩, 68), (⟨"NothingJudgeModel", "newUse", "(II)I"⟩, 68), (⟨"NothingJudgeModel", "field", "()I"⟩, 68), (⟨"NothingJudgeModel", "worth", "()V"⟩, 68), (⟨"NothingJudgeModel", "call", "()V"⟩, 68)]
theorem lw_r5 : ∀ q ∈ lw_privs_5, lw_okq q := List.forall_mem_cons.mpr ⟨lw_p64, List.forall_mem_cons.mpr ⟨lw_p65, List.forall_mem_cons.mpr ⟨lw_p66, List.forall_mem_cons.mpr ⟨lw_p67, List.forall_mem_cons.mpr ⟨lw_p68, List.forall_mem_cons.mpr ⟨lw_p69, List.forall_mem_cons.mpr ⟨lw_p70, List.forall_mem_cons.mpr ⟨lw_p71, List.forall_mem_cons.mpr ⟨lw_p72, List.forall_mem_cons.mpr ⟨lw_p73, List.forall_mem_cons.mpr ⟨lw_p74, List.forall_mem_cons.mpr ⟨lw_p75, List.forall_mem_cons.mpr ⟨lw_p76, List.forall_mem_cons.mpr ⟨lw_p77, List.forall_mem_cons.mpr ⟨lw_p78, List.forall_mem_cons.mpr ⟨lw_p79, fun _ h => absurd h List.not_mem_nil⟩⟩⟩⟩⟩⟩⟩⟩⟩⟩⟩⟩⟩⟩⟩⟩
theorem lw_p80 : lw_okq (⟨"NothingJudgeModel", "newTest", "()I"⟩, 68) := ⟨⟨by decide +kernel, by decide +kernel⟩, List.mem_of_getElem? (i := 987) (by decide +kernel), List.mem_of_getElem? (i := 1289) (by decide +kernel), List.mem_of_getElem? (i := 1290) (by decide +kernel)⟩
theorem lw_p81 : lw_okq (⟨"NothingJudgeModel", "comes", "()V"⟩, 68) := ⟨⟨by decide +kernel, by decide +kernel⟩, List.mem_of_getElem? (i := 987) (by decide +kernel), List.mem_of_getElem? (i := 1293) (by decide +kernel), List.mem_of_getElem? (i := 1294) (by decide +kernel)⟩
theorem lw_p82 : lw_okq (⟨"NothingJudgeModel", "enters", "(I)V"⟩, 68) := ⟨⟨by decide +kernel, by decide +kernel⟩, List.mem_of_getElem? (i := 987) (by decide +kernel), List.mem_of_getElem? (i := 1297) (by decide +kernel), List.mem_of_getElem? (i := 1298) (by decide +kernel)⟩
theorem lw_p83 : lw_okq (⟨"NothingJudgeModel", "routinesMany", "()I"⟩, 68) := ⟨⟨by decide +kernel, by decide +kernel⟩, List.mem_of_getElem? (i := 987) (by decide +kernel), List.mem_of_getElem? (i := 1301) (by decide +kernel), List.mem_of_getElem? (i := 1302) (by decide +kernel)⟩
theorem lw_p84 : lw_okq (⟨"NothingJudgeModel", "frees", "()V"⟩, 68) := ⟨⟨by decide +kernel, by decide +kernel⟩, List.mem_of_getElem? (i := 987) (by decide +kernel), List.mem_of_getElem? (i := 1321) (by decide +kernel), List.mem_of_getElem? (i := 1322) (by decide +kernel)⟩
theorem lw_p85 : lw_okq (⟨"NothingJudgeModel", "reckons", "()V"⟩, 68) := ⟨⟨by decide +kernel, by decide +kernel⟩, List.mem_of_getElem? (i := 987) (by decide +kernel), List.mem_of_getElem? (i := 1325) (by decide +kernel), List.mem_of_getElem? (i := 1326) (by decide +kernel)⟩
theorem lw_p86 : lw_okq (⟨"NothingJudgeModel", "puts", "(II)V"⟩, 68) := ⟨⟨by decide +kernel, by decide +kernel⟩, List.mem_of_getElem? (i := 987) (by decide +kernel), List.mem_of_getElem? (i := 1329) (by decide +kernel), List.mem_of_getElem? (i := 1330) (by decide +kernel)⟩
theorem lw_p87 : lw_okq (⟨"NothingJudgeModel", "putsThings", "()V"⟩, 68) := ⟨⟨by decide +kernel, by decide +kernel⟩, List.mem_of_getElem? (i := 987) (by decide +kernel), List.mem_of_getElem? (i := 1333) (by decide +kernel), List.mem_of_getElem? (i := 1334) (by decide +kernel)⟩
theorem lw_p88 : lw_okq (⟨"NothingJudgeModel", "begins", "(I)V"⟩, 68) := ⟨⟨by decide +kernel, by decide +kernel⟩, List.mem_of_getElem? (i := 987) (by decide +kernel), List.mem_of_getElem? (i := 1337) (by decide +kernel), List.mem_of_getElem? (i := 1338) (by decide +kernel)⟩
theorem lw_p89 : lw_okq (⟨"NothingJudgeModel", "flows", "(IJ)V"⟩, 68) := ⟨⟨by decide +kernel, by decide +kernel⟩, List.mem_of_getElem? (i := 987) (by decide +kernel), List.mem_of_getElem? (i := 1347) (by decide +kernel), List.mem_of_getElem? (i := 1348) (by decide +kernel)⟩
theorem lw_p90 : lw_okq (⟨"NothingJudgeModel", "goes", "(IJ)V"⟩, 68) := ⟨⟨by decide +kernel, by decide +kernel⟩, List.mem_of_getElem? (i := 987) (by decide +kernel), List.mem_of_getElem? (i := 1351) (by decide +kernel), List.mem_of_getElem? (i := 1352) (by decide +kernel)⟩
theorem lw_p91 : lw_okq (⟨"NothingJudgeModel", "calls", "(IJ)V"⟩, 68) := ⟨⟨by decide +kernel, by decide +kernel⟩, List.mem_of_getElem? (i := 987) (by decide +kernel), List.mem_of_getElem? (i := 1358) (by decide +kernel), List.mem_of_getElem? (i := 1359) (by decide +kernel)⟩
theorem lw_p92 : lw_okq (⟨"NothingJudgeModel", "routineAt", "(I)I"⟩, 68) := ⟨⟨by decide +kernel, by decide +kernel⟩, List.mem_of_getElem? (i := 987) (by decide +kernel), List.mem_of_getElem? (i := 1362) (by decide +kernel), List.mem_of_getElem? (i := 1363) (by decide +kernel)⟩
theorem lw_p93 : lw_okq (⟨"NothingJudgeModel", "tests", "(IJ)V"⟩, 68) := ⟨⟨by decide +kernel, by decide +kernel⟩, List.mem_of_getElem? (i := 987) (by decide +kernel), List.mem_of_getElem? (i := 1366) (by decide +kernel), List.mem_of_getElem? (i := 1367) (by decide +kernel)⟩
theorem lw_p94 : lw_okq (⟨"NothingJudgeModel", "useFact", "(I)I"⟩, 68) := ⟨⟨by decide +kernel, by decide +kernel⟩, List.mem_of_getElem? (i := 987) (by decide +kernel), List.mem_of_getElem? (i := 1374) (by decide +kernel), List.mem_of_getElem? (i := 1375) (by decide +kernel)⟩
theorem lw_p95 : lw_okq (⟨"NothingJudgeModel", "canRun", "(II)Z"⟩, 68) := ⟨⟨by decide +kernel, by decide +kernel⟩, List.mem_of_getElem? (i := 987) (by decide +kernel), List.mem_of_getElem? (i := 1389) (by decide +kernel), List.mem_of_getElem? (i := 1390) (by decide +kernel)⟩
def lw_privs_6 : List (MethodName × Nat) := [(⟨"NothingJudgeModel", "newTest", "()I"⟩, 68), (⟨"NothingJudgeModel", "comes", "()V"⟩, 68), (⟨"NothingJudgeModel", "enters", "(I)V"⟩, 68), (⟨"NothingJudgeModel", "routinesMany", "()I"⟩, 68), (⟨"NothingJudgeModel", "frees", "()V"⟩, 68), (⟨"NothingJudgeModel", "reckons", "()V"⟩, 68), (⟨"NothingJudgeModel", "puts", "(II)V"⟩, 68), (⟨"NothingJudgeModel", "putsThings", "()V"⟩, 68), (⟨"NothingJudgeModel", "begins", "(I)V"⟩, 68), (⟨"NothingJudgeModel", "flows", "(IJ)V"⟩, 68), (⟨"NothingJudgeModel", "goes", "(IJ)V"⟩, 68), (⟨"NothingJudgeModel", "calls", "(IJ)V"⟩, 68), (⟨"NothingJudgeModel", "routineAt", "(I)I"⟩, 68), (⟨"NothingJudgeModel", "tests", "(IJ)V"⟩, 68), (⟨"NothingJudgeModel", "useFact", "(I)I"⟩, 68), (⟨"NothingJudgeModel", "canRun", "(II)Z"⟩, 68)]
theorem lw_r6 : ∀ q ∈ lw_privs_6, lw_okq q := List.forall_mem_cons.mpr ⟨lw_p80, List.forall_mem_cons.mpr ⟨lw_p81, List.forall_mem_cons.mpr ⟨lw_p82, List.forall_mem_cons.mpr ⟨lw_p83, List.forall_mem_cons.mpr ⟨lw_p84, List.forall_mem_cons.mpr ⟨lw_p85, List.forall_mem_cons.mpr ⟨lw_p86, List.forall_mem_cons.mpr ⟨lw_p87, List.forall_mem_cons.mpr ⟨lw_p88, List.forall_mem_cons.mpr ⟨lw_p89, List.forall_mem_cons.mpr ⟨lw_p90, List.forall_mem_cons.mpr ⟨lw_p91, List.forall_mem_cons.mpr ⟨lw_p92, List.forall_mem_cons.mpr ⟨lw_p93, List.forall_mem_cons.mpr ⟨lw_p94, List.forall_mem_cons.mpr ⟨lw_p95, fun _ h => absurd h List.not_mem_nil⟩⟩⟩⟩⟩⟩⟩⟩⟩⟩⟩⟩⟩⟩⟩⟩
theorem lw_p96 : lw_okq (⟨"NothingJudgeModel", "runs", "(II)V"⟩, 68) := ⟨⟨by decide +kernel, by decide +kernel⟩, List.mem_of_getElem? (i := 987) (by decide +kernel), List.mem_of_getElem? (i := 1393) (by decide +kernel), List.mem_of_getElem? (i := 1394) (by decide +kernel)⟩
theorem lw_p97 : lw_okq (⟨"NothingJudgeModel", "frame", "(I)V"⟩, 68) := ⟨⟨by decide +kernel, by decide +kernel⟩, List.mem_of_getElem? (i := 987) (by decide +kernel), List.mem_of_getElem? (i := 1397) (by decide +kernel), List.mem_of_getElem? (i := 1398) (by decide +kernel)⟩
theorem lw_p98 : lw_okq (⟨"NothingJudgeModel", "makes", "(II)I"⟩, 68) := ⟨⟨by decide +kernel, by decide +kernel⟩, List.mem_of_getElem? (i := 987) (by decide +kernel), List.mem_of_getElem? (i := 1401) (by decide +kernel), List.mem_of_getElem? (i := 1402) (by decide +kernel)⟩
theorem lw_p99 : lw_okq (⟨"NothingJudgeModel", "does", "(II)I"⟩, 68) := ⟨⟨by decide +kernel, by decide +kernel⟩, List.mem_of_getElem? (i := 987) (by decide +kernel), List.mem_of_getElem? (i := 1405) (by decide +kernel), List.mem_of_getElem? (i := 1406) (by decide +kernel)⟩
theorem lw_p100 : lw_okq (⟨"NothingJudgeModel", "step", "()V"⟩, 68) := ⟨⟨by decide +kernel, by decide +kernel⟩, List.mem_of_getElem? (i := 987) (by decide +kernel), List.mem_of_getElem? (i := 1409) (by decide +kernel), List.mem_of_getElem? (i := 1410) (by decide +kernel)⟩
theorem lw_p101 : lw_okq (⟨"NothingJudgeModel", "chooses", "(I)Z"⟩, 68) := ⟨⟨by decide +kernel, by decide +kernel⟩, List.mem_of_getElem? (i := 987) (by decide +kernel), List.mem_of_getElem? (i := 1413) (by decide +kernel), List.mem_of_getElem? (i := 1414) (by decide +kernel)⟩
theorem lw_p102 : lw_okq (⟨"NothingJudgeModel", "nameOf", "(I)I"⟩, 68) := ⟨⟨by decide +kernel, by decide +kernel⟩, List.mem_of_getElem? (i := 987) (by decide +kernel), List.mem_of_getElem? (i := 1417) (by decide +kernel), List.mem_of_getElem? (i := 1418) (by decide +kernel)⟩
theorem lw_p103 : lw_okq (⟨"NothingJudgeModel", "fails", "(I)V"⟩, 68) := ⟨⟨by decide +kernel, by decide +kernel⟩, List.mem_of_getElem? (i := 987) (by decide +kernel), List.mem_of_getElem? (i := 1421) (by decide +kernel), List.mem_of_getElem? (i := 1422) (by decide +kernel)⟩
theorem lw_p104 : lw_okq (⟨"NothingJudgeModel", "enter", "(I)I"⟩, 68) := ⟨⟨by decide +kernel, by decide +kernel⟩, List.mem_of_getElem? (i := 987) (by decide +kernel), List.mem_of_getElem? (i := 1425) (by decide +kernel), List.mem_of_getElem? (i := 1426) (by decide +kernel)⟩
theorem lw_p105 : lw_okq (⟨"NothingJudgeModel", "guards", "()I"⟩, 68) := ⟨⟨by decide +kernel, by decide +kernel⟩, List.mem_of_getElem? (i := 987) (by decide +kernel), List.mem_of_getElem? (i := 1448) (by decide +kernel), List.mem_of_getElem? (i := 1449) (by decide +kernel)⟩
def lw_privs_7 : List (MethodName × Nat) := [(⟨"NothingJudgeModel", "runs", "(II)V"⟩, 68), (⟨"NothingJudgeModel", "frame", "(I)V"⟩, 68), (⟨"NothingJudgeModel", "makes", "(II)I"⟩, 68), (⟨"NothingJudgeModel", "does", "(II)I"⟩, 68), (⟨"NothingJudgeModel", "step", "()V"⟩, 68), (⟨"NothingJudgeModel", "chooses", "(I)Z"⟩, 68), (⟨"NothingJudgeModel", "nameOf", "(I)I"⟩, 68), (⟨"NothingJudgeModel", "fails", "(I)V"⟩, 68), (⟨"NothingJudgeModel", "enter", "(I)I"⟩, 68), (⟨"NothingJudgeModel", "guards", "()I"⟩, 68)]
theorem lw_r7 : ∀ q ∈ lw_privs_7, lw_okq q := List.forall_mem_cons.mpr ⟨lw_p96, List.forall_mem_cons.mpr ⟨lw_p97, List.forall_mem_cons.mpr ⟨lw_p98, List.forall_mem_cons.mpr ⟨lw_p99, List.forall_mem_cons.mpr ⟨lw_p100, List.forall_mem_cons.mpr ⟨lw_p101, List.forall_mem_cons.mpr ⟨lw_p102, List.forall_mem_cons.mpr ⟨lw_p103, List.forall_mem_cons.mpr ⟨lw_p104, List.forall_mem_cons.mpr ⟨lw_p105, fun _ h => absurd h List.not_mem_nil⟩⟩⟩⟩⟩⟩⟩⟩⟩⟩
def lw_privs : List (MethodName × Nat) := lw_privs_1 ++ (lw_privs_2 ++ (lw_privs_3 ++ (lw_privs_4 ++ (lw_privs_5 ++ (lw_privs_6 ++ (lw_privs_7))))))
def lw_tbl : List Cond := k2_sels lw_privs ++ tables_1
theorem lw_privs_ok : ∀ q ∈ lw_privs, lw_okq q := by
  show ∀ q ∈ lw_privs_1 ++ (lw_privs_2 ++ (lw_privs_3 ++ (lw_privs_4 ++ (lw_privs_5 ++ (lw_privs_6 ++ (lw_privs_7)))))), lw_okq q
  exact List.forall_mem_append.mpr ⟨lw_r1, List.forall_mem_append.mpr ⟨lw_r2, List.forall_mem_append.mpr ⟨lw_r3, List.forall_mem_append.mpr ⟨lw_r4, List.forall_mem_append.mpr ⟨lw_r5, List.forall_mem_append.mpr ⟨lw_r6, lw_r7⟩⟩⟩⟩⟩⟩
-- ===== end of PART A; then your names; then what follows =====
end
section
/-! ===== BEGIN words of one list among another's, by their places ===== -/
theorem goodIn_r {big : List Cond} (ws : List Cond) (ps : List Nat) (hp : ws = ps.filterMap (fun i => big[i]?)) (h : ws.all goodWord = true) : GoodIn big ws := by
  intro w hw
  have h1 := List.all_eq_true.mp h w hw
  rw [hp] at hw
  obtain ⟨i, -, hi⟩ := List.mem_filterMap.mp hw
  have hm : w ∈ big := by first | exact List.mem_of_getElem? hi | exact List.getElem?_mem hi
  exact ⟨hm, good_of_word h1⟩
theorem goodIn_app {big a b : List Cond} (ha : GoodIn big a) (hb : GoodIn big b) : GoodIn big (a ++ b) := fun w h => (List.mem_append.mp h).elim (ha w) (hb w)
theorem goodIn_ca {big a b : List Cond} {c : Cond} (ha : GoodIn big (c :: a)) (hb : GoodIn big b) : GoodIn big (c :: (a ++ b)) := fun w h => (List.mem_cons.mp h).elim (fun e => ha w (List.mem_cons.mpr (Or.inl e))) (fun h => (List.mem_append.mp h).elim (fun h => ha w (List.mem_cons.mpr (Or.inr h))) (hb w))
theorem goodIn_sub {big ws : List Cond} (hm : ∀ w ∈ ws, w ∈ big) (h : ws.all goodWord = true) : GoodIn big ws := fun w hw => ⟨hm w hw, good_of_word (List.all_eq_true.mp h w hw)⟩
/-! ===== END ===== -/

/-! ===== BEGIN printed: names, fields, word lists, decode rows ===== -/
def RX0 : String := "NothingJudge$Code"
def TX0 : u_T := fun k => match k with
  | 0 => ("NothingJudge$Code", "cells", "[I", true)
  | _ => ("NothingJudge$Code", "size", "I", false)
def tyX0 : Nat → FieldType := fun k => match k with
  | 0 => .array .int
  | _ => .int
abbrev wsX00 : List Cond := u_ws RX0 TX0 2
theorem nmX0 : ∀ a, a < 2 → ∀ b, b < 2 → a ≠ b → (TX0 a).2.1 ≠ (TX0 b).2.1 := by decide +kernel
theorem tyX0_ok : ∀ k, k < 2 → parseFieldDescriptor (TX0 k).2.2.1 = some (tyX0 k) := by decide +kernel
abbrev cX0_init : ByteArray := prog_2_method_1_code
def yX0_init : MethodName := ⟨RX0, "<init>", "()V"⟩
abbrev cX0_add : ByteArray := prog_2_method_2_code
def yX0_add : MethodName := ⟨RX0, "add", "(II)I"⟩
abbrev cX0_get : ByteArray := prog_2_method_3_code
def yX0_get : MethodName := ⟨RX0, "get", "(II)I"⟩
abbrev cX0_set : ByteArray := prog_2_method_4_code
def yX0_set : MethodName := ⟨RX0, "set", "(III)V"⟩
abbrev cX0_addArgument : ByteArray := prog_2_method_5_code
def yX0_addArgument : MethodName := ⟨RX0, "addArgument", "(II)V"⟩
abbrev cX0_arguments : ByteArray := prog_2_method_6_code
def yX0_arguments : MethodName := ⟨RX0, "arguments", "(I)I"⟩
abbrev cX0_argument : ByteArray := prog_2_method_7_code
def yX0_argument : MethodName := ⟨RX0, "argument", "(II)I"⟩
def RX1 : String := "NothingJudge$Facts"
def TX1 : u_T := fun k => match k with
  | 0 => ("NothingJudge$Facts", "scene", "LNothingJudge$Scene;", true)
  | 1 => ("NothingJudge$Facts", "state", "[J", true)
  | 2 => ("NothingJudge$Facts", "seenAt", "[I", true)
  | 3 => ("NothingJudge$Facts", "marks", "[I", true)
  | 4 => ("NothingJudge$Facts", "used", "[I", true)
  | 5 => ("NothingJudge$Facts", "tested", "[I", true)
  | 6 => ("NothingJudge$Facts", "program", "LNothingJudge$Program;", false)
  | 7 => ("NothingJudge$Facts", "code", "LNothingJudge$Code;", false)
  | 8 => ("NothingJudge$Facts", "stale", "Z", false)
  | 9 => ("NothingJudge$Facts", "changed", "Z", false)
  | 10 => ("NothingJudge$Facts", "reached", "I", false)
  | 11 => ("NothingJudge$Facts", "version", "I", false)
  | 12 => ("NothingJudge$Facts", "held", "J", false)
  | _ => ("NothingJudge$Facts", "now", "J", false)
def tyX1 : Nat → FieldType := fun k => match k with
  | 0 => .object "NothingJudge$Scene"
  | 1 => .array .long
  | 2 => .array .int
  | 3 => .array .int
  | 4 => .array .int
  | 5 => .array .int
  | 6 => .object "NothingJudge$Program"
  | 7 => .object "NothingJudge$Code"
  | 8 => .boolean
  | 9 => .boolean
  | 10 => .int
  | 11 => .int
  | 12 => .long
  | _ => .long
abbrev wsX10 : List Cond := u_ws RX1 TX1 14
theorem nmX1 : ∀ a, a < 14 → ∀ b, b < 14 → a ≠ b → (TX1 a).2.1 ≠ (TX1 b).2.1 := by decide +kernel
theorem tyX1_ok : ∀ k, k < 14 → parseFieldDescriptor (TX1 k).2.2.1 = some (tyX1 k) := by decide +kernel
abbrev cX1_init : ByteArray := prog_3_method_1_code
def yX1_init : MethodName := ⟨RX1, "<init>", "(LNothingJudge$Scene;)V"⟩
abbrev cX1_settle : ByteArray := prog_3_method_2_code
def yX1_settle : MethodName := ⟨RX1, "settle", "(J)V"⟩
abbrev cX1_guardsNeeded : ByteArray := prog_3_method_3_code
def yX1_guardsNeeded : MethodName := ⟨RX1, "guardsNeeded", "()I"⟩
abbrev cX1_clear : ByteArray := prog_3_method_4_code
def yX1_clear : MethodName := ⟨RX1, "clear", "()V"⟩
abbrev cX1_reachEntry : ByteArray := prog_3_method_5_code
def yX1_reachEntry : MethodName := ⟨RX1, "reachEntry", "()V"⟩
abbrev cX1_openRoutines : ByteArray := prog_3_method_6_code
def yX1_openRoutines : MethodName := ⟨RX1, "openRoutines", "()V"⟩
abbrev cX1_advance : ByteArray := prog_3_method_7_code
def yX1_advance : MethodName := ⟨RX1, "advance", "(IJ)V"⟩
abbrev cX1_fork : ByteArray := prog_3_method_8_code
def yX1_fork : MethodName := ⟨RX1, "fork", "(IJ)V"⟩
abbrev cX1_work : ByteArray := prog_3_method_9_code
def yX1_work : MethodName := ⟨RX1, "work", "(IJ)I"⟩
abbrev cX1_workCall : ByteArray := prog_3_method_10_code
def yX1_workCall : MethodName := ⟨RX1, "workCall", "(IJI)I"⟩
abbrev cX1_finish : ByteArray := prog_3_method_11_code
def yX1_finish : MethodName := ⟨RX1, "finish", "(III)V"⟩
abbrev cX1_noteUse : ByteArray := prog_3_method_12_code
def yX1_noteUse : MethodName := ⟨RX1, "noteUse", "(II)V"⟩
abbrev cX1_raise : ByteArray := prog_3_method_13_code
def yX1_raise : MethodName := ⟨RX1, "raise", "(II)V"⟩
abbrev cX1_join : ByteArray := prog_3_method_14_code
def yX1_join : MethodName := ⟨RX1, "join", "(IJ)V"⟩
abbrev cX1_factOf : ByteArray := prog_3_method_15_code
def yX1_factOf : MethodName := ⟨RX1, "factOf", "(JI)I"⟩
abbrev cX1_with : ByteArray := prog_3_method_16_code
def yX1_with : MethodName := ⟨RX1, "with", "(JII)J"⟩
abbrev cX1_narrow : ByteArray := prog_3_method_17_code
def yX1_narrow : MethodName := ⟨RX1, "narrow", "(JII)J"⟩
def RX2 : String := "NothingJudge$Mender"
def TX2 : u_T := fun k => match k with
  | 0 => ("NothingJudge$Mender", "facts", "LNothingJudge$Facts;", true)
  | 1 => ("NothingJudge$Mender", "prices", "[I", true)
  | 2 => ("NothingJudge$Mender", "candidates", "[I", true)
  | 3 => ("NothingJudge$Mender", "heldNames", "[I", true)
  | 4 => ("NothingJudge$Mender", "stale", "Z", false)
  | 5 => ("NothingJudge$Mender", "found", "I", false)
  | 6 => ("NothingJudge$Mender", "best", "I", false)
  | 7 => ("NothingJudge$Mender", "cost", "I", false)
  | 8 => ("NothingJudge$Mender", "guards", "I", false)
  | _ => ("NothingJudge$Mender", "heldMarks", "I", false)
def tyX2 : Nat → FieldType := fun k => match k with
  | 0 => .object "NothingJudge$Facts"
  | 1 => .array .int
  | 2 => .array .int
  | 3 => .array .int
  | 4 => .boolean
  | 5 => .int
  | 6 => .int
  | 7 => .int
  | 8 => .int
  | _ => .int
abbrev wsX20 : List Cond := u_ws RX2 TX2 10
theorem nmX2 : ∀ a, a < 10 → ∀ b, b < 10 → a ≠ b → (TX2 a).2.1 ≠ (TX2 b).2.1 := by decide +kernel
theorem tyX2_ok : ∀ k, k < 10 → parseFieldDescriptor (TX2 k).2.2.1 = some (tyX2 k) := by decide +kernel
abbrev cX2_init : ByteArray := prog_4_method_1_code
def yX2_init : MethodName := ⟨RX2, "<init>", "(LNothingJudge$Facts;)V"⟩
abbrev cX2_search : ByteArray := prog_4_method_2_code
def yX2_search : MethodName := ⟨RX2, "search", "()V"⟩
abbrev cX2_consider : ByteArray := prog_4_method_3_code
def yX2_consider : MethodName := ⟨RX2, "consider", "(II)V"⟩
abbrev cX2_nextBelow : ByteArray := prog_4_method_4_code
def yX2_nextBelow : MethodName := ⟨RX2, "nextBelow", "(II)I"⟩
abbrev cX2_isTooDear : ByteArray := prog_4_method_5_code
def yX2_isTooDear : MethodName := ⟨RX2, "isTooDear", "(II)Z"⟩
abbrev cX2_findCandidates : ByteArray := prog_4_method_6_code
def yX2_findCandidates : MethodName := ⟨RX2, "findCandidates", "()V"⟩
abbrev cX2_marksOf : ByteArray := prog_4_method_7_code
def yX2_marksOf : MethodName := ⟨RX2, "marksOf", "(I)J"⟩
abbrev cX2_priceOf : ByteArray := prog_4_method_8_code
def yX2_priceOf : MethodName := ⟨RX2, "priceOf", "(I)I"⟩
abbrev cX2_nameHeld : ByteArray := prog_4_method_9_code
def yX2_nameHeld : MethodName := ⟨RX2, "nameHeld", "()V"⟩
abbrev cX2_priceKind : ByteArray := prog_4_method_10_code
def yX2_priceKind : MethodName := ⟨RX2, "priceKind", "(I)I"⟩
abbrev cX2_nameOfMark : ByteArray := prog_4_method_11_code
def yX2_nameOfMark : MethodName := ⟨RX2, "nameOfMark", "(I)I"⟩
def RX3 : String := "NothingJudge$Program"
def TX3 : u_T := fun k => match k with
  | 0 => ("NothingJudge$Program", "code", "LNothingJudge$Code;", true)
  | 1 => ("NothingJudge$Program", "opening", "[I", true)
  | 2 => ("NothingJudge$Program", "arity", "[I", true)
  | 3 => ("NothingJudge$Program", "parameters", "[I", true)
  | 4 => ("NothingJudge$Program", "useOwner", "[I", true)
  | 5 => ("NothingJudge$Program", "usePlace", "[I", true)
  | 6 => ("NothingJudge$Program", "useName", "[I", true)
  | 7 => ("NothingJudge$Program", "testOwner", "[I", true)
  | 8 => ("NothingJudge$Program", "testPlace", "[I", true)
  | 9 => ("NothingJudge$Program", "told", "I", false)
  | 10 => ("NothingJudge$Program", "routines", "I", false)
  | 11 => ("NothingJudge$Program", "uses", "I", false)
  | 12 => ("NothingJudge$Program", "tests", "I", false)
  | _ => ("NothingJudge$Program", "first", "I", false)
def tyX3 : Nat → FieldType := fun k => match k with
  | 0 => .object "NothingJudge$Code"
  | 1 => .array .int
  | 2 => .array .int
  | 3 => .array .int
  | 4 => .array .int
  | 5 => .array .int
  | 6 => .array .int
  | 7 => .array .int
  | 8 => .array .int
  | 9 => .int
  | 10 => .int
  | 11 => .int
  | 12 => .int
  | _ => .int
abbrev wsX30 : List Cond := u_ws RX3 TX3 14
theorem nmX3 : ∀ a, a < 14 → ∀ b, b < 14 → a ≠ b → (TX3 a).2.1 ≠ (TX3 b).2.1 := by decide +kernel
theorem tyX3_ok : ∀ k, k < 14 → parseFieldDescriptor (TX3 k).2.2.1 = some (tyX3 k) := by decide +kernel
abbrev cX3_init : ByteArray := prog_5_method_1_code
def yX3_init : MethodName := ⟨RX3, "<init>", "()V"⟩
abbrev cX3_clear : ByteArray := prog_5_method_2_code
def yX3_clear : MethodName := ⟨RX3, "clear", "()V"⟩
abbrev cX3_has : ByteArray := prog_5_method_3_code
def yX3_has : MethodName := ⟨RX3, "has", "(I)Z"⟩
abbrev cX3_addRoutine : ByteArray := prog_5_method_4_code
def yX3_addRoutine : MethodName := ⟨RX3, "addRoutine", "(I)V"⟩
abbrev cX3_addParameter : ByteArray := prog_5_method_5_code
def yX3_addParameter : MethodName := ⟨RX3, "addParameter", "(II)V"⟩
abbrev cX3_parameter : ByteArray := prog_5_method_6_code
def yX3_parameter : MethodName := ⟨RX3, "parameter", "(II)I"⟩
abbrev cX3_hasParameter : ByteArray := prog_5_method_7_code
def yX3_hasParameter : MethodName := ⟨RX3, "hasParameter", "(II)Z"⟩
abbrev cX3_addUse : ByteArray := prog_5_method_8_code
def yX3_addUse : MethodName := ⟨RX3, "addUse", "(III)I"⟩
abbrev cX3_addTest : ByteArray := prog_5_method_9_code
def yX3_addTest : MethodName := ⟨RX3, "addTest", "(II)I"⟩
def RX4 : String := "NothingJudge$Reader"
def TX4 : u_T := fun k => match k with
  | 0 => ("NothingJudge$Reader", "tokens", "LNothingJudge$Tokens;", true)
  | 1 => ("NothingJudge$Reader", "openKind", "[I", true)
  | 2 => ("NothingJudge$Reader", "openAt", "[I", true)
  | 3 => ("NothingJudge$Reader", "program", "LNothingJudge$Program;", false)
  | 4 => ("NothingJudge$Reader", "code", "LNothingJudge$Code;", false)
  | 5 => ("NothingJudge$Reader", "next", "I", false)
  | 6 => ("NothingJudge$Reader", "open", "I", false)
  | 7 => ("NothingJudge$Reader", "letter", "I", false)
  | 8 => ("NothingJudge$Reader", "wrong", "I", false)
  | _ => ("NothingJudge$Reader", "wrongPlace", "I", false)
def tyX4 : Nat → FieldType := fun k => match k with
  | 0 => .object "NothingJudge$Tokens"
  | 1 => .array .int
  | 2 => .array .int
  | 3 => .object "NothingJudge$Program"
  | 4 => .object "NothingJudge$Code"
  | 5 => .int
  | 6 => .int
  | 7 => .int
  | 8 => .int
  | _ => .int
abbrev wsX40 : List Cond := u_ws RX4 TX4 10
theorem nmX4 : ∀ a, a < 10 → ∀ b, b < 10 → a ≠ b → (TX4 a).2.1 ≠ (TX4 b).2.1 := by decide +kernel
theorem tyX4_ok : ∀ k, k < 10 → parseFieldDescriptor (TX4 k).2.2.1 = some (tyX4 k) := by decide +kernel
abbrev cX4_init : ByteArray := prog_6_method_1_code
def yX4_init : MethodName := ⟨RX4, "<init>", "(LNothingJudge$Tokens;LNothingJudge$Program;)V"⟩
abbrev cX4_readInto : ByteArray := prog_6_method_2_code
def yX4_readInto : MethodName := ⟨RX4, "readInto", "(LNothingJudge$Program;)V"⟩
abbrev cX4_refuse : ByteArray := prog_6_method_3_code
def yX4_refuse : MethodName := ⟨RX4, "refuse", "(II)Z"⟩
abbrev cX4_seen : ByteArray := prog_6_method_4_code
def yX4_seen : MethodName := ⟨RX4, "seen", "(I)Z"⟩
abbrev cX4_take : ByteArray := prog_6_method_5_code
def yX4_take : MethodName := ⟨RX4, "take", "(I)Z"⟩
abbrev cX4_readHead : ByteArray := prog_6_method_6_code
def yX4_readHead : MethodName := ⟨RX4, "readHead", "()Z"⟩
abbrev cX4_readParameters : ByteArray := prog_6_method_7_code
def yX4_readParameters : MethodName := ⟨RX4, "readParameters", "()Z"⟩
abbrev cX4_openBlock : ByteArray := prog_6_method_8_code
def yX4_openBlock : MethodName := ⟨RX4, "openBlock", "(II)Z"⟩
abbrev cX4_closeBlock : ByteArray := prog_6_method_9_code
def yX4_closeBlock : MethodName := ⟨RX4, "closeBlock", "()V"⟩
abbrev cX4_closeIf : ByteArray := prog_6_method_10_code
def yX4_closeIf : MethodName := ⟨RX4, "closeIf", "(I)V"⟩
abbrev cX4_readStatement : ByteArray := prog_6_method_11_code
def yX4_readStatement : MethodName := ⟨RX4, "readStatement", "()Z"⟩
abbrev cX4_readPut : ByteArray := prog_6_method_12_code
def yX4_readPut : MethodName := ⟨RX4, "readPut", "()Z"⟩
abbrev cX4_readUse : ByteArray := prog_6_method_13_code
def yX4_readUse : MethodName := ⟨RX4, "readUse", "(III)Z"⟩
abbrev cX4_readField : ByteArray := prog_6_method_14_code
def yX4_readField : MethodName := ⟨RX4, "readField", "(II)Z"⟩
abbrev cX4_readReturn : ByteArray := prog_6_method_15_code
def yX4_readReturn : MethodName := ⟨RX4, "readReturn", "()Z"⟩
abbrev cX4_readBranch : ByteArray := prog_6_method_16_code
def yX4_readBranch : MethodName := ⟨RX4, "readBranch", "(I)Z"⟩
abbrev cX4_readComparison : ByteArray := prog_6_method_17_code
def yX4_readComparison : MethodName := ⟨RX4, "readComparison", "(I)Z"⟩
abbrev cX4_readValue : ByteArray := prog_6_method_18_code
def yX4_readValue : MethodName := ⟨RX4, "readValue", "(I)Z"⟩
abbrev cX4_readName : ByteArray := prog_6_method_19_code
def yX4_readName : MethodName := ⟨RX4, "readName", "(II)Z"⟩
abbrev cX4_readNameOrField : ByteArray := prog_6_method_20_code
def yX4_readNameOrField : MethodName := ⟨RX4, "readNameOrField", "(I)Z"⟩
abbrev cX4_readCall : ByteArray := prog_6_method_21_code
def yX4_readCall : MethodName := ⟨RX4, "readCall", "(I)Z"⟩
abbrev cX4_checkCalls : ByteArray := prog_6_method_22_code
def yX4_checkCalls : MethodName := ⟨RX4, "checkCalls", "()V"⟩
def RX5 : String := "NothingJudge$Rows"
def TX5 : u_T := fun k => match k with
  | _ => ("", "", "", false)
def tyX5 : Nat → FieldType := fun k => match k with
  | _ => .int
abbrev wsX50 : List Cond := u_ws RX5 TX5 0
theorem nmX5 : ∀ a, a < 0 → ∀ b, b < 0 → a ≠ b → (TX5 a).2.1 ≠ (TX5 b).2.1 := by decide +kernel
theorem tyX5_ok : ∀ k, k < 0 → parseFieldDescriptor (TX5 k).2.2.1 = some (tyX5 k) := by decide +kernel
abbrev cX5_at : ByteArray := prog_7_method_2_code
def yX5_at : MethodName := ⟨RX5, "at", "([II)I"⟩
abbrev cX5_put : ByteArray := prog_7_method_3_code
def yX5_put : MethodName := ⟨RX5, "put", "([III)V"⟩
def RX6 : String := "NothingJudge$Runner"
def TX6 : u_T := fun k => match k with
  | 0 => ("NothingJudge$Runner", "scene", "LNothingJudge$Scene;", true)
  | 1 => ("NothingJudge$Runner", "names", "[I", true)
  | 2 => ("NothingJudge$Runner", "back", "[I", true)
  | 3 => ("NothingJudge$Runner", "fields", "[I", true)
  | 4 => ("NothingJudge$Runner", "program", "LNothingJudge$Program;", false)
  | 5 => ("NothingJudge$Runner", "code", "LNothingJudge$Code;", false)
  | 6 => ("NothingJudge$Runner", "chosen", "I", false)
  | 7 => ("NothingJudge$Runner", "steps", "I", false)
  | 8 => ("NothingJudge$Runner", "things", "I", false)
  | 9 => ("NothingJudge$Runner", "anys", "I", false)
  | 10 => ("NothingJudge$Runner", "failedAt", "I", false)
  | 11 => ("NothingJudge$Runner", "outcome", "I", false)
  | 12 => ("NothingJudge$Runner", "pc", "I", false)
  | 13 => ("NothingJudge$Runner", "depth", "I", false)
  | 14 => ("NothingJudge$Runner", "value", "I", false)
  | _ => ("NothingJudge$Runner", "ready", "Z", false)
def tyX6 : Nat → FieldType := fun k => match k with
  | 0 => .object "NothingJudge$Scene"
  | 1 => .array .int
  | 2 => .array .int
  | 3 => .array .int
  | 4 => .object "NothingJudge$Program"
  | 5 => .object "NothingJudge$Code"
  | 6 => .int
  | 7 => .int
  | 8 => .int
  | 9 => .int
  | 10 => .int
  | 11 => .int
  | 12 => .int
  | 13 => .int
  | 14 => .int
  | _ => .boolean
abbrev wsX60 : List Cond := u_ws RX6 TX6 16
theorem nmX6 : ∀ a, a < 16 → ∀ b, b < 16 → a ≠ b → (TX6 a).2.1 ≠ (TX6 b).2.1 := by decide +kernel
theorem tyX6_ok : ∀ k, k < 16 → parseFieldDescriptor (TX6 k).2.2.1 = some (tyX6 k) := by decide +kernel
abbrev cX6_init : ByteArray := prog_8_method_1_code
def yX6_init : MethodName := ⟨RX6, "<init>", "(LNothingJudge$Scene;)V"⟩
abbrev cX6_go : ByteArray := prog_8_method_2_code
def yX6_go : MethodName := ⟨RX6, "go", "(II)I"⟩
abbrev cX6_begin : ByteArray := prog_8_method_3_code
def yX6_begin : MethodName := ⟨RX6, "begin", "(II)V"⟩
abbrev cX6_step : ByteArray := prog_8_method_4_code
def yX6_step : MethodName := ⟨RX6, "step", "()V"⟩
abbrev cX6_holds : ByteArray := prog_8_method_5_code
def yX6_holds : MethodName := ⟨RX6, "holds", "()Z"⟩
abbrev cX6_choose : ByteArray := prog_8_method_6_code
def yX6_choose : MethodName := ⟨RX6, "choose", "()Z"⟩
abbrev cX6_work : ByteArray := prog_8_method_7_code
def yX6_work : MethodName := ⟨RX6, "work", "()V"⟩
abbrev cX6_finish : ByteArray := prog_8_method_8_code
def yX6_finish : MethodName := ⟨RX6, "finish", "()V"⟩
abbrev cX6_fieldOf : ByteArray := prog_8_method_9_code
def yX6_fieldOf : MethodName := ⟨RX6, "fieldOf", "(II)I"⟩
abbrev cX6_store : ByteArray := prog_8_method_10_code
def yX6_store : MethodName := ⟨RX6, "store", "(I)V"⟩
abbrev cX6_enter : ByteArray := prog_8_method_11_code
def yX6_enter : MethodName := ⟨RX6, "enter", "(I)V"⟩
abbrev cX6_leave : ByteArray := prog_8_method_12_code
def yX6_leave : MethodName := ⟨RX6, "leave", "(I)V"⟩
abbrev cX6_makeLoop : ByteArray := prog_8_method_13_code
def yX6_makeLoop : MethodName := ⟨RX6, "makeLoop", "()I"⟩
abbrev cX6_make : ByteArray := prog_8_method_14_code
def yX6_make : MethodName := ⟨RX6, "make", "(II)I"⟩
abbrev cX6_clearNames : ByteArray := prog_8_method_15_code
def yX6_clearNames : MethodName := ⟨RX6, "clearNames", "()V"⟩
abbrev cX6_nameOf : ByteArray := prog_8_method_16_code
def yX6_nameOf : MethodName := ⟨RX6, "nameOf", "(I)I"⟩
abbrev cX6_setName : ByteArray := prog_8_method_17_code
def yX6_setName : MethodName := ⟨RX6, "setName", "(II)V"⟩
def RX7 : String := "NothingJudge$Scene"
def TX7 : u_T := fun k => match k with
  | 0 => ("NothingJudge$Scene", "program", "LNothingJudge$Program;", false)
  | 1 => ("NothingJudge$Scene", "start", "I", false)
  | _ => ("NothingJudge$Scene", "told", "[I", true)
def tyX7 : Nat → FieldType := fun k => match k with
  | 0 => .object "NothingJudge$Program"
  | 1 => .int
  | _ => .array .int
abbrev wsX70 : List Cond := u_ws RX7 TX7 3
theorem nmX7 : ∀ a, a < 3 → ∀ b, b < 3 → a ≠ b → (TX7 a).2.1 ≠ (TX7 b).2.1 := by decide +kernel
theorem tyX7_ok : ∀ k, k < 3 → parseFieldDescriptor (TX7 k).2.2.1 = some (tyX7 k) := by decide +kernel
abbrev cX7_init : ByteArray := prog_9_method_1_code
def yX7_init : MethodName := ⟨RX7, "<init>", "(LNothingJudge$Program;)V"⟩
abbrev cX7_startAt : ByteArray := prog_9_method_2_code
def yX7_startAt : MethodName := ⟨RX7, "startAt", "(I)V"⟩
abbrev cX7_outers : ByteArray := prog_9_method_3_code
def yX7_outers : MethodName := ⟨RX7, "outers", "()I"⟩
abbrev cX7_allows : ByteArray := prog_9_method_4_code
def yX7_allows : MethodName := ⟨RX7, "allows", "(I)Z"⟩
def RX8 : String := "NothingJudge$Tokens"
def TX8 : u_T := fun k => match k with
  | 0 => ("NothingJudge$Tokens", "packed", "[I", true)
  | 1 => ("NothingJudge$Tokens", "size", "I", false)
  | _ => ("NothingJudge$Tokens", "length", "I", false)
def tyX8 : Nat → FieldType := fun k => match k with
  | 0 => .array .int
  | 1 => .int
  | _ => .int
abbrev wsX80 : List Cond := u_ws RX8 TX8 3
theorem nmX8 : ∀ a, a < 3 → ∀ b, b < 3 → a ≠ b → (TX8 a).2.1 ≠ (TX8 b).2.1 := by decide +kernel
theorem tyX8_ok : ∀ k, k < 3 → parseFieldDescriptor (TX8 k).2.2.1 = some (tyX8 k) := by decide +kernel
abbrev cX8_init : ByteArray := prog_10_method_1_code
def yX8_init : MethodName := ⟨RX8, "<init>", "()V"⟩
abbrev cX8_scan : ByteArray := prog_10_method_2_code
def yX8_scan : MethodName := ⟨RX8, "scan", "([BI)V"⟩
abbrev cX8_kindAt : ByteArray := prog_10_method_3_code
def yX8_kindAt : MethodName := ⟨RX8, "kindAt", "(I)I"⟩
abbrev cX8_placeAt : ByteArray := prog_10_method_4_code
def yX8_placeAt : MethodName := ⟨RX8, "placeAt", "(I)I"⟩
abbrev cX8_letterAt : ByteArray := prog_10_method_5_code
def yX8_letterAt : MethodName := ⟨RX8, "letterAt", "(I)I"⟩
abbrev cX8_add : ByteArray := prog_10_method_6_code
def yX8_add : MethodName := ⟨RX8, "add", "(III)V"⟩
abbrev cX8_endOfWord : ByteArray := prog_10_method_7_code
def yX8_endOfWord : MethodName := ⟨RX8, "endOfWord", "([BI)I"⟩
abbrev cX8_isSmall : ByteArray := prog_10_method_8_code
def yX8_isSmall : MethodName := ⟨RX8, "isSmall", "(I)Z"⟩
abbrev cX8_kindOfSign : ByteArray := prog_10_method_9_code
def yX8_kindOfSign : MethodName := ⟨RX8, "kindOfSign", "(I)I"⟩
abbrev cX8_kindOfWord : ByteArray := prog_10_method_10_code
def yX8_kindOfWord : MethodName := ⟨RX8, "kindOfWord", "([BII)I"⟩
abbrev cX8_spells : ByteArray := prog_10_method_11_code
def yX8_spells : MethodName := ⟨RX8, "spells", "([BILjava/lang/String;)Z"⟩
def RX9 : String := "NothingJudge$Trials"
def TX9 : u_T := fun k => match k with
  | 0 => ("NothingJudge$Trials", "scene", "LNothingJudge$Scene;", true)
  | 1 => ("NothingJudge$Trials", "runner", "LNothingJudge$Runner;", true)
  | 2 => ("NothingJudge$Trials", "first", "[I", true)
  | 3 => ("NothingJudge$Trials", "knownFor", "[I", true)
  | 4 => ("NothingJudge$Trials", "stale", "Z", false)
  | _ => ("NothingJudge$Trials", "missing", "I", false)
def tyX9 : Nat → FieldType := fun k => match k with
  | 0 => .object "NothingJudge$Scene"
  | 1 => .object "NothingJudge$Runner"
  | 2 => .array .int
  | 3 => .array .int
  | 4 => .boolean
  | _ => .int
abbrev wsX90 : List Cond := u_ws RX9 TX9 6
theorem nmX9 : ∀ a, a < 6 → ∀ b, b < 6 → a ≠ b → (TX9 a).2.1 ≠ (TX9 b).2.1 := by decide +kernel
theorem tyX9_ok : ∀ k, k < 6 → parseFieldDescriptor (TX9 k).2.2.1 = some (tyX9 k) := by decide +kernel
abbrev cX9_init : ByteArray := prog_11_method_1_code
def yX9_init : MethodName := ⟨RX9, "<init>", "(LNothingJudge$Scene;LNothingJudge$Runner;)V"⟩
abbrev cX9_fill : ByteArray := prog_11_method_2_code
def yX9_fill : MethodName := ⟨RX9, "fill", "(I)V"⟩
abbrev cX9_noteFailure : ByteArray := prog_11_method_3_code
def yX9_noteFailure : MethodName := ⟨RX9, "noteFailure", "(II)V"⟩
abbrev cX9_skipTheSame : ByteArray := prog_11_method_4_code
def yX9_skipTheSame : MethodName := ⟨RX9, "skipTheSame", "(II)V"⟩
def RX10 : String := "NothingJudge"
def TX10 : u_T := fun k => match k with
  | 0 => ("NothingJudge", "tape", "[B", true)
  | 1 => ("NothingJudge", "taped", "I", false)
  | 2 => ("NothingJudge", "tokens", "LNothingJudge$Tokens;", true)
  | 3 => ("NothingJudge", "spare", "LNothingJudge$Program;", false)
  | 4 => ("NothingJudge", "reader", "LNothingJudge$Reader;", true)
  | 5 => ("NothingJudge", "faultKind", "I", false)
  | 6 => ("NothingJudge", "faultPlace", "I", false)
  | 7 => ("NothingJudge", "scene", "LNothingJudge$Scene;", true)
  | 8 => ("NothingJudge", "facts", "LNothingJudge$Facts;", true)
  | 9 => ("NothingJudge", "runner", "LNothingJudge$Runner;", true)
  | 10 => ("NothingJudge", "trials", "LNothingJudge$Trials;", true)
  | 11 => ("NothingJudge", "mender", "LNothingJudge$Mender;", true)
  | _ => ("NothingJudge", "ranRow", "[I", true)
def tyX10 : Nat → FieldType := fun k => match k with
  | 0 => .array .byte
  | 1 => .int
  | 2 => .object "NothingJudge$Tokens"
  | 3 => .object "NothingJudge$Program"
  | 4 => .object "NothingJudge$Reader"
  | 5 => .int
  | 6 => .int
  | 7 => .object "NothingJudge$Scene"
  | 8 => .object "NothingJudge$Facts"
  | 9 => .object "NothingJudge$Runner"
  | 10 => .object "NothingJudge$Trials"
  | 11 => .object "NothingJudge$Mender"
  | _ => .array .int
abbrev wsX100 : List Cond := u_ws RX10 TX10 13
theorem nmX10 : ∀ a, a < 13 → ∀ b, b < 13 → a ≠ b → (TX10 a).2.1 ≠ (TX10 b).2.1 := by decide +kernel
theorem tyX10_ok : ∀ k, k < 13 → parseFieldDescriptor (TX10 k).2.2.1 = some (tyX10 k) := by decide +kernel
abbrev cX10_init : ByteArray := prog_1_method_1_code
def yX10_init : MethodName := ⟨RX10, "<init>", "()V"⟩
abbrev cX10_feed : ByteArray := prog_1_method_2_code
def yX10_feed : MethodName := ⟨RX10, "feed", "(IIIII)I"⟩
abbrev cX10_text : ByteArray := prog_1_method_3_code
def yX10_text : MethodName := ⟨RX10, "text", "(I)I"⟩
abbrev cX10_fault : ByteArray := prog_1_method_4_code
def yX10_fault : MethodName := ⟨RX10, "fault", "(I)I"⟩
abbrev cX10_entry : ByteArray := prog_1_method_5_code
def yX10_entry : MethodName := ⟨RX10, "entry", "(I)Z"⟩
abbrev cX10_outer : ByteArray := prog_1_method_6_code
def yX10_outer : MethodName := ⟨RX10, "outer", "(II)Z"⟩
abbrev cX10_mark : ByteArray := prog_1_method_7_code
def yX10_mark : MethodName := ⟨RX10, "mark", "(III)I"⟩
abbrev cX10_use : ByteArray := prog_1_method_8_code
def yX10_use : MethodName := ⟨RX10, "use", "(II)I"⟩
abbrev cX10_test : ByteArray := prog_1_method_9_code
def yX10_test : MethodName := ⟨RX10, "test", "(II)I"⟩
abbrev cX10_run : ByteArray := prog_1_method_10_code
def yX10_run : MethodName := ⟨RX10, "run", "(II)I"⟩
abbrev cX10_ran : ByteArray := prog_1_method_11_code
def yX10_ran : MethodName := ⟨RX10, "ran", "(I)I"⟩
abbrev cX10_tries : ByteArray := prog_1_method_12_code
def yX10_tries : MethodName := ⟨RX10, "tries", "(I)I"⟩
abbrev cX10_price : ByteArray := prog_1_method_13_code
def yX10_price : MethodName := ⟨RX10, "price", "(II)Z"⟩
abbrev cX10_mend : ByteArray := prog_1_method_14_code
def yX10_mend : MethodName := ⟨RX10, "mend", "()I"⟩
abbrev cX10_mended : ByteArray := prog_1_method_15_code
def yX10_mended : MethodName := ⟨RX10, "mended", "(I)I"⟩
abbrev cX10_count : ByteArray := prog_1_method_16_code
def yX10_count : MethodName := ⟨RX10, "count", "(I)I"⟩
abbrev cX10_putNumber : ByteArray := prog_1_method_17_code
def yX10_putNumber : MethodName := ⟨RX10, "putNumber", "(I)V"⟩
abbrev cX10_forget : ByteArray := prog_1_method_18_code
def yX10_forget : MethodName := ⟨RX10, "forget", "()V"⟩
abbrev cX10_markIndex : ByteArray := prog_1_method_19_code
def yX10_markIndex : MethodName := ⟨RX10, "markIndex", "(III)I"⟩
abbrev cX10_usesOfFact : ByteArray := prog_1_method_20_code
def yX10_usesOfFact : MethodName := ⟨RX10, "usesOfFact", "(I)I"⟩
abbrev cX10_verdictOfUse : ByteArray := prog_1_method_21_code
def yX10_verdictOfUse : MethodName := ⟨RX10, "verdictOfUse", "(I)I"⟩
abbrev cX10_verdictOfTest : ByteArray := prog_1_method_22_code
def yX10_verdictOfTest : MethodName := ⟨RX10, "verdictOfTest", "(I)I"⟩
def RX11 : String := "NothingJudgeModel"
def TX11 : u_T := fun k => match k with
  | 0 => ("NothingJudgeModel", "thrown", "I", false)
  | 1 => ("NothingJudgeModel", "tape", "[I", true)
  | 2 => ("NothingJudgeModel", "taped", "I", false)
  | 3 => ("NothingJudgeModel", "size", "I", false)
  | 4 => ("NothingJudgeModel", "at", "I", false)
  | 5 => ("NothingJudgeModel", "place", "I", false)
  | 6 => ("NothingJudgeModel", "sort", "I", false)
  | 7 => ("NothingJudgeModel", "value", "I", false)
  | 8 => ("NothingJudgeModel", "fault", "I", false)
  | 9 => ("NothingJudgeModel", "faultPlace", "I", false)
  | 10 => ("NothingJudgeModel", "lastFault", "I", false)
  | 11 => ("NothingJudgeModel", "lastPlace", "I", false)
  | 12 => ("NothingJudgeModel", "act", "[I", true)
  | 13 => ("NothingJudgeModel", "one", "[I", true)
  | 14 => ("NothingJudgeModel", "two", "[I", true)
  | 15 => ("NothingJudgeModel", "three", "[I", true)
  | 16 => ("NothingJudgeModel", "argsOf", "[I", true)
  | 17 => ("NothingJudgeModel", "acts", "I", false)
  | 18 => ("NothingJudgeModel", "actMany", "I", false)
  | 19 => ("NothingJudgeModel", "routineFrom", "[I", true)
  | 20 => ("NothingJudgeModel", "params", "[I", true)
  | 21 => ("NothingJudgeModel", "paramNames", "[I", true)
  | 22 => ("NothingJudgeModel", "firstRoutine", "[I", true)
  | 23 => ("NothingJudgeModel", "useRoutine", "[I", true)
  | 24 => ("NothingJudgeModel", "usePlace", "[I", true)
  | 25 => ("NothingJudgeModel", "useName", "[I", true)
  | 26 => ("NothingJudgeModel", "useMany", "[I", true)
  | 27 => ("NothingJudgeModel", "testRoutine", "[I", true)
  | 28 => ("NothingJudgeModel", "testPlace", "[I", true)
  | 29 => ("NothingJudgeModel", "testMany", "[I", true)
  | 30 => ("NothingJudgeModel", "callPlace", "[I", true)
  | 31 => ("NothingJudgeModel", "callLetter", "[I", true)
  | 32 => ("NothingJudgeModel", "callArgs", "[I", true)
  | 33 => ("NothingJudgeModel", "calls", "I", false)
  | 34 => ("NothingJudgeModel", "routine", "I", false)
  | 35 => ("NothingJudgeModel", "blockKind", "[I", true)
  | 36 => ("NothingJudgeModel", "blockWaits", "[I", true)
  | 37 => ("NothingJudgeModel", "blockTest", "[I", true)
  | 38 => ("NothingJudgeModel", "blocks", "I", false)
  | 39 => ("NothingJudgeModel", "entry", "I", false)
  | 40 => ("NothingJudgeModel", "outers", "[I", true)
  | 41 => ("NothingJudgeModel", "ahead", "[J", true)
  | 42 => ("NothingJudgeModel", "marks", "[I", true)
  | 43 => ("NothingJudgeModel", "isHeld", "[Z", true)
  | 44 => ("NothingJudgeModel", "tested", "[I", true)
  | 45 => ("NothingJudgeModel", "isMore", "Z", false)
  | 46 => ("NothingJudgeModel", "fields", "[I", true)
  | 47 => ("NothingJudgeModel", "things", "I", false)
  | 48 => ("NothingJudgeModel", "names", "[I", true)
  | 49 => ("NothingJudgeModel", "backTo", "[I", true)
  | 50 => ("NothingJudgeModel", "frames", "I", false)
  | 51 => ("NothingJudgeModel", "acc", "I", false)
  | 52 => ("NothingJudgeModel", "steps", "I", false)
  | 53 => ("NothingJudgeModel", "anys", "I", false)
  | 54 => ("NothingJudgeModel", "failed", "I", false)
  | 55 => ("NothingJudgeModel", "outcome", "I", false)
  | 56 => ("NothingJudgeModel", "hasRun", "Z", false)
  | 57 => ("NothingJudgeModel", "ranSteps", "I", false)
  | 58 => ("NothingJudgeModel", "ranUse", "I", false)
  | 59 => ("NothingJudgeModel", "ranThings", "I", false)
  | 60 => ("NothingJudgeModel", "ranAnys", "I", false)
  | 61 => ("NothingJudgeModel", "prices", "[I", true)
  | 62 => ("NothingJudgeModel", "candidates", "[I", true)
  | 63 => ("NothingJudgeModel", "candidateMany", "I", false)
  | 64 => ("NothingJudgeModel", "mendHeld", "I", false)
  | 65 => ("NothingJudgeModel", "mendGuards", "I", false)
  | 66 => ("NothingJudgeModel", "mendMarks", "[I", true)
  | _ => ("NothingJudgeModel", "hasMend", "Z", false)
def tyX11 : Nat → FieldType := fun k => match k with
  | 0 => .int
  | 1 => .array .int
  | 2 => .int
  | 3 => .int
  | 4 => .int
  | 5 => .int
  | 6 => .int
  | 7 => .int
  | 8 => .int
  | 9 => .int
  | 10 => .int
  | 11 => .int
  | 12 => .array .int
  | 13 => .array .int
  | 14 => .array .int
  | 15 => .array .int
  | 16 => .array .int
  | 17 => .int
  | 18 => .int
  | 19 => .array .int
  | 20 => .array .int
  | 21 => .array .int
  | 22 => .array .int
  | 23 => .array .int
  | 24 => .array .int
  | 25 => .array .int
  | 26 => .array .int
  | 27 => .array .int
  | 28 => .array .int
  | 29 => .array .int
  | 30 => .array .int
  | 31 => .array .int
  | 32 => .array .int
  | 33 => .int
  | 34 => .int
  | 35 => .array .int
  | 36 => .array .int
  | 37 => .array .int
  | 38 => .int
  | 39 => .int
  | 40 => .array .int
  | 41 => .array .long
  | 42 => .array .int
  | 43 => .array .boolean
  | 44 => .array .int
  | 45 => .boolean
  | 46 => .array .int
  | 47 => .int
  | 48 => .array .int
  | 49 => .array .int
  | 50 => .int
  | 51 => .int
  | 52 => .int
  | 53 => .int
  | 54 => .int
  | 55 => .int
  | 56 => .boolean
  | 57 => .int
  | 58 => .int
  | 59 => .int
  | 60 => .int
  | 61 => .array .int
  | 62 => .array .int
  | 63 => .int
  | 64 => .int
  | 65 => .int
  | 66 => .array .int
  | _ => .boolean
abbrev wsX110 : List Cond := u_ws RX11 TX11 68
theorem nmX11 : ∀ a, a < 68 → ∀ b, b < 68 → a ≠ b → (TX11 a).2.1 ≠ (TX11 b).2.1 := by decide +kernel
theorem tyX11_ok : ∀ k, k < 68 → parseFieldDescriptor (TX11 k).2.2.1 = some (tyX11 k) := by decide +kernel
abbrev cX11_init : ByteArray := prog_13_method_1_code
def yX11_init : MethodName := ⟨RX11, "<init>", "()V"⟩
abbrev cX11_feed : ByteArray := prog_13_method_3_code
def yX11_feed : MethodName := ⟨RX11, "feed", "(IIIII)I"⟩
abbrev cX11_here : ByteArray := prog_13_method_4_code
def yX11_here : MethodName := ⟨RX11, "here", "()I"⟩
abbrev cX11_isSmall : ByteArray := prog_13_method_5_code
def yX11_isSmall : MethodName := ⟨RX11, "isSmall", "(I)Z"⟩
abbrev cX11_next : ByteArray := prog_13_method_6_code
def yX11_next : MethodName := ⟨RX11, "next", "()V"⟩
abbrev cX11_wordOf : ByteArray := prog_13_method_7_code
def yX11_wordOf : MethodName := ⟨RX11, "wordOf", "()I"⟩
abbrev cX11_wrong : ByteArray := prog_13_method_8_code
def yX11_wrong : MethodName := ⟨RX11, "wrong", "(II)V"⟩
abbrev cX11_isSign : ByteArray := prog_13_method_9_code
def yX11_isSign : MethodName := ⟨RX11, "isSign", "(I)Z"⟩
abbrev cX11_isWord : ByteArray := prog_13_method_10_code
def yX11_isWord : MethodName := ⟨RX11, "isWord", "(I)Z"⟩
abbrev cX11_takesSign : ByteArray := prog_13_method_11_code
def yX11_takesSign : MethodName := ⟨RX11, "takesSign", "(I)Z"⟩
abbrev cX11_wants : ByteArray := prog_13_method_12_code
def yX11_wants : MethodName := ⟨RX11, "wants", "(I)V"⟩
abbrev cX11_taken : ByteArray := prog_13_method_13_code
def yX11_taken : MethodName := ⟨RX11, "taken", "(I)I"⟩
abbrev cX11_emit : ByteArray := prog_13_method_14_code
def yX11_emit : MethodName := ⟨RX11, "emit", "(IIII)I"⟩
abbrev cX11_parses : ByteArray := prog_13_method_15_code
def yX11_parses : MethodName := ⟨RX11, "parses", "()V"⟩
abbrev cX11_opens : ByteArray := prog_13_method_16_code
def yX11_opens : MethodName := ⟨RX11, "opens", "(III)V"⟩
abbrev cX11_head : ByteArray := prog_13_method_17_code
def yX11_head : MethodName := ⟨RX11, "head", "()V"⟩
abbrev cX11_closes : ByteArray := prog_13_method_18_code
def yX11_closes : MethodName := ⟨RX11, "closes", "()V"⟩
abbrev cX11_newUse : ByteArray := prog_13_method_19_code
def yX11_newUse : MethodName := ⟨RX11, "newUse", "(II)I"⟩
abbrev cX11_field : ByteArray := prog_13_method_20_code
def yX11_field : MethodName := ⟨RX11, "field", "()I"⟩
abbrev cX11_statement : ByteArray := prog_13_method_21_code
def yX11_statement : MethodName := ⟨RX11, "statement", "()V"⟩
abbrev cX11_newTest : ByteArray := prog_13_method_22_code
def yX11_newTest : MethodName := ⟨RX11, "newTest", "()I"⟩
abbrev cX11_worth : ByteArray := prog_13_method_23_code
def yX11_worth : MethodName := ⟨RX11, "worth", "()V"⟩
abbrev cX11_call : ByteArray := prog_13_method_24_code
def yX11_call : MethodName := ⟨RX11, "call", "()V"⟩
abbrev cX11_text : ByteArray := prog_13_method_25_code
def yX11_text : MethodName := ⟨RX11, "text", "(I)I"⟩
abbrev cX11_comes : ByteArray := prog_13_method_26_code
def yX11_comes : MethodName := ⟨RX11, "comes", "()V"⟩
abbrev cX11_routinesMany : ByteArray := prog_13_method_27_code
def yX11_routinesMany : MethodName := ⟨RX11, "routinesMany", "()I"⟩
abbrev cX11_fault : ByteArray := prog_13_method_28_code
def yX11_fault : MethodName := ⟨RX11, "fault", "(I)I"⟩
abbrev cX11_enters : ByteArray := prog_13_method_29_code
def yX11_enters : MethodName := ⟨RX11, "enters", "(I)V"⟩
abbrev cX11_entry : ByteArray := prog_13_method_30_code
def yX11_entry : MethodName := ⟨RX11, "entry", "(I)Z"⟩
abbrev cX11_outer : ByteArray := prog_13_method_31_code
def yX11_outer : MethodName := ⟨RX11, "outer", "(II)Z"⟩
abbrev cX11_factOf : ByteArray := prog_13_method_32_code
def yX11_factOf : MethodName := ⟨RX11, "factOf", "(JI)I"⟩
abbrev cX11_with : ByteArray := prog_13_method_33_code
def yX11_with : MethodName := ⟨RX11, "with", "(JII)J"⟩
abbrev cX11_puts : ByteArray := prog_13_method_34_code
def yX11_puts : MethodName := ⟨RX11, "puts", "(II)V"⟩
abbrev cX11_flows : ByteArray := prog_13_method_35_code
def yX11_flows : MethodName := ⟨RX11, "flows", "(IJ)V"⟩
abbrev cX11_begins : ByteArray := prog_13_method_36_code
def yX11_begins : MethodName := ⟨RX11, "begins", "(I)V"⟩
abbrev cX11_reckons : ByteArray := prog_13_method_37_code
def yX11_reckons : MethodName := ⟨RX11, "reckons", "()V"⟩
abbrev cX11_putsThings : ByteArray := prog_13_method_38_code
def yX11_putsThings : MethodName := ⟨RX11, "putsThings", "()V"⟩
abbrev cX11_goes : ByteArray := prog_13_method_39_code
def yX11_goes : MethodName := ⟨RX11, "goes", "(IJ)V"⟩
abbrev cX11_routineAt : ByteArray := prog_13_method_40_code
def yX11_routineAt : MethodName := ⟨RX11, "routineAt", "(I)I"⟩
abbrev cX11_calls : ByteArray := prog_13_method_41_code
def yX11_calls : MethodName := ⟨RX11, "calls", "(IJ)V"⟩
abbrev cX11_tests : ByteArray := prog_13_method_42_code
def yX11_tests : MethodName := ⟨RX11, "tests", "(IJ)V"⟩
abbrev cX11_frees : ByteArray := prog_13_method_43_code
def yX11_frees : MethodName := ⟨RX11, "frees", "()V"⟩
abbrev cX11_mark : ByteArray := prog_13_method_44_code
def yX11_mark : MethodName := ⟨RX11, "mark", "(III)I"⟩
abbrev cX11_useFact : ByteArray := prog_13_method_45_code
def yX11_useFact : MethodName := ⟨RX11, "useFact", "(I)I"⟩
abbrev cX11_stateOf : ByteArray := prog_13_method_46_code
def yX11_stateOf : MethodName := ⟨RX11, "stateOf", "(I)I"⟩
abbrev cX11_use : ByteArray := prog_13_method_47_code
def yX11_use : MethodName := ⟨RX11, "use", "(II)I"⟩
abbrev cX11_test : ByteArray := prog_13_method_48_code
def yX11_test : MethodName := ⟨RX11, "test", "(II)I"⟩
abbrev cX11_makes : ByteArray := prog_13_method_49_code
def yX11_makes : MethodName := ⟨RX11, "makes", "(II)I"⟩
abbrev cX11_chooses : ByteArray := prog_13_method_50_code
def yX11_chooses : MethodName := ⟨RX11, "chooses", "(I)Z"⟩
abbrev cX11_frame : ByteArray := prog_13_method_51_code
def yX11_frame : MethodName := ⟨RX11, "frame", "(I)V"⟩
abbrev cX11_canRun : ByteArray := prog_13_method_52_code
def yX11_canRun : MethodName := ⟨RX11, "canRun", "(II)Z"⟩
abbrev cX11_runs : ByteArray := prog_13_method_53_code
def yX11_runs : MethodName := ⟨RX11, "runs", "(II)V"⟩
abbrev cX11_nameOf : ByteArray := prog_13_method_54_code
def yX11_nameOf : MethodName := ⟨RX11, "nameOf", "(I)I"⟩
abbrev cX11_step : ByteArray := prog_13_method_55_code
def yX11_step : MethodName := ⟨RX11, "step", "()V"⟩
abbrev cX11_does : ByteArray := prog_13_method_56_code
def yX11_does : MethodName := ⟨RX11, "does", "(II)I"⟩
abbrev cX11_fails : ByteArray := prog_13_method_57_code
def yX11_fails : MethodName := ⟨RX11, "fails", "(I)V"⟩
abbrev cX11_enter : ByteArray := prog_13_method_58_code
def yX11_enter : MethodName := ⟨RX11, "enter", "(I)I"⟩
abbrev cX11_run : ByteArray := prog_13_method_59_code
def yX11_run : MethodName := ⟨RX11, "run", "(II)I"⟩
abbrev cX11_ran : ByteArray := prog_13_method_60_code
def yX11_ran : MethodName := ⟨RX11, "ran", "(I)I"⟩
abbrev cX11_tries : ByteArray := prog_13_method_61_code
def yX11_tries : MethodName := ⟨RX11, "tries", "(I)I"⟩
abbrev cX11_price : ByteArray := prog_13_method_62_code
def yX11_price : MethodName := ⟨RX11, "price", "(II)Z"⟩
abbrev cX11_guards : ByteArray := prog_13_method_63_code
def yX11_guards : MethodName := ⟨RX11, "guards", "()I"⟩
abbrev cX11_kindOf : ByteArray := prog_13_method_64_code
def yX11_kindOf : MethodName := ⟨RX11, "kindOf", "(I)I"⟩
abbrev cX11_mend : ByteArray := prog_13_method_65_code
def yX11_mend : MethodName := ⟨RX11, "mend", "()I"⟩
abbrev cX11_mended : ByteArray := prog_13_method_66_code
def yX11_mended : MethodName := ⟨RX11, "mended", "(I)I"⟩
abbrev cX11_count : ByteArray := prog_13_method_67_code
def yX11_count : MethodName := ⟨RX11, "count", "(I)I"⟩
def RJ9 : String := "java/lang/Math"
def TJ9 : u_T := fun k => match k with
  | _ => ("", "", "", false)
def tyJ9 : Nat → FieldType := fun k => match k with
  | _ => .int
abbrev wsJ90 : List Cond := u_ws RJ9 TJ9 0
theorem nmJ9 : ∀ a, a < 0 → ∀ b, b < 0 → a ≠ b → (TJ9 a).2.1 ≠ (TJ9 b).2.1 := by decide +kernel
theorem tyJ9_ok : ∀ k, k < 0 → parseFieldDescriptor (TJ9 k).2.2.1 = some (tyJ9 k) := by decide +kernel
abbrev cJ9_floorMod_7cf53 : ByteArray := prog_14_method_50_code
def yJ9_floorMod_7cf53 : MethodName := ⟨RJ9, "floorMod", "(II)I"⟩
abbrev cJ9_max_7cf53 : ByteArray := prog_14_method_65_code
def yJ9_max_7cf53 : MethodName := ⟨RJ9, "max", "(II)I"⟩
abbrev cJ9_min_7cf53 : ByteArray := prog_14_method_69_code
def yJ9_min_7cf53 : MethodName := ⟨RJ9, "min", "(II)I"⟩
def RJ0 : String := "java/lang/String"
def TJ0 : u_T := fun k => match k with
  | _ => ("", "", "", false)
def tyJ0 : Nat → FieldType := fun k => match k with
  | _ => .int
abbrev wsJ00 : List Cond := u_ws RJ0 TJ0 0
theorem nmJ0 : ∀ a, a < 0 → ∀ b, b < 0 → a ≠ b → (TJ0 a).2.1 ≠ (TJ0 b).2.1 := by decide +kernel
theorem tyJ0_ok : ∀ k, k < 0 → parseFieldDescriptor (TJ0 k).2.2.1 = some (tyJ0 k) := by decide +kernel
abbrev cJ0_length_8abf5 : ByteArray := prog_15_method_54_code
def yJ0_length_8abf5 : MethodName := ⟨RJ0, "length", "()I"⟩
abbrev cJ0_charAt_5068e : ByteArray := prog_15_method_56_code
def yJ0_charAt_5068e : MethodName := ⟨RJ0, "charAt", "(I)C"⟩
abbrev cJ0_coder_7d493 : ByteArray := prog_15_method_152_code
def yJ0_coder_7d493 : MethodName := ⟨RJ0, "coder", "()B"⟩
abbrev cJ0_isLatin1_aae02 : ByteArray := prog_15_method_154_code
def yJ0_isLatin1_aae02 : MethodName := ⟨RJ0, "isLatin1", "()Z"⟩
abbrev cJ0_checkIndex_df160 : ByteArray := prog_15_method_155_code
def yJ0_checkIndex_df160 : MethodName := ⟨RJ0, "checkIndex", "(II)V"⟩
def RJ1 : String := "java/lang/StringLatin1"
def TJ1 : u_T := fun k => match k with
  | _ => ("", "", "", false)
def tyJ1 : Nat → FieldType := fun k => match k with
  | _ => .int
abbrev wsJ10 : List Cond := u_ws RJ1 TJ1 0
theorem nmJ1 : ∀ a, a < 0 → ∀ b, b < 0 → a ≠ b → (TJ1 a).2.1 ≠ (TJ1 b).2.1 := by decide +kernel
theorem tyJ1_ok : ∀ k, k < 0 → parseFieldDescriptor (TJ1 k).2.2.1 = some (tyJ1 k) := by decide +kernel
abbrev cJ1_charAt_3b067 : ByteArray := prog_16_method_2_code
def yJ1_charAt_3b067 : MethodName := ⟨RJ1, "charAt", "([BI)C"⟩
def RJ2 : String := "java/lang/StringUTF16"
def TJ2 : u_T := fun k => match k with
  | _ => ("", "", "", false)
def tyJ2 : Nat → FieldType := fun k => match k with
  | _ => .int
abbrev wsJ20 : List Cond := u_ws RJ2 TJ2 0
theorem nmJ2 : ∀ a, a < 0 → ∀ b, b < 0 → a ≠ b → (TJ2 a).2.1 ≠ (TJ2 b).2.1 := by decide +kernel
theorem tyJ2_ok : ∀ k, k < 0 → parseFieldDescriptor (TJ2 k).2.2.1 = some (tyJ2 k) := by decide +kernel
abbrev cJ2_getChar_3b067 : ByteArray := prog_17_method_5_code
def yJ2_getChar_3b067 : MethodName := ⟨RJ2, "getChar", "([BI)C"⟩
abbrev cJ2_length_9d52b : ByteArray := prog_17_method_6_code
def yJ2_length_9d52b : MethodName := ⟨RJ2, "length", "([B)I"⟩
abbrev cJ2_charAt_3b067 : ByteArray := prog_17_method_83_code
def yJ2_charAt_3b067 : MethodName := ⟨RJ2, "charAt", "([BI)C"⟩
abbrev cJ2_checkIndex_2214a : ByteArray := prog_17_method_91_code
def yJ2_checkIndex_2214a : MethodName := ⟨RJ2, "checkIndex", "(I[B)V"⟩
def RJ7 : String := "java/util/Arrays"
def TJ7 : u_T := fun k => match k with
  | _ => ("", "", "", false)
def tyJ7 : Nat → FieldType := fun k => match k with
  | _ => .int
abbrev wsJ70 : List Cond := u_ws RJ7 TJ7 0
theorem nmJ7 : ∀ a, a < 0 → ∀ b, b < 0 → a ≠ b → (TJ7 a).2.1 ≠ (TJ7 b).2.1 := by decide +kernel
theorem tyJ7_ok : ∀ k, k < 0 → parseFieldDescriptor (TJ7 k).2.2.1 = some (tyJ7 k) := by decide +kernel
abbrev cJ7_fill_d0a16 : ByteArray := prog_18_method_101_code
def yJ7_fill_d0a16 : MethodName := ⟨RJ7, "fill", "([JJ)V"⟩
abbrev cJ7_fill_53178 : ByteArray := prog_18_method_103_code
def yJ7_fill_53178 : MethodName := ⟨RJ7, "fill", "([II)V"⟩
def RJ3 : String := "jdk/internal/util/Preconditions"
def TJ3 : u_T := fun k => match k with
  | _ => ("", "", "", false)
def tyJ3 : Nat → FieldType := fun k => match k with
  | _ => .int
abbrev wsJ30 : List Cond := u_ws RJ3 TJ3 0
theorem nmJ3 : ∀ a, a < 0 → ∀ b, b < 0 → a ≠ b → (TJ3 a).2.1 ≠ (TJ3 b).2.1 := by decide +kernel
theorem tyJ3_ok : ∀ k, k < 0 → parseFieldDescriptor (TJ3 k).2.2.1 = some (tyJ3 k) := by decide +kernel
abbrev cJ3_checkIndex_8e157 : ByteArray := prog_19_method_11_code
def yJ3_checkIndex_8e157 : MethodName := ⟨RJ3, "checkIndex", "(IILjava/util/function/BiFunction;)I"⟩
def RL : String := "NothingJudgeLaw"
abbrev cL_law : ByteArray := code
def yL_law : MethodName := ⟨RL, "law", "([I)Z"⟩
abbrev vwCl : List vw_C := [(RX0, TX0, 2), (RX1, TX1, 14), (RX2, TX2, 10), (RX3, TX3, 14), (RX4, TX4, 10), (RX6, TX6, 16), (RX7, TX7, 3), (RX8, TX8, 3), (RX9, TX9, 6), (RX10, TX10, 13), (RX11, TX11, 68)]
end
section
theorem dX11_feed_0 : decode cX11_feed 0 = .ok (.aload_n 0, 1) := by decide +kernel
theorem dX11_feed_1 : decode cX11_feed 1 = .ok (.iconst 0, 1) := by decide +kernel
theorem dX11_feed_2 : decode cX11_feed 2 = .ok (.putfield 121, 3) := by decide +kernel
theorem dX11_feed_5 : decode cX11_feed 5 = .ok (.aload_n 0, 1) := by decide +kernel
theorem dX11_feed_6 : decode cX11_feed 6 = .ok (.getfield 124, 3) := by decide +kernel
theorem dX11_feed_9 : decode cX11_feed 9 = .ok (.sipush 1180, 3) := by decide +kernel
theorem dX11_feed_12 : decode cX11_feed 12 = .ok (.if_icmp .le 5, 3) := by decide +kernel
theorem dX11_feed_15 : decode cX11_feed 15 = .ok (.iconst (-1), 1) := by decide +kernel
theorem dX11_feed_16 : decode cX11_feed 16 = .ok (.ireturn, 1) := by decide +kernel
theorem dX11_feed_17 : decode cX11_feed 17 = .ok (.iconst 0, 1) := by decide +kernel
theorem dX11_feed_18 : decode cX11_feed 18 = .ok (.istore 6, 2) := by decide +kernel
theorem dX11_feed_20 : decode cX11_feed 20 = .ok (.iload 6, 2) := by decide +kernel
theorem dX11_feed_22 : decode cX11_feed 22 = .ok (.bipush 20, 2) := by decide +kernel
theorem dX11_feed_24 : decode cX11_feed 24 = .ok (.if_icmp .ge 86, 3) := by decide +kernel
theorem dX11_feed_27 : decode cX11_feed 27 = .ok (.iload 6, 2) := by decide +kernel
theorem dX11_feed_29 : decode cX11_feed 29 = .ok (.iconst 4, 1) := by decide +kernel
theorem dX11_feed_30 : decode cX11_feed 30 = .ok (.if_icmp .ge 7, 3) := by decide +kernel
theorem dX11_feed_33 : decode cX11_feed 33 = .ok (.iload_n 1, 1) := by decide +kernel
theorem dX11_feed_34 : decode cX11_feed 34 = .ok (.goto 39, 3) := by decide +kernel
theorem dX11_feed_37 : decode cX11_feed 37 = .ok (.iload 6, 2) := by decide +kernel
theorem dX11_feed_39 : decode cX11_feed 39 = .ok (.bipush 8, 2) := by decide +kernel
theorem dX11_feed_41 : decode cX11_feed 41 = .ok (.if_icmp .ge 7, 3) := by decide +kernel
theorem dX11_feed_44 : decode cX11_feed 44 = .ok (.iload_n 2, 1) := by decide +kernel
theorem dX11_feed_45 : decode cX11_feed 45 = .ok (.goto 28, 3) := by decide +kernel
theorem dX11_feed_48 : decode cX11_feed 48 = .ok (.iload 6, 2) := by decide +kernel
theorem dX11_feed_50 : decode cX11_feed 50 = .ok (.bipush 12, 2) := by decide +kernel
theorem dX11_feed_52 : decode cX11_feed 52 = .ok (.if_icmp .ge 7, 3) := by decide +kernel
theorem dX11_feed_55 : decode cX11_feed 55 = .ok (.iload_n 3, 1) := by decide +kernel
theorem dX11_feed_56 : decode cX11_feed 56 = .ok (.goto 17, 3) := by decide +kernel
theorem dX11_feed_59 : decode cX11_feed 59 = .ok (.iload 6, 2) := by decide +kernel
theorem dX11_feed_61 : decode cX11_feed 61 = .ok (.bipush 16, 2) := by decide +kernel
theorem dX11_feed_63 : decode cX11_feed 63 = .ok (.if_icmp .ge 8, 3) := by decide +kernel
theorem dX11_feed_66 : decode cX11_feed 66 = .ok (.iload 4, 2) := by decide +kernel
theorem dX11_feed_68 : decode cX11_feed 68 = .ok (.goto 5, 3) := by decide +kernel
theorem dX11_feed_71 : decode cX11_feed 71 = .ok (.iload 5, 2) := by decide +kernel
theorem dX11_feed_73 : decode cX11_feed 73 = .ok (.istore 7, 2) := by decide +kernel
theorem dX11_feed_75 : decode cX11_feed 75 = .ok (.aload_n 0, 1) := by decide +kernel
theorem dX11_feed_76 : decode cX11_feed 76 = .ok (.getfield 7, 3) := by decide +kernel
theorem dX11_feed_79 : decode cX11_feed 79 = .ok (.aload_n 0, 1) := by decide +kernel
theorem dX11_feed_80 : decode cX11_feed 80 = .ok (.getfield 124, 3) := by decide +kernel
theorem dX11_feed_83 : decode cX11_feed 83 = .ok (.iload 6, 2) := by decide +kernel
theorem dX11_feed_85 : decode cX11_feed 85 = .ok (.iadd, 1) := by decide +kernel
theorem dX11_feed_86 : decode cX11_feed 86 = .ok (.iload 7, 2) := by decide +kernel
theorem dX11_feed_88 : decode cX11_feed 88 = .ok (.bipush 24, 2) := by decide +kernel
theorem dX11_feed_90 : decode cX11_feed 90 = .ok (.bipush 8, 2) := by decide +kernel
theorem dX11_feed_92 : decode cX11_feed 92 = .ok (.iload 6, 2) := by decide +kernel
theorem dX11_feed_94 : decode cX11_feed 94 = .ok (.iconst 4, 1) := by decide +kernel
theorem dX11_feed_95 : decode cX11_feed 95 = .ok (.irem, 1) := by decide +kernel
theorem dX11_feed_96 : decode cX11_feed 96 = .ok (.imul, 1) := by decide +kernel
theorem dX11_feed_97 : decode cX11_feed 97 = .ok (.isub, 1) := by decide +kernel
theorem dX11_feed_98 : decode cX11_feed 98 = .ok (.ishr, 1) := by decide +kernel
theorem dX11_feed_99 : decode cX11_feed 99 = .ok (.sipush 255, 3) := by decide +kernel
theorem dX11_feed_102 : decode cX11_feed 102 = .ok (.iand, 1) := by decide +kernel
theorem dX11_feed_103 : decode cX11_feed 103 = .ok (.iastore, 1) := by decide +kernel
theorem dX11_feed_104 : decode cX11_feed 104 = .ok (.iinc 6 1, 3) := by decide +kernel
theorem dX11_feed_107 : decode cX11_feed 107 = .ok (.goto (-87), 3) := by decide +kernel
theorem dX11_feed_110 : decode cX11_feed 110 = .ok (.aload_n 0, 1) := by decide +kernel
theorem dX11_feed_111 : decode cX11_feed 111 = .ok (.dup, 1) := by decide +kernel
theorem dX11_feed_112 : decode cX11_feed 112 = .ok (.getfield 124, 3) := by decide +kernel
theorem dX11_feed_115 : decode cX11_feed 115 = .ok (.bipush 20, 2) := by decide +kernel
theorem dX11_feed_117 : decode cX11_feed 117 = .ok (.iadd, 1) := by decide +kernel
theorem dX11_feed_118 : decode cX11_feed 118 = .ok (.putfield 124, 3) := by decide +kernel
theorem dX11_feed_121 : decode cX11_feed 121 = .ok (.aload_n 0, 1) := by decide +kernel
theorem dX11_feed_122 : decode cX11_feed 122 = .ok (.getfield 124, 3) := by decide +kernel
theorem dX11_feed_125 : decode cX11_feed 125 = .ok (.ireturn, 1) := by decide +kernel
theorem dX11_here_0 : decode cX11_here 0 = .ok (.aload_n 0, 1) := by decide +kernel
theorem dX11_here_1 : decode cX11_here 1 = .ok (.getfield 127, 3) := by decide +kernel
theorem dX11_here_4 : decode cX11_here 4 = .ok (.aload_n 0, 1) := by decide +kernel
theorem dX11_here_5 : decode cX11_here 5 = .ok (.getfield 130, 3) := by decide +kernel
theorem dX11_here_8 : decode cX11_here 8 = .ok (.if_icmp .ge 15, 3) := by decide +kernel
theorem dX11_here_11 : decode cX11_here 11 = .ok (.aload_n 0, 1) := by decide +kernel
theorem dX11_here_12 : decode cX11_here 12 = .ok (.getfield 7, 3) := by decide +kernel
theorem dX11_here_15 : decode cX11_here 15 = .ok (.aload_n 0, 1) := by decide +kernel
theorem dX11_here_16 : decode cX11_here 16 = .ok (.getfield 127, 3) := by decide +kernel
theorem dX11_here_19 : decode cX11_here 19 = .ok (.iaload, 1) := by decide +kernel
theorem dX11_here_20 : decode cX11_here 20 = .ok (.goto 4, 3) := by decide +kernel
theorem dX11_here_23 : decode cX11_here 23 = .ok (.iconst (-1), 1) := by decide +kernel
theorem dX11_here_24 : decode cX11_here 24 = .ok (.ireturn, 1) := by decide +kernel
theorem dX11_isSmall_0 : decode cX11_isSmall 0 = .ok (.iload_n 0, 1) := by decide +kernel
theorem dX11_isSmall_1 : decode cX11_isSmall 1 = .ok (.bipush 97, 2) := by decide +kernel
theorem dX11_isSmall_3 : decode cX11_isSmall 3 = .ok (.if_icmp .lt 13, 3) := by decide +kernel
theorem dX11_isSmall_6 : decode cX11_isSmall 6 = .ok (.iload_n 0, 1) := by decide +kernel
theorem dX11_isSmall_7 : decode cX11_isSmall 7 = .ok (.bipush 122, 2) := by decide +kernel
theorem dX11_isSmall_9 : decode cX11_isSmall 9 = .ok (.if_icmp .gt 7, 3) := by decide +kernel
theorem dX11_isSmall_12 : decode cX11_isSmall 12 = .ok (.iconst 1, 1) := by decide +kernel
theorem dX11_isSmall_13 : decode cX11_isSmall 13 = .ok (.goto 4, 3) := by decide +kernel
theorem dX11_isSmall_16 : decode cX11_isSmall 16 = .ok (.iconst 0, 1) := by decide +kernel
theorem dX11_isSmall_17 : decode cX11_isSmall 17 = .ok (.ireturn, 1) := by decide +kernel
theorem dX11_next_0 : decode cX11_next 0 = .ok (.aload_n 0, 1) := by decide +kernel
theorem dX11_next_1 : decode cX11_next 1 = .ok (.invokevirtual 133, 3) := by decide +kernel
theorem dX11_next_4 : decode cX11_next 4 = .ok (.bipush 10, 2) := by decide +kernel
theorem dX11_next_6 : decode cX11_next 6 = .ok (.if_icmp .eq 12, 3) := by decide +kernel
theorem dX11_next_9 : decode cX11_next 9 = .ok (.aload_n 0, 1) := by decide +kernel
theorem dX11_next_10 : decode cX11_next 10 = .ok (.invokevirtual 133, 3) := by decide +kernel
theorem dX11_next_13 : decode cX11_next 13 = .ok (.bipush 32, 2) := by decide +kernel
theorem dX11_next_15 : decode cX11_next 15 = .ok (.if_icmp .ne 16, 3) := by decide +kernel
theorem dX11_next_18 : decode cX11_next 18 = .ok (.aload_n 0, 1) := by decide +kernel
theorem dX11_next_19 : decode cX11_next 19 = .ok (.dup, 1) := by decide +kernel
theorem dX11_next_20 : decode cX11_next 20 = .ok (.getfield 127, 3) := by decide +kernel
theorem dX11_next_23 : decode cX11_next 23 = .ok (.iconst 1, 1) := by decide +kernel
theorem dX11_next_24 : decode cX11_next 24 = .ok (.iadd, 1) := by decide +kernel
theorem dX11_next_25 : decode cX11_next 25 = .ok (.putfield 127, 3) := by decide +kernel
theorem dX11_next_28 : decode cX11_next 28 = .ok (.goto (-28), 3) := by decide +kernel
theorem dX11_next_31 : decode cX11_next 31 = .ok (.aload_n 0, 1) := by decide +kernel
theorem dX11_next_32 : decode cX11_next 32 = .ok (.aload_n 0, 1) := by decide +kernel
theorem dX11_next_33 : decode cX11_next 33 = .ok (.getfield 127, 3) := by decide +kernel
theorem dX11_next_36 : decode cX11_next 36 = .ok (.putfield 137, 3) := by decide +kernel
theorem dX11_next_39 : decode cX11_next 39 = .ok (.aload_n 0, 1) := by decide +kernel
theorem dX11_next_40 : decode cX11_next 40 = .ok (.invokevirtual 133, 3) := by decide +kernel
theorem dX11_next_43 : decode cX11_next 43 = .ok (.istore_n 1, 1) := by decide +kernel
theorem dX11_next_44 : decode cX11_next 44 = .ok (.iload_n 1, 1) := by decide +kernel
theorem dX11_next_45 : decode cX11_next 45 = .ok (.iconst (-1), 1) := by decide +kernel
theorem dX11_next_46 : decode cX11_next 46 = .ok (.if_icmp .ne 11, 3) := by decide +kernel
theorem dX11_next_49 : decode cX11_next 49 = .ok (.aload_n 0, 1) := by decide +kernel
theorem dX11_next_50 : decode cX11_next 50 = .ok (.iconst 4, 1) := by decide +kernel
theorem dX11_next_51 : decode cX11_next 51 = .ok (.putfield 140, 3) := by decide +kernel
theorem dX11_next_54 : decode cX11_next 54 = .ok (.goto 215, 3) := by decide +kernel
theorem dX11_next_57 : decode cX11_next 57 = .ok (.iload_n 1, 1) := by decide +kernel
theorem dX11_next_58 : decode cX11_next 58 = .ok (.invokestatic 143, 3) := by decide +kernel
theorem dX11_next_61 : decode cX11_next 61 = .ok (.ifCond .eq 91, 3) := by decide +kernel
theorem dX11_next_64 : decode cX11_next 64 = .ok (.aload_n 0, 1) := by decide +kernel
theorem dX11_next_65 : decode cX11_next 65 = .ok (.invokevirtual 133, 3) := by decide +kernel
theorem dX11_next_68 : decode cX11_next 68 = .ok (.invokestatic 143, 3) := by decide +kernel
theorem dX11_next_71 : decode cX11_next 71 = .ok (.ifCond .eq 16, 3) := by decide +kernel
theorem dX11_next_74 : decode cX11_next 74 = .ok (.aload_n 0, 1) := by decide +kernel
theorem dX11_next_75 : decode cX11_next 75 = .ok (.dup, 1) := by decide +kernel
theorem dX11_next_76 : decode cX11_next 76 = .ok (.getfield 127, 3) := by decide +kernel
theorem dX11_next_79 : decode cX11_next 79 = .ok (.iconst 1, 1) := by decide +kernel
theorem dX11_next_80 : decode cX11_next 80 = .ok (.iadd, 1) := by decide +kernel
theorem dX11_next_81 : decode cX11_next 81 = .ok (.putfield 127, 3) := by decide +kernel
theorem dX11_next_84 : decode cX11_next 84 = .ok (.goto (-20), 3) := by decide +kernel
theorem dX11_next_87 : decode cX11_next 87 = .ok (.aload_n 0, 1) := by decide +kernel
theorem dX11_next_88 : decode cX11_next 88 = .ok (.aload_n 0, 1) := by decide +kernel
theorem dX11_next_89 : decode cX11_next 89 = .ok (.getfield 127, 3) := by decide +kernel
theorem dX11_next_92 : decode cX11_next 92 = .ok (.aload_n 0, 1) := by decide +kernel
theorem dX11_next_93 : decode cX11_next 93 = .ok (.getfield 137, 3) := by decide +kernel
theorem dX11_next_96 : decode cX11_next 96 = .ok (.iconst 1, 1) := by decide +kernel
theorem dX11_next_97 : decode cX11_next 97 = .ok (.iadd, 1) := by decide +kernel
theorem dX11_next_98 : decode cX11_next 98 = .ok (.if_icmp .ne 10, 3) := by decide +kernel
theorem dX11_next_101 : decode cX11_next 101 = .ok (.iload_n 1, 1) := by decide +kernel
theorem dX11_next_102 : decode cX11_next 102 = .ok (.bipush 97, 2) := by decide +kernel
theorem dX11_next_104 : decode cX11_next 104 = .ok (.isub, 1) := by decide +kernel
theorem dX11_next_105 : decode cX11_next 105 = .ok (.goto 7, 3) := by decide +kernel
theorem dX11_next_108 : decode cX11_next 108 = .ok (.aload_n 0, 1) := by decide +kernel
theorem dX11_next_109 : decode cX11_next 109 = .ok (.invokevirtual 147, 3) := by decide +kernel
theorem dX11_next_112 : decode cX11_next 112 = .ok (.putfield 150, 3) := by decide +kernel
theorem dX11_next_115 : decode cX11_next 115 = .ok (.aload_n 0, 1) := by decide +kernel
theorem dX11_next_116 : decode cX11_next 116 = .ok (.aload_n 0, 1) := by decide +kernel
theorem dX11_next_117 : decode cX11_next 117 = .ok (.getfield 127, 3) := by decide +kernel
theorem dX11_next_120 : decode cX11_next 120 = .ok (.aload_n 0, 1) := by decide +kernel
theorem dX11_next_121 : decode cX11_next 121 = .ok (.getfield 137, 3) := by decide +kernel
theorem dX11_next_124 : decode cX11_next 124 = .ok (.iconst 1, 1) := by decide +kernel
theorem dX11_next_125 : decode cX11_next 125 = .ok (.iadd, 1) := by decide +kernel
theorem dX11_next_126 : decode cX11_next 126 = .ok (.if_icmp .ne 7, 3) := by decide +kernel
theorem dX11_next_129 : decode cX11_next 129 = .ok (.iconst 0, 1) := by decide +kernel
theorem dX11_next_130 : decode cX11_next 130 = .ok (.goto 16, 3) := by decide +kernel
theorem dX11_next_133 : decode cX11_next 133 = .ok (.aload_n 0, 1) := by decide +kernel
theorem dX11_next_134 : decode cX11_next 134 = .ok (.getfield 150, 3) := by decide +kernel
theorem dX11_next_137 : decode cX11_next 137 = .ok (.iconst (-1), 1) := by decide +kernel
theorem dX11_next_138 : decode cX11_next 138 = .ok (.if_icmp .ne 7, 3) := by decide +kernel
theorem dX11_next_141 : decode cX11_next 141 = .ok (.iconst 5, 1) := by decide +kernel
theorem dX11_next_142 : decode cX11_next 142 = .ok (.goto 4, 3) := by decide +kernel
theorem dX11_next_145 : decode cX11_next 145 = .ok (.iconst 2, 1) := by decide +kernel
theorem dX11_next_146 : decode cX11_next 146 = .ok (.putfield 140, 3) := by decide +kernel
theorem dX11_next_149 : decode cX11_next 149 = .ok (.goto 120, 3) := by decide +kernel
theorem dX11_next_152 : decode cX11_next 152 = .ok (.aload_n 0, 1) := by decide +kernel
theorem dX11_next_153 : decode cX11_next 153 = .ok (.dup, 1) := by decide +kernel
theorem dX11_next_154 : decode cX11_next 154 = .ok (.getfield 127, 3) := by decide +kernel
theorem dX11_next_157 : decode cX11_next 157 = .ok (.iconst 1, 1) := by decide +kernel
theorem dX11_next_158 : decode cX11_next 158 = .ok (.iadd, 1) := by decide +kernel
theorem dX11_next_159 : decode cX11_next 159 = .ok (.putfield 127, 3) := by decide +kernel
theorem dX11_next_162 : decode cX11_next 162 = .ok (.aload_n 0, 1) := by decide +kernel
theorem dX11_next_163 : decode cX11_next 163 = .ok (.iload_n 1, 1) := by decide +kernel
theorem dX11_next_164 : decode cX11_next 164 = .ok (.bipush 65, 2) := by decide +kernel
theorem dX11_next_166 : decode cX11_next 166 = .ok (.if_icmp .lt 16, 3) := by decide +kernel
theorem dX11_next_169 : decode cX11_next 169 = .ok (.iload_n 1, 1) := by decide +kernel
theorem dX11_next_170 : decode cX11_next 170 = .ok (.bipush 72, 2) := by decide +kernel
theorem dX11_next_172 : decode cX11_next 172 = .ok (.if_icmp .gt 10, 3) := by decide +kernel
theorem dX11_next_175 : decode cX11_next 175 = .ok (.iload_n 1, 1) := by decide +kernel
theorem dX11_next_176 : decode cX11_next 176 = .ok (.bipush 65, 2) := by decide +kernel
theorem dX11_next_178 : decode cX11_next 178 = .ok (.isub, 1) := by decide +kernel
theorem dX11_next_179 : decode cX11_next 179 = .ok (.goto 4, 3) := by decide +kernel
theorem dX11_next_182 : decode cX11_next 182 = .ok (.iload_n 1, 1) := by decide +kernel
theorem dX11_next_183 : decode cX11_next 183 = .ok (.putfield 150, 3) := by decide +kernel
theorem dX11_next_186 : decode cX11_next 186 = .ok (.iload_n 1, 1) := by decide +kernel
theorem dX11_next_187 : decode cX11_next 187 = .ok (.bipush 123, 2) := by decide +kernel
theorem dX11_next_189 : decode cX11_next 189 = .ok (.if_icmp .eq 45, 3) := by decide +kernel
theorem dX11_next_192 : decode cX11_next 192 = .ok (.iload_n 1, 1) := by decide +kernel
theorem dX11_next_193 : decode cX11_next 193 = .ok (.bipush 125, 2) := by decide +kernel
theorem dX11_next_195 : decode cX11_next 195 = .ok (.if_icmp .eq 39, 3) := by decide +kernel
theorem dX11_next_198 : decode cX11_next 198 = .ok (.iload_n 1, 1) := by decide +kernel
theorem dX11_next_199 : decode cX11_next 199 = .ok (.bipush 40, 2) := by decide +kernel
theorem dX11_next_201 : decode cX11_next 201 = .ok (.if_icmp .eq 33, 3) := by decide +kernel
theorem dX11_next_204 : decode cX11_next 204 = .ok (.iload_n 1, 1) := by decide +kernel
theorem dX11_next_205 : decode cX11_next 205 = .ok (.bipush 41, 2) := by decide +kernel
theorem dX11_next_207 : decode cX11_next 207 = .ok (.if_icmp .eq 27, 3) := by decide +kernel
theorem dX11_next_210 : decode cX11_next 210 = .ok (.iload_n 1, 1) := by decide +kernel
theorem dX11_next_211 : decode cX11_next 211 = .ok (.bipush 44, 2) := by decide +kernel
theorem dX11_next_213 : decode cX11_next 213 = .ok (.if_icmp .eq 21, 3) := by decide +kernel
theorem dX11_next_216 : decode cX11_next 216 = .ok (.iload_n 1, 1) := by decide +kernel
theorem dX11_next_217 : decode cX11_next 217 = .ok (.bipush 59, 2) := by decide +kernel
theorem dX11_next_219 : decode cX11_next 219 = .ok (.if_icmp .eq 15, 3) := by decide +kernel
theorem dX11_next_222 : decode cX11_next 222 = .ok (.iload_n 1, 1) := by decide +kernel
theorem dX11_next_223 : decode cX11_next 223 = .ok (.bipush 61, 2) := by decide +kernel
theorem dX11_next_225 : decode cX11_next 225 = .ok (.if_icmp .eq 9, 3) := by decide +kernel
theorem dX11_next_228 : decode cX11_next 228 = .ok (.iload_n 1, 1) := by decide +kernel
theorem dX11_next_229 : decode cX11_next 229 = .ok (.bipush 46, 2) := by decide +kernel
theorem dX11_next_231 : decode cX11_next 231 = .ok (.if_icmp .ne 7, 3) := by decide +kernel
theorem dX11_next_234 : decode cX11_next 234 = .ok (.iconst 1, 1) := by decide +kernel
theorem dX11_next_235 : decode cX11_next 235 = .ok (.goto 4, 3) := by decide +kernel
theorem dX11_next_238 : decode cX11_next 238 = .ok (.iconst 0, 1) := by decide +kernel
theorem dX11_next_239 : decode cX11_next 239 = .ok (.istore_n 2, 1) := by decide +kernel
theorem dX11_next_240 : decode cX11_next 240 = .ok (.aload_n 0, 1) := by decide +kernel
theorem dX11_next_241 : decode cX11_next 241 = .ok (.iload_n 1, 1) := by decide +kernel
theorem dX11_next_242 : decode cX11_next 242 = .ok (.bipush 65, 2) := by decide +kernel
theorem dX11_next_244 : decode cX11_next 244 = .ok (.if_icmp .lt 13, 3) := by decide +kernel
theorem dX11_next_247 : decode cX11_next 247 = .ok (.iload_n 1, 1) := by decide +kernel
theorem dX11_next_248 : decode cX11_next 248 = .ok (.bipush 72, 2) := by decide +kernel
theorem dX11_next_250 : decode cX11_next 250 = .ok (.if_icmp .gt 7, 3) := by decide +kernel
theorem dX11_next_253 : decode cX11_next 253 = .ok (.iconst 1, 1) := by decide +kernel
theorem dX11_next_254 : decode cX11_next 254 = .ok (.goto 12, 3) := by decide +kernel
theorem dX11_next_257 : decode cX11_next 257 = .ok (.iload_n 2, 1) := by decide +kernel
theorem dX11_next_258 : decode cX11_next 258 = .ok (.ifCond .eq 7, 3) := by decide +kernel
theorem dX11_next_261 : decode cX11_next 261 = .ok (.iconst 3, 1) := by decide +kernel
theorem dX11_next_262 : decode cX11_next 262 = .ok (.goto 4, 3) := by decide +kernel
theorem dX11_next_265 : decode cX11_next 265 = .ok (.iconst 5, 1) := by decide +kernel
theorem dX11_next_266 : decode cX11_next 266 = .ok (.putfield 140, 3) := by decide +kernel
theorem dX11_next_269 : decode cX11_next 269 = .ok (.return_, 1) := by decide +kernel
theorem dX11_wordOf_0 : decode cX11_wordOf 0 = .ok (.iconst 0, 1) := by decide +kernel
theorem dX11_wordOf_1 : decode cX11_wordOf 1 = .ok (.istore_n 1, 1) := by decide +kernel
theorem dX11_wordOf_2 : decode cX11_wordOf 2 = .ok (.iconst 0, 1) := by decide +kernel
theorem dX11_wordOf_3 : decode cX11_wordOf 3 = .ok (.istore_n 2, 1) := by decide +kernel
theorem dX11_wordOf_4 : decode cX11_wordOf 4 = .ok (.iload_n 2, 1) := by decide +kernel
theorem dX11_wordOf_5 : decode cX11_wordOf 5 = .ok (.ldc 153, 2) := by decide +kernel
theorem dX11_wordOf_7 : decode cX11_wordOf 7 = .ok (.invokevirtual 155, 3) := by decide +kernel
theorem dX11_wordOf_10 : decode cX11_wordOf 10 = .ok (.if_icmp .ge 113, 3) := by decide +kernel
theorem dX11_wordOf_13 : decode cX11_wordOf 13 = .ok (.iconst 0, 1) := by decide +kernel
theorem dX11_wordOf_14 : decode cX11_wordOf 14 = .ok (.istore_n 3, 1) := by decide +kernel
theorem dX11_wordOf_15 : decode cX11_wordOf 15 = .ok (.ldc 153, 2) := by decide +kernel
theorem dX11_wordOf_17 : decode cX11_wordOf 17 = .ok (.iload_n 2, 1) := by decide +kernel
theorem dX11_wordOf_18 : decode cX11_wordOf 18 = .ok (.iload_n 3, 1) := by decide +kernel
theorem dX11_wordOf_19 : decode cX11_wordOf 19 = .ok (.iadd, 1) := by decide +kernel
theorem dX11_wordOf_20 : decode cX11_wordOf 20 = .ok (.invokevirtual 160, 3) := by decide +kernel
theorem dX11_wordOf_23 : decode cX11_wordOf 23 = .ok (.bipush 32, 2) := by decide +kernel
theorem dX11_wordOf_25 : decode cX11_wordOf 25 = .ok (.if_icmp .eq 44, 3) := by decide +kernel
theorem dX11_wordOf_28 : decode cX11_wordOf 28 = .ok (.aload_n 0, 1) := by decide +kernel
theorem dX11_wordOf_29 : decode cX11_wordOf 29 = .ok (.getfield 137, 3) := by decide +kernel
theorem dX11_wordOf_32 : decode cX11_wordOf 32 = .ok (.iload_n 3, 1) := by decide +kernel
theorem dX11_wordOf_33 : decode cX11_wordOf 33 = .ok (.iadd, 1) := by decide +kernel
theorem dX11_wordOf_34 : decode cX11_wordOf 34 = .ok (.aload_n 0, 1) := by decide +kernel
theorem dX11_wordOf_35 : decode cX11_wordOf 35 = .ok (.getfield 127, 3) := by decide +kernel
theorem dX11_wordOf_38 : decode cX11_wordOf 38 = .ok (.if_icmp .ge 31, 3) := by decide +kernel
theorem dX11_wordOf_41 : decode cX11_wordOf 41 = .ok (.aload_n 0, 1) := by decide +kernel
theorem dX11_wordOf_42 : decode cX11_wordOf 42 = .ok (.getfield 7, 3) := by decide +kernel
theorem dX11_wordOf_45 : decode cX11_wordOf 45 = .ok (.aload_n 0, 1) := by decide +kernel
theorem dX11_wordOf_46 : decode cX11_wordOf 46 = .ok (.getfield 137, 3) := by decide +kernel
theorem dX11_wordOf_49 : decode cX11_wordOf 49 = .ok (.iload_n 3, 1) := by decide +kernel
theorem dX11_wordOf_50 : decode cX11_wordOf 50 = .ok (.iadd, 1) := by decide +kernel
theorem dX11_wordOf_51 : decode cX11_wordOf 51 = .ok (.iaload, 1) := by decide +kernel
theorem dX11_wordOf_52 : decode cX11_wordOf 52 = .ok (.ldc 153, 2) := by decide +kernel
theorem dX11_wordOf_54 : decode cX11_wordOf 54 = .ok (.iload_n 2, 1) := by decide +kernel
theorem dX11_wordOf_55 : decode cX11_wordOf 55 = .ok (.iload_n 3, 1) := by decide +kernel
theorem dX11_wordOf_56 : decode cX11_wordOf 56 = .ok (.iadd, 1) := by decide +kernel
theorem dX11_wordOf_57 : decode cX11_wordOf 57 = .ok (.invokevirtual 160, 3) := by decide +kernel
theorem dX11_wordOf_60 : decode cX11_wordOf 60 = .ok (.if_icmp .ne 9, 3) := by decide +kernel
theorem dX11_wordOf_63 : decode cX11_wordOf 63 = .ok (.iinc 3 1, 3) := by decide +kernel
theorem dX11_wordOf_66 : decode cX11_wordOf 66 = .ok (.goto (-51), 3) := by decide +kernel
theorem dX11_wordOf_69 : decode cX11_wordOf 69 = .ok (.ldc 153, 2) := by decide +kernel
theorem dX11_wordOf_71 : decode cX11_wordOf 71 = .ok (.iload_n 2, 1) := by decide +kernel
theorem dX11_wordOf_72 : decode cX11_wordOf 72 = .ok (.iload_n 3, 1) := by decide +kernel
theorem dX11_wordOf_73 : decode cX11_wordOf 73 = .ok (.iadd, 1) := by decide +kernel
theorem dX11_wordOf_74 : decode cX11_wordOf 74 = .ok (.invokevirtual 160, 3) := by decide +kernel
theorem dX11_wordOf_77 : decode cX11_wordOf 77 = .ok (.bipush 32, 2) := by decide +kernel
theorem dX11_wordOf_79 : decode cX11_wordOf 79 = .ok (.if_icmp .ne 18, 3) := by decide +kernel
theorem dX11_wordOf_82 : decode cX11_wordOf 82 = .ok (.aload_n 0, 1) := by decide +kernel
theorem dX11_wordOf_83 : decode cX11_wordOf 83 = .ok (.getfield 137, 3) := by decide +kernel
theorem dX11_wordOf_86 : decode cX11_wordOf 86 = .ok (.iload_n 3, 1) := by decide +kernel
theorem dX11_wordOf_87 : decode cX11_wordOf 87 = .ok (.iadd, 1) := by decide +kernel
theorem dX11_wordOf_88 : decode cX11_wordOf 88 = .ok (.aload_n 0, 1) := by decide +kernel
theorem dX11_wordOf_89 : decode cX11_wordOf 89 = .ok (.getfield 127, 3) := by decide +kernel
theorem dX11_wordOf_92 : decode cX11_wordOf 92 = .ok (.if_icmp .ne 5, 3) := by decide +kernel
theorem dX11_wordOf_95 : decode cX11_wordOf 95 = .ok (.iload_n 1, 1) := by decide +kernel
theorem dX11_wordOf_96 : decode cX11_wordOf 96 = .ok (.ireturn, 1) := by decide +kernel
theorem dX11_wordOf_97 : decode cX11_wordOf 97 = .ok (.ldc 153, 2) := by decide +kernel
theorem dX11_wordOf_99 : decode cX11_wordOf 99 = .ok (.iload_n 2, 1) := by decide +kernel
theorem dX11_wordOf_100 : decode cX11_wordOf 100 = .ok (.invokevirtual 160, 3) := by decide +kernel
theorem dX11_wordOf_103 : decode cX11_wordOf 103 = .ok (.bipush 32, 2) := by decide +kernel
theorem dX11_wordOf_105 : decode cX11_wordOf 105 = .ok (.if_icmp .eq 9, 3) := by decide +kernel
theorem dX11_wordOf_108 : decode cX11_wordOf 108 = .ok (.iinc 2 1, 3) := by decide +kernel
theorem dX11_wordOf_111 : decode cX11_wordOf 111 = .ok (.goto (-14), 3) := by decide +kernel
theorem dX11_wordOf_114 : decode cX11_wordOf 114 = .ok (.iinc 2 1, 3) := by decide +kernel
theorem dX11_wordOf_117 : decode cX11_wordOf 117 = .ok (.iinc 1 1, 3) := by decide +kernel
theorem dX11_wordOf_120 : decode cX11_wordOf 120 = .ok (.goto (-116), 3) := by decide +kernel
theorem dX11_wordOf_123 : decode cX11_wordOf 123 = .ok (.iconst (-1), 1) := by decide +kernel
theorem dX11_wordOf_124 : decode cX11_wordOf 124 = .ok (.ireturn, 1) := by decide +kernel
theorem dX11_wrong_0 : decode cX11_wrong 0 = .ok (.aload_n 0, 1) := by decide +kernel
theorem dX11_wrong_1 : decode cX11_wrong 1 = .ok (.getfield 164, 3) := by decide +kernel
theorem dX11_wrong_4 : decode cX11_wrong 4 = .ok (.ifCond .eq 4, 3) := by decide +kernel
theorem dX11_wrong_7 : decode cX11_wrong 7 = .ok (.return_, 1) := by decide +kernel
theorem dX11_wrong_8 : decode cX11_wrong 8 = .ok (.aload_n 0, 1) := by decide +kernel
theorem dX11_wrong_9 : decode cX11_wrong 9 = .ok (.iload_n 1, 1) := by decide +kernel
theorem dX11_wrong_10 : decode cX11_wrong 10 = .ok (.putfield 164, 3) := by decide +kernel
theorem dX11_wrong_13 : decode cX11_wrong 13 = .ok (.aload_n 0, 1) := by decide +kernel
theorem dX11_wrong_14 : decode cX11_wrong 14 = .ok (.iload_n 2, 1) := by decide +kernel
theorem dX11_wrong_15 : decode cX11_wrong 15 = .ok (.putfield 167, 3) := by decide +kernel
theorem dX11_wrong_18 : decode cX11_wrong 18 = .ok (.return_, 1) := by decide +kernel
theorem dX11_isSign_0 : decode cX11_isSign 0 = .ok (.aload_n 0, 1) := by decide +kernel
theorem dX11_isSign_1 : decode cX11_isSign 1 = .ok (.getfield 164, 3) := by decide +kernel
theorem dX11_isSign_4 : decode cX11_isSign 4 = .ok (.ifCond .ne 23, 3) := by decide +kernel
theorem dX11_isSign_7 : decode cX11_isSign 7 = .ok (.aload_n 0, 1) := by decide +kernel
theorem dX11_isSign_8 : decode cX11_isSign 8 = .ok (.getfield 140, 3) := by decide +kernel
theorem dX11_isSign_11 : decode cX11_isSign 11 = .ok (.iconst 3, 1) := by decide +kernel
theorem dX11_isSign_12 : decode cX11_isSign 12 = .ok (.if_icmp .ne 15, 3) := by decide +kernel
theorem dX11_isSign_15 : decode cX11_isSign 15 = .ok (.aload_n 0, 1) := by decide +kernel
theorem dX11_isSign_16 : decode cX11_isSign 16 = .ok (.getfield 150, 3) := by decide +kernel
theorem dX11_isSign_19 : decode cX11_isSign 19 = .ok (.iload_n 1, 1) := by decide +kernel
theorem dX11_isSign_20 : decode cX11_isSign 20 = .ok (.if_icmp .ne 7, 3) := by decide +kernel
theorem dX11_isSign_23 : decode cX11_isSign 23 = .ok (.iconst 1, 1) := by decide +kernel
theorem dX11_isSign_24 : decode cX11_isSign 24 = .ok (.goto 4, 3) := by decide +kernel
theorem dX11_isSign_27 : decode cX11_isSign 27 = .ok (.iconst 0, 1) := by decide +kernel
theorem dX11_isSign_28 : decode cX11_isSign 28 = .ok (.ireturn, 1) := by decide +kernel
theorem dX11_isWord_0 : decode cX11_isWord 0 = .ok (.aload_n 0, 1) := by decide +kernel
theorem dX11_isWord_1 : decode cX11_isWord 1 = .ok (.getfield 164, 3) := by decide +kernel
theorem dX11_isWord_4 : decode cX11_isWord 4 = .ok (.ifCond .ne 23, 3) := by decide +kernel
theorem dX11_isWord_7 : decode cX11_isWord 7 = .ok (.aload_n 0, 1) := by decide +kernel
theorem dX11_isWord_8 : decode cX11_isWord 8 = .ok (.getfield 140, 3) := by decide +kernel
theorem dX11_isWord_11 : decode cX11_isWord 11 = .ok (.iconst 2, 1) := by decide +kernel
theorem dX11_isWord_12 : decode cX11_isWord 12 = .ok (.if_icmp .ne 15, 3) := by decide +kernel
theorem dX11_isWord_15 : decode cX11_isWord 15 = .ok (.aload_n 0, 1) := by decide +kernel
theorem dX11_isWord_16 : decode cX11_isWord 16 = .ok (.getfield 150, 3) := by decide +kernel
theorem dX11_isWord_19 : decode cX11_isWord 19 = .ok (.iload_n 1, 1) := by decide +kernel
theorem dX11_isWord_20 : decode cX11_isWord 20 = .ok (.if_icmp .ne 7, 3) := by decide +kernel
theorem dX11_isWord_23 : decode cX11_isWord 23 = .ok (.iconst 1, 1) := by decide +kernel
theorem dX11_isWord_24 : decode cX11_isWord 24 = .ok (.goto 4, 3) := by decide +kernel
theorem dX11_isWord_27 : decode cX11_isWord 27 = .ok (.iconst 0, 1) := by decide +kernel
theorem dX11_isWord_28 : decode cX11_isWord 28 = .ok (.ireturn, 1) := by decide +kernel
theorem dX11_takesSign_0 : decode cX11_takesSign 0 = .ok (.aload_n 0, 1) := by decide +kernel
theorem dX11_takesSign_1 : decode cX11_takesSign 1 = .ok (.iload_n 1, 1) := by decide +kernel
theorem dX11_takesSign_2 : decode cX11_takesSign 2 = .ok (.invokevirtual 170, 3) := by decide +kernel
theorem dX11_takesSign_5 : decode cX11_takesSign 5 = .ok (.ifCond .ne 5, 3) := by decide +kernel
theorem dX11_takesSign_8 : decode cX11_takesSign 8 = .ok (.iconst 0, 1) := by decide +kernel
theorem dX11_takesSign_9 : decode cX11_takesSign 9 = .ok (.ireturn, 1) := by decide +kernel
theorem dX11_takesSign_10 : decode cX11_takesSign 10 = .ok (.aload_n 0, 1) := by decide +kernel
theorem dX11_takesSign_11 : decode cX11_takesSign 11 = .ok (.invokevirtual 173, 3) := by decide +kernel
theorem dX11_takesSign_14 : decode cX11_takesSign 14 = .ok (.iconst 1, 1) := by decide +kernel
theorem dX11_takesSign_15 : decode cX11_takesSign 15 = .ok (.ireturn, 1) := by decide +kernel
theorem dX11_wants_0 : decode cX11_wants 0 = .ok (.aload_n 0, 1) := by decide +kernel
theorem dX11_wants_1 : decode cX11_wants 1 = .ok (.iload_n 1, 1) := by decide +kernel
theorem dX11_wants_2 : decode cX11_wants 2 = .ok (.invokevirtual 176, 3) := by decide +kernel
theorem dX11_wants_5 : decode cX11_wants 5 = .ok (.ifCond .ne 12, 3) := by decide +kernel
theorem dX11_wants_8 : decode cX11_wants 8 = .ok (.aload_n 0, 1) := by decide +kernel
theorem dX11_wants_9 : decode cX11_wants 9 = .ok (.iconst 1, 1) := by decide +kernel
theorem dX11_wants_10 : decode cX11_wants 10 = .ok (.aload_n 0, 1) := by decide +kernel
theorem dX11_wants_11 : decode cX11_wants 11 = .ok (.getfield 137, 3) := by decide +kernel
theorem dX11_wants_14 : decode cX11_wants 14 = .ok (.invokevirtual 179, 3) := by decide +kernel
theorem dX11_wants_17 : decode cX11_wants 17 = .ok (.return_, 1) := by decide +kernel
theorem dX11_taken_0 : decode cX11_taken 0 = .ok (.aload_n 0, 1) := by decide +kernel
theorem dX11_taken_1 : decode cX11_taken 1 = .ok (.getfield 164, 3) := by decide +kernel
theorem dX11_taken_4 : decode cX11_taken 4 = .ok (.ifCond .eq 5, 3) := by decide +kernel
theorem dX11_taken_7 : decode cX11_taken 7 = .ok (.iconst 0, 1) := by decide +kernel
theorem dX11_taken_8 : decode cX11_taken 8 = .ok (.ireturn, 1) := by decide +kernel
theorem dX11_taken_9 : decode cX11_taken 9 = .ok (.aload_n 0, 1) := by decide +kernel
theorem dX11_taken_10 : decode cX11_taken 10 = .ok (.getfield 140, 3) := by decide +kernel
theorem dX11_taken_13 : decode cX11_taken 13 = .ok (.iload_n 1, 1) := by decide +kernel
theorem dX11_taken_14 : decode cX11_taken 14 = .ok (.if_icmp .eq 14, 3) := by decide +kernel
theorem dX11_taken_17 : decode cX11_taken 17 = .ok (.aload_n 0, 1) := by decide +kernel
theorem dX11_taken_18 : decode cX11_taken 18 = .ok (.iconst 1, 1) := by decide +kernel
theorem dX11_taken_19 : decode cX11_taken 19 = .ok (.aload_n 0, 1) := by decide +kernel
theorem dX11_taken_20 : decode cX11_taken 20 = .ok (.getfield 137, 3) := by decide +kernel
theorem dX11_taken_23 : decode cX11_taken 23 = .ok (.invokevirtual 179, 3) := by decide +kernel
theorem dX11_taken_26 : decode cX11_taken 26 = .ok (.iconst 0, 1) := by decide +kernel
theorem dX11_taken_27 : decode cX11_taken 27 = .ok (.ireturn, 1) := by decide +kernel
theorem dX11_taken_28 : decode cX11_taken 28 = .ok (.aload_n 0, 1) := by decide +kernel
theorem dX11_taken_29 : decode cX11_taken 29 = .ok (.getfield 150, 3) := by decide +kernel
theorem dX11_taken_32 : decode cX11_taken 32 = .ok (.istore_n 2, 1) := by decide +kernel
theorem dX11_taken_33 : decode cX11_taken 33 = .ok (.aload_n 0, 1) := by decide +kernel
theorem dX11_taken_34 : decode cX11_taken 34 = .ok (.invokevirtual 173, 3) := by decide +kernel
theorem dX11_taken_37 : decode cX11_taken 37 = .ok (.iload_n 2, 1) := by decide +kernel
theorem dX11_taken_38 : decode cX11_taken 38 = .ok (.ireturn, 1) := by decide +kernel
theorem dX11_emit_0 : decode cX11_emit 0 = .ok (.sipush 1300, 3) := by decide +kernel
theorem dX11_emit_3 : decode cX11_emit 3 = .ok (.aload_n 0, 1) := by decide +kernel
theorem dX11_emit_4 : decode cX11_emit 4 = .ok (.getfield 183, 3) := by decide +kernel
theorem dX11_emit_7 : decode cX11_emit 7 = .ok (.iadd, 1) := by decide +kernel
theorem dX11_emit_8 : decode cX11_emit 8 = .ok (.istore 5, 2) := by decide +kernel
theorem dX11_emit_10 : decode cX11_emit 10 = .ok (.aload_n 0, 1) := by decide +kernel
theorem dX11_emit_11 : decode cX11_emit 11 = .ok (.getfield 17, 3) := by decide +kernel
theorem dX11_emit_14 : decode cX11_emit 14 = .ok (.iload 5, 2) := by decide +kernel
theorem dX11_emit_16 : decode cX11_emit 16 = .ok (.iload_n 1, 1) := by decide +kernel
theorem dX11_emit_17 : decode cX11_emit 17 = .ok (.iastore, 1) := by decide +kernel
theorem dX11_emit_18 : decode cX11_emit 18 = .ok (.aload_n 0, 1) := by decide +kernel
theorem dX11_emit_19 : decode cX11_emit 19 = .ok (.getfield 20, 3) := by decide +kernel
theorem dX11_emit_22 : decode cX11_emit 22 = .ok (.iload 5, 2) := by decide +kernel
theorem dX11_emit_24 : decode cX11_emit 24 = .ok (.iload_n 2, 1) := by decide +kernel
theorem dX11_emit_25 : decode cX11_emit 25 = .ok (.iastore, 1) := by decide +kernel
theorem dX11_emit_26 : decode cX11_emit 26 = .ok (.aload_n 0, 1) := by decide +kernel
theorem dX11_emit_27 : decode cX11_emit 27 = .ok (.getfield 23, 3) := by decide +kernel
theorem dX11_emit_30 : decode cX11_emit 30 = .ok (.iload 5, 2) := by decide +kernel
theorem dX11_emit_32 : decode cX11_emit 32 = .ok (.iload_n 3, 1) := by decide +kernel
theorem dX11_emit_33 : decode cX11_emit 33 = .ok (.iastore, 1) := by decide +kernel
theorem dX11_emit_34 : decode cX11_emit 34 = .ok (.aload_n 0, 1) := by decide +kernel
theorem dX11_emit_35 : decode cX11_emit 35 = .ok (.getfield 26, 3) := by decide +kernel
theorem dX11_emit_38 : decode cX11_emit 38 = .ok (.iload 5, 2) := by decide +kernel
theorem dX11_emit_40 : decode cX11_emit 40 = .ok (.iload 4, 2) := by decide +kernel
theorem dX11_emit_42 : decode cX11_emit 42 = .ok (.iastore, 1) := by decide +kernel
theorem dX11_emit_43 : decode cX11_emit 43 = .ok (.aload_n 0, 1) := by decide +kernel
theorem dX11_emit_44 : decode cX11_emit 44 = .ok (.dup, 1) := by decide +kernel
theorem dX11_emit_45 : decode cX11_emit 45 = .ok (.getfield 183, 3) := by decide +kernel
theorem dX11_emit_48 : decode cX11_emit 48 = .ok (.iconst 1, 1) := by decide +kernel
theorem dX11_emit_49 : decode cX11_emit 49 = .ok (.iadd, 1) := by decide +kernel
theorem dX11_emit_50 : decode cX11_emit 50 = .ok (.putfield 183, 3) := by decide +kernel
theorem dX11_emit_53 : decode cX11_emit 53 = .ok (.aload_n 0, 1) := by decide +kernel
theorem dX11_emit_54 : decode cX11_emit 54 = .ok (.getfield 183, 3) := by decide +kernel
theorem dX11_emit_57 : decode cX11_emit 57 = .ok (.iconst 1, 1) := by decide +kernel
theorem dX11_emit_58 : decode cX11_emit 58 = .ok (.isub, 1) := by decide +kernel
theorem dX11_emit_59 : decode cX11_emit 59 = .ok (.ireturn, 1) := by decide +kernel
theorem dX11_parses_0 : decode cX11_parses 0 = .ok (.aload_n 0, 1) := by decide +kernel
theorem dX11_parses_1 : decode cX11_parses 1 = .ok (.iconst 0, 1) := by decide +kernel
theorem dX11_parses_2 : decode cX11_parses 2 = .ok (.putfield 127, 3) := by decide +kernel
theorem dX11_parses_5 : decode cX11_parses 5 = .ok (.aload_n 0, 1) := by decide +kernel
theorem dX11_parses_6 : decode cX11_parses 6 = .ok (.iconst 0, 1) := by decide +kernel
theorem dX11_parses_7 : decode cX11_parses 7 = .ok (.putfield 164, 3) := by decide +kernel
theorem dX11_parses_10 : decode cX11_parses 10 = .ok (.aload_n 0, 1) := by decide +kernel
theorem dX11_parses_11 : decode cX11_parses 11 = .ok (.iconst (-1), 1) := by decide +kernel
theorem dX11_parses_12 : decode cX11_parses 12 = .ok (.putfield 167, 3) := by decide +kernel
theorem dX11_parses_15 : decode cX11_parses 15 = .ok (.aload_n 0, 1) := by decide +kernel
theorem dX11_parses_16 : decode cX11_parses 16 = .ok (.iconst 0, 1) := by decide +kernel
theorem dX11_parses_17 : decode cX11_parses 17 = .ok (.putfield 183, 3) := by decide +kernel
theorem dX11_parses_20 : decode cX11_parses 20 = .ok (.aload_n 0, 1) := by decide +kernel
theorem dX11_parses_21 : decode cX11_parses 21 = .ok (.iconst 0, 1) := by decide +kernel
theorem dX11_parses_22 : decode cX11_parses 22 = .ok (.putfield 186, 3) := by decide +kernel
theorem dX11_parses_25 : decode cX11_parses 25 = .ok (.aload_n 0, 1) := by decide +kernel
theorem dX11_parses_26 : decode cX11_parses 26 = .ok (.iconst 0, 1) := by decide +kernel
theorem dX11_parses_27 : decode cX11_parses 27 = .ok (.putfield 189, 3) := by decide +kernel
theorem dX11_parses_30 : decode cX11_parses 30 = .ok (.aload_n 0, 1) := by decide +kernel
theorem dX11_parses_31 : decode cX11_parses 31 = .ok (.getfield 53, 3) := by decide +kernel
theorem dX11_parses_34 : decode cX11_parses 34 = .ok (.iconst 1, 1) := by decide +kernel
theorem dX11_parses_35 : decode cX11_parses 35 = .ok (.iconst 0, 1) := by decide +kernel
theorem dX11_parses_36 : decode cX11_parses 36 = .ok (.iastore, 1) := by decide +kernel
theorem dX11_parses_37 : decode cX11_parses 37 = .ok (.aload_n 0, 1) := by decide +kernel
theorem dX11_parses_38 : decode cX11_parses 38 = .ok (.getfield 62, 3) := by decide +kernel
theorem dX11_parses_41 : decode cX11_parses 41 = .ok (.iconst 1, 1) := by decide +kernel
theorem dX11_parses_42 : decode cX11_parses 42 = .ok (.iconst 0, 1) := by decide +kernel
theorem dX11_parses_43 : decode cX11_parses 43 = .ok (.iastore, 1) := by decide +kernel
theorem dX11_parses_44 : decode cX11_parses 44 = .ok (.aload_n 0, 1) := by decide +kernel
theorem dX11_parses_45 : decode cX11_parses 45 = .ok (.getfield 41, 3) := by decide +kernel
theorem dX11_parses_48 : decode cX11_parses 48 = .ok (.iconst 1, 1) := by decide +kernel
theorem dX11_parses_49 : decode cX11_parses 49 = .ok (.iconst (-1), 1) := by decide +kernel
theorem dX11_parses_50 : decode cX11_parses 50 = .ok (.iastore, 1) := by decide +kernel
theorem dX11_parses_51 : decode cX11_parses 51 = .ok (.bipush 8, 2) := by decide +kernel
theorem dX11_parses_53 : decode cX11_parses 53 = .ok (.istore_n 1, 1) := by decide +kernel
theorem dX11_parses_54 : decode cX11_parses 54 = .ok (.iload_n 1, 1) := by decide +kernel
theorem dX11_parses_55 : decode cX11_parses 55 = .ok (.bipush 16, 2) := by decide +kernel
theorem dX11_parses_57 : decode cX11_parses 57 = .ok (.if_icmp .ge 16, 3) := by decide +kernel
theorem dX11_parses_60 : decode cX11_parses 60 = .ok (.aload_n 0, 1) := by decide +kernel
theorem dX11_parses_61 : decode cX11_parses 61 = .ok (.getfield 32, 3) := by decide +kernel
theorem dX11_parses_64 : decode cX11_parses 64 = .ok (.iload_n 1, 1) := by decide +kernel
theorem dX11_parses_65 : decode cX11_parses 65 = .ok (.iconst (-1), 1) := by decide +kernel
theorem dX11_parses_66 : decode cX11_parses 66 = .ok (.iastore, 1) := by decide +kernel
theorem dX11_parses_67 : decode cX11_parses 67 = .ok (.iinc 1 1, 3) := by decide +kernel
theorem dX11_parses_70 : decode cX11_parses 70 = .ok (.goto (-16), 3) := by decide +kernel
theorem dX11_parses_73 : decode cX11_parses 73 = .ok (.aload_n 0, 1) := by decide +kernel
theorem dX11_parses_74 : decode cX11_parses 74 = .ok (.invokevirtual 173, 3) := by decide +kernel
theorem dX11_parses_77 : decode cX11_parses 77 = .ok (.aload_n 0, 1) := by decide +kernel
theorem dX11_parses_78 : decode cX11_parses 78 = .ok (.getfield 164, 3) := by decide +kernel
theorem dX11_parses_81 : decode cX11_parses 81 = .ok (.ifCond .ne 55, 3) := by decide +kernel
theorem dX11_parses_84 : decode cX11_parses 84 = .ok (.aload_n 0, 1) := by decide +kernel
theorem dX11_parses_85 : decode cX11_parses 85 = .ok (.getfield 140, 3) := by decide +kernel
theorem dX11_parses_88 : decode cX11_parses 88 = .ok (.iconst 4, 1) := by decide +kernel
theorem dX11_parses_89 : decode cX11_parses 89 = .ok (.if_icmp .ne 10, 3) := by decide +kernel
theorem dX11_parses_92 : decode cX11_parses 92 = .ok (.aload_n 0, 1) := by decide +kernel
theorem dX11_parses_93 : decode cX11_parses 93 = .ok (.getfield 189, 3) := by decide +kernel
theorem dX11_parses_96 : decode cX11_parses 96 = .ok (.ifCond .le 40, 3) := by decide +kernel
theorem dX11_parses_99 : decode cX11_parses 99 = .ok (.aload_n 0, 1) := by decide +kernel
theorem dX11_parses_100 : decode cX11_parses 100 = .ok (.getfield 189, 3) := by decide +kernel
theorem dX11_parses_103 : decode cX11_parses 103 = .ok (.ifCond .ne 10, 3) := by decide +kernel
theorem dX11_parses_106 : decode cX11_parses 106 = .ok (.aload_n 0, 1) := by decide +kernel
theorem dX11_parses_107 : decode cX11_parses 107 = .ok (.invokevirtual 192, 3) := by decide +kernel
theorem dX11_parses_110 : decode cX11_parses 110 = .ok (.goto (-33), 3) := by decide +kernel
theorem dX11_parses_113 : decode cX11_parses 113 = .ok (.aload_n 0, 1) := by decide +kernel
theorem dX11_parses_114 : decode cX11_parses 114 = .ok (.bipush 125, 2) := by decide +kernel
theorem dX11_parses_116 : decode cX11_parses 116 = .ok (.invokevirtual 170, 3) := by decide +kernel
theorem dX11_parses_119 : decode cX11_parses 119 = .ok (.ifCond .eq 10, 3) := by decide +kernel
theorem dX11_parses_122 : decode cX11_parses 122 = .ok (.aload_n 0, 1) := by decide +kernel
theorem dX11_parses_123 : decode cX11_parses 123 = .ok (.invokevirtual 195, 3) := by decide +kernel
theorem dX11_parses_126 : decode cX11_parses 126 = .ok (.goto (-49), 3) := by decide +kernel
theorem dX11_parses_129 : decode cX11_parses 129 = .ok (.aload_n 0, 1) := by decide +kernel
theorem dX11_parses_130 : decode cX11_parses 130 = .ok (.invokevirtual 198, 3) := by decide +kernel
theorem dX11_parses_133 : decode cX11_parses 133 = .ok (.goto (-56), 3) := by decide +kernel
theorem dX11_parses_136 : decode cX11_parses 136 = .ok (.iconst 0, 1) := by decide +kernel
theorem dX11_parses_137 : decode cX11_parses 137 = .ok (.istore_n 1, 1) := by decide +kernel
theorem dX11_parses_138 : decode cX11_parses 138 = .ok (.iload_n 1, 1) := by decide +kernel
theorem dX11_parses_139 : decode cX11_parses 139 = .ok (.aload_n 0, 1) := by decide +kernel
theorem dX11_parses_140 : decode cX11_parses 140 = .ok (.getfield 186, 3) := by decide +kernel
theorem dX11_parses_143 : decode cX11_parses 143 = .ok (.if_icmp .ge 62, 3) := by decide +kernel
theorem dX11_parses_146 : decode cX11_parses 146 = .ok (.aload_n 0, 1) := by decide +kernel
theorem dX11_parses_147 : decode cX11_parses 147 = .ok (.getfield 164, 3) := by decide +kernel
theorem dX11_parses_150 : decode cX11_parses 150 = .ok (.ifCond .ne 55, 3) := by decide +kernel
theorem dX11_parses_153 : decode cX11_parses 153 = .ok (.bipush 8, 2) := by decide +kernel
theorem dX11_parses_155 : decode cX11_parses 155 = .ok (.aload_n 0, 1) := by decide +kernel
theorem dX11_parses_156 : decode cX11_parses 156 = .ok (.getfield 68, 3) := by decide +kernel
theorem dX11_parses_159 : decode cX11_parses 159 = .ok (.iload_n 1, 1) := by decide +kernel
theorem dX11_parses_160 : decode cX11_parses 160 = .ok (.iaload, 1) := by decide +kernel
theorem dX11_parses_161 : decode cX11_parses 161 = .ok (.iadd, 1) := by decide +kernel
theorem dX11_parses_162 : decode cX11_parses 162 = .ok (.istore_n 2, 1) := by decide +kernel
theorem dX11_parses_163 : decode cX11_parses 163 = .ok (.aload_n 0, 1) := by decide +kernel
theorem dX11_parses_164 : decode cX11_parses 164 = .ok (.getfield 32, 3) := by decide +kernel
theorem dX11_parses_167 : decode cX11_parses 167 = .ok (.iload_n 2, 1) := by decide +kernel
theorem dX11_parses_168 : decode cX11_parses 168 = .ok (.iaload, 1) := by decide +kernel
theorem dX11_parses_169 : decode cX11_parses 169 = .ok (.iconst (-1), 1) := by decide +kernel
theorem dX11_parses_170 : decode cX11_parses 170 = .ok (.if_icmp .eq 18, 3) := by decide +kernel
theorem dX11_parses_173 : decode cX11_parses 173 = .ok (.aload_n 0, 1) := by decide +kernel
theorem dX11_parses_174 : decode cX11_parses 174 = .ok (.getfield 35, 3) := by decide +kernel
theorem dX11_parses_177 : decode cX11_parses 177 = .ok (.iload_n 2, 1) := by decide +kernel
theorem dX11_parses_178 : decode cX11_parses 178 = .ok (.iaload, 1) := by decide +kernel
theorem dX11_parses_179 : decode cX11_parses 179 = .ok (.aload_n 0, 1) := by decide +kernel
theorem dX11_parses_180 : decode cX11_parses 180 = .ok (.getfield 71, 3) := by decide +kernel
theorem dX11_parses_183 : decode cX11_parses 183 = .ok (.iload_n 1, 1) := by decide +kernel
theorem dX11_parses_184 : decode cX11_parses 184 = .ok (.iaload, 1) := by decide +kernel
theorem dX11_parses_185 : decode cX11_parses 185 = .ok (.if_icmp .eq 14, 3) := by decide +kernel
theorem dX11_parses_188 : decode cX11_parses 188 = .ok (.aload_n 0, 1) := by decide +kernel
theorem dX11_parses_189 : decode cX11_parses 189 = .ok (.iconst 4, 1) := by decide +kernel
theorem dX11_parses_190 : decode cX11_parses 190 = .ok (.aload_n 0, 1) := by decide +kernel
theorem dX11_parses_191 : decode cX11_parses 191 = .ok (.getfield 65, 3) := by decide +kernel
theorem dX11_parses_194 : decode cX11_parses 194 = .ok (.iload_n 1, 1) := by decide +kernel
theorem dX11_parses_195 : decode cX11_parses 195 = .ok (.iaload, 1) := by decide +kernel
theorem dX11_parses_196 : decode cX11_parses 196 = .ok (.invokevirtual 179, 3) := by decide +kernel
theorem dX11_parses_199 : decode cX11_parses 199 = .ok (.iinc 1 1, 3) := by decide +kernel
theorem dX11_parses_202 : decode cX11_parses 202 = .ok (.goto (-64), 3) := by decide +kernel
theorem dX11_parses_205 : decode cX11_parses 205 = .ok (.return_, 1) := by decide +kernel
theorem dX11_opens_0 : decode cX11_opens 0 = .ok (.aload_n 0, 1) := by decide +kernel
theorem dX11_opens_1 : decode cX11_opens 1 = .ok (.bipush 123, 2) := by decide +kernel
theorem dX11_opens_3 : decode cX11_opens 3 = .ok (.invokevirtual 170, 3) := by decide +kernel
theorem dX11_opens_6 : decode cX11_opens 6 = .ok (.ifCond .eq 21, 3) := by decide +kernel
theorem dX11_opens_9 : decode cX11_opens 9 = .ok (.aload_n 0, 1) := by decide +kernel
theorem dX11_opens_10 : decode cX11_opens 10 = .ok (.getfield 189, 3) := by decide +kernel
theorem dX11_opens_13 : decode cX11_opens 13 = .ok (.bipush 6, 2) := by decide +kernel
theorem dX11_opens_15 : decode cX11_opens 15 = .ok (.if_icmp .ne 12, 3) := by decide +kernel
theorem dX11_opens_18 : decode cX11_opens 18 = .ok (.aload_n 0, 1) := by decide +kernel
theorem dX11_opens_19 : decode cX11_opens 19 = .ok (.iconst 2, 1) := by decide +kernel
theorem dX11_opens_20 : decode cX11_opens 20 = .ok (.aload_n 0, 1) := by decide +kernel
theorem dX11_opens_21 : decode cX11_opens 21 = .ok (.getfield 137, 3) := by decide +kernel
theorem dX11_opens_24 : decode cX11_opens 24 = .ok (.invokevirtual 179, 3) := by decide +kernel
theorem dX11_opens_27 : decode cX11_opens 27 = .ok (.aload_n 0, 1) := by decide +kernel
theorem dX11_opens_28 : decode cX11_opens 28 = .ok (.bipush 123, 2) := by decide +kernel
theorem dX11_opens_30 : decode cX11_opens 30 = .ok (.invokevirtual 201, 3) := by decide +kernel
theorem dX11_opens_33 : decode cX11_opens 33 = .ok (.aload_n 0, 1) := by decide +kernel
theorem dX11_opens_34 : decode cX11_opens 34 = .ok (.getfield 164, 3) := by decide +kernel
theorem dX11_opens_37 : decode cX11_opens 37 = .ok (.ifCond .eq 4, 3) := by decide +kernel
theorem dX11_opens_40 : decode cX11_opens 40 = .ok (.return_, 1) := by decide +kernel
theorem dX11_opens_41 : decode cX11_opens 41 = .ok (.aload_n 0, 1) := by decide +kernel
theorem dX11_opens_42 : decode cX11_opens 42 = .ok (.getfield 74, 3) := by decide +kernel
theorem dX11_opens_45 : decode cX11_opens 45 = .ok (.aload_n 0, 1) := by decide +kernel
theorem dX11_opens_46 : decode cX11_opens 46 = .ok (.getfield 189, 3) := by decide +kernel
theorem dX11_opens_49 : decode cX11_opens 49 = .ok (.iload_n 1, 1) := by decide +kernel
theorem dX11_opens_50 : decode cX11_opens 50 = .ok (.iastore, 1) := by decide +kernel
theorem dX11_opens_51 : decode cX11_opens 51 = .ok (.aload_n 0, 1) := by decide +kernel
theorem dX11_opens_52 : decode cX11_opens 52 = .ok (.getfield 77, 3) := by decide +kernel
theorem dX11_opens_55 : decode cX11_opens 55 = .ok (.aload_n 0, 1) := by decide +kernel
theorem dX11_opens_56 : decode cX11_opens 56 = .ok (.getfield 189, 3) := by decide +kernel
theorem dX11_opens_59 : decode cX11_opens 59 = .ok (.iload_n 2, 1) := by decide +kernel
theorem dX11_opens_60 : decode cX11_opens 60 = .ok (.iastore, 1) := by decide +kernel
theorem dX11_opens_61 : decode cX11_opens 61 = .ok (.aload_n 0, 1) := by decide +kernel
theorem dX11_opens_62 : decode cX11_opens 62 = .ok (.getfield 80, 3) := by decide +kernel
theorem dX11_opens_65 : decode cX11_opens 65 = .ok (.aload_n 0, 1) := by decide +kernel
theorem dX11_opens_66 : decode cX11_opens 66 = .ok (.getfield 189, 3) := by decide +kernel
theorem dX11_opens_69 : decode cX11_opens 69 = .ok (.iload_n 3, 1) := by decide +kernel
theorem dX11_opens_70 : decode cX11_opens 70 = .ok (.iastore, 1) := by decide +kernel
theorem dX11_opens_71 : decode cX11_opens 71 = .ok (.aload_n 0, 1) := by decide +kernel
theorem dX11_opens_72 : decode cX11_opens 72 = .ok (.dup, 1) := by decide +kernel
theorem dX11_opens_73 : decode cX11_opens 73 = .ok (.getfield 189, 3) := by decide +kernel
theorem dX11_opens_76 : decode cX11_opens 76 = .ok (.iconst 1, 1) := by decide +kernel
theorem dX11_opens_77 : decode cX11_opens 77 = .ok (.iadd, 1) := by decide +kernel
theorem dX11_opens_78 : decode cX11_opens 78 = .ok (.putfield 189, 3) := by decide +kernel
theorem dX11_opens_81 : decode cX11_opens 81 = .ok (.return_, 1) := by decide +kernel
theorem dX11_head_0 : decode cX11_head 0 = .ok (.aload_n 0, 1) := by decide +kernel
theorem dX11_head_1 : decode cX11_head 1 = .ok (.getfield 137, 3) := by decide +kernel
theorem dX11_head_4 : decode cX11_head 4 = .ok (.istore_n 1, 1) := by decide +kernel
theorem dX11_head_5 : decode cX11_head 5 = .ok (.aload_n 0, 1) := by decide +kernel
theorem dX11_head_6 : decode cX11_head 6 = .ok (.aload_n 0, 1) := by decide +kernel
theorem dX11_head_7 : decode cX11_head 7 = .ok (.iconst 1, 1) := by decide +kernel
theorem dX11_head_8 : decode cX11_head 8 = .ok (.invokevirtual 205, 3) := by decide +kernel
theorem dX11_head_11 : decode cX11_head 11 = .ok (.putfield 209, 3) := by decide +kernel
theorem dX11_head_14 : decode cX11_head 14 = .ok (.aload_n 0, 1) := by decide +kernel
theorem dX11_head_15 : decode cX11_head 15 = .ok (.getfield 164, 3) := by decide +kernel
theorem dX11_head_18 : decode cX11_head 18 = .ok (.ifCond .eq 4, 3) := by decide +kernel
theorem dX11_head_21 : decode cX11_head 21 = .ok (.return_, 1) := by decide +kernel
theorem dX11_head_22 : decode cX11_head 22 = .ok (.bipush 8, 2) := by decide +kernel
theorem dX11_head_24 : decode cX11_head 24 = .ok (.aload_n 0, 1) := by decide +kernel
theorem dX11_head_25 : decode cX11_head 25 = .ok (.getfield 209, 3) := by decide +kernel
theorem dX11_head_28 : decode cX11_head 28 = .ok (.iadd, 1) := by decide +kernel
theorem dX11_head_29 : decode cX11_head 29 = .ok (.istore_n 2, 1) := by decide +kernel
theorem dX11_head_30 : decode cX11_head 30 = .ok (.aload_n 0, 1) := by decide +kernel
theorem dX11_head_31 : decode cX11_head 31 = .ok (.getfield 32, 3) := by decide +kernel
theorem dX11_head_34 : decode cX11_head 34 = .ok (.iload_n 2, 1) := by decide +kernel
theorem dX11_head_35 : decode cX11_head 35 = .ok (.iaload, 1) := by decide +kernel
theorem dX11_head_36 : decode cX11_head 36 = .ok (.iconst (-1), 1) := by decide +kernel
theorem dX11_head_37 : decode cX11_head 37 = .ok (.if_icmp .eq 9, 3) := by decide +kernel
theorem dX11_head_40 : decode cX11_head 40 = .ok (.aload_n 0, 1) := by decide +kernel
theorem dX11_head_41 : decode cX11_head 41 = .ok (.iconst 3, 1) := by decide +kernel
theorem dX11_head_42 : decode cX11_head 42 = .ok (.iload_n 1, 1) := by decide +kernel
theorem dX11_head_43 : decode cX11_head 43 = .ok (.invokevirtual 179, 3) := by decide +kernel
theorem dX11_head_46 : decode cX11_head 46 = .ok (.aload_n 0, 1) := by decide +kernel
theorem dX11_head_47 : decode cX11_head 47 = .ok (.bipush 40, 2) := by decide +kernel
theorem dX11_head_49 : decode cX11_head 49 = .ok (.invokevirtual 201, 3) := by decide +kernel
theorem dX11_head_52 : decode cX11_head 52 = .ok (.aload_n 0, 1) := by decide +kernel
theorem dX11_head_53 : decode cX11_head 53 = .ok (.getfield 35, 3) := by decide +kernel
theorem dX11_head_56 : decode cX11_head 56 = .ok (.iload_n 2, 1) := by decide +kernel
theorem dX11_head_57 : decode cX11_head 57 = .ok (.iconst 0, 1) := by decide +kernel
theorem dX11_head_58 : decode cX11_head 58 = .ok (.iastore, 1) := by decide +kernel
theorem dX11_head_59 : decode cX11_head 59 = .ok (.aload_n 0, 1) := by decide +kernel
theorem dX11_head_60 : decode cX11_head 60 = .ok (.getfield 164, 3) := by decide +kernel
theorem dX11_head_63 : decode cX11_head 63 = .ok (.ifCond .ne 16, 3) := by decide +kernel
theorem dX11_head_66 : decode cX11_head 66 = .ok (.aload_n 0, 1) := by decide +kernel
theorem dX11_head_67 : decode cX11_head 67 = .ok (.bipush 41, 2) := by decide +kernel
theorem dX11_head_69 : decode cX11_head 69 = .ok (.invokevirtual 170, 3) := by decide +kernel
theorem dX11_head_72 : decode cX11_head 72 = .ok (.ifCond .ne 7, 3) := by decide +kernel
theorem dX11_head_75 : decode cX11_head 75 = .ok (.iconst 1, 1) := by decide +kernel
theorem dX11_head_76 : decode cX11_head 76 = .ok (.goto 4, 3) := by decide +kernel
theorem dX11_head_79 : decode cX11_head 79 = .ok (.iconst 0, 1) := by decide +kernel
theorem dX11_head_80 : decode cX11_head 80 = .ok (.istore_n 3, 1) := by decide +kernel
theorem dX11_head_81 : decode cX11_head 81 = .ok (.iload_n 3, 1) := by decide +kernel
theorem dX11_head_82 : decode cX11_head 82 = .ok (.ifCond .eq 142, 3) := by decide +kernel
theorem dX11_head_85 : decode cX11_head 85 = .ok (.aload_n 0, 1) := by decide +kernel
theorem dX11_head_86 : decode cX11_head 86 = .ok (.getfield 164, 3) := by decide +kernel
theorem dX11_head_89 : decode cX11_head 89 = .ok (.ifCond .ne 135, 3) := by decide +kernel
theorem dX11_head_92 : decode cX11_head 92 = .ok (.aload_n 0, 1) := by decide +kernel
theorem dX11_head_93 : decode cX11_head 93 = .ok (.getfield 137, 3) := by decide +kernel
theorem dX11_head_96 : decode cX11_head 96 = .ok (.istore 4, 2) := by decide +kernel
theorem dX11_head_98 : decode cX11_head 98 = .ok (.aload_n 0, 1) := by decide +kernel
theorem dX11_head_99 : decode cX11_head 99 = .ok (.getfield 140, 3) := by decide +kernel
theorem dX11_head_102 : decode cX11_head 102 = .ok (.ifCond .ne 20, 3) := by decide +kernel
theorem dX11_head_105 : decode cX11_head 105 = .ok (.aload_n 0, 1) := by decide +kernel
theorem dX11_head_106 : decode cX11_head 106 = .ok (.getfield 35, 3) := by decide +kernel
theorem dX11_head_109 : decode cX11_head 109 = .ok (.iload_n 2, 1) := by decide +kernel
theorem dX11_head_110 : decode cX11_head 110 = .ok (.iaload, 1) := by decide +kernel
theorem dX11_head_111 : decode cX11_head 111 = .ok (.iconst 4, 1) := by decide +kernel
theorem dX11_head_112 : decode cX11_head 112 = .ok (.if_icmp .ne 10, 3) := by decide +kernel
theorem dX11_head_115 : decode cX11_head 115 = .ok (.aload_n 0, 1) := by decide +kernel
theorem dX11_head_116 : decode cX11_head 116 = .ok (.iconst 2, 1) := by decide +kernel
theorem dX11_head_117 : decode cX11_head 117 = .ok (.iload 4, 2) := by decide +kernel
theorem dX11_head_119 : decode cX11_head 119 = .ok (.invokevirtual 179, 3) := by decide +kernel
theorem dX11_head_122 : decode cX11_head 122 = .ok (.aload_n 0, 1) := by decide +kernel
theorem dX11_head_123 : decode cX11_head 123 = .ok (.iconst 0, 1) := by decide +kernel
theorem dX11_head_124 : decode cX11_head 124 = .ok (.invokevirtual 205, 3) := by decide +kernel
theorem dX11_head_127 : decode cX11_head 127 = .ok (.istore 5, 2) := by decide +kernel
theorem dX11_head_129 : decode cX11_head 129 = .ok (.iconst 0, 1) := by decide +kernel
theorem dX11_head_130 : decode cX11_head 130 = .ok (.istore 6, 2) := by decide +kernel
theorem dX11_head_132 : decode cX11_head 132 = .ok (.iload 6, 2) := by decide +kernel
theorem dX11_head_134 : decode cX11_head 134 = .ok (.aload_n 0, 1) := by decide +kernel
theorem dX11_head_135 : decode cX11_head 135 = .ok (.getfield 35, 3) := by decide +kernel
theorem dX11_head_138 : decode cX11_head 138 = .ok (.iload_n 2, 1) := by decide +kernel
theorem dX11_head_139 : decode cX11_head 139 = .ok (.iaload, 1) := by decide +kernel
theorem dX11_head_140 : decode cX11_head 140 = .ok (.if_icmp .ge 39, 3) := by decide +kernel
theorem dX11_head_143 : decode cX11_head 143 = .ok (.aload_n 0, 1) := by decide +kernel
theorem dX11_head_144 : decode cX11_head 144 = .ok (.getfield 164, 3) := by decide +kernel
theorem dX11_head_147 : decode cX11_head 147 = .ok (.ifCond .ne 32, 3) := by decide +kernel
theorem dX11_head_150 : decode cX11_head 150 = .ok (.aload_n 0, 1) := by decide +kernel
theorem dX11_head_151 : decode cX11_head 151 = .ok (.getfield 38, 3) := by decide +kernel
theorem dX11_head_154 : decode cX11_head 154 = .ok (.iconst 4, 1) := by decide +kernel
theorem dX11_head_155 : decode cX11_head 155 = .ok (.iload_n 2, 1) := by decide +kernel
theorem dX11_head_156 : decode cX11_head 156 = .ok (.imul, 1) := by decide +kernel
theorem dX11_head_157 : decode cX11_head 157 = .ok (.iload 6, 2) := by decide +kernel
theorem dX11_head_159 : decode cX11_head 159 = .ok (.iadd, 1) := by decide +kernel
theorem dX11_head_160 : decode cX11_head 160 = .ok (.iaload, 1) := by decide +kernel
theorem dX11_head_161 : decode cX11_head 161 = .ok (.iload 5, 2) := by decide +kernel
theorem dX11_head_163 : decode cX11_head 163 = .ok (.if_icmp .ne 10, 3) := by decide +kernel
theorem dX11_head_166 : decode cX11_head 166 = .ok (.aload_n 0, 1) := by decide +kernel
theorem dX11_head_167 : decode cX11_head 167 = .ok (.iconst 3, 1) := by decide +kernel
theorem dX11_head_168 : decode cX11_head 168 = .ok (.iload 4, 2) := by decide +kernel
theorem dX11_head_170 : decode cX11_head 170 = .ok (.invokevirtual 179, 3) := by decide +kernel
theorem dX11_head_173 : decode cX11_head 173 = .ok (.iinc 6 1, 3) := by decide +kernel
theorem dX11_head_176 : decode cX11_head 176 = .ok (.goto (-44), 3) := by decide +kernel
theorem dX11_head_179 : decode cX11_head 179 = .ok (.aload_n 0, 1) := by decide +kernel
theorem dX11_head_180 : decode cX11_head 180 = .ok (.getfield 164, 3) := by decide +kernel
theorem dX11_head_183 : decode cX11_head 183 = .ok (.ifCond .eq 4, 3) := by decide +kernel
theorem dX11_head_186 : decode cX11_head 186 = .ok (.return_, 1) := by decide +kernel
theorem dX11_head_187 : decode cX11_head 187 = .ok (.aload_n 0, 1) := by decide +kernel
theorem dX11_head_188 : decode cX11_head 188 = .ok (.getfield 38, 3) := by decide +kernel
theorem dX11_head_191 : decode cX11_head 191 = .ok (.iconst 4, 1) := by decide +kernel
theorem dX11_head_192 : decode cX11_head 192 = .ok (.iload_n 2, 1) := by decide +kernel
theorem dX11_head_193 : decode cX11_head 193 = .ok (.imul, 1) := by decide +kernel
theorem dX11_head_194 : decode cX11_head 194 = .ok (.aload_n 0, 1) := by decide +kernel
theorem dX11_head_195 : decode cX11_head 195 = .ok (.getfield 35, 3) := by decide +kernel
theorem dX11_head_198 : decode cX11_head 198 = .ok (.iload_n 2, 1) := by decide +kernel
theorem dX11_head_199 : decode cX11_head 199 = .ok (.iaload, 1) := by decide +kernel
theorem dX11_head_200 : decode cX11_head 200 = .ok (.iadd, 1) := by decide +kernel
theorem dX11_head_201 : decode cX11_head 201 = .ok (.iload 5, 2) := by decide +kernel
theorem dX11_head_203 : decode cX11_head 203 = .ok (.iastore, 1) := by decide +kernel
theorem dX11_head_204 : decode cX11_head 204 = .ok (.aload_n 0, 1) := by decide +kernel
theorem dX11_head_205 : decode cX11_head 205 = .ok (.getfield 35, 3) := by decide +kernel
theorem dX11_head_208 : decode cX11_head 208 = .ok (.iload_n 2, 1) := by decide +kernel
theorem dX11_head_209 : decode cX11_head 209 = .ok (.dup2, 1) := by decide +kernel
theorem dX11_head_210 : decode cX11_head 210 = .ok (.iaload, 1) := by decide +kernel
theorem dX11_head_211 : decode cX11_head 211 = .ok (.iconst 1, 1) := by decide +kernel
theorem dX11_head_212 : decode cX11_head 212 = .ok (.iadd, 1) := by decide +kernel
theorem dX11_head_213 : decode cX11_head 213 = .ok (.iastore, 1) := by decide +kernel
theorem dX11_head_214 : decode cX11_head 214 = .ok (.aload_n 0, 1) := by decide +kernel
theorem dX11_head_215 : decode cX11_head 215 = .ok (.bipush 44, 2) := by decide +kernel
theorem dX11_head_217 : decode cX11_head 217 = .ok (.invokevirtual 176, 3) := by decide +kernel
theorem dX11_head_220 : decode cX11_head 220 = .ok (.istore_n 3, 1) := by decide +kernel
theorem dX11_head_221 : decode cX11_head 221 = .ok (.goto (-140), 3) := by decide +kernel
theorem dX11_head_224 : decode cX11_head 224 = .ok (.aload_n 0, 1) := by decide +kernel
theorem dX11_head_225 : decode cX11_head 225 = .ok (.bipush 41, 2) := by decide +kernel
theorem dX11_head_227 : decode cX11_head 227 = .ok (.invokevirtual 201, 3) := by decide +kernel
theorem dX11_head_230 : decode cX11_head 230 = .ok (.aload_n 0, 1) := by decide +kernel
theorem dX11_head_231 : decode cX11_head 231 = .ok (.iconst 0, 1) := by decide +kernel
theorem dX11_head_232 : decode cX11_head 232 = .ok (.iconst (-1), 1) := by decide +kernel
theorem dX11_head_233 : decode cX11_head 233 = .ok (.iconst (-1), 1) := by decide +kernel
theorem dX11_head_234 : decode cX11_head 234 = .ok (.invokevirtual 212, 3) := by decide +kernel
theorem dX11_head_237 : decode cX11_head 237 = .ok (.aload_n 0, 1) := by decide +kernel
theorem dX11_head_238 : decode cX11_head 238 = .ok (.getfield 32, 3) := by decide +kernel
theorem dX11_head_241 : decode cX11_head 241 = .ok (.iload_n 2, 1) := by decide +kernel
theorem dX11_head_242 : decode cX11_head 242 = .ok (.aload_n 0, 1) := by decide +kernel
theorem dX11_head_243 : decode cX11_head 243 = .ok (.getfield 183, 3) := by decide +kernel
theorem dX11_head_246 : decode cX11_head 246 = .ok (.iastore, 1) := by decide +kernel
theorem dX11_head_247 : decode cX11_head 247 = .ok (.aload_n 0, 1) := by decide +kernel
theorem dX11_head_248 : decode cX11_head 248 = .ok (.getfield 41, 3) := by decide +kernel
theorem dX11_head_251 : decode cX11_head 251 = .ok (.iconst 1, 1) := by decide +kernel
theorem dX11_head_252 : decode cX11_head 252 = .ok (.iaload, 1) := by decide +kernel
theorem dX11_head_253 : decode cX11_head 253 = .ok (.iconst (-1), 1) := by decide +kernel
theorem dX11_head_254 : decode cX11_head 254 = .ok (.if_icmp .ne 13, 3) := by decide +kernel
theorem dX11_head_257 : decode cX11_head 257 = .ok (.aload_n 0, 1) := by decide +kernel
theorem dX11_head_258 : decode cX11_head 258 = .ok (.getfield 41, 3) := by decide +kernel
theorem dX11_head_261 : decode cX11_head 261 = .ok (.iconst 1, 1) := by decide +kernel
theorem dX11_head_262 : decode cX11_head 262 = .ok (.aload_n 0, 1) := by decide +kernel
theorem dX11_head_263 : decode cX11_head 263 = .ok (.getfield 209, 3) := by decide +kernel
theorem dX11_head_266 : decode cX11_head 266 = .ok (.iastore, 1) := by decide +kernel
theorem dX11_head_267 : decode cX11_head 267 = .ok (.return_, 1) := by decide +kernel
theorem dX11_closes_0 : decode cX11_closes 0 = .ok (.aload_n 0, 1) := by decide +kernel
theorem dX11_closes_1 : decode cX11_closes 1 = .ok (.invokevirtual 173, 3) := by decide +kernel
theorem dX11_closes_4 : decode cX11_closes 4 = .ok (.aload_n 0, 1) := by decide +kernel
theorem dX11_closes_5 : decode cX11_closes 5 = .ok (.dup, 1) := by decide +kernel
theorem dX11_closes_6 : decode cX11_closes 6 = .ok (.getfield 189, 3) := by decide +kernel
theorem dX11_closes_9 : decode cX11_closes 9 = .ok (.iconst 1, 1) := by decide +kernel
theorem dX11_closes_10 : decode cX11_closes 10 = .ok (.isub, 1) := by decide +kernel
theorem dX11_closes_11 : decode cX11_closes 11 = .ok (.putfield 189, 3) := by decide +kernel
theorem dX11_closes_14 : decode cX11_closes 14 = .ok (.aload_n 0, 1) := by decide +kernel
theorem dX11_closes_15 : decode cX11_closes 15 = .ok (.getfield 74, 3) := by decide +kernel
theorem dX11_closes_18 : decode cX11_closes 18 = .ok (.aload_n 0, 1) := by decide +kernel
theorem dX11_closes_19 : decode cX11_closes 19 = .ok (.getfield 189, 3) := by decide +kernel
theorem dX11_closes_22 : decode cX11_closes 22 = .ok (.iaload, 1) := by decide +kernel
theorem dX11_closes_23 : decode cX11_closes 23 = .ok (.istore_n 1, 1) := by decide +kernel
theorem dX11_closes_24 : decode cX11_closes 24 = .ok (.aload_n 0, 1) := by decide +kernel
theorem dX11_closes_25 : decode cX11_closes 25 = .ok (.getfield 77, 3) := by decide +kernel
theorem dX11_closes_28 : decode cX11_closes 28 = .ok (.aload_n 0, 1) := by decide +kernel
theorem dX11_closes_29 : decode cX11_closes 29 = .ok (.getfield 189, 3) := by decide +kernel
theorem dX11_closes_32 : decode cX11_closes 32 = .ok (.iaload, 1) := by decide +kernel
theorem dX11_closes_33 : decode cX11_closes 33 = .ok (.istore_n 2, 1) := by decide +kernel
theorem dX11_closes_34 : decode cX11_closes 34 = .ok (.iload_n 1, 1) := by decide +kernel
theorem dX11_closes_35 : decode cX11_closes 35 = .ok (.ifCond .ne 25, 3) := by decide +kernel
theorem dX11_closes_38 : decode cX11_closes 38 = .ok (.aload_n 0, 1) := by decide +kernel
theorem dX11_closes_39 : decode cX11_closes 39 = .ok (.iconst 1, 1) := by decide +kernel
theorem dX11_closes_40 : decode cX11_closes 40 = .ok (.iconst 0, 1) := by decide +kernel
theorem dX11_closes_41 : decode cX11_closes 41 = .ok (.iconst 0, 1) := by decide +kernel
theorem dX11_closes_42 : decode cX11_closes 42 = .ok (.iconst 0, 1) := by decide +kernel
theorem dX11_closes_43 : decode cX11_closes 43 = .ok (.invokevirtual 216, 3) := by decide +kernel
theorem dX11_closes_46 : decode cX11_closes 46 = .ok (.pop, 1) := by decide +kernel
theorem dX11_closes_47 : decode cX11_closes 47 = .ok (.aload_n 0, 1) := by decide +kernel
theorem dX11_closes_48 : decode cX11_closes 48 = .ok (.bipush 9, 2) := by decide +kernel
theorem dX11_closes_50 : decode cX11_closes 50 = .ok (.iconst 0, 1) := by decide +kernel
theorem dX11_closes_51 : decode cX11_closes 51 = .ok (.iconst 0, 1) := by decide +kernel
theorem dX11_closes_52 : decode cX11_closes 52 = .ok (.iconst 0, 1) := by decide +kernel
theorem dX11_closes_53 : decode cX11_closes 53 = .ok (.invokevirtual 216, 3) := by decide +kernel
theorem dX11_closes_56 : decode cX11_closes 56 = .ok (.pop, 1) := by decide +kernel
theorem dX11_closes_57 : decode cX11_closes 57 = .ok (.goto 130, 3) := by decide +kernel
theorem dX11_closes_60 : decode cX11_closes 60 = .ok (.iload_n 1, 1) := by decide +kernel
theorem dX11_closes_61 : decode cX11_closes 61 = .ok (.iconst 3, 1) := by decide +kernel
theorem dX11_closes_62 : decode cX11_closes 62 = .ok (.if_icmp .ne 38, 3) := by decide +kernel
theorem dX11_closes_65 : decode cX11_closes 65 = .ok (.aload_n 0, 1) := by decide +kernel
theorem dX11_closes_66 : decode cX11_closes 66 = .ok (.bipush 13, 2) := by decide +kernel
theorem dX11_closes_68 : decode cX11_closes 68 = .ok (.aload_n 0, 1) := by decide +kernel
theorem dX11_closes_69 : decode cX11_closes 69 = .ok (.getfield 80, 3) := by decide +kernel
theorem dX11_closes_72 : decode cX11_closes 72 = .ok (.aload_n 0, 1) := by decide +kernel
theorem dX11_closes_73 : decode cX11_closes 73 = .ok (.getfield 189, 3) := by decide +kernel
theorem dX11_closes_76 : decode cX11_closes 76 = .ok (.iaload, 1) := by decide +kernel
theorem dX11_closes_77 : decode cX11_closes 77 = .ok (.iconst 1, 1) := by decide +kernel
theorem dX11_closes_78 : decode cX11_closes 78 = .ok (.iconst 0, 1) := by decide +kernel
theorem dX11_closes_79 : decode cX11_closes 79 = .ok (.invokevirtual 216, 3) := by decide +kernel
theorem dX11_closes_82 : decode cX11_closes 82 = .ok (.pop, 1) := by decide +kernel
theorem dX11_closes_83 : decode cX11_closes 83 = .ok (.aload_n 0, 1) := by decide +kernel
theorem dX11_closes_84 : decode cX11_closes 84 = .ok (.getfield 26, 3) := by decide +kernel
theorem dX11_closes_87 : decode cX11_closes 87 = .ok (.sipush 1300, 3) := by decide +kernel
theorem dX11_closes_90 : decode cX11_closes 90 = .ok (.iload_n 2, 1) := by decide +kernel
theorem dX11_closes_91 : decode cX11_closes 91 = .ok (.iadd, 1) := by decide +kernel
theorem dX11_closes_92 : decode cX11_closes 92 = .ok (.aload_n 0, 1) := by decide +kernel
theorem dX11_closes_93 : decode cX11_closes 93 = .ok (.getfield 183, 3) := by decide +kernel
theorem dX11_closes_96 : decode cX11_closes 96 = .ok (.iastore, 1) := by decide +kernel
theorem dX11_closes_97 : decode cX11_closes 97 = .ok (.goto 90, 3) := by decide +kernel
theorem dX11_closes_100 : decode cX11_closes 100 = .ok (.iload_n 1, 1) := by decide +kernel
theorem dX11_closes_101 : decode cX11_closes 101 = .ok (.iconst 1, 1) := by decide +kernel
theorem dX11_closes_102 : decode cX11_closes 102 = .ok (.if_icmp .ne 49, 3) := by decide +kernel
theorem dX11_closes_105 : decode cX11_closes 105 = .ok (.aload_n 0, 1) := by decide +kernel
theorem dX11_closes_106 : decode cX11_closes 106 = .ok (.iconst 1, 1) := by decide +kernel
theorem dX11_closes_107 : decode cX11_closes 107 = .ok (.invokevirtual 220, 3) := by decide +kernel
theorem dX11_closes_110 : decode cX11_closes 110 = .ok (.ifCond .eq 41, 3) := by decide +kernel
theorem dX11_closes_113 : decode cX11_closes 113 = .ok (.aload_n 0, 1) := by decide +kernel
theorem dX11_closes_114 : decode cX11_closes 114 = .ok (.invokevirtual 173, 3) := by decide +kernel
theorem dX11_closes_117 : decode cX11_closes 117 = .ok (.aload_n 0, 1) := by decide +kernel
theorem dX11_closes_118 : decode cX11_closes 118 = .ok (.bipush 13, 2) := by decide +kernel
theorem dX11_closes_120 : decode cX11_closes 120 = .ok (.iconst 0, 1) := by decide +kernel
theorem dX11_closes_121 : decode cX11_closes 121 = .ok (.iconst 0, 1) := by decide +kernel
theorem dX11_closes_122 : decode cX11_closes 122 = .ok (.iconst 0, 1) := by decide +kernel
theorem dX11_closes_123 : decode cX11_closes 123 = .ok (.invokevirtual 216, 3) := by decide +kernel
theorem dX11_closes_126 : decode cX11_closes 126 = .ok (.istore_n 3, 1) := by decide +kernel
theorem dX11_closes_127 : decode cX11_closes 127 = .ok (.aload_n 0, 1) := by decide +kernel
theorem dX11_closes_128 : decode cX11_closes 128 = .ok (.getfield 26, 3) := by decide +kernel
theorem dX11_closes_131 : decode cX11_closes 131 = .ok (.sipush 1300, 3) := by decide +kernel
theorem dX11_closes_134 : decode cX11_closes 134 = .ok (.iload_n 2, 1) := by decide +kernel
theorem dX11_closes_135 : decode cX11_closes 135 = .ok (.iadd, 1) := by decide +kernel
theorem dX11_closes_136 : decode cX11_closes 136 = .ok (.aload_n 0, 1) := by decide +kernel
theorem dX11_closes_137 : decode cX11_closes 137 = .ok (.getfield 183, 3) := by decide +kernel
theorem dX11_closes_140 : decode cX11_closes 140 = .ok (.iastore, 1) := by decide +kernel
theorem dX11_closes_141 : decode cX11_closes 141 = .ok (.aload_n 0, 1) := by decide +kernel
theorem dX11_closes_142 : decode cX11_closes 142 = .ok (.iconst 2, 1) := by decide +kernel
theorem dX11_closes_143 : decode cX11_closes 143 = .ok (.iload_n 3, 1) := by decide +kernel
theorem dX11_closes_144 : decode cX11_closes 144 = .ok (.iconst (-1), 1) := by decide +kernel
theorem dX11_closes_145 : decode cX11_closes 145 = .ok (.invokevirtual 212, 3) := by decide +kernel
theorem dX11_closes_148 : decode cX11_closes 148 = .ok (.goto 39, 3) := by decide +kernel
theorem dX11_closes_151 : decode cX11_closes 151 = .ok (.iload_n 1, 1) := by decide +kernel
theorem dX11_closes_152 : decode cX11_closes 152 = .ok (.iconst 1, 1) := by decide +kernel
theorem dX11_closes_153 : decode cX11_closes 153 = .ok (.if_icmp .ne 20, 3) := by decide +kernel
theorem dX11_closes_156 : decode cX11_closes 156 = .ok (.aload_n 0, 1) := by decide +kernel
theorem dX11_closes_157 : decode cX11_closes 157 = .ok (.getfield 26, 3) := by decide +kernel
theorem dX11_closes_160 : decode cX11_closes 160 = .ok (.sipush 1300, 3) := by decide +kernel
theorem dX11_closes_163 : decode cX11_closes 163 = .ok (.iload_n 2, 1) := by decide +kernel
theorem dX11_closes_164 : decode cX11_closes 164 = .ok (.iadd, 1) := by decide +kernel
theorem dX11_closes_165 : decode cX11_closes 165 = .ok (.aload_n 0, 1) := by decide +kernel
theorem dX11_closes_166 : decode cX11_closes 166 = .ok (.getfield 183, 3) := by decide +kernel
theorem dX11_closes_169 : decode cX11_closes 169 = .ok (.iastore, 1) := by decide +kernel
theorem dX11_closes_170 : decode cX11_closes 170 = .ok (.goto 17, 3) := by decide +kernel
theorem dX11_closes_173 : decode cX11_closes 173 = .ok (.aload_n 0, 1) := by decide +kernel
theorem dX11_closes_174 : decode cX11_closes 174 = .ok (.getfield 20, 3) := by decide +kernel
theorem dX11_closes_177 : decode cX11_closes 177 = .ok (.sipush 1300, 3) := by decide +kernel
theorem dX11_closes_180 : decode cX11_closes 180 = .ok (.iload_n 2, 1) := by decide +kernel
theorem dX11_closes_181 : decode cX11_closes 181 = .ok (.iadd, 1) := by decide +kernel
theorem dX11_closes_182 : decode cX11_closes 182 = .ok (.aload_n 0, 1) := by decide +kernel
theorem dX11_closes_183 : decode cX11_closes 183 = .ok (.getfield 183, 3) := by decide +kernel
theorem dX11_closes_186 : decode cX11_closes 186 = .ok (.iastore, 1) := by decide +kernel
theorem dX11_closes_187 : decode cX11_closes 187 = .ok (.return_, 1) := by decide +kernel
theorem dX11_newUse_0 : decode cX11_newUse 0 = .ok (.aload_n 0, 1) := by decide +kernel
theorem dX11_newUse_1 : decode cX11_newUse 1 = .ok (.getfield 53, 3) := by decide +kernel
theorem dX11_newUse_4 : decode cX11_newUse 4 = .ok (.iconst 1, 1) := by decide +kernel
theorem dX11_newUse_5 : decode cX11_newUse 5 = .ok (.iaload, 1) := by decide +kernel
theorem dX11_newUse_6 : decode cX11_newUse 6 = .ok (.bipush 40, 2) := by decide +kernel
theorem dX11_newUse_8 : decode cX11_newUse 8 = .ok (.if_icmp .ne 9, 3) := by decide +kernel
theorem dX11_newUse_11 : decode cX11_newUse 11 = .ok (.aload_n 0, 1) := by decide +kernel
theorem dX11_newUse_12 : decode cX11_newUse 12 = .ok (.iconst 2, 1) := by decide +kernel
theorem dX11_newUse_13 : decode cX11_newUse 13 = .ok (.iload_n 2, 1) := by decide +kernel
theorem dX11_newUse_14 : decode cX11_newUse 14 = .ok (.invokevirtual 179, 3) := by decide +kernel
theorem dX11_newUse_17 : decode cX11_newUse 17 = .ok (.aload_n 0, 1) := by decide +kernel
theorem dX11_newUse_18 : decode cX11_newUse 18 = .ok (.getfield 164, 3) := by decide +kernel
theorem dX11_newUse_21 : decode cX11_newUse 21 = .ok (.ifCond .eq 5, 3) := by decide +kernel
theorem dX11_newUse_24 : decode cX11_newUse 24 = .ok (.iconst 0, 1) := by decide +kernel
theorem dX11_newUse_25 : decode cX11_newUse 25 = .ok (.ireturn, 1) := by decide +kernel
theorem dX11_newUse_26 : decode cX11_newUse 26 = .ok (.bipush 41, 2) := by decide +kernel
theorem dX11_newUse_28 : decode cX11_newUse 28 = .ok (.aload_n 0, 1) := by decide +kernel
theorem dX11_newUse_29 : decode cX11_newUse 29 = .ok (.getfield 53, 3) := by decide +kernel
theorem dX11_newUse_32 : decode cX11_newUse 32 = .ok (.iconst 1, 1) := by decide +kernel
theorem dX11_newUse_33 : decode cX11_newUse 33 = .ok (.iaload, 1) := by decide +kernel
theorem dX11_newUse_34 : decode cX11_newUse 34 = .ok (.iadd, 1) := by decide +kernel
theorem dX11_newUse_35 : decode cX11_newUse 35 = .ok (.istore_n 3, 1) := by decide +kernel
theorem dX11_newUse_36 : decode cX11_newUse 36 = .ok (.aload_n 0, 1) := by decide +kernel
theorem dX11_newUse_37 : decode cX11_newUse 37 = .ok (.getfield 44, 3) := by decide +kernel
theorem dX11_newUse_40 : decode cX11_newUse 40 = .ok (.iload_n 3, 1) := by decide +kernel
theorem dX11_newUse_41 : decode cX11_newUse 41 = .ok (.aload_n 0, 1) := by decide +kernel
theorem dX11_newUse_42 : decode cX11_newUse 42 = .ok (.getfield 209, 3) := by decide +kernel
theorem dX11_newUse_45 : decode cX11_newUse 45 = .ok (.iastore, 1) := by decide +kernel
theorem dX11_newUse_46 : decode cX11_newUse 46 = .ok (.aload_n 0, 1) := by decide +kernel
theorem dX11_newUse_47 : decode cX11_newUse 47 = .ok (.getfield 47, 3) := by decide +kernel
theorem dX11_newUse_50 : decode cX11_newUse 50 = .ok (.iload_n 3, 1) := by decide +kernel
theorem dX11_newUse_51 : decode cX11_newUse 51 = .ok (.iload_n 2, 1) := by decide +kernel
theorem dX11_newUse_52 : decode cX11_newUse 52 = .ok (.iastore, 1) := by decide +kernel
theorem dX11_newUse_53 : decode cX11_newUse 53 = .ok (.aload_n 0, 1) := by decide +kernel
theorem dX11_newUse_54 : decode cX11_newUse 54 = .ok (.getfield 50, 3) := by decide +kernel
theorem dX11_newUse_57 : decode cX11_newUse 57 = .ok (.iload_n 3, 1) := by decide +kernel
theorem dX11_newUse_58 : decode cX11_newUse 58 = .ok (.iload_n 1, 1) := by decide +kernel
theorem dX11_newUse_59 : decode cX11_newUse 59 = .ok (.iastore, 1) := by decide +kernel
theorem dX11_newUse_60 : decode cX11_newUse 60 = .ok (.aload_n 0, 1) := by decide +kernel
theorem dX11_newUse_61 : decode cX11_newUse 61 = .ok (.getfield 53, 3) := by decide +kernel
theorem dX11_newUse_64 : decode cX11_newUse 64 = .ok (.iconst 1, 1) := by decide +kernel
theorem dX11_newUse_65 : decode cX11_newUse 65 = .ok (.dup2, 1) := by decide +kernel
theorem dX11_newUse_66 : decode cX11_newUse 66 = .ok (.iaload, 1) := by decide +kernel
theorem dX11_newUse_67 : decode cX11_newUse 67 = .ok (.iconst 1, 1) := by decide +kernel
theorem dX11_newUse_68 : decode cX11_newUse 68 = .ok (.iadd, 1) := by decide +kernel
theorem dX11_newUse_69 : decode cX11_newUse 69 = .ok (.iastore, 1) := by decide +kernel
theorem dX11_newUse_70 : decode cX11_newUse 70 = .ok (.aload_n 0, 1) := by decide +kernel
theorem dX11_newUse_71 : decode cX11_newUse 71 = .ok (.getfield 53, 3) := by decide +kernel
theorem dX11_newUse_74 : decode cX11_newUse 74 = .ok (.iconst 1, 1) := by decide +kernel
theorem dX11_newUse_75 : decode cX11_newUse 75 = .ok (.iaload, 1) := by decide +kernel
theorem dX11_newUse_76 : decode cX11_newUse 76 = .ok (.iconst 1, 1) := by decide +kernel
theorem dX11_newUse_77 : decode cX11_newUse 77 = .ok (.isub, 1) := by decide +kernel
theorem dX11_newUse_78 : decode cX11_newUse 78 = .ok (.ireturn, 1) := by decide +kernel
theorem dX11_field_0 : decode cX11_field 0 = .ok (.aload_n 0, 1) := by decide +kernel
theorem dX11_field_1 : decode cX11_field 1 = .ok (.getfield 164, 3) := by decide +kernel
theorem dX11_field_4 : decode cX11_field 4 = .ok (.ifCond .ne 37, 3) := by decide +kernel
theorem dX11_field_7 : decode cX11_field 7 = .ok (.aload_n 0, 1) := by decide +kernel
theorem dX11_field_8 : decode cX11_field 8 = .ok (.getfield 140, 3) := by decide +kernel
theorem dX11_field_11 : decode cX11_field 11 = .ok (.ifCond .ne 21, 3) := by decide +kernel
theorem dX11_field_14 : decode cX11_field 14 = .ok (.aload_n 0, 1) := by decide +kernel
theorem dX11_field_15 : decode cX11_field 15 = .ok (.getfield 150, 3) := by decide +kernel
theorem dX11_field_18 : decode cX11_field 18 = .ok (.bipush 15, 2) := by decide +kernel
theorem dX11_field_20 : decode cX11_field 20 = .ok (.if_icmp .eq 21, 3) := by decide +kernel
theorem dX11_field_23 : decode cX11_field 23 = .ok (.aload_n 0, 1) := by decide +kernel
theorem dX11_field_24 : decode cX11_field 24 = .ok (.getfield 150, 3) := by decide +kernel
theorem dX11_field_27 : decode cX11_field 27 = .ok (.bipush 16, 2) := by decide +kernel
theorem dX11_field_29 : decode cX11_field 29 = .ok (.if_icmp .eq 12, 3) := by decide +kernel
theorem dX11_field_32 : decode cX11_field 32 = .ok (.aload_n 0, 1) := by decide +kernel
theorem dX11_field_33 : decode cX11_field 33 = .ok (.iconst 1, 1) := by decide +kernel
theorem dX11_field_34 : decode cX11_field 34 = .ok (.aload_n 0, 1) := by decide +kernel
theorem dX11_field_35 : decode cX11_field 35 = .ok (.getfield 137, 3) := by decide +kernel
theorem dX11_field_38 : decode cX11_field 38 = .ok (.invokevirtual 179, 3) := by decide +kernel
theorem dX11_field_41 : decode cX11_field 41 = .ok (.aload_n 0, 1) := by decide +kernel
theorem dX11_field_42 : decode cX11_field 42 = .ok (.iconst 0, 1) := by decide +kernel
theorem dX11_field_43 : decode cX11_field 43 = .ok (.invokevirtual 205, 3) := by decide +kernel
theorem dX11_field_46 : decode cX11_field 46 = .ok (.bipush 15, 2) := by decide +kernel
theorem dX11_field_48 : decode cX11_field 48 = .ok (.isub, 1) := by decide +kernel
theorem dX11_field_49 : decode cX11_field 49 = .ok (.ireturn, 1) := by decide +kernel
theorem dX11_statement_0 : decode cX11_statement 0 = .ok (.aload_n 0, 1) := by decide +kernel
theorem dX11_statement_1 : decode cX11_statement 1 = .ok (.getfield 137, 3) := by decide +kernel
theorem dX11_statement_4 : decode cX11_statement 4 = .ok (.istore_n 1, 1) := by decide +kernel
theorem dX11_statement_5 : decode cX11_statement 5 = .ok (.aload_n 0, 1) := by decide +kernel
theorem dX11_statement_6 : decode cX11_statement 6 = .ok (.getfield 140, 3) := by decide +kernel
theorem dX11_statement_9 : decode cX11_statement 9 = .ok (.ifCond .ne 97, 3) := by decide +kernel
theorem dX11_statement_12 : decode cX11_statement 12 = .ok (.aload_n 0, 1) := by decide +kernel
theorem dX11_statement_13 : decode cX11_statement 13 = .ok (.iconst 0, 1) := by decide +kernel
theorem dX11_statement_14 : decode cX11_statement 14 = .ok (.iconst 0, 1) := by decide +kernel
theorem dX11_statement_15 : decode cX11_statement 15 = .ok (.iconst 0, 1) := by decide +kernel
theorem dX11_statement_16 : decode cX11_statement 16 = .ok (.iconst 0, 1) := by decide +kernel
theorem dX11_statement_17 : decode cX11_statement 17 = .ok (.invokevirtual 216, 3) := by decide +kernel
theorem dX11_statement_20 : decode cX11_statement 20 = .ok (.pop, 1) := by decide +kernel
theorem dX11_statement_21 : decode cX11_statement 21 = .ok (.aload_n 0, 1) := by decide +kernel
theorem dX11_statement_22 : decode cX11_statement 22 = .ok (.iconst 0, 1) := by decide +kernel
theorem dX11_statement_23 : decode cX11_statement 23 = .ok (.invokevirtual 205, 3) := by decide +kernel
theorem dX11_statement_26 : decode cX11_statement 26 = .ok (.istore_n 2, 1) := by decide +kernel
theorem dX11_statement_27 : decode cX11_statement 27 = .ok (.aload_n 0, 1) := by decide +kernel
theorem dX11_statement_28 : decode cX11_statement 28 = .ok (.bipush 46, 2) := by decide +kernel
theorem dX11_statement_30 : decode cX11_statement 30 = .ok (.invokevirtual 170, 3) := by decide +kernel
theorem dX11_statement_33 : decode cX11_statement 33 = .ok (.ifCond .eq 44, 3) := by decide +kernel
theorem dX11_statement_36 : decode cX11_statement 36 = .ok (.aload_n 0, 1) := by decide +kernel
theorem dX11_statement_37 : decode cX11_statement 37 = .ok (.iload_n 2, 1) := by decide +kernel
theorem dX11_statement_38 : decode cX11_statement 38 = .ok (.iload_n 1, 1) := by decide +kernel
theorem dX11_statement_39 : decode cX11_statement 39 = .ok (.invokevirtual 223, 3) := by decide +kernel
theorem dX11_statement_42 : decode cX11_statement 42 = .ok (.istore_n 3, 1) := by decide +kernel
theorem dX11_statement_43 : decode cX11_statement 43 = .ok (.aload_n 0, 1) := by decide +kernel
theorem dX11_statement_44 : decode cX11_statement 44 = .ok (.invokevirtual 173, 3) := by decide +kernel
theorem dX11_statement_47 : decode cX11_statement 47 = .ok (.aload_n 0, 1) := by decide +kernel
theorem dX11_statement_48 : decode cX11_statement 48 = .ok (.invokevirtual 227, 3) := by decide +kernel
theorem dX11_statement_51 : decode cX11_statement 51 = .ok (.istore 4, 2) := by decide +kernel
theorem dX11_statement_53 : decode cX11_statement 53 = .ok (.aload_n 0, 1) := by decide +kernel
theorem dX11_statement_54 : decode cX11_statement 54 = .ok (.bipush 61, 2) := by decide +kernel
theorem dX11_statement_56 : decode cX11_statement 56 = .ok (.invokevirtual 201, 3) := by decide +kernel
theorem dX11_statement_59 : decode cX11_statement 59 = .ok (.aload_n 0, 1) := by decide +kernel
theorem dX11_statement_60 : decode cX11_statement 60 = .ok (.invokevirtual 230, 3) := by decide +kernel
theorem dX11_statement_63 : decode cX11_statement 63 = .ok (.aload_n 0, 1) := by decide +kernel
theorem dX11_statement_64 : decode cX11_statement 64 = .ok (.bipush 8, 2) := by decide +kernel
theorem dX11_statement_66 : decode cX11_statement 66 = .ok (.iload_n 2, 1) := by decide +kernel
theorem dX11_statement_67 : decode cX11_statement 67 = .ok (.iload 4, 2) := by decide +kernel
theorem dX11_statement_69 : decode cX11_statement 69 = .ok (.iload_n 3, 1) := by decide +kernel
theorem dX11_statement_70 : decode cX11_statement 70 = .ok (.invokevirtual 216, 3) := by decide +kernel
theorem dX11_statement_73 : decode cX11_statement 73 = .ok (.pop, 1) := by decide +kernel
theorem dX11_statement_74 : decode cX11_statement 74 = .ok (.goto 23, 3) := by decide +kernel
theorem dX11_statement_77 : decode cX11_statement 77 = .ok (.aload_n 0, 1) := by decide +kernel
theorem dX11_statement_78 : decode cX11_statement 78 = .ok (.bipush 61, 2) := by decide +kernel
theorem dX11_statement_80 : decode cX11_statement 80 = .ok (.invokevirtual 201, 3) := by decide +kernel
theorem dX11_statement_83 : decode cX11_statement 83 = .ok (.aload_n 0, 1) := by decide +kernel
theorem dX11_statement_84 : decode cX11_statement 84 = .ok (.invokevirtual 230, 3) := by decide +kernel
theorem dX11_statement_87 : decode cX11_statement 87 = .ok (.aload_n 0, 1) := by decide +kernel
theorem dX11_statement_88 : decode cX11_statement 88 = .ok (.bipush 7, 2) := by decide +kernel
theorem dX11_statement_90 : decode cX11_statement 90 = .ok (.iload_n 2, 1) := by decide +kernel
theorem dX11_statement_91 : decode cX11_statement 91 = .ok (.iconst 0, 1) := by decide +kernel
theorem dX11_statement_92 : decode cX11_statement 92 = .ok (.iconst 0, 1) := by decide +kernel
theorem dX11_statement_93 : decode cX11_statement 93 = .ok (.invokevirtual 216, 3) := by decide +kernel
theorem dX11_statement_96 : decode cX11_statement 96 = .ok (.pop, 1) := by decide +kernel
theorem dX11_statement_97 : decode cX11_statement 97 = .ok (.aload_n 0, 1) := by decide +kernel
theorem dX11_statement_98 : decode cX11_statement 98 = .ok (.bipush 59, 2) := by decide +kernel
theorem dX11_statement_100 : decode cX11_statement 100 = .ok (.invokevirtual 201, 3) := by decide +kernel
theorem dX11_statement_103 : decode cX11_statement 103 = .ok (.goto 177, 3) := by decide +kernel
theorem dX11_statement_106 : decode cX11_statement 106 = .ok (.aload_n 0, 1) := by decide +kernel
theorem dX11_statement_107 : decode cX11_statement 107 = .ok (.getfield 140, 3) := by decide +kernel
theorem dX11_statement_110 : decode cX11_statement 110 = .ok (.iconst 1, 1) := by decide +kernel
theorem dX11_statement_111 : decode cX11_statement 111 = .ok (.if_icmp .ne 25, 3) := by decide +kernel
theorem dX11_statement_114 : decode cX11_statement 114 = .ok (.aload_n 0, 1) := by decide +kernel
theorem dX11_statement_115 : decode cX11_statement 115 = .ok (.iconst 0, 1) := by decide +kernel
theorem dX11_statement_116 : decode cX11_statement 116 = .ok (.iconst 0, 1) := by decide +kernel
theorem dX11_statement_117 : decode cX11_statement 117 = .ok (.iconst 0, 1) := by decide +kernel
theorem dX11_statement_118 : decode cX11_statement 118 = .ok (.iconst 0, 1) := by decide +kernel
theorem dX11_statement_119 : decode cX11_statement 119 = .ok (.invokevirtual 216, 3) := by decide +kernel
theorem dX11_statement_122 : decode cX11_statement 122 = .ok (.pop, 1) := by decide +kernel
theorem dX11_statement_123 : decode cX11_statement 123 = .ok (.aload_n 0, 1) := by decide +kernel
theorem dX11_statement_124 : decode cX11_statement 124 = .ok (.invokevirtual 233, 3) := by decide +kernel
theorem dX11_statement_127 : decode cX11_statement 127 = .ok (.aload_n 0, 1) := by decide +kernel
theorem dX11_statement_128 : decode cX11_statement 128 = .ok (.bipush 59, 2) := by decide +kernel
theorem dX11_statement_130 : decode cX11_statement 130 = .ok (.invokevirtual 201, 3) := by decide +kernel
theorem dX11_statement_133 : decode cX11_statement 133 = .ok (.goto 147, 3) := by decide +kernel
theorem dX11_statement_136 : decode cX11_statement 136 = .ok (.aload_n 0, 1) := by decide +kernel
theorem dX11_statement_137 : decode cX11_statement 137 = .ok (.bipush 8, 2) := by decide +kernel
theorem dX11_statement_139 : decode cX11_statement 139 = .ok (.invokevirtual 220, 3) := by decide +kernel
theorem dX11_statement_142 : decode cX11_statement 142 = .ok (.ifCond .eq 60, 3) := by decide +kernel
theorem dX11_statement_145 : decode cX11_statement 145 = .ok (.aload_n 0, 1) := by decide +kernel
theorem dX11_statement_146 : decode cX11_statement 146 = .ok (.iconst 0, 1) := by decide +kernel
theorem dX11_statement_147 : decode cX11_statement 147 = .ok (.iconst 0, 1) := by decide +kernel
theorem dX11_statement_148 : decode cX11_statement 148 = .ok (.iconst 0, 1) := by decide +kernel
theorem dX11_statement_149 : decode cX11_statement 149 = .ok (.iconst 0, 1) := by decide +kernel
theorem dX11_statement_150 : decode cX11_statement 150 = .ok (.invokevirtual 216, 3) := by decide +kernel
theorem dX11_statement_153 : decode cX11_statement 153 = .ok (.pop, 1) := by decide +kernel
theorem dX11_statement_154 : decode cX11_statement 154 = .ok (.aload_n 0, 1) := by decide +kernel
theorem dX11_statement_155 : decode cX11_statement 155 = .ok (.invokevirtual 173, 3) := by decide +kernel
theorem dX11_statement_158 : decode cX11_statement 158 = .ok (.aload_n 0, 1) := by decide +kernel
theorem dX11_statement_159 : decode cX11_statement 159 = .ok (.bipush 59, 2) := by decide +kernel
theorem dX11_statement_161 : decode cX11_statement 161 = .ok (.invokevirtual 170, 3) := by decide +kernel
theorem dX11_statement_164 : decode cX11_statement 164 = .ok (.ifCond .eq 15, 3) := by decide +kernel
theorem dX11_statement_167 : decode cX11_statement 167 = .ok (.aload_n 0, 1) := by decide +kernel
theorem dX11_statement_168 : decode cX11_statement 168 = .ok (.iconst 1, 1) := by decide +kernel
theorem dX11_statement_169 : decode cX11_statement 169 = .ok (.iconst 0, 1) := by decide +kernel
theorem dX11_statement_170 : decode cX11_statement 170 = .ok (.iconst 0, 1) := by decide +kernel
theorem dX11_statement_171 : decode cX11_statement 171 = .ok (.iconst 0, 1) := by decide +kernel
theorem dX11_statement_172 : decode cX11_statement 172 = .ok (.invokevirtual 216, 3) := by decide +kernel
theorem dX11_statement_175 : decode cX11_statement 175 = .ok (.pop, 1) := by decide +kernel
theorem dX11_statement_176 : decode cX11_statement 176 = .ok (.goto 7, 3) := by decide +kernel
theorem dX11_statement_179 : decode cX11_statement 179 = .ok (.aload_n 0, 1) := by decide +kernel
theorem dX11_statement_180 : decode cX11_statement 180 = .ok (.invokevirtual 230, 3) := by decide +kernel
theorem dX11_statement_183 : decode cX11_statement 183 = .ok (.aload_n 0, 1) := by decide +kernel
theorem dX11_statement_184 : decode cX11_statement 184 = .ok (.bipush 9, 2) := by decide +kernel
theorem dX11_statement_186 : decode cX11_statement 186 = .ok (.iconst 0, 1) := by decide +kernel
theorem dX11_statement_187 : decode cX11_statement 187 = .ok (.iconst 0, 1) := by decide +kernel
theorem dX11_statement_188 : decode cX11_statement 188 = .ok (.iconst 0, 1) := by decide +kernel
theorem dX11_statement_189 : decode cX11_statement 189 = .ok (.invokevirtual 216, 3) := by decide +kernel
theorem dX11_statement_192 : decode cX11_statement 192 = .ok (.pop, 1) := by decide +kernel
theorem dX11_statement_193 : decode cX11_statement 193 = .ok (.aload_n 0, 1) := by decide +kernel
theorem dX11_statement_194 : decode cX11_statement 194 = .ok (.bipush 59, 2) := by decide +kernel
theorem dX11_statement_196 : decode cX11_statement 196 = .ok (.invokevirtual 201, 3) := by decide +kernel
theorem dX11_statement_199 : decode cX11_statement 199 = .ok (.goto 81, 3) := by decide +kernel
theorem dX11_statement_202 : decode cX11_statement 202 = .ok (.aload_n 0, 1) := by decide +kernel
theorem dX11_statement_203 : decode cX11_statement 203 = .ok (.iconst 0, 1) := by decide +kernel
theorem dX11_statement_204 : decode cX11_statement 204 = .ok (.invokevirtual 220, 3) := by decide +kernel
theorem dX11_statement_207 : decode cX11_statement 207 = .ok (.ifCond .eq 31, 3) := by decide +kernel
theorem dX11_statement_210 : decode cX11_statement 210 = .ok (.aload_n 0, 1) := by decide +kernel
theorem dX11_statement_211 : decode cX11_statement 211 = .ok (.iconst 0, 1) := by decide +kernel
theorem dX11_statement_212 : decode cX11_statement 212 = .ok (.iconst 0, 1) := by decide +kernel
theorem dX11_statement_213 : decode cX11_statement 213 = .ok (.iconst 0, 1) := by decide +kernel
theorem dX11_statement_214 : decode cX11_statement 214 = .ok (.iconst 0, 1) := by decide +kernel
theorem dX11_statement_215 : decode cX11_statement 215 = .ok (.invokevirtual 216, 3) := by decide +kernel
theorem dX11_statement_218 : decode cX11_statement 218 = .ok (.pop, 1) := by decide +kernel
theorem dX11_statement_219 : decode cX11_statement 219 = .ok (.aload_n 0, 1) := by decide +kernel
theorem dX11_statement_220 : decode cX11_statement 220 = .ok (.invokevirtual 173, 3) := by decide +kernel
theorem dX11_statement_223 : decode cX11_statement 223 = .ok (.aload_n 0, 1) := by decide +kernel
theorem dX11_statement_224 : decode cX11_statement 224 = .ok (.invokevirtual 236, 3) := by decide +kernel
theorem dX11_statement_227 : decode cX11_statement 227 = .ok (.istore_n 2, 1) := by decide +kernel
theorem dX11_statement_228 : decode cX11_statement 228 = .ok (.aload_n 0, 1) := by decide +kernel
theorem dX11_statement_229 : decode cX11_statement 229 = .ok (.iconst 1, 1) := by decide +kernel
theorem dX11_statement_230 : decode cX11_statement 230 = .ok (.iload_n 2, 1) := by decide +kernel
theorem dX11_statement_231 : decode cX11_statement 231 = .ok (.iconst (-1), 1) := by decide +kernel
theorem dX11_statement_232 : decode cX11_statement 232 = .ok (.invokevirtual 212, 3) := by decide +kernel
theorem dX11_statement_235 : decode cX11_statement 235 = .ok (.goto 45, 3) := by decide +kernel
theorem dX11_statement_238 : decode cX11_statement 238 = .ok (.aload_n 0, 1) := by decide +kernel
theorem dX11_statement_239 : decode cX11_statement 239 = .ok (.iconst 2, 1) := by decide +kernel
theorem dX11_statement_240 : decode cX11_statement 240 = .ok (.invokevirtual 220, 3) := by decide +kernel
theorem dX11_statement_243 : decode cX11_statement 243 = .ok (.ifCond .eq 31, 3) := by decide +kernel
theorem dX11_statement_246 : decode cX11_statement 246 = .ok (.aload_n 0, 1) := by decide +kernel
theorem dX11_statement_247 : decode cX11_statement 247 = .ok (.iconst 0, 1) := by decide +kernel
theorem dX11_statement_248 : decode cX11_statement 248 = .ok (.iconst 0, 1) := by decide +kernel
theorem dX11_statement_249 : decode cX11_statement 249 = .ok (.iconst 0, 1) := by decide +kernel
theorem dX11_statement_250 : decode cX11_statement 250 = .ok (.iconst 0, 1) := by decide +kernel
theorem dX11_statement_251 : decode cX11_statement 251 = .ok (.invokevirtual 216, 3) := by decide +kernel
theorem dX11_statement_254 : decode cX11_statement 254 = .ok (.pop, 1) := by decide +kernel
theorem dX11_statement_255 : decode cX11_statement 255 = .ok (.aload_n 0, 1) := by decide +kernel
theorem dX11_statement_256 : decode cX11_statement 256 = .ok (.invokevirtual 173, 3) := by decide +kernel
theorem dX11_statement_259 : decode cX11_statement 259 = .ok (.aload_n 0, 1) := by decide +kernel
theorem dX11_statement_260 : decode cX11_statement 260 = .ok (.invokevirtual 236, 3) := by decide +kernel
theorem dX11_statement_263 : decode cX11_statement 263 = .ok (.istore_n 2, 1) := by decide +kernel
theorem dX11_statement_264 : decode cX11_statement 264 = .ok (.aload_n 0, 1) := by decide +kernel
theorem dX11_statement_265 : decode cX11_statement 265 = .ok (.iconst 3, 1) := by decide +kernel
theorem dX11_statement_266 : decode cX11_statement 266 = .ok (.iload_n 2, 1) := by decide +kernel
theorem dX11_statement_267 : decode cX11_statement 267 = .ok (.iload_n 2, 1) := by decide +kernel
theorem dX11_statement_268 : decode cX11_statement 268 = .ok (.invokevirtual 212, 3) := by decide +kernel
theorem dX11_statement_271 : decode cX11_statement 271 = .ok (.goto 9, 3) := by decide +kernel
theorem dX11_statement_274 : decode cX11_statement 274 = .ok (.aload_n 0, 1) := by decide +kernel
theorem dX11_statement_275 : decode cX11_statement 275 = .ok (.iconst 1, 1) := by decide +kernel
theorem dX11_statement_276 : decode cX11_statement 276 = .ok (.iload_n 1, 1) := by decide +kernel
theorem dX11_statement_277 : decode cX11_statement 277 = .ok (.invokevirtual 179, 3) := by decide +kernel
theorem dX11_statement_280 : decode cX11_statement 280 = .ok (.return_, 1) := by decide +kernel
theorem dX11_newTest_0 : decode cX11_newTest 0 = .ok (.aload_n 0, 1) := by decide +kernel
theorem dX11_newTest_1 : decode cX11_newTest 1 = .ok (.getfield 137, 3) := by decide +kernel
theorem dX11_newTest_4 : decode cX11_newTest 4 = .ok (.istore_n 1, 1) := by decide +kernel
theorem dX11_newTest_5 : decode cX11_newTest 5 = .ok (.aload_n 0, 1) := by decide +kernel
theorem dX11_newTest_6 : decode cX11_newTest 6 = .ok (.getfield 164, 3) := by decide +kernel
theorem dX11_newTest_9 : decode cX11_newTest 9 = .ok (.ifCond .ne 23, 3) := by decide +kernel
theorem dX11_newTest_12 : decode cX11_newTest 12 = .ok (.aload_n 0, 1) := by decide +kernel
theorem dX11_newTest_13 : decode cX11_newTest 13 = .ok (.getfield 140, 3) := by decide +kernel
theorem dX11_newTest_16 : decode cX11_newTest 16 = .ok (.ifCond .eq 12, 3) := by decide +kernel
theorem dX11_newTest_19 : decode cX11_newTest 19 = .ok (.aload_n 0, 1) := by decide +kernel
theorem dX11_newTest_20 : decode cX11_newTest 20 = .ok (.bipush 7, 2) := by decide +kernel
theorem dX11_newTest_22 : decode cX11_newTest 22 = .ok (.invokevirtual 220, 3) := by decide +kernel
theorem dX11_newTest_25 : decode cX11_newTest 25 = .ok (.ifCond .eq 7, 3) := by decide +kernel
theorem dX11_newTest_28 : decode cX11_newTest 28 = .ok (.iconst 1, 1) := by decide +kernel
theorem dX11_newTest_29 : decode cX11_newTest 29 = .ok (.goto 4, 3) := by decide +kernel
theorem dX11_newTest_32 : decode cX11_newTest 32 = .ok (.iconst 0, 1) := by decide +kernel
theorem dX11_newTest_33 : decode cX11_newTest 33 = .ok (.istore_n 2, 1) := by decide +kernel
theorem dX11_newTest_34 : decode cX11_newTest 34 = .ok (.iload_n 2, 1) := by decide +kernel
theorem dX11_newTest_35 : decode cX11_newTest 35 = .ok (.ifCond .ne 12, 3) := by decide +kernel
theorem dX11_newTest_38 : decode cX11_newTest 38 = .ok (.aload_n 0, 1) := by decide +kernel
theorem dX11_newTest_39 : decode cX11_newTest 39 = .ok (.iconst 1, 1) := by decide +kernel
theorem dX11_newTest_40 : decode cX11_newTest 40 = .ok (.iload_n 1, 1) := by decide +kernel
theorem dX11_newTest_41 : decode cX11_newTest 41 = .ok (.invokevirtual 179, 3) := by decide +kernel
theorem dX11_newTest_44 : decode cX11_newTest 44 = .ok (.goto 20, 3) := by decide +kernel
theorem dX11_newTest_47 : decode cX11_newTest 47 = .ok (.aload_n 0, 1) := by decide +kernel
theorem dX11_newTest_48 : decode cX11_newTest 48 = .ok (.getfield 62, 3) := by decide +kernel
theorem dX11_newTest_51 : decode cX11_newTest 51 = .ok (.iconst 1, 1) := by decide +kernel
theorem dX11_newTest_52 : decode cX11_newTest 52 = .ok (.iaload, 1) := by decide +kernel
theorem dX11_newTest_53 : decode cX11_newTest 53 = .ok (.bipush 24, 2) := by decide +kernel
theorem dX11_newTest_55 : decode cX11_newTest 55 = .ok (.if_icmp .ne 9, 3) := by decide +kernel
theorem dX11_newTest_58 : decode cX11_newTest 58 = .ok (.aload_n 0, 1) := by decide +kernel
theorem dX11_newTest_59 : decode cX11_newTest 59 = .ok (.iconst 2, 1) := by decide +kernel
theorem dX11_newTest_60 : decode cX11_newTest 60 = .ok (.iload_n 1, 1) := by decide +kernel
theorem dX11_newTest_61 : decode cX11_newTest 61 = .ok (.invokevirtual 179, 3) := by decide +kernel
theorem dX11_newTest_64 : decode cX11_newTest 64 = .ok (.aload_n 0, 1) := by decide +kernel
theorem dX11_newTest_65 : decode cX11_newTest 65 = .ok (.getfield 164, 3) := by decide +kernel
theorem dX11_newTest_68 : decode cX11_newTest 68 = .ok (.ifCond .eq 5, 3) := by decide +kernel
theorem dX11_newTest_71 : decode cX11_newTest 71 = .ok (.iconst 0, 1) := by decide +kernel
theorem dX11_newTest_72 : decode cX11_newTest 72 = .ok (.ireturn, 1) := by decide +kernel
theorem dX11_newTest_73 : decode cX11_newTest 73 = .ok (.aload_n 0, 1) := by decide +kernel
theorem dX11_newTest_74 : decode cX11_newTest 74 = .ok (.getfield 62, 3) := by decide +kernel
theorem dX11_newTest_77 : decode cX11_newTest 77 = .ok (.iconst 1, 1) := by decide +kernel
theorem dX11_newTest_78 : decode cX11_newTest 78 = .ok (.iaload, 1) := by decide +kernel
theorem dX11_newTest_79 : decode cX11_newTest 79 = .ok (.istore_n 3, 1) := by decide +kernel
theorem dX11_newTest_80 : decode cX11_newTest 80 = .ok (.aload_n 0, 1) := by decide +kernel
theorem dX11_newTest_81 : decode cX11_newTest 81 = .ok (.getfield 56, 3) := by decide +kernel
theorem dX11_newTest_84 : decode cX11_newTest 84 = .ok (.bipush 25, 2) := by decide +kernel
theorem dX11_newTest_86 : decode cX11_newTest 86 = .ok (.iload_n 3, 1) := by decide +kernel
theorem dX11_newTest_87 : decode cX11_newTest 87 = .ok (.iadd, 1) := by decide +kernel
theorem dX11_newTest_88 : decode cX11_newTest 88 = .ok (.aload_n 0, 1) := by decide +kernel
theorem dX11_newTest_89 : decode cX11_newTest 89 = .ok (.getfield 209, 3) := by decide +kernel
theorem dX11_newTest_92 : decode cX11_newTest 92 = .ok (.iastore, 1) := by decide +kernel
theorem dX11_newTest_93 : decode cX11_newTest 93 = .ok (.aload_n 0, 1) := by decide +kernel
theorem dX11_newTest_94 : decode cX11_newTest 94 = .ok (.getfield 59, 3) := by decide +kernel
theorem dX11_newTest_97 : decode cX11_newTest 97 = .ok (.bipush 25, 2) := by decide +kernel
theorem dX11_newTest_99 : decode cX11_newTest 99 = .ok (.iload_n 3, 1) := by decide +kernel
theorem dX11_newTest_100 : decode cX11_newTest 100 = .ok (.iadd, 1) := by decide +kernel
theorem dX11_newTest_101 : decode cX11_newTest 101 = .ok (.iload_n 1, 1) := by decide +kernel
theorem dX11_newTest_102 : decode cX11_newTest 102 = .ok (.iastore, 1) := by decide +kernel
theorem dX11_newTest_103 : decode cX11_newTest 103 = .ok (.aload_n 0, 1) := by decide +kernel
theorem dX11_newTest_104 : decode cX11_newTest 104 = .ok (.getfield 62, 3) := by decide +kernel
theorem dX11_newTest_107 : decode cX11_newTest 107 = .ok (.iconst 1, 1) := by decide +kernel
theorem dX11_newTest_108 : decode cX11_newTest 108 = .ok (.dup2, 1) := by decide +kernel
theorem dX11_newTest_109 : decode cX11_newTest 109 = .ok (.iaload, 1) := by decide +kernel
theorem dX11_newTest_110 : decode cX11_newTest 110 = .ok (.iconst 1, 1) := by decide +kernel
theorem dX11_newTest_111 : decode cX11_newTest 111 = .ok (.iadd, 1) := by decide +kernel
theorem dX11_newTest_112 : decode cX11_newTest 112 = .ok (.iastore, 1) := by decide +kernel
theorem dX11_newTest_113 : decode cX11_newTest 113 = .ok (.aload_n 0, 1) := by decide +kernel
theorem dX11_newTest_114 : decode cX11_newTest 114 = .ok (.bipush 7, 2) := by decide +kernel
theorem dX11_newTest_116 : decode cX11_newTest 116 = .ok (.invokevirtual 220, 3) := by decide +kernel
theorem dX11_newTest_119 : decode cX11_newTest 119 = .ok (.ifCond .eq 17, 3) := by decide +kernel
theorem dX11_newTest_122 : decode cX11_newTest 122 = .ok (.aload_n 0, 1) := by decide +kernel
theorem dX11_newTest_123 : decode cX11_newTest 123 = .ok (.invokevirtual 173, 3) := by decide +kernel
theorem dX11_newTest_126 : decode cX11_newTest 126 = .ok (.aload_n 0, 1) := by decide +kernel
theorem dX11_newTest_127 : decode cX11_newTest 127 = .ok (.bipush 12, 2) := by decide +kernel
theorem dX11_newTest_129 : decode cX11_newTest 129 = .ok (.iconst 0, 1) := by decide +kernel
theorem dX11_newTest_130 : decode cX11_newTest 130 = .ok (.iload_n 3, 1) := by decide +kernel
theorem dX11_newTest_131 : decode cX11_newTest 131 = .ok (.iconst 0, 1) := by decide +kernel
theorem dX11_newTest_132 : decode cX11_newTest 132 = .ok (.invokevirtual 216, 3) := by decide +kernel
theorem dX11_newTest_135 : decode cX11_newTest 135 = .ok (.ireturn, 1) := by decide +kernel
theorem dX11_newTest_136 : decode cX11_newTest 136 = .ok (.aload_n 0, 1) := by decide +kernel
theorem dX11_newTest_137 : decode cX11_newTest 137 = .ok (.iconst 0, 1) := by decide +kernel
theorem dX11_newTest_138 : decode cX11_newTest 138 = .ok (.invokevirtual 205, 3) := by decide +kernel
theorem dX11_newTest_141 : decode cX11_newTest 141 = .ok (.istore 4, 2) := by decide +kernel
theorem dX11_newTest_143 : decode cX11_newTest 143 = .ok (.aload_n 0, 1) := by decide +kernel
theorem dX11_newTest_144 : decode cX11_newTest 144 = .ok (.iconst 3, 1) := by decide +kernel
theorem dX11_newTest_145 : decode cX11_newTest 145 = .ok (.invokevirtual 220, 3) := by decide +kernel
theorem dX11_newTest_148 : decode cX11_newTest 148 = .ok (.istore 5, 2) := by decide +kernel
theorem dX11_newTest_150 : decode cX11_newTest 150 = .ok (.iload 5, 2) := by decide +kernel
theorem dX11_newTest_152 : decode cX11_newTest 152 = .ok (.ifCond .ne 20, 3) := by decide +kernel
theorem dX11_newTest_155 : decode cX11_newTest 155 = .ok (.aload_n 0, 1) := by decide +kernel
theorem dX11_newTest_156 : decode cX11_newTest 156 = .ok (.iconst 4, 1) := by decide +kernel
theorem dX11_newTest_157 : decode cX11_newTest 157 = .ok (.invokevirtual 220, 3) := by decide +kernel
theorem dX11_newTest_160 : decode cX11_newTest 160 = .ok (.ifCond .ne 12, 3) := by decide +kernel
theorem dX11_newTest_163 : decode cX11_newTest 163 = .ok (.aload_n 0, 1) := by decide +kernel
theorem dX11_newTest_164 : decode cX11_newTest 164 = .ok (.iconst 1, 1) := by decide +kernel
theorem dX11_newTest_165 : decode cX11_newTest 165 = .ok (.aload_n 0, 1) := by decide +kernel
theorem dX11_newTest_166 : decode cX11_newTest 166 = .ok (.getfield 137, 3) := by decide +kernel
theorem dX11_newTest_169 : decode cX11_newTest 169 = .ok (.invokevirtual 179, 3) := by decide +kernel
theorem dX11_newTest_172 : decode cX11_newTest 172 = .ok (.aload_n 0, 1) := by decide +kernel
theorem dX11_newTest_173 : decode cX11_newTest 173 = .ok (.getfield 164, 3) := by decide +kernel
theorem dX11_newTest_176 : decode cX11_newTest 176 = .ok (.ifCond .ne 7, 3) := by decide +kernel
theorem dX11_newTest_179 : decode cX11_newTest 179 = .ok (.aload_n 0, 1) := by decide +kernel
theorem dX11_newTest_180 : decode cX11_newTest 180 = .ok (.invokevirtual 173, 3) := by decide +kernel
theorem dX11_newTest_183 : decode cX11_newTest 183 = .ok (.aload_n 0, 1) := by decide +kernel
theorem dX11_newTest_184 : decode cX11_newTest 184 = .ok (.iconst 5, 1) := by decide +kernel
theorem dX11_newTest_185 : decode cX11_newTest 185 = .ok (.invokevirtual 220, 3) := by decide +kernel
theorem dX11_newTest_188 : decode cX11_newTest 188 = .ok (.ifCond .ne 12, 3) := by decide +kernel
theorem dX11_newTest_191 : decode cX11_newTest 191 = .ok (.aload_n 0, 1) := by decide +kernel
theorem dX11_newTest_192 : decode cX11_newTest 192 = .ok (.iconst 1, 1) := by decide +kernel
theorem dX11_newTest_193 : decode cX11_newTest 193 = .ok (.aload_n 0, 1) := by decide +kernel
theorem dX11_newTest_194 : decode cX11_newTest 194 = .ok (.getfield 137, 3) := by decide +kernel
theorem dX11_newTest_197 : decode cX11_newTest 197 = .ok (.invokevirtual 179, 3) := by decide +kernel
theorem dX11_newTest_200 : decode cX11_newTest 200 = .ok (.aload_n 0, 1) := by decide +kernel
theorem dX11_newTest_201 : decode cX11_newTest 201 = .ok (.getfield 164, 3) := by decide +kernel
theorem dX11_newTest_204 : decode cX11_newTest 204 = .ok (.ifCond .ne 7, 3) := by decide +kernel
theorem dX11_newTest_207 : decode cX11_newTest 207 = .ok (.aload_n 0, 1) := by decide +kernel
theorem dX11_newTest_208 : decode cX11_newTest 208 = .ok (.invokevirtual 173, 3) := by decide +kernel
theorem dX11_newTest_211 : decode cX11_newTest 211 = .ok (.aload_n 0, 1) := by decide +kernel
theorem dX11_newTest_212 : decode cX11_newTest 212 = .ok (.iload 5, 2) := by decide +kernel
theorem dX11_newTest_214 : decode cX11_newTest 214 = .ok (.ifCond .eq 8, 3) := by decide +kernel
theorem dX11_newTest_217 : decode cX11_newTest 217 = .ok (.bipush 10, 2) := by decide +kernel
theorem dX11_newTest_219 : decode cX11_newTest 219 = .ok (.goto 5, 3) := by decide +kernel
theorem dX11_newTest_222 : decode cX11_newTest 222 = .ok (.bipush 11, 2) := by decide +kernel
theorem dX11_newTest_224 : decode cX11_newTest 224 = .ok (.iload 4, 2) := by decide +kernel
theorem dX11_newTest_226 : decode cX11_newTest 226 = .ok (.iload_n 3, 1) := by decide +kernel
theorem dX11_newTest_227 : decode cX11_newTest 227 = .ok (.iconst 0, 1) := by decide +kernel
theorem dX11_newTest_228 : decode cX11_newTest 228 = .ok (.invokevirtual 216, 3) := by decide +kernel
theorem dX11_newTest_231 : decode cX11_newTest 231 = .ok (.ireturn, 1) := by decide +kernel
theorem dX11_worth_0 : decode cX11_worth 0 = .ok (.aload_n 0, 1) := by decide +kernel
theorem dX11_worth_1 : decode cX11_worth 1 = .ok (.getfield 164, 3) := by decide +kernel
theorem dX11_worth_4 : decode cX11_worth 4 = .ok (.ifCond .eq 4, 3) := by decide +kernel
theorem dX11_worth_7 : decode cX11_worth 7 = .ok (.return_, 1) := by decide +kernel
theorem dX11_worth_8 : decode cX11_worth 8 = .ok (.aload_n 0, 1) := by decide +kernel
theorem dX11_worth_9 : decode cX11_worth 9 = .ok (.getfield 137, 3) := by decide +kernel
theorem dX11_worth_12 : decode cX11_worth 12 = .ok (.istore_n 1, 1) := by decide +kernel
theorem dX11_worth_13 : decode cX11_worth 13 = .ok (.aload_n 0, 1) := by decide +kernel
theorem dX11_worth_14 : decode cX11_worth 14 = .ok (.iconst 5, 1) := by decide +kernel
theorem dX11_worth_15 : decode cX11_worth 15 = .ok (.invokevirtual 220, 3) := by decide +kernel
theorem dX11_worth_18 : decode cX11_worth 18 = .ok (.ifCond .eq 19, 3) := by decide +kernel
theorem dX11_worth_21 : decode cX11_worth 21 = .ok (.aload_n 0, 1) := by decide +kernel
theorem dX11_worth_22 : decode cX11_worth 22 = .ok (.invokevirtual 173, 3) := by decide +kernel
theorem dX11_worth_25 : decode cX11_worth 25 = .ok (.aload_n 0, 1) := by decide +kernel
theorem dX11_worth_26 : decode cX11_worth 26 = .ok (.iconst 1, 1) := by decide +kernel
theorem dX11_worth_27 : decode cX11_worth 27 = .ok (.iconst 0, 1) := by decide +kernel
theorem dX11_worth_28 : decode cX11_worth 28 = .ok (.iconst 0, 1) := by decide +kernel
theorem dX11_worth_29 : decode cX11_worth 29 = .ok (.iconst 0, 1) := by decide +kernel
theorem dX11_worth_30 : decode cX11_worth 30 = .ok (.invokevirtual 216, 3) := by decide +kernel
theorem dX11_worth_33 : decode cX11_worth 33 = .ok (.pop, 1) := by decide +kernel
theorem dX11_worth_34 : decode cX11_worth 34 = .ok (.goto 144, 3) := by decide +kernel
theorem dX11_worth_37 : decode cX11_worth 37 = .ok (.aload_n 0, 1) := by decide +kernel
theorem dX11_worth_38 : decode cX11_worth 38 = .ok (.bipush 7, 2) := by decide +kernel
theorem dX11_worth_40 : decode cX11_worth 40 = .ok (.invokevirtual 220, 3) := by decide +kernel
theorem dX11_worth_43 : decode cX11_worth 43 = .ok (.ifCond .eq 19, 3) := by decide +kernel
theorem dX11_worth_46 : decode cX11_worth 46 = .ok (.aload_n 0, 1) := by decide +kernel
theorem dX11_worth_47 : decode cX11_worth 47 = .ok (.invokevirtual 173, 3) := by decide +kernel
theorem dX11_worth_50 : decode cX11_worth 50 = .ok (.aload_n 0, 1) := by decide +kernel
theorem dX11_worth_51 : decode cX11_worth 51 = .ok (.iconst 2, 1) := by decide +kernel
theorem dX11_worth_52 : decode cX11_worth 52 = .ok (.iconst 0, 1) := by decide +kernel
theorem dX11_worth_53 : decode cX11_worth 53 = .ok (.iconst 0, 1) := by decide +kernel
theorem dX11_worth_54 : decode cX11_worth 54 = .ok (.iconst 0, 1) := by decide +kernel
theorem dX11_worth_55 : decode cX11_worth 55 = .ok (.invokevirtual 216, 3) := by decide +kernel
theorem dX11_worth_58 : decode cX11_worth 58 = .ok (.pop, 1) := by decide +kernel
theorem dX11_worth_59 : decode cX11_worth 59 = .ok (.goto 119, 3) := by decide +kernel
theorem dX11_worth_62 : decode cX11_worth 62 = .ok (.aload_n 0, 1) := by decide +kernel
theorem dX11_worth_63 : decode cX11_worth 63 = .ok (.bipush 6, 2) := by decide +kernel
theorem dX11_worth_65 : decode cX11_worth 65 = .ok (.invokevirtual 220, 3) := by decide +kernel
theorem dX11_worth_68 : decode cX11_worth 68 = .ok (.ifCond .eq 31, 3) := by decide +kernel
theorem dX11_worth_71 : decode cX11_worth 71 = .ok (.aload_n 0, 1) := by decide +kernel
theorem dX11_worth_72 : decode cX11_worth 72 = .ok (.invokevirtual 173, 3) := by decide +kernel
theorem dX11_worth_75 : decode cX11_worth 75 = .ok (.aload_n 0, 1) := by decide +kernel
theorem dX11_worth_76 : decode cX11_worth 76 = .ok (.iconst 0, 1) := by decide +kernel
theorem dX11_worth_77 : decode cX11_worth 77 = .ok (.invokevirtual 205, 3) := by decide +kernel
theorem dX11_worth_80 : decode cX11_worth 80 = .ok (.istore_n 2, 1) := by decide +kernel
theorem dX11_worth_81 : decode cX11_worth 81 = .ok (.aload_n 0, 1) := by decide +kernel
theorem dX11_worth_82 : decode cX11_worth 82 = .ok (.iconst 0, 1) := by decide +kernel
theorem dX11_worth_83 : decode cX11_worth 83 = .ok (.invokevirtual 205, 3) := by decide +kernel
theorem dX11_worth_86 : decode cX11_worth 86 = .ok (.istore_n 3, 1) := by decide +kernel
theorem dX11_worth_87 : decode cX11_worth 87 = .ok (.aload_n 0, 1) := by decide +kernel
theorem dX11_worth_88 : decode cX11_worth 88 = .ok (.iconst 3, 1) := by decide +kernel
theorem dX11_worth_89 : decode cX11_worth 89 = .ok (.iload_n 2, 1) := by decide +kernel
theorem dX11_worth_90 : decode cX11_worth 90 = .ok (.iload_n 3, 1) := by decide +kernel
theorem dX11_worth_91 : decode cX11_worth 91 = .ok (.iconst 0, 1) := by decide +kernel
theorem dX11_worth_92 : decode cX11_worth 92 = .ok (.invokevirtual 216, 3) := by decide +kernel
theorem dX11_worth_95 : decode cX11_worth 95 = .ok (.pop, 1) := by decide +kernel
theorem dX11_worth_96 : decode cX11_worth 96 = .ok (.goto 82, 3) := by decide +kernel
theorem dX11_worth_99 : decode cX11_worth 99 = .ok (.aload_n 0, 1) := by decide +kernel
theorem dX11_worth_100 : decode cX11_worth 100 = .ok (.getfield 140, 3) := by decide +kernel
theorem dX11_worth_103 : decode cX11_worth 103 = .ok (.ifCond .ne 54, 3) := by decide +kernel
theorem dX11_worth_106 : decode cX11_worth 106 = .ok (.aload_n 0, 1) := by decide +kernel
theorem dX11_worth_107 : decode cX11_worth 107 = .ok (.iconst 0, 1) := by decide +kernel
theorem dX11_worth_108 : decode cX11_worth 108 = .ok (.invokevirtual 205, 3) := by decide +kernel
theorem dX11_worth_111 : decode cX11_worth 111 = .ok (.istore_n 2, 1) := by decide +kernel
theorem dX11_worth_112 : decode cX11_worth 112 = .ok (.aload_n 0, 1) := by decide +kernel
theorem dX11_worth_113 : decode cX11_worth 113 = .ok (.bipush 46, 2) := by decide +kernel
theorem dX11_worth_115 : decode cX11_worth 115 = .ok (.invokevirtual 170, 3) := by decide +kernel
theorem dX11_worth_118 : decode cX11_worth 118 = .ok (.ifCond .ne 13, 3) := by decide +kernel
theorem dX11_worth_121 : decode cX11_worth 121 = .ok (.aload_n 0, 1) := by decide +kernel
theorem dX11_worth_122 : decode cX11_worth 122 = .ok (.iconst 4, 1) := by decide +kernel
theorem dX11_worth_123 : decode cX11_worth 123 = .ok (.iload_n 2, 1) := by decide +kernel
theorem dX11_worth_124 : decode cX11_worth 124 = .ok (.iconst 0, 1) := by decide +kernel
theorem dX11_worth_125 : decode cX11_worth 125 = .ok (.iconst 0, 1) := by decide +kernel
theorem dX11_worth_126 : decode cX11_worth 126 = .ok (.invokevirtual 216, 3) := by decide +kernel
theorem dX11_worth_129 : decode cX11_worth 129 = .ok (.pop, 1) := by decide +kernel
theorem dX11_worth_130 : decode cX11_worth 130 = .ok (.return_, 1) := by decide +kernel
theorem dX11_worth_131 : decode cX11_worth 131 = .ok (.aload_n 0, 1) := by decide +kernel
theorem dX11_worth_132 : decode cX11_worth 132 = .ok (.iload_n 2, 1) := by decide +kernel
theorem dX11_worth_133 : decode cX11_worth 133 = .ok (.iload_n 1, 1) := by decide +kernel
theorem dX11_worth_134 : decode cX11_worth 134 = .ok (.invokevirtual 223, 3) := by decide +kernel
theorem dX11_worth_137 : decode cX11_worth 137 = .ok (.istore_n 3, 1) := by decide +kernel
theorem dX11_worth_138 : decode cX11_worth 138 = .ok (.aload_n 0, 1) := by decide +kernel
theorem dX11_worth_139 : decode cX11_worth 139 = .ok (.invokevirtual 173, 3) := by decide +kernel
theorem dX11_worth_142 : decode cX11_worth 142 = .ok (.aload_n 0, 1) := by decide +kernel
theorem dX11_worth_143 : decode cX11_worth 143 = .ok (.iconst 5, 1) := by decide +kernel
theorem dX11_worth_144 : decode cX11_worth 144 = .ok (.iload_n 2, 1) := by decide +kernel
theorem dX11_worth_145 : decode cX11_worth 145 = .ok (.aload_n 0, 1) := by decide +kernel
theorem dX11_worth_146 : decode cX11_worth 146 = .ok (.invokevirtual 227, 3) := by decide +kernel
theorem dX11_worth_149 : decode cX11_worth 149 = .ok (.iload_n 3, 1) := by decide +kernel
theorem dX11_worth_150 : decode cX11_worth 150 = .ok (.invokevirtual 216, 3) := by decide +kernel
end
section
theorem dX11_worth_153 : decode cX11_worth 153 = .ok (.pop, 1) := by decide +kernel
theorem dX11_worth_154 : decode cX11_worth 154 = .ok (.goto 24, 3) := by decide +kernel
theorem dX11_worth_157 : decode cX11_worth 157 = .ok (.aload_n 0, 1) := by decide +kernel
theorem dX11_worth_158 : decode cX11_worth 158 = .ok (.getfield 140, 3) := by decide +kernel
theorem dX11_worth_161 : decode cX11_worth 161 = .ok (.iconst 1, 1) := by decide +kernel
theorem dX11_worth_162 : decode cX11_worth 162 = .ok (.if_icmp .ne 10, 3) := by decide +kernel
theorem dX11_worth_165 : decode cX11_worth 165 = .ok (.aload_n 0, 1) := by decide +kernel
theorem dX11_worth_166 : decode cX11_worth 166 = .ok (.invokevirtual 233, 3) := by decide +kernel
theorem dX11_worth_169 : decode cX11_worth 169 = .ok (.goto 9, 3) := by decide +kernel
theorem dX11_worth_172 : decode cX11_worth 172 = .ok (.aload_n 0, 1) := by decide +kernel
theorem dX11_worth_173 : decode cX11_worth 173 = .ok (.iconst 1, 1) := by decide +kernel
theorem dX11_worth_174 : decode cX11_worth 174 = .ok (.iload_n 1, 1) := by decide +kernel
theorem dX11_worth_175 : decode cX11_worth 175 = .ok (.invokevirtual 179, 3) := by decide +kernel
theorem dX11_worth_178 : decode cX11_worth 178 = .ok (.return_, 1) := by decide +kernel
theorem dX11_call_0 : decode cX11_call 0 = .ok (.aload_n 0, 1) := by decide +kernel
theorem dX11_call_1 : decode cX11_call 1 = .ok (.getfield 137, 3) := by decide +kernel
theorem dX11_call_4 : decode cX11_call 4 = .ok (.istore_n 1, 1) := by decide +kernel
theorem dX11_call_5 : decode cX11_call 5 = .ok (.aload_n 0, 1) := by decide +kernel
theorem dX11_call_6 : decode cX11_call 6 = .ok (.iconst 1, 1) := by decide +kernel
theorem dX11_call_7 : decode cX11_call 7 = .ok (.invokevirtual 205, 3) := by decide +kernel
theorem dX11_call_10 : decode cX11_call 10 = .ok (.istore_n 2, 1) := by decide +kernel
theorem dX11_call_11 : decode cX11_call 11 = .ok (.aload_n 0, 1) := by decide +kernel
theorem dX11_call_12 : decode cX11_call 12 = .ok (.bipush 40, 2) := by decide +kernel
theorem dX11_call_14 : decode cX11_call 14 = .ok (.invokevirtual 201, 3) := by decide +kernel
theorem dX11_call_17 : decode cX11_call 17 = .ok (.iconst 0, 1) := by decide +kernel
theorem dX11_call_18 : decode cX11_call 18 = .ok (.istore_n 3, 1) := by decide +kernel
theorem dX11_call_19 : decode cX11_call 19 = .ok (.iconst 0, 1) := by decide +kernel
theorem dX11_call_20 : decode cX11_call 20 = .ok (.istore 4, 2) := by decide +kernel
theorem dX11_call_22 : decode cX11_call 22 = .ok (.aload_n 0, 1) := by decide +kernel
theorem dX11_call_23 : decode cX11_call 23 = .ok (.getfield 164, 3) := by decide +kernel
theorem dX11_call_26 : decode cX11_call 26 = .ok (.ifCond .ne 16, 3) := by decide +kernel
theorem dX11_call_29 : decode cX11_call 29 = .ok (.aload_n 0, 1) := by decide +kernel
theorem dX11_call_30 : decode cX11_call 30 = .ok (.bipush 41, 2) := by decide +kernel
theorem dX11_call_32 : decode cX11_call 32 = .ok (.invokevirtual 170, 3) := by decide +kernel
theorem dX11_call_35 : decode cX11_call 35 = .ok (.ifCond .ne 7, 3) := by decide +kernel
theorem dX11_call_38 : decode cX11_call 38 = .ok (.iconst 1, 1) := by decide +kernel
theorem dX11_call_39 : decode cX11_call 39 = .ok (.goto 4, 3) := by decide +kernel
theorem dX11_call_42 : decode cX11_call 42 = .ok (.iconst 0, 1) := by decide +kernel
theorem dX11_call_43 : decode cX11_call 43 = .ok (.istore 5, 2) := by decide +kernel
theorem dX11_call_45 : decode cX11_call 45 = .ok (.iload 5, 2) := by decide +kernel
theorem dX11_call_47 : decode cX11_call 47 = .ok (.ifCond .eq 59, 3) := by decide +kernel
theorem dX11_call_50 : decode cX11_call 50 = .ok (.aload_n 0, 1) := by decide +kernel
theorem dX11_call_51 : decode cX11_call 51 = .ok (.getfield 164, 3) := by decide +kernel
theorem dX11_call_54 : decode cX11_call 54 = .ok (.ifCond .ne 52, 3) := by decide +kernel
theorem dX11_call_57 : decode cX11_call 57 = .ok (.aload_n 0, 1) := by decide +kernel
theorem dX11_call_58 : decode cX11_call 58 = .ok (.getfield 140, 3) := by decide +kernel
theorem dX11_call_61 : decode cX11_call 61 = .ok (.ifCond .ne 17, 3) := by decide +kernel
theorem dX11_call_64 : decode cX11_call 64 = .ok (.iload_n 3, 1) := by decide +kernel
theorem dX11_call_65 : decode cX11_call 65 = .ok (.iconst 4, 1) := by decide +kernel
theorem dX11_call_66 : decode cX11_call 66 = .ok (.if_icmp .ne 12, 3) := by decide +kernel
theorem dX11_call_69 : decode cX11_call 69 = .ok (.aload_n 0, 1) := by decide +kernel
theorem dX11_call_70 : decode cX11_call 70 = .ok (.iconst 2, 1) := by decide +kernel
theorem dX11_call_71 : decode cX11_call 71 = .ok (.aload_n 0, 1) := by decide +kernel
theorem dX11_call_72 : decode cX11_call 72 = .ok (.getfield 137, 3) := by decide +kernel
theorem dX11_call_75 : decode cX11_call 75 = .ok (.invokevirtual 179, 3) := by decide +kernel
theorem dX11_call_78 : decode cX11_call 78 = .ok (.iload 4, 2) := by decide +kernel
theorem dX11_call_80 : decode cX11_call 80 = .ok (.aload_n 0, 1) := by decide +kernel
theorem dX11_call_81 : decode cX11_call 81 = .ok (.iconst 0, 1) := by decide +kernel
theorem dX11_call_82 : decode cX11_call 82 = .ok (.invokevirtual 205, 3) := by decide +kernel
theorem dX11_call_85 : decode cX11_call 85 = .ok (.iconst 5, 1) := by decide +kernel
theorem dX11_call_86 : decode cX11_call 86 = .ok (.iload_n 3, 1) := by decide +kernel
theorem dX11_call_87 : decode cX11_call 87 = .ok (.imul, 1) := by decide +kernel
theorem dX11_call_88 : decode cX11_call 88 = .ok (.ishl, 1) := by decide +kernel
theorem dX11_call_89 : decode cX11_call 89 = .ok (.ior, 1) := by decide +kernel
theorem dX11_call_90 : decode cX11_call 90 = .ok (.istore 4, 2) := by decide +kernel
theorem dX11_call_92 : decode cX11_call 92 = .ok (.iinc 3 1, 3) := by decide +kernel
theorem dX11_call_95 : decode cX11_call 95 = .ok (.aload_n 0, 1) := by decide +kernel
theorem dX11_call_96 : decode cX11_call 96 = .ok (.bipush 44, 2) := by decide +kernel
theorem dX11_call_98 : decode cX11_call 98 = .ok (.invokevirtual 176, 3) := by decide +kernel
theorem dX11_call_101 : decode cX11_call 101 = .ok (.istore 5, 2) := by decide +kernel
theorem dX11_call_103 : decode cX11_call 103 = .ok (.goto (-58), 3) := by decide +kernel
theorem dX11_call_106 : decode cX11_call 106 = .ok (.aload_n 0, 1) := by decide +kernel
theorem dX11_call_107 : decode cX11_call 107 = .ok (.bipush 41, 2) := by decide +kernel
theorem dX11_call_109 : decode cX11_call 109 = .ok (.invokevirtual 201, 3) := by decide +kernel
theorem dX11_call_112 : decode cX11_call 112 = .ok (.aload_n 0, 1) := by decide +kernel
theorem dX11_call_113 : decode cX11_call 113 = .ok (.getfield 164, 3) := by decide +kernel
theorem dX11_call_116 : decode cX11_call 116 = .ok (.ifCond .eq 4, 3) := by decide +kernel
theorem dX11_call_119 : decode cX11_call 119 = .ok (.return_, 1) := by decide +kernel
theorem dX11_call_120 : decode cX11_call 120 = .ok (.aload_n 0, 1) := by decide +kernel
theorem dX11_call_121 : decode cX11_call 121 = .ok (.getfield 65, 3) := by decide +kernel
theorem dX11_call_124 : decode cX11_call 124 = .ok (.aload_n 0, 1) := by decide +kernel
theorem dX11_call_125 : decode cX11_call 125 = .ok (.getfield 186, 3) := by decide +kernel
theorem dX11_call_128 : decode cX11_call 128 = .ok (.iload_n 1, 1) := by decide +kernel
theorem dX11_call_129 : decode cX11_call 129 = .ok (.iastore, 1) := by decide +kernel
theorem dX11_call_130 : decode cX11_call 130 = .ok (.aload_n 0, 1) := by decide +kernel
theorem dX11_call_131 : decode cX11_call 131 = .ok (.getfield 68, 3) := by decide +kernel
theorem dX11_call_134 : decode cX11_call 134 = .ok (.aload_n 0, 1) := by decide +kernel
theorem dX11_call_135 : decode cX11_call 135 = .ok (.getfield 186, 3) := by decide +kernel
theorem dX11_call_138 : decode cX11_call 138 = .ok (.iload_n 2, 1) := by decide +kernel
theorem dX11_call_139 : decode cX11_call 139 = .ok (.iastore, 1) := by decide +kernel
theorem dX11_call_140 : decode cX11_call 140 = .ok (.aload_n 0, 1) := by decide +kernel
theorem dX11_call_141 : decode cX11_call 141 = .ok (.getfield 71, 3) := by decide +kernel
theorem dX11_call_144 : decode cX11_call 144 = .ok (.aload_n 0, 1) := by decide +kernel
theorem dX11_call_145 : decode cX11_call 145 = .ok (.getfield 186, 3) := by decide +kernel
theorem dX11_call_148 : decode cX11_call 148 = .ok (.iload_n 3, 1) := by decide +kernel
theorem dX11_call_149 : decode cX11_call 149 = .ok (.iastore, 1) := by decide +kernel
theorem dX11_call_150 : decode cX11_call 150 = .ok (.aload_n 0, 1) := by decide +kernel
theorem dX11_call_151 : decode cX11_call 151 = .ok (.dup, 1) := by decide +kernel
theorem dX11_call_152 : decode cX11_call 152 = .ok (.getfield 186, 3) := by decide +kernel
theorem dX11_call_155 : decode cX11_call 155 = .ok (.iconst 1, 1) := by decide +kernel
theorem dX11_call_156 : decode cX11_call 156 = .ok (.iadd, 1) := by decide +kernel
theorem dX11_call_157 : decode cX11_call 157 = .ok (.putfield 186, 3) := by decide +kernel
theorem dX11_call_160 : decode cX11_call 160 = .ok (.aload_n 0, 1) := by decide +kernel
theorem dX11_call_161 : decode cX11_call 161 = .ok (.getfield 29, 3) := by decide +kernel
theorem dX11_call_164 : decode cX11_call 164 = .ok (.sipush 1300, 3) := by decide +kernel
theorem dX11_call_167 : decode cX11_call 167 = .ok (.aload_n 0, 1) := by decide +kernel
theorem dX11_call_168 : decode cX11_call 168 = .ok (.bipush 6, 2) := by decide +kernel
theorem dX11_call_170 : decode cX11_call 170 = .ok (.iload_n 2, 1) := by decide +kernel
theorem dX11_call_171 : decode cX11_call 171 = .ok (.iload_n 3, 1) := by decide +kernel
theorem dX11_call_172 : decode cX11_call 172 = .ok (.iconst 0, 1) := by decide +kernel
theorem dX11_call_173 : decode cX11_call 173 = .ok (.invokevirtual 216, 3) := by decide +kernel
theorem dX11_call_176 : decode cX11_call 176 = .ok (.iadd, 1) := by decide +kernel
theorem dX11_call_177 : decode cX11_call 177 = .ok (.iload 4, 2) := by decide +kernel
theorem dX11_call_179 : decode cX11_call 179 = .ok (.iastore, 1) := by decide +kernel
theorem dX11_call_180 : decode cX11_call 180 = .ok (.return_, 1) := by decide +kernel
theorem dX11_text_0 : decode cX11_text 0 = .ok (.aload_n 0, 1) := by decide +kernel
theorem dX11_text_1 : decode cX11_text 1 = .ok (.iconst 0, 1) := by decide +kernel
theorem dX11_text_2 : decode cX11_text 2 = .ok (.putfield 121, 3) := by decide +kernel
theorem dX11_text_5 : decode cX11_text 5 = .ok (.iload_n 1, 1) := by decide +kernel
theorem dX11_text_6 : decode cX11_text 6 = .ok (.ifCond .lt 11, 3) := by decide +kernel
theorem dX11_text_9 : decode cX11_text 9 = .ok (.iload_n 1, 1) := by decide +kernel
theorem dX11_text_10 : decode cX11_text 10 = .ok (.aload_n 0, 1) := by decide +kernel
theorem dX11_text_11 : decode cX11_text 11 = .ok (.getfield 124, 3) := by decide +kernel
theorem dX11_text_14 : decode cX11_text 14 = .ok (.if_icmp .le 6, 3) := by decide +kernel
theorem dX11_text_17 : decode cX11_text 17 = .ok (.bipush (-2), 2) := by decide +kernel
theorem dX11_text_19 : decode cX11_text 19 = .ok (.ireturn, 1) := by decide +kernel
theorem dX11_text_20 : decode cX11_text 20 = .ok (.aload_n 0, 1) := by decide +kernel
theorem dX11_text_21 : decode cX11_text 21 = .ok (.iload_n 1, 1) := by decide +kernel
theorem dX11_text_22 : decode cX11_text 22 = .ok (.putfield 130, 3) := by decide +kernel
theorem dX11_text_25 : decode cX11_text 25 = .ok (.aload_n 0, 1) := by decide +kernel
theorem dX11_text_26 : decode cX11_text 26 = .ok (.iconst 0, 1) := by decide +kernel
theorem dX11_text_27 : decode cX11_text 27 = .ok (.putfield 124, 3) := by decide +kernel
theorem dX11_text_30 : decode cX11_text 30 = .ok (.aload_n 0, 1) := by decide +kernel
theorem dX11_text_31 : decode cX11_text 31 = .ok (.invokevirtual 239, 3) := by decide +kernel
theorem dX11_text_34 : decode cX11_text 34 = .ok (.aload_n 0, 1) := by decide +kernel
theorem dX11_text_35 : decode cX11_text 35 = .ok (.aload_n 0, 1) := by decide +kernel
theorem dX11_text_36 : decode cX11_text 36 = .ok (.getfield 164, 3) := by decide +kernel
theorem dX11_text_39 : decode cX11_text 39 = .ok (.putfield 242, 3) := by decide +kernel
theorem dX11_text_42 : decode cX11_text 42 = .ok (.aload_n 0, 1) := by decide +kernel
theorem dX11_text_43 : decode cX11_text 43 = .ok (.aload_n 0, 1) := by decide +kernel
theorem dX11_text_44 : decode cX11_text 44 = .ok (.getfield 167, 3) := by decide +kernel
theorem dX11_text_47 : decode cX11_text 47 = .ok (.putfield 13, 3) := by decide +kernel
theorem dX11_text_50 : decode cX11_text 50 = .ok (.aload_n 0, 1) := by decide +kernel
theorem dX11_text_51 : decode cX11_text 51 = .ok (.getfield 164, 3) := by decide +kernel
theorem dX11_text_54 : decode cX11_text 54 = .ok (.ifCond .eq 5, 3) := by decide +kernel
theorem dX11_text_57 : decode cX11_text 57 = .ok (.iconst (-1), 1) := by decide +kernel
theorem dX11_text_58 : decode cX11_text 58 = .ok (.ireturn, 1) := by decide +kernel
theorem dX11_text_59 : decode cX11_text 59 = .ok (.aload_n 0, 1) := by decide +kernel
theorem dX11_text_60 : decode cX11_text 60 = .ok (.invokevirtual 245, 3) := by decide +kernel
theorem dX11_text_63 : decode cX11_text 63 = .ok (.aload_n 0, 1) := by decide +kernel
theorem dX11_text_64 : decode cX11_text 64 = .ok (.invokevirtual 248, 3) := by decide +kernel
theorem dX11_text_67 : decode cX11_text 67 = .ok (.ireturn, 1) := by decide +kernel
theorem dX11_comes_0 : decode cX11_comes 0 = .ok (.aload_n 0, 1) := by decide +kernel
theorem dX11_comes_1 : decode cX11_comes 1 = .ok (.aload_n 0, 1) := by decide +kernel
theorem dX11_comes_2 : decode cX11_comes 2 = .ok (.getfield 183, 3) := by decide +kernel
theorem dX11_comes_5 : decode cX11_comes 5 = .ok (.putfield 251, 3) := by decide +kernel
theorem dX11_comes_8 : decode cX11_comes 8 = .ok (.iconst 0, 1) := by decide +kernel
theorem dX11_comes_9 : decode cX11_comes 9 = .ok (.istore_n 1, 1) := by decide +kernel
theorem dX11_comes_10 : decode cX11_comes 10 = .ok (.iload_n 1, 1) := by decide +kernel
theorem dX11_comes_11 : decode cX11_comes 11 = .ok (.aload_n 0, 1) := by decide +kernel
theorem dX11_comes_12 : decode cX11_comes 12 = .ok (.getfield 183, 3) := by decide +kernel
theorem dX11_comes_15 : decode cX11_comes 15 = .ok (.if_icmp .ge 89, 3) := by decide +kernel
theorem dX11_comes_18 : decode cX11_comes 18 = .ok (.aload_n 0, 1) := by decide +kernel
theorem dX11_comes_19 : decode cX11_comes 19 = .ok (.getfield 17, 3) := by decide +kernel
theorem dX11_comes_22 : decode cX11_comes 22 = .ok (.iload_n 1, 1) := by decide +kernel
theorem dX11_comes_23 : decode cX11_comes 23 = .ok (.aload_n 0, 1) := by decide +kernel
theorem dX11_comes_24 : decode cX11_comes 24 = .ok (.getfield 17, 3) := by decide +kernel
theorem dX11_comes_27 : decode cX11_comes 27 = .ok (.sipush 1300, 3) := by decide +kernel
theorem dX11_comes_30 : decode cX11_comes 30 = .ok (.iload_n 1, 1) := by decide +kernel
theorem dX11_comes_31 : decode cX11_comes 31 = .ok (.iadd, 1) := by decide +kernel
theorem dX11_comes_32 : decode cX11_comes 32 = .ok (.iaload, 1) := by decide +kernel
theorem dX11_comes_33 : decode cX11_comes 33 = .ok (.iastore, 1) := by decide +kernel
theorem dX11_comes_34 : decode cX11_comes 34 = .ok (.aload_n 0, 1) := by decide +kernel
theorem dX11_comes_35 : decode cX11_comes 35 = .ok (.getfield 20, 3) := by decide +kernel
theorem dX11_comes_38 : decode cX11_comes 38 = .ok (.iload_n 1, 1) := by decide +kernel
theorem dX11_comes_39 : decode cX11_comes 39 = .ok (.aload_n 0, 1) := by decide +kernel
theorem dX11_comes_40 : decode cX11_comes 40 = .ok (.getfield 20, 3) := by decide +kernel
theorem dX11_comes_43 : decode cX11_comes 43 = .ok (.sipush 1300, 3) := by decide +kernel
theorem dX11_comes_46 : decode cX11_comes 46 = .ok (.iload_n 1, 1) := by decide +kernel
theorem dX11_comes_47 : decode cX11_comes 47 = .ok (.iadd, 1) := by decide +kernel
theorem dX11_comes_48 : decode cX11_comes 48 = .ok (.iaload, 1) := by decide +kernel
theorem dX11_comes_49 : decode cX11_comes 49 = .ok (.iastore, 1) := by decide +kernel
theorem dX11_comes_50 : decode cX11_comes 50 = .ok (.aload_n 0, 1) := by decide +kernel
theorem dX11_comes_51 : decode cX11_comes 51 = .ok (.getfield 23, 3) := by decide +kernel
theorem dX11_comes_54 : decode cX11_comes 54 = .ok (.iload_n 1, 1) := by decide +kernel
theorem dX11_comes_55 : decode cX11_comes 55 = .ok (.aload_n 0, 1) := by decide +kernel
theorem dX11_comes_56 : decode cX11_comes 56 = .ok (.getfield 23, 3) := by decide +kernel
theorem dX11_comes_59 : decode cX11_comes 59 = .ok (.sipush 1300, 3) := by decide +kernel
theorem dX11_comes_62 : decode cX11_comes 62 = .ok (.iload_n 1, 1) := by decide +kernel
theorem dX11_comes_63 : decode cX11_comes 63 = .ok (.iadd, 1) := by decide +kernel
theorem dX11_comes_64 : decode cX11_comes 64 = .ok (.iaload, 1) := by decide +kernel
theorem dX11_comes_65 : decode cX11_comes 65 = .ok (.iastore, 1) := by decide +kernel
theorem dX11_comes_66 : decode cX11_comes 66 = .ok (.aload_n 0, 1) := by decide +kernel
theorem dX11_comes_67 : decode cX11_comes 67 = .ok (.getfield 26, 3) := by decide +kernel
theorem dX11_comes_70 : decode cX11_comes 70 = .ok (.iload_n 1, 1) := by decide +kernel
theorem dX11_comes_71 : decode cX11_comes 71 = .ok (.aload_n 0, 1) := by decide +kernel
theorem dX11_comes_72 : decode cX11_comes 72 = .ok (.getfield 26, 3) := by decide +kernel
theorem dX11_comes_75 : decode cX11_comes 75 = .ok (.sipush 1300, 3) := by decide +kernel
theorem dX11_comes_78 : decode cX11_comes 78 = .ok (.iload_n 1, 1) := by decide +kernel
theorem dX11_comes_79 : decode cX11_comes 79 = .ok (.iadd, 1) := by decide +kernel
theorem dX11_comes_80 : decode cX11_comes 80 = .ok (.iaload, 1) := by decide +kernel
theorem dX11_comes_81 : decode cX11_comes 81 = .ok (.iastore, 1) := by decide +kernel
theorem dX11_comes_82 : decode cX11_comes 82 = .ok (.aload_n 0, 1) := by decide +kernel
theorem dX11_comes_83 : decode cX11_comes 83 = .ok (.getfield 29, 3) := by decide +kernel
theorem dX11_comes_86 : decode cX11_comes 86 = .ok (.iload_n 1, 1) := by decide +kernel
theorem dX11_comes_87 : decode cX11_comes 87 = .ok (.aload_n 0, 1) := by decide +kernel
theorem dX11_comes_88 : decode cX11_comes 88 = .ok (.getfield 29, 3) := by decide +kernel
theorem dX11_comes_91 : decode cX11_comes 91 = .ok (.sipush 1300, 3) := by decide +kernel
theorem dX11_comes_94 : decode cX11_comes 94 = .ok (.iload_n 1, 1) := by decide +kernel
theorem dX11_comes_95 : decode cX11_comes 95 = .ok (.iadd, 1) := by decide +kernel
theorem dX11_comes_96 : decode cX11_comes 96 = .ok (.iaload, 1) := by decide +kernel
theorem dX11_comes_97 : decode cX11_comes 97 = .ok (.iastore, 1) := by decide +kernel
theorem dX11_comes_98 : decode cX11_comes 98 = .ok (.iinc 1 1, 3) := by decide +kernel
theorem dX11_comes_101 : decode cX11_comes 101 = .ok (.goto (-91), 3) := by decide +kernel
theorem dX11_comes_104 : decode cX11_comes 104 = .ok (.iconst 0, 1) := by decide +kernel
theorem dX11_comes_105 : decode cX11_comes 105 = .ok (.istore_n 1, 1) := by decide +kernel
theorem dX11_comes_106 : decode cX11_comes 106 = .ok (.iload_n 1, 1) := by decide +kernel
theorem dX11_comes_107 : decode cX11_comes 107 = .ok (.bipush 8, 2) := by decide +kernel
theorem dX11_comes_109 : decode cX11_comes 109 = .ok (.if_icmp .ge 39, 3) := by decide +kernel
theorem dX11_comes_112 : decode cX11_comes 112 = .ok (.aload_n 0, 1) := by decide +kernel
theorem dX11_comes_113 : decode cX11_comes 113 = .ok (.getfield 32, 3) := by decide +kernel
theorem dX11_comes_116 : decode cX11_comes 116 = .ok (.iload_n 1, 1) := by decide +kernel
theorem dX11_comes_117 : decode cX11_comes 117 = .ok (.aload_n 0, 1) := by decide +kernel
theorem dX11_comes_118 : decode cX11_comes 118 = .ok (.getfield 32, 3) := by decide +kernel
theorem dX11_comes_121 : decode cX11_comes 121 = .ok (.bipush 8, 2) := by decide +kernel
theorem dX11_comes_123 : decode cX11_comes 123 = .ok (.iload_n 1, 1) := by decide +kernel
theorem dX11_comes_124 : decode cX11_comes 124 = .ok (.iadd, 1) := by decide +kernel
theorem dX11_comes_125 : decode cX11_comes 125 = .ok (.iaload, 1) := by decide +kernel
theorem dX11_comes_126 : decode cX11_comes 126 = .ok (.iastore, 1) := by decide +kernel
theorem dX11_comes_127 : decode cX11_comes 127 = .ok (.aload_n 0, 1) := by decide +kernel
theorem dX11_comes_128 : decode cX11_comes 128 = .ok (.getfield 35, 3) := by decide +kernel
theorem dX11_comes_131 : decode cX11_comes 131 = .ok (.iload_n 1, 1) := by decide +kernel
theorem dX11_comes_132 : decode cX11_comes 132 = .ok (.aload_n 0, 1) := by decide +kernel
theorem dX11_comes_133 : decode cX11_comes 133 = .ok (.getfield 35, 3) := by decide +kernel
theorem dX11_comes_136 : decode cX11_comes 136 = .ok (.bipush 8, 2) := by decide +kernel
theorem dX11_comes_138 : decode cX11_comes 138 = .ok (.iload_n 1, 1) := by decide +kernel
theorem dX11_comes_139 : decode cX11_comes 139 = .ok (.iadd, 1) := by decide +kernel
theorem dX11_comes_140 : decode cX11_comes 140 = .ok (.iaload, 1) := by decide +kernel
theorem dX11_comes_141 : decode cX11_comes 141 = .ok (.iastore, 1) := by decide +kernel
theorem dX11_comes_142 : decode cX11_comes 142 = .ok (.iinc 1 1, 3) := by decide +kernel
theorem dX11_comes_145 : decode cX11_comes 145 = .ok (.goto (-39), 3) := by decide +kernel
theorem dX11_comes_148 : decode cX11_comes 148 = .ok (.iconst 0, 1) := by decide +kernel
theorem dX11_comes_149 : decode cX11_comes 149 = .ok (.istore_n 1, 1) := by decide +kernel
theorem dX11_comes_150 : decode cX11_comes 150 = .ok (.iload_n 1, 1) := by decide +kernel
theorem dX11_comes_151 : decode cX11_comes 151 = .ok (.bipush 32, 2) := by decide +kernel
theorem dX11_comes_153 : decode cX11_comes 153 = .ok (.if_icmp .ge 24, 3) := by decide +kernel
theorem dX11_comes_156 : decode cX11_comes 156 = .ok (.aload_n 0, 1) := by decide +kernel
theorem dX11_comes_157 : decode cX11_comes 157 = .ok (.getfield 38, 3) := by decide +kernel
theorem dX11_comes_160 : decode cX11_comes 160 = .ok (.iload_n 1, 1) := by decide +kernel
theorem dX11_comes_161 : decode cX11_comes 161 = .ok (.aload_n 0, 1) := by decide +kernel
theorem dX11_comes_162 : decode cX11_comes 162 = .ok (.getfield 38, 3) := by decide +kernel
theorem dX11_comes_165 : decode cX11_comes 165 = .ok (.bipush 32, 2) := by decide +kernel
theorem dX11_comes_167 : decode cX11_comes 167 = .ok (.iload_n 1, 1) := by decide +kernel
theorem dX11_comes_168 : decode cX11_comes 168 = .ok (.iadd, 1) := by decide +kernel
theorem dX11_comes_169 : decode cX11_comes 169 = .ok (.iaload, 1) := by decide +kernel
theorem dX11_comes_170 : decode cX11_comes 170 = .ok (.iastore, 1) := by decide +kernel
theorem dX11_comes_171 : decode cX11_comes 171 = .ok (.iinc 1 1, 3) := by decide +kernel
theorem dX11_comes_174 : decode cX11_comes 174 = .ok (.goto (-24), 3) := by decide +kernel
theorem dX11_comes_177 : decode cX11_comes 177 = .ok (.aload_n 0, 1) := by decide +kernel
theorem dX11_comes_178 : decode cX11_comes 178 = .ok (.getfield 41, 3) := by decide +kernel
theorem dX11_comes_181 : decode cX11_comes 181 = .ok (.iconst 0, 1) := by decide +kernel
theorem dX11_comes_182 : decode cX11_comes 182 = .ok (.aload_n 0, 1) := by decide +kernel
theorem dX11_comes_183 : decode cX11_comes 183 = .ok (.getfield 41, 3) := by decide +kernel
theorem dX11_comes_186 : decode cX11_comes 186 = .ok (.iconst 1, 1) := by decide +kernel
theorem dX11_comes_187 : decode cX11_comes 187 = .ok (.iaload, 1) := by decide +kernel
theorem dX11_comes_188 : decode cX11_comes 188 = .ok (.iastore, 1) := by decide +kernel
theorem dX11_comes_189 : decode cX11_comes 189 = .ok (.iconst 0, 1) := by decide +kernel
theorem dX11_comes_190 : decode cX11_comes 190 = .ok (.istore_n 1, 1) := by decide +kernel
theorem dX11_comes_191 : decode cX11_comes 191 = .ok (.iload_n 1, 1) := by decide +kernel
theorem dX11_comes_192 : decode cX11_comes 192 = .ok (.bipush 41, 2) := by decide +kernel
theorem dX11_comes_194 : decode cX11_comes 194 = .ok (.if_icmp .ge 54, 3) := by decide +kernel
theorem dX11_comes_197 : decode cX11_comes 197 = .ok (.aload_n 0, 1) := by decide +kernel
theorem dX11_comes_198 : decode cX11_comes 198 = .ok (.getfield 44, 3) := by decide +kernel
theorem dX11_comes_201 : decode cX11_comes 201 = .ok (.iload_n 1, 1) := by decide +kernel
theorem dX11_comes_202 : decode cX11_comes 202 = .ok (.aload_n 0, 1) := by decide +kernel
theorem dX11_comes_203 : decode cX11_comes 203 = .ok (.getfield 44, 3) := by decide +kernel
theorem dX11_comes_206 : decode cX11_comes 206 = .ok (.bipush 41, 2) := by decide +kernel
theorem dX11_comes_208 : decode cX11_comes 208 = .ok (.iload_n 1, 1) := by decide +kernel
theorem dX11_comes_209 : decode cX11_comes 209 = .ok (.iadd, 1) := by decide +kernel
theorem dX11_comes_210 : decode cX11_comes 210 = .ok (.iaload, 1) := by decide +kernel
theorem dX11_comes_211 : decode cX11_comes 211 = .ok (.iastore, 1) := by decide +kernel
theorem dX11_comes_212 : decode cX11_comes 212 = .ok (.aload_n 0, 1) := by decide +kernel
theorem dX11_comes_213 : decode cX11_comes 213 = .ok (.getfield 47, 3) := by decide +kernel
theorem dX11_comes_216 : decode cX11_comes 216 = .ok (.iload_n 1, 1) := by decide +kernel
theorem dX11_comes_217 : decode cX11_comes 217 = .ok (.aload_n 0, 1) := by decide +kernel
theorem dX11_comes_218 : decode cX11_comes 218 = .ok (.getfield 47, 3) := by decide +kernel
theorem dX11_comes_221 : decode cX11_comes 221 = .ok (.bipush 41, 2) := by decide +kernel
theorem dX11_comes_223 : decode cX11_comes 223 = .ok (.iload_n 1, 1) := by decide +kernel
theorem dX11_comes_224 : decode cX11_comes 224 = .ok (.iadd, 1) := by decide +kernel
theorem dX11_comes_225 : decode cX11_comes 225 = .ok (.iaload, 1) := by decide +kernel
theorem dX11_comes_226 : decode cX11_comes 226 = .ok (.iastore, 1) := by decide +kernel
theorem dX11_comes_227 : decode cX11_comes 227 = .ok (.aload_n 0, 1) := by decide +kernel
theorem dX11_comes_228 : decode cX11_comes 228 = .ok (.getfield 50, 3) := by decide +kernel
theorem dX11_comes_231 : decode cX11_comes 231 = .ok (.iload_n 1, 1) := by decide +kernel
theorem dX11_comes_232 : decode cX11_comes 232 = .ok (.aload_n 0, 1) := by decide +kernel
theorem dX11_comes_233 : decode cX11_comes 233 = .ok (.getfield 50, 3) := by decide +kernel
theorem dX11_comes_236 : decode cX11_comes 236 = .ok (.bipush 41, 2) := by decide +kernel
theorem dX11_comes_238 : decode cX11_comes 238 = .ok (.iload_n 1, 1) := by decide +kernel
theorem dX11_comes_239 : decode cX11_comes 239 = .ok (.iadd, 1) := by decide +kernel
theorem dX11_comes_240 : decode cX11_comes 240 = .ok (.iaload, 1) := by decide +kernel
theorem dX11_comes_241 : decode cX11_comes 241 = .ok (.iastore, 1) := by decide +kernel
theorem dX11_comes_242 : decode cX11_comes 242 = .ok (.iinc 1 1, 3) := by decide +kernel
theorem dX11_comes_245 : decode cX11_comes 245 = .ok (.goto (-54), 3) := by decide +kernel
theorem dX11_comes_248 : decode cX11_comes 248 = .ok (.aload_n 0, 1) := by decide +kernel
theorem dX11_comes_249 : decode cX11_comes 249 = .ok (.getfield 53, 3) := by decide +kernel
theorem dX11_comes_252 : decode cX11_comes 252 = .ok (.iconst 0, 1) := by decide +kernel
theorem dX11_comes_253 : decode cX11_comes 253 = .ok (.aload_n 0, 1) := by decide +kernel
theorem dX11_comes_254 : decode cX11_comes 254 = .ok (.getfield 53, 3) := by decide +kernel
theorem dX11_comes_257 : decode cX11_comes 257 = .ok (.iconst 1, 1) := by decide +kernel
theorem dX11_comes_258 : decode cX11_comes 258 = .ok (.iaload, 1) := by decide +kernel
theorem dX11_comes_259 : decode cX11_comes 259 = .ok (.iastore, 1) := by decide +kernel
theorem dX11_comes_260 : decode cX11_comes 260 = .ok (.iconst 0, 1) := by decide +kernel
theorem dX11_comes_261 : decode cX11_comes 261 = .ok (.istore_n 1, 1) := by decide +kernel
theorem dX11_comes_262 : decode cX11_comes 262 = .ok (.iload_n 1, 1) := by decide +kernel
theorem dX11_comes_263 : decode cX11_comes 263 = .ok (.bipush 25, 2) := by decide +kernel
theorem dX11_comes_265 : decode cX11_comes 265 = .ok (.if_icmp .ge 39, 3) := by decide +kernel
theorem dX11_comes_268 : decode cX11_comes 268 = .ok (.aload_n 0, 1) := by decide +kernel
theorem dX11_comes_269 : decode cX11_comes 269 = .ok (.getfield 56, 3) := by decide +kernel
theorem dX11_comes_272 : decode cX11_comes 272 = .ok (.iload_n 1, 1) := by decide +kernel
theorem dX11_comes_273 : decode cX11_comes 273 = .ok (.aload_n 0, 1) := by decide +kernel
theorem dX11_comes_274 : decode cX11_comes 274 = .ok (.getfield 56, 3) := by decide +kernel
theorem dX11_comes_277 : decode cX11_comes 277 = .ok (.bipush 25, 2) := by decide +kernel
theorem dX11_comes_279 : decode cX11_comes 279 = .ok (.iload_n 1, 1) := by decide +kernel
theorem dX11_comes_280 : decode cX11_comes 280 = .ok (.iadd, 1) := by decide +kernel
theorem dX11_comes_281 : decode cX11_comes 281 = .ok (.iaload, 1) := by decide +kernel
theorem dX11_comes_282 : decode cX11_comes 282 = .ok (.iastore, 1) := by decide +kernel
theorem dX11_comes_283 : decode cX11_comes 283 = .ok (.aload_n 0, 1) := by decide +kernel
theorem dX11_comes_284 : decode cX11_comes 284 = .ok (.getfield 59, 3) := by decide +kernel
theorem dX11_comes_287 : decode cX11_comes 287 = .ok (.iload_n 1, 1) := by decide +kernel
theorem dX11_comes_288 : decode cX11_comes 288 = .ok (.aload_n 0, 1) := by decide +kernel
theorem dX11_comes_289 : decode cX11_comes 289 = .ok (.getfield 59, 3) := by decide +kernel
theorem dX11_comes_292 : decode cX11_comes 292 = .ok (.bipush 25, 2) := by decide +kernel
theorem dX11_comes_294 : decode cX11_comes 294 = .ok (.iload_n 1, 1) := by decide +kernel
theorem dX11_comes_295 : decode cX11_comes 295 = .ok (.iadd, 1) := by decide +kernel
theorem dX11_comes_296 : decode cX11_comes 296 = .ok (.iaload, 1) := by decide +kernel
theorem dX11_comes_297 : decode cX11_comes 297 = .ok (.iastore, 1) := by decide +kernel
theorem dX11_comes_298 : decode cX11_comes 298 = .ok (.iinc 1 1, 3) := by decide +kernel
theorem dX11_comes_301 : decode cX11_comes 301 = .ok (.goto (-39), 3) := by decide +kernel
theorem dX11_comes_304 : decode cX11_comes 304 = .ok (.aload_n 0, 1) := by decide +kernel
theorem dX11_comes_305 : decode cX11_comes 305 = .ok (.getfield 62, 3) := by decide +kernel
theorem dX11_comes_308 : decode cX11_comes 308 = .ok (.iconst 0, 1) := by decide +kernel
theorem dX11_comes_309 : decode cX11_comes 309 = .ok (.aload_n 0, 1) := by decide +kernel
theorem dX11_comes_310 : decode cX11_comes 310 = .ok (.getfield 62, 3) := by decide +kernel
theorem dX11_comes_313 : decode cX11_comes 313 = .ok (.iconst 1, 1) := by decide +kernel
theorem dX11_comes_314 : decode cX11_comes 314 = .ok (.iaload, 1) := by decide +kernel
theorem dX11_comes_315 : decode cX11_comes 315 = .ok (.iastore, 1) := by decide +kernel
theorem dX11_comes_316 : decode cX11_comes 316 = .ok (.aload_n 0, 1) := by decide +kernel
theorem dX11_comes_317 : decode cX11_comes 317 = .ok (.aload_n 0, 1) := by decide +kernel
theorem dX11_comes_318 : decode cX11_comes 318 = .ok (.getfield 41, 3) := by decide +kernel
theorem dX11_comes_321 : decode cX11_comes 321 = .ok (.iconst 0, 1) := by decide +kernel
theorem dX11_comes_322 : decode cX11_comes 322 = .ok (.iaload, 1) := by decide +kernel
theorem dX11_comes_323 : decode cX11_comes 323 = .ok (.invokevirtual 254, 3) := by decide +kernel
theorem dX11_comes_326 : decode cX11_comes 326 = .ok (.return_, 1) := by decide +kernel
theorem dX11_routinesMany_0 : decode cX11_routinesMany 0 = .ok (.iconst 0, 1) := by decide +kernel
theorem dX11_routinesMany_1 : decode cX11_routinesMany 1 = .ok (.istore_n 1, 1) := by decide +kernel
theorem dX11_routinesMany_2 : decode cX11_routinesMany 2 = .ok (.iconst 0, 1) := by decide +kernel
theorem dX11_routinesMany_3 : decode cX11_routinesMany 3 = .ok (.istore_n 2, 1) := by decide +kernel
theorem dX11_routinesMany_4 : decode cX11_routinesMany 4 = .ok (.iload_n 2, 1) := by decide +kernel
theorem dX11_routinesMany_5 : decode cX11_routinesMany 5 = .ok (.bipush 8, 2) := by decide +kernel
theorem dX11_routinesMany_7 : decode cX11_routinesMany 7 = .ok (.if_icmp .ge 27, 3) := by decide +kernel
theorem dX11_routinesMany_10 : decode cX11_routinesMany 10 = .ok (.iload_n 1, 1) := by decide +kernel
theorem dX11_routinesMany_11 : decode cX11_routinesMany 11 = .ok (.aload_n 0, 1) := by decide +kernel
theorem dX11_routinesMany_12 : decode cX11_routinesMany 12 = .ok (.getfield 32, 3) := by decide +kernel
theorem dX11_routinesMany_15 : decode cX11_routinesMany 15 = .ok (.iload_n 2, 1) := by decide +kernel
theorem dX11_routinesMany_16 : decode cX11_routinesMany 16 = .ok (.iaload, 1) := by decide +kernel
theorem dX11_routinesMany_17 : decode cX11_routinesMany 17 = .ok (.iconst (-1), 1) := by decide +kernel
theorem dX11_routinesMany_18 : decode cX11_routinesMany 18 = .ok (.if_icmp .ne 7, 3) := by decide +kernel
theorem dX11_routinesMany_21 : decode cX11_routinesMany 21 = .ok (.iconst 0, 1) := by decide +kernel
theorem dX11_routinesMany_22 : decode cX11_routinesMany 22 = .ok (.goto 4, 3) := by decide +kernel
theorem dX11_routinesMany_25 : decode cX11_routinesMany 25 = .ok (.iconst 1, 1) := by decide +kernel
theorem dX11_routinesMany_26 : decode cX11_routinesMany 26 = .ok (.iadd, 1) := by decide +kernel
theorem dX11_routinesMany_27 : decode cX11_routinesMany 27 = .ok (.istore_n 1, 1) := by decide +kernel
theorem dX11_routinesMany_28 : decode cX11_routinesMany 28 = .ok (.iinc 2 1, 3) := by decide +kernel
theorem dX11_routinesMany_31 : decode cX11_routinesMany 31 = .ok (.goto (-27), 3) := by decide +kernel
theorem dX11_routinesMany_34 : decode cX11_routinesMany 34 = .ok (.iload_n 1, 1) := by decide +kernel
theorem dX11_routinesMany_35 : decode cX11_routinesMany 35 = .ok (.ireturn, 1) := by decide +kernel
theorem dX11_fault_0 : decode cX11_fault 0 = .ok (.aload_n 0, 1) := by decide +kernel
theorem dX11_fault_1 : decode cX11_fault 1 = .ok (.iconst 0, 1) := by decide +kernel
theorem dX11_fault_2 : decode cX11_fault 2 = .ok (.putfield 121, 3) := by decide +kernel
theorem dX11_fault_5 : decode cX11_fault 5 = .ok (.iload_n 1, 1) := by decide +kernel
theorem dX11_fault_6 : decode cX11_fault 6 = .ok (.ifCond .ne 10, 3) := by decide +kernel
theorem dX11_fault_9 : decode cX11_fault 9 = .ok (.aload_n 0, 1) := by decide +kernel
theorem dX11_fault_10 : decode cX11_fault 10 = .ok (.getfield 242, 3) := by decide +kernel
theorem dX11_fault_13 : decode cX11_fault 13 = .ok (.goto 16, 3) := by decide +kernel
theorem dX11_fault_16 : decode cX11_fault 16 = .ok (.iload_n 1, 1) := by decide +kernel
theorem dX11_fault_17 : decode cX11_fault 17 = .ok (.iconst 1, 1) := by decide +kernel
theorem dX11_fault_18 : decode cX11_fault 18 = .ok (.if_icmp .ne 10, 3) := by decide +kernel
theorem dX11_fault_21 : decode cX11_fault 21 = .ok (.aload_n 0, 1) := by decide +kernel
theorem dX11_fault_22 : decode cX11_fault 22 = .ok (.getfield 13, 3) := by decide +kernel
theorem dX11_fault_25 : decode cX11_fault 25 = .ok (.goto 4, 3) := by decide +kernel
theorem dX11_fault_28 : decode cX11_fault 28 = .ok (.iconst (-1), 1) := by decide +kernel
theorem dX11_fault_29 : decode cX11_fault 29 = .ok (.ireturn, 1) := by decide +kernel
theorem dX11_enters_0 : decode cX11_enters 0 = .ok (.aload_n 0, 1) := by decide +kernel
theorem dX11_enters_1 : decode cX11_enters 1 = .ok (.iload_n 1, 1) := by decide +kernel
theorem dX11_enters_2 : decode cX11_enters 2 = .ok (.putfield 83, 3) := by decide +kernel
theorem dX11_enters_5 : decode cX11_enters 5 = .ok (.iconst 0, 1) := by decide +kernel
theorem dX11_enters_6 : decode cX11_enters 6 = .ok (.istore_n 2, 1) := by decide +kernel
theorem dX11_enters_7 : decode cX11_enters 7 = .ok (.iload_n 2, 1) := by decide +kernel
theorem dX11_enters_8 : decode cX11_enters 8 = .ok (.iconst 4, 1) := by decide +kernel
theorem dX11_enters_9 : decode cX11_enters 9 = .ok (.if_icmp .ge 16, 3) := by decide +kernel
theorem dX11_enters_12 : decode cX11_enters 12 = .ok (.aload_n 0, 1) := by decide +kernel
theorem dX11_enters_13 : decode cX11_enters 13 = .ok (.getfield 86, 3) := by decide +kernel
theorem dX11_enters_16 : decode cX11_enters 16 = .ok (.iload_n 2, 1) := by decide +kernel
theorem dX11_enters_17 : decode cX11_enters 17 = .ok (.iconst 3, 1) := by decide +kernel
theorem dX11_enters_18 : decode cX11_enters 18 = .ok (.iastore, 1) := by decide +kernel
theorem dX11_enters_19 : decode cX11_enters 19 = .ok (.iinc 2 1, 3) := by decide +kernel
theorem dX11_enters_22 : decode cX11_enters 22 = .ok (.goto (-15), 3) := by decide +kernel
theorem dX11_enters_25 : decode cX11_enters 25 = .ok (.return_, 1) := by decide +kernel
theorem dX11_entry_0 : decode cX11_entry 0 = .ok (.aload_n 0, 1) := by decide +kernel
theorem dX11_entry_1 : decode cX11_entry 1 = .ok (.iconst 0, 1) := by decide +kernel
theorem dX11_entry_2 : decode cX11_entry 2 = .ok (.putfield 121, 3) := by decide +kernel
theorem dX11_entry_5 : decode cX11_entry 5 = .ok (.iload_n 1, 1) := by decide +kernel
theorem dX11_entry_6 : decode cX11_entry 6 = .ok (.ifCond .lt 19, 3) := by decide +kernel
theorem dX11_entry_9 : decode cX11_entry 9 = .ok (.iload_n 1, 1) := by decide +kernel
theorem dX11_entry_10 : decode cX11_entry 10 = .ok (.bipush 7, 2) := by decide +kernel
theorem dX11_entry_12 : decode cX11_entry 12 = .ok (.if_icmp .gt 13, 3) := by decide +kernel
theorem dX11_entry_15 : decode cX11_entry 15 = .ok (.aload_n 0, 1) := by decide +kernel
theorem dX11_entry_16 : decode cX11_entry 16 = .ok (.getfield 32, 3) := by decide +kernel
theorem dX11_entry_19 : decode cX11_entry 19 = .ok (.iload_n 1, 1) := by decide +kernel
theorem dX11_entry_20 : decode cX11_entry 20 = .ok (.iaload, 1) := by decide +kernel
theorem dX11_entry_21 : decode cX11_entry 21 = .ok (.iconst (-1), 1) := by decide +kernel
theorem dX11_entry_22 : decode cX11_entry 22 = .ok (.if_icmp .ne 5, 3) := by decide +kernel
theorem dX11_entry_25 : decode cX11_entry 25 = .ok (.iconst 0, 1) := by decide +kernel
theorem dX11_entry_26 : decode cX11_entry 26 = .ok (.ireturn, 1) := by decide +kernel
theorem dX11_entry_27 : decode cX11_entry 27 = .ok (.aload_n 0, 1) := by decide +kernel
theorem dX11_entry_28 : decode cX11_entry 28 = .ok (.iload_n 1, 1) := by decide +kernel
theorem dX11_entry_29 : decode cX11_entry 29 = .ok (.invokevirtual 254, 3) := by decide +kernel
theorem dX11_entry_32 : decode cX11_entry 32 = .ok (.iconst 1, 1) := by decide +kernel
theorem dX11_entry_33 : decode cX11_entry 33 = .ok (.ireturn, 1) := by decide +kernel
theorem dX11_outer_0 : decode cX11_outer 0 = .ok (.aload_n 0, 1) := by decide +kernel
theorem dX11_outer_1 : decode cX11_outer 1 = .ok (.iconst 0, 1) := by decide +kernel
theorem dX11_outer_2 : decode cX11_outer 2 = .ok (.putfield 121, 3) := by decide +kernel
theorem dX11_outer_5 : decode cX11_outer 5 = .ok (.aload_n 0, 1) := by decide +kernel
theorem dX11_outer_6 : decode cX11_outer 6 = .ok (.getfield 83, 3) := by decide +kernel
theorem dX11_outer_9 : decode cX11_outer 9 = .ok (.iconst (-1), 1) := by decide +kernel
theorem dX11_outer_10 : decode cX11_outer 10 = .ok (.if_icmp .eq 30, 3) := by decide +kernel
theorem dX11_outer_13 : decode cX11_outer 13 = .ok (.iload_n 1, 1) := by decide +kernel
theorem dX11_outer_14 : decode cX11_outer 14 = .ok (.ifCond .lt 26, 3) := by decide +kernel
theorem dX11_outer_17 : decode cX11_outer 17 = .ok (.iload_n 1, 1) := by decide +kernel
theorem dX11_outer_18 : decode cX11_outer 18 = .ok (.aload_n 0, 1) := by decide +kernel
theorem dX11_outer_19 : decode cX11_outer 19 = .ok (.getfield 35, 3) := by decide +kernel
theorem dX11_outer_22 : decode cX11_outer 22 = .ok (.aload_n 0, 1) := by decide +kernel
theorem dX11_outer_23 : decode cX11_outer 23 = .ok (.getfield 83, 3) := by decide +kernel
theorem dX11_outer_26 : decode cX11_outer 26 = .ok (.iaload, 1) := by decide +kernel
theorem dX11_outer_27 : decode cX11_outer 27 = .ok (.if_icmp .ge 13, 3) := by decide +kernel
theorem dX11_outer_30 : decode cX11_outer 30 = .ok (.iload_n 2, 1) := by decide +kernel
theorem dX11_outer_31 : decode cX11_outer 31 = .ok (.iconst 1, 1) := by decide +kernel
theorem dX11_outer_32 : decode cX11_outer 32 = .ok (.if_icmp .lt 8, 3) := by decide +kernel
theorem dX11_outer_35 : decode cX11_outer 35 = .ok (.iload_n 2, 1) := by decide +kernel
theorem dX11_outer_36 : decode cX11_outer 36 = .ok (.iconst 3, 1) := by decide +kernel
theorem dX11_outer_37 : decode cX11_outer 37 = .ok (.if_icmp .le 5, 3) := by decide +kernel
theorem dX11_outer_40 : decode cX11_outer 40 = .ok (.iconst 0, 1) := by decide +kernel
theorem dX11_outer_41 : decode cX11_outer 41 = .ok (.ireturn, 1) := by decide +kernel
theorem dX11_outer_42 : decode cX11_outer 42 = .ok (.aload_n 0, 1) := by decide +kernel
theorem dX11_outer_43 : decode cX11_outer 43 = .ok (.getfield 86, 3) := by decide +kernel
theorem dX11_outer_46 : decode cX11_outer 46 = .ok (.iload_n 1, 1) := by decide +kernel
theorem dX11_outer_47 : decode cX11_outer 47 = .ok (.iload_n 2, 1) := by decide +kernel
theorem dX11_outer_48 : decode cX11_outer 48 = .ok (.iastore, 1) := by decide +kernel
theorem dX11_outer_49 : decode cX11_outer 49 = .ok (.iconst 1, 1) := by decide +kernel
theorem dX11_outer_50 : decode cX11_outer 50 = .ok (.ireturn, 1) := by decide +kernel
theorem dX11_factOf_0 : decode cX11_factOf 0 = .ok (.lload_n 0, 1) := by decide +kernel
theorem dX11_factOf_1 : decode cX11_factOf 1 = .ok (.iconst 2, 1) := by decide +kernel
theorem dX11_factOf_2 : decode cX11_factOf 2 = .ok (.iload_n 2, 1) := by decide +kernel
theorem dX11_factOf_3 : decode cX11_factOf 3 = .ok (.imul, 1) := by decide +kernel
theorem dX11_factOf_4 : decode cX11_factOf 4 = .ok (.lshr, 1) := by decide +kernel
theorem dX11_factOf_5 : decode cX11_factOf 5 = .ok (.l2i, 1) := by decide +kernel
theorem dX11_factOf_6 : decode cX11_factOf 6 = .ok (.iconst 3, 1) := by decide +kernel
theorem dX11_factOf_7 : decode cX11_factOf 7 = .ok (.iand, 1) := by decide +kernel
theorem dX11_factOf_8 : decode cX11_factOf 8 = .ok (.ireturn, 1) := by decide +kernel
theorem dX11_with_0 : decode cX11_with 0 = .ok (.lload_n 0, 1) := by decide +kernel
theorem dX11_with_1 : decode cX11_with 1 = .ok (.ldc2_w 257, 3) := by decide +kernel
theorem dX11_with_4 : decode cX11_with 4 = .ok (.iconst 2, 1) := by decide +kernel
theorem dX11_with_5 : decode cX11_with 5 = .ok (.iload_n 2, 1) := by decide +kernel
theorem dX11_with_6 : decode cX11_with 6 = .ok (.imul, 1) := by decide +kernel
theorem dX11_with_7 : decode cX11_with 7 = .ok (.lshl, 1) := by decide +kernel
theorem dX11_with_8 : decode cX11_with 8 = .ok (.ldc2_w 259, 3) := by decide +kernel
theorem dX11_with_11 : decode cX11_with 11 = .ok (.lxor, 1) := by decide +kernel
theorem dX11_with_12 : decode cX11_with 12 = .ok (.land, 1) := by decide +kernel
theorem dX11_with_13 : decode cX11_with 13 = .ok (.iload_n 3, 1) := by decide +kernel
theorem dX11_with_14 : decode cX11_with 14 = .ok (.i2l, 1) := by decide +kernel
theorem dX11_with_15 : decode cX11_with 15 = .ok (.iconst 2, 1) := by decide +kernel
theorem dX11_with_16 : decode cX11_with 16 = .ok (.iload_n 2, 1) := by decide +kernel
theorem dX11_with_17 : decode cX11_with 17 = .ok (.imul, 1) := by decide +kernel
theorem dX11_with_18 : decode cX11_with 18 = .ok (.lshl, 1) := by decide +kernel
theorem dX11_with_19 : decode cX11_with 19 = .ok (.lor, 1) := by decide +kernel
theorem dX11_with_20 : decode cX11_with 20 = .ok (.lreturn, 1) := by decide +kernel
theorem dX11_puts_0 : decode cX11_puts 0 = .ok (.aload_n 0, 1) := by decide +kernel
theorem dX11_puts_1 : decode cX11_puts 1 = .ok (.getfield 96, 3) := by decide +kernel
theorem dX11_puts_4 : decode cX11_puts 4 = .ok (.iload_n 1, 1) := by decide +kernel
theorem dX11_puts_5 : decode cX11_puts 5 = .ok (.baload, 1) := by decide +kernel
theorem dX11_puts_6 : decode cX11_puts 6 = .ok (.ifCond .eq 9, 3) := by decide +kernel
theorem dX11_puts_9 : decode cX11_puts 9 = .ok (.iload_n 2, 1) := by decide +kernel
theorem dX11_puts_10 : decode cX11_puts 10 = .ok (.iconst 2, 1) := by decide +kernel
theorem dX11_puts_11 : decode cX11_puts 11 = .ok (.iand, 1) := by decide +kernel
theorem dX11_puts_12 : decode cX11_puts 12 = .ok (.goto 4, 3) := by decide +kernel
theorem dX11_puts_15 : decode cX11_puts 15 = .ok (.iload_n 2, 1) := by decide +kernel
theorem dX11_puts_16 : decode cX11_puts 16 = .ok (.istore_n 3, 1) := by decide +kernel
theorem dX11_puts_17 : decode cX11_puts 17 = .ok (.aload_n 0, 1) := by decide +kernel
theorem dX11_puts_18 : decode cX11_puts 18 = .ok (.getfield 93, 3) := by decide +kernel
theorem dX11_puts_21 : decode cX11_puts 21 = .ok (.iload_n 1, 1) := by decide +kernel
theorem dX11_puts_22 : decode cX11_puts 22 = .ok (.iaload, 1) := by decide +kernel
theorem dX11_puts_23 : decode cX11_puts 23 = .ok (.iload_n 3, 1) := by decide +kernel
theorem dX11_puts_24 : decode cX11_puts 24 = .ok (.ior, 1) := by decide +kernel
theorem dX11_puts_25 : decode cX11_puts 25 = .ok (.aload_n 0, 1) := by decide +kernel
theorem dX11_puts_26 : decode cX11_puts 26 = .ok (.getfield 93, 3) := by decide +kernel
theorem dX11_puts_29 : decode cX11_puts 29 = .ok (.iload_n 1, 1) := by decide +kernel
theorem dX11_puts_30 : decode cX11_puts 30 = .ok (.iaload, 1) := by decide +kernel
theorem dX11_puts_31 : decode cX11_puts 31 = .ok (.if_icmp .ne 4, 3) := by decide +kernel
theorem dX11_puts_34 : decode cX11_puts 34 = .ok (.return_, 1) := by decide +kernel
theorem dX11_puts_35 : decode cX11_puts 35 = .ok (.aload_n 0, 1) := by decide +kernel
theorem dX11_puts_36 : decode cX11_puts 36 = .ok (.getfield 93, 3) := by decide +kernel
theorem dX11_puts_39 : decode cX11_puts 39 = .ok (.iload_n 1, 1) := by decide +kernel
theorem dX11_puts_40 : decode cX11_puts 40 = .ok (.dup2, 1) := by decide +kernel
theorem dX11_puts_41 : decode cX11_puts 41 = .ok (.iaload, 1) := by decide +kernel
theorem dX11_puts_42 : decode cX11_puts 42 = .ok (.iload_n 3, 1) := by decide +kernel
theorem dX11_puts_43 : decode cX11_puts 43 = .ok (.ior, 1) := by decide +kernel
theorem dX11_puts_44 : decode cX11_puts 44 = .ok (.iastore, 1) := by decide +kernel
theorem dX11_puts_45 : decode cX11_puts 45 = .ok (.aload_n 0, 1) := by decide +kernel
theorem dX11_puts_46 : decode cX11_puts 46 = .ok (.iconst 1, 1) := by decide +kernel
theorem dX11_puts_47 : decode cX11_puts 47 = .ok (.putfield 261, 3) := by decide +kernel
theorem dX11_puts_50 : decode cX11_puts 50 = .ok (.return_, 1) := by decide +kernel
theorem dX11_flows_0 : decode cX11_flows 0 = .ok (.aload_n 0, 1) := by decide +kernel
theorem dX11_flows_1 : decode cX11_flows 1 = .ok (.getfield 89, 3) := by decide +kernel
theorem dX11_flows_4 : decode cX11_flows 4 = .ok (.iload_n 1, 1) := by decide +kernel
theorem dX11_flows_5 : decode cX11_flows 5 = .ok (.laload, 1) := by decide +kernel
theorem dX11_flows_6 : decode cX11_flows 6 = .ok (.lload_n 2, 1) := by decide +kernel
theorem dX11_flows_7 : decode cX11_flows 7 = .ok (.lor, 1) := by decide +kernel
theorem dX11_flows_8 : decode cX11_flows 8 = .ok (.lstore 4, 2) := by decide +kernel
theorem dX11_flows_10 : decode cX11_flows 10 = .ok (.lload 4, 2) := by decide +kernel
theorem dX11_flows_12 : decode cX11_flows 12 = .ok (.aload_n 0, 1) := by decide +kernel
theorem dX11_flows_13 : decode cX11_flows 13 = .ok (.getfield 89, 3) := by decide +kernel
theorem dX11_flows_16 : decode cX11_flows 16 = .ok (.iload_n 1, 1) := by decide +kernel
theorem dX11_flows_17 : decode cX11_flows 17 = .ok (.laload, 1) := by decide +kernel
theorem dX11_flows_18 : decode cX11_flows 18 = .ok (.lcmp, 1) := by decide +kernel
theorem dX11_flows_19 : decode cX11_flows 19 = .ok (.ifCond .ne 4, 3) := by decide +kernel
theorem dX11_flows_22 : decode cX11_flows 22 = .ok (.return_, 1) := by decide +kernel
theorem dX11_flows_23 : decode cX11_flows 23 = .ok (.aload_n 0, 1) := by decide +kernel
theorem dX11_flows_24 : decode cX11_flows 24 = .ok (.getfield 89, 3) := by decide +kernel
theorem dX11_flows_27 : decode cX11_flows 27 = .ok (.iload_n 1, 1) := by decide +kernel
theorem dX11_flows_28 : decode cX11_flows 28 = .ok (.lload 4, 2) := by decide +kernel
theorem dX11_flows_30 : decode cX11_flows 30 = .ok (.lastore, 1) := by decide +kernel
theorem dX11_flows_31 : decode cX11_flows 31 = .ok (.aload_n 0, 1) := by decide +kernel
theorem dX11_flows_32 : decode cX11_flows 32 = .ok (.iconst 1, 1) := by decide +kernel
theorem dX11_flows_33 : decode cX11_flows 33 = .ok (.putfield 261, 3) := by decide +kernel
theorem dX11_flows_36 : decode cX11_flows 36 = .ok (.return_, 1) := by decide +kernel
theorem dX11_begins_0 : decode cX11_begins 0 = .ok (.ldc2_w 265, 3) := by decide +kernel
theorem dX11_begins_3 : decode cX11_begins 3 = .ok (.lstore_n 2, 1) := by decide +kernel
theorem dX11_begins_4 : decode cX11_begins 4 = .ok (.iconst 0, 1) := by decide +kernel
theorem dX11_begins_5 : decode cX11_begins 5 = .ok (.istore 4, 2) := by decide +kernel
theorem dX11_begins_7 : decode cX11_begins 7 = .ok (.iload 4, 2) := by decide +kernel
theorem dX11_begins_9 : decode cX11_begins 9 = .ok (.bipush 26, 2) := by decide +kernel
theorem dX11_begins_11 : decode cX11_begins 11 = .ok (.if_icmp .ge 17, 3) := by decide +kernel
theorem dX11_begins_14 : decode cX11_begins 14 = .ok (.lload_n 2, 1) := by decide +kernel
theorem dX11_begins_15 : decode cX11_begins 15 = .ok (.iload 4, 2) := by decide +kernel
theorem dX11_begins_17 : decode cX11_begins 17 = .ok (.iconst 1, 1) := by decide +kernel
theorem dX11_begins_18 : decode cX11_begins 18 = .ok (.invokestatic 267, 3) := by decide +kernel
theorem dX11_begins_21 : decode cX11_begins 21 = .ok (.lstore_n 2, 1) := by decide +kernel
theorem dX11_begins_22 : decode cX11_begins 22 = .ok (.iinc 4 1, 3) := by decide +kernel
theorem dX11_begins_25 : decode cX11_begins 25 = .ok (.goto (-18), 3) := by decide +kernel
theorem dX11_begins_28 : decode cX11_begins 28 = .ok (.lload_n 2, 1) := by decide +kernel
theorem dX11_begins_29 : decode cX11_begins 29 = .ok (.bipush 26, 2) := by decide +kernel
theorem dX11_begins_31 : decode cX11_begins 31 = .ok (.iconst 1, 1) := by decide +kernel
theorem dX11_begins_32 : decode cX11_begins 32 = .ok (.invokestatic 267, 3) := by decide +kernel
theorem dX11_begins_35 : decode cX11_begins 35 = .ok (.lstore_n 2, 1) := by decide +kernel
theorem dX11_begins_36 : decode cX11_begins 36 = .ok (.iconst 0, 1) := by decide +kernel
theorem dX11_begins_37 : decode cX11_begins 37 = .ok (.istore 4, 2) := by decide +kernel
theorem dX11_begins_39 : decode cX11_begins 39 = .ok (.iload 4, 2) := by decide +kernel
theorem dX11_begins_41 : decode cX11_begins 41 = .ok (.aload_n 0, 1) := by decide +kernel
theorem dX11_begins_42 : decode cX11_begins 42 = .ok (.getfield 35, 3) := by decide +kernel
theorem dX11_begins_45 : decode cX11_begins 45 = .ok (.iload_n 1, 1) := by decide +kernel
theorem dX11_begins_46 : decode cX11_begins 46 = .ok (.iaload, 1) := by decide +kernel
theorem dX11_begins_47 : decode cX11_begins 47 = .ok (.if_icmp .ge 46, 3) := by decide +kernel
theorem dX11_begins_50 : decode cX11_begins 50 = .ok (.aload_n 0, 1) := by decide +kernel
theorem dX11_begins_51 : decode cX11_begins 51 = .ok (.getfield 93, 3) := by decide +kernel
theorem dX11_begins_54 : decode cX11_begins 54 = .ok (.iconst 4, 1) := by decide +kernel
theorem dX11_begins_55 : decode cX11_begins 55 = .ok (.iload_n 1, 1) := by decide +kernel
theorem dX11_begins_56 : decode cX11_begins 56 = .ok (.imul, 1) := by decide +kernel
theorem dX11_begins_57 : decode cX11_begins 57 = .ok (.iload 4, 2) := by decide +kernel
theorem dX11_begins_59 : decode cX11_begins 59 = .ok (.iadd, 1) := by decide +kernel
theorem dX11_begins_60 : decode cX11_begins 60 = .ok (.iaload, 1) := by decide +kernel
theorem dX11_begins_61 : decode cX11_begins 61 = .ok (.istore 5, 2) := by decide +kernel
theorem dX11_begins_63 : decode cX11_begins 63 = .ok (.iload 5, 2) := by decide +kernel
theorem dX11_begins_65 : decode cX11_begins 65 = .ok (.ifCond .ne 4, 3) := by decide +kernel
theorem dX11_begins_68 : decode cX11_begins 68 = .ok (.return_, 1) := by decide +kernel
theorem dX11_begins_69 : decode cX11_begins 69 = .ok (.lload_n 2, 1) := by decide +kernel
theorem dX11_begins_70 : decode cX11_begins 70 = .ok (.aload_n 0, 1) := by decide +kernel
theorem dX11_begins_71 : decode cX11_begins 71 = .ok (.getfield 38, 3) := by decide +kernel
theorem dX11_begins_74 : decode cX11_begins 74 = .ok (.iconst 4, 1) := by decide +kernel
theorem dX11_begins_75 : decode cX11_begins 75 = .ok (.iload_n 1, 1) := by decide +kernel
theorem dX11_begins_76 : decode cX11_begins 76 = .ok (.imul, 1) := by decide +kernel
theorem dX11_begins_77 : decode cX11_begins 77 = .ok (.iload 4, 2) := by decide +kernel
theorem dX11_begins_79 : decode cX11_begins 79 = .ok (.iadd, 1) := by decide +kernel
theorem dX11_begins_80 : decode cX11_begins 80 = .ok (.iaload, 1) := by decide +kernel
theorem dX11_begins_81 : decode cX11_begins 81 = .ok (.iload 5, 2) := by decide +kernel
theorem dX11_begins_83 : decode cX11_begins 83 = .ok (.invokestatic 267, 3) := by decide +kernel
theorem dX11_begins_86 : decode cX11_begins 86 = .ok (.lstore_n 2, 1) := by decide +kernel
theorem dX11_begins_87 : decode cX11_begins 87 = .ok (.iinc 4 1, 3) := by decide +kernel
theorem dX11_begins_90 : decode cX11_begins 90 = .ok (.goto (-51), 3) := by decide +kernel
theorem dX11_begins_93 : decode cX11_begins 93 = .ok (.aload_n 0, 1) := by decide +kernel
theorem dX11_begins_94 : decode cX11_begins 94 = .ok (.aload_n 0, 1) := by decide +kernel
theorem dX11_begins_95 : decode cX11_begins 95 = .ok (.getfield 32, 3) := by decide +kernel
theorem dX11_begins_98 : decode cX11_begins 98 = .ok (.iload_n 1, 1) := by decide +kernel
theorem dX11_begins_99 : decode cX11_begins 99 = .ok (.iaload, 1) := by decide +kernel
theorem dX11_begins_100 : decode cX11_begins 100 = .ok (.lload_n 2, 1) := by decide +kernel
theorem dX11_begins_101 : decode cX11_begins 101 = .ok (.invokevirtual 271, 3) := by decide +kernel
theorem dX11_begins_104 : decode cX11_begins 104 = .ok (.return_, 1) := by decide +kernel
theorem dX11_reckons_0 : decode cX11_reckons 0 = .ok (.iconst 0, 1) := by decide +kernel
theorem dX11_reckons_1 : decode cX11_reckons 1 = .ok (.istore_n 1, 1) := by decide +kernel
theorem dX11_reckons_2 : decode cX11_reckons 2 = .ok (.iload_n 1, 1) := by decide +kernel
theorem dX11_reckons_3 : decode cX11_reckons 3 = .ok (.aload_n 0, 1) := by decide +kernel
theorem dX11_reckons_4 : decode cX11_reckons 4 = .ok (.getfield 251, 3) := by decide +kernel
theorem dX11_reckons_7 : decode cX11_reckons 7 = .ok (.if_icmp .ge 16, 3) := by decide +kernel
theorem dX11_reckons_10 : decode cX11_reckons 10 = .ok (.aload_n 0, 1) := by decide +kernel
theorem dX11_reckons_11 : decode cX11_reckons 11 = .ok (.getfield 89, 3) := by decide +kernel
theorem dX11_reckons_14 : decode cX11_reckons 14 = .ok (.iload_n 1, 1) := by decide +kernel
theorem dX11_reckons_15 : decode cX11_reckons 15 = .ok (.lconst 0, 1) := by decide +kernel
theorem dX11_reckons_16 : decode cX11_reckons 16 = .ok (.lastore, 1) := by decide +kernel
theorem dX11_reckons_17 : decode cX11_reckons 17 = .ok (.iinc 1 1, 3) := by decide +kernel
theorem dX11_reckons_20 : decode cX11_reckons 20 = .ok (.goto (-18), 3) := by decide +kernel
theorem dX11_reckons_23 : decode cX11_reckons 23 = .ok (.iconst 0, 1) := by decide +kernel
theorem dX11_reckons_24 : decode cX11_reckons 24 = .ok (.istore_n 1, 1) := by decide +kernel
theorem dX11_reckons_25 : decode cX11_reckons 25 = .ok (.iload_n 1, 1) := by decide +kernel
theorem dX11_reckons_26 : decode cX11_reckons 26 = .ok (.bipush 42, 2) := by decide +kernel
theorem dX11_reckons_28 : decode cX11_reckons 28 = .ok (.if_icmp .ge 16, 3) := by decide +kernel
theorem dX11_reckons_31 : decode cX11_reckons 31 = .ok (.aload_n 0, 1) := by decide +kernel
theorem dX11_reckons_32 : decode cX11_reckons 32 = .ok (.getfield 93, 3) := by decide +kernel
theorem dX11_reckons_35 : decode cX11_reckons 35 = .ok (.iload_n 1, 1) := by decide +kernel
theorem dX11_reckons_36 : decode cX11_reckons 36 = .ok (.iconst 0, 1) := by decide +kernel
theorem dX11_reckons_37 : decode cX11_reckons 37 = .ok (.iastore, 1) := by decide +kernel
theorem dX11_reckons_38 : decode cX11_reckons 38 = .ok (.iinc 1 1, 3) := by decide +kernel
theorem dX11_reckons_41 : decode cX11_reckons 41 = .ok (.goto (-16), 3) := by decide +kernel
theorem dX11_reckons_44 : decode cX11_reckons 44 = .ok (.iconst 0, 1) := by decide +kernel
theorem dX11_reckons_45 : decode cX11_reckons 45 = .ok (.istore_n 1, 1) := by decide +kernel
theorem dX11_reckons_46 : decode cX11_reckons 46 = .ok (.iload_n 1, 1) := by decide +kernel
theorem dX11_reckons_47 : decode cX11_reckons 47 = .ok (.bipush 25, 2) := by decide +kernel
theorem dX11_reckons_49 : decode cX11_reckons 49 = .ok (.if_icmp .ge 16, 3) := by decide +kernel
theorem dX11_reckons_52 : decode cX11_reckons 52 = .ok (.aload_n 0, 1) := by decide +kernel
theorem dX11_reckons_53 : decode cX11_reckons 53 = .ok (.getfield 100, 3) := by decide +kernel
theorem dX11_reckons_56 : decode cX11_reckons 56 = .ok (.iload_n 1, 1) := by decide +kernel
theorem dX11_reckons_57 : decode cX11_reckons 57 = .ok (.iconst 0, 1) := by decide +kernel
theorem dX11_reckons_58 : decode cX11_reckons 58 = .ok (.iastore, 1) := by decide +kernel
theorem dX11_reckons_59 : decode cX11_reckons 59 = .ok (.iinc 1 1, 3) := by decide +kernel
theorem dX11_reckons_62 : decode cX11_reckons 62 = .ok (.goto (-16), 3) := by decide +kernel
theorem dX11_reckons_65 : decode cX11_reckons 65 = .ok (.aload_n 0, 1) := by decide +kernel
theorem dX11_reckons_66 : decode cX11_reckons 66 = .ok (.aload_n 0, 1) := by decide +kernel
theorem dX11_reckons_67 : decode cX11_reckons 67 = .ok (.getfield 83, 3) := by decide +kernel
theorem dX11_reckons_70 : decode cX11_reckons 70 = .ok (.iconst (-1), 1) := by decide +kernel
theorem dX11_reckons_71 : decode cX11_reckons 71 = .ok (.if_icmp .eq 7, 3) := by decide +kernel
theorem dX11_reckons_74 : decode cX11_reckons 74 = .ok (.iconst 1, 1) := by decide +kernel
theorem dX11_reckons_75 : decode cX11_reckons 75 = .ok (.goto 4, 3) := by decide +kernel
theorem dX11_reckons_78 : decode cX11_reckons 78 = .ok (.iconst 0, 1) := by decide +kernel
theorem dX11_reckons_79 : decode cX11_reckons 79 = .ok (.putfield 261, 3) := by decide +kernel
theorem dX11_reckons_82 : decode cX11_reckons 82 = .ok (.aload_n 0, 1) := by decide +kernel
theorem dX11_reckons_83 : decode cX11_reckons 83 = .ok (.getfield 261, 3) := by decide +kernel
theorem dX11_reckons_86 : decode cX11_reckons 86 = .ok (.ifCond .eq 111, 3) := by decide +kernel
theorem dX11_reckons_89 : decode cX11_reckons 89 = .ok (.aload_n 0, 1) := by decide +kernel
theorem dX11_reckons_90 : decode cX11_reckons 90 = .ok (.iconst 0, 1) := by decide +kernel
theorem dX11_reckons_91 : decode cX11_reckons 91 = .ok (.putfield 261, 3) := by decide +kernel
theorem dX11_reckons_94 : decode cX11_reckons 94 = .ok (.iconst 0, 1) := by decide +kernel
theorem dX11_reckons_95 : decode cX11_reckons 95 = .ok (.istore_n 1, 1) := by decide +kernel
theorem dX11_reckons_96 : decode cX11_reckons 96 = .ok (.iload_n 1, 1) := by decide +kernel
theorem dX11_reckons_97 : decode cX11_reckons 97 = .ok (.aload_n 0, 1) := by decide +kernel
theorem dX11_reckons_98 : decode cX11_reckons 98 = .ok (.getfield 35, 3) := by decide +kernel
theorem dX11_reckons_101 : decode cX11_reckons 101 = .ok (.aload_n 0, 1) := by decide +kernel
theorem dX11_reckons_102 : decode cX11_reckons 102 = .ok (.getfield 83, 3) := by decide +kernel
theorem dX11_reckons_105 : decode cX11_reckons 105 = .ok (.iaload, 1) := by decide +kernel
theorem dX11_reckons_106 : decode cX11_reckons 106 = .ok (.if_icmp .ge 42, 3) := by decide +kernel
theorem dX11_reckons_109 : decode cX11_reckons 109 = .ok (.aload_n 0, 1) := by decide +kernel
theorem dX11_reckons_110 : decode cX11_reckons 110 = .ok (.iconst 4, 1) := by decide +kernel
theorem dX11_reckons_111 : decode cX11_reckons 111 = .ok (.aload_n 0, 1) := by decide +kernel
theorem dX11_reckons_112 : decode cX11_reckons 112 = .ok (.getfield 83, 3) := by decide +kernel
theorem dX11_reckons_115 : decode cX11_reckons 115 = .ok (.imul, 1) := by decide +kernel
theorem dX11_reckons_116 : decode cX11_reckons 116 = .ok (.iload_n 1, 1) := by decide +kernel
theorem dX11_reckons_117 : decode cX11_reckons 117 = .ok (.iadd, 1) := by decide +kernel
theorem dX11_reckons_118 : decode cX11_reckons 118 = .ok (.aload_n 0, 1) := by decide +kernel
theorem dX11_reckons_119 : decode cX11_reckons 119 = .ok (.getfield 86, 3) := by decide +kernel
theorem dX11_reckons_122 : decode cX11_reckons 122 = .ok (.iload_n 1, 1) := by decide +kernel
theorem dX11_reckons_123 : decode cX11_reckons 123 = .ok (.iaload, 1) := by decide +kernel
theorem dX11_reckons_124 : decode cX11_reckons 124 = .ok (.invokevirtual 275, 3) := by decide +kernel
theorem dX11_reckons_127 : decode cX11_reckons 127 = .ok (.aload_n 0, 1) := by decide +kernel
theorem dX11_reckons_128 : decode cX11_reckons 128 = .ok (.getfield 86, 3) := by decide +kernel
theorem dX11_reckons_131 : decode cX11_reckons 131 = .ok (.iload_n 1, 1) := by decide +kernel
theorem dX11_reckons_132 : decode cX11_reckons 132 = .ok (.iaload, 1) := by decide +kernel
theorem dX11_reckons_133 : decode cX11_reckons 133 = .ok (.iconst 2, 1) := by decide +kernel
theorem dX11_reckons_134 : decode cX11_reckons 134 = .ok (.iand, 1) := by decide +kernel
theorem dX11_reckons_135 : decode cX11_reckons 135 = .ok (.ifCond .eq 7, 3) := by decide +kernel
theorem dX11_reckons_138 : decode cX11_reckons 138 = .ok (.aload_n 0, 1) := by decide +kernel
theorem dX11_reckons_139 : decode cX11_reckons 139 = .ok (.invokevirtual 278, 3) := by decide +kernel
theorem dX11_reckons_142 : decode cX11_reckons 142 = .ok (.iinc 1 1, 3) := by decide +kernel
theorem dX11_reckons_145 : decode cX11_reckons 145 = .ok (.goto (-49), 3) := by decide +kernel
theorem dX11_reckons_148 : decode cX11_reckons 148 = .ok (.aload_n 0, 1) := by decide +kernel
theorem dX11_reckons_149 : decode cX11_reckons 149 = .ok (.aload_n 0, 1) := by decide +kernel
theorem dX11_reckons_150 : decode cX11_reckons 150 = .ok (.getfield 83, 3) := by decide +kernel
theorem dX11_reckons_153 : decode cX11_reckons 153 = .ok (.invokevirtual 281, 3) := by decide +kernel
theorem dX11_reckons_156 : decode cX11_reckons 156 = .ok (.iconst 0, 1) := by decide +kernel
theorem dX11_reckons_157 : decode cX11_reckons 157 = .ok (.istore_n 1, 1) := by decide +kernel
theorem dX11_reckons_158 : decode cX11_reckons 158 = .ok (.iload_n 1, 1) := by decide +kernel
theorem dX11_reckons_159 : decode cX11_reckons 159 = .ok (.aload_n 0, 1) := by decide +kernel
theorem dX11_reckons_160 : decode cX11_reckons 160 = .ok (.getfield 251, 3) := by decide +kernel
theorem dX11_reckons_163 : decode cX11_reckons 163 = .ok (.if_icmp .ge 31, 3) := by decide +kernel
theorem dX11_reckons_166 : decode cX11_reckons 166 = .ok (.aload_n 0, 1) := by decide +kernel
theorem dX11_reckons_167 : decode cX11_reckons 167 = .ok (.getfield 89, 3) := by decide +kernel
theorem dX11_reckons_170 : decode cX11_reckons 170 = .ok (.iload_n 1, 1) := by decide +kernel
theorem dX11_reckons_171 : decode cX11_reckons 171 = .ok (.laload, 1) := by decide +kernel
theorem dX11_reckons_172 : decode cX11_reckons 172 = .ok (.lconst 0, 1) := by decide +kernel
theorem dX11_reckons_173 : decode cX11_reckons 173 = .ok (.lcmp, 1) := by decide +kernel
theorem dX11_reckons_174 : decode cX11_reckons 174 = .ok (.ifCond .eq 14, 3) := by decide +kernel
theorem dX11_reckons_177 : decode cX11_reckons 177 = .ok (.aload_n 0, 1) := by decide +kernel
theorem dX11_reckons_178 : decode cX11_reckons 178 = .ok (.iload_n 1, 1) := by decide +kernel
theorem dX11_reckons_179 : decode cX11_reckons 179 = .ok (.aload_n 0, 1) := by decide +kernel
theorem dX11_reckons_180 : decode cX11_reckons 180 = .ok (.getfield 89, 3) := by decide +kernel
theorem dX11_reckons_183 : decode cX11_reckons 183 = .ok (.iload_n 1, 1) := by decide +kernel
theorem dX11_reckons_184 : decode cX11_reckons 184 = .ok (.laload, 1) := by decide +kernel
theorem dX11_reckons_185 : decode cX11_reckons 185 = .ok (.invokevirtual 284, 3) := by decide +kernel
theorem dX11_reckons_188 : decode cX11_reckons 188 = .ok (.iinc 1 1, 3) := by decide +kernel
theorem dX11_reckons_191 : decode cX11_reckons 191 = .ok (.goto (-33), 3) := by decide +kernel
theorem dX11_reckons_194 : decode cX11_reckons 194 = .ok (.goto (-112), 3) := by decide +kernel
theorem dX11_reckons_197 : decode cX11_reckons 197 = .ok (.return_, 1) := by decide +kernel
theorem dX11_putsThings_0 : decode cX11_putsThings 0 = .ok (.aload_n 0, 1) := by decide +kernel
theorem dX11_putsThings_1 : decode cX11_putsThings 1 = .ok (.bipush 40, 2) := by decide +kernel
theorem dX11_putsThings_3 : decode cX11_putsThings 3 = .ok (.iconst 2, 1) := by decide +kernel
theorem dX11_putsThings_4 : decode cX11_putsThings 4 = .ok (.invokevirtual 275, 3) := by decide +kernel
theorem dX11_putsThings_7 : decode cX11_putsThings 7 = .ok (.aload_n 0, 1) := by decide +kernel
theorem dX11_putsThings_8 : decode cX11_putsThings 8 = .ok (.bipush 41, 2) := by decide +kernel
theorem dX11_putsThings_10 : decode cX11_putsThings 10 = .ok (.iconst 2, 1) := by decide +kernel
theorem dX11_putsThings_11 : decode cX11_putsThings 11 = .ok (.invokevirtual 275, 3) := by decide +kernel
theorem dX11_putsThings_14 : decode cX11_putsThings 14 = .ok (.return_, 1) := by decide +kernel
theorem dX11_goes_0 : decode cX11_goes 0 = .ok (.aload_n 0, 1) := by decide +kernel
theorem dX11_goes_1 : decode cX11_goes 1 = .ok (.getfield 17, 3) := by decide +kernel
theorem dX11_goes_4 : decode cX11_goes 4 = .ok (.iload_n 1, 1) := by decide +kernel
theorem dX11_goes_5 : decode cX11_goes 5 = .ok (.iaload, 1) := by decide +kernel
theorem dX11_goes_6 : decode cX11_goes 6 = .ok (.tableswitch 394 0 13 #[70, 81, 98, 119, 168, 194, 266, 275, 301, 359, 394, 394, 394, 380], 70) := by decide +kernel
theorem dX11_goes_76 : decode cX11_goes 76 = .ok (.aload_n 0, 1) := by decide +kernel
theorem dX11_goes_77 : decode cX11_goes 77 = .ok (.iload_n 1, 1) := by decide +kernel
theorem dX11_goes_78 : decode cX11_goes 78 = .ok (.iconst 1, 1) := by decide +kernel
theorem dX11_goes_79 : decode cX11_goes 79 = .ok (.iadd, 1) := by decide +kernel
theorem dX11_goes_80 : decode cX11_goes 80 = .ok (.lload_n 2, 1) := by decide +kernel
theorem dX11_goes_81 : decode cX11_goes 81 = .ok (.invokevirtual 271, 3) := by decide +kernel
theorem dX11_goes_84 : decode cX11_goes 84 = .ok (.goto 322, 3) := by decide +kernel
theorem dX11_goes_87 : decode cX11_goes 87 = .ok (.aload_n 0, 1) := by decide +kernel
theorem dX11_goes_88 : decode cX11_goes 88 = .ok (.iload_n 1, 1) := by decide +kernel
theorem dX11_goes_89 : decode cX11_goes 89 = .ok (.iconst 1, 1) := by decide +kernel
theorem dX11_goes_90 : decode cX11_goes 90 = .ok (.iadd, 1) := by decide +kernel
theorem dX11_goes_91 : decode cX11_goes 91 = .ok (.lload_n 2, 1) := by decide +kernel
theorem dX11_goes_92 : decode cX11_goes 92 = .ok (.bipush 26, 2) := by decide +kernel
theorem dX11_goes_94 : decode cX11_goes 94 = .ok (.iconst 1, 1) := by decide +kernel
theorem dX11_goes_95 : decode cX11_goes 95 = .ok (.invokestatic 267, 3) := by decide +kernel
theorem dX11_goes_98 : decode cX11_goes 98 = .ok (.invokevirtual 271, 3) := by decide +kernel
theorem dX11_goes_101 : decode cX11_goes 101 = .ok (.goto 305, 3) := by decide +kernel
theorem dX11_goes_104 : decode cX11_goes 104 = .ok (.aload_n 0, 1) := by decide +kernel
theorem dX11_goes_105 : decode cX11_goes 105 = .ok (.invokevirtual 278, 3) := by decide +kernel
theorem dX11_goes_108 : decode cX11_goes 108 = .ok (.aload_n 0, 1) := by decide +kernel
theorem dX11_goes_109 : decode cX11_goes 109 = .ok (.iload_n 1, 1) := by decide +kernel
theorem dX11_goes_110 : decode cX11_goes 110 = .ok (.iconst 1, 1) := by decide +kernel
theorem dX11_goes_111 : decode cX11_goes 111 = .ok (.iadd, 1) := by decide +kernel
theorem dX11_goes_112 : decode cX11_goes 112 = .ok (.lload_n 2, 1) := by decide +kernel
theorem dX11_goes_113 : decode cX11_goes 113 = .ok (.bipush 26, 2) := by decide +kernel
theorem dX11_goes_115 : decode cX11_goes 115 = .ok (.iconst 3, 1) := by decide +kernel
theorem dX11_goes_116 : decode cX11_goes 116 = .ok (.invokestatic 267, 3) := by decide +kernel
theorem dX11_goes_119 : decode cX11_goes 119 = .ok (.invokevirtual 271, 3) := by decide +kernel
theorem dX11_goes_122 : decode cX11_goes 122 = .ok (.goto 284, 3) := by decide +kernel
theorem dX11_goes_125 : decode cX11_goes 125 = .ok (.aload_n 0, 1) := by decide +kernel
theorem dX11_goes_126 : decode cX11_goes 126 = .ok (.bipush 40, 2) := by decide +kernel
theorem dX11_goes_128 : decode cX11_goes 128 = .ok (.lload_n 2, 1) := by decide +kernel
theorem dX11_goes_129 : decode cX11_goes 129 = .ok (.aload_n 0, 1) := by decide +kernel
theorem dX11_goes_130 : decode cX11_goes 130 = .ok (.getfield 20, 3) := by decide +kernel
theorem dX11_goes_133 : decode cX11_goes 133 = .ok (.iload_n 1, 1) := by decide +kernel
theorem dX11_goes_134 : decode cX11_goes 134 = .ok (.iaload, 1) := by decide +kernel
theorem dX11_goes_135 : decode cX11_goes 135 = .ok (.invokestatic 287, 3) := by decide +kernel
theorem dX11_goes_138 : decode cX11_goes 138 = .ok (.invokevirtual 275, 3) := by decide +kernel
theorem dX11_goes_141 : decode cX11_goes 141 = .ok (.aload_n 0, 1) := by decide +kernel
theorem dX11_goes_142 : decode cX11_goes 142 = .ok (.bipush 41, 2) := by decide +kernel
theorem dX11_goes_144 : decode cX11_goes 144 = .ok (.lload_n 2, 1) := by decide +kernel
theorem dX11_goes_145 : decode cX11_goes 145 = .ok (.aload_n 0, 1) := by decide +kernel
theorem dX11_goes_146 : decode cX11_goes 146 = .ok (.getfield 23, 3) := by decide +kernel
theorem dX11_goes_149 : decode cX11_goes 149 = .ok (.iload_n 1, 1) := by decide +kernel
theorem dX11_goes_150 : decode cX11_goes 150 = .ok (.iaload, 1) := by decide +kernel
theorem dX11_goes_151 : decode cX11_goes 151 = .ok (.invokestatic 287, 3) := by decide +kernel
theorem dX11_goes_154 : decode cX11_goes 154 = .ok (.invokevirtual 275, 3) := by decide +kernel
theorem dX11_goes_157 : decode cX11_goes 157 = .ok (.aload_n 0, 1) := by decide +kernel
theorem dX11_goes_158 : decode cX11_goes 158 = .ok (.iload_n 1, 1) := by decide +kernel
theorem dX11_goes_159 : decode cX11_goes 159 = .ok (.iconst 1, 1) := by decide +kernel
theorem dX11_goes_160 : decode cX11_goes 160 = .ok (.iadd, 1) := by decide +kernel
theorem dX11_goes_161 : decode cX11_goes 161 = .ok (.lload_n 2, 1) := by decide +kernel
theorem dX11_goes_162 : decode cX11_goes 162 = .ok (.bipush 26, 2) := by decide +kernel
theorem dX11_goes_164 : decode cX11_goes 164 = .ok (.iconst 2, 1) := by decide +kernel
theorem dX11_goes_165 : decode cX11_goes 165 = .ok (.invokestatic 267, 3) := by decide +kernel
theorem dX11_goes_168 : decode cX11_goes 168 = .ok (.invokevirtual 271, 3) := by decide +kernel
theorem dX11_goes_171 : decode cX11_goes 171 = .ok (.goto 235, 3) := by decide +kernel
theorem dX11_goes_174 : decode cX11_goes 174 = .ok (.aload_n 0, 1) := by decide +kernel
theorem dX11_goes_175 : decode cX11_goes 175 = .ok (.iload_n 1, 1) := by decide +kernel
theorem dX11_goes_176 : decode cX11_goes 176 = .ok (.iconst 1, 1) := by decide +kernel
theorem dX11_goes_177 : decode cX11_goes 177 = .ok (.iadd, 1) := by decide +kernel
theorem dX11_goes_178 : decode cX11_goes 178 = .ok (.lload_n 2, 1) := by decide +kernel
theorem dX11_goes_179 : decode cX11_goes 179 = .ok (.bipush 26, 2) := by decide +kernel
theorem dX11_goes_181 : decode cX11_goes 181 = .ok (.lload_n 2, 1) := by decide +kernel
theorem dX11_goes_182 : decode cX11_goes 182 = .ok (.aload_n 0, 1) := by decide +kernel
theorem dX11_goes_183 : decode cX11_goes 183 = .ok (.getfield 20, 3) := by decide +kernel
theorem dX11_goes_186 : decode cX11_goes 186 = .ok (.iload_n 1, 1) := by decide +kernel
theorem dX11_goes_187 : decode cX11_goes 187 = .ok (.iaload, 1) := by decide +kernel
theorem dX11_goes_188 : decode cX11_goes 188 = .ok (.invokestatic 287, 3) := by decide +kernel
theorem dX11_goes_191 : decode cX11_goes 191 = .ok (.invokestatic 267, 3) := by decide +kernel
theorem dX11_goes_194 : decode cX11_goes 194 = .ok (.invokevirtual 271, 3) := by decide +kernel
theorem dX11_goes_197 : decode cX11_goes 197 = .ok (.goto 209, 3) := by decide +kernel
theorem dX11_goes_200 : decode cX11_goes 200 = .ok (.lload_n 2, 1) := by decide +kernel
theorem dX11_goes_201 : decode cX11_goes 201 = .ok (.aload_n 0, 1) := by decide +kernel
theorem dX11_goes_202 : decode cX11_goes 202 = .ok (.getfield 20, 3) := by decide +kernel
theorem dX11_goes_205 : decode cX11_goes 205 = .ok (.iload_n 1, 1) := by decide +kernel
theorem dX11_goes_206 : decode cX11_goes 206 = .ok (.iaload, 1) := by decide +kernel
theorem dX11_goes_207 : decode cX11_goes 207 = .ok (.invokestatic 287, 3) := by decide +kernel
theorem dX11_goes_210 : decode cX11_goes 210 = .ok (.iconst 2, 1) := by decide +kernel
theorem dX11_goes_211 : decode cX11_goes 211 = .ok (.iand, 1) := by decide +kernel
theorem dX11_goes_212 : decode cX11_goes 212 = .ok (.ifCond .eq 194, 3) := by decide +kernel
theorem dX11_goes_215 : decode cX11_goes 215 = .ok (.aload_n 0, 1) := by decide +kernel
theorem dX11_goes_216 : decode cX11_goes 216 = .ok (.getfield 93, 3) := by decide +kernel
theorem dX11_goes_219 : decode cX11_goes 219 = .ok (.bipush 40, 2) := by decide +kernel
theorem dX11_goes_221 : decode cX11_goes 221 = .ok (.aload_n 0, 1) := by decide +kernel
theorem dX11_goes_222 : decode cX11_goes 222 = .ok (.getfield 23, 3) := by decide +kernel
theorem dX11_goes_225 : decode cX11_goes 225 = .ok (.iload_n 1, 1) := by decide +kernel
theorem dX11_goes_226 : decode cX11_goes 226 = .ok (.iaload, 1) := by decide +kernel
theorem dX11_goes_227 : decode cX11_goes 227 = .ok (.iadd, 1) := by decide +kernel
theorem dX11_goes_228 : decode cX11_goes 228 = .ok (.iaload, 1) := by decide +kernel
theorem dX11_goes_229 : decode cX11_goes 229 = .ok (.ifCond .eq 177, 3) := by decide +kernel
theorem dX11_goes_232 : decode cX11_goes 232 = .ok (.aload_n 0, 1) := by decide +kernel
theorem dX11_goes_233 : decode cX11_goes 233 = .ok (.iload_n 1, 1) := by decide +kernel
theorem dX11_goes_234 : decode cX11_goes 234 = .ok (.iconst 1, 1) := by decide +kernel
theorem dX11_goes_235 : decode cX11_goes 235 = .ok (.iadd, 1) := by decide +kernel
theorem dX11_goes_236 : decode cX11_goes 236 = .ok (.lload_n 2, 1) := by decide +kernel
theorem dX11_goes_237 : decode cX11_goes 237 = .ok (.aload_n 0, 1) := by decide +kernel
theorem dX11_goes_238 : decode cX11_goes 238 = .ok (.getfield 20, 3) := by decide +kernel
theorem dX11_goes_241 : decode cX11_goes 241 = .ok (.iload_n 1, 1) := by decide +kernel
theorem dX11_goes_242 : decode cX11_goes 242 = .ok (.iaload, 1) := by decide +kernel
theorem dX11_goes_243 : decode cX11_goes 243 = .ok (.iconst 2, 1) := by decide +kernel
theorem dX11_goes_244 : decode cX11_goes 244 = .ok (.invokestatic 267, 3) := by decide +kernel
theorem dX11_goes_247 : decode cX11_goes 247 = .ok (.bipush 26, 2) := by decide +kernel
theorem dX11_goes_249 : decode cX11_goes 249 = .ok (.aload_n 0, 1) := by decide +kernel
theorem dX11_goes_250 : decode cX11_goes 250 = .ok (.getfield 93, 3) := by decide +kernel
theorem dX11_goes_253 : decode cX11_goes 253 = .ok (.bipush 40, 2) := by decide +kernel
theorem dX11_goes_255 : decode cX11_goes 255 = .ok (.aload_n 0, 1) := by decide +kernel
theorem dX11_goes_256 : decode cX11_goes 256 = .ok (.getfield 23, 3) := by decide +kernel
theorem dX11_goes_259 : decode cX11_goes 259 = .ok (.iload_n 1, 1) := by decide +kernel
theorem dX11_goes_260 : decode cX11_goes 260 = .ok (.iaload, 1) := by decide +kernel
theorem dX11_goes_261 : decode cX11_goes 261 = .ok (.iadd, 1) := by decide +kernel
theorem dX11_goes_262 : decode cX11_goes 262 = .ok (.iaload, 1) := by decide +kernel
theorem dX11_goes_263 : decode cX11_goes 263 = .ok (.invokestatic 267, 3) := by decide +kernel
theorem dX11_goes_266 : decode cX11_goes 266 = .ok (.invokevirtual 271, 3) := by decide +kernel
theorem dX11_goes_269 : decode cX11_goes 269 = .ok (.goto 137, 3) := by decide +kernel
theorem dX11_goes_272 : decode cX11_goes 272 = .ok (.aload_n 0, 1) := by decide +kernel
theorem dX11_goes_273 : decode cX11_goes 273 = .ok (.iload_n 1, 1) := by decide +kernel
theorem dX11_goes_274 : decode cX11_goes 274 = .ok (.lload_n 2, 1) := by decide +kernel
theorem dX11_goes_275 : decode cX11_goes 275 = .ok (.invokevirtual 291, 3) := by decide +kernel
theorem dX11_goes_278 : decode cX11_goes 278 = .ok (.goto 128, 3) := by decide +kernel
theorem dX11_goes_281 : decode cX11_goes 281 = .ok (.aload_n 0, 1) := by decide +kernel
theorem dX11_goes_282 : decode cX11_goes 282 = .ok (.iload_n 1, 1) := by decide +kernel
theorem dX11_goes_283 : decode cX11_goes 283 = .ok (.iconst 1, 1) := by decide +kernel
theorem dX11_goes_284 : decode cX11_goes 284 = .ok (.iadd, 1) := by decide +kernel
theorem dX11_goes_285 : decode cX11_goes 285 = .ok (.lload_n 2, 1) := by decide +kernel
theorem dX11_goes_286 : decode cX11_goes 286 = .ok (.aload_n 0, 1) := by decide +kernel
theorem dX11_goes_287 : decode cX11_goes 287 = .ok (.getfield 20, 3) := by decide +kernel
theorem dX11_goes_290 : decode cX11_goes 290 = .ok (.iload_n 1, 1) := by decide +kernel
theorem dX11_goes_291 : decode cX11_goes 291 = .ok (.iaload, 1) := by decide +kernel
theorem dX11_goes_292 : decode cX11_goes 292 = .ok (.lload_n 2, 1) := by decide +kernel
theorem dX11_goes_293 : decode cX11_goes 293 = .ok (.bipush 26, 2) := by decide +kernel
theorem dX11_goes_295 : decode cX11_goes 295 = .ok (.invokestatic 287, 3) := by decide +kernel
theorem dX11_goes_298 : decode cX11_goes 298 = .ok (.invokestatic 267, 3) := by decide +kernel
theorem dX11_goes_301 : decode cX11_goes 301 = .ok (.invokevirtual 271, 3) := by decide +kernel
theorem dX11_goes_304 : decode cX11_goes 304 = .ok (.goto 102, 3) := by decide +kernel
theorem dX11_goes_307 : decode cX11_goes 307 = .ok (.lload_n 2, 1) := by decide +kernel
theorem dX11_goes_308 : decode cX11_goes 308 = .ok (.aload_n 0, 1) := by decide +kernel
theorem dX11_goes_309 : decode cX11_goes 309 = .ok (.getfield 20, 3) := by decide +kernel
theorem dX11_goes_312 : decode cX11_goes 312 = .ok (.iload_n 1, 1) := by decide +kernel
theorem dX11_goes_313 : decode cX11_goes 313 = .ok (.iaload, 1) := by decide +kernel
theorem dX11_goes_314 : decode cX11_goes 314 = .ok (.invokestatic 287, 3) := by decide +kernel
theorem dX11_goes_317 : decode cX11_goes 317 = .ok (.iconst 2, 1) := by decide +kernel
theorem dX11_goes_318 : decode cX11_goes 318 = .ok (.iand, 1) := by decide +kernel
theorem dX11_goes_319 : decode cX11_goes 319 = .ok (.ifCond .ne 6, 3) := by decide +kernel
theorem dX11_goes_322 : decode cX11_goes 322 = .ok (.goto 84, 3) := by decide +kernel
theorem dX11_goes_325 : decode cX11_goes 325 = .ok (.aload_n 0, 1) := by decide +kernel
theorem dX11_goes_326 : decode cX11_goes 326 = .ok (.bipush 40, 2) := by decide +kernel
theorem dX11_goes_328 : decode cX11_goes 328 = .ok (.aload_n 0, 1) := by decide +kernel
theorem dX11_goes_329 : decode cX11_goes 329 = .ok (.getfield 23, 3) := by decide +kernel
theorem dX11_goes_332 : decode cX11_goes 332 = .ok (.iload_n 1, 1) := by decide +kernel
theorem dX11_goes_333 : decode cX11_goes 333 = .ok (.iaload, 1) := by decide +kernel
theorem dX11_goes_334 : decode cX11_goes 334 = .ok (.iadd, 1) := by decide +kernel
theorem dX11_goes_335 : decode cX11_goes 335 = .ok (.lload_n 2, 1) := by decide +kernel
theorem dX11_goes_336 : decode cX11_goes 336 = .ok (.bipush 26, 2) := by decide +kernel
theorem dX11_goes_338 : decode cX11_goes 338 = .ok (.invokestatic 287, 3) := by decide +kernel
theorem dX11_goes_341 : decode cX11_goes 341 = .ok (.invokevirtual 275, 3) := by decide +kernel
theorem dX11_goes_344 : decode cX11_goes 344 = .ok (.aload_n 0, 1) := by decide +kernel
theorem dX11_goes_345 : decode cX11_goes 345 = .ok (.iload_n 1, 1) := by decide +kernel
theorem dX11_goes_346 : decode cX11_goes 346 = .ok (.iconst 1, 1) := by decide +kernel
theorem dX11_goes_347 : decode cX11_goes 347 = .ok (.iadd, 1) := by decide +kernel
theorem dX11_goes_348 : decode cX11_goes 348 = .ok (.lload_n 2, 1) := by decide +kernel
theorem dX11_goes_349 : decode cX11_goes 349 = .ok (.aload_n 0, 1) := by decide +kernel
theorem dX11_goes_350 : decode cX11_goes 350 = .ok (.getfield 20, 3) := by decide +kernel
theorem dX11_goes_353 : decode cX11_goes 353 = .ok (.iload_n 1, 1) := by decide +kernel
theorem dX11_goes_354 : decode cX11_goes 354 = .ok (.iaload, 1) := by decide +kernel
theorem dX11_goes_355 : decode cX11_goes 355 = .ok (.iconst 2, 1) := by decide +kernel
theorem dX11_goes_356 : decode cX11_goes 356 = .ok (.invokestatic 267, 3) := by decide +kernel
theorem dX11_goes_359 : decode cX11_goes 359 = .ok (.invokevirtual 271, 3) := by decide +kernel
theorem dX11_goes_362 : decode cX11_goes 362 = .ok (.goto 44, 3) := by decide +kernel
theorem dX11_goes_365 : decode cX11_goes 365 = .ok (.aload_n 0, 1) := by decide +kernel
theorem dX11_goes_366 : decode cX11_goes 366 = .ok (.bipush 32, 2) := by decide +kernel
theorem dX11_goes_368 : decode cX11_goes 368 = .ok (.aload_n 0, 1) := by decide +kernel
theorem dX11_goes_369 : decode cX11_goes 369 = .ok (.iload_n 1, 1) := by decide +kernel
theorem dX11_goes_370 : decode cX11_goes 370 = .ok (.invokevirtual 293, 3) := by decide +kernel
theorem dX11_goes_373 : decode cX11_goes 373 = .ok (.iadd, 1) := by decide +kernel
theorem dX11_goes_374 : decode cX11_goes 374 = .ok (.lload_n 2, 1) := by decide +kernel
theorem dX11_goes_375 : decode cX11_goes 375 = .ok (.bipush 26, 2) := by decide +kernel
theorem dX11_goes_377 : decode cX11_goes 377 = .ok (.invokestatic 287, 3) := by decide +kernel
theorem dX11_goes_380 : decode cX11_goes 380 = .ok (.invokevirtual 275, 3) := by decide +kernel
theorem dX11_goes_383 : decode cX11_goes 383 = .ok (.goto 23, 3) := by decide +kernel
theorem dX11_goes_386 : decode cX11_goes 386 = .ok (.aload_n 0, 1) := by decide +kernel
theorem dX11_goes_387 : decode cX11_goes 387 = .ok (.aload_n 0, 1) := by decide +kernel
theorem dX11_goes_388 : decode cX11_goes 388 = .ok (.getfield 20, 3) := by decide +kernel
theorem dX11_goes_391 : decode cX11_goes 391 = .ok (.iload_n 1, 1) := by decide +kernel
theorem dX11_goes_392 : decode cX11_goes 392 = .ok (.iaload, 1) := by decide +kernel
theorem dX11_goes_393 : decode cX11_goes 393 = .ok (.lload_n 2, 1) := by decide +kernel
theorem dX11_goes_394 : decode cX11_goes 394 = .ok (.invokevirtual 271, 3) := by decide +kernel
theorem dX11_goes_397 : decode cX11_goes 397 = .ok (.goto 9, 3) := by decide +kernel
theorem dX11_goes_400 : decode cX11_goes 400 = .ok (.aload_n 0, 1) := by decide +kernel
theorem dX11_goes_401 : decode cX11_goes 401 = .ok (.iload_n 1, 1) := by decide +kernel
theorem dX11_goes_402 : decode cX11_goes 402 = .ok (.lload_n 2, 1) := by decide +kernel
theorem dX11_goes_403 : decode cX11_goes 403 = .ok (.invokevirtual 296, 3) := by decide +kernel
theorem dX11_goes_406 : decode cX11_goes 406 = .ok (.return_, 1) := by decide +kernel
theorem dX11_routineAt_0 : decode cX11_routineAt 0 = .ok (.iconst (-1), 1) := by decide +kernel
theorem dX11_routineAt_1 : decode cX11_routineAt 1 = .ok (.istore_n 2, 1) := by decide +kernel
theorem dX11_routineAt_2 : decode cX11_routineAt 2 = .ok (.iconst 0, 1) := by decide +kernel
theorem dX11_routineAt_3 : decode cX11_routineAt 3 = .ok (.istore_n 3, 1) := by decide +kernel
theorem dX11_routineAt_4 : decode cX11_routineAt 4 = .ok (.iload_n 3, 1) := by decide +kernel
theorem dX11_routineAt_5 : decode cX11_routineAt 5 = .ok (.bipush 8, 2) := by decide +kernel
theorem dX11_routineAt_7 : decode cX11_routineAt 7 = .ok (.if_icmp .ge 51, 3) := by decide +kernel
theorem dX11_routineAt_10 : decode cX11_routineAt 10 = .ok (.aload_n 0, 1) := by decide +kernel
theorem dX11_routineAt_11 : decode cX11_routineAt 11 = .ok (.getfield 32, 3) := by decide +kernel
theorem dX11_routineAt_14 : decode cX11_routineAt 14 = .ok (.iload_n 3, 1) := by decide +kernel
theorem dX11_routineAt_15 : decode cX11_routineAt 15 = .ok (.iaload, 1) := by decide +kernel
theorem dX11_routineAt_16 : decode cX11_routineAt 16 = .ok (.iconst (-1), 1) := by decide +kernel
theorem dX11_routineAt_17 : decode cX11_routineAt 17 = .ok (.if_icmp .eq 35, 3) := by decide +kernel
theorem dX11_routineAt_20 : decode cX11_routineAt 20 = .ok (.aload_n 0, 1) := by decide +kernel
theorem dX11_routineAt_21 : decode cX11_routineAt 21 = .ok (.getfield 32, 3) := by decide +kernel
theorem dX11_routineAt_24 : decode cX11_routineAt 24 = .ok (.iload_n 3, 1) := by decide +kernel
theorem dX11_routineAt_25 : decode cX11_routineAt 25 = .ok (.iaload, 1) := by decide +kernel
theorem dX11_routineAt_26 : decode cX11_routineAt 26 = .ok (.iload_n 1, 1) := by decide +kernel
theorem dX11_routineAt_27 : decode cX11_routineAt 27 = .ok (.if_icmp .gt 25, 3) := by decide +kernel
theorem dX11_routineAt_30 : decode cX11_routineAt 30 = .ok (.iload_n 2, 1) := by decide +kernel
theorem dX11_routineAt_31 : decode cX11_routineAt 31 = .ok (.iconst (-1), 1) := by decide +kernel
theorem dX11_routineAt_32 : decode cX11_routineAt 32 = .ok (.if_icmp .eq 18, 3) := by decide +kernel
theorem dX11_routineAt_35 : decode cX11_routineAt 35 = .ok (.aload_n 0, 1) := by decide +kernel
theorem dX11_routineAt_36 : decode cX11_routineAt 36 = .ok (.getfield 32, 3) := by decide +kernel
theorem dX11_routineAt_39 : decode cX11_routineAt 39 = .ok (.iload_n 3, 1) := by decide +kernel
theorem dX11_routineAt_40 : decode cX11_routineAt 40 = .ok (.iaload, 1) := by decide +kernel
theorem dX11_routineAt_41 : decode cX11_routineAt 41 = .ok (.aload_n 0, 1) := by decide +kernel
theorem dX11_routineAt_42 : decode cX11_routineAt 42 = .ok (.getfield 32, 3) := by decide +kernel
theorem dX11_routineAt_45 : decode cX11_routineAt 45 = .ok (.iload_n 2, 1) := by decide +kernel
theorem dX11_routineAt_46 : decode cX11_routineAt 46 = .ok (.iaload, 1) := by decide +kernel
theorem dX11_routineAt_47 : decode cX11_routineAt 47 = .ok (.if_icmp .le 5, 3) := by decide +kernel
theorem dX11_routineAt_50 : decode cX11_routineAt 50 = .ok (.iload_n 3, 1) := by decide +kernel
theorem dX11_routineAt_51 : decode cX11_routineAt 51 = .ok (.istore_n 2, 1) := by decide +kernel
theorem dX11_routineAt_52 : decode cX11_routineAt 52 = .ok (.iinc 3 1, 3) := by decide +kernel
theorem dX11_routineAt_55 : decode cX11_routineAt 55 = .ok (.goto (-51), 3) := by decide +kernel
theorem dX11_routineAt_58 : decode cX11_routineAt 58 = .ok (.iload_n 2, 1) := by decide +kernel
theorem dX11_routineAt_59 : decode cX11_routineAt 59 = .ok (.ireturn, 1) := by decide +kernel
theorem dX11_calls_0 : decode cX11_calls 0 = .ok (.aload_n 0, 1) := by decide +kernel
theorem dX11_calls_1 : decode cX11_calls 1 = .ok (.getfield 20, 3) := by decide +kernel
theorem dX11_calls_4 : decode cX11_calls 4 = .ok (.iload_n 1, 1) := by decide +kernel
theorem dX11_calls_5 : decode cX11_calls 5 = .ok (.iaload, 1) := by decide +kernel
theorem dX11_calls_6 : decode cX11_calls 6 = .ok (.istore 4, 2) := by decide +kernel
theorem dX11_calls_8 : decode cX11_calls 8 = .ok (.iconst 0, 1) := by decide +kernel
theorem dX11_calls_9 : decode cX11_calls 9 = .ok (.istore 5, 2) := by decide +kernel
theorem dX11_calls_11 : decode cX11_calls 11 = .ok (.iload 5, 2) := by decide +kernel
theorem dX11_calls_13 : decode cX11_calls 13 = .ok (.aload_n 0, 1) := by decide +kernel
theorem dX11_calls_14 : decode cX11_calls 14 = .ok (.getfield 23, 3) := by decide +kernel
theorem dX11_calls_17 : decode cX11_calls 17 = .ok (.iload_n 1, 1) := by decide +kernel
theorem dX11_calls_18 : decode cX11_calls 18 = .ok (.iaload, 1) := by decide +kernel
theorem dX11_calls_19 : decode cX11_calls 19 = .ok (.if_icmp .ge 38, 3) := by decide +kernel
theorem dX11_calls_22 : decode cX11_calls 22 = .ok (.aload_n 0, 1) := by decide +kernel
theorem dX11_calls_23 : decode cX11_calls 23 = .ok (.iconst 4, 1) := by decide +kernel
theorem dX11_calls_24 : decode cX11_calls 24 = .ok (.iload 4, 2) := by decide +kernel
theorem dX11_calls_26 : decode cX11_calls 26 = .ok (.imul, 1) := by decide +kernel
theorem dX11_calls_27 : decode cX11_calls 27 = .ok (.iload 5, 2) := by decide +kernel
theorem dX11_calls_29 : decode cX11_calls 29 = .ok (.iadd, 1) := by decide +kernel
theorem dX11_calls_30 : decode cX11_calls 30 = .ok (.lload_n 2, 1) := by decide +kernel
theorem dX11_calls_31 : decode cX11_calls 31 = .ok (.aload_n 0, 1) := by decide +kernel
theorem dX11_calls_32 : decode cX11_calls 32 = .ok (.getfield 29, 3) := by decide +kernel
theorem dX11_calls_35 : decode cX11_calls 35 = .ok (.iload_n 1, 1) := by decide +kernel
theorem dX11_calls_36 : decode cX11_calls 36 = .ok (.iaload, 1) := by decide +kernel
theorem dX11_calls_37 : decode cX11_calls 37 = .ok (.iconst 5, 1) := by decide +kernel
theorem dX11_calls_38 : decode cX11_calls 38 = .ok (.iload 5, 2) := by decide +kernel
theorem dX11_calls_40 : decode cX11_calls 40 = .ok (.imul, 1) := by decide +kernel
theorem dX11_calls_41 : decode cX11_calls 41 = .ok (.ishr, 1) := by decide +kernel
theorem dX11_calls_42 : decode cX11_calls 42 = .ok (.bipush 31, 2) := by decide +kernel
theorem dX11_calls_44 : decode cX11_calls 44 = .ok (.iand, 1) := by decide +kernel
theorem dX11_calls_45 : decode cX11_calls 45 = .ok (.invokestatic 287, 3) := by decide +kernel
theorem dX11_calls_48 : decode cX11_calls 48 = .ok (.invokevirtual 275, 3) := by decide +kernel
theorem dX11_calls_51 : decode cX11_calls 51 = .ok (.iinc 5 1, 3) := by decide +kernel
theorem dX11_calls_54 : decode cX11_calls 54 = .ok (.goto (-43), 3) := by decide +kernel
theorem dX11_calls_57 : decode cX11_calls 57 = .ok (.aload_n 0, 1) := by decide +kernel
theorem dX11_calls_58 : decode cX11_calls 58 = .ok (.iload 4, 2) := by decide +kernel
theorem dX11_calls_60 : decode cX11_calls 60 = .ok (.invokevirtual 281, 3) := by decide +kernel
theorem dX11_calls_63 : decode cX11_calls 63 = .ok (.aload_n 0, 1) := by decide +kernel
theorem dX11_calls_64 : decode cX11_calls 64 = .ok (.getfield 93, 3) := by decide +kernel
theorem dX11_calls_67 : decode cX11_calls 67 = .ok (.bipush 32, 2) := by decide +kernel
theorem dX11_calls_69 : decode cX11_calls 69 = .ok (.iload 4, 2) := by decide +kernel
theorem dX11_calls_71 : decode cX11_calls 71 = .ok (.iadd, 1) := by decide +kernel
theorem dX11_calls_72 : decode cX11_calls 72 = .ok (.iaload, 1) := by decide +kernel
theorem dX11_calls_73 : decode cX11_calls 73 = .ok (.ifCond .eq 26, 3) := by decide +kernel
theorem dX11_calls_76 : decode cX11_calls 76 = .ok (.aload_n 0, 1) := by decide +kernel
theorem dX11_calls_77 : decode cX11_calls 77 = .ok (.iload_n 1, 1) := by decide +kernel
theorem dX11_calls_78 : decode cX11_calls 78 = .ok (.iconst 1, 1) := by decide +kernel
theorem dX11_calls_79 : decode cX11_calls 79 = .ok (.iadd, 1) := by decide +kernel
theorem dX11_calls_80 : decode cX11_calls 80 = .ok (.lload_n 2, 1) := by decide +kernel
theorem dX11_calls_81 : decode cX11_calls 81 = .ok (.bipush 26, 2) := by decide +kernel
theorem dX11_calls_83 : decode cX11_calls 83 = .ok (.aload_n 0, 1) := by decide +kernel
theorem dX11_calls_84 : decode cX11_calls 84 = .ok (.getfield 93, 3) := by decide +kernel
theorem dX11_calls_87 : decode cX11_calls 87 = .ok (.bipush 32, 2) := by decide +kernel
theorem dX11_calls_89 : decode cX11_calls 89 = .ok (.iload 4, 2) := by decide +kernel
theorem dX11_calls_91 : decode cX11_calls 91 = .ok (.iadd, 1) := by decide +kernel
theorem dX11_calls_92 : decode cX11_calls 92 = .ok (.iaload, 1) := by decide +kernel
theorem dX11_calls_93 : decode cX11_calls 93 = .ok (.invokestatic 267, 3) := by decide +kernel
theorem dX11_calls_96 : decode cX11_calls 96 = .ok (.invokevirtual 271, 3) := by decide +kernel
theorem dX11_calls_99 : decode cX11_calls 99 = .ok (.return_, 1) := by decide +kernel
theorem dX11_tests_0 : decode cX11_tests 0 = .ok (.aload_n 0, 1) := by decide +kernel
theorem dX11_tests_1 : decode cX11_tests 1 = .ok (.getfield 17, 3) := by decide +kernel
theorem dX11_tests_4 : decode cX11_tests 4 = .ok (.iload_n 1, 1) := by decide +kernel
theorem dX11_tests_5 : decode cX11_tests 5 = .ok (.iaload, 1) := by decide +kernel
theorem dX11_tests_6 : decode cX11_tests 6 = .ok (.bipush 10, 2) := by decide +kernel
theorem dX11_tests_8 : decode cX11_tests 8 = .ok (.if_icmp .ne 7, 3) := by decide +kernel
theorem dX11_tests_11 : decode cX11_tests 11 = .ok (.iconst 1, 1) := by decide +kernel
theorem dX11_tests_12 : decode cX11_tests 12 = .ok (.goto 19, 3) := by decide +kernel
theorem dX11_tests_15 : decode cX11_tests 15 = .ok (.aload_n 0, 1) := by decide +kernel
theorem dX11_tests_16 : decode cX11_tests 16 = .ok (.getfield 17, 3) := by decide +kernel
theorem dX11_tests_19 : decode cX11_tests 19 = .ok (.iload_n 1, 1) := by decide +kernel
theorem dX11_tests_20 : decode cX11_tests 20 = .ok (.iaload, 1) := by decide +kernel
theorem dX11_tests_21 : decode cX11_tests 21 = .ok (.bipush 11, 2) := by decide +kernel
theorem dX11_tests_23 : decode cX11_tests 23 = .ok (.if_icmp .ne 7, 3) := by decide +kernel
theorem dX11_tests_26 : decode cX11_tests 26 = .ok (.iconst 2, 1) := by decide +kernel
theorem dX11_tests_27 : decode cX11_tests 27 = .ok (.goto 4, 3) := by decide +kernel
theorem dX11_tests_30 : decode cX11_tests 30 = .ok (.iconst 3, 1) := by decide +kernel
theorem dX11_tests_31 : decode cX11_tests 31 = .ok (.istore 4, 2) := by decide +kernel
theorem dX11_tests_33 : decode cX11_tests 33 = .ok (.aload_n 0, 1) := by decide +kernel
theorem dX11_tests_34 : decode cX11_tests 34 = .ok (.getfield 17, 3) := by decide +kernel
theorem dX11_tests_37 : decode cX11_tests 37 = .ok (.iload_n 1, 1) := by decide +kernel
theorem dX11_tests_38 : decode cX11_tests 38 = .ok (.iaload, 1) := by decide +kernel
theorem dX11_tests_39 : decode cX11_tests 39 = .ok (.bipush 12, 2) := by decide +kernel
theorem dX11_tests_41 : decode cX11_tests 41 = .ok (.if_icmp .ne 7, 3) := by decide +kernel
theorem dX11_tests_44 : decode cX11_tests 44 = .ok (.iconst 3, 1) := by decide +kernel
theorem dX11_tests_45 : decode cX11_tests 45 = .ok (.goto 7, 3) := by decide +kernel
theorem dX11_tests_48 : decode cX11_tests 48 = .ok (.iconst 3, 1) := by decide +kernel
theorem dX11_tests_49 : decode cX11_tests 49 = .ok (.iload 4, 2) := by decide +kernel
theorem dX11_tests_51 : decode cX11_tests 51 = .ok (.isub, 1) := by decide +kernel
theorem dX11_tests_52 : decode cX11_tests 52 = .ok (.istore 5, 2) := by decide +kernel
theorem dX11_tests_54 : decode cX11_tests 54 = .ok (.aload_n 0, 1) := by decide +kernel
theorem dX11_tests_55 : decode cX11_tests 55 = .ok (.getfield 17, 3) := by decide +kernel
theorem dX11_tests_58 : decode cX11_tests 58 = .ok (.iload_n 1, 1) := by decide +kernel
theorem dX11_tests_59 : decode cX11_tests 59 = .ok (.iaload, 1) := by decide +kernel
theorem dX11_tests_60 : decode cX11_tests 60 = .ok (.bipush 12, 2) := by decide +kernel
theorem dX11_tests_62 : decode cX11_tests 62 = .ok (.if_icmp .ne 7, 3) := by decide +kernel
theorem dX11_tests_65 : decode cX11_tests 65 = .ok (.iconst 3, 1) := by decide +kernel
theorem dX11_tests_66 : decode cX11_tests 66 = .ok (.goto 13, 3) := by decide +kernel
theorem dX11_tests_69 : decode cX11_tests 69 = .ok (.lload_n 2, 1) := by decide +kernel
theorem dX11_tests_70 : decode cX11_tests 70 = .ok (.aload_n 0, 1) := by decide +kernel
theorem dX11_tests_71 : decode cX11_tests 71 = .ok (.getfield 20, 3) := by decide +kernel
theorem dX11_tests_74 : decode cX11_tests 74 = .ok (.iload_n 1, 1) := by decide +kernel
theorem dX11_tests_75 : decode cX11_tests 75 = .ok (.iaload, 1) := by decide +kernel
theorem dX11_tests_76 : decode cX11_tests 76 = .ok (.invokestatic 287, 3) := by decide +kernel
theorem dX11_tests_79 : decode cX11_tests 79 = .ok (.istore 6, 2) := by decide +kernel
theorem dX11_tests_81 : decode cX11_tests 81 = .ok (.iload 6, 2) := by decide +kernel
theorem dX11_tests_83 : decode cX11_tests 83 = .ok (.iload 4, 2) := by decide +kernel
theorem dX11_tests_85 : decode cX11_tests 85 = .ok (.iand, 1) := by decide +kernel
theorem dX11_tests_86 : decode cX11_tests 86 = .ok (.ifCond .eq 55, 3) := by decide +kernel
theorem dX11_tests_89 : decode cX11_tests 89 = .ok (.aload_n 0, 1) := by decide +kernel
theorem dX11_tests_90 : decode cX11_tests 90 = .ok (.getfield 100, 3) := by decide +kernel
theorem dX11_tests_93 : decode cX11_tests 93 = .ok (.aload_n 0, 1) := by decide +kernel
theorem dX11_tests_94 : decode cX11_tests 94 = .ok (.getfield 23, 3) := by decide +kernel
theorem dX11_tests_97 : decode cX11_tests 97 = .ok (.iload_n 1, 1) := by decide +kernel
theorem dX11_tests_98 : decode cX11_tests 98 = .ok (.iaload, 1) := by decide +kernel
theorem dX11_tests_99 : decode cX11_tests 99 = .ok (.dup2, 1) := by decide +kernel
theorem dX11_tests_100 : decode cX11_tests 100 = .ok (.iaload, 1) := by decide +kernel
theorem dX11_tests_101 : decode cX11_tests 101 = .ok (.iconst 1, 1) := by decide +kernel
theorem dX11_tests_102 : decode cX11_tests 102 = .ok (.ior, 1) := by decide +kernel
theorem dX11_tests_103 : decode cX11_tests 103 = .ok (.iastore, 1) := by decide +kernel
theorem dX11_tests_104 : decode cX11_tests 104 = .ok (.aload_n 0, 1) := by decide +kernel
theorem dX11_tests_105 : decode cX11_tests 105 = .ok (.iload_n 1, 1) := by decide +kernel
theorem dX11_tests_106 : decode cX11_tests 106 = .ok (.iconst 1, 1) := by decide +kernel
theorem dX11_tests_107 : decode cX11_tests 107 = .ok (.iadd, 1) := by decide +kernel
theorem dX11_tests_108 : decode cX11_tests 108 = .ok (.aload_n 0, 1) := by decide +kernel
theorem dX11_tests_109 : decode cX11_tests 109 = .ok (.getfield 17, 3) := by decide +kernel
theorem dX11_tests_112 : decode cX11_tests 112 = .ok (.iload_n 1, 1) := by decide +kernel
theorem dX11_tests_113 : decode cX11_tests 113 = .ok (.iaload, 1) := by decide +kernel
theorem dX11_tests_114 : decode cX11_tests 114 = .ok (.bipush 12, 2) := by decide +kernel
theorem dX11_tests_116 : decode cX11_tests 116 = .ok (.if_icmp .ne 7, 3) := by decide +kernel
theorem dX11_tests_119 : decode cX11_tests 119 = .ok (.lload_n 2, 1) := by decide +kernel
theorem dX11_tests_120 : decode cX11_tests 120 = .ok (.goto 18, 3) := by decide +kernel
theorem dX11_tests_123 : decode cX11_tests 123 = .ok (.lload_n 2, 1) := by decide +kernel
theorem dX11_tests_124 : decode cX11_tests 124 = .ok (.aload_n 0, 1) := by decide +kernel
theorem dX11_tests_125 : decode cX11_tests 125 = .ok (.getfield 20, 3) := by decide +kernel
theorem dX11_tests_128 : decode cX11_tests 128 = .ok (.iload_n 1, 1) := by decide +kernel
theorem dX11_tests_129 : decode cX11_tests 129 = .ok (.iaload, 1) := by decide +kernel
theorem dX11_tests_130 : decode cX11_tests 130 = .ok (.iload 6, 2) := by decide +kernel
theorem dX11_tests_132 : decode cX11_tests 132 = .ok (.iload 4, 2) := by decide +kernel
theorem dX11_tests_134 : decode cX11_tests 134 = .ok (.iand, 1) := by decide +kernel
theorem dX11_tests_135 : decode cX11_tests 135 = .ok (.invokestatic 267, 3) := by decide +kernel
theorem dX11_tests_138 : decode cX11_tests 138 = .ok (.invokevirtual 271, 3) := by decide +kernel
theorem dX11_tests_141 : decode cX11_tests 141 = .ok (.iload 6, 2) := by decide +kernel
theorem dX11_tests_143 : decode cX11_tests 143 = .ok (.iload 5, 2) := by decide +kernel
theorem dX11_tests_145 : decode cX11_tests 145 = .ok (.iand, 1) := by decide +kernel
theorem dX11_tests_146 : decode cX11_tests 146 = .ok (.ifCond .eq 58, 3) := by decide +kernel
theorem dX11_tests_149 : decode cX11_tests 149 = .ok (.aload_n 0, 1) := by decide +kernel
theorem dX11_tests_150 : decode cX11_tests 150 = .ok (.getfield 100, 3) := by decide +kernel
theorem dX11_tests_153 : decode cX11_tests 153 = .ok (.aload_n 0, 1) := by decide +kernel
theorem dX11_tests_154 : decode cX11_tests 154 = .ok (.getfield 23, 3) := by decide +kernel
theorem dX11_tests_157 : decode cX11_tests 157 = .ok (.iload_n 1, 1) := by decide +kernel
theorem dX11_tests_158 : decode cX11_tests 158 = .ok (.iaload, 1) := by decide +kernel
theorem dX11_tests_159 : decode cX11_tests 159 = .ok (.dup2, 1) := by decide +kernel
theorem dX11_tests_160 : decode cX11_tests 160 = .ok (.iaload, 1) := by decide +kernel
theorem dX11_tests_161 : decode cX11_tests 161 = .ok (.iconst 2, 1) := by decide +kernel
theorem dX11_tests_162 : decode cX11_tests 162 = .ok (.ior, 1) := by decide +kernel
theorem dX11_tests_163 : decode cX11_tests 163 = .ok (.iastore, 1) := by decide +kernel
theorem dX11_tests_164 : decode cX11_tests 164 = .ok (.aload_n 0, 1) := by decide +kernel
theorem dX11_tests_165 : decode cX11_tests 165 = .ok (.aload_n 0, 1) := by decide +kernel
theorem dX11_tests_166 : decode cX11_tests 166 = .ok (.getfield 26, 3) := by decide +kernel
theorem dX11_tests_169 : decode cX11_tests 169 = .ok (.iload_n 1, 1) := by decide +kernel
theorem dX11_tests_170 : decode cX11_tests 170 = .ok (.iaload, 1) := by decide +kernel
theorem dX11_tests_171 : decode cX11_tests 171 = .ok (.aload_n 0, 1) := by decide +kernel
theorem dX11_tests_172 : decode cX11_tests 172 = .ok (.getfield 17, 3) := by decide +kernel
theorem dX11_tests_175 : decode cX11_tests 175 = .ok (.iload_n 1, 1) := by decide +kernel
theorem dX11_tests_176 : decode cX11_tests 176 = .ok (.iaload, 1) := by decide +kernel
theorem dX11_tests_177 : decode cX11_tests 177 = .ok (.bipush 12, 2) := by decide +kernel
theorem dX11_tests_179 : decode cX11_tests 179 = .ok (.if_icmp .ne 7, 3) := by decide +kernel
theorem dX11_tests_182 : decode cX11_tests 182 = .ok (.lload_n 2, 1) := by decide +kernel
theorem dX11_tests_183 : decode cX11_tests 183 = .ok (.goto 18, 3) := by decide +kernel
theorem dX11_tests_186 : decode cX11_tests 186 = .ok (.lload_n 2, 1) := by decide +kernel
theorem dX11_tests_187 : decode cX11_tests 187 = .ok (.aload_n 0, 1) := by decide +kernel
theorem dX11_tests_188 : decode cX11_tests 188 = .ok (.getfield 20, 3) := by decide +kernel
theorem dX11_tests_191 : decode cX11_tests 191 = .ok (.iload_n 1, 1) := by decide +kernel
theorem dX11_tests_192 : decode cX11_tests 192 = .ok (.iaload, 1) := by decide +kernel
theorem dX11_tests_193 : decode cX11_tests 193 = .ok (.iload 6, 2) := by decide +kernel
theorem dX11_tests_195 : decode cX11_tests 195 = .ok (.iload 5, 2) := by decide +kernel
theorem dX11_tests_197 : decode cX11_tests 197 = .ok (.iand, 1) := by decide +kernel
theorem dX11_tests_198 : decode cX11_tests 198 = .ok (.invokestatic 267, 3) := by decide +kernel
theorem dX11_tests_201 : decode cX11_tests 201 = .ok (.invokevirtual 271, 3) := by decide +kernel
theorem dX11_tests_204 : decode cX11_tests 204 = .ok (.return_, 1) := by decide +kernel
theorem dX11_frees_0 : decode cX11_frees 0 = .ok (.iconst 0, 1) := by decide +kernel
theorem dX11_frees_1 : decode cX11_frees 1 = .ok (.istore_n 1, 1) := by decide +kernel
theorem dX11_frees_2 : decode cX11_frees 2 = .ok (.iload_n 1, 1) := by decide +kernel
theorem dX11_frees_3 : decode cX11_frees 3 = .ok (.bipush 42, 2) := by decide +kernel
theorem dX11_frees_5 : decode cX11_frees 5 = .ok (.if_icmp .ge 16, 3) := by decide +kernel
theorem dX11_frees_8 : decode cX11_frees 8 = .ok (.aload_n 0, 1) := by decide +kernel
theorem dX11_frees_9 : decode cX11_frees 9 = .ok (.getfield 96, 3) := by decide +kernel
theorem dX11_frees_12 : decode cX11_frees 12 = .ok (.iload_n 1, 1) := by decide +kernel
theorem dX11_frees_13 : decode cX11_frees 13 = .ok (.iconst 0, 1) := by decide +kernel
theorem dX11_frees_14 : decode cX11_frees 14 = .ok (.bastore, 1) := by decide +kernel
theorem dX11_frees_15 : decode cX11_frees 15 = .ok (.iinc 1 1, 3) := by decide +kernel
theorem dX11_frees_18 : decode cX11_frees 18 = .ok (.goto (-16), 3) := by decide +kernel
theorem dX11_frees_21 : decode cX11_frees 21 = .ok (.return_, 1) := by decide +kernel
theorem dX11_mark_0 : decode cX11_mark 0 = .ok (.aload_n 0, 1) := by decide +kernel
theorem dX11_mark_1 : decode cX11_mark 1 = .ok (.iconst 0, 1) := by decide +kernel
theorem dX11_mark_2 : decode cX11_mark 2 = .ok (.putfield 121, 3) := by decide +kernel
theorem dX11_mark_5 : decode cX11_mark 5 = .ok (.iload_n 2, 1) := by decide +kernel
theorem dX11_mark_6 : decode cX11_mark 6 = .ok (.ifCond .lt 23, 3) := by decide +kernel
theorem dX11_mark_9 : decode cX11_mark 9 = .ok (.iload_n 2, 1) := by decide +kernel
theorem dX11_mark_10 : decode cX11_mark 10 = .ok (.bipush 8, 2) := by decide +kernel
theorem dX11_mark_12 : decode cX11_mark 12 = .ok (.if_icmp .ge 17, 3) := by decide +kernel
theorem dX11_mark_15 : decode cX11_mark 15 = .ok (.aload_n 0, 1) := by decide +kernel
theorem dX11_mark_16 : decode cX11_mark 16 = .ok (.getfield 32, 3) := by decide +kernel
theorem dX11_mark_19 : decode cX11_mark 19 = .ok (.iload_n 2, 1) := by decide +kernel
theorem dX11_mark_20 : decode cX11_mark 20 = .ok (.iaload, 1) := by decide +kernel
theorem dX11_mark_21 : decode cX11_mark 21 = .ok (.iconst (-1), 1) := by decide +kernel
theorem dX11_mark_22 : decode cX11_mark 22 = .ok (.if_icmp .eq 7, 3) := by decide +kernel
theorem dX11_mark_25 : decode cX11_mark 25 = .ok (.iconst 1, 1) := by decide +kernel
theorem dX11_mark_26 : decode cX11_mark 26 = .ok (.goto 4, 3) := by decide +kernel
theorem dX11_mark_29 : decode cX11_mark 29 = .ok (.iconst 0, 1) := by decide +kernel
theorem dX11_mark_30 : decode cX11_mark 30 = .ok (.istore 4, 2) := by decide +kernel
theorem dX11_mark_32 : decode cX11_mark 32 = .ok (.iload_n 1, 1) := by decide +kernel
theorem dX11_mark_33 : decode cX11_mark 33 = .ok (.ifCond .lt 50, 3) := by decide +kernel
theorem dX11_mark_36 : decode cX11_mark 36 = .ok (.iload_n 1, 1) := by decide +kernel
theorem dX11_mark_37 : decode cX11_mark 37 = .ok (.iconst 2, 1) := by decide +kernel
theorem dX11_mark_38 : decode cX11_mark 38 = .ok (.if_icmp .gt 45, 3) := by decide +kernel
theorem dX11_mark_41 : decode cX11_mark 41 = .ok (.iload_n 1, 1) := by decide +kernel
theorem dX11_mark_42 : decode cX11_mark 42 = .ok (.iconst 2, 1) := by decide +kernel
theorem dX11_mark_43 : decode cX11_mark 43 = .ok (.if_icmp .ge 8, 3) := by decide +kernel
theorem dX11_mark_46 : decode cX11_mark 46 = .ok (.iload 4, 2) := by decide +kernel
theorem dX11_mark_48 : decode cX11_mark 48 = .ok (.ifCond .eq 35, 3) := by decide +kernel
theorem dX11_mark_51 : decode cX11_mark 51 = .ok (.iload_n 1, 1) := by decide +kernel
theorem dX11_mark_52 : decode cX11_mark 52 = .ok (.ifCond .ne 17, 3) := by decide +kernel
theorem dX11_mark_55 : decode cX11_mark 55 = .ok (.iload_n 3, 1) := by decide +kernel
theorem dX11_mark_56 : decode cX11_mark 56 = .ok (.ifCond .lt 27, 3) := by decide +kernel
theorem dX11_mark_59 : decode cX11_mark 59 = .ok (.iload_n 3, 1) := by decide +kernel
theorem dX11_mark_60 : decode cX11_mark 60 = .ok (.aload_n 0, 1) := by decide +kernel
theorem dX11_mark_61 : decode cX11_mark 61 = .ok (.getfield 35, 3) := by decide +kernel
theorem dX11_mark_64 : decode cX11_mark 64 = .ok (.iload_n 2, 1) := by decide +kernel
theorem dX11_mark_65 : decode cX11_mark 65 = .ok (.iaload, 1) := by decide +kernel
theorem dX11_mark_66 : decode cX11_mark 66 = .ok (.if_icmp .ge 17, 3) := by decide +kernel
theorem dX11_mark_69 : decode cX11_mark 69 = .ok (.iload_n 1, 1) := by decide +kernel
theorem dX11_mark_70 : decode cX11_mark 70 = .ok (.iconst 2, 1) := by decide +kernel
theorem dX11_mark_71 : decode cX11_mark 71 = .ok (.if_icmp .ne 14, 3) := by decide +kernel
theorem dX11_mark_74 : decode cX11_mark 74 = .ok (.iload_n 3, 1) := by decide +kernel
theorem dX11_mark_75 : decode cX11_mark 75 = .ok (.ifCond .lt 8, 3) := by decide +kernel
theorem dX11_mark_78 : decode cX11_mark 78 = .ok (.iload_n 3, 1) := by decide +kernel
theorem dX11_mark_79 : decode cX11_mark 79 = .ok (.iconst 1, 1) := by decide +kernel
theorem dX11_mark_80 : decode cX11_mark 80 = .ok (.if_icmp .le 5, 3) := by decide +kernel
theorem dX11_mark_83 : decode cX11_mark 83 = .ok (.iconst (-1), 1) := by decide +kernel
theorem dX11_mark_84 : decode cX11_mark 84 = .ok (.ireturn, 1) := by decide +kernel
theorem dX11_mark_85 : decode cX11_mark 85 = .ok (.aload_n 0, 1) := by decide +kernel
theorem dX11_mark_86 : decode cX11_mark 86 = .ok (.invokevirtual 299, 3) := by decide +kernel
theorem dX11_mark_89 : decode cX11_mark 89 = .ok (.aload_n 0, 1) := by decide +kernel
theorem dX11_mark_90 : decode cX11_mark 90 = .ok (.invokevirtual 302, 3) := by decide +kernel
theorem dX11_mark_93 : decode cX11_mark 93 = .ok (.aload_n 0, 1) := by decide +kernel
theorem dX11_mark_94 : decode cX11_mark 94 = .ok (.getfield 93, 3) := by decide +kernel
theorem dX11_mark_97 : decode cX11_mark 97 = .ok (.iload_n 1, 1) := by decide +kernel
theorem dX11_mark_98 : decode cX11_mark 98 = .ok (.ifCond .ne 11, 3) := by decide +kernel
theorem dX11_mark_101 : decode cX11_mark 101 = .ok (.iconst 4, 1) := by decide +kernel
theorem dX11_mark_102 : decode cX11_mark 102 = .ok (.iload_n 2, 1) := by decide +kernel
theorem dX11_mark_103 : decode cX11_mark 103 = .ok (.imul, 1) := by decide +kernel
theorem dX11_mark_104 : decode cX11_mark 104 = .ok (.iload_n 3, 1) := by decide +kernel
theorem dX11_mark_105 : decode cX11_mark 105 = .ok (.iadd, 1) := by decide +kernel
theorem dX11_mark_106 : decode cX11_mark 106 = .ok (.goto 19, 3) := by decide +kernel
theorem dX11_mark_109 : decode cX11_mark 109 = .ok (.iload_n 1, 1) := by decide +kernel
theorem dX11_mark_110 : decode cX11_mark 110 = .ok (.iconst 1, 1) := by decide +kernel
theorem dX11_mark_111 : decode cX11_mark 111 = .ok (.if_icmp .ne 10, 3) := by decide +kernel
theorem dX11_mark_114 : decode cX11_mark 114 = .ok (.bipush 32, 2) := by decide +kernel
theorem dX11_mark_116 : decode cX11_mark 116 = .ok (.iload_n 2, 1) := by decide +kernel
theorem dX11_mark_117 : decode cX11_mark 117 = .ok (.iadd, 1) := by decide +kernel
theorem dX11_mark_118 : decode cX11_mark 118 = .ok (.goto 7, 3) := by decide +kernel
theorem dX11_mark_121 : decode cX11_mark 121 = .ok (.bipush 40, 2) := by decide +kernel
theorem dX11_mark_123 : decode cX11_mark 123 = .ok (.iload_n 3, 1) := by decide +kernel
theorem dX11_mark_124 : decode cX11_mark 124 = .ok (.iadd, 1) := by decide +kernel
theorem dX11_mark_125 : decode cX11_mark 125 = .ok (.iaload, 1) := by decide +kernel
theorem dX11_mark_126 : decode cX11_mark 126 = .ok (.ireturn, 1) := by decide +kernel
theorem dX11_useFact_0 : decode cX11_useFact 0 = .ok (.iconst 0, 1) := by decide +kernel
theorem dX11_useFact_1 : decode cX11_useFact 1 = .ok (.istore_n 2, 1) := by decide +kernel
theorem dX11_useFact_2 : decode cX11_useFact 2 = .ok (.iload_n 2, 1) := by decide +kernel
theorem dX11_useFact_3 : decode cX11_useFact 3 = .ok (.aload_n 0, 1) := by decide +kernel
theorem dX11_useFact_4 : decode cX11_useFact 4 = .ok (.getfield 251, 3) := by decide +kernel
theorem dX11_useFact_7 : decode cX11_useFact 7 = .ok (.if_icmp .ge 71, 3) := by decide +kernel
theorem dX11_useFact_10 : decode cX11_useFact 10 = .ok (.aload_n 0, 1) := by decide +kernel
theorem dX11_useFact_11 : decode cX11_useFact 11 = .ok (.getfield 17, 3) := by decide +kernel
theorem dX11_useFact_14 : decode cX11_useFact 14 = .ok (.iload_n 2, 1) := by decide +kernel
theorem dX11_useFact_15 : decode cX11_useFact 15 = .ok (.iaload, 1) := by decide +kernel
theorem dX11_useFact_16 : decode cX11_useFact 16 = .ok (.iconst 5, 1) := by decide +kernel
theorem dX11_useFact_17 : decode cX11_useFact 17 = .ok (.if_icmp .eq 14, 3) := by decide +kernel
theorem dX11_useFact_20 : decode cX11_useFact 20 = .ok (.aload_n 0, 1) := by decide +kernel
theorem dX11_useFact_21 : decode cX11_useFact 21 = .ok (.getfield 17, 3) := by decide +kernel
theorem dX11_useFact_24 : decode cX11_useFact 24 = .ok (.iload_n 2, 1) := by decide +kernel
theorem dX11_useFact_25 : decode cX11_useFact 25 = .ok (.iaload, 1) := by decide +kernel
theorem dX11_useFact_26 : decode cX11_useFact 26 = .ok (.bipush 8, 2) := by decide +kernel
theorem dX11_useFact_28 : decode cX11_useFact 28 = .ok (.if_icmp .ne 44, 3) := by decide +kernel
theorem dX11_useFact_31 : decode cX11_useFact 31 = .ok (.aload_n 0, 1) := by decide +kernel
theorem dX11_useFact_32 : decode cX11_useFact 32 = .ok (.getfield 26, 3) := by decide +kernel
theorem dX11_useFact_35 : decode cX11_useFact 35 = .ok (.iload_n 2, 1) := by decide +kernel
theorem dX11_useFact_36 : decode cX11_useFact 36 = .ok (.iaload, 1) := by decide +kernel
theorem dX11_useFact_37 : decode cX11_useFact 37 = .ok (.iload_n 1, 1) := by decide +kernel
theorem dX11_useFact_38 : decode cX11_useFact 38 = .ok (.if_icmp .ne 34, 3) := by decide +kernel
theorem dX11_useFact_41 : decode cX11_useFact 41 = .ok (.aload_n 0, 1) := by decide +kernel
theorem dX11_useFact_42 : decode cX11_useFact 42 = .ok (.getfield 89, 3) := by decide +kernel
theorem dX11_useFact_45 : decode cX11_useFact 45 = .ok (.iload_n 2, 1) := by decide +kernel
theorem dX11_useFact_46 : decode cX11_useFact 46 = .ok (.laload, 1) := by decide +kernel
theorem dX11_useFact_47 : decode cX11_useFact 47 = .ok (.lconst 0, 1) := by decide +kernel
theorem dX11_useFact_48 : decode cX11_useFact 48 = .ok (.lcmp, 1) := by decide +kernel
theorem dX11_useFact_49 : decode cX11_useFact 49 = .ok (.ifCond .ne 7, 3) := by decide +kernel
theorem dX11_useFact_52 : decode cX11_useFact 52 = .ok (.iconst 0, 1) := by decide +kernel
theorem dX11_useFact_53 : decode cX11_useFact 53 = .ok (.goto 18, 3) := by decide +kernel
theorem dX11_useFact_56 : decode cX11_useFact 56 = .ok (.aload_n 0, 1) := by decide +kernel
theorem dX11_useFact_57 : decode cX11_useFact 57 = .ok (.getfield 89, 3) := by decide +kernel
theorem dX11_useFact_60 : decode cX11_useFact 60 = .ok (.iload_n 2, 1) := by decide +kernel
theorem dX11_useFact_61 : decode cX11_useFact 61 = .ok (.laload, 1) := by decide +kernel
theorem dX11_useFact_62 : decode cX11_useFact 62 = .ok (.aload_n 0, 1) := by decide +kernel
theorem dX11_useFact_63 : decode cX11_useFact 63 = .ok (.getfield 20, 3) := by decide +kernel
theorem dX11_useFact_66 : decode cX11_useFact 66 = .ok (.iload_n 2, 1) := by decide +kernel
theorem dX11_useFact_67 : decode cX11_useFact 67 = .ok (.iaload, 1) := by decide +kernel
theorem dX11_useFact_68 : decode cX11_useFact 68 = .ok (.invokestatic 287, 3) := by decide +kernel
theorem dX11_useFact_71 : decode cX11_useFact 71 = .ok (.ireturn, 1) := by decide +kernel
theorem dX11_useFact_72 : decode cX11_useFact 72 = .ok (.iinc 2 1, 3) := by decide +kernel
theorem dX11_useFact_75 : decode cX11_useFact 75 = .ok (.goto (-73), 3) := by decide +kernel
theorem dX11_useFact_78 : decode cX11_useFact 78 = .ok (.iconst 0, 1) := by decide +kernel
theorem dX11_useFact_79 : decode cX11_useFact 79 = .ok (.ireturn, 1) := by decide +kernel
theorem dX11_stateOf_0 : decode cX11_stateOf 0 = .ok (.iload_n 0, 1) := by decide +kernel
theorem dX11_stateOf_1 : decode cX11_stateOf 1 = .ok (.ifCond .ne 7, 3) := by decide +kernel
theorem dX11_stateOf_4 : decode cX11_stateOf 4 = .ok (.iconst 0, 1) := by decide +kernel
theorem dX11_stateOf_5 : decode cX11_stateOf 5 = .ok (.goto 22, 3) := by decide +kernel
theorem dX11_stateOf_8 : decode cX11_stateOf 8 = .ok (.iload_n 0, 1) := by decide +kernel
theorem dX11_stateOf_9 : decode cX11_stateOf 9 = .ok (.iconst 2, 1) := by decide +kernel
theorem dX11_stateOf_10 : decode cX11_stateOf 10 = .ok (.if_icmp .ne 7, 3) := by decide +kernel
theorem dX11_stateOf_13 : decode cX11_stateOf 13 = .ok (.iconst 1, 1) := by decide +kernel
theorem dX11_stateOf_14 : decode cX11_stateOf 14 = .ok (.goto 13, 3) := by decide +kernel
theorem dX11_stateOf_17 : decode cX11_stateOf 17 = .ok (.iload_n 0, 1) := by decide +kernel
theorem dX11_stateOf_18 : decode cX11_stateOf 18 = .ok (.iconst 3, 1) := by decide +kernel
theorem dX11_stateOf_19 : decode cX11_stateOf 19 = .ok (.if_icmp .ne 7, 3) := by decide +kernel
theorem dX11_stateOf_22 : decode cX11_stateOf 22 = .ok (.iconst 2, 1) := by decide +kernel
theorem dX11_stateOf_23 : decode cX11_stateOf 23 = .ok (.goto 4, 3) := by decide +kernel
theorem dX11_stateOf_26 : decode cX11_stateOf 26 = .ok (.iconst 3, 1) := by decide +kernel
theorem dX11_stateOf_27 : decode cX11_stateOf 27 = .ok (.ireturn, 1) := by decide +kernel
theorem dX11_use_0 : decode cX11_use 0 = .ok (.aload_n 0, 1) := by decide +kernel
theorem dX11_use_1 : decode cX11_use 1 = .ok (.iconst 0, 1) := by decide +kernel
theorem dX11_use_2 : decode cX11_use 2 = .ok (.putfield 121, 3) := by decide +kernel
theorem dX11_use_5 : decode cX11_use 5 = .ok (.iload_n 1, 1) := by decide +kernel
theorem dX11_use_6 : decode cX11_use 6 = .ok (.ifCond .lt 13, 3) := by decide +kernel
theorem dX11_use_9 : decode cX11_use 9 = .ok (.iload_n 1, 1) := by decide +kernel
theorem dX11_use_10 : decode cX11_use 10 = .ok (.aload_n 0, 1) := by decide +kernel
theorem dX11_use_11 : decode cX11_use 11 = .ok (.getfield 53, 3) := by decide +kernel
end
section
theorem dX11_use_14 : decode cX11_use 14 = .ok (.iconst 0, 1) := by decide +kernel
theorem dX11_use_15 : decode cX11_use 15 = .ok (.iaload, 1) := by decide +kernel
theorem dX11_use_16 : decode cX11_use 16 = .ok (.if_icmp .lt 5, 3) := by decide +kernel
theorem dX11_use_19 : decode cX11_use 19 = .ok (.iconst (-1), 1) := by decide +kernel
theorem dX11_use_20 : decode cX11_use 20 = .ok (.ireturn, 1) := by decide +kernel
theorem dX11_use_21 : decode cX11_use 21 = .ok (.iload_n 2, 1) := by decide +kernel
theorem dX11_use_22 : decode cX11_use 22 = .ok (.tableswitch 68 0 3 #[30, 47, 54, 61], 30) := by decide +kernel
theorem dX11_use_52 : decode cX11_use 52 = .ok (.aload_n 0, 1) := by decide +kernel
theorem dX11_use_53 : decode cX11_use 53 = .ok (.invokevirtual 299, 3) := by decide +kernel
theorem dX11_use_56 : decode cX11_use 56 = .ok (.aload_n 0, 1) := by decide +kernel
theorem dX11_use_57 : decode cX11_use 57 = .ok (.invokevirtual 302, 3) := by decide +kernel
theorem dX11_use_60 : decode cX11_use 60 = .ok (.aload_n 0, 1) := by decide +kernel
theorem dX11_use_61 : decode cX11_use 61 = .ok (.iload_n 1, 1) := by decide +kernel
theorem dX11_use_62 : decode cX11_use 62 = .ok (.invokevirtual 305, 3) := by decide +kernel
theorem dX11_use_65 : decode cX11_use 65 = .ok (.invokestatic 308, 3) := by decide +kernel
theorem dX11_use_68 : decode cX11_use 68 = .ok (.ireturn, 1) := by decide +kernel
theorem dX11_use_69 : decode cX11_use 69 = .ok (.aload_n 0, 1) := by decide +kernel
theorem dX11_use_70 : decode cX11_use 70 = .ok (.getfield 44, 3) := by decide +kernel
theorem dX11_use_73 : decode cX11_use 73 = .ok (.iload_n 1, 1) := by decide +kernel
theorem dX11_use_74 : decode cX11_use 74 = .ok (.iaload, 1) := by decide +kernel
theorem dX11_use_75 : decode cX11_use 75 = .ok (.ireturn, 1) := by decide +kernel
theorem dX11_use_76 : decode cX11_use 76 = .ok (.aload_n 0, 1) := by decide +kernel
theorem dX11_use_77 : decode cX11_use 77 = .ok (.getfield 47, 3) := by decide +kernel
theorem dX11_use_80 : decode cX11_use 80 = .ok (.iload_n 1, 1) := by decide +kernel
theorem dX11_use_81 : decode cX11_use 81 = .ok (.iaload, 1) := by decide +kernel
theorem dX11_use_82 : decode cX11_use 82 = .ok (.ireturn, 1) := by decide +kernel
theorem dX11_use_83 : decode cX11_use 83 = .ok (.aload_n 0, 1) := by decide +kernel
theorem dX11_use_84 : decode cX11_use 84 = .ok (.getfield 50, 3) := by decide +kernel
theorem dX11_use_87 : decode cX11_use 87 = .ok (.iload_n 1, 1) := by decide +kernel
theorem dX11_use_88 : decode cX11_use 88 = .ok (.iaload, 1) := by decide +kernel
theorem dX11_use_89 : decode cX11_use 89 = .ok (.ireturn, 1) := by decide +kernel
theorem dX11_use_90 : decode cX11_use 90 = .ok (.iconst (-1), 1) := by decide +kernel
theorem dX11_use_91 : decode cX11_use 91 = .ok (.ireturn, 1) := by decide +kernel
theorem dX11_test_0 : decode cX11_test 0 = .ok (.aload_n 0, 1) := by decide +kernel
theorem dX11_test_1 : decode cX11_test 1 = .ok (.iconst 0, 1) := by decide +kernel
theorem dX11_test_2 : decode cX11_test 2 = .ok (.putfield 121, 3) := by decide +kernel
theorem dX11_test_5 : decode cX11_test 5 = .ok (.iload_n 1, 1) := by decide +kernel
theorem dX11_test_6 : decode cX11_test 6 = .ok (.ifCond .lt 13, 3) := by decide +kernel
theorem dX11_test_9 : decode cX11_test 9 = .ok (.iload_n 1, 1) := by decide +kernel
theorem dX11_test_10 : decode cX11_test 10 = .ok (.aload_n 0, 1) := by decide +kernel
theorem dX11_test_11 : decode cX11_test 11 = .ok (.getfield 62, 3) := by decide +kernel
theorem dX11_test_14 : decode cX11_test 14 = .ok (.iconst 0, 1) := by decide +kernel
theorem dX11_test_15 : decode cX11_test 15 = .ok (.iaload, 1) := by decide +kernel
theorem dX11_test_16 : decode cX11_test 16 = .ok (.if_icmp .lt 5, 3) := by decide +kernel
theorem dX11_test_19 : decode cX11_test 19 = .ok (.iconst (-1), 1) := by decide +kernel
theorem dX11_test_20 : decode cX11_test 20 = .ok (.ireturn, 1) := by decide +kernel
theorem dX11_test_21 : decode cX11_test 21 = .ok (.iload_n 2, 1) := by decide +kernel
theorem dX11_test_22 : decode cX11_test 22 = .ok (.tableswitch 92 0 2 #[26, 78, 85], 26) := by decide +kernel
theorem dX11_test_48 : decode cX11_test 48 = .ok (.aload_n 0, 1) := by decide +kernel
theorem dX11_test_49 : decode cX11_test 49 = .ok (.invokevirtual 299, 3) := by decide +kernel
theorem dX11_test_52 : decode cX11_test 52 = .ok (.aload_n 0, 1) := by decide +kernel
theorem dX11_test_53 : decode cX11_test 53 = .ok (.invokevirtual 302, 3) := by decide +kernel
theorem dX11_test_56 : decode cX11_test 56 = .ok (.aload_n 0, 1) := by decide +kernel
theorem dX11_test_57 : decode cX11_test 57 = .ok (.getfield 100, 3) := by decide +kernel
theorem dX11_test_60 : decode cX11_test 60 = .ok (.iload_n 1, 1) := by decide +kernel
theorem dX11_test_61 : decode cX11_test 61 = .ok (.iaload, 1) := by decide +kernel
theorem dX11_test_62 : decode cX11_test 62 = .ok (.iconst 3, 1) := by decide +kernel
theorem dX11_test_63 : decode cX11_test 63 = .ok (.if_icmp .ne 7, 3) := by decide +kernel
theorem dX11_test_66 : decode cX11_test 66 = .ok (.iconst 0, 1) := by decide +kernel
theorem dX11_test_67 : decode cX11_test 67 = .ok (.goto 32, 3) := by decide +kernel
theorem dX11_test_70 : decode cX11_test 70 = .ok (.aload_n 0, 1) := by decide +kernel
theorem dX11_test_71 : decode cX11_test 71 = .ok (.getfield 100, 3) := by decide +kernel
theorem dX11_test_74 : decode cX11_test 74 = .ok (.iload_n 1, 1) := by decide +kernel
theorem dX11_test_75 : decode cX11_test 75 = .ok (.iaload, 1) := by decide +kernel
theorem dX11_test_76 : decode cX11_test 76 = .ok (.iconst 1, 1) := by decide +kernel
theorem dX11_test_77 : decode cX11_test 77 = .ok (.if_icmp .ne 7, 3) := by decide +kernel
theorem dX11_test_80 : decode cX11_test 80 = .ok (.iconst 1, 1) := by decide +kernel
theorem dX11_test_81 : decode cX11_test 81 = .ok (.goto 18, 3) := by decide +kernel
theorem dX11_test_84 : decode cX11_test 84 = .ok (.aload_n 0, 1) := by decide +kernel
theorem dX11_test_85 : decode cX11_test 85 = .ok (.getfield 100, 3) := by decide +kernel
theorem dX11_test_88 : decode cX11_test 88 = .ok (.iload_n 1, 1) := by decide +kernel
theorem dX11_test_89 : decode cX11_test 89 = .ok (.iaload, 1) := by decide +kernel
theorem dX11_test_90 : decode cX11_test 90 = .ok (.iconst 2, 1) := by decide +kernel
theorem dX11_test_91 : decode cX11_test 91 = .ok (.if_icmp .ne 7, 3) := by decide +kernel
theorem dX11_test_94 : decode cX11_test 94 = .ok (.iconst 2, 1) := by decide +kernel
theorem dX11_test_95 : decode cX11_test 95 = .ok (.goto 4, 3) := by decide +kernel
theorem dX11_test_98 : decode cX11_test 98 = .ok (.iconst 3, 1) := by decide +kernel
theorem dX11_test_99 : decode cX11_test 99 = .ok (.ireturn, 1) := by decide +kernel
theorem dX11_test_100 : decode cX11_test 100 = .ok (.aload_n 0, 1) := by decide +kernel
theorem dX11_test_101 : decode cX11_test 101 = .ok (.getfield 56, 3) := by decide +kernel
theorem dX11_test_104 : decode cX11_test 104 = .ok (.iload_n 1, 1) := by decide +kernel
theorem dX11_test_105 : decode cX11_test 105 = .ok (.iaload, 1) := by decide +kernel
theorem dX11_test_106 : decode cX11_test 106 = .ok (.ireturn, 1) := by decide +kernel
theorem dX11_test_107 : decode cX11_test 107 = .ok (.aload_n 0, 1) := by decide +kernel
theorem dX11_test_108 : decode cX11_test 108 = .ok (.getfield 59, 3) := by decide +kernel
theorem dX11_test_111 : decode cX11_test 111 = .ok (.iload_n 1, 1) := by decide +kernel
theorem dX11_test_112 : decode cX11_test 112 = .ok (.iaload, 1) := by decide +kernel
theorem dX11_test_113 : decode cX11_test 113 = .ok (.ireturn, 1) := by decide +kernel
theorem dX11_test_114 : decode cX11_test 114 = .ok (.iconst (-1), 1) := by decide +kernel
theorem dX11_test_115 : decode cX11_test 115 = .ok (.ireturn, 1) := by decide +kernel
theorem dX11_makes_0 : decode cX11_makes 0 = .ok (.aload_n 0, 1) := by decide +kernel
theorem dX11_makes_1 : decode cX11_makes 1 = .ok (.getfield 311, 3) := by decide +kernel
theorem dX11_makes_4 : decode cX11_makes 4 = .ok (.sipush 300, 3) := by decide +kernel
theorem dX11_makes_7 : decode cX11_makes 7 = .ok (.if_icmp .ne 10, 3) := by decide +kernel
theorem dX11_makes_10 : decode cX11_makes 10 = .ok (.aload_n 0, 1) := by decide +kernel
theorem dX11_makes_11 : decode cX11_makes 11 = .ok (.iconst 3, 1) := by decide +kernel
theorem dX11_makes_12 : decode cX11_makes 12 = .ok (.putfield 314, 3) := by decide +kernel
theorem dX11_makes_15 : decode cX11_makes 15 = .ok (.iconst 0, 1) := by decide +kernel
theorem dX11_makes_16 : decode cX11_makes 16 = .ok (.ireturn, 1) := by decide +kernel
theorem dX11_makes_17 : decode cX11_makes 17 = .ok (.aload_n 0, 1) := by decide +kernel
theorem dX11_makes_18 : decode cX11_makes 18 = .ok (.dup, 1) := by decide +kernel
theorem dX11_makes_19 : decode cX11_makes 19 = .ok (.getfield 311, 3) := by decide +kernel
theorem dX11_makes_22 : decode cX11_makes 22 = .ok (.iconst 1, 1) := by decide +kernel
theorem dX11_makes_23 : decode cX11_makes 23 = .ok (.iadd, 1) := by decide +kernel
theorem dX11_makes_24 : decode cX11_makes 24 = .ok (.putfield 311, 3) := by decide +kernel
theorem dX11_makes_27 : decode cX11_makes 27 = .ok (.aload_n 0, 1) := by decide +kernel
theorem dX11_makes_28 : decode cX11_makes 28 = .ok (.getfield 103, 3) := by decide +kernel
theorem dX11_makes_31 : decode cX11_makes 31 = .ok (.iconst 2, 1) := by decide +kernel
theorem dX11_makes_32 : decode cX11_makes 32 = .ok (.aload_n 0, 1) := by decide +kernel
theorem dX11_makes_33 : decode cX11_makes 33 = .ok (.getfield 311, 3) := by decide +kernel
theorem dX11_makes_36 : decode cX11_makes 36 = .ok (.imul, 1) := by decide +kernel
theorem dX11_makes_37 : decode cX11_makes 37 = .ok (.iload_n 1, 1) := by decide +kernel
theorem dX11_makes_38 : decode cX11_makes 38 = .ok (.iconst (-1), 1) := by decide +kernel
theorem dX11_makes_39 : decode cX11_makes 39 = .ok (.if_icmp .ne 10, 3) := by decide +kernel
theorem dX11_makes_42 : decode cX11_makes 42 = .ok (.aload_n 0, 1) := by decide +kernel
theorem dX11_makes_43 : decode cX11_makes 43 = .ok (.getfield 311, 3) := by decide +kernel
theorem dX11_makes_46 : decode cX11_makes 46 = .ok (.goto 4, 3) := by decide +kernel
theorem dX11_makes_49 : decode cX11_makes 49 = .ok (.iload_n 1, 1) := by decide +kernel
theorem dX11_makes_50 : decode cX11_makes 50 = .ok (.iastore, 1) := by decide +kernel
theorem dX11_makes_51 : decode cX11_makes 51 = .ok (.aload_n 0, 1) := by decide +kernel
theorem dX11_makes_52 : decode cX11_makes 52 = .ok (.getfield 103, 3) := by decide +kernel
theorem dX11_makes_55 : decode cX11_makes 55 = .ok (.iconst 2, 1) := by decide +kernel
theorem dX11_makes_56 : decode cX11_makes 56 = .ok (.aload_n 0, 1) := by decide +kernel
theorem dX11_makes_57 : decode cX11_makes 57 = .ok (.getfield 311, 3) := by decide +kernel
theorem dX11_makes_60 : decode cX11_makes 60 = .ok (.imul, 1) := by decide +kernel
theorem dX11_makes_61 : decode cX11_makes 61 = .ok (.iconst 1, 1) := by decide +kernel
theorem dX11_makes_62 : decode cX11_makes 62 = .ok (.iadd, 1) := by decide +kernel
theorem dX11_makes_63 : decode cX11_makes 63 = .ok (.iload_n 2, 1) := by decide +kernel
theorem dX11_makes_64 : decode cX11_makes 64 = .ok (.iconst (-1), 1) := by decide +kernel
theorem dX11_makes_65 : decode cX11_makes 65 = .ok (.if_icmp .ne 10, 3) := by decide +kernel
theorem dX11_makes_68 : decode cX11_makes 68 = .ok (.aload_n 0, 1) := by decide +kernel
theorem dX11_makes_69 : decode cX11_makes 69 = .ok (.getfield 311, 3) := by decide +kernel
theorem dX11_makes_72 : decode cX11_makes 72 = .ok (.goto 4, 3) := by decide +kernel
theorem dX11_makes_75 : decode cX11_makes 75 = .ok (.iload_n 2, 1) := by decide +kernel
theorem dX11_makes_76 : decode cX11_makes 76 = .ok (.iastore, 1) := by decide +kernel
theorem dX11_makes_77 : decode cX11_makes 77 = .ok (.aload_n 0, 1) := by decide +kernel
theorem dX11_makes_78 : decode cX11_makes 78 = .ok (.getfield 311, 3) := by decide +kernel
theorem dX11_makes_81 : decode cX11_makes 81 = .ok (.ireturn, 1) := by decide +kernel
theorem dX11_chooses_0 : decode cX11_chooses 0 = .ok (.iload_n 1, 1) := by decide +kernel
theorem dX11_chooses_1 : decode cX11_chooses 1 = .ok (.aload_n 0, 1) := by decide +kernel
theorem dX11_chooses_2 : decode cX11_chooses 2 = .ok (.getfield 317, 3) := by decide +kernel
theorem dX11_chooses_5 : decode cX11_chooses 5 = .ok (.bipush 8, 2) := by decide +kernel
theorem dX11_chooses_7 : decode cX11_chooses 7 = .ok (.irem, 1) := by decide +kernel
theorem dX11_chooses_8 : decode cX11_chooses 8 = .ok (.ishr, 1) := by decide +kernel
theorem dX11_chooses_9 : decode cX11_chooses 9 = .ok (.iconst 1, 1) := by decide +kernel
theorem dX11_chooses_10 : decode cX11_chooses 10 = .ok (.iand, 1) := by decide +kernel
theorem dX11_chooses_11 : decode cX11_chooses 11 = .ok (.iconst 1, 1) := by decide +kernel
theorem dX11_chooses_12 : decode cX11_chooses 12 = .ok (.if_icmp .ne 7, 3) := by decide +kernel
theorem dX11_chooses_15 : decode cX11_chooses 15 = .ok (.iconst 1, 1) := by decide +kernel
theorem dX11_chooses_16 : decode cX11_chooses 16 = .ok (.goto 4, 3) := by decide +kernel
theorem dX11_chooses_19 : decode cX11_chooses 19 = .ok (.iconst 0, 1) := by decide +kernel
theorem dX11_chooses_20 : decode cX11_chooses 20 = .ok (.istore_n 2, 1) := by decide +kernel
theorem dX11_chooses_21 : decode cX11_chooses 21 = .ok (.aload_n 0, 1) := by decide +kernel
theorem dX11_chooses_22 : decode cX11_chooses 22 = .ok (.dup, 1) := by decide +kernel
theorem dX11_chooses_23 : decode cX11_chooses 23 = .ok (.getfield 317, 3) := by decide +kernel
theorem dX11_chooses_26 : decode cX11_chooses 26 = .ok (.iconst 1, 1) := by decide +kernel
theorem dX11_chooses_27 : decode cX11_chooses 27 = .ok (.iadd, 1) := by decide +kernel
theorem dX11_chooses_28 : decode cX11_chooses 28 = .ok (.putfield 317, 3) := by decide +kernel
theorem dX11_chooses_31 : decode cX11_chooses 31 = .ok (.iload_n 2, 1) := by decide +kernel
theorem dX11_chooses_32 : decode cX11_chooses 32 = .ok (.ireturn, 1) := by decide +kernel
theorem dX11_frame_0 : decode cX11_frame 0 = .ok (.iconst 0, 1) := by decide +kernel
theorem dX11_frame_1 : decode cX11_frame 1 = .ok (.istore_n 2, 1) := by decide +kernel
theorem dX11_frame_2 : decode cX11_frame 2 = .ok (.iload_n 2, 1) := by decide +kernel
theorem dX11_frame_3 : decode cX11_frame 3 = .ok (.bipush 26, 2) := by decide +kernel
theorem dX11_frame_5 : decode cX11_frame 5 = .ok (.if_icmp .ge 24, 3) := by decide +kernel
theorem dX11_frame_8 : decode cX11_frame 8 = .ok (.aload_n 0, 1) := by decide +kernel
theorem dX11_frame_9 : decode cX11_frame 9 = .ok (.getfield 106, 3) := by decide +kernel
theorem dX11_frame_12 : decode cX11_frame 12 = .ok (.bipush 26, 2) := by decide +kernel
theorem dX11_frame_14 : decode cX11_frame 14 = .ok (.aload_n 0, 1) := by decide +kernel
theorem dX11_frame_15 : decode cX11_frame 15 = .ok (.getfield 320, 3) := by decide +kernel
theorem dX11_frame_18 : decode cX11_frame 18 = .ok (.imul, 1) := by decide +kernel
theorem dX11_frame_19 : decode cX11_frame 19 = .ok (.iload_n 2, 1) := by decide +kernel
theorem dX11_frame_20 : decode cX11_frame 20 = .ok (.iadd, 1) := by decide +kernel
theorem dX11_frame_21 : decode cX11_frame 21 = .ok (.iconst 0, 1) := by decide +kernel
theorem dX11_frame_22 : decode cX11_frame 22 = .ok (.iastore, 1) := by decide +kernel
theorem dX11_frame_23 : decode cX11_frame 23 = .ok (.iinc 2 1, 3) := by decide +kernel
theorem dX11_frame_26 : decode cX11_frame 26 = .ok (.goto (-24), 3) := by decide +kernel
theorem dX11_frame_29 : decode cX11_frame 29 = .ok (.aload_n 0, 1) := by decide +kernel
theorem dX11_frame_30 : decode cX11_frame 30 = .ok (.getfield 109, 3) := by decide +kernel
theorem dX11_frame_33 : decode cX11_frame 33 = .ok (.aload_n 0, 1) := by decide +kernel
theorem dX11_frame_34 : decode cX11_frame 34 = .ok (.getfield 320, 3) := by decide +kernel
theorem dX11_frame_37 : decode cX11_frame 37 = .ok (.iload_n 1, 1) := by decide +kernel
theorem dX11_frame_38 : decode cX11_frame 38 = .ok (.iastore, 1) := by decide +kernel
theorem dX11_frame_39 : decode cX11_frame 39 = .ok (.aload_n 0, 1) := by decide +kernel
theorem dX11_frame_40 : decode cX11_frame 40 = .ok (.dup, 1) := by decide +kernel
theorem dX11_frame_41 : decode cX11_frame 41 = .ok (.getfield 320, 3) := by decide +kernel
theorem dX11_frame_44 : decode cX11_frame 44 = .ok (.iconst 1, 1) := by decide +kernel
theorem dX11_frame_45 : decode cX11_frame 45 = .ok (.iadd, 1) := by decide +kernel
theorem dX11_frame_46 : decode cX11_frame 46 = .ok (.putfield 320, 3) := by decide +kernel
theorem dX11_frame_49 : decode cX11_frame 49 = .ok (.return_, 1) := by decide +kernel
theorem dX11_canRun_0 : decode cX11_canRun 0 = .ok (.aload_n 0, 1) := by decide +kernel
theorem dX11_canRun_1 : decode cX11_canRun 1 = .ok (.getfield 83, 3) := by decide +kernel
theorem dX11_canRun_4 : decode cX11_canRun 4 = .ok (.iconst (-1), 1) := by decide +kernel
theorem dX11_canRun_5 : decode cX11_canRun 5 = .ok (.if_icmp .eq 33, 3) := by decide +kernel
theorem dX11_canRun_8 : decode cX11_canRun 8 = .ok (.iload_n 2, 1) := by decide +kernel
theorem dX11_canRun_9 : decode cX11_canRun 9 = .ok (.ifCond .lt 29, 3) := by decide +kernel
theorem dX11_canRun_12 : decode cX11_canRun 12 = .ok (.iload_n 2, 1) := by decide +kernel
theorem dX11_canRun_13 : decode cX11_canRun 13 = .ok (.sipush 255, 3) := by decide +kernel
theorem dX11_canRun_16 : decode cX11_canRun 16 = .ok (.if_icmp .gt 22, 3) := by decide +kernel
theorem dX11_canRun_19 : decode cX11_canRun 19 = .ok (.iload_n 1, 1) := by decide +kernel
theorem dX11_canRun_20 : decode cX11_canRun 20 = .ok (.ifCond .lt 18, 3) := by decide +kernel
theorem dX11_canRun_23 : decode cX11_canRun 23 = .ok (.iload_n 1, 1) := by decide +kernel
theorem dX11_canRun_24 : decode cX11_canRun 24 = .ok (.iconst 1, 1) := by decide +kernel
theorem dX11_canRun_25 : decode cX11_canRun 25 = .ok (.aload_n 0, 1) := by decide +kernel
theorem dX11_canRun_26 : decode cX11_canRun 26 = .ok (.getfield 35, 3) := by decide +kernel
theorem dX11_canRun_29 : decode cX11_canRun 29 = .ok (.aload_n 0, 1) := by decide +kernel
theorem dX11_canRun_30 : decode cX11_canRun 30 = .ok (.getfield 83, 3) := by decide +kernel
theorem dX11_canRun_33 : decode cX11_canRun 33 = .ok (.iaload, 1) := by decide +kernel
theorem dX11_canRun_34 : decode cX11_canRun 34 = .ok (.ishl, 1) := by decide +kernel
theorem dX11_canRun_35 : decode cX11_canRun 35 = .ok (.if_icmp .lt 5, 3) := by decide +kernel
theorem dX11_canRun_38 : decode cX11_canRun 38 = .ok (.iconst 0, 1) := by decide +kernel
theorem dX11_canRun_39 : decode cX11_canRun 39 = .ok (.ireturn, 1) := by decide +kernel
theorem dX11_canRun_40 : decode cX11_canRun 40 = .ok (.iconst 0, 1) := by decide +kernel
theorem dX11_canRun_41 : decode cX11_canRun 41 = .ok (.istore_n 3, 1) := by decide +kernel
theorem dX11_canRun_42 : decode cX11_canRun 42 = .ok (.iload_n 3, 1) := by decide +kernel
theorem dX11_canRun_43 : decode cX11_canRun 43 = .ok (.aload_n 0, 1) := by decide +kernel
theorem dX11_canRun_44 : decode cX11_canRun 44 = .ok (.getfield 35, 3) := by decide +kernel
theorem dX11_canRun_47 : decode cX11_canRun 47 = .ok (.aload_n 0, 1) := by decide +kernel
theorem dX11_canRun_48 : decode cX11_canRun 48 = .ok (.getfield 83, 3) := by decide +kernel
theorem dX11_canRun_51 : decode cX11_canRun 51 = .ok (.iaload, 1) := by decide +kernel
theorem dX11_canRun_52 : decode cX11_canRun 52 = .ok (.if_icmp .ge 28, 3) := by decide +kernel
theorem dX11_canRun_55 : decode cX11_canRun 55 = .ok (.aload_n 0, 1) := by decide +kernel
theorem dX11_canRun_56 : decode cX11_canRun 56 = .ok (.getfield 86, 3) := by decide +kernel
theorem dX11_canRun_59 : decode cX11_canRun 59 = .ok (.iload_n 3, 1) := by decide +kernel
theorem dX11_canRun_60 : decode cX11_canRun 60 = .ok (.iaload, 1) := by decide +kernel
theorem dX11_canRun_61 : decode cX11_canRun 61 = .ok (.iload_n 1, 1) := by decide +kernel
theorem dX11_canRun_62 : decode cX11_canRun 62 = .ok (.iload_n 3, 1) := by decide +kernel
theorem dX11_canRun_63 : decode cX11_canRun 63 = .ok (.ishr, 1) := by decide +kernel
theorem dX11_canRun_64 : decode cX11_canRun 64 = .ok (.iconst 1, 1) := by decide +kernel
theorem dX11_canRun_65 : decode cX11_canRun 65 = .ok (.iand, 1) := by decide +kernel
theorem dX11_canRun_66 : decode cX11_canRun 66 = .ok (.ishr, 1) := by decide +kernel
theorem dX11_canRun_67 : decode cX11_canRun 67 = .ok (.iconst 1, 1) := by decide +kernel
theorem dX11_canRun_68 : decode cX11_canRun 68 = .ok (.iand, 1) := by decide +kernel
theorem dX11_canRun_69 : decode cX11_canRun 69 = .ok (.ifCond .ne 5, 3) := by decide +kernel
theorem dX11_canRun_72 : decode cX11_canRun 72 = .ok (.iconst 0, 1) := by decide +kernel
theorem dX11_canRun_73 : decode cX11_canRun 73 = .ok (.ireturn, 1) := by decide +kernel
theorem dX11_canRun_74 : decode cX11_canRun 74 = .ok (.iinc 3 1, 3) := by decide +kernel
theorem dX11_canRun_77 : decode cX11_canRun 77 = .ok (.goto (-35), 3) := by decide +kernel
theorem dX11_canRun_80 : decode cX11_canRun 80 = .ok (.iconst 1, 1) := by decide +kernel
theorem dX11_canRun_81 : decode cX11_canRun 81 = .ok (.ireturn, 1) := by decide +kernel
theorem dX11_runs_0 : decode cX11_runs 0 = .ok (.aload_n 0, 1) := by decide +kernel
theorem dX11_runs_1 : decode cX11_runs 1 = .ok (.iconst 0, 1) := by decide +kernel
theorem dX11_runs_2 : decode cX11_runs 2 = .ok (.putfield 311, 3) := by decide +kernel
theorem dX11_runs_5 : decode cX11_runs 5 = .ok (.aload_n 0, 1) := by decide +kernel
theorem dX11_runs_6 : decode cX11_runs 6 = .ok (.iconst 0, 1) := by decide +kernel
theorem dX11_runs_7 : decode cX11_runs 7 = .ok (.putfield 320, 3) := by decide +kernel
theorem dX11_runs_10 : decode cX11_runs 10 = .ok (.aload_n 0, 1) := by decide +kernel
theorem dX11_runs_11 : decode cX11_runs 11 = .ok (.iconst 0, 1) := by decide +kernel
theorem dX11_runs_12 : decode cX11_runs 12 = .ok (.putfield 323, 3) := by decide +kernel
theorem dX11_runs_15 : decode cX11_runs 15 = .ok (.aload_n 0, 1) := by decide +kernel
theorem dX11_runs_16 : decode cX11_runs 16 = .ok (.iconst 0, 1) := by decide +kernel
theorem dX11_runs_17 : decode cX11_runs 17 = .ok (.putfield 317, 3) := by decide +kernel
theorem dX11_runs_20 : decode cX11_runs 20 = .ok (.aload_n 0, 1) := by decide +kernel
theorem dX11_runs_21 : decode cX11_runs 21 = .ok (.iconst (-1), 1) := by decide +kernel
theorem dX11_runs_22 : decode cX11_runs 22 = .ok (.putfield 326, 3) := by decide +kernel
theorem dX11_runs_25 : decode cX11_runs 25 = .ok (.aload_n 0, 1) := by decide +kernel
theorem dX11_runs_26 : decode cX11_runs 26 = .ok (.iconst (-1), 1) := by decide +kernel
theorem dX11_runs_27 : decode cX11_runs 27 = .ok (.putfield 314, 3) := by decide +kernel
theorem dX11_runs_30 : decode cX11_runs 30 = .ok (.aload_n 0, 1) := by decide +kernel
theorem dX11_runs_31 : decode cX11_runs 31 = .ok (.iconst 0, 1) := by decide +kernel
theorem dX11_runs_32 : decode cX11_runs 32 = .ok (.putfield 329, 3) := by decide +kernel
theorem dX11_runs_35 : decode cX11_runs 35 = .ok (.aload_n 0, 1) := by decide +kernel
theorem dX11_runs_36 : decode cX11_runs 36 = .ok (.iconst (-1), 1) := by decide +kernel
theorem dX11_runs_37 : decode cX11_runs 37 = .ok (.invokevirtual 332, 3) := by decide +kernel
theorem dX11_runs_40 : decode cX11_runs 40 = .ok (.iconst 0, 1) := by decide +kernel
theorem dX11_runs_41 : decode cX11_runs 41 = .ok (.istore_n 3, 1) := by decide +kernel
theorem dX11_runs_42 : decode cX11_runs 42 = .ok (.iload_n 3, 1) := by decide +kernel
theorem dX11_runs_43 : decode cX11_runs 43 = .ok (.aload_n 0, 1) := by decide +kernel
theorem dX11_runs_44 : decode cX11_runs 44 = .ok (.getfield 35, 3) := by decide +kernel
theorem dX11_runs_47 : decode cX11_runs 47 = .ok (.aload_n 0, 1) := by decide +kernel
theorem dX11_runs_48 : decode cX11_runs 48 = .ok (.getfield 83, 3) := by decide +kernel
theorem dX11_runs_51 : decode cX11_runs 51 = .ok (.iaload, 1) := by decide +kernel
theorem dX11_runs_52 : decode cX11_runs 52 = .ok (.if_icmp .ge 46, 3) := by decide +kernel
theorem dX11_runs_55 : decode cX11_runs 55 = .ok (.aload_n 0, 1) := by decide +kernel
theorem dX11_runs_56 : decode cX11_runs 56 = .ok (.getfield 106, 3) := by decide +kernel
theorem dX11_runs_59 : decode cX11_runs 59 = .ok (.aload_n 0, 1) := by decide +kernel
theorem dX11_runs_60 : decode cX11_runs 60 = .ok (.getfield 38, 3) := by decide +kernel
theorem dX11_runs_63 : decode cX11_runs 63 = .ok (.iconst 4, 1) := by decide +kernel
theorem dX11_runs_64 : decode cX11_runs 64 = .ok (.aload_n 0, 1) := by decide +kernel
theorem dX11_runs_65 : decode cX11_runs 65 = .ok (.getfield 83, 3) := by decide +kernel
theorem dX11_runs_68 : decode cX11_runs 68 = .ok (.imul, 1) := by decide +kernel
theorem dX11_runs_69 : decode cX11_runs 69 = .ok (.iload_n 3, 1) := by decide +kernel
theorem dX11_runs_70 : decode cX11_runs 70 = .ok (.iadd, 1) := by decide +kernel
theorem dX11_runs_71 : decode cX11_runs 71 = .ok (.iaload, 1) := by decide +kernel
theorem dX11_runs_72 : decode cX11_runs 72 = .ok (.iload_n 1, 1) := by decide +kernel
theorem dX11_runs_73 : decode cX11_runs 73 = .ok (.iload_n 3, 1) := by decide +kernel
theorem dX11_runs_74 : decode cX11_runs 74 = .ok (.ishr, 1) := by decide +kernel
theorem dX11_runs_75 : decode cX11_runs 75 = .ok (.iconst 1, 1) := by decide +kernel
theorem dX11_runs_76 : decode cX11_runs 76 = .ok (.iand, 1) := by decide +kernel
theorem dX11_runs_77 : decode cX11_runs 77 = .ok (.iconst 1, 1) := by decide +kernel
theorem dX11_runs_78 : decode cX11_runs 78 = .ok (.if_icmp .ne 12, 3) := by decide +kernel
theorem dX11_runs_81 : decode cX11_runs 81 = .ok (.aload_n 0, 1) := by decide +kernel
theorem dX11_runs_82 : decode cX11_runs 82 = .ok (.iconst (-1), 1) := by decide +kernel
theorem dX11_runs_83 : decode cX11_runs 83 = .ok (.iconst (-1), 1) := by decide +kernel
theorem dX11_runs_84 : decode cX11_runs 84 = .ok (.invokevirtual 335, 3) := by decide +kernel
theorem dX11_runs_87 : decode cX11_runs 87 = .ok (.goto 4, 3) := by decide +kernel
theorem dX11_runs_90 : decode cX11_runs 90 = .ok (.iconst 0, 1) := by decide +kernel
theorem dX11_runs_91 : decode cX11_runs 91 = .ok (.iastore, 1) := by decide +kernel
theorem dX11_runs_92 : decode cX11_runs 92 = .ok (.iinc 3 1, 3) := by decide +kernel
theorem dX11_runs_95 : decode cX11_runs 95 = .ok (.goto (-53), 3) := by decide +kernel
theorem dX11_runs_98 : decode cX11_runs 98 = .ok (.aload_n 0, 1) := by decide +kernel
theorem dX11_runs_99 : decode cX11_runs 99 = .ok (.getfield 32, 3) := by decide +kernel
theorem dX11_runs_102 : decode cX11_runs 102 = .ok (.aload_n 0, 1) := by decide +kernel
theorem dX11_runs_103 : decode cX11_runs 103 = .ok (.getfield 83, 3) := by decide +kernel
theorem dX11_runs_106 : decode cX11_runs 106 = .ok (.iaload, 1) := by decide +kernel
theorem dX11_runs_107 : decode cX11_runs 107 = .ok (.istore_n 3, 1) := by decide +kernel
theorem dX11_runs_108 : decode cX11_runs 108 = .ok (.aload_n 0, 1) := by decide +kernel
theorem dX11_runs_109 : decode cX11_runs 109 = .ok (.getfield 314, 3) := by decide +kernel
theorem dX11_runs_112 : decode cX11_runs 112 = .ok (.iconst (-1), 1) := by decide +kernel
theorem dX11_runs_113 : decode cX11_runs 113 = .ok (.if_icmp .ne 13, 3) := by decide +kernel
theorem dX11_runs_116 : decode cX11_runs 116 = .ok (.aload_n 0, 1) := by decide +kernel
theorem dX11_runs_117 : decode cX11_runs 117 = .ok (.iload_n 3, 1) := by decide +kernel
theorem dX11_runs_118 : decode cX11_runs 118 = .ok (.iload_n 2, 1) := by decide +kernel
theorem dX11_runs_119 : decode cX11_runs 119 = .ok (.invokevirtual 338, 3) := by decide +kernel
theorem dX11_runs_122 : decode cX11_runs 122 = .ok (.istore_n 3, 1) := by decide +kernel
theorem dX11_runs_123 : decode cX11_runs 123 = .ok (.goto (-15), 3) := by decide +kernel
theorem dX11_runs_126 : decode cX11_runs 126 = .ok (.return_, 1) := by decide +kernel
theorem dX11_nameOf_0 : decode cX11_nameOf 0 = .ok (.aload_n 0, 1) := by decide +kernel
theorem dX11_nameOf_1 : decode cX11_nameOf 1 = .ok (.getfield 106, 3) := by decide +kernel
theorem dX11_nameOf_4 : decode cX11_nameOf 4 = .ok (.bipush 26, 2) := by decide +kernel
theorem dX11_nameOf_6 : decode cX11_nameOf 6 = .ok (.aload_n 0, 1) := by decide +kernel
theorem dX11_nameOf_7 : decode cX11_nameOf 7 = .ok (.getfield 320, 3) := by decide +kernel
theorem dX11_nameOf_10 : decode cX11_nameOf 10 = .ok (.iconst 1, 1) := by decide +kernel
theorem dX11_nameOf_11 : decode cX11_nameOf 11 = .ok (.isub, 1) := by decide +kernel
theorem dX11_nameOf_12 : decode cX11_nameOf 12 = .ok (.imul, 1) := by decide +kernel
theorem dX11_nameOf_13 : decode cX11_nameOf 13 = .ok (.iload_n 1, 1) := by decide +kernel
theorem dX11_nameOf_14 : decode cX11_nameOf 14 = .ok (.iadd, 1) := by decide +kernel
theorem dX11_nameOf_15 : decode cX11_nameOf 15 = .ok (.iaload, 1) := by decide +kernel
theorem dX11_nameOf_16 : decode cX11_nameOf 16 = .ok (.ireturn, 1) := by decide +kernel
theorem dX11_step_0 : decode cX11_step 0 = .ok (.aload_n 0, 1) := by decide +kernel
theorem dX11_step_1 : decode cX11_step 1 = .ok (.getfield 323, 3) := by decide +kernel
theorem dX11_step_4 : decode cX11_step 4 = .ok (.sipush 400, 3) := by decide +kernel
theorem dX11_step_7 : decode cX11_step 7 = .ok (.if_icmp .ne 11, 3) := by decide +kernel
theorem dX11_step_10 : decode cX11_step 10 = .ok (.aload_n 0, 1) := by decide +kernel
theorem dX11_step_11 : decode cX11_step 11 = .ok (.iconst 3, 1) := by decide +kernel
theorem dX11_step_12 : decode cX11_step 12 = .ok (.putfield 314, 3) := by decide +kernel
theorem dX11_step_15 : decode cX11_step 15 = .ok (.goto 13, 3) := by decide +kernel
theorem dX11_step_18 : decode cX11_step 18 = .ok (.aload_n 0, 1) := by decide +kernel
theorem dX11_step_19 : decode cX11_step 19 = .ok (.dup, 1) := by decide +kernel
theorem dX11_step_20 : decode cX11_step 20 = .ok (.getfield 323, 3) := by decide +kernel
theorem dX11_step_23 : decode cX11_step 23 = .ok (.iconst 1, 1) := by decide +kernel
theorem dX11_step_24 : decode cX11_step 24 = .ok (.iadd, 1) := by decide +kernel
theorem dX11_step_25 : decode cX11_step 25 = .ok (.putfield 323, 3) := by decide +kernel
theorem dX11_step_28 : decode cX11_step 28 = .ok (.return_, 1) := by decide +kernel
theorem dX11_does_0 : decode cX11_does 0 = .ok (.aload_n 0, 1) := by decide +kernel
theorem dX11_does_1 : decode cX11_does 1 = .ok (.getfield 17, 3) := by decide +kernel
theorem dX11_does_4 : decode cX11_does 4 = .ok (.iload_n 1, 1) := by decide +kernel
theorem dX11_does_5 : decode cX11_does 5 = .ok (.iaload, 1) := by decide +kernel
theorem dX11_does_6 : decode cX11_does 6 = .ok (.tableswitch 370 0 13 #[70, 77, 85, 110, 141, 158, 215, 221, 249, 306, 370, 370, 370, 349], 70) := by decide +kernel
theorem dX11_does_76 : decode cX11_does 76 = .ok (.aload_n 0, 1) := by decide +kernel
theorem dX11_does_77 : decode cX11_does 77 = .ok (.invokevirtual 341, 3) := by decide +kernel
theorem dX11_does_80 : decode cX11_does 80 = .ok (.goto 375, 3) := by decide +kernel
theorem dX11_does_83 : decode cX11_does 83 = .ok (.aload_n 0, 1) := by decide +kernel
theorem dX11_does_84 : decode cX11_does 84 = .ok (.iconst 0, 1) := by decide +kernel
theorem dX11_does_85 : decode cX11_does 85 = .ok (.putfield 329, 3) := by decide +kernel
theorem dX11_does_88 : decode cX11_does 88 = .ok (.goto 367, 3) := by decide +kernel
theorem dX11_does_91 : decode cX11_does 91 = .ok (.aload_n 0, 1) := by decide +kernel
theorem dX11_does_92 : decode cX11_does 92 = .ok (.aload_n 0, 1) := by decide +kernel
theorem dX11_does_93 : decode cX11_does 93 = .ok (.iload_n 2, 1) := by decide +kernel
theorem dX11_does_94 : decode cX11_does 94 = .ok (.invokevirtual 344, 3) := by decide +kernel
theorem dX11_does_97 : decode cX11_does 97 = .ok (.ifCond .eq 12, 3) := by decide +kernel
theorem dX11_does_100 : decode cX11_does 100 = .ok (.aload_n 0, 1) := by decide +kernel
theorem dX11_does_101 : decode cX11_does 101 = .ok (.iconst (-1), 1) := by decide +kernel
theorem dX11_does_102 : decode cX11_does 102 = .ok (.iconst (-1), 1) := by decide +kernel
theorem dX11_does_103 : decode cX11_does 103 = .ok (.invokevirtual 335, 3) := by decide +kernel
theorem dX11_does_106 : decode cX11_does 106 = .ok (.goto 4, 3) := by decide +kernel
theorem dX11_does_109 : decode cX11_does 109 = .ok (.iconst 0, 1) := by decide +kernel
theorem dX11_does_110 : decode cX11_does 110 = .ok (.putfield 329, 3) := by decide +kernel
theorem dX11_does_113 : decode cX11_does 113 = .ok (.goto 342, 3) := by decide +kernel
theorem dX11_does_116 : decode cX11_does 116 = .ok (.aload_n 0, 1) := by decide +kernel
theorem dX11_does_117 : decode cX11_does 117 = .ok (.aload_n 0, 1) := by decide +kernel
theorem dX11_does_118 : decode cX11_does 118 = .ok (.aload_n 0, 1) := by decide +kernel
theorem dX11_does_119 : decode cX11_does 119 = .ok (.aload_n 0, 1) := by decide +kernel
theorem dX11_does_120 : decode cX11_does 120 = .ok (.getfield 20, 3) := by decide +kernel
theorem dX11_does_123 : decode cX11_does 123 = .ok (.iload_n 1, 1) := by decide +kernel
theorem dX11_does_124 : decode cX11_does 124 = .ok (.iaload, 1) := by decide +kernel
theorem dX11_does_125 : decode cX11_does 125 = .ok (.invokevirtual 347, 3) := by decide +kernel
theorem dX11_does_128 : decode cX11_does 128 = .ok (.aload_n 0, 1) := by decide +kernel
theorem dX11_does_129 : decode cX11_does 129 = .ok (.aload_n 0, 1) := by decide +kernel
theorem dX11_does_130 : decode cX11_does 130 = .ok (.getfield 23, 3) := by decide +kernel
theorem dX11_does_133 : decode cX11_does 133 = .ok (.iload_n 1, 1) := by decide +kernel
theorem dX11_does_134 : decode cX11_does 134 = .ok (.iaload, 1) := by decide +kernel
theorem dX11_does_135 : decode cX11_does 135 = .ok (.invokevirtual 347, 3) := by decide +kernel
theorem dX11_does_138 : decode cX11_does 138 = .ok (.invokevirtual 335, 3) := by decide +kernel
theorem dX11_does_141 : decode cX11_does 141 = .ok (.putfield 329, 3) := by decide +kernel
theorem dX11_does_144 : decode cX11_does 144 = .ok (.goto 311, 3) := by decide +kernel
theorem dX11_does_147 : decode cX11_does 147 = .ok (.aload_n 0, 1) := by decide +kernel
theorem dX11_does_148 : decode cX11_does 148 = .ok (.aload_n 0, 1) := by decide +kernel
theorem dX11_does_149 : decode cX11_does 149 = .ok (.aload_n 0, 1) := by decide +kernel
theorem dX11_does_150 : decode cX11_does 150 = .ok (.getfield 20, 3) := by decide +kernel
theorem dX11_does_153 : decode cX11_does 153 = .ok (.iload_n 1, 1) := by decide +kernel
theorem dX11_does_154 : decode cX11_does 154 = .ok (.iaload, 1) := by decide +kernel
theorem dX11_does_155 : decode cX11_does 155 = .ok (.invokevirtual 347, 3) := by decide +kernel
theorem dX11_does_158 : decode cX11_does 158 = .ok (.putfield 329, 3) := by decide +kernel
theorem dX11_does_161 : decode cX11_does 161 = .ok (.goto 294, 3) := by decide +kernel
theorem dX11_does_164 : decode cX11_does 164 = .ok (.aload_n 0, 1) := by decide +kernel
theorem dX11_does_165 : decode cX11_does 165 = .ok (.aload_n 0, 1) := by decide +kernel
theorem dX11_does_166 : decode cX11_does 166 = .ok (.getfield 20, 3) := by decide +kernel
theorem dX11_does_169 : decode cX11_does 169 = .ok (.iload_n 1, 1) := by decide +kernel
theorem dX11_does_170 : decode cX11_does 170 = .ok (.iaload, 1) := by decide +kernel
theorem dX11_does_171 : decode cX11_does 171 = .ok (.invokevirtual 347, 3) := by decide +kernel
theorem dX11_does_174 : decode cX11_does 174 = .ok (.ifCond .ne 16, 3) := by decide +kernel
theorem dX11_does_177 : decode cX11_does 177 = .ok (.aload_n 0, 1) := by decide +kernel
theorem dX11_does_178 : decode cX11_does 178 = .ok (.aload_n 0, 1) := by decide +kernel
theorem dX11_does_179 : decode cX11_does 179 = .ok (.getfield 26, 3) := by decide +kernel
theorem dX11_does_182 : decode cX11_does 182 = .ok (.iload_n 1, 1) := by decide +kernel
theorem dX11_does_183 : decode cX11_does 183 = .ok (.iaload, 1) := by decide +kernel
theorem dX11_does_184 : decode cX11_does 184 = .ok (.invokevirtual 350, 3) := by decide +kernel
theorem dX11_does_187 : decode cX11_does 187 = .ok (.goto 268, 3) := by decide +kernel
theorem dX11_does_190 : decode cX11_does 190 = .ok (.aload_n 0, 1) := by decide +kernel
theorem dX11_does_191 : decode cX11_does 191 = .ok (.aload_n 0, 1) := by decide +kernel
theorem dX11_does_192 : decode cX11_does 192 = .ok (.getfield 103, 3) := by decide +kernel
theorem dX11_does_195 : decode cX11_does 195 = .ok (.iconst 2, 1) := by decide +kernel
theorem dX11_does_196 : decode cX11_does 196 = .ok (.aload_n 0, 1) := by decide +kernel
theorem dX11_does_197 : decode cX11_does 197 = .ok (.aload_n 0, 1) := by decide +kernel
theorem dX11_does_198 : decode cX11_does 198 = .ok (.getfield 20, 3) := by decide +kernel
theorem dX11_does_201 : decode cX11_does 201 = .ok (.iload_n 1, 1) := by decide +kernel
theorem dX11_does_202 : decode cX11_does 202 = .ok (.iaload, 1) := by decide +kernel
theorem dX11_does_203 : decode cX11_does 203 = .ok (.invokevirtual 347, 3) := by decide +kernel
theorem dX11_does_206 : decode cX11_does 206 = .ok (.imul, 1) := by decide +kernel
theorem dX11_does_207 : decode cX11_does 207 = .ok (.aload_n 0, 1) := by decide +kernel
theorem dX11_does_208 : decode cX11_does 208 = .ok (.getfield 23, 3) := by decide +kernel
theorem dX11_does_211 : decode cX11_does 211 = .ok (.iload_n 1, 1) := by decide +kernel
theorem dX11_does_212 : decode cX11_does 212 = .ok (.iaload, 1) := by decide +kernel
theorem dX11_does_213 : decode cX11_does 213 = .ok (.iadd, 1) := by decide +kernel
theorem dX11_does_214 : decode cX11_does 214 = .ok (.iaload, 1) := by decide +kernel
theorem dX11_does_215 : decode cX11_does 215 = .ok (.putfield 329, 3) := by decide +kernel
theorem dX11_does_218 : decode cX11_does 218 = .ok (.goto 237, 3) := by decide +kernel
theorem dX11_does_221 : decode cX11_does 221 = .ok (.aload_n 0, 1) := by decide +kernel
theorem dX11_does_222 : decode cX11_does 222 = .ok (.iload_n 1, 1) := by decide +kernel
theorem dX11_does_223 : decode cX11_does 223 = .ok (.invokevirtual 353, 3) := by decide +kernel
theorem dX11_does_226 : decode cX11_does 226 = .ok (.ireturn, 1) := by decide +kernel
theorem dX11_does_227 : decode cX11_does 227 = .ok (.aload_n 0, 1) := by decide +kernel
theorem dX11_does_228 : decode cX11_does 228 = .ok (.getfield 106, 3) := by decide +kernel
theorem dX11_does_231 : decode cX11_does 231 = .ok (.bipush 26, 2) := by decide +kernel
theorem dX11_does_233 : decode cX11_does 233 = .ok (.aload_n 0, 1) := by decide +kernel
theorem dX11_does_234 : decode cX11_does 234 = .ok (.getfield 320, 3) := by decide +kernel
theorem dX11_does_237 : decode cX11_does 237 = .ok (.iconst 1, 1) := by decide +kernel
theorem dX11_does_238 : decode cX11_does 238 = .ok (.isub, 1) := by decide +kernel
theorem dX11_does_239 : decode cX11_does 239 = .ok (.imul, 1) := by decide +kernel
theorem dX11_does_240 : decode cX11_does 240 = .ok (.aload_n 0, 1) := by decide +kernel
theorem dX11_does_241 : decode cX11_does 241 = .ok (.getfield 20, 3) := by decide +kernel
theorem dX11_does_244 : decode cX11_does 244 = .ok (.iload_n 1, 1) := by decide +kernel
theorem dX11_does_245 : decode cX11_does 245 = .ok (.iaload, 1) := by decide +kernel
theorem dX11_does_246 : decode cX11_does 246 = .ok (.iadd, 1) := by decide +kernel
theorem dX11_does_247 : decode cX11_does 247 = .ok (.aload_n 0, 1) := by decide +kernel
theorem dX11_does_248 : decode cX11_does 248 = .ok (.getfield 329, 3) := by decide +kernel
theorem dX11_does_251 : decode cX11_does 251 = .ok (.iastore, 1) := by decide +kernel
theorem dX11_does_252 : decode cX11_does 252 = .ok (.goto 203, 3) := by decide +kernel
theorem dX11_does_255 : decode cX11_does 255 = .ok (.aload_n 0, 1) := by decide +kernel
theorem dX11_does_256 : decode cX11_does 256 = .ok (.aload_n 0, 1) := by decide +kernel
theorem dX11_does_257 : decode cX11_does 257 = .ok (.getfield 20, 3) := by decide +kernel
theorem dX11_does_260 : decode cX11_does 260 = .ok (.iload_n 1, 1) := by decide +kernel
theorem dX11_does_261 : decode cX11_does 261 = .ok (.iaload, 1) := by decide +kernel
theorem dX11_does_262 : decode cX11_does 262 = .ok (.invokevirtual 347, 3) := by decide +kernel
theorem dX11_does_265 : decode cX11_does 265 = .ok (.ifCond .ne 16, 3) := by decide +kernel
theorem dX11_does_268 : decode cX11_does 268 = .ok (.aload_n 0, 1) := by decide +kernel
theorem dX11_does_269 : decode cX11_does 269 = .ok (.aload_n 0, 1) := by decide +kernel
theorem dX11_does_270 : decode cX11_does 270 = .ok (.getfield 26, 3) := by decide +kernel
theorem dX11_does_273 : decode cX11_does 273 = .ok (.iload_n 1, 1) := by decide +kernel
theorem dX11_does_274 : decode cX11_does 274 = .ok (.iaload, 1) := by decide +kernel
theorem dX11_does_275 : decode cX11_does 275 = .ok (.invokevirtual 350, 3) := by decide +kernel
theorem dX11_does_278 : decode cX11_does 278 = .ok (.goto 177, 3) := by decide +kernel
theorem dX11_does_281 : decode cX11_does 281 = .ok (.aload_n 0, 1) := by decide +kernel
theorem dX11_does_282 : decode cX11_does 282 = .ok (.getfield 103, 3) := by decide +kernel
theorem dX11_does_285 : decode cX11_does 285 = .ok (.iconst 2, 1) := by decide +kernel
theorem dX11_does_286 : decode cX11_does 286 = .ok (.aload_n 0, 1) := by decide +kernel
theorem dX11_does_287 : decode cX11_does 287 = .ok (.aload_n 0, 1) := by decide +kernel
theorem dX11_does_288 : decode cX11_does 288 = .ok (.getfield 20, 3) := by decide +kernel
theorem dX11_does_291 : decode cX11_does 291 = .ok (.iload_n 1, 1) := by decide +kernel
theorem dX11_does_292 : decode cX11_does 292 = .ok (.iaload, 1) := by decide +kernel
theorem dX11_does_293 : decode cX11_does 293 = .ok (.invokevirtual 347, 3) := by decide +kernel
theorem dX11_does_296 : decode cX11_does 296 = .ok (.imul, 1) := by decide +kernel
theorem dX11_does_297 : decode cX11_does 297 = .ok (.aload_n 0, 1) := by decide +kernel
theorem dX11_does_298 : decode cX11_does 298 = .ok (.getfield 23, 3) := by decide +kernel
theorem dX11_does_301 : decode cX11_does 301 = .ok (.iload_n 1, 1) := by decide +kernel
theorem dX11_does_302 : decode cX11_does 302 = .ok (.iaload, 1) := by decide +kernel
theorem dX11_does_303 : decode cX11_does 303 = .ok (.iadd, 1) := by decide +kernel
theorem dX11_does_304 : decode cX11_does 304 = .ok (.aload_n 0, 1) := by decide +kernel
theorem dX11_does_305 : decode cX11_does 305 = .ok (.getfield 329, 3) := by decide +kernel
theorem dX11_does_308 : decode cX11_does 308 = .ok (.iastore, 1) := by decide +kernel
theorem dX11_does_309 : decode cX11_does 309 = .ok (.goto 146, 3) := by decide +kernel
theorem dX11_does_312 : decode cX11_does 312 = .ok (.aload_n 0, 1) := by decide +kernel
theorem dX11_does_313 : decode cX11_does 313 = .ok (.dup, 1) := by decide +kernel
theorem dX11_does_314 : decode cX11_does 314 = .ok (.getfield 320, 3) := by decide +kernel
theorem dX11_does_317 : decode cX11_does 317 = .ok (.iconst 1, 1) := by decide +kernel
theorem dX11_does_318 : decode cX11_does 318 = .ok (.isub, 1) := by decide +kernel
theorem dX11_does_319 : decode cX11_does 319 = .ok (.putfield 320, 3) := by decide +kernel
theorem dX11_does_322 : decode cX11_does 322 = .ok (.aload_n 0, 1) := by decide +kernel
theorem dX11_does_323 : decode cX11_does 323 = .ok (.getfield 320, 3) := by decide +kernel
theorem dX11_does_326 : decode cX11_does 326 = .ok (.ifCond .ne 19, 3) := by decide +kernel
theorem dX11_does_329 : decode cX11_does 329 = .ok (.aload_n 0, 1) := by decide +kernel
theorem dX11_does_330 : decode cX11_does 330 = .ok (.aload_n 0, 1) := by decide +kernel
theorem dX11_does_331 : decode cX11_does 331 = .ok (.getfield 329, 3) := by decide +kernel
theorem dX11_does_334 : decode cX11_does 334 = .ok (.ifCond .ne 7, 3) := by decide +kernel
theorem dX11_does_337 : decode cX11_does 337 = .ok (.iconst 0, 1) := by decide +kernel
theorem dX11_does_338 : decode cX11_does 338 = .ok (.goto 4, 3) := by decide +kernel
theorem dX11_does_341 : decode cX11_does 341 = .ok (.iconst 1, 1) := by decide +kernel
theorem dX11_does_342 : decode cX11_does 342 = .ok (.putfield 314, 3) := by decide +kernel
theorem dX11_does_345 : decode cX11_does 345 = .ok (.aload_n 0, 1) := by decide +kernel
theorem dX11_does_346 : decode cX11_does 346 = .ok (.getfield 109, 3) := by decide +kernel
theorem dX11_does_349 : decode cX11_does 349 = .ok (.aload_n 0, 1) := by decide +kernel
theorem dX11_does_350 : decode cX11_does 350 = .ok (.getfield 320, 3) := by decide +kernel
theorem dX11_does_353 : decode cX11_does 353 = .ok (.iaload, 1) := by decide +kernel
theorem dX11_does_354 : decode cX11_does 354 = .ok (.ireturn, 1) := by decide +kernel
theorem dX11_does_355 : decode cX11_does 355 = .ok (.aload_n 0, 1) := by decide +kernel
theorem dX11_does_356 : decode cX11_does 356 = .ok (.getfield 23, 3) := by decide +kernel
theorem dX11_does_359 : decode cX11_does 359 = .ok (.iload_n 1, 1) := by decide +kernel
theorem dX11_does_360 : decode cX11_does 360 = .ok (.iaload, 1) := by decide +kernel
theorem dX11_does_361 : decode cX11_does 361 = .ok (.iconst 1, 1) := by decide +kernel
theorem dX11_does_362 : decode cX11_does 362 = .ok (.if_icmp .ne 7, 3) := by decide +kernel
theorem dX11_does_365 : decode cX11_does 365 = .ok (.aload_n 0, 1) := by decide +kernel
theorem dX11_does_366 : decode cX11_does 366 = .ok (.invokevirtual 341, 3) := by decide +kernel
theorem dX11_does_369 : decode cX11_does 369 = .ok (.aload_n 0, 1) := by decide +kernel
theorem dX11_does_370 : decode cX11_does 370 = .ok (.getfield 20, 3) := by decide +kernel
theorem dX11_does_373 : decode cX11_does 373 = .ok (.iload_n 1, 1) := by decide +kernel
theorem dX11_does_374 : decode cX11_does 374 = .ok (.iaload, 1) := by decide +kernel
theorem dX11_does_375 : decode cX11_does 375 = .ok (.ireturn, 1) := by decide +kernel
theorem dX11_does_376 : decode cX11_does 376 = .ok (.aload_n 0, 1) := by decide +kernel
theorem dX11_does_377 : decode cX11_does 377 = .ok (.getfield 17, 3) := by decide +kernel
theorem dX11_does_380 : decode cX11_does 380 = .ok (.iload_n 1, 1) := by decide +kernel
theorem dX11_does_381 : decode cX11_does 381 = .ok (.iaload, 1) := by decide +kernel
theorem dX11_does_382 : decode cX11_does 382 = .ok (.bipush 12, 2) := by decide +kernel
theorem dX11_does_384 : decode cX11_does 384 = .ok (.if_icmp .ne 11, 3) := by decide +kernel
theorem dX11_does_387 : decode cX11_does 387 = .ok (.aload_n 0, 1) := by decide +kernel
theorem dX11_does_388 : decode cX11_does 388 = .ok (.iload_n 2, 1) := by decide +kernel
theorem dX11_does_389 : decode cX11_does 389 = .ok (.invokevirtual 344, 3) := by decide +kernel
theorem dX11_does_392 : decode cX11_does 392 = .ok (.goto 45, 3) := by decide +kernel
theorem dX11_does_395 : decode cX11_does 395 = .ok (.aload_n 0, 1) := by decide +kernel
theorem dX11_does_396 : decode cX11_does 396 = .ok (.aload_n 0, 1) := by decide +kernel
theorem dX11_does_397 : decode cX11_does 397 = .ok (.getfield 20, 3) := by decide +kernel
theorem dX11_does_400 : decode cX11_does 400 = .ok (.iload_n 1, 1) := by decide +kernel
theorem dX11_does_401 : decode cX11_does 401 = .ok (.iaload, 1) := by decide +kernel
theorem dX11_does_402 : decode cX11_does 402 = .ok (.invokevirtual 347, 3) := by decide +kernel
theorem dX11_does_405 : decode cX11_does 405 = .ok (.ifCond .ne 7, 3) := by decide +kernel
theorem dX11_does_408 : decode cX11_does 408 = .ok (.iconst 1, 1) := by decide +kernel
theorem dX11_does_409 : decode cX11_does 409 = .ok (.goto 4, 3) := by decide +kernel
theorem dX11_does_412 : decode cX11_does 412 = .ok (.iconst 0, 1) := by decide +kernel
theorem dX11_does_413 : decode cX11_does 413 = .ok (.aload_n 0, 1) := by decide +kernel
theorem dX11_does_414 : decode cX11_does 414 = .ok (.getfield 17, 3) := by decide +kernel
theorem dX11_does_417 : decode cX11_does 417 = .ok (.iload_n 1, 1) := by decide +kernel
theorem dX11_does_418 : decode cX11_does 418 = .ok (.iaload, 1) := by decide +kernel
theorem dX11_does_419 : decode cX11_does 419 = .ok (.bipush 10, 2) := by decide +kernel
theorem dX11_does_421 : decode cX11_does 421 = .ok (.if_icmp .ne 7, 3) := by decide +kernel
theorem dX11_does_424 : decode cX11_does 424 = .ok (.iconst 1, 1) := by decide +kernel
theorem dX11_does_425 : decode cX11_does 425 = .ok (.goto 4, 3) := by decide +kernel
theorem dX11_does_428 : decode cX11_does 428 = .ok (.iconst 0, 1) := by decide +kernel
theorem dX11_does_429 : decode cX11_does 429 = .ok (.if_icmp .ne 7, 3) := by decide +kernel
theorem dX11_does_432 : decode cX11_does 432 = .ok (.iconst 1, 1) := by decide +kernel
theorem dX11_does_433 : decode cX11_does 433 = .ok (.goto 4, 3) := by decide +kernel
theorem dX11_does_436 : decode cX11_does 436 = .ok (.iconst 0, 1) := by decide +kernel
theorem dX11_does_437 : decode cX11_does 437 = .ok (.istore_n 3, 1) := by decide +kernel
theorem dX11_does_438 : decode cX11_does 438 = .ok (.iload_n 3, 1) := by decide +kernel
theorem dX11_does_439 : decode cX11_does 439 = .ok (.ifCond .eq 9, 3) := by decide +kernel
theorem dX11_does_442 : decode cX11_does 442 = .ok (.iload_n 1, 1) := by decide +kernel
theorem dX11_does_443 : decode cX11_does 443 = .ok (.iconst 1, 1) := by decide +kernel
theorem dX11_does_444 : decode cX11_does 444 = .ok (.iadd, 1) := by decide +kernel
theorem dX11_does_445 : decode cX11_does 445 = .ok (.goto 9, 3) := by decide +kernel
theorem dX11_does_448 : decode cX11_does 448 = .ok (.aload_n 0, 1) := by decide +kernel
theorem dX11_does_449 : decode cX11_does 449 = .ok (.getfield 26, 3) := by decide +kernel
theorem dX11_does_452 : decode cX11_does 452 = .ok (.iload_n 1, 1) := by decide +kernel
theorem dX11_does_453 : decode cX11_does 453 = .ok (.iaload, 1) := by decide +kernel
theorem dX11_does_454 : decode cX11_does 454 = .ok (.ireturn, 1) := by decide +kernel
theorem dX11_does_455 : decode cX11_does 455 = .ok (.iload_n 1, 1) := by decide +kernel
theorem dX11_does_456 : decode cX11_does 456 = .ok (.iconst 1, 1) := by decide +kernel
theorem dX11_does_457 : decode cX11_does 457 = .ok (.iadd, 1) := by decide +kernel
theorem dX11_does_458 : decode cX11_does 458 = .ok (.ireturn, 1) := by decide +kernel
theorem dX11_fails_0 : decode cX11_fails 0 = .ok (.aload_n 0, 1) := by decide +kernel
theorem dX11_fails_1 : decode cX11_fails 1 = .ok (.iconst 2, 1) := by decide +kernel
theorem dX11_fails_2 : decode cX11_fails 2 = .ok (.putfield 314, 3) := by decide +kernel
theorem dX11_fails_5 : decode cX11_fails 5 = .ok (.aload_n 0, 1) := by decide +kernel
theorem dX11_fails_6 : decode cX11_fails 6 = .ok (.iload_n 1, 1) := by decide +kernel
theorem dX11_fails_7 : decode cX11_fails 7 = .ok (.putfield 326, 3) := by decide +kernel
theorem dX11_fails_10 : decode cX11_fails 10 = .ok (.return_, 1) := by decide +kernel
theorem dX11_enter_0 : decode cX11_enter 0 = .ok (.aload_n 0, 1) := by decide +kernel
theorem dX11_enter_1 : decode cX11_enter 1 = .ok (.getfield 320, 3) := by decide +kernel
theorem dX11_enter_4 : decode cX11_enter 4 = .ok (.bipush 13, 2) := by decide +kernel
theorem dX11_enter_6 : decode cX11_enter 6 = .ok (.if_icmp .ne 10, 3) := by decide +kernel
theorem dX11_enter_9 : decode cX11_enter 9 = .ok (.aload_n 0, 1) := by decide +kernel
theorem dX11_enter_10 : decode cX11_enter 10 = .ok (.iconst 3, 1) := by decide +kernel
theorem dX11_enter_11 : decode cX11_enter 11 = .ok (.putfield 314, 3) := by decide +kernel
theorem dX11_enter_14 : decode cX11_enter 14 = .ok (.iload_n 1, 1) := by decide +kernel
theorem dX11_enter_15 : decode cX11_enter 15 = .ok (.ireturn, 1) := by decide +kernel
theorem dX11_enter_16 : decode cX11_enter 16 = .ok (.bipush 26, 2) := by decide +kernel
theorem dX11_enter_18 : decode cX11_enter 18 = .ok (.aload_n 0, 1) := by decide +kernel
theorem dX11_enter_19 : decode cX11_enter 19 = .ok (.getfield 320, 3) := by decide +kernel
theorem dX11_enter_22 : decode cX11_enter 22 = .ok (.iconst 1, 1) := by decide +kernel
theorem dX11_enter_23 : decode cX11_enter 23 = .ok (.isub, 1) := by decide +kernel
theorem dX11_enter_24 : decode cX11_enter 24 = .ok (.imul, 1) := by decide +kernel
theorem dX11_enter_25 : decode cX11_enter 25 = .ok (.istore_n 2, 1) := by decide +kernel
theorem dX11_enter_26 : decode cX11_enter 26 = .ok (.aload_n 0, 1) := by decide +kernel
theorem dX11_enter_27 : decode cX11_enter 27 = .ok (.getfield 20, 3) := by decide +kernel
theorem dX11_enter_30 : decode cX11_enter 30 = .ok (.iload_n 1, 1) := by decide +kernel
theorem dX11_enter_31 : decode cX11_enter 31 = .ok (.iaload, 1) := by decide +kernel
theorem dX11_enter_32 : decode cX11_enter 32 = .ok (.istore_n 3, 1) := by decide +kernel
theorem dX11_enter_33 : decode cX11_enter 33 = .ok (.aload_n 0, 1) := by decide +kernel
theorem dX11_enter_34 : decode cX11_enter 34 = .ok (.iload_n 1, 1) := by decide +kernel
theorem dX11_enter_35 : decode cX11_enter 35 = .ok (.iconst 1, 1) := by decide +kernel
theorem dX11_enter_36 : decode cX11_enter 36 = .ok (.iadd, 1) := by decide +kernel
theorem dX11_enter_37 : decode cX11_enter 37 = .ok (.invokevirtual 332, 3) := by decide +kernel
theorem dX11_enter_40 : decode cX11_enter 40 = .ok (.iconst 0, 1) := by decide +kernel
theorem dX11_enter_41 : decode cX11_enter 41 = .ok (.istore 4, 2) := by decide +kernel
theorem dX11_enter_43 : decode cX11_enter 43 = .ok (.iload 4, 2) := by decide +kernel
theorem dX11_enter_45 : decode cX11_enter 45 = .ok (.aload_n 0, 1) := by decide +kernel
theorem dX11_enter_46 : decode cX11_enter 46 = .ok (.getfield 23, 3) := by decide +kernel
theorem dX11_enter_49 : decode cX11_enter 49 = .ok (.iload_n 1, 1) := by decide +kernel
theorem dX11_enter_50 : decode cX11_enter 50 = .ok (.iaload, 1) := by decide +kernel
theorem dX11_enter_51 : decode cX11_enter 51 = .ok (.if_icmp .ge 56, 3) := by decide +kernel
theorem dX11_enter_54 : decode cX11_enter 54 = .ok (.aload_n 0, 1) := by decide +kernel
theorem dX11_enter_55 : decode cX11_enter 55 = .ok (.getfield 106, 3) := by decide +kernel
theorem dX11_enter_58 : decode cX11_enter 58 = .ok (.bipush 26, 2) := by decide +kernel
theorem dX11_enter_60 : decode cX11_enter 60 = .ok (.aload_n 0, 1) := by decide +kernel
theorem dX11_enter_61 : decode cX11_enter 61 = .ok (.getfield 320, 3) := by decide +kernel
theorem dX11_enter_64 : decode cX11_enter 64 = .ok (.iconst 1, 1) := by decide +kernel
theorem dX11_enter_65 : decode cX11_enter 65 = .ok (.isub, 1) := by decide +kernel
theorem dX11_enter_66 : decode cX11_enter 66 = .ok (.imul, 1) := by decide +kernel
theorem dX11_enter_67 : decode cX11_enter 67 = .ok (.aload_n 0, 1) := by decide +kernel
theorem dX11_enter_68 : decode cX11_enter 68 = .ok (.getfield 38, 3) := by decide +kernel
theorem dX11_enter_71 : decode cX11_enter 71 = .ok (.iconst 4, 1) := by decide +kernel
theorem dX11_enter_72 : decode cX11_enter 72 = .ok (.iload_n 3, 1) := by decide +kernel
theorem dX11_enter_73 : decode cX11_enter 73 = .ok (.imul, 1) := by decide +kernel
theorem dX11_enter_74 : decode cX11_enter 74 = .ok (.iload 4, 2) := by decide +kernel
theorem dX11_enter_76 : decode cX11_enter 76 = .ok (.iadd, 1) := by decide +kernel
theorem dX11_enter_77 : decode cX11_enter 77 = .ok (.iaload, 1) := by decide +kernel
theorem dX11_enter_78 : decode cX11_enter 78 = .ok (.iadd, 1) := by decide +kernel
theorem dX11_enter_79 : decode cX11_enter 79 = .ok (.aload_n 0, 1) := by decide +kernel
theorem dX11_enter_80 : decode cX11_enter 80 = .ok (.getfield 106, 3) := by decide +kernel
theorem dX11_enter_83 : decode cX11_enter 83 = .ok (.iload_n 2, 1) := by decide +kernel
theorem dX11_enter_84 : decode cX11_enter 84 = .ok (.aload_n 0, 1) := by decide +kernel
theorem dX11_enter_85 : decode cX11_enter 85 = .ok (.getfield 29, 3) := by decide +kernel
theorem dX11_enter_88 : decode cX11_enter 88 = .ok (.iload_n 1, 1) := by decide +kernel
theorem dX11_enter_89 : decode cX11_enter 89 = .ok (.iaload, 1) := by decide +kernel
theorem dX11_enter_90 : decode cX11_enter 90 = .ok (.iconst 5, 1) := by decide +kernel
theorem dX11_enter_91 : decode cX11_enter 91 = .ok (.iload 4, 2) := by decide +kernel
theorem dX11_enter_93 : decode cX11_enter 93 = .ok (.imul, 1) := by decide +kernel
theorem dX11_enter_94 : decode cX11_enter 94 = .ok (.ishr, 1) := by decide +kernel
theorem dX11_enter_95 : decode cX11_enter 95 = .ok (.bipush 31, 2) := by decide +kernel
theorem dX11_enter_97 : decode cX11_enter 97 = .ok (.iand, 1) := by decide +kernel
theorem dX11_enter_98 : decode cX11_enter 98 = .ok (.iadd, 1) := by decide +kernel
theorem dX11_enter_99 : decode cX11_enter 99 = .ok (.iaload, 1) := by decide +kernel
theorem dX11_enter_100 : decode cX11_enter 100 = .ok (.iastore, 1) := by decide +kernel
theorem dX11_enter_101 : decode cX11_enter 101 = .ok (.iinc 4 1, 3) := by decide +kernel
theorem dX11_enter_104 : decode cX11_enter 104 = .ok (.goto (-61), 3) := by decide +kernel
theorem dX11_enter_107 : decode cX11_enter 107 = .ok (.aload_n 0, 1) := by decide +kernel
theorem dX11_enter_108 : decode cX11_enter 108 = .ok (.getfield 32, 3) := by decide +kernel
theorem dX11_enter_111 : decode cX11_enter 111 = .ok (.iload_n 3, 1) := by decide +kernel
theorem dX11_enter_112 : decode cX11_enter 112 = .ok (.iaload, 1) := by decide +kernel
theorem dX11_enter_113 : decode cX11_enter 113 = .ok (.ireturn, 1) := by decide +kernel
theorem dX11_run_0 : decode cX11_run 0 = .ok (.aload_n 0, 1) := by decide +kernel
theorem dX11_run_1 : decode cX11_run 1 = .ok (.iconst 0, 1) := by decide +kernel
theorem dX11_run_2 : decode cX11_run 2 = .ok (.putfield 121, 3) := by decide +kernel
theorem dX11_run_5 : decode cX11_run 5 = .ok (.aload_n 0, 1) := by decide +kernel
theorem dX11_run_6 : decode cX11_run 6 = .ok (.iload_n 1, 1) := by decide +kernel
theorem dX11_run_7 : decode cX11_run 7 = .ok (.iload_n 2, 1) := by decide +kernel
theorem dX11_run_8 : decode cX11_run 8 = .ok (.invokevirtual 356, 3) := by decide +kernel
theorem dX11_run_11 : decode cX11_run 11 = .ok (.ifCond .ne 5, 3) := by decide +kernel
theorem dX11_run_14 : decode cX11_run 14 = .ok (.iconst (-1), 1) := by decide +kernel
theorem dX11_run_15 : decode cX11_run 15 = .ok (.ireturn, 1) := by decide +kernel
theorem dX11_run_16 : decode cX11_run 16 = .ok (.aload_n 0, 1) := by decide +kernel
theorem dX11_run_17 : decode cX11_run 17 = .ok (.iload_n 1, 1) := by decide +kernel
theorem dX11_run_18 : decode cX11_run 18 = .ok (.iload_n 2, 1) := by decide +kernel
theorem dX11_run_19 : decode cX11_run 19 = .ok (.invokevirtual 360, 3) := by decide +kernel
theorem dX11_run_22 : decode cX11_run 22 = .ok (.aload_n 0, 1) := by decide +kernel
theorem dX11_run_23 : decode cX11_run 23 = .ok (.iconst 1, 1) := by decide +kernel
theorem dX11_run_24 : decode cX11_run 24 = .ok (.putfield 363, 3) := by decide +kernel
theorem dX11_run_27 : decode cX11_run 27 = .ok (.aload_n 0, 1) := by decide +kernel
theorem dX11_run_28 : decode cX11_run 28 = .ok (.aload_n 0, 1) := by decide +kernel
theorem dX11_run_29 : decode cX11_run 29 = .ok (.getfield 323, 3) := by decide +kernel
theorem dX11_run_32 : decode cX11_run 32 = .ok (.putfield 366, 3) := by decide +kernel
theorem dX11_run_35 : decode cX11_run 35 = .ok (.aload_n 0, 1) := by decide +kernel
theorem dX11_run_36 : decode cX11_run 36 = .ok (.aload_n 0, 1) := by decide +kernel
theorem dX11_run_37 : decode cX11_run 37 = .ok (.getfield 326, 3) := by decide +kernel
theorem dX11_run_40 : decode cX11_run 40 = .ok (.putfield 369, 3) := by decide +kernel
theorem dX11_run_43 : decode cX11_run 43 = .ok (.aload_n 0, 1) := by decide +kernel
theorem dX11_run_44 : decode cX11_run 44 = .ok (.aload_n 0, 1) := by decide +kernel
theorem dX11_run_45 : decode cX11_run 45 = .ok (.getfield 311, 3) := by decide +kernel
theorem dX11_run_48 : decode cX11_run 48 = .ok (.putfield 372, 3) := by decide +kernel
theorem dX11_run_51 : decode cX11_run 51 = .ok (.aload_n 0, 1) := by decide +kernel
theorem dX11_run_52 : decode cX11_run 52 = .ok (.aload_n 0, 1) := by decide +kernel
theorem dX11_run_53 : decode cX11_run 53 = .ok (.getfield 317, 3) := by decide +kernel
theorem dX11_run_56 : decode cX11_run 56 = .ok (.putfield 375, 3) := by decide +kernel
theorem dX11_run_59 : decode cX11_run 59 = .ok (.aload_n 0, 1) := by decide +kernel
theorem dX11_run_60 : decode cX11_run 60 = .ok (.getfield 314, 3) := by decide +kernel
theorem dX11_run_63 : decode cX11_run 63 = .ok (.ireturn, 1) := by decide +kernel
theorem dX11_ran_0 : decode cX11_ran 0 = .ok (.aload_n 0, 1) := by decide +kernel
theorem dX11_ran_1 : decode cX11_ran 1 = .ok (.iconst 0, 1) := by decide +kernel
theorem dX11_ran_2 : decode cX11_ran 2 = .ok (.putfield 121, 3) := by decide +kernel
theorem dX11_ran_5 : decode cX11_ran 5 = .ok (.aload_n 0, 1) := by decide +kernel
theorem dX11_ran_6 : decode cX11_ran 6 = .ok (.getfield 363, 3) := by decide +kernel
theorem dX11_ran_9 : decode cX11_ran 9 = .ok (.ifCond .ne 5, 3) := by decide +kernel
theorem dX11_ran_12 : decode cX11_ran 12 = .ok (.iconst (-1), 1) := by decide +kernel
theorem dX11_ran_13 : decode cX11_ran 13 = .ok (.ireturn, 1) := by decide +kernel
theorem dX11_ran_14 : decode cX11_ran 14 = .ok (.iload_n 1, 1) := by decide +kernel
theorem dX11_ran_15 : decode cX11_ran 15 = .ok (.tableswitch 49 0 3 #[29, 34, 39, 44], 29) := by decide +kernel
theorem dX11_ran_44 : decode cX11_ran 44 = .ok (.aload_n 0, 1) := by decide +kernel
theorem dX11_ran_45 : decode cX11_ran 45 = .ok (.getfield 366, 3) := by decide +kernel
theorem dX11_ran_48 : decode cX11_ran 48 = .ok (.ireturn, 1) := by decide +kernel
theorem dX11_ran_49 : decode cX11_ran 49 = .ok (.aload_n 0, 1) := by decide +kernel
theorem dX11_ran_50 : decode cX11_ran 50 = .ok (.getfield 369, 3) := by decide +kernel
theorem dX11_ran_53 : decode cX11_ran 53 = .ok (.ireturn, 1) := by decide +kernel
theorem dX11_ran_54 : decode cX11_ran 54 = .ok (.aload_n 0, 1) := by decide +kernel
theorem dX11_ran_55 : decode cX11_ran 55 = .ok (.getfield 372, 3) := by decide +kernel
theorem dX11_ran_58 : decode cX11_ran 58 = .ok (.ireturn, 1) := by decide +kernel
theorem dX11_ran_59 : decode cX11_ran 59 = .ok (.aload_n 0, 1) := by decide +kernel
theorem dX11_ran_60 : decode cX11_ran 60 = .ok (.getfield 375, 3) := by decide +kernel
theorem dX11_ran_63 : decode cX11_ran 63 = .ok (.ireturn, 1) := by decide +kernel
theorem dX11_ran_64 : decode cX11_ran 64 = .ok (.iconst (-1), 1) := by decide +kernel
theorem dX11_ran_65 : decode cX11_ran 65 = .ok (.ireturn, 1) := by decide +kernel
theorem dX11_tries_0 : decode cX11_tries 0 = .ok (.aload_n 0, 1) := by decide +kernel
theorem dX11_tries_1 : decode cX11_tries 1 = .ok (.iconst 0, 1) := by decide +kernel
theorem dX11_tries_2 : decode cX11_tries 2 = .ok (.putfield 121, 3) := by decide +kernel
theorem dX11_tries_5 : decode cX11_tries 5 = .ok (.iload_n 1, 1) := by decide +kernel
theorem dX11_tries_6 : decode cX11_tries 6 = .ok (.ifCond .lt 13, 3) := by decide +kernel
theorem dX11_tries_9 : decode cX11_tries 9 = .ok (.iload_n 1, 1) := by decide +kernel
theorem dX11_tries_10 : decode cX11_tries 10 = .ok (.aload_n 0, 1) := by decide +kernel
theorem dX11_tries_11 : decode cX11_tries 11 = .ok (.getfield 53, 3) := by decide +kernel
theorem dX11_tries_14 : decode cX11_tries 14 = .ok (.iconst 0, 1) := by decide +kernel
theorem dX11_tries_15 : decode cX11_tries 15 = .ok (.iaload, 1) := by decide +kernel
theorem dX11_tries_16 : decode cX11_tries 16 = .ok (.if_icmp .lt 5, 3) := by decide +kernel
theorem dX11_tries_19 : decode cX11_tries 19 = .ok (.iconst (-1), 1) := by decide +kernel
theorem dX11_tries_20 : decode cX11_tries 20 = .ok (.ireturn, 1) := by decide +kernel
theorem dX11_tries_21 : decode cX11_tries 21 = .ok (.iconst 0, 1) := by decide +kernel
theorem dX11_tries_22 : decode cX11_tries 22 = .ok (.istore_n 2, 1) := by decide +kernel
theorem dX11_tries_23 : decode cX11_tries 23 = .ok (.iload_n 2, 1) := by decide +kernel
theorem dX11_tries_24 : decode cX11_tries 24 = .ok (.iconst 1, 1) := by decide +kernel
theorem dX11_tries_25 : decode cX11_tries 25 = .ok (.aload_n 0, 1) := by decide +kernel
theorem dX11_tries_26 : decode cX11_tries 26 = .ok (.getfield 35, 3) := by decide +kernel
theorem dX11_tries_29 : decode cX11_tries 29 = .ok (.aload_n 0, 1) := by decide +kernel
theorem dX11_tries_30 : decode cX11_tries 30 = .ok (.getfield 83, 3) := by decide +kernel
theorem dX11_tries_33 : decode cX11_tries 33 = .ok (.iaload, 1) := by decide +kernel
theorem dX11_tries_34 : decode cX11_tries 34 = .ok (.ishl, 1) := by decide +kernel
theorem dX11_tries_35 : decode cX11_tries 35 = .ok (.if_icmp .ge 66, 3) := by decide +kernel
theorem dX11_tries_38 : decode cX11_tries 38 = .ok (.iconst 0, 1) := by decide +kernel
theorem dX11_tries_39 : decode cX11_tries 39 = .ok (.istore_n 3, 1) := by decide +kernel
theorem dX11_tries_40 : decode cX11_tries 40 = .ok (.iload_n 3, 1) := by decide +kernel
theorem dX11_tries_41 : decode cX11_tries 41 = .ok (.sipush 256, 3) := by decide +kernel
theorem dX11_tries_44 : decode cX11_tries 44 = .ok (.if_icmp .ge 51, 3) := by decide +kernel
theorem dX11_tries_47 : decode cX11_tries 47 = .ok (.aload_n 0, 1) := by decide +kernel
theorem dX11_tries_48 : decode cX11_tries 48 = .ok (.iload_n 2, 1) := by decide +kernel
theorem dX11_tries_49 : decode cX11_tries 49 = .ok (.iload_n 3, 1) := by decide +kernel
theorem dX11_tries_50 : decode cX11_tries 50 = .ok (.invokevirtual 356, 3) := by decide +kernel
theorem dX11_tries_53 : decode cX11_tries 53 = .ok (.ifCond .ne 6, 3) := by decide +kernel
theorem dX11_tries_56 : decode cX11_tries 56 = .ok (.goto 33, 3) := by decide +kernel
theorem dX11_tries_59 : decode cX11_tries 59 = .ok (.aload_n 0, 1) := by decide +kernel
theorem dX11_tries_60 : decode cX11_tries 60 = .ok (.iload_n 2, 1) := by decide +kernel
theorem dX11_tries_61 : decode cX11_tries 61 = .ok (.iload_n 3, 1) := by decide +kernel
theorem dX11_tries_62 : decode cX11_tries 62 = .ok (.invokevirtual 360, 3) := by decide +kernel
theorem dX11_tries_65 : decode cX11_tries 65 = .ok (.aload_n 0, 1) := by decide +kernel
theorem dX11_tries_66 : decode cX11_tries 66 = .ok (.getfield 314, 3) := by decide +kernel
theorem dX11_tries_69 : decode cX11_tries 69 = .ok (.iconst 2, 1) := by decide +kernel
theorem dX11_tries_70 : decode cX11_tries 70 = .ok (.if_icmp .ne 19, 3) := by decide +kernel
theorem dX11_tries_73 : decode cX11_tries 73 = .ok (.aload_n 0, 1) := by decide +kernel
theorem dX11_tries_74 : decode cX11_tries 74 = .ok (.getfield 326, 3) := by decide +kernel
theorem dX11_tries_77 : decode cX11_tries 77 = .ok (.iload_n 1, 1) := by decide +kernel
theorem dX11_tries_78 : decode cX11_tries 78 = .ok (.if_icmp .ne 11, 3) := by decide +kernel
theorem dX11_tries_81 : decode cX11_tries 81 = .ok (.sipush 256, 3) := by decide +kernel
theorem dX11_tries_84 : decode cX11_tries 84 = .ok (.iload_n 2, 1) := by decide +kernel
theorem dX11_tries_85 : decode cX11_tries 85 = .ok (.imul, 1) := by decide +kernel
theorem dX11_tries_86 : decode cX11_tries 86 = .ok (.iload_n 3, 1) := by decide +kernel
theorem dX11_tries_87 : decode cX11_tries 87 = .ok (.iadd, 1) := by decide +kernel
theorem dX11_tries_88 : decode cX11_tries 88 = .ok (.ireturn, 1) := by decide +kernel
theorem dX11_tries_89 : decode cX11_tries 89 = .ok (.iinc 3 1, 3) := by decide +kernel
theorem dX11_tries_92 : decode cX11_tries 92 = .ok (.goto (-52), 3) := by decide +kernel
theorem dX11_tries_95 : decode cX11_tries 95 = .ok (.iinc 2 1, 3) := by decide +kernel
theorem dX11_tries_98 : decode cX11_tries 98 = .ok (.goto (-75), 3) := by decide +kernel
theorem dX11_tries_101 : decode cX11_tries 101 = .ok (.iconst (-1), 1) := by decide +kernel
theorem dX11_tries_102 : decode cX11_tries 102 = .ok (.ireturn, 1) := by decide +kernel
theorem dX11_price_0 : decode cX11_price 0 = .ok (.aload_n 0, 1) := by decide +kernel
theorem dX11_price_1 : decode cX11_price 1 = .ok (.iconst 0, 1) := by decide +kernel
theorem dX11_price_2 : decode cX11_price 2 = .ok (.putfield 121, 3) := by decide +kernel
theorem dX11_price_5 : decode cX11_price 5 = .ok (.iload_n 1, 1) := by decide +kernel
theorem dX11_price_6 : decode cX11_price 6 = .ok (.ifCond .lt 19, 3) := by decide +kernel
theorem dX11_price_9 : decode cX11_price 9 = .ok (.iload_n 1, 1) := by decide +kernel
theorem dX11_price_10 : decode cX11_price 10 = .ok (.iconst 3, 1) := by decide +kernel
theorem dX11_price_11 : decode cX11_price 11 = .ok (.if_icmp .gt 14, 3) := by decide +kernel
theorem dX11_price_14 : decode cX11_price 14 = .ok (.iload_n 2, 1) := by decide +kernel
theorem dX11_price_15 : decode cX11_price 15 = .ok (.iconst 1, 1) := by decide +kernel
theorem dX11_price_16 : decode cX11_price 16 = .ok (.if_icmp .lt 9, 3) := by decide +kernel
theorem dX11_price_19 : decode cX11_price 19 = .ok (.iload_n 2, 1) := by decide +kernel
theorem dX11_price_20 : decode cX11_price 20 = .ok (.bipush 99, 2) := by decide +kernel
theorem dX11_price_22 : decode cX11_price 22 = .ok (.if_icmp .le 5, 3) := by decide +kernel
theorem dX11_price_25 : decode cX11_price 25 = .ok (.iconst 0, 1) := by decide +kernel
theorem dX11_price_26 : decode cX11_price 26 = .ok (.ireturn, 1) := by decide +kernel
theorem dX11_price_27 : decode cX11_price 27 = .ok (.aload_n 0, 1) := by decide +kernel
theorem dX11_price_28 : decode cX11_price 28 = .ok (.getfield 112, 3) := by decide +kernel
theorem dX11_price_31 : decode cX11_price 31 = .ok (.iload_n 1, 1) := by decide +kernel
theorem dX11_price_32 : decode cX11_price 32 = .ok (.iload_n 2, 1) := by decide +kernel
theorem dX11_price_33 : decode cX11_price 33 = .ok (.iastore, 1) := by decide +kernel
theorem dX11_price_34 : decode cX11_price 34 = .ok (.iconst 1, 1) := by decide +kernel
theorem dX11_price_35 : decode cX11_price 35 = .ok (.ireturn, 1) := by decide +kernel
theorem dX11_guards_0 : decode cX11_guards 0 = .ok (.iconst 0, 1) := by decide +kernel
theorem dX11_guards_1 : decode cX11_guards 1 = .ok (.istore_n 1, 1) := by decide +kernel
theorem dX11_guards_2 : decode cX11_guards 2 = .ok (.iconst 0, 1) := by decide +kernel
theorem dX11_guards_3 : decode cX11_guards 3 = .ok (.istore_n 2, 1) := by decide +kernel
theorem dX11_guards_4 : decode cX11_guards 4 = .ok (.iload_n 2, 1) := by decide +kernel
theorem dX11_guards_5 : decode cX11_guards 5 = .ok (.aload_n 0, 1) := by decide +kernel
theorem dX11_guards_6 : decode cX11_guards 6 = .ok (.getfield 53, 3) := by decide +kernel
theorem dX11_guards_9 : decode cX11_guards 9 = .ok (.iconst 0, 1) := by decide +kernel
theorem dX11_guards_10 : decode cX11_guards 10 = .ok (.iaload, 1) := by decide +kernel
theorem dX11_guards_11 : decode cX11_guards 11 = .ok (.if_icmp .ge 27, 3) := by decide +kernel
theorem dX11_guards_14 : decode cX11_guards 14 = .ok (.iload_n 1, 1) := by decide +kernel
theorem dX11_guards_15 : decode cX11_guards 15 = .ok (.aload_n 0, 1) := by decide +kernel
theorem dX11_guards_16 : decode cX11_guards 16 = .ok (.iload_n 2, 1) := by decide +kernel
theorem dX11_guards_17 : decode cX11_guards 17 = .ok (.invokevirtual 305, 3) := by decide +kernel
theorem dX11_guards_20 : decode cX11_guards 20 = .ok (.iconst 1, 1) := by decide +kernel
theorem dX11_guards_21 : decode cX11_guards 21 = .ok (.iand, 1) := by decide +kernel
theorem dX11_guards_22 : decode cX11_guards 22 = .ok (.ifCond .eq 7, 3) := by decide +kernel
theorem dX11_guards_25 : decode cX11_guards 25 = .ok (.iconst 1, 1) := by decide +kernel
theorem dX11_guards_26 : decode cX11_guards 26 = .ok (.goto 4, 3) := by decide +kernel
theorem dX11_guards_29 : decode cX11_guards 29 = .ok (.iconst 0, 1) := by decide +kernel
theorem dX11_guards_30 : decode cX11_guards 30 = .ok (.iadd, 1) := by decide +kernel
theorem dX11_guards_31 : decode cX11_guards 31 = .ok (.istore_n 1, 1) := by decide +kernel
theorem dX11_guards_32 : decode cX11_guards 32 = .ok (.iinc 2 1, 3) := by decide +kernel
theorem dX11_guards_35 : decode cX11_guards 35 = .ok (.goto (-31), 3) := by decide +kernel
theorem dX11_guards_38 : decode cX11_guards 38 = .ok (.iload_n 1, 1) := by decide +kernel
theorem dX11_guards_39 : decode cX11_guards 39 = .ok (.ireturn, 1) := by decide +kernel
theorem dX11_kindOf_0 : decode cX11_kindOf 0 = .ok (.iload_n 0, 1) := by decide +kernel
theorem dX11_kindOf_1 : decode cX11_kindOf 1 = .ok (.bipush 32, 2) := by decide +kernel
theorem dX11_kindOf_3 : decode cX11_kindOf 3 = .ok (.if_icmp .ge 7, 3) := by decide +kernel
theorem dX11_kindOf_6 : decode cX11_kindOf 6 = .ok (.iconst 0, 1) := by decide +kernel
theorem dX11_kindOf_7 : decode cX11_kindOf 7 = .ok (.goto 14, 3) := by decide +kernel
theorem dX11_kindOf_10 : decode cX11_kindOf 10 = .ok (.iload_n 0, 1) := by decide +kernel
theorem dX11_kindOf_11 : decode cX11_kindOf 11 = .ok (.bipush 40, 2) := by decide +kernel
theorem dX11_kindOf_13 : decode cX11_kindOf 13 = .ok (.if_icmp .ge 7, 3) := by decide +kernel
theorem dX11_kindOf_16 : decode cX11_kindOf 16 = .ok (.iconst 1, 1) := by decide +kernel
theorem dX11_kindOf_17 : decode cX11_kindOf 17 = .ok (.goto 4, 3) := by decide +kernel
theorem dX11_kindOf_20 : decode cX11_kindOf 20 = .ok (.iconst 2, 1) := by decide +kernel
theorem dX11_kindOf_21 : decode cX11_kindOf 21 = .ok (.ireturn, 1) := by decide +kernel
theorem dX11_mend_0 : decode cX11_mend 0 = .ok (.aload_n 0, 1) := by decide +kernel
theorem dX11_mend_1 : decode cX11_mend 1 = .ok (.iconst 0, 1) := by decide +kernel
theorem dX11_mend_2 : decode cX11_mend 2 = .ok (.putfield 121, 3) := by decide +kernel
theorem dX11_mend_5 : decode cX11_mend 5 = .ok (.aload_n 0, 1) := by decide +kernel
theorem dX11_mend_6 : decode cX11_mend 6 = .ok (.getfield 83, 3) := by decide +kernel
theorem dX11_mend_9 : decode cX11_mend 9 = .ok (.iconst (-1), 1) := by decide +kernel
theorem dX11_mend_10 : decode cX11_mend 10 = .ok (.if_icmp .ne 5, 3) := by decide +kernel
theorem dX11_mend_13 : decode cX11_mend 13 = .ok (.iconst (-1), 1) := by decide +kernel
theorem dX11_mend_14 : decode cX11_mend 14 = .ok (.ireturn, 1) := by decide +kernel
theorem dX11_mend_15 : decode cX11_mend 15 = .ok (.aload_n 0, 1) := by decide +kernel
theorem dX11_mend_16 : decode cX11_mend 16 = .ok (.invokevirtual 299, 3) := by decide +kernel
theorem dX11_mend_19 : decode cX11_mend 19 = .ok (.aload_n 0, 1) := by decide +kernel
theorem dX11_mend_20 : decode cX11_mend 20 = .ok (.invokevirtual 302, 3) := by decide +kernel
theorem dX11_mend_23 : decode cX11_mend 23 = .ok (.aload_n 0, 1) := by decide +kernel
theorem dX11_mend_24 : decode cX11_mend 24 = .ok (.iconst 0, 1) := by decide +kernel
theorem dX11_mend_25 : decode cX11_mend 25 = .ok (.putfield 378, 3) := by decide +kernel
theorem dX11_mend_28 : decode cX11_mend 28 = .ok (.iconst 0, 1) := by decide +kernel
theorem dX11_mend_29 : decode cX11_mend 29 = .ok (.istore_n 1, 1) := by decide +kernel
theorem dX11_mend_30 : decode cX11_mend 30 = .ok (.iload_n 1, 1) := by decide +kernel
theorem dX11_mend_31 : decode cX11_mend 31 = .ok (.bipush 42, 2) := by decide +kernel
theorem dX11_mend_33 : decode cX11_mend 33 = .ok (.if_icmp .ge 67, 3) := by decide +kernel
theorem dX11_mend_36 : decode cX11_mend 36 = .ok (.aload_n 0, 1) := by decide +kernel
theorem dX11_mend_37 : decode cX11_mend 37 = .ok (.getfield 378, 3) := by decide +kernel
theorem dX11_mend_40 : decode cX11_mend 40 = .ok (.bipush 10, 2) := by decide +kernel
theorem dX11_mend_42 : decode cX11_mend 42 = .ok (.if_icmp .ge 58, 3) := by decide +kernel
theorem dX11_mend_45 : decode cX11_mend 45 = .ok (.aload_n 0, 1) := by decide +kernel
theorem dX11_mend_46 : decode cX11_mend 46 = .ok (.getfield 93, 3) := by decide +kernel
theorem dX11_mend_49 : decode cX11_mend 49 = .ok (.iload_n 1, 1) := by decide +kernel
theorem dX11_mend_50 : decode cX11_mend 50 = .ok (.iaload, 1) := by decide +kernel
theorem dX11_mend_51 : decode cX11_mend 51 = .ok (.iconst 3, 1) := by decide +kernel
theorem dX11_mend_52 : decode cX11_mend 52 = .ok (.if_icmp .ne 42, 3) := by decide +kernel
theorem dX11_mend_55 : decode cX11_mend 55 = .ok (.iload_n 1, 1) := by decide +kernel
theorem dX11_mend_56 : decode cX11_mend 56 = .ok (.bipush 32, 2) := by decide +kernel
theorem dX11_mend_58 : decode cX11_mend 58 = .ok (.if_icmp .ge 16, 3) := by decide +kernel
theorem dX11_mend_61 : decode cX11_mend 61 = .ok (.iload_n 1, 1) := by decide +kernel
theorem dX11_mend_62 : decode cX11_mend 62 = .ok (.iconst 4, 1) := by decide +kernel
theorem dX11_mend_63 : decode cX11_mend 63 = .ok (.idiv, 1) := by decide +kernel
theorem dX11_mend_64 : decode cX11_mend 64 = .ok (.aload_n 0, 1) := by decide +kernel
theorem dX11_mend_65 : decode cX11_mend 65 = .ok (.getfield 83, 3) := by decide +kernel
theorem dX11_mend_68 : decode cX11_mend 68 = .ok (.if_icmp .ne 6, 3) := by decide +kernel
theorem dX11_mend_71 : decode cX11_mend 71 = .ok (.goto 23, 3) := by decide +kernel
theorem dX11_mend_74 : decode cX11_mend 74 = .ok (.aload_n 0, 1) := by decide +kernel
theorem dX11_mend_75 : decode cX11_mend 75 = .ok (.getfield 115, 3) := by decide +kernel
theorem dX11_mend_78 : decode cX11_mend 78 = .ok (.aload_n 0, 1) := by decide +kernel
theorem dX11_mend_79 : decode cX11_mend 79 = .ok (.getfield 378, 3) := by decide +kernel
theorem dX11_mend_82 : decode cX11_mend 82 = .ok (.iload_n 1, 1) := by decide +kernel
theorem dX11_mend_83 : decode cX11_mend 83 = .ok (.iastore, 1) := by decide +kernel
theorem dX11_mend_84 : decode cX11_mend 84 = .ok (.aload_n 0, 1) := by decide +kernel
theorem dX11_mend_85 : decode cX11_mend 85 = .ok (.dup, 1) := by decide +kernel
theorem dX11_mend_86 : decode cX11_mend 86 = .ok (.getfield 378, 3) := by decide +kernel
theorem dX11_mend_89 : decode cX11_mend 89 = .ok (.iconst 1, 1) := by decide +kernel
theorem dX11_mend_90 : decode cX11_mend 90 = .ok (.iadd, 1) := by decide +kernel
theorem dX11_mend_91 : decode cX11_mend 91 = .ok (.putfield 378, 3) := by decide +kernel
theorem dX11_mend_94 : decode cX11_mend 94 = .ok (.iinc 1 1, 3) := by decide +kernel
theorem dX11_mend_97 : decode cX11_mend 97 = .ok (.goto (-67), 3) := by decide +kernel
theorem dX11_mend_100 : decode cX11_mend 100 = .ok (.iconst (-1), 1) := by decide +kernel
theorem dX11_mend_101 : decode cX11_mend 101 = .ok (.istore_n 1, 1) := by decide +kernel
theorem dX11_mend_102 : decode cX11_mend 102 = .ok (.iconst 0, 1) := by decide +kernel
theorem dX11_mend_103 : decode cX11_mend 103 = .ok (.istore_n 2, 1) := by decide +kernel
theorem dX11_mend_104 : decode cX11_mend 104 = .ok (.iconst 0, 1) := by decide +kernel
theorem dX11_mend_105 : decode cX11_mend 105 = .ok (.istore_n 3, 1) := by decide +kernel
theorem dX11_mend_106 : decode cX11_mend 106 = .ok (.iload_n 3, 1) := by decide +kernel
theorem dX11_mend_107 : decode cX11_mend 107 = .ok (.iconst 1, 1) := by decide +kernel
theorem dX11_mend_108 : decode cX11_mend 108 = .ok (.aload_n 0, 1) := by decide +kernel
theorem dX11_mend_109 : decode cX11_mend 109 = .ok (.getfield 378, 3) := by decide +kernel
theorem dX11_mend_112 : decode cX11_mend 112 = .ok (.ishl, 1) := by decide +kernel
theorem dX11_mend_113 : decode cX11_mend 113 = .ok (.if_icmp .ge 140, 3) := by decide +kernel
theorem dX11_mend_116 : decode cX11_mend 116 = .ok (.aload_n 0, 1) := by decide +kernel
theorem dX11_mend_117 : decode cX11_mend 117 = .ok (.invokevirtual 299, 3) := by decide +kernel
theorem dX11_mend_120 : decode cX11_mend 120 = .ok (.iconst 0, 1) := by decide +kernel
theorem dX11_mend_121 : decode cX11_mend 121 = .ok (.istore 4, 2) := by decide +kernel
theorem dX11_mend_123 : decode cX11_mend 123 = .ok (.iconst 0, 1) := by decide +kernel
theorem dX11_mend_124 : decode cX11_mend 124 = .ok (.istore 5, 2) := by decide +kernel
theorem dX11_mend_126 : decode cX11_mend 126 = .ok (.iload 5, 2) := by decide +kernel
theorem dX11_mend_128 : decode cX11_mend 128 = .ok (.aload_n 0, 1) := by decide +kernel
theorem dX11_mend_129 : decode cX11_mend 129 = .ok (.getfield 378, 3) := by decide +kernel
theorem dX11_mend_132 : decode cX11_mend 132 = .ok (.if_icmp .ge 54, 3) := by decide +kernel
theorem dX11_mend_135 : decode cX11_mend 135 = .ok (.iload_n 3, 1) := by decide +kernel
theorem dX11_mend_136 : decode cX11_mend 136 = .ok (.iload 5, 2) := by decide +kernel
theorem dX11_mend_138 : decode cX11_mend 138 = .ok (.ishr, 1) := by decide +kernel
theorem dX11_mend_139 : decode cX11_mend 139 = .ok (.iconst 1, 1) := by decide +kernel
theorem dX11_mend_140 : decode cX11_mend 140 = .ok (.iand, 1) := by decide +kernel
theorem dX11_mend_141 : decode cX11_mend 141 = .ok (.ifCond .ne 6, 3) := by decide +kernel
theorem dX11_mend_144 : decode cX11_mend 144 = .ok (.goto 36, 3) := by decide +kernel
theorem dX11_mend_147 : decode cX11_mend 147 = .ok (.aload_n 0, 1) := by decide +kernel
theorem dX11_mend_148 : decode cX11_mend 148 = .ok (.getfield 96, 3) := by decide +kernel
theorem dX11_mend_151 : decode cX11_mend 151 = .ok (.aload_n 0, 1) := by decide +kernel
theorem dX11_mend_152 : decode cX11_mend 152 = .ok (.getfield 115, 3) := by decide +kernel
theorem dX11_mend_155 : decode cX11_mend 155 = .ok (.iload 5, 2) := by decide +kernel
theorem dX11_mend_157 : decode cX11_mend 157 = .ok (.iaload, 1) := by decide +kernel
theorem dX11_mend_158 : decode cX11_mend 158 = .ok (.iconst 1, 1) := by decide +kernel
theorem dX11_mend_159 : decode cX11_mend 159 = .ok (.bastore, 1) := by decide +kernel
theorem dX11_mend_160 : decode cX11_mend 160 = .ok (.iload 4, 2) := by decide +kernel
theorem dX11_mend_162 : decode cX11_mend 162 = .ok (.aload_n 0, 1) := by decide +kernel
theorem dX11_mend_163 : decode cX11_mend 163 = .ok (.getfield 112, 3) := by decide +kernel
theorem dX11_mend_166 : decode cX11_mend 166 = .ok (.aload_n 0, 1) := by decide +kernel
theorem dX11_mend_167 : decode cX11_mend 167 = .ok (.getfield 115, 3) := by decide +kernel
theorem dX11_mend_170 : decode cX11_mend 170 = .ok (.iload 5, 2) := by decide +kernel
theorem dX11_mend_172 : decode cX11_mend 172 = .ok (.iaload, 1) := by decide +kernel
theorem dX11_mend_173 : decode cX11_mend 173 = .ok (.invokestatic 381, 3) := by decide +kernel
theorem dX11_mend_176 : decode cX11_mend 176 = .ok (.iaload, 1) := by decide +kernel
theorem dX11_mend_177 : decode cX11_mend 177 = .ok (.iadd, 1) := by decide +kernel
theorem dX11_mend_178 : decode cX11_mend 178 = .ok (.istore 4, 2) := by decide +kernel
theorem dX11_mend_180 : decode cX11_mend 180 = .ok (.iinc 5 1, 3) := by decide +kernel
theorem dX11_mend_183 : decode cX11_mend 183 = .ok (.goto (-57), 3) := by decide +kernel
theorem dX11_mend_186 : decode cX11_mend 186 = .ok (.iload_n 1, 1) := by decide +kernel
theorem dX11_mend_187 : decode cX11_mend 187 = .ok (.iconst (-1), 1) := by decide +kernel
theorem dX11_mend_188 : decode cX11_mend 188 = .ok (.if_icmp .eq 12, 3) := by decide +kernel
theorem dX11_mend_191 : decode cX11_mend 191 = .ok (.iload 4, 2) := by decide +kernel
theorem dX11_mend_193 : decode cX11_mend 193 = .ok (.iload_n 1, 1) := by decide +kernel
theorem dX11_mend_194 : decode cX11_mend 194 = .ok (.if_icmp .lt 6, 3) := by decide +kernel
theorem dX11_mend_197 : decode cX11_mend 197 = .ok (.goto 50, 3) := by decide +kernel
theorem dX11_mend_200 : decode cX11_mend 200 = .ok (.aload_n 0, 1) := by decide +kernel
theorem dX11_mend_201 : decode cX11_mend 201 = .ok (.invokevirtual 302, 3) := by decide +kernel
theorem dX11_mend_204 : decode cX11_mend 204 = .ok (.iload 4, 2) := by decide +kernel
theorem dX11_mend_206 : decode cX11_mend 206 = .ok (.aload_n 0, 1) := by decide +kernel
theorem dX11_mend_207 : decode cX11_mend 207 = .ok (.getfield 112, 3) := by decide +kernel
theorem dX11_mend_210 : decode cX11_mend 210 = .ok (.iconst 3, 1) := by decide +kernel
theorem dX11_mend_211 : decode cX11_mend 211 = .ok (.iaload, 1) := by decide +kernel
theorem dX11_mend_212 : decode cX11_mend 212 = .ok (.aload_n 0, 1) := by decide +kernel
theorem dX11_mend_213 : decode cX11_mend 213 = .ok (.invokevirtual 384, 3) := by decide +kernel
theorem dX11_mend_216 : decode cX11_mend 216 = .ok (.imul, 1) := by decide +kernel
theorem dX11_mend_217 : decode cX11_mend 217 = .ok (.iadd, 1) := by decide +kernel
theorem dX11_mend_218 : decode cX11_mend 218 = .ok (.istore 4, 2) := by decide +kernel
theorem dX11_mend_220 : decode cX11_mend 220 = .ok (.iload_n 1, 1) := by decide +kernel
theorem dX11_mend_221 : decode cX11_mend 221 = .ok (.iconst (-1), 1) := by decide +kernel
theorem dX11_mend_222 : decode cX11_mend 222 = .ok (.if_icmp .eq 12, 3) := by decide +kernel
theorem dX11_mend_225 : decode cX11_mend 225 = .ok (.iload 4, 2) := by decide +kernel
theorem dX11_mend_227 : decode cX11_mend 227 = .ok (.iload_n 1, 1) := by decide +kernel
theorem dX11_mend_228 : decode cX11_mend 228 = .ok (.if_icmp .lt 6, 3) := by decide +kernel
theorem dX11_mend_231 : decode cX11_mend 231 = .ok (.goto 16, 3) := by decide +kernel
theorem dX11_mend_234 : decode cX11_mend 234 = .ok (.iload 4, 2) := by decide +kernel
theorem dX11_mend_236 : decode cX11_mend 236 = .ok (.istore_n 1, 1) := by decide +kernel
theorem dX11_mend_237 : decode cX11_mend 237 = .ok (.iload_n 3, 1) := by decide +kernel
theorem dX11_mend_238 : decode cX11_mend 238 = .ok (.istore_n 2, 1) := by decide +kernel
theorem dX11_mend_239 : decode cX11_mend 239 = .ok (.aload_n 0, 1) := by decide +kernel
theorem dX11_mend_240 : decode cX11_mend 240 = .ok (.aload_n 0, 1) := by decide +kernel
theorem dX11_mend_241 : decode cX11_mend 241 = .ok (.invokevirtual 384, 3) := by decide +kernel
theorem dX11_mend_244 : decode cX11_mend 244 = .ok (.putfield 387, 3) := by decide +kernel
theorem dX11_mend_247 : decode cX11_mend 247 = .ok (.iinc 3 1, 3) := by decide +kernel
theorem dX11_mend_250 : decode cX11_mend 250 = .ok (.goto (-144), 3) := by decide +kernel
theorem dX11_mend_253 : decode cX11_mend 253 = .ok (.aload_n 0, 1) := by decide +kernel
theorem dX11_mend_254 : decode cX11_mend 254 = .ok (.iconst 0, 1) := by decide +kernel
theorem dX11_mend_255 : decode cX11_mend 255 = .ok (.putfield 390, 3) := by decide +kernel
theorem dX11_mend_258 : decode cX11_mend 258 = .ok (.iconst 0, 1) := by decide +kernel
theorem dX11_mend_259 : decode cX11_mend 259 = .ok (.istore_n 3, 1) := by decide +kernel
theorem dX11_mend_260 : decode cX11_mend 260 = .ok (.iload_n 3, 1) := by decide +kernel
theorem dX11_mend_261 : decode cX11_mend 261 = .ok (.aload_n 0, 1) := by decide +kernel
theorem dX11_mend_262 : decode cX11_mend 262 = .ok (.getfield 378, 3) := by decide +kernel
theorem dX11_mend_265 : decode cX11_mend 265 = .ok (.if_icmp .ge 45, 3) := by decide +kernel
theorem dX11_mend_268 : decode cX11_mend 268 = .ok (.iload_n 2, 1) := by decide +kernel
theorem dX11_mend_269 : decode cX11_mend 269 = .ok (.iload_n 3, 1) := by decide +kernel
theorem dX11_mend_270 : decode cX11_mend 270 = .ok (.ishr, 1) := by decide +kernel
theorem dX11_mend_271 : decode cX11_mend 271 = .ok (.iconst 1, 1) := by decide +kernel
theorem dX11_mend_272 : decode cX11_mend 272 = .ok (.iand, 1) := by decide +kernel
theorem dX11_mend_273 : decode cX11_mend 273 = .ok (.ifCond .ne 6, 3) := by decide +kernel
theorem dX11_mend_276 : decode cX11_mend 276 = .ok (.goto 28, 3) := by decide +kernel
theorem dX11_mend_279 : decode cX11_mend 279 = .ok (.aload_n 0, 1) := by decide +kernel
theorem dX11_mend_280 : decode cX11_mend 280 = .ok (.getfield 118, 3) := by decide +kernel
theorem dX11_mend_283 : decode cX11_mend 283 = .ok (.aload_n 0, 1) := by decide +kernel
theorem dX11_mend_284 : decode cX11_mend 284 = .ok (.getfield 390, 3) := by decide +kernel
theorem dX11_mend_287 : decode cX11_mend 287 = .ok (.aload_n 0, 1) := by decide +kernel
theorem dX11_mend_288 : decode cX11_mend 288 = .ok (.getfield 115, 3) := by decide +kernel
theorem dX11_mend_291 : decode cX11_mend 291 = .ok (.iload_n 3, 1) := by decide +kernel
theorem dX11_mend_292 : decode cX11_mend 292 = .ok (.iaload, 1) := by decide +kernel
theorem dX11_mend_293 : decode cX11_mend 293 = .ok (.iastore, 1) := by decide +kernel
theorem dX11_mend_294 : decode cX11_mend 294 = .ok (.aload_n 0, 1) := by decide +kernel
theorem dX11_mend_295 : decode cX11_mend 295 = .ok (.dup, 1) := by decide +kernel
theorem dX11_mend_296 : decode cX11_mend 296 = .ok (.getfield 390, 3) := by decide +kernel
theorem dX11_mend_299 : decode cX11_mend 299 = .ok (.iconst 1, 1) := by decide +kernel
theorem dX11_mend_300 : decode cX11_mend 300 = .ok (.iadd, 1) := by decide +kernel
theorem dX11_mend_301 : decode cX11_mend 301 = .ok (.putfield 390, 3) := by decide +kernel
theorem dX11_mend_304 : decode cX11_mend 304 = .ok (.iinc 3 1, 3) := by decide +kernel
theorem dX11_mend_307 : decode cX11_mend 307 = .ok (.goto (-47), 3) := by decide +kernel
theorem dX11_mend_310 : decode cX11_mend 310 = .ok (.aload_n 0, 1) := by decide +kernel
theorem dX11_mend_311 : decode cX11_mend 311 = .ok (.iconst 1, 1) := by decide +kernel
theorem dX11_mend_312 : decode cX11_mend 312 = .ok (.putfield 393, 3) := by decide +kernel
theorem dX11_mend_315 : decode cX11_mend 315 = .ok (.iload_n 1, 1) := by decide +kernel
theorem dX11_mend_316 : decode cX11_mend 316 = .ok (.ireturn, 1) := by decide +kernel
theorem dX11_mended_0 : decode cX11_mended 0 = .ok (.aload_n 0, 1) := by decide +kernel
theorem dX11_mended_1 : decode cX11_mended 1 = .ok (.iconst 0, 1) := by decide +kernel
theorem dX11_mended_2 : decode cX11_mended 2 = .ok (.putfield 121, 3) := by decide +kernel
theorem dX11_mended_5 : decode cX11_mended 5 = .ok (.aload_n 0, 1) := by decide +kernel
theorem dX11_mended_6 : decode cX11_mended 6 = .ok (.getfield 393, 3) := by decide +kernel
theorem dX11_mended_9 : decode cX11_mended 9 = .ok (.ifCond .eq 17, 3) := by decide +kernel
theorem dX11_mended_12 : decode cX11_mended 12 = .ok (.iload_n 1, 1) := by decide +kernel
theorem dX11_mended_13 : decode cX11_mended 13 = .ok (.ifCond .lt 13, 3) := by decide +kernel
theorem dX11_mended_16 : decode cX11_mended 16 = .ok (.iload_n 1, 1) := by decide +kernel
theorem dX11_mended_17 : decode cX11_mended 17 = .ok (.iconst 2, 1) := by decide +kernel
theorem dX11_mended_18 : decode cX11_mended 18 = .ok (.aload_n 0, 1) := by decide +kernel
theorem dX11_mended_19 : decode cX11_mended 19 = .ok (.getfield 390, 3) := by decide +kernel
theorem dX11_mended_22 : decode cX11_mended 22 = .ok (.iadd, 1) := by decide +kernel
theorem dX11_mended_23 : decode cX11_mended 23 = .ok (.if_icmp .lt 5, 3) := by decide +kernel
theorem dX11_mended_26 : decode cX11_mended 26 = .ok (.iconst (-1), 1) := by decide +kernel
theorem dX11_mended_27 : decode cX11_mended 27 = .ok (.ireturn, 1) := by decide +kernel
theorem dX11_mended_28 : decode cX11_mended 28 = .ok (.iload_n 1, 1) := by decide +kernel
theorem dX11_mended_29 : decode cX11_mended 29 = .ok (.iconst 2, 1) := by decide +kernel
theorem dX11_mended_30 : decode cX11_mended 30 = .ok (.if_icmp .ge 19, 3) := by decide +kernel
theorem dX11_mended_33 : decode cX11_mended 33 = .ok (.iload_n 1, 1) := by decide +kernel
theorem dX11_mended_34 : decode cX11_mended 34 = .ok (.ifCond .ne 10, 3) := by decide +kernel
theorem dX11_mended_37 : decode cX11_mended 37 = .ok (.aload_n 0, 1) := by decide +kernel
theorem dX11_mended_38 : decode cX11_mended 38 = .ok (.getfield 390, 3) := by decide +kernel
theorem dX11_mended_41 : decode cX11_mended 41 = .ok (.goto 7, 3) := by decide +kernel
theorem dX11_mended_44 : decode cX11_mended 44 = .ok (.aload_n 0, 1) := by decide +kernel
theorem dX11_mended_45 : decode cX11_mended 45 = .ok (.getfield 387, 3) := by decide +kernel
theorem dX11_mended_48 : decode cX11_mended 48 = .ok (.ireturn, 1) := by decide +kernel
theorem dX11_mended_49 : decode cX11_mended 49 = .ok (.aload_n 0, 1) := by decide +kernel
theorem dX11_mended_50 : decode cX11_mended 50 = .ok (.getfield 118, 3) := by decide +kernel
theorem dX11_mended_53 : decode cX11_mended 53 = .ok (.iload_n 1, 1) := by decide +kernel
theorem dX11_mended_54 : decode cX11_mended 54 = .ok (.iconst 2, 1) := by decide +kernel
theorem dX11_mended_55 : decode cX11_mended 55 = .ok (.isub, 1) := by decide +kernel
theorem dX11_mended_56 : decode cX11_mended 56 = .ok (.iaload, 1) := by decide +kernel
theorem dX11_mended_57 : decode cX11_mended 57 = .ok (.istore_n 2, 1) := by decide +kernel
theorem dX11_mended_58 : decode cX11_mended 58 = .ok (.iload_n 2, 1) := by decide +kernel
theorem dX11_mended_59 : decode cX11_mended 59 = .ok (.bipush 32, 2) := by decide +kernel
theorem dX11_mended_61 : decode cX11_mended 61 = .ok (.if_icmp .ge 16, 3) := by decide +kernel
theorem dX11_mended_64 : decode cX11_mended 64 = .ok (.bipush 10, 2) := by decide +kernel
theorem dX11_mended_66 : decode cX11_mended 66 = .ok (.iload_n 2, 1) := by decide +kernel
theorem dX11_mended_67 : decode cX11_mended 67 = .ok (.iconst 4, 1) := by decide +kernel
theorem dX11_mended_68 : decode cX11_mended 68 = .ok (.idiv, 1) := by decide +kernel
theorem dX11_mended_69 : decode cX11_mended 69 = .ok (.imul, 1) := by decide +kernel
theorem dX11_mended_70 : decode cX11_mended 70 = .ok (.iload_n 2, 1) := by decide +kernel
theorem dX11_mended_71 : decode cX11_mended 71 = .ok (.iconst 4, 1) := by decide +kernel
theorem dX11_mended_72 : decode cX11_mended 72 = .ok (.irem, 1) := by decide +kernel
theorem dX11_mended_73 : decode cX11_mended 73 = .ok (.iadd, 1) := by decide +kernel
theorem dX11_mended_74 : decode cX11_mended 74 = .ok (.goto 30, 3) := by decide +kernel
theorem dX11_mended_77 : decode cX11_mended 77 = .ok (.iload_n 2, 1) := by decide +kernel
theorem dX11_mended_78 : decode cX11_mended 78 = .ok (.bipush 40, 2) := by decide +kernel
theorem dX11_mended_80 : decode cX11_mended 80 = .ok (.if_icmp .ge 16, 3) := by decide +kernel
theorem dX11_mended_83 : decode cX11_mended 83 = .ok (.bipush 100, 2) := by decide +kernel
theorem dX11_mended_85 : decode cX11_mended 85 = .ok (.bipush 10, 2) := by decide +kernel
theorem dX11_mended_87 : decode cX11_mended 87 = .ok (.iload_n 2, 1) := by decide +kernel
theorem dX11_mended_88 : decode cX11_mended 88 = .ok (.bipush 32, 2) := by decide +kernel
theorem dX11_mended_90 : decode cX11_mended 90 = .ok (.isub, 1) := by decide +kernel
theorem dX11_mended_91 : decode cX11_mended 91 = .ok (.imul, 1) := by decide +kernel
theorem dX11_mended_92 : decode cX11_mended 92 = .ok (.iadd, 1) := by decide +kernel
theorem dX11_mended_93 : decode cX11_mended 93 = .ok (.goto 11, 3) := by decide +kernel
theorem dX11_mended_96 : decode cX11_mended 96 = .ok (.sipush 200, 3) := by decide +kernel
theorem dX11_mended_99 : decode cX11_mended 99 = .ok (.iload_n 2, 1) := by decide +kernel
theorem dX11_mended_100 : decode cX11_mended 100 = .ok (.iadd, 1) := by decide +kernel
theorem dX11_mended_101 : decode cX11_mended 101 = .ok (.bipush 40, 2) := by decide +kernel
theorem dX11_mended_103 : decode cX11_mended 103 = .ok (.isub, 1) := by decide +kernel
theorem dX11_mended_104 : decode cX11_mended 104 = .ok (.ireturn, 1) := by decide +kernel
theorem dX11_count_0 : decode cX11_count 0 = .ok (.aload_n 0, 1) := by decide +kernel
theorem dX11_count_1 : decode cX11_count 1 = .ok (.iconst 0, 1) := by decide +kernel
theorem dX11_count_2 : decode cX11_count 2 = .ok (.putfield 121, 3) := by decide +kernel
theorem dX11_count_5 : decode cX11_count 5 = .ok (.iconst 0, 1) := by decide +kernel
theorem dX11_count_6 : decode cX11_count 6 = .ok (.istore_n 2, 1) := by decide +kernel
theorem dX11_count_7 : decode cX11_count 7 = .ok (.iconst 0, 1) := by decide +kernel
theorem dX11_count_8 : decode cX11_count 8 = .ok (.istore_n 3, 1) := by decide +kernel
theorem dX11_count_9 : decode cX11_count 9 = .ok (.iload_n 1, 1) := by decide +kernel
theorem dX11_count_10 : decode cX11_count 10 = .ok (.iconst 4, 1) := by decide +kernel
theorem dX11_count_11 : decode cX11_count 11 = .ok (.if_icmp .eq 8, 3) := by decide +kernel
theorem dX11_count_14 : decode cX11_count 14 = .ok (.iload_n 1, 1) := by decide +kernel
theorem dX11_count_15 : decode cX11_count 15 = .ok (.iconst 5, 1) := by decide +kernel
theorem dX11_count_16 : decode cX11_count 16 = .ok (.if_icmp .ne 67, 3) := by decide +kernel
theorem dX11_count_19 : decode cX11_count 19 = .ok (.aload_n 0, 1) := by decide +kernel
theorem dX11_count_20 : decode cX11_count 20 = .ok (.invokevirtual 299, 3) := by decide +kernel
theorem dX11_count_23 : decode cX11_count 23 = .ok (.aload_n 0, 1) := by decide +kernel
theorem dX11_count_24 : decode cX11_count 24 = .ok (.invokevirtual 302, 3) := by decide +kernel
theorem dX11_count_27 : decode cX11_count 27 = .ok (.iconst 0, 1) := by decide +kernel
theorem dX11_count_28 : decode cX11_count 28 = .ok (.istore 4, 2) := by decide +kernel
theorem dX11_count_30 : decode cX11_count 30 = .ok (.iload 4, 2) := by decide +kernel
theorem dX11_count_32 : decode cX11_count 32 = .ok (.aload_n 0, 1) := by decide +kernel
theorem dX11_count_33 : decode cX11_count 33 = .ok (.getfield 53, 3) := by decide +kernel
theorem dX11_count_36 : decode cX11_count 36 = .ok (.iconst 0, 1) := by decide +kernel
theorem dX11_count_37 : decode cX11_count 37 = .ok (.iaload, 1) := by decide +kernel
theorem dX11_count_38 : decode cX11_count 38 = .ok (.if_icmp .ge 45, 3) := by decide +kernel
theorem dX11_count_41 : decode cX11_count 41 = .ok (.iload_n 2, 1) := by decide +kernel
theorem dX11_count_42 : decode cX11_count 42 = .ok (.aload_n 0, 1) := by decide +kernel
theorem dX11_count_43 : decode cX11_count 43 = .ok (.iload 4, 2) := by decide +kernel
theorem dX11_count_45 : decode cX11_count 45 = .ok (.invokevirtual 305, 3) := by decide +kernel
theorem dX11_count_48 : decode cX11_count 48 = .ok (.iconst 3, 1) := by decide +kernel
theorem dX11_count_49 : decode cX11_count 49 = .ok (.if_icmp .ne 7, 3) := by decide +kernel
theorem dX11_count_52 : decode cX11_count 52 = .ok (.iconst 1, 1) := by decide +kernel
theorem dX11_count_53 : decode cX11_count 53 = .ok (.goto 4, 3) := by decide +kernel
theorem dX11_count_56 : decode cX11_count 56 = .ok (.iconst 0, 1) := by decide +kernel
theorem dX11_count_57 : decode cX11_count 57 = .ok (.iadd, 1) := by decide +kernel
theorem dX11_count_58 : decode cX11_count 58 = .ok (.istore_n 2, 1) := by decide +kernel
theorem dX11_count_59 : decode cX11_count 59 = .ok (.iload_n 3, 1) := by decide +kernel
theorem dX11_count_60 : decode cX11_count 60 = .ok (.aload_n 0, 1) := by decide +kernel
theorem dX11_count_61 : decode cX11_count 61 = .ok (.iload 4, 2) := by decide +kernel
theorem dX11_count_63 : decode cX11_count 63 = .ok (.invokevirtual 305, 3) := by decide +kernel
theorem dX11_count_66 : decode cX11_count 66 = .ok (.iconst 1, 1) := by decide +kernel
theorem dX11_count_67 : decode cX11_count 67 = .ok (.if_icmp .ne 7, 3) := by decide +kernel
theorem dX11_count_70 : decode cX11_count 70 = .ok (.iconst 1, 1) := by decide +kernel
theorem dX11_count_71 : decode cX11_count 71 = .ok (.goto 4, 3) := by decide +kernel
theorem dX11_count_74 : decode cX11_count 74 = .ok (.iconst 0, 1) := by decide +kernel
theorem dX11_count_75 : decode cX11_count 75 = .ok (.iadd, 1) := by decide +kernel
theorem dX11_count_76 : decode cX11_count 76 = .ok (.istore_n 3, 1) := by decide +kernel
theorem dX11_count_77 : decode cX11_count 77 = .ok (.iinc 4 1, 3) := by decide +kernel
theorem dX11_count_80 : decode cX11_count 80 = .ok (.goto (-50), 3) := by decide +kernel
theorem dX11_count_83 : decode cX11_count 83 = .ok (.iload_n 1, 1) := by decide +kernel
theorem dX11_count_84 : decode cX11_count 84 = .ok (.tableswitch 68 0 5 #[40, 45, 52, 59, 64, 66], 40) := by decide +kernel
theorem dX11_count_124 : decode cX11_count 124 = .ok (.aload_n 0, 1) := by decide +kernel
theorem dX11_count_125 : decode cX11_count 125 = .ok (.invokevirtual 248, 3) := by decide +kernel
theorem dX11_count_128 : decode cX11_count 128 = .ok (.ireturn, 1) := by decide +kernel
theorem dX11_count_129 : decode cX11_count 129 = .ok (.aload_n 0, 1) := by decide +kernel
theorem dX11_count_130 : decode cX11_count 130 = .ok (.getfield 53, 3) := by decide +kernel
theorem dX11_count_133 : decode cX11_count 133 = .ok (.iconst 0, 1) := by decide +kernel
theorem dX11_count_134 : decode cX11_count 134 = .ok (.iaload, 1) := by decide +kernel
theorem dX11_count_135 : decode cX11_count 135 = .ok (.ireturn, 1) := by decide +kernel
theorem dX11_count_136 : decode cX11_count 136 = .ok (.aload_n 0, 1) := by decide +kernel
theorem dX11_count_137 : decode cX11_count 137 = .ok (.getfield 62, 3) := by decide +kernel
theorem dX11_count_140 : decode cX11_count 140 = .ok (.iconst 0, 1) := by decide +kernel
theorem dX11_count_141 : decode cX11_count 141 = .ok (.iaload, 1) := by decide +kernel
theorem dX11_count_142 : decode cX11_count 142 = .ok (.ireturn, 1) := by decide +kernel
theorem dX11_count_143 : decode cX11_count 143 = .ok (.aload_n 0, 1) := by decide +kernel
theorem dX11_count_144 : decode cX11_count 144 = .ok (.getfield 83, 3) := by decide +kernel
theorem dX11_count_147 : decode cX11_count 147 = .ok (.ireturn, 1) := by decide +kernel
theorem dX11_count_148 : decode cX11_count 148 = .ok (.iload_n 2, 1) := by decide +kernel
theorem dX11_count_149 : decode cX11_count 149 = .ok (.ireturn, 1) := by decide +kernel
theorem dX11_count_150 : decode cX11_count 150 = .ok (.iload_n 3, 1) := by decide +kernel
theorem dX11_count_151 : decode cX11_count 151 = .ok (.ireturn, 1) := by decide +kernel
theorem dX11_count_152 : decode cX11_count 152 = .ok (.iconst (-1), 1) := by decide +kernel
theorem dX11_count_153 : decode cX11_count 153 = .ok (.ireturn, 1) := by decide +kernel
theorem dJ9_floorMod_7cf53_0 : decode cJ9_floorMod_7cf53 0 = .ok (.iload_n 0, 1) := by decide +kernel
theorem dJ9_floorMod_7cf53_1 : decode cJ9_floorMod_7cf53 1 = .ok (.iload_n 1, 1) := by decide +kernel
theorem dJ9_floorMod_7cf53_2 : decode cJ9_floorMod_7cf53 2 = .ok (.irem, 1) := by decide +kernel
theorem dJ9_floorMod_7cf53_3 : decode cJ9_floorMod_7cf53 3 = .ok (.istore_n 2, 1) := by decide +kernel
theorem dJ9_floorMod_7cf53_4 : decode cJ9_floorMod_7cf53 4 = .ok (.iload_n 0, 1) := by decide +kernel
theorem dJ9_floorMod_7cf53_5 : decode cJ9_floorMod_7cf53 5 = .ok (.iload_n 1, 1) := by decide +kernel
theorem dJ9_floorMod_7cf53_6 : decode cJ9_floorMod_7cf53 6 = .ok (.ixor, 1) := by decide +kernel
theorem dJ9_floorMod_7cf53_7 : decode cJ9_floorMod_7cf53 7 = .ok (.ifCond .ge 11, 3) := by decide +kernel
theorem dJ9_floorMod_7cf53_10 : decode cJ9_floorMod_7cf53 10 = .ok (.iload_n 2, 1) := by decide +kernel
theorem dJ9_floorMod_7cf53_11 : decode cJ9_floorMod_7cf53 11 = .ok (.ifCond .eq 7, 3) := by decide +kernel
theorem dJ9_floorMod_7cf53_14 : decode cJ9_floorMod_7cf53 14 = .ok (.iload_n 2, 1) := by decide +kernel
theorem dJ9_floorMod_7cf53_15 : decode cJ9_floorMod_7cf53 15 = .ok (.iload_n 1, 1) := by decide +kernel
theorem dJ9_floorMod_7cf53_16 : decode cJ9_floorMod_7cf53 16 = .ok (.iadd, 1) := by decide +kernel
theorem dJ9_floorMod_7cf53_17 : decode cJ9_floorMod_7cf53 17 = .ok (.ireturn, 1) := by decide +kernel
theorem dJ9_floorMod_7cf53_18 : decode cJ9_floorMod_7cf53 18 = .ok (.iload_n 2, 1) := by decide +kernel
theorem dJ9_floorMod_7cf53_19 : decode cJ9_floorMod_7cf53 19 = .ok (.ireturn, 1) := by decide +kernel
theorem dJ9_max_7cf53_0 : decode cJ9_max_7cf53 0 = .ok (.iload_n 0, 1) := by decide +kernel
theorem dJ9_max_7cf53_1 : decode cJ9_max_7cf53 1 = .ok (.iload_n 1, 1) := by decide +kernel
theorem dJ9_max_7cf53_2 : decode cJ9_max_7cf53 2 = .ok (.if_icmp .lt 7, 3) := by decide +kernel
theorem dJ9_max_7cf53_5 : decode cJ9_max_7cf53 5 = .ok (.iload_n 0, 1) := by decide +kernel
theorem dJ9_max_7cf53_6 : decode cJ9_max_7cf53 6 = .ok (.goto 4, 3) := by decide +kernel
theorem dJ9_max_7cf53_9 : decode cJ9_max_7cf53 9 = .ok (.iload_n 1, 1) := by decide +kernel
theorem dJ9_max_7cf53_10 : decode cJ9_max_7cf53 10 = .ok (.ireturn, 1) := by decide +kernel
theorem dJ9_min_7cf53_0 : decode cJ9_min_7cf53 0 = .ok (.iload_n 0, 1) := by decide +kernel
theorem dJ9_min_7cf53_1 : decode cJ9_min_7cf53 1 = .ok (.iload_n 1, 1) := by decide +kernel
theorem dJ9_min_7cf53_2 : decode cJ9_min_7cf53 2 = .ok (.if_icmp .gt 7, 3) := by decide +kernel
theorem dJ9_min_7cf53_5 : decode cJ9_min_7cf53 5 = .ok (.iload_n 0, 1) := by decide +kernel
theorem dJ9_min_7cf53_6 : decode cJ9_min_7cf53 6 = .ok (.goto 4, 3) := by decide +kernel
theorem dJ9_min_7cf53_9 : decode cJ9_min_7cf53 9 = .ok (.iload_n 1, 1) := by decide +kernel
theorem dJ9_min_7cf53_10 : decode cJ9_min_7cf53 10 = .ok (.ireturn, 1) := by decide +kernel
theorem dJ0_length_8abf5_0 : decode cJ0_length_8abf5 0 = .ok (.aload_n 0, 1) := by decide +kernel
theorem dJ0_length_8abf5_1 : decode cJ0_length_8abf5 1 = .ok (.getfield 9, 3) := by decide +kernel
theorem dJ0_length_8abf5_4 : decode cJ0_length_8abf5 4 = .ok (.arraylength, 1) := by decide +kernel
theorem dJ0_length_8abf5_5 : decode cJ0_length_8abf5 5 = .ok (.aload_n 0, 1) := by decide +kernel
theorem dJ0_length_8abf5_6 : decode cJ0_length_8abf5 6 = .ok (.invokevirtual 335, 3) := by decide +kernel
theorem dJ0_length_8abf5_9 : decode cJ0_length_8abf5 9 = .ok (.ishr, 1) := by decide +kernel
theorem dJ0_length_8abf5_10 : decode cJ0_length_8abf5 10 = .ok (.ireturn, 1) := by decide +kernel
theorem dJ0_charAt_5068e_0 : decode cJ0_charAt_5068e 0 = .ok (.aload_n 0, 1) := by decide +kernel
theorem dJ0_charAt_5068e_1 : decode cJ0_charAt_5068e 1 = .ok (.invokevirtual 492, 3) := by decide +kernel
theorem dJ0_charAt_5068e_4 : decode cJ0_charAt_5068e 4 = .ok (.ifCond .eq 12, 3) := by decide +kernel
theorem dJ0_charAt_5068e_7 : decode cJ0_charAt_5068e 7 = .ok (.aload_n 0, 1) := by decide +kernel
theorem dJ0_charAt_5068e_8 : decode cJ0_charAt_5068e 8 = .ok (.getfield 9, 3) := by decide +kernel
theorem dJ0_charAt_5068e_11 : decode cJ0_charAt_5068e 11 = .ok (.iload_n 1, 1) := by decide +kernel
theorem dJ0_charAt_5068e_12 : decode cJ0_charAt_5068e 12 = .ok (.invokestatic 495, 3) := by decide +kernel
theorem dJ0_charAt_5068e_15 : decode cJ0_charAt_5068e 15 = .ok (.ireturn, 1) := by decide +kernel
theorem dJ0_charAt_5068e_16 : decode cJ0_charAt_5068e 16 = .ok (.aload_n 0, 1) := by decide +kernel
theorem dJ0_charAt_5068e_17 : decode cJ0_charAt_5068e 17 = .ok (.getfield 9, 3) := by decide +kernel
theorem dJ0_charAt_5068e_20 : decode cJ0_charAt_5068e 20 = .ok (.iload_n 1, 1) := by decide +kernel
theorem dJ0_charAt_5068e_21 : decode cJ0_charAt_5068e 21 = .ok (.invokestatic 498, 3) := by decide +kernel
theorem dJ0_charAt_5068e_24 : decode cJ0_charAt_5068e 24 = .ok (.ireturn, 1) := by decide +kernel
theorem dJ0_coder_7d493_0 : decode cJ0_coder_7d493 0 = .ok (.getstatic 38, 3) := by decide +kernel
theorem dJ0_coder_7d493_3 : decode cJ0_coder_7d493 3 = .ok (.ifCond .eq 10, 3) := by decide +kernel
theorem dJ0_coder_7d493_6 : decode cJ0_coder_7d493 6 = .ok (.aload_n 0, 1) := by decide +kernel
theorem dJ0_coder_7d493_7 : decode cJ0_coder_7d493 7 = .ok (.getfield 15, 3) := by decide +kernel
theorem dJ0_coder_7d493_10 : decode cJ0_coder_7d493 10 = .ok (.goto 4, 3) := by decide +kernel
theorem dJ0_coder_7d493_13 : decode cJ0_coder_7d493 13 = .ok (.iconst 1, 1) := by decide +kernel
theorem dJ0_coder_7d493_14 : decode cJ0_coder_7d493 14 = .ok (.ireturn, 1) := by decide +kernel
theorem dJ0_isLatin1_aae02_0 : decode cJ0_isLatin1_aae02 0 = .ok (.getstatic 38, 3) := by decide +kernel
theorem dJ0_isLatin1_aae02_3 : decode cJ0_isLatin1_aae02 3 = .ok (.ifCond .eq 14, 3) := by decide +kernel
theorem dJ0_isLatin1_aae02_6 : decode cJ0_isLatin1_aae02 6 = .ok (.aload_n 0, 1) := by decide +kernel
theorem dJ0_isLatin1_aae02_7 : decode cJ0_isLatin1_aae02 7 = .ok (.getfield 15, 3) := by decide +kernel
theorem dJ0_isLatin1_aae02_10 : decode cJ0_isLatin1_aae02 10 = .ok (.ifCond .ne 7, 3) := by decide +kernel
theorem dJ0_isLatin1_aae02_13 : decode cJ0_isLatin1_aae02 13 = .ok (.iconst 1, 1) := by decide +kernel
theorem dJ0_isLatin1_aae02_14 : decode cJ0_isLatin1_aae02 14 = .ok (.goto 4, 3) := by decide +kernel
theorem dJ0_isLatin1_aae02_17 : decode cJ0_isLatin1_aae02 17 = .ok (.iconst 0, 1) := by decide +kernel
theorem dJ0_isLatin1_aae02_18 : decode cJ0_isLatin1_aae02 18 = .ok (.ireturn, 1) := by decide +kernel
theorem dJ0_checkIndex_df160_0 : decode cJ0_checkIndex_df160 0 = .ok (.iload_n 0, 1) := by decide +kernel
theorem dJ0_checkIndex_df160_1 : decode cJ0_checkIndex_df160 1 = .ok (.iload_n 1, 1) := by decide +kernel
theorem dJ0_checkIndex_df160_2 : decode cJ0_checkIndex_df160 2 = .ok (.getstatic 1053, 3) := by decide +kernel
theorem dJ0_checkIndex_df160_5 : decode cJ0_checkIndex_df160 5 = .ok (.invokestatic 1059, 3) := by decide +kernel
theorem dJ0_checkIndex_df160_8 : decode cJ0_checkIndex_df160 8 = .ok (.pop, 1) := by decide +kernel
theorem dJ0_checkIndex_df160_9 : decode cJ0_checkIndex_df160 9 = .ok (.return_, 1) := by decide +kernel
theorem dJ1_charAt_3b067_0 : decode cJ1_charAt_3b067 0 = .ok (.iload_n 1, 1) := by decide +kernel
theorem dJ1_charAt_3b067_1 : decode cJ1_charAt_3b067 1 = .ok (.aload_n 0, 1) := by decide +kernel
theorem dJ1_charAt_3b067_2 : decode cJ1_charAt_3b067 2 = .ok (.arraylength, 1) := by decide +kernel
theorem dJ1_charAt_3b067_3 : decode cJ1_charAt_3b067 3 = .ok (.invokestatic 9, 3) := by decide +kernel
theorem dJ1_charAt_3b067_6 : decode cJ1_charAt_3b067 6 = .ok (.aload_n 0, 1) := by decide +kernel
theorem dJ1_charAt_3b067_7 : decode cJ1_charAt_3b067 7 = .ok (.iload_n 1, 1) := by decide +kernel
theorem dJ1_charAt_3b067_8 : decode cJ1_charAt_3b067 8 = .ok (.baload, 1) := by decide +kernel
theorem dJ1_charAt_3b067_9 : decode cJ1_charAt_3b067 9 = .ok (.sipush 255, 3) := by decide +kernel
theorem dJ1_charAt_3b067_12 : decode cJ1_charAt_3b067 12 = .ok (.iand, 1) := by decide +kernel
theorem dJ1_charAt_3b067_13 : decode cJ1_charAt_3b067 13 = .ok (.i2c, 1) := by decide +kernel
theorem dJ1_charAt_3b067_14 : decode cJ1_charAt_3b067 14 = .ok (.ireturn, 1) := by decide +kernel
theorem dJ7_fill_d0a16_0 : decode cJ7_fill_d0a16 0 = .ok (.iconst 0, 1) := by decide +kernel
theorem dJ7_fill_d0a16_1 : decode cJ7_fill_d0a16 1 = .ok (.istore_n 3, 1) := by decide +kernel
theorem dJ7_fill_d0a16_2 : decode cJ7_fill_d0a16 2 = .ok (.aload_n 0, 1) := by decide +kernel
theorem dJ7_fill_d0a16_3 : decode cJ7_fill_d0a16 3 = .ok (.arraylength, 1) := by decide +kernel
theorem dJ7_fill_d0a16_4 : decode cJ7_fill_d0a16 4 = .ok (.istore 4, 2) := by decide +kernel
theorem dJ7_fill_d0a16_6 : decode cJ7_fill_d0a16 6 = .ok (.iload_n 3, 1) := by decide +kernel
theorem dJ7_fill_d0a16_7 : decode cJ7_fill_d0a16 7 = .ok (.iload 4, 2) := by decide +kernel
theorem dJ7_fill_d0a16_9 : decode cJ7_fill_d0a16 9 = .ok (.if_icmp .ge 13, 3) := by decide +kernel
theorem dJ7_fill_d0a16_12 : decode cJ7_fill_d0a16 12 = .ok (.aload_n 0, 1) := by decide +kernel
theorem dJ7_fill_d0a16_13 : decode cJ7_fill_d0a16 13 = .ok (.iload_n 3, 1) := by decide +kernel
theorem dJ7_fill_d0a16_14 : decode cJ7_fill_d0a16 14 = .ok (.lload_n 1, 1) := by decide +kernel
theorem dJ7_fill_d0a16_15 : decode cJ7_fill_d0a16 15 = .ok (.lastore, 1) := by decide +kernel
theorem dJ7_fill_d0a16_16 : decode cJ7_fill_d0a16 16 = .ok (.iinc 3 1, 3) := by decide +kernel
theorem dJ7_fill_d0a16_19 : decode cJ7_fill_d0a16 19 = .ok (.goto (-13), 3) := by decide +kernel
theorem dJ7_fill_d0a16_22 : decode cJ7_fill_d0a16 22 = .ok (.return_, 1) := by decide +kernel
theorem dJ7_fill_53178_0 : decode cJ7_fill_53178 0 = .ok (.iconst 0, 1) := by decide +kernel
theorem dJ7_fill_53178_1 : decode cJ7_fill_53178 1 = .ok (.istore_n 2, 1) := by decide +kernel
theorem dJ7_fill_53178_2 : decode cJ7_fill_53178 2 = .ok (.aload_n 0, 1) := by decide +kernel
theorem dJ7_fill_53178_3 : decode cJ7_fill_53178 3 = .ok (.arraylength, 1) := by decide +kernel
theorem dJ7_fill_53178_4 : decode cJ7_fill_53178 4 = .ok (.istore_n 3, 1) := by decide +kernel
theorem dJ7_fill_53178_5 : decode cJ7_fill_53178 5 = .ok (.iload_n 2, 1) := by decide +kernel
theorem dJ7_fill_53178_6 : decode cJ7_fill_53178 6 = .ok (.iload_n 3, 1) := by decide +kernel
theorem dJ7_fill_53178_7 : decode cJ7_fill_53178 7 = .ok (.if_icmp .ge 13, 3) := by decide +kernel
theorem dJ7_fill_53178_10 : decode cJ7_fill_53178 10 = .ok (.aload_n 0, 1) := by decide +kernel
theorem dJ7_fill_53178_11 : decode cJ7_fill_53178 11 = .ok (.iload_n 2, 1) := by decide +kernel
theorem dJ7_fill_53178_12 : decode cJ7_fill_53178 12 = .ok (.iload_n 1, 1) := by decide +kernel
theorem dJ7_fill_53178_13 : decode cJ7_fill_53178 13 = .ok (.iastore, 1) := by decide +kernel
theorem dJ7_fill_53178_14 : decode cJ7_fill_53178 14 = .ok (.iinc 2 1, 3) := by decide +kernel
theorem dJ7_fill_53178_17 : decode cJ7_fill_53178 17 = .ok (.goto (-12), 3) := by decide +kernel
theorem dJ7_fill_53178_20 : decode cJ7_fill_53178 20 = .ok (.return_, 1) := by decide +kernel
theorem dJ3_checkIndex_8e157_0 : decode cJ3_checkIndex_8e157 0 = .ok (.iload_n 0, 1) := by decide +kernel
theorem dJ3_checkIndex_8e157_1 : decode cJ3_checkIndex_8e157 1 = .ok (.ifCond .lt 8, 3) := by decide +kernel
theorem dJ3_checkIndex_8e157_4 : decode cJ3_checkIndex_8e157 4 = .ok (.iload_n 0, 1) := by decide +kernel
theorem dJ3_checkIndex_8e157_5 : decode cJ3_checkIndex_8e157 5 = .ok (.iload_n 1, 1) := by decide +kernel
theorem dJ3_checkIndex_8e157_6 : decode cJ3_checkIndex_8e157 6 = .ok (.if_icmp .lt 10, 3) := by decide +kernel
theorem dJ3_checkIndex_8e157_9 : decode cJ3_checkIndex_8e157 9 = .ok (.aload_n 2, 1) := by decide +kernel
theorem dJ3_checkIndex_8e157_10 : decode cJ3_checkIndex_8e157 10 = .ok (.iload_n 0, 1) := by decide +kernel
theorem dJ3_checkIndex_8e157_11 : decode cJ3_checkIndex_8e157 11 = .ok (.iload_n 1, 1) := by decide +kernel
theorem dJ3_checkIndex_8e157_12 : decode cJ3_checkIndex_8e157 12 = .ok (.invokestatic 95, 3) := by decide +kernel
theorem dJ3_checkIndex_8e157_15 : decode cJ3_checkIndex_8e157 15 = .ok (.athrow, 1) := by decide +kernel
theorem dJ3_checkIndex_8e157_16 : decode cJ3_checkIndex_8e157 16 = .ok (.iload_n 0, 1) := by decide +kernel
theorem dJ3_checkIndex_8e157_17 : decode cJ3_checkIndex_8e157 17 = .ok (.ireturn, 1) := by decide +kernel
end
section

abbrev kTy (c4 : ClassId × ClassId × ClassId × ClassId) : List (ClassId × FieldType) := [(c4.1, .int), (c4.2.1, .byte), (c4.2.2.1, .long), (c4.2.2.2, .boolean)]
/-- the pure state: ints, longs, rows of ints, rows of longs, references that change (to ids) -/
abbrev St : Type := (Nat → Int32) × (Nat → Int64) × (Nat → Nat → Int32) × (Nat → Nat → Int64) × (Nat → Nat)
def gI (σ : St) (k : Nat) : Int32 := σ.1 k
def gL (σ : St) (k : Nat) : Int64 := σ.2.1 k
def gA (σ : St) (j : Nat) : Nat → Int32 := σ.2.2.1 j
def gZ (σ : St) (j : Nat) : Nat → Int64 := σ.2.2.2.1 j
def gP (σ : St) (k : Nat) : Nat := σ.2.2.2.2 k
def sI (σ : St) (k : Nat) (v : Int32) : St := (fun j => if j = k then v else σ.1 j, σ.2)
def sL (σ : St) (k : Nat) (v : Int64) : St := (σ.1, (fun j => if j = k then v else σ.2.1 j), σ.2.2)
def sA (σ : St) (j i : Nat) (v : Int32) : St := (σ.1, σ.2.1, (fun q => if q = j then upd (σ.2.2.1 j) i v else σ.2.2.1 q), σ.2.2.2)
def sZ (σ : St) (j i : Nat) (v : Int64) : St := (σ.1, σ.2.1, σ.2.2.1, (fun q => if q = j then vp_updL (σ.2.2.2.1 j) i v else σ.2.2.2.1 q), σ.2.2.2.2)
def sP (σ : St) (k : Nat) (v : Nat) : St := (σ.1, σ.2.1, σ.2.2.1, σ.2.2.2.1, fun j => if j = k then v else σ.2.2.2.2 j)
def ib (i : Int32) (n : Nat) : Bool := !(decide (i < 0)) && decide (i.toNatClampNeg < n)
def gd {τ : Type} (b : Bool) (F : Option τ) : Option τ := if b then F else none
def bd {ρ τ : Type} (o : Option (ρ × St)) (K : ρ → St → Option τ) : Option τ := match o with
  | none => none
  | some (r, σ) => K r σ
theorem ib_in {i : Int32} {n : Nat} (h : ib i n = true) : vp_in i n := by
  unfold ib at h
  simp only [Bool.and_eq_true, Bool.not_eq_true', decide_eq_false_iff_not, decide_eq_true_eq] at h
  intro q
  rcases q with q | q
  · exact h.1 q
  · omega
theorem gd_some {τ : Type} {b : Bool} {F : Option τ} {x : τ} (h : gd b F = some x) : b = true ∧ F = some x := by
  cases b with
  | true => exact ⟨rfl, h⟩
  | false => cases h
theorem bd_some {ρ τ : Type} {o : Option (ρ × St)} {K : ρ → St → Option τ} {x : τ} (h : bd o K = some x) : ∃ r σ, o = some (r, σ) ∧ K r σ = some x := by
  cases o with
  | none => cases h
  | some q => exact ⟨q.1, q.2, rfl, h⟩
/-- a schema: the ids, the kind of each (0 ints, 1 bytes, 2 longs, 3 booleans, 4 + its class: an object), the length of a row, the kinds of an object's fields (0 int, 1 long, 2 a reference that changes, 3 + id: one that stays) -/
abbrev Sc : Type := List Nat × (Nat → Nat) × (Nat → Nat) × (Nat → List Nat)
def fval (ad : Nat → Nat) (σ : St) (o k kd : Nat) : Value := match kd with
  | 0 => .int (gI σ (100 * o + k))
  | 1 => .long (gL σ (100 * o + k))
  | 2 => .ref (ad (gP σ (100 * o + k)))
  | t + 3 => .ref (ad t)
def flist (ad : Nat → Nat) (σ : St) (o : Nat) : Nat → List Nat → List Value
  | _, [] => []
  | k, kd :: r => fval ad σ o k kd :: flist ad σ o (k + 1) r
theorem flist_get {ad : Nat → Nat} {σ : St} {o : Nat} : ∀ (l : List Nat) (i k : Nat), (flist ad σ o i l)[k]? = (l[k]?).map (fval ad σ o (i + k)) := by
  intro l
  induction l with
  | nil => intro i k; simp [flist]
  | cons a l ih =>
    intro i k
    cases k with
    | zero => simp [flist]
    | succ k =>
      simp only [flist, List.getElem?_cons_succ]
      rw [ih (i + 1) k, show i + 1 + k = i + (k + 1) from by omega]
theorem flist_len {ad : Nat → Nat} {σ : St} {o : Nat} : ∀ (l : List Nat) (i : Nat), (flist ad σ o i l).length = l.length := by
  intro l
  induction l with
  | nil => intro i; rfl
  | cons a l ih => intro i; simp only [flist, List.length_cons, ih]
abbrev C4 : Type := ClassId × ClassId × ClassId × ClassId
def fcell (sc : Sc) (c4 : C4) (ad : Nat → Nat) (σ : St) (j : Nat) : va_E := match sc.2.1 j with
  | 0 => .inl (c4.1, sc.2.2.1 j, .inl (gA σ j))
  | 1 => .inl (c4.2.1, sc.2.2.1 j, .inl (gA σ j))
  | 2 => .inl (c4.2.2.1, sc.2.2.1 j, .inr (.inl (gZ σ j)))
  | 3 => .inl (c4.2.2.2, sc.2.2.1 j, .inl (gA σ j))
  | ci + 4 => .inr (ci, flist ad σ j 0 (sc.2.2.2 j))
def wdS (sc : Sc) (c4 : C4) (ad : Nat → Nat) (σ : St) : va_W := sc.1.map (fun j => (ad j, fcell sc c4 ad σ j))
theorem wd_at {sc : Sc} {c4 : C4} {ad : Nat → Nat} {σ : St} {q j : Nat} (h : sc.1[q]? = some j) : (wdS sc c4 ad σ)[q]? = some (ad j, fcell sc c4 ad σ j) := by
  unfold wdS
  rw [List.getElem?_map, h]
  rfl
theorem wd_set {sc : Sc} {c4 : C4} {ad : Nat → Nat} {σ σ' : St} {A : Nat → Prop} {q j : Nat} {e : va_E} (hD : va_D A (wdS sc c4 ad σ)) (hq : sc.1[q]? = some j) (he : fcell sc c4 ad σ' j = e) (ho : ∀ j', j' ≠ j → fcell sc c4 ad σ' j' = fcell sc c4 ad σ j') : (wdS sc c4 ad σ).set q (ad j, e) = wdS sc c4 ad σ' := by
  have hq1 := wd_at (c4 := c4) (ad := ad) (σ := σ) hq
  apply List.ext_getElem?
  intro k
  by_cases hk : q = k
  · subst hk
    rw [List.getElem?_set_self (List.getElem?_eq_some_iff.mp hq1).1, wd_at hq, he]
  · rw [List.getElem?_set_ne hk]
    unfold wdS
    rw [List.getElem?_map, List.getElem?_map]
    cases h : sc.1[k]? with
    | none => rfl
    | some j' =>
      have hj : j' ≠ j := by
        intro e2
        subst e2
        exact hk (hD.1 q k _ _ hq1 (wd_at h) rfl)
      simp only [Option.map_some, ho j' hj]
theorem fv_sI {ad : Nat → Nat} {σ : St} {o k kd s : Nat} {v : Int32} (h : kd = 0 → 100 * o + k ≠ s) : fval ad (sI σ s v) o k kd = fval ad σ o k kd := by
  match kd with
  | 0 => simp only [fval, gI, sI, if_neg (h rfl)]
  | 1 => rfl
  | 2 => rfl
  | t + 3 => rfl
theorem fv_sL {ad : Nat → Nat} {σ : St} {o k kd s : Nat} {v : Int64} (h : kd = 1 → 100 * o + k ≠ s) : fval ad (sL σ s v) o k kd = fval ad σ o k kd := by
  match kd with
  | 0 => rfl
  | 1 => simp only [fval, gL, sL, if_neg (h rfl)]
  | 2 => rfl
  | t + 3 => rfl
theorem fv_sP {ad : Nat → Nat} {σ : St} {o k kd s : Nat} {v : Nat} (h : kd = 2 → 100 * o + k ≠ s) : fval ad (sP σ s v) o k kd = fval ad σ o k kd := by
  match kd with
  | 0 => rfl
  | 1 => rfl
  | 2 => simp only [fval, gP, sP, if_neg (h rfl)]
  | t + 3 => rfl
/-- the field k of object o set: the list -/
theorem fl_set {ad : Nat → Nat} {σ σ' : St} {o k : Nat} {l : List Nat} {v : Value} (hk : k < l.length) (hs : ∀ kd, l[k]? = some kd → fval ad σ' o k kd = v) (ho : ∀ k' kd, k' ≠ k → l[k']? = some kd → fval ad σ' o k' kd = fval ad σ o k' kd) : flist ad σ' o 0 l = (flist ad σ o 0 l).set k v := by
  apply List.ext_getElem?
  intro i
  by_cases hi : k = i
  · subst hi
    rw [List.getElem?_set_self (by rw [flist_len]; exact hk), flist_get, Nat.zero_add]
    obtain ⟨kd, hkd⟩ : ∃ kd, l[k]? = some kd := ⟨_, List.getElem?_eq_getElem hk⟩
    rw [hkd, Option.map_some, hs kd hkd]
  · rw [List.getElem?_set_ne hi, flist_get, flist_get, Nat.zero_add]
    cases h : l[i]? with
    | none => rfl
    | some kd => simp only [Option.map_some, ho i kd (fun e => hi e.symm) h]
theorem fl_same {ad : Nat → Nat} {σ σ' : St} {o : Nat} {l : List Nat} (ho : ∀ k' kd, l[k']? = some kd → fval ad σ' o k' kd = fval ad σ o k' kd) : flist ad σ' o 0 l = flist ad σ o 0 l := by
  apply List.ext_getElem?
  intro i
  rw [flist_get, flist_get, Nat.zero_add]
  cases h : l[i]? with
  | none => rfl
  | some kd => simp only [Option.map_some, ho i kd h]
/-- every object of the schema has at most 100 fields -/
def ScOk (sc : Sc) : Prop := ∀ o, (sc.2.2.2 o).length ≤ 100
theorem fc_other {sc : Sc} {c4 : C4} {ad : Nat → Nat} {σ σ' : St} {j : Nat} (hA : gA σ' j = gA σ j) (hZ : gZ σ' j = gZ σ j) (hf : ∀ k' kd, (sc.2.2.2 j)[k']? = some kd → fval ad σ' j k' kd = fval ad σ j k' kd) : fcell sc c4 ad σ' j = fcell sc c4 ad σ j := by
  unfold fcell
  rw [hA, hZ, fl_same hf]
theorem fl_lt {l : List Nat} {k kd : Nat} (h : l[k]? = some kd) : k < l.length := (List.getElem?_eq_some_iff.mp h).1
theorem set_I {sc : Sc} {c4 : C4} {ad : Nat → Nat} {σ : St} {A : Nat → Prop} {q o k ci : Nat} {v : Int32} (hsc : ScOk sc) (hD : va_D A (wdS sc c4 ad σ)) (hq : sc.1[q]? = some o) (hk : sc.2.1 o = ci + 4) (hf : (sc.2.2.2 o)[k]? = some 0) : (wdS sc c4 ad σ).set q (ad o, .inr (ci, (flist ad σ o 0 (sc.2.2.2 o)).set k (.int v))) = wdS sc c4 ad (sI σ (100 * o + k) v) := by
  have hl := fl_lt hf
  have hb := hsc o
  refine wd_set hD hq ?_ (fun j' hj => fc_other rfl rfl (fun k' kd h' => fv_sI (fun _ => ?_)))
  · unfold fcell
    rw [hk]
    show (Sum.inr (ci, _) : va_E) = _
    rw [← fl_set (σ' := sI σ (100 * o + k) v) hl (fun kd h => ?_) (fun k' kd h h' => fv_sI (fun _ => by omega))]
    rw [hf] at h
    cases h
    simp only [fval, gI, sI, if_pos]
  · have h1 := fl_lt h'
    have h2 := hsc j'
    omega
theorem set_L {sc : Sc} {c4 : C4} {ad : Nat → Nat} {σ : St} {A : Nat → Prop} {q o k ci : Nat} {v : Int64} (hsc : ScOk sc) (hD : va_D A (wdS sc c4 ad σ)) (hq : sc.1[q]? = some o) (hk : sc.2.1 o = ci + 4) (hf : (sc.2.2.2 o)[k]? = some 1) : (wdS sc c4 ad σ).set q (ad o, .inr (ci, (flist ad σ o 0 (sc.2.2.2 o)).set k (.long v))) = wdS sc c4 ad (sL σ (100 * o + k) v) := by
  have hl := fl_lt hf
  have hb := hsc o
  refine wd_set hD hq ?_ (fun j' hj => fc_other rfl rfl (fun k' kd h' => fv_sL (fun _ => ?_)))
  · unfold fcell
    rw [hk]
    show (Sum.inr (ci, _) : va_E) = _
    rw [← fl_set (σ' := sL σ (100 * o + k) v) hl (fun kd h => ?_) (fun k' kd h h' => fv_sL (fun _ => by omega))]
    rw [hf] at h
    cases h
    simp only [fval, gL, sL, if_pos]
  · have h1 := fl_lt h'
    have h2 := hsc j'
    omega
theorem set_P {sc : Sc} {c4 : C4} {ad : Nat → Nat} {σ : St} {A : Nat → Prop} {q o k ci : Nat} {v : Nat} (hsc : ScOk sc) (hD : va_D A (wdS sc c4 ad σ)) (hq : sc.1[q]? = some o) (hk : sc.2.1 o = ci + 4) (hf : (sc.2.2.2 o)[k]? = some 2) : (wdS sc c4 ad σ).set q (ad o, .inr (ci, (flist ad σ o 0 (sc.2.2.2 o)).set k (.ref (ad v)))) = wdS sc c4 ad (sP σ (100 * o + k) v) := by
  have hl := fl_lt hf
  have hb := hsc o
  refine wd_set hD hq ?_ (fun j' hj => fc_other rfl rfl (fun k' kd h' => fv_sP (fun _ => ?_)))
  · unfold fcell
    rw [hk]
    show (Sum.inr (ci, _) : va_E) = _
    rw [← fl_set (σ' := sP σ (100 * o + k) v) hl (fun kd h => ?_) (fun k' kd h h' => fv_sP (fun _ => by omega))]
    rw [hf] at h
    cases h
    simp only [fval, gP, sP, if_pos]
  · have h1 := fl_lt h'
    have h2 := hsc j'
    omega
theorem fv_sA {ad : Nat → Nat} {σ : St} {o k kd j i : Nat} {v : Int32} : fval ad (sA σ j i v) o k kd = fval ad σ o k kd := by
  match kd with
  | 0 => rfl
  | 1 => rfl
  | 2 => rfl
  | t + 3 => rfl
theorem fv_sZ {ad : Nat → Nat} {σ : St} {o k kd j i : Nat} {v : Int64} : fval ad (sZ σ j i v) o k kd = fval ad σ o k kd := by
  match kd with
  | 0 => rfl
  | 1 => rfl
  | 2 => rfl
  | t + 3 => rfl
theorem set_A {sc : Sc} {c4 : C4} {ad : Nat → Nat} {σ : St} {A : Nat → Prop} {q j i : Nat} {v : Int32} {e : va_E} (hD : va_D A (wdS sc c4 ad σ)) (hq : sc.1[q]? = some j) (he : fcell sc c4 ad (sA σ j i v) j = e) : (wdS sc c4 ad σ).set q (ad j, e) = wdS sc c4 ad (sA σ j i v) := by
  refine wd_set hD hq he (fun j' hj => fc_other ?_ rfl (fun k' kd h' => fv_sA))
  simp only [gA, sA, if_neg hj]
theorem set_Z {sc : Sc} {c4 : C4} {ad : Nat → Nat} {σ : St} {A : Nat → Prop} {q j i : Nat} {v : Int64} {e : va_E} (hD : va_D A (wdS sc c4 ad σ)) (hq : sc.1[q]? = some j) (he : fcell sc c4 ad (sZ σ j i v) j = e) : (wdS sc c4 ad σ).set q (ad j, e) = wdS sc c4 ad (sZ σ j i v) := by
  refine wd_set hD hq he (fun j' hj => fc_other rfl ?_ (fun k' kd h' => fv_sZ))
  simp only [gZ, sZ, if_neg hj]
theorem id_pl {l : List Nat} {j : Nat} (h : j ∈ l) : ∃ q : Nat, l[q]? = some j := List.getElem?_of_mem h
end
section
def lw_gt : List Cond := lw_tbl.filter goodWord
theorem gt_of {w : Cond} (h : w ∈ lw_tbl) (g : goodWord w = true) : w ∈ lw_gt := List.mem_filter.mpr ⟨h, g⟩
theorem gt_in {w : Cond} (h : w ∈ lw_gt) : w ∈ lw_tbl := (List.mem_filter.mp h).1

/-- strings and statics that nobody writes -/
def lenS : List Nat := [2, 2, 3, 3, 3, 4, 5, 6, 7, 44]
def bytS : List (List Int32) := [[105, 102], [105, 115], [97, 110, 121], [110, 101, 119], [110, 111, 116], [101, 108, 115, 101], [119, 104, 105, 108, 101], [114, 101, 116, 117, 114, 110], [110, 111, 116, 104, 105, 110, 103], [105, 102, 32, 101, 108, 115, 101, 32, 119, 104, 105, 108, 101, 32, 105, 115, 32, 110, 111, 116, 32, 110, 111, 116, 104, 105, 110, 103, 32, 110, 101, 119, 32, 97, 110, 121, 32, 114, 101, 116, 117, 114, 110, 32]]
def keyS : List (String × Nat × String) := [("NothingJudge$Tokens", 57, "if"), ("NothingJudge$Tokens", 63, "is"), ("NothingJudge$Tokens", 65, "any"), ("NothingJudge$Tokens", 67, "new"), ("NothingJudge$Tokens", 69, "not"), ("NothingJudge$Tokens", 71, "else"), ("NothingJudge$Tokens", 73, "while"), ("NothingJudge$Tokens", 75, "return"), ("NothingJudge$Tokens", 77, "nothing"), ("NothingJudgeModel", 153, "if else while is not nothing new any return ")]
def Amb (adK adV : Nat → Nat) (A : Nat → Prop) (U : State) : Prop := vk_S 10 lenS bytS adK adV A U U.heap ∧ (∀ (i : Nat) (q : String × Nat × String), keyS[i]? = some q → vk_R q.1 q.2.1 q.2.2 (adK i) U) ∧ va_Z "java/lang/String" "COMPACT_STRINGS" "Z" (.int 1) A U U.heap ∧ ∃ v : Value, va_Z "jdk/internal/util/Preconditions" "SIOOBE_FORMATTER" "Ljava/util/function/BiFunction;" v A U U.heap ∧ v.isRef = true
theorem Amb.pass {adK adV : Nat → Nat} {A A1 : Nat → Prop} {s U : State} {H : Heap} {locs : List Loc} (h : Amb adK adV A s) (hS : va_S A s.heap H locs) (hA : ∀ q, A1 q → A q) (hU : U.heap = H) (hW : s.WarmedH U.vm) : Amb adK adV A1 U := by
  obtain ⟨h1, h2, h3, v, h4, h5⟩ := h
  subst hU
  exact ⟨((h1.kept hS.2.1).moved hW.alike).narrow hA, fun i q hq => vk_R.warm hW (h2 i q hq), ((h3.kept hS.2.1).moved hW.alike).narrow hA, v, ((h4.kept hS.2.1).moved hW.alike).narrow hA, h5⟩
theorem Amb.frame {adK adV : Nat → Nat} {A : Nat → Prop} {U : State} {g : JFrame} {mk : MethodId} {a : Array Value} (h : Amb adK adV A U) : Amb adK adV A (U.calling g mk a) := by
  obtain ⟨h1, h2, h3, v, h4, h5⟩ := h
  exact ⟨vk_S.moved (u := U) (U := U.calling g mk a) (Vm.Alike.refl U.vm) h1, fun i q hq => vk_R.same (u := U) (U := U.calling g mk a) rfl (h2 i q hq), va_Z.moved (u := U) (U := U.calling g mk a) (Vm.Alike.refl U.vm) h3, v, va_Z.moved (u := U) (U := U.calling g mk a) (Vm.Alike.refl U.vm) h4, h5⟩
/-- what is the same in every method of a run: launch, tables' numbers, the places of strings -/
abbrev Yx : Type := Launch × va_G × C4 × (Nat → Nat) × (Nat → Nat)
/-- a method's end: its answer, the world behind it, nothing else changed -/
def qq (Y : Yx) (sc : Sc) (ad : Nat → Nat) (A : Nat → Prop) (o : Option Value) (σ : St) : Array Value → State → Outcome → State → Prop := fun _ st oc t => (oc = .returned o ∧ va_P Y.2.1 vwCl (wdS sc Y.2.2.1 ad σ) t.heap ∧ va_D A (wdS sc Y.2.2.1 ad σ)) ∧ va_F A st t
/-- a method's start -/
def cQ (Y : Yx) (sc : Sc) (ad : Nat → Nat) (av : List Value) (σ : St) (sz : Nat) : Array Value → State → Prop := va_Pc av (fun U => U.heap.size = sz ∧ va_P Y.2.1 vwCl (wdS sc Y.2.2.1 ad σ) U.heap ∧ va_K Y.2.1 vwCl (kTy Y.2.2.1) U ∧ va_D (fun _ => True) (wdS sc Y.2.2.1 ad σ) ∧ Amb Y.2.2.2.1 Y.2.2.2.2 (va_A (wdS sc Y.2.2.1 ad σ) sz) U)
theorem cQ_fb {Y : Yx} {sc : Sc} {ad : Nat → Nat} {av : List Value} {σ : St} {sz : Nat} : FrameBlind (cQ Y sc ad av σ sz) := fun a U g mk q => by
  obtain ⟨q0, q1, qP, qK, qD, qM⟩ := q
  exact ⟨q0, q1, qP, va_K.moved (u := U) (U := U.calling g mk a) (Vm.Alike.refl U.vm) qK, qD, qM.frame⟩
def rmO (fr lo : Nat) : Room := { frames := fr, cells := 0, slots := 0, locals := lo }
/-- a method's contract: from the state σ and the arguments av it answers o, and leaves σ' -/
def Con (Y : Yx) (sc : Sc) (ad : Nat → Nat) (y : MethodName) (cc : ByteArray) (nL : Nat) (ret : Option FieldType) (fr lo : Nat) (av : List Value) (σ : St) (o : Option Value) (σ' : St) : Prop :=
  ∀ sz : Nat, Met Y.1 y (Cond.code y cc nL ret :: lw_gt) (rmO fr lo) (cQ Y sc ad av σ sz) (qq Y sc ad (va_A (wdS sc Y.2.2.1 ad σ) sz) o σ') 0 0 (va_A (wdS sc Y.2.2.1 ad σ) sz)
/-- where a body stands -/
abbrev Cx : Type := Yx × Program × Env × Room × State × MethodId × Array Value × List Frame × Method × Code × (Nat → Prop)
def Ok (X : Cx) (cc : ByteArray) (own : String) (nL : Nat) (ret : Option FieldType) (fr lo : Nat) : Prop := match X with
  | (Y, p, _, R, s, m, args, _, meth, c, A) => p.tables.exec = Jvm.exec ∧ c.code = cc ∧ c.maxLocals = nL ∧ s.vm.findClass own = some m.cls ∧ (∀ w ∈ lw_gt, w.before args s = true) ∧ va_K Y.2.1 vwCl (kTy Y.2.2.1) s ∧ (∀ q, s.heap.size ≤ q → A q) ∧ meth.locks = false ∧ meth.sig.returnType = ret ∧ R = rmO fr lo ∧ Amb Y.2.2.2.1 Y.2.2.2.2 A s
/-- from pc, with the locals lv, the stack st and the state σ, the body comes to its end as F says (where F says something) -/
def Sim (X : Cx) (sc : Sc) (ad : Nat → Nat) (nL : Nat) {ρ : Type} (out : ρ → Option Value) (pc : Nat) (lv : List (Nat × Value)) (st : List Value) (σ : St) (F : Option (ρ × St)) : Prop := match X with
  | (Y, p, e, R, s, m, args, below, meth, c, A) => ∀ (r : ρ) (σ' : St), F = some (r, σ') → ∀ (H : Heap) (locs : List Loc) (ls : Array Slot), va_P Y.2.1 vwCl (wdS sc Y.2.2.1 ad σ) H → va_D A (wdS sc Y.2.2.1 ad σ) → va_S A s.heap H locs → lv_has ls nL lv → W p Y.1 e R s m args below meth c H locs 0 0 (MQ below (qq Y sc ad A (out r) σ') args s 0 0 A) (F0 m pc ls st)
def outI (r : Int32) : Option Value := some (.int r)
def outL (r : Int64) : Option Value := some (.long r)
def outV (_ : Unit) : Option Value := none
theorem con_of {Y : Yx} {sc : Sc} {ad : Nat → Nat} {y : MethodName} {cc : ByteArray} {own : String} {nL : Nat} {ret : Option FieldType} {fr lo : Nat} {av : List Value} {lv : List (Nat × Value)} {σ σ' : St} {ρ : Type} {out : ρ → Option Value} {F : Option (ρ × St)} {r : ρ} (hy : plainName y.cls = true) (ho : y.cls = own) (hn : (lg_sl av).length ≤ nL) (hlv : lv_args 0 av = lv) (h : ∀ X : Cx, X.1 = Y → Ok X cc own nL ret fr lo → Sim X sc ad nL out 0 lv [] σ F) (hF : F = some (r, σ')) : Con Y sc ad y cc nL ret fr lo av σ (out r) σ' := by
  subst hlv
  subst ho
  intro sz
  refine Met.ofW (cc := cc) (maxL := nL) (ret := ret) hy rfl ?_
  intro p e s m args below meth c s₁ B hml hv
  obtain ⟨rfl, hsz, hP, hK, hD0, hM⟩ := hv
  have hts := atoms_spec (ws := Cond.code y cc nL ret :: lw_gt) B.pre
  have hown : s.vm.findClass y.cls = some m.cls := findClass_of_methodNamed B.named
  subst hsz
  have hl := lv_entry av (n := nL) hn
  rw [lg_entry_eq]
  have key := h (Y, p, e, rmO fr lo, s, m, av.toArray, below, meth, c, va_A (wdS sc Y.2.2.1 ad σ) s.heap.size) rfl ⟨B.exec, B.bytes, hml, hown, fun w hw => hts w (List.mem_cons_of_mem _ hw), hK, fun q hq => Or.inr hq, B.notSynchronized, B.returns, rfl, hM⟩
  exact key r σ' hF s.heap [] _ hP hD0.self va_S.rf hl
section SimRows
variable {X : Cx} {cc : ByteArray} {own : String} {nL : Nat} {ret : Option FieldType} {fr lo : Nat} {sc : Sc} {ad : Nat → Nat} {ρ : Type} {out : ρ → Option Value} {pc : Nat} {lv : List (Nat × Value)} {st : List Value} {σ : St} {F F1 F2 : Option (ρ × St)}
theorem g_none : Sim X sc ad nL out pc lv st σ none := by
  obtain ⟨Y, p, e, R, s, m, args, below, meth, c, A⟩ := X
  intro r σ' h
  cases h
theorem g_sub {lv' : List (Nat × Value)} (ks : List Nat) (hl' : lv_pick lv ks = lv') (k : Sim X sc ad nL out pc lv' st σ F) : Sim X sc ad nL out pc lv st σ F := by
  obtain ⟨Y, p, e, R, s, m, args, below, meth, c, A⟩ := X
  intro r σ' hF H locs ls hP hD hS hl
  exact k r σ' hF H locs ls hP hD hS (lv_sub hl ks hl')
theorem g_gd {b : Bool} (k : b = true → Sim X sc ad nL out pc lv st σ F) : Sim X sc ad nL out pc lv st σ (gd b F) := by
  cases b with
  | true => exact k rfl
  | false => exact g_none
theorem g_cs {q : Prop} [inst : Decidable q] (k1 : q → Sim X sc ad nL out pc lv st σ F1) (k2 : ¬ q → Sim X sc ad nL out pc lv st σ F2) : Sim X sc ad nL out pc lv st σ (if q then F1 else F2) := by
  by_cases h : q
  · rw [if_pos h]; exact k1 h
  · rw [if_neg h]; exact k2 h
theorem g_iload_n (C : Ok X cc own nL ret fr lo) {k4 : Fin 4} {i : Nat} {x : Int32} (j : Nat) (hdg : decode cc pc = .ok (.iload_n k4, 1)) (hi : (k4 : Nat) = i) (hj : lv[j]? = some (i, .int x)) (k : Sim X sc ad nL out (pc + 1) lv (.int x :: st) σ F) : Sim X sc ad nL out pc lv st σ F := by
  obtain ⟨Y, p, e, R, s, m, args, below, meth, c, A⟩ := X
  obtain ⟨hx, hb, hml, hown, hts, hK, hA, hlk, hret, hR, hM⟩ := C
  intro r σ' hF H locs ls hP hD hS hl
  exact lv_iload_n hx hb hdg hi (lv_at hl j hj) (k r σ' hF H locs ls hP hD hS hl)

theorem g_iload (C : Ok X cc own nL ret fr lo) {i : Nat} {x : Int32} (j : Nat) (hdg : decode cc pc = .ok (.iload i, 2)) (hj : lv[j]? = some (i, .int x)) (k : Sim X sc ad nL out (pc + 2) lv (.int x :: st) σ F) : Sim X sc ad nL out pc lv st σ F := by
  obtain ⟨Y, p, e, R, s, m, args, below, meth, c, A⟩ := X
  obtain ⟨hx, hb, hml, hown, hts, hK, hA, hlk, hret, hR, hM⟩ := C
  intro r σ' hF H locs ls hP hD hS hl
  exact lv_iload hx hb hdg (lv_at hl j hj) (k r σ' hF H locs ls hP hD hS hl)

theorem g_lload_n (C : Ok X cc own nL ret fr lo) {k4 : Fin 4} {i : Nat} {x : Int64} (j : Nat) (hdg : decode cc pc = .ok (.lload_n k4, 1)) (hi : (k4 : Nat) = i) (hj : lv[j]? = some (i, .long x)) (k : Sim X sc ad nL out (pc + 1) lv (.long x :: st) σ F) : Sim X sc ad nL out pc lv st σ F := by
  obtain ⟨Y, p, e, R, s, m, args, below, meth, c, A⟩ := X
  obtain ⟨hx, hb, hml, hown, hts, hK, hA, hlk, hret, hR, hM⟩ := C
  intro r σ' hF H locs ls hP hD hS hl
  exact lv_lload_n hx hb hdg hi (lv_at hl j hj) (k r σ' hF H locs ls hP hD hS hl)

theorem g_lload (C : Ok X cc own nL ret fr lo) {i : Nat} {x : Int64} (j : Nat) (hdg : decode cc pc = .ok (.lload i, 2)) (hj : lv[j]? = some (i, .long x)) (k : Sim X sc ad nL out (pc + 2) lv (.long x :: st) σ F) : Sim X sc ad nL out pc lv st σ F := by
  obtain ⟨Y, p, e, R, s, m, args, below, meth, c, A⟩ := X
  obtain ⟨hx, hb, hml, hown, hts, hK, hA, hlk, hret, hR, hM⟩ := C
  intro r σ' hF H locs ls hP hD hS hl
  exact lv_lload hx hb hdg (lv_at hl j hj) (k r σ' hF H locs ls hP hD hS hl)

theorem g_aload_n (C : Ok X cc own nL ret fr lo) {k4 : Fin 4} {i : Nat} {x : Nat} (j : Nat) (hdg : decode cc pc = .ok (.aload_n k4, 1)) (hi : (k4 : Nat) = i) (hj : lv[j]? = some (i, .ref x)) (k : Sim X sc ad nL out (pc + 1) lv (.ref x :: st) σ F) : Sim X sc ad nL out pc lv st σ F := by
  obtain ⟨Y, p, e, R, s, m, args, below, meth, c, A⟩ := X
  obtain ⟨hx, hb, hml, hown, hts, hK, hA, hlk, hret, hR, hM⟩ := C
  intro r σ' hF H locs ls hP hD hS hl
  exact lv_aload_n hx hb hdg hi (lv_at hl j hj) (k r σ' hF H locs ls hP hD hS hl)

theorem g_aload (C : Ok X cc own nL ret fr lo) {i : Nat} {x : Nat} (j : Nat) (hdg : decode cc pc = .ok (.aload i, 2)) (hj : lv[j]? = some (i, .ref x)) (k : Sim X sc ad nL out (pc + 2) lv (.ref x :: st) σ F) : Sim X sc ad nL out pc lv st σ F := by
  obtain ⟨Y, p, e, R, s, m, args, below, meth, c, A⟩ := X
  obtain ⟨hx, hb, hml, hown, hts, hK, hA, hlk, hret, hR, hM⟩ := C
  intro r σ' hF H locs ls hP hD hS hl
  exact lv_aload hx hb hdg (lv_at hl j hj) (k r σ' hF H locs ls hP hD hS hl)

theorem g_istore_n (C : Ok X cc own nL ret fr lo) {k4 : Fin 4} {i : Nat} {x : Int32} (lv' : List (Nat × Value)) (hdg : decode cc pc = .ok (.istore_n k4, 1)) (hi : (k4 : Nat) = i) (hn : i < nL) (hl' : (i, Value.int x) :: lv.filter (fun q => !(q.1 == i) && !(q.1 + 1 == i && q.2.category == 2)) = lv') (k : Sim X sc ad nL out (pc + 1) lv' st σ F) : Sim X sc ad nL out pc lv (.int x :: st) σ F := by
  obtain ⟨Y, p, e, R, s, m, args, below, meth, c, A⟩ := X
  obtain ⟨hx, hb, hml, hown, hts, hK, hA, hlk, hret, hR, hM⟩ := C
  intro r σ' hF H locs ls hP hD hS hl
  exact lv_istore_n hx hb hdg hi hl hn hl' (fun ls hl => (k r σ' hF H locs ls hP hD hS hl))

theorem g_istore (C : Ok X cc own nL ret fr lo) {i : Nat} {x : Int32} (lv' : List (Nat × Value)) (hdg : decode cc pc = .ok (.istore i, 2)) (hn : i < nL) (hl' : (i, Value.int x) :: lv.filter (fun q => !(q.1 == i) && !(q.1 + 1 == i && q.2.category == 2)) = lv') (k : Sim X sc ad nL out (pc + 2) lv' st σ F) : Sim X sc ad nL out pc lv (.int x :: st) σ F := by
  obtain ⟨Y, p, e, R, s, m, args, below, meth, c, A⟩ := X
  obtain ⟨hx, hb, hml, hown, hts, hK, hA, hlk, hret, hR, hM⟩ := C
  intro r σ' hF H locs ls hP hD hS hl
  exact lv_istore hx hb hdg hl hn hl' (fun ls hl => (k r σ' hF H locs ls hP hD hS hl))

theorem g_lstore_n (C : Ok X cc own nL ret fr lo) {k4 : Fin 4} {i : Nat} {x : Int64} (lv' : List (Nat × Value)) (hdg : decode cc pc = .ok (.lstore_n k4, 1)) (hi : (k4 : Nat) = i) (hn : i + 1 < nL) (hl' : (i, Value.long x) :: lv.filter (fun q => !(q.1 == i) && (!(q.1 == i + 1) && !(q.1 + 1 == i && q.2.category == 2))) = lv') (k : Sim X sc ad nL out (pc + 1) lv' st σ F) : Sim X sc ad nL out pc lv (.long x :: st) σ F := by
  obtain ⟨Y, p, e, R, s, m, args, below, meth, c, A⟩ := X
  obtain ⟨hx, hb, hml, hown, hts, hK, hA, hlk, hret, hR, hM⟩ := C
  intro r σ' hF H locs ls hP hD hS hl
  exact lv_lstore_n hx hb hdg hi hl hn hl' (fun ls hl => (k r σ' hF H locs ls hP hD hS hl))

theorem g_lstore (C : Ok X cc own nL ret fr lo) {i : Nat} {x : Int64} (lv' : List (Nat × Value)) (hdg : decode cc pc = .ok (.lstore i, 2)) (hn : i + 1 < nL) (hl' : (i, Value.long x) :: lv.filter (fun q => !(q.1 == i) && (!(q.1 == i + 1) && !(q.1 + 1 == i && q.2.category == 2))) = lv') (k : Sim X sc ad nL out (pc + 2) lv' st σ F) : Sim X sc ad nL out pc lv (.long x :: st) σ F := by
  obtain ⟨Y, p, e, R, s, m, args, below, meth, c, A⟩ := X
  obtain ⟨hx, hb, hml, hown, hts, hK, hA, hlk, hret, hR, hM⟩ := C
  intro r σ' hF H locs ls hP hD hS hl
  exact lv_lstore hx hb hdg hl hn hl' (fun ls hl => (k r σ' hF H locs ls hP hD hS hl))

theorem g_astore_n (C : Ok X cc own nL ret fr lo) {k4 : Fin 4} {i : Nat} {x : Nat} (lv' : List (Nat × Value)) (hdg : decode cc pc = .ok (.astore_n k4, 1)) (hi : (k4 : Nat) = i) (hn : i < nL) (hl' : (i, Value.ref x) :: lv.filter (fun q => !(q.1 == i) && !(q.1 + 1 == i && q.2.category == 2)) = lv') (k : Sim X sc ad nL out (pc + 1) lv' st σ F) : Sim X sc ad nL out pc lv (.ref x :: st) σ F := by
  obtain ⟨Y, p, e, R, s, m, args, below, meth, c, A⟩ := X
  obtain ⟨hx, hb, hml, hown, hts, hK, hA, hlk, hret, hR, hM⟩ := C
  intro r σ' hF H locs ls hP hD hS hl
  exact lv_astore_n hx hb hdg hi hl hn hl' (fun ls hl => (k r σ' hF H locs ls hP hD hS hl))

theorem g_astore (C : Ok X cc own nL ret fr lo) {i : Nat} {x : Nat} (lv' : List (Nat × Value)) (hdg : decode cc pc = .ok (.astore i, 2)) (hn : i < nL) (hl' : (i, Value.ref x) :: lv.filter (fun q => !(q.1 == i) && !(q.1 + 1 == i && q.2.category == 2)) = lv') (k : Sim X sc ad nL out (pc + 2) lv' st σ F) : Sim X sc ad nL out pc lv (.ref x :: st) σ F := by
  obtain ⟨Y, p, e, R, s, m, args, below, meth, c, A⟩ := X
  obtain ⟨hx, hb, hml, hown, hts, hK, hA, hlk, hret, hR, hM⟩ := C
  intro r σ' hF H locs ls hP hD hS hl
  exact lv_astore hx hb hdg hl hn hl' (fun ls hl => (k r σ' hF H locs ls hP hD hS hl))

theorem g_iinc (C : Ok X cc own nL ret fr lo) {i : Nat} {n : Int} {x : Int32} (v : Int32) (j : Nat) (lv' : List (Nat × Value)) (hdg : decode cc pc = .ok (.iinc i n, 3)) (hj : lv[j]? = some (i, .int x)) (hv : x + Int32.ofInt n = v) (hn : i < nL) (hl' : (i, Value.int v) :: lv.filter (fun q => !(q.1 == i) && !(q.1 + 1 == i && q.2.category == 2)) = lv') (k : Sim X sc ad nL out (pc + 3) lv' st σ F) : Sim X sc ad nL out pc lv st σ F := by
  obtain ⟨Y, p, e, R, s, m, args, below, meth, c, A⟩ := X
  obtain ⟨hx, hb, hml, hown, hts, hK, hA, hlk, hret, hR, hM⟩ := C
  intro r σ' hF H locs ls hP hD hS hl
  exact lv_iinc hx hb hdg hl hj hv hn hl' (fun ls hl => (k r σ' hF H locs ls hP hD hS hl))

theorem g_iconst (C : Ok X cc own nL ret fr lo) {n : Int} (v : Int32) (hdg : decode cc pc = .ok (.iconst n, 1)) (hv : Int32.ofInt n = v) (k : Sim X sc ad nL out (pc + 1) lv (.int v :: st) σ F) : Sim X sc ad nL out pc lv st σ F := by
  obtain ⟨Y, p, e, R, s, m, args, below, meth, c, A⟩ := X
  obtain ⟨hx, hb, hml, hown, hts, hK, hA, hlk, hret, hR, hM⟩ := C
  intro r σ' hF H locs ls hP hD hS hl
  exact lv_iconst hx hb hdg hv (k r σ' hF H locs ls hP hD hS hl)

theorem g_bipush (C : Ok X cc own nL ret fr lo) {n : Int} (v : Int32) (hdg : decode cc pc = .ok (.bipush n, 2)) (hv : (Int8.ofInt n).toInt32 = v) (k : Sim X sc ad nL out (pc + 2) lv (.int v :: st) σ F) : Sim X sc ad nL out pc lv st σ F := by
  obtain ⟨Y, p, e, R, s, m, args, below, meth, c, A⟩ := X
  obtain ⟨hx, hb, hml, hown, hts, hK, hA, hlk, hret, hR, hM⟩ := C
  intro r σ' hF H locs ls hP hD hS hl
  exact lv_bipush hx hb hdg hv (k r σ' hF H locs ls hP hD hS hl)

theorem g_sipush (C : Ok X cc own nL ret fr lo) {n : Int} (v : Int32) (hdg : decode cc pc = .ok (.sipush n, 3)) (hv : (Int16.ofInt n).toInt32 = v) (k : Sim X sc ad nL out (pc + 3) lv (.int v :: st) σ F) : Sim X sc ad nL out pc lv st σ F := by
  obtain ⟨Y, p, e, R, s, m, args, below, meth, c, A⟩ := X
  obtain ⟨hx, hb, hml, hown, hts, hK, hA, hlk, hret, hR, hM⟩ := C
  intro r σ' hF H locs ls hP hD hS hl
  exact lv_sipush hx hb hdg hv (k r σ' hF H locs ls hP hD hS hl)

theorem g_lconst (C : Ok X cc own nL ret fr lo) {n : Fin 2} (v : Int64) (hdg : decode cc pc = .ok (.lconst n, 1)) (hv : Int64.ofNat (n : Nat) = v) (k : Sim X sc ad nL out (pc + 1) lv (.long v :: st) σ F) : Sim X sc ad nL out pc lv st σ F := by
  obtain ⟨Y, p, e, R, s, m, args, below, meth, c, A⟩ := X
  obtain ⟨hx, hb, hml, hown, hts, hK, hA, hlk, hret, hR, hM⟩ := C
  intro r σ' hF H locs ls hP hD hS hl
  exact lv_lconst hx hb hdg hv (k r σ' hF H locs ls hP hD hS hl)

theorem g_ldc (C : Ok X cc own nL ret fr lo) {index : Nat} {v : Int32} (hw : Cond.constant own index v ∈ lw_gt) (hdg : decode cc pc = .ok (.ldc index, 2)) (k : Sim X sc ad nL out (pc + 2) lv (.int v :: st) σ F) : Sim X sc ad nL out pc lv st σ F := by
  obtain ⟨Y, p, e, R, s, m, args, below, meth, c, A⟩ := X
  obtain ⟨hx, hb, hml, hown, hts, hK, hA, hlk, hret, hR, hM⟩ := C
  intro r σ' hF H locs ls hP hD hS hl
  exact lv_ldc hx hb hown (hts _ hw) hdg (k r σ' hF H locs ls hP hD hS hl)

theorem g_ldc2 (C : Ok X cc own nL ret fr lo) {index : Nat} {v : Int64} (hw : Cond.constantLong own index v ∈ lw_gt) (hdg : decode cc pc = .ok (.ldc2_w index, 3)) (k : Sim X sc ad nL out (pc + 3) lv (.long v :: st) σ F) : Sim X sc ad nL out pc lv st σ F := by
  obtain ⟨Y, p, e, R, s, m, args, below, meth, c, A⟩ := X
  obtain ⟨hx, hb, hml, hown, hts, hK, hA, hlk, hret, hR, hM⟩ := C
  intro r σ' hF H locs ls hP hD hS hl
  exact lv_ldc2 hx hb hown (hts _ hw) hdg (k r σ' hF H locs ls hP hD hS hl)

theorem g_dup (C : Ok X cc own nL ret fr lo) {va : Value} (hdg : decode cc pc = .ok (.dup, 1)) (hva : va.category = 1) (k : Sim X sc ad nL out (pc + 1) lv (va :: va :: st) σ F) : Sim X sc ad nL out pc lv (va :: st) σ F := by
  obtain ⟨Y, p, e, R, s, m, args, below, meth, c, A⟩ := X
  obtain ⟨hx, hb, hml, hown, hts, hK, hA, hlk, hret, hR, hM⟩ := C
  intro r σ' hF H locs ls hP hD hS hl
  exact lv_dup hx hb hdg hva (k r σ' hF H locs ls hP hD hS hl)

theorem g_dup2 (C : Ok X cc own nL ret fr lo) {va vb : Value} (hdg : decode cc pc = .ok (.dup2, 1)) (hva : va.category = 1) (hvb : vb.category = 1) (k : Sim X sc ad nL out (pc + 1) lv (va :: vb :: va :: vb :: st) σ F) : Sim X sc ad nL out pc lv (va :: vb :: st) σ F := by
  obtain ⟨Y, p, e, R, s, m, args, below, meth, c, A⟩ := X
  obtain ⟨hx, hb, hml, hown, hts, hK, hA, hlk, hret, hR, hM⟩ := C
  intro r σ' hF H locs ls hP hD hS hl
  exact lv_dup2_11 hx hb hdg hva hvb (k r σ' hF H locs ls hP hD hS hl)

theorem g_pop (C : Ok X cc own nL ret fr lo) {va : Value} (hdg : decode cc pc = .ok (.pop, 1)) (hva : va.category = 1) (k : Sim X sc ad nL out (pc + 1) lv st σ F) : Sim X sc ad nL out pc lv (va :: st) σ F := by
  obtain ⟨Y, p, e, R, s, m, args, below, meth, c, A⟩ := X
  obtain ⟨hx, hb, hml, hown, hts, hK, hA, hlk, hret, hR, hM⟩ := C
  intro r σ' hF H locs ls hP hD hS hl
  exact lv_pop hx hb hdg hva (k r σ' hF H locs ls hP hD hS hl)

theorem g_iadd (C : Ok X cc own nL ret fr lo) {x y : Int32} (hdg : decode cc pc = .ok (.iadd, 1)) (k : Sim X sc ad nL out (pc + 1) lv (.int (x + y) :: st) σ F) : Sim X sc ad nL out pc lv (.int y :: .int x :: st) σ F := by
  obtain ⟨Y, p, e, R, s, m, args, below, meth, c, A⟩ := X
  obtain ⟨hx, hb, hml, hown, hts, hK, hA, hlk, hret, hR, hM⟩ := C
  intro r σ' hF H locs ls hP hD hS hl
  exact lv_iadd hx hb hdg (k r σ' hF H locs ls hP hD hS hl)

theorem g_isub (C : Ok X cc own nL ret fr lo) {x y : Int32} (hdg : decode cc pc = .ok (.isub, 1)) (k : Sim X sc ad nL out (pc + 1) lv (.int (x - y) :: st) σ F) : Sim X sc ad nL out pc lv (.int y :: .int x :: st) σ F := by
  obtain ⟨Y, p, e, R, s, m, args, below, meth, c, A⟩ := X
  obtain ⟨hx, hb, hml, hown, hts, hK, hA, hlk, hret, hR, hM⟩ := C
  intro r σ' hF H locs ls hP hD hS hl
  exact lv_isub hx hb hdg (k r σ' hF H locs ls hP hD hS hl)

theorem g_imul (C : Ok X cc own nL ret fr lo) {x y : Int32} (hdg : decode cc pc = .ok (.imul, 1)) (k : Sim X sc ad nL out (pc + 1) lv (.int (x * y) :: st) σ F) : Sim X sc ad nL out pc lv (.int y :: .int x :: st) σ F := by
  obtain ⟨Y, p, e, R, s, m, args, below, meth, c, A⟩ := X
  obtain ⟨hx, hb, hml, hown, hts, hK, hA, hlk, hret, hR, hM⟩ := C
  intro r σ' hF H locs ls hP hD hS hl
  exact lv_imul hx hb hdg (k r σ' hF H locs ls hP hD hS hl)

theorem g_iand (C : Ok X cc own nL ret fr lo) {x y : Int32} (hdg : decode cc pc = .ok (.iand, 1)) (k : Sim X sc ad nL out (pc + 1) lv (.int (x &&& y) :: st) σ F) : Sim X sc ad nL out pc lv (.int y :: .int x :: st) σ F := by
  obtain ⟨Y, p, e, R, s, m, args, below, meth, c, A⟩ := X
  obtain ⟨hx, hb, hml, hown, hts, hK, hA, hlk, hret, hR, hM⟩ := C
  intro r σ' hF H locs ls hP hD hS hl
  exact lv_iand hx hb hdg (k r σ' hF H locs ls hP hD hS hl)

theorem g_ior (C : Ok X cc own nL ret fr lo) {x y : Int32} (hdg : decode cc pc = .ok (.ior, 1)) (k : Sim X sc ad nL out (pc + 1) lv (.int (x ||| y) :: st) σ F) : Sim X sc ad nL out pc lv (.int y :: .int x :: st) σ F := by
  obtain ⟨Y, p, e, R, s, m, args, below, meth, c, A⟩ := X
  obtain ⟨hx, hb, hml, hown, hts, hK, hA, hlk, hret, hR, hM⟩ := C
  intro r σ' hF H locs ls hP hD hS hl
  exact lv_ior hx hb hdg (k r σ' hF H locs ls hP hD hS hl)

theorem g_ixor (C : Ok X cc own nL ret fr lo) {x y : Int32} (hdg : decode cc pc = .ok (.ixor, 1)) (k : Sim X sc ad nL out (pc + 1) lv (.int (x ^^^ y) :: st) σ F) : Sim X sc ad nL out pc lv (.int y :: .int x :: st) σ F := by
  obtain ⟨Y, p, e, R, s, m, args, below, meth, c, A⟩ := X
  obtain ⟨hx, hb, hml, hown, hts, hK, hA, hlk, hret, hR, hM⟩ := C
  intro r σ' hF H locs ls hP hD hS hl
  exact lv_ixor hx hb hdg (k r σ' hF H locs ls hP hD hS hl)

theorem g_ishl (C : Ok X cc own nL ret fr lo) {x y : Int32} (hdg : decode cc pc = .ok (.ishl, 1)) (k : Sim X sc ad nL out (pc + 1) lv (.int (x <<< (y &&& 31)) :: st) σ F) : Sim X sc ad nL out pc lv (.int y :: .int x :: st) σ F := by
  obtain ⟨Y, p, e, R, s, m, args, below, meth, c, A⟩ := X
  obtain ⟨hx, hb, hml, hown, hts, hK, hA, hlk, hret, hR, hM⟩ := C
  intro r σ' hF H locs ls hP hD hS hl
  exact lv_ishl hx hb hdg (k r σ' hF H locs ls hP hD hS hl)

theorem g_ishr (C : Ok X cc own nL ret fr lo) {x y : Int32} (hdg : decode cc pc = .ok (.ishr, 1)) (k : Sim X sc ad nL out (pc + 1) lv (.int (x >>> (y &&& 31)) :: st) σ F) : Sim X sc ad nL out pc lv (.int y :: .int x :: st) σ F := by
  obtain ⟨Y, p, e, R, s, m, args, below, meth, c, A⟩ := X
  obtain ⟨hx, hb, hml, hown, hts, hK, hA, hlk, hret, hR, hM⟩ := C
  intro r σ' hF H locs ls hP hD hS hl
  exact lv_ishr hx hb hdg (k r σ' hF H locs ls hP hD hS hl)

theorem g_idiv (C : Ok X cc own nL ret fr lo) {x y : Int32} (hdg : decode cc pc = .ok (.idiv, 1)) (hne : ¬ y = 0) (k : Sim X sc ad nL out (pc + 1) lv (.int (x / y) :: st) σ F) : Sim X sc ad nL out pc lv (.int y :: .int x :: st) σ F := by
  obtain ⟨Y, p, e, R, s, m, args, below, meth, c, A⟩ := X
  obtain ⟨hx, hb, hml, hown, hts, hK, hA, hlk, hret, hR, hM⟩ := C
  intro r σ' hF H locs ls hP hD hS hl
  exact lv_idiv hx hb hdg hne (k r σ' hF H locs ls hP hD hS hl)

theorem g_irem (C : Ok X cc own nL ret fr lo) {x y : Int32} (hdg : decode cc pc = .ok (.irem, 1)) (hne : ¬ y = 0) (k : Sim X sc ad nL out (pc + 1) lv (.int (x - x / y * y) :: st) σ F) : Sim X sc ad nL out pc lv (.int y :: .int x :: st) σ F := by
  obtain ⟨Y, p, e, R, s, m, args, below, meth, c, A⟩ := X
  obtain ⟨hx, hb, hml, hown, hts, hK, hA, hlk, hret, hR, hM⟩ := C
  intro r σ' hF H locs ls hP hD hS hl
  exact lv_irem hx hb hdg hne (k r σ' hF H locs ls hP hD hS hl)

theorem g_land (C : Ok X cc own nL ret fr lo) {x y : Int64} (hdg : decode cc pc = .ok (.land, 1)) (k : Sim X sc ad nL out (pc + 1) lv (.long (x &&& y) :: st) σ F) : Sim X sc ad nL out pc lv (.long y :: .long x :: st) σ F := by
  obtain ⟨Y, p, e, R, s, m, args, below, meth, c, A⟩ := X
  obtain ⟨hx, hb, hml, hown, hts, hK, hA, hlk, hret, hR, hM⟩ := C
  intro r σ' hF H locs ls hP hD hS hl
  exact lv_land hx hb hdg (k r σ' hF H locs ls hP hD hS hl)

theorem g_lor (C : Ok X cc own nL ret fr lo) {x y : Int64} (hdg : decode cc pc = .ok (.lor, 1)) (k : Sim X sc ad nL out (pc + 1) lv (.long (x ||| y) :: st) σ F) : Sim X sc ad nL out pc lv (.long y :: .long x :: st) σ F := by
  obtain ⟨Y, p, e, R, s, m, args, below, meth, c, A⟩ := X
  obtain ⟨hx, hb, hml, hown, hts, hK, hA, hlk, hret, hR, hM⟩ := C
  intro r σ' hF H locs ls hP hD hS hl
  exact lv_lor hx hb hdg (k r σ' hF H locs ls hP hD hS hl)

theorem g_lxor (C : Ok X cc own nL ret fr lo) {x y : Int64} (hdg : decode cc pc = .ok (.lxor, 1)) (k : Sim X sc ad nL out (pc + 1) lv (.long (x ^^^ y) :: st) σ F) : Sim X sc ad nL out pc lv (.long y :: .long x :: st) σ F := by
  obtain ⟨Y, p, e, R, s, m, args, below, meth, c, A⟩ := X
  obtain ⟨hx, hb, hml, hown, hts, hK, hA, hlk, hret, hR, hM⟩ := C
  intro r σ' hF H locs ls hP hD hS hl
  exact lv_lxor hx hb hdg (k r σ' hF H locs ls hP hD hS hl)

theorem g_lshl (C : Ok X cc own nL ret fr lo) {x : Int64} {y : Int32} (hdg : decode cc pc = .ok (.lshl, 1)) (k : Sim X sc ad nL out (pc + 1) lv (.long (x <<< (y.toInt64 &&& 63)) :: st) σ F) : Sim X sc ad nL out pc lv (.int y :: .long x :: st) σ F := by
  obtain ⟨Y, p, e, R, s, m, args, below, meth, c, A⟩ := X
  obtain ⟨hx, hb, hml, hown, hts, hK, hA, hlk, hret, hR, hM⟩ := C
  intro r σ' hF H locs ls hP hD hS hl
  exact lv_lshl hx hb hdg rfl (k r σ' hF H locs ls hP hD hS hl)

theorem g_lshr (C : Ok X cc own nL ret fr lo) {x : Int64} {y : Int32} (hdg : decode cc pc = .ok (.lshr, 1)) (k : Sim X sc ad nL out (pc + 1) lv (.long (x >>> (y.toInt64 &&& 63)) :: st) σ F) : Sim X sc ad nL out pc lv (.int y :: .long x :: st) σ F := by
  obtain ⟨Y, p, e, R, s, m, args, below, meth, c, A⟩ := X
  obtain ⟨hx, hb, hml, hown, hts, hK, hA, hlk, hret, hR, hM⟩ := C
  intro r σ' hF H locs ls hP hD hS hl
  exact lv_lshr hx hb hdg rfl (k r σ' hF H locs ls hP hD hS hl)

theorem g_i2l (C : Ok X cc own nL ret fr lo) {x : Int32} (hdg : decode cc pc = .ok (.i2l, 1)) (k : Sim X sc ad nL out (pc + 1) lv (.long x.toInt64 :: st) σ F) : Sim X sc ad nL out pc lv (.int x :: st) σ F := by
  obtain ⟨Y, p, e, R, s, m, args, below, meth, c, A⟩ := X
  obtain ⟨hx, hb, hml, hown, hts, hK, hA, hlk, hret, hR, hM⟩ := C
  intro r σ' hF H locs ls hP hD hS hl
  exact lv_i2l hx hb hdg rfl (k r σ' hF H locs ls hP hD hS hl)

theorem g_l2i (C : Ok X cc own nL ret fr lo) {x : Int64} (hdg : decode cc pc = .ok (.l2i, 1)) (k : Sim X sc ad nL out (pc + 1) lv (.int x.toInt32 :: st) σ F) : Sim X sc ad nL out pc lv (.long x :: st) σ F := by
  obtain ⟨Y, p, e, R, s, m, args, below, meth, c, A⟩ := X
  obtain ⟨hx, hb, hml, hown, hts, hK, hA, hlk, hret, hR, hM⟩ := C
  intro r σ' hF H locs ls hP hD hS hl
  exact lv_l2i hx hb hdg rfl (k r σ' hF H locs ls hP hD hS hl)

theorem g_i2b (C : Ok X cc own nL ret fr lo) {x : Int32} (hdg : decode cc pc = .ok (.i2b, 1)) (k : Sim X sc ad nL out (pc + 1) lv (.int x.toInt8.toInt32 :: st) σ F) : Sim X sc ad nL out pc lv (.int x :: st) σ F := by
  obtain ⟨Y, p, e, R, s, m, args, below, meth, c, A⟩ := X
  obtain ⟨hx, hb, hml, hown, hts, hK, hA, hlk, hret, hR, hM⟩ := C
  intro r σ' hF H locs ls hP hD hS hl
  exact lv_i2b hx hb hdg rfl (k r σ' hF H locs ls hP hD hS hl)

theorem g_i2c (C : Ok X cc own nL ret fr lo) {x : Int32} (hdg : decode cc pc = .ok (.i2c, 1)) (k : Sim X sc ad nL out (pc + 1) lv (.int (x.toUInt32 % 65536).toInt32 :: st) σ F) : Sim X sc ad nL out pc lv (.int x :: st) σ F := by
  obtain ⟨Y, p, e, R, s, m, args, below, meth, c, A⟩ := X
  obtain ⟨hx, hb, hml, hown, hts, hK, hA, hlk, hret, hR, hM⟩ := C
  intro r σ' hF H locs ls hP hD hS hl
  exact lv_i2c hx hb hdg rfl (k r σ' hF H locs ls hP hD hS hl)

theorem g_lcmp (C : Ok X cc own nL ret fr lo) {x y : Int64} (hdg : decode cc pc = .ok (.lcmp, 1)) (k : Sim X sc ad nL out (pc + 1) lv (.int (lg_cmp x y) :: st) σ F) : Sim X sc ad nL out pc lv (.long y :: .long x :: st) σ F := by
  obtain ⟨Y, p, e, R, s, m, args, below, meth, c, A⟩ := X
  obtain ⟨hx, hb, hml, hown, hts, hK, hA, hlk, hret, hR, hM⟩ := C
  intro r σ' hF H locs ls hP hD hS hl
  exact W.lcmp hx hb hdg (k r σ' hF H locs ls hP hD hS hl)

theorem g_goto (C : Ok X cc own nL ret fr lo) {off : Int} (tgt : Nat) (hdg : decode cc pc = .ok (.goto off, 3)) (ht : (pc : Int) + off = (tgt : Int)) (k : Sim X sc ad nL out tgt lv st σ F) : Sim X sc ad nL out pc lv st σ F := by
  obtain ⟨Y, p, e, R, s, m, args, below, meth, c, A⟩ := X
  obtain ⟨hx, hb, hml, hown, hts, hK, hA, hlk, hret, hR, hM⟩ := C
  intro r σ' hF H locs ls hP hD hS hl
  exact lv_goto hx hb hdg ht (k r σ' hF H locs ls hP hD hS hl)

theorem g_if_eq (C : Ok X cc own nL ret fr lo) {x : Int32} {off : Int} [inst : Decidable (x = 0)] (tgt : Nat) (hdg : decode cc pc = .ok (.ifCond .eq off, 3)) (ht : (pc : Int) + off = (tgt : Int)) (k1 : Sim X sc ad nL out tgt lv st σ F1) (k2 : Sim X sc ad nL out (pc + 3) lv st σ F2) : Sim X sc ad nL out pc lv (.int x :: st) σ (if x = 0 then F1 else F2) := by
  obtain ⟨Y, p, e, R, s, m, args, below, meth, c, A⟩ := X
  obtain ⟨hx, hb, hml, hown, hts, hK, hA, hlk, hret, hR, hM⟩ := C
  intro r σ' hF H locs ls hP hD hS hl
  refine lv_if_eq hx hb hdg ht (fun h => k1 r σ' ?_ H locs ls hP hD hS hl) (fun h => k2 r σ' ?_ H locs ls hP hD hS hl)
  · rw [if_pos h] at hF; exact hF
  · rw [if_neg h] at hF; exact hF

theorem g_icmp_eq (C : Ok X cc own nL ret fr lo) {x y : Int32} {off : Int} [inst : Decidable (x = y)] (tgt : Nat) (hdg : decode cc pc = .ok (.if_icmp .eq off, 3)) (ht : (pc : Int) + off = (tgt : Int)) (k1 : Sim X sc ad nL out tgt lv st σ F1) (k2 : Sim X sc ad nL out (pc + 3) lv st σ F2) : Sim X sc ad nL out pc lv (.int y :: .int x :: st) σ (if x = y then F1 else F2) := by
  obtain ⟨Y, p, e, R, s, m, args, below, meth, c, A⟩ := X
  obtain ⟨hx, hb, hml, hown, hts, hK, hA, hlk, hret, hR, hM⟩ := C
  intro r σ' hF H locs ls hP hD hS hl
  refine lv_icmp_eq hx hb hdg ht (fun h => k1 r σ' ?_ H locs ls hP hD hS hl) (fun h => k2 r σ' ?_ H locs ls hP hD hS hl)
  · rw [if_pos h] at hF; exact hF
  · rw [if_neg h] at hF; exact hF

theorem g_if_ne (C : Ok X cc own nL ret fr lo) {x : Int32} {off : Int} [inst : Decidable (x = 0)] (tgt : Nat) (hdg : decode cc pc = .ok (.ifCond .ne off, 3)) (ht : (pc : Int) + off = (tgt : Int)) (k1 : Sim X sc ad nL out tgt lv st σ F2) (k2 : Sim X sc ad nL out (pc + 3) lv st σ F1) : Sim X sc ad nL out pc lv (.int x :: st) σ (if x = 0 then F1 else F2) := by
  obtain ⟨Y, p, e, R, s, m, args, below, meth, c, A⟩ := X
  obtain ⟨hx, hb, hml, hown, hts, hK, hA, hlk, hret, hR, hM⟩ := C
  intro r σ' hF H locs ls hP hD hS hl
  refine lv_if_ne hx hb hdg ht (fun h => k1 r σ' ?_ H locs ls hP hD hS hl) (fun h => k2 r σ' ?_ H locs ls hP hD hS hl)
  · rw [if_neg h] at hF; exact hF
  · rw [if_pos h] at hF; exact hF

theorem g_icmp_ne (C : Ok X cc own nL ret fr lo) {x y : Int32} {off : Int} [inst : Decidable (x = y)] (tgt : Nat) (hdg : decode cc pc = .ok (.if_icmp .ne off, 3)) (ht : (pc : Int) + off = (tgt : Int)) (k1 : Sim X sc ad nL out tgt lv st σ F2) (k2 : Sim X sc ad nL out (pc + 3) lv st σ F1) : Sim X sc ad nL out pc lv (.int y :: .int x :: st) σ (if x = y then F1 else F2) := by
  obtain ⟨Y, p, e, R, s, m, args, below, meth, c, A⟩ := X
  obtain ⟨hx, hb, hml, hown, hts, hK, hA, hlk, hret, hR, hM⟩ := C
  intro r σ' hF H locs ls hP hD hS hl
  refine lv_icmp_ne hx hb hdg ht (fun h => k1 r σ' ?_ H locs ls hP hD hS hl) (fun h => k2 r σ' ?_ H locs ls hP hD hS hl)
  · rw [if_neg h] at hF; exact hF
  · rw [if_pos h] at hF; exact hF

theorem g_if_lt (C : Ok X cc own nL ret fr lo) {x : Int32} {off : Int} [inst : Decidable (x < 0)] (tgt : Nat) (hdg : decode cc pc = .ok (.ifCond .lt off, 3)) (ht : (pc : Int) + off = (tgt : Int)) (k1 : Sim X sc ad nL out tgt lv st σ F1) (k2 : Sim X sc ad nL out (pc + 3) lv st σ F2) : Sim X sc ad nL out pc lv (.int x :: st) σ (if x < 0 then F1 else F2) := by
  obtain ⟨Y, p, e, R, s, m, args, below, meth, c, A⟩ := X
  obtain ⟨hx, hb, hml, hown, hts, hK, hA, hlk, hret, hR, hM⟩ := C
  intro r σ' hF H locs ls hP hD hS hl
  refine lv_if_lt hx hb hdg ht (fun h => k1 r σ' ?_ H locs ls hP hD hS hl) (fun h => k2 r σ' ?_ H locs ls hP hD hS hl)
  · rw [if_pos h] at hF; exact hF
  · rw [if_neg h] at hF; exact hF

theorem g_icmp_lt (C : Ok X cc own nL ret fr lo) {x y : Int32} {off : Int} [inst : Decidable (x < y)] (tgt : Nat) (hdg : decode cc pc = .ok (.if_icmp .lt off, 3)) (ht : (pc : Int) + off = (tgt : Int)) (k1 : Sim X sc ad nL out tgt lv st σ F1) (k2 : Sim X sc ad nL out (pc + 3) lv st σ F2) : Sim X sc ad nL out pc lv (.int y :: .int x :: st) σ (if x < y then F1 else F2) := by
  obtain ⟨Y, p, e, R, s, m, args, below, meth, c, A⟩ := X
  obtain ⟨hx, hb, hml, hown, hts, hK, hA, hlk, hret, hR, hM⟩ := C
  intro r σ' hF H locs ls hP hD hS hl
  refine lv_icmp_lt hx hb hdg ht (fun h => k1 r σ' ?_ H locs ls hP hD hS hl) (fun h => k2 r σ' ?_ H locs ls hP hD hS hl)
  · rw [if_pos h] at hF; exact hF
  · rw [if_neg h] at hF; exact hF

theorem g_if_ge (C : Ok X cc own nL ret fr lo) {x : Int32} {off : Int} [inst : Decidable (0 ≤ x)] (tgt : Nat) (hdg : decode cc pc = .ok (.ifCond .ge off, 3)) (ht : (pc : Int) + off = (tgt : Int)) (k1 : Sim X sc ad nL out tgt lv st σ F1) (k2 : Sim X sc ad nL out (pc + 3) lv st σ F2) : Sim X sc ad nL out pc lv (.int x :: st) σ (if 0 ≤ x then F1 else F2) := by
  obtain ⟨Y, p, e, R, s, m, args, below, meth, c, A⟩ := X
  obtain ⟨hx, hb, hml, hown, hts, hK, hA, hlk, hret, hR, hM⟩ := C
  intro r σ' hF H locs ls hP hD hS hl
  refine lv_if_ge hx hb hdg ht (fun h => k1 r σ' ?_ H locs ls hP hD hS hl) (fun h => k2 r σ' ?_ H locs ls hP hD hS hl)
  · rw [if_pos h] at hF; exact hF
  · rw [if_neg h] at hF; exact hF

theorem g_icmp_ge (C : Ok X cc own nL ret fr lo) {x y : Int32} {off : Int} [inst : Decidable (y ≤ x)] (tgt : Nat) (hdg : decode cc pc = .ok (.if_icmp .ge off, 3)) (ht : (pc : Int) + off = (tgt : Int)) (k1 : Sim X sc ad nL out tgt lv st σ F1) (k2 : Sim X sc ad nL out (pc + 3) lv st σ F2) : Sim X sc ad nL out pc lv (.int y :: .int x :: st) σ (if y ≤ x then F1 else F2) := by
  obtain ⟨Y, p, e, R, s, m, args, below, meth, c, A⟩ := X
  obtain ⟨hx, hb, hml, hown, hts, hK, hA, hlk, hret, hR, hM⟩ := C
  intro r σ' hF H locs ls hP hD hS hl
  refine lv_icmp_ge hx hb hdg ht (fun h => k1 r σ' ?_ H locs ls hP hD hS hl) (fun h => k2 r σ' ?_ H locs ls hP hD hS hl)
  · rw [if_pos h] at hF; exact hF
  · rw [if_neg h] at hF; exact hF

theorem g_if_gt (C : Ok X cc own nL ret fr lo) {x : Int32} {off : Int} [inst : Decidable (0 < x)] (tgt : Nat) (hdg : decode cc pc = .ok (.ifCond .gt off, 3)) (ht : (pc : Int) + off = (tgt : Int)) (k1 : Sim X sc ad nL out tgt lv st σ F1) (k2 : Sim X sc ad nL out (pc + 3) lv st σ F2) : Sim X sc ad nL out pc lv (.int x :: st) σ (if 0 < x then F1 else F2) := by
  obtain ⟨Y, p, e, R, s, m, args, below, meth, c, A⟩ := X
  obtain ⟨hx, hb, hml, hown, hts, hK, hA, hlk, hret, hR, hM⟩ := C
  intro r σ' hF H locs ls hP hD hS hl
  refine lv_if_gt hx hb hdg ht (fun h => k1 r σ' ?_ H locs ls hP hD hS hl) (fun h => k2 r σ' ?_ H locs ls hP hD hS hl)
  · rw [if_pos h] at hF; exact hF
  · rw [if_neg h] at hF; exact hF

theorem g_icmp_gt (C : Ok X cc own nL ret fr lo) {x y : Int32} {off : Int} [inst : Decidable (y < x)] (tgt : Nat) (hdg : decode cc pc = .ok (.if_icmp .gt off, 3)) (ht : (pc : Int) + off = (tgt : Int)) (k1 : Sim X sc ad nL out tgt lv st σ F1) (k2 : Sim X sc ad nL out (pc + 3) lv st σ F2) : Sim X sc ad nL out pc lv (.int y :: .int x :: st) σ (if y < x then F1 else F2) := by
  obtain ⟨Y, p, e, R, s, m, args, below, meth, c, A⟩ := X
  obtain ⟨hx, hb, hml, hown, hts, hK, hA, hlk, hret, hR, hM⟩ := C
  intro r σ' hF H locs ls hP hD hS hl
  refine lv_icmp_gt hx hb hdg ht (fun h => k1 r σ' ?_ H locs ls hP hD hS hl) (fun h => k2 r σ' ?_ H locs ls hP hD hS hl)
  · rw [if_pos h] at hF; exact hF
  · rw [if_neg h] at hF; exact hF

theorem g_if_le (C : Ok X cc own nL ret fr lo) {x : Int32} {off : Int} [inst : Decidable (x ≤ 0)] (tgt : Nat) (hdg : decode cc pc = .ok (.ifCond .le off, 3)) (ht : (pc : Int) + off = (tgt : Int)) (k1 : Sim X sc ad nL out tgt lv st σ F1) (k2 : Sim X sc ad nL out (pc + 3) lv st σ F2) : Sim X sc ad nL out pc lv (.int x :: st) σ (if x ≤ 0 then F1 else F2) := by
  obtain ⟨Y, p, e, R, s, m, args, below, meth, c, A⟩ := X
  obtain ⟨hx, hb, hml, hown, hts, hK, hA, hlk, hret, hR, hM⟩ := C
  intro r σ' hF H locs ls hP hD hS hl
  refine lv_if_le hx hb hdg ht (fun h => k1 r σ' ?_ H locs ls hP hD hS hl) (fun h => k2 r σ' ?_ H locs ls hP hD hS hl)
  · rw [if_pos h] at hF; exact hF
  · rw [if_neg h] at hF; exact hF

theorem g_icmp_le (C : Ok X cc own nL ret fr lo) {x y : Int32} {off : Int} [inst : Decidable (x ≤ y)] (tgt : Nat) (hdg : decode cc pc = .ok (.if_icmp .le off, 3)) (ht : (pc : Int) + off = (tgt : Int)) (k1 : Sim X sc ad nL out tgt lv st σ F1) (k2 : Sim X sc ad nL out (pc + 3) lv st σ F2) : Sim X sc ad nL out pc lv (.int y :: .int x :: st) σ (if x ≤ y then F1 else F2) := by
  obtain ⟨Y, p, e, R, s, m, args, below, meth, c, A⟩ := X
  obtain ⟨hx, hb, hml, hown, hts, hK, hA, hlk, hret, hR, hM⟩ := C
  intro r σ' hF H locs ls hP hD hS hl
  refine lv_icmp_le hx hb hdg ht (fun h => k1 r σ' ?_ H locs ls hP hD hS hl) (fun h => k2 r σ' ?_ H locs ls hP hD hS hl)
  · rw [if_pos h] at hF; exact hF
  · rw [if_neg h] at hF; exact hF

theorem g_tabIn (C : Ok X cc own nL ret fr lo) {dflt lo9 hi9 : Int} {offs : Array Int} {len : Nat} {x : Int32} {off : Int} (tgt : Nat) (n : Int) (hx9 : x.toInt = n) (hdg : decode cc pc = .ok (.tableswitch dflt lo9 hi9 offs, len)) (h1 : ¬ n < lo9) (h2 : ¬ hi9 < n) (ho : offs[(n - lo9).toNat]? = some off) (ht : (pc : Int) + off = (tgt : Int)) (k : Sim X sc ad nL out tgt lv st σ F) : Sim X sc ad nL out pc lv (.int x :: st) σ F := by
  obtain ⟨Y, p, e, R, s, m, args, below, meth, c, A⟩ := X
  obtain ⟨hx, hb, hml, hown, hts, hK, hA, hlk, hret, hR, hM⟩ := C
  intro r σ' hF H locs ls hP hD hS hl
  subst hx9
  exact lv_tableIn hx hb hdg h1 h2 ho ht (k r σ' hF H locs ls hP hD hS hl)

theorem g_tabOut (C : Ok X cc own nL ret fr lo) {dflt lo9 hi9 : Int} {offs : Array Int} {len : Nat} {x : Int32} (tgt : Nat) (hdg : decode cc pc = .ok (.tableswitch dflt lo9 hi9 offs, len)) (h : x.toInt < lo9 ∨ hi9 < x.toInt) (ht : (pc : Int) + dflt = (tgt : Int)) (k : Sim X sc ad nL out tgt lv st σ F) : Sim X sc ad nL out pc lv (.int x :: st) σ F := by
  obtain ⟨Y, p, e, R, s, m, args, below, meth, c, A⟩ := X
  obtain ⟨hx, hb, hml, hown, hts, hK, hA, hlk, hret, hR, hM⟩ := C
  intro r σ' hF H locs ls hP hD hS hl
  exact lv_tableOut hx hb hdg h ht (k r σ' hF H locs ls hP hD hS hl)

theorem g_lookup (C : Ok X cc own nL ret fr lo) {dflt : Int} {ps : Array (Int × Int)} {len : Nat} {x : Int32} {off : Int} (tgt : Nat) (hdg : decode cc pc = .ok (.lookupswitch dflt ps, len)) (hp : (ps.toList.zip (ps.toList.drop 1)).all (fun (a, next) => a.1 < next.1) = true) (ho : Op.lookupswitch.offset ps.toList dflt x.toInt = off) (ht : (pc : Int) + off = (tgt : Int)) (k : Sim X sc ad nL out tgt lv st σ F) : Sim X sc ad nL out pc lv (.int x :: st) σ F := by
  obtain ⟨Y, p, e, R, s, m, args, below, meth, c, A⟩ := X
  obtain ⟨hx, hb, hml, hown, hts, hK, hA, hlk, hret, hR, hM⟩ := C
  intro r σ' hF H locs ls hP hD hS hl
  exact lv_lookup hx hb hdg hp ho ht (k r σ' hF H locs ls hP hD hS hl)

theorem g_iald (C : Ok X cc own nL ret fr lo) {j : Nat} {i : Int32} (hj : j ∈ sc.1) (hk : sc.2.1 j = 0) {n : Nat} (hn : sc.2.2.1 j = n) (hdg : decode cc pc = .ok (.iaload, 1)) (k : Sim X sc ad nL out (pc + 1) lv (.int (gA σ j i.toNatClampNeg) :: st) σ F) : Sim X sc ad nL out pc lv (.int i :: .ref (ad j) :: st) σ (gd (ib i n) F) := by
  obtain ⟨Y, p, e, R, s, m, args, below, meth, c, A⟩ := X
  obtain ⟨hx, hb, hml, hown, hts, hK, hA, hlk, hret, hR, hM⟩ := C
  intro r σ' hF H locs ls hP hD hS hl
  subst hn
  obtain ⟨hi, hF⟩ := gd_some hF
  obtain ⟨q, hq⟩ := id_pl hj
  have hw := wd_at (c4 := Y.2.2.1) (ad := ad) (σ := σ) hq
  rw [show fcell sc Y.2.2.1 ad σ j = .inl (Y.2.2.1.1, sc.2.2.1 j, .inl (gA σ j)) from by unfold fcell; rw [hk]] at hw
  exact va_iald hx hb hK hP q 0 hw rfl (ib_in hi) hdg (k r σ' hF H locs ls hP hD hS hl)

theorem g_bald (C : Ok X cc own nL ret fr lo) {j : Nat} {i : Int32} (hj : j ∈ sc.1) (hk : sc.2.1 j = 1) {n : Nat} (hn : sc.2.2.1 j = n) (hdg : decode cc pc = .ok (.baload, 1)) (k : Sim X sc ad nL out (pc + 1) lv (.int (gA σ j i.toNatClampNeg) :: st) σ F) : Sim X sc ad nL out pc lv (.int i :: .ref (ad j) :: st) σ (gd (ib i n) F) := by
  obtain ⟨Y, p, e, R, s, m, args, below, meth, c, A⟩ := X
  obtain ⟨hx, hb, hml, hown, hts, hK, hA, hlk, hret, hR, hM⟩ := C
  intro r σ' hF H locs ls hP hD hS hl
  subst hn
  obtain ⟨hi, hF⟩ := gd_some hF
  obtain ⟨q, hq⟩ := id_pl hj
  have hw := wd_at (c4 := Y.2.2.1) (ad := ad) (σ := σ) hq
  rw [show fcell sc Y.2.2.1 ad σ j = .inl (Y.2.2.1.2.1, sc.2.2.1 j, .inl (gA σ j)) from by unfold fcell; rw [hk]] at hw
  exact va_bald hx hb hK hP q 1 hw rfl (ib_in hi) hdg (k r σ' hF H locs ls hP hD hS hl)

theorem g_zald (C : Ok X cc own nL ret fr lo) {j : Nat} {i : Int32} (hj : j ∈ sc.1) (hk : sc.2.1 j = 3) {n : Nat} (hn : sc.2.2.1 j = n) (hdg : decode cc pc = .ok (.baload, 1)) (k : Sim X sc ad nL out (pc + 1) lv (.int (gA σ j i.toNatClampNeg) :: st) σ F) : Sim X sc ad nL out pc lv (.int i :: .ref (ad j) :: st) σ (gd (ib i n) F) := by
  obtain ⟨Y, p, e, R, s, m, args, below, meth, c, A⟩ := X
  obtain ⟨hx, hb, hml, hown, hts, hK, hA, hlk, hret, hR, hM⟩ := C
  intro r σ' hF H locs ls hP hD hS hl
  subst hn
  obtain ⟨hi, hF⟩ := gd_some hF
  obtain ⟨q, hq⟩ := id_pl hj
  have hw := wd_at (c4 := Y.2.2.1) (ad := ad) (σ := σ) hq
  rw [show fcell sc Y.2.2.1 ad σ j = .inl (Y.2.2.1.2.2.2, sc.2.2.1 j, .inl (gA σ j)) from by unfold fcell; rw [hk]] at hw
  exact va_zald hx hb hK hP q 3 hw rfl (ib_in hi) hdg (k r σ' hF H locs ls hP hD hS hl)

theorem g_lald (C : Ok X cc own nL ret fr lo) {j : Nat} {i : Int32} (hj : j ∈ sc.1) (hk : sc.2.1 j = 2) {n : Nat} (hn : sc.2.2.1 j = n) (hdg : decode cc pc = .ok (.laload, 1)) (k : Sim X sc ad nL out (pc + 1) lv (.long (gZ σ j i.toNatClampNeg) :: st) σ F) : Sim X sc ad nL out pc lv (.int i :: .ref (ad j) :: st) σ (gd (ib i n) F) := by
  obtain ⟨Y, p, e, R, s, m, args, below, meth, c, A⟩ := X
  obtain ⟨hx, hb, hml, hown, hts, hK, hA, hlk, hret, hR, hM⟩ := C
  intro r σ' hF H locs ls hP hD hS hl
  subst hn
  obtain ⟨hi, hF⟩ := gd_some hF
  obtain ⟨q, hq⟩ := id_pl hj
  have hw := wd_at (c4 := Y.2.2.1) (ad := ad) (σ := σ) hq
  rw [show fcell sc Y.2.2.1 ad σ j = .inl (Y.2.2.1.2.2.1, sc.2.2.1 j, .inr (.inl (gZ σ j))) from by unfold fcell; rw [hk]] at hw
  exact va_lald hx hb hK hP q 2 hw rfl (ib_in hi) hdg (k r σ' hF H locs ls hP hD hS hl)

theorem g_iast (C : Ok X cc own nL ret fr lo) {j : Nat} {i x : Int32} (hj : j ∈ sc.1) (hk : sc.2.1 j = 0) {n : Nat} (hn : sc.2.2.1 j = n) (hdg : decode cc pc = .ok (.iastore, 1)) (k : Sim X sc ad nL out (pc + 1) lv st (sA σ j i.toNatClampNeg x) F) : Sim X sc ad nL out pc lv (.int x :: .int i :: .ref (ad j) :: st) σ (gd (ib i n) F) := by
  obtain ⟨Y, p, e, R, s, m, args, below, meth, c, A⟩ := X
  obtain ⟨hx, hb, hml, hown, hts, hK, hA, hlk, hret, hR, hM⟩ := C
  intro r σ' hF H locs ls hP hD hS hl
  subst hn
  obtain ⟨hi, hF⟩ := gd_some hF
  obtain ⟨q, hq⟩ := id_pl hj
  have hw := wd_at (c4 := Y.2.2.1) (ad := ad) (σ := σ) hq
  rw [show fcell sc Y.2.2.1 ad σ j = .inl (Y.2.2.1.1, sc.2.2.1 j, .inl (gA σ j)) from by unfold fcell; rw [hk]] at hw
  refine va_iast hx hb hK hP hD hS q 0 hw rfl (ib_in hi) hdg (fun H locs hP1 hD1 hS => ?_)
  have he := set_A (i := i.toNatClampNeg) (v := x) hD hq (show fcell sc Y.2.2.1 ad (sA σ j i.toNatClampNeg x) j = .inl (Y.2.2.1.1, sc.2.2.1 j, .inl (upd (gA σ j) i.toNatClampNeg x)) from by unfold fcell; rw [hk]; simp only [gA, sA, if_pos])
  rw [he] at hP1 hD1
  exact k r σ' hF H locs ls hP1 hD1 hS hl

theorem g_bast (C : Ok X cc own nL ret fr lo) {j : Nat} {i x : Int32} (hj : j ∈ sc.1) (hk : sc.2.1 j = 1) {n : Nat} (hn : sc.2.2.1 j = n) (hdg : decode cc pc = .ok (.bastore, 1)) (k : Sim X sc ad nL out (pc + 1) lv st (sA σ j i.toNatClampNeg (vp_nar .byte x)) F) : Sim X sc ad nL out pc lv (.int x :: .int i :: .ref (ad j) :: st) σ (gd (ib i n) F) := by
  obtain ⟨Y, p, e, R, s, m, args, below, meth, c, A⟩ := X
  obtain ⟨hx, hb, hml, hown, hts, hK, hA, hlk, hret, hR, hM⟩ := C
  intro r σ' hF H locs ls hP hD hS hl
  subst hn
  obtain ⟨hi, hF⟩ := gd_some hF
  obtain ⟨q, hq⟩ := id_pl hj
  have hw := wd_at (c4 := Y.2.2.1) (ad := ad) (σ := σ) hq
  rw [show fcell sc Y.2.2.1 ad σ j = .inl (Y.2.2.1.2.1, sc.2.2.1 j, .inl (gA σ j)) from by unfold fcell; rw [hk]] at hw
  refine va_bast hx hb hK hP hD hS q 1 hw rfl (ib_in hi) hdg (fun H locs hP1 hD1 hS => ?_)
  have he := set_A (i := i.toNatClampNeg) (v := (vp_nar .byte x)) hD hq (show fcell sc Y.2.2.1 ad (sA σ j i.toNatClampNeg (vp_nar .byte x)) j = .inl (Y.2.2.1.2.1, sc.2.2.1 j, .inl (upd (gA σ j) i.toNatClampNeg (vp_nar .byte x))) from by unfold fcell; rw [hk]; simp only [gA, sA, if_pos])
  rw [he] at hP1 hD1
  exact k r σ' hF H locs ls hP1 hD1 hS hl

theorem g_zast (C : Ok X cc own nL ret fr lo) {j : Nat} {i x : Int32} (hj : j ∈ sc.1) (hk : sc.2.1 j = 3) {n : Nat} (hn : sc.2.2.1 j = n) (hdg : decode cc pc = .ok (.bastore, 1)) (k : Sim X sc ad nL out (pc + 1) lv st (sA σ j i.toNatClampNeg (vp_nar .boolean x)) F) : Sim X sc ad nL out pc lv (.int x :: .int i :: .ref (ad j) :: st) σ (gd (ib i n) F) := by
  obtain ⟨Y, p, e, R, s, m, args, below, meth, c, A⟩ := X
  obtain ⟨hx, hb, hml, hown, hts, hK, hA, hlk, hret, hR, hM⟩ := C
  intro r σ' hF H locs ls hP hD hS hl
  subst hn
  obtain ⟨hi, hF⟩ := gd_some hF
  obtain ⟨q, hq⟩ := id_pl hj
  have hw := wd_at (c4 := Y.2.2.1) (ad := ad) (σ := σ) hq
  rw [show fcell sc Y.2.2.1 ad σ j = .inl (Y.2.2.1.2.2.2, sc.2.2.1 j, .inl (gA σ j)) from by unfold fcell; rw [hk]] at hw
  refine va_zast hx hb hK hP hD hS q 3 hw rfl (ib_in hi) hdg (fun H locs hP1 hD1 hS => ?_)
  have he := set_A (i := i.toNatClampNeg) (v := (vp_nar .boolean x)) hD hq (show fcell sc Y.2.2.1 ad (sA σ j i.toNatClampNeg (vp_nar .boolean x)) j = .inl (Y.2.2.1.2.2.2, sc.2.2.1 j, .inl (upd (gA σ j) i.toNatClampNeg (vp_nar .boolean x))) from by unfold fcell; rw [hk]; simp only [gA, sA, if_pos])
  rw [he] at hP1 hD1
  exact k r σ' hF H locs ls hP1 hD1 hS hl

theorem g_last (C : Ok X cc own nL ret fr lo) {j : Nat} {i : Int32} {x : Int64} (hj : j ∈ sc.1) (hk : sc.2.1 j = 2) {n : Nat} (hn : sc.2.2.1 j = n) (hdg : decode cc pc = .ok (.lastore, 1)) (k : Sim X sc ad nL out (pc + 1) lv st (sZ σ j i.toNatClampNeg x) F) : Sim X sc ad nL out pc lv (.long x :: .int i :: .ref (ad j) :: st) σ (gd (ib i n) F) := by
  obtain ⟨Y, p, e, R, s, m, args, below, meth, c, A⟩ := X
  obtain ⟨hx, hb, hml, hown, hts, hK, hA, hlk, hret, hR, hM⟩ := C
  intro r σ' hF H locs ls hP hD hS hl
  subst hn
  obtain ⟨hi, hF⟩ := gd_some hF
  obtain ⟨q, hq⟩ := id_pl hj
  have hw := wd_at (c4 := Y.2.2.1) (ad := ad) (σ := σ) hq
  rw [show fcell sc Y.2.2.1 ad σ j = .inl (Y.2.2.1.2.2.1, sc.2.2.1 j, .inr (.inl (gZ σ j))) from by unfold fcell; rw [hk]] at hw
  refine va_last hx hb hK hP hD hS q 2 hw rfl (ib_in hi) hdg (fun H locs hP1 hD1 hS => ?_)
  have he := set_Z (i := i.toNatClampNeg) (v := x) hD hq (show fcell sc Y.2.2.1 ad (sZ σ j i.toNatClampNeg x) j = .inl (Y.2.2.1.2.2.1, sc.2.2.1 j, .inr (.inl (vp_updL (gZ σ j) i.toNatClampNeg x))) from by unfold fcell; rw [hk]; simp only [gZ, sZ, if_pos])
  rw [he] at hP1 hD1
  exact k r σ' hF H locs ls hP1 hD1 hS hl

theorem g_alen0 (C : Ok X cc own nL ret fr lo) {j : Nat} (v : Int32) (hj : j ∈ sc.1) (hk : sc.2.1 j = 0) (hv : Int32.ofNat (sc.2.2.1 j) = v) (hdg : decode cc pc = .ok (.arraylength, 1)) (k : Sim X sc ad nL out (pc + 1) lv (.int v :: st) σ F) : Sim X sc ad nL out pc lv (.ref (ad j) :: st) σ F := by
  obtain ⟨Y, p, e, R, s, m, args, below, meth, c, A⟩ := X
  obtain ⟨hx, hb, hml, hown, hts, hK, hA, hlk, hret, hR, hM⟩ := C
  intro r σ' hF H locs ls hP hD hS hl
  obtain ⟨q, hq⟩ := id_pl hj
  have hw := wd_at (c4 := Y.2.2.1) (ad := ad) (σ := σ) hq
  rw [show fcell sc Y.2.2.1 ad σ j = .inl (Y.2.2.1.1, sc.2.2.1 j, .inl (gA σ j)) from by unfold fcell; rw [hk]] at hw
  exact va_alen hx hb hK hP q 0 hw rfl hv hdg (k r σ' hF H locs ls hP hD hS hl)

theorem g_alen1 (C : Ok X cc own nL ret fr lo) {j : Nat} (v : Int32) (hj : j ∈ sc.1) (hk : sc.2.1 j = 1) (hv : Int32.ofNat (sc.2.2.1 j) = v) (hdg : decode cc pc = .ok (.arraylength, 1)) (k : Sim X sc ad nL out (pc + 1) lv (.int v :: st) σ F) : Sim X sc ad nL out pc lv (.ref (ad j) :: st) σ F := by
  obtain ⟨Y, p, e, R, s, m, args, below, meth, c, A⟩ := X
  obtain ⟨hx, hb, hml, hown, hts, hK, hA, hlk, hret, hR, hM⟩ := C
  intro r σ' hF H locs ls hP hD hS hl
  obtain ⟨q, hq⟩ := id_pl hj
  have hw := wd_at (c4 := Y.2.2.1) (ad := ad) (σ := σ) hq
  rw [show fcell sc Y.2.2.1 ad σ j = .inl (Y.2.2.1.2.1, sc.2.2.1 j, .inl (gA σ j)) from by unfold fcell; rw [hk]] at hw
  exact va_alen hx hb hK hP q 1 hw rfl hv hdg (k r σ' hF H locs ls hP hD hS hl)

theorem g_alen2 (C : Ok X cc own nL ret fr lo) {j : Nat} (v : Int32) (hj : j ∈ sc.1) (hk : sc.2.1 j = 2) (hv : Int32.ofNat (sc.2.2.1 j) = v) (hdg : decode cc pc = .ok (.arraylength, 1)) (k : Sim X sc ad nL out (pc + 1) lv (.int v :: st) σ F) : Sim X sc ad nL out pc lv (.ref (ad j) :: st) σ F := by
  obtain ⟨Y, p, e, R, s, m, args, below, meth, c, A⟩ := X
  obtain ⟨hx, hb, hml, hown, hts, hK, hA, hlk, hret, hR, hM⟩ := C
  intro r σ' hF H locs ls hP hD hS hl
  obtain ⟨q, hq⟩ := id_pl hj
  have hw := wd_at (c4 := Y.2.2.1) (ad := ad) (σ := σ) hq
  rw [show fcell sc Y.2.2.1 ad σ j = .inl (Y.2.2.1.2.2.1, sc.2.2.1 j, .inr (.inl (gZ σ j))) from by unfold fcell; rw [hk]] at hw
  exact va_alen hx hb hK hP q 2 hw rfl hv hdg (k r σ' hF H locs ls hP hD hS hl)

theorem g_alen3 (C : Ok X cc own nL ret fr lo) {j : Nat} (v : Int32) (hj : j ∈ sc.1) (hk : sc.2.1 j = 3) (hv : Int32.ofNat (sc.2.2.1 j) = v) (hdg : decode cc pc = .ok (.arraylength, 1)) (k : Sim X sc ad nL out (pc + 1) lv (.int v :: st) σ F) : Sim X sc ad nL out pc lv (.ref (ad j) :: st) σ F := by
  obtain ⟨Y, p, e, R, s, m, args, below, meth, c, A⟩ := X
  obtain ⟨hx, hb, hml, hown, hts, hK, hA, hlk, hret, hR, hM⟩ := C
  intro r σ' hF H locs ls hP hD hS hl
  obtain ⟨q, hq⟩ := id_pl hj
  have hw := wd_at (c4 := Y.2.2.1) (ad := ad) (σ := σ) hq
  rw [show fcell sc Y.2.2.1 ad σ j = .inl (Y.2.2.1.2.2.2, sc.2.2.1 j, .inl (gA σ j)) from by unfold fcell; rw [hk]] at hw
  exact va_alen hx hb hK hP q 3 hw rfl hv hdg (k r σ' hF H locs ls hP hD hS hl)

theorem g_getI (C : Ok X cc own nL ret fr lo) {o k0 ci N index : Nat} {Cn ref : String} {T : u_T} {v : Int32} (ho : o ∈ sc.1) (hk : sc.2.1 o = ci + 4) (hf : (sc.2.2.2 o)[k0]? = some 0) (hcl : vwCl[ci]? = some (Cn, T, N)) (hN : k0 < N) (hin : ∀ w ∈ u_ws Cn T N, w ∈ lw_gt) (hw : Cond.fieldLink own index ref (T k0).2.1 (T k0).2.2.1 ∈ lw_gt) (hsame : (T k0).1 = ref) (hdg : decode cc pc = .ok (.getfield index, 3)) (hv : gI σ (100 * o + k0) = v) (k : Sim X sc ad nL out (pc + 3) lv (.int v :: st) σ F) : Sim X sc ad nL out pc lv (.ref (ad o) :: st) σ F := by
  obtain ⟨Y, p, e, R, s, m, args, below, meth, c, A⟩ := X
  obtain ⟨hx, hb, hml, hown, hts, hK, hA, hlk, hret, hR, hM⟩ := C
  intro r σ' hF H locs ls hP hD hS hl
  obtain ⟨q, hq⟩ := id_pl ho
  have hw2 := wd_at (c4 := Y.2.2.1) (ad := ad) (σ := σ) hq
  rw [show fcell sc Y.2.2.1 ad σ o = .inr (ci, flist ad σ o 0 (sc.2.2.2 o)) from by unfold fcell; rw [hk]] at hw2
  subst hsame
  exact va_get hx hb hts hin hown hK hP q hw2 hcl k0 hN (hts _ hw) (fun _ h9 => h9) (by rw [flist_get, Nat.zero_add, hf]; show some _ = _; rw [← hv]; rfl) hdg (k r σ' hF H locs ls hP hD hS hl)

theorem g_getL (C : Ok X cc own nL ret fr lo) {o k0 ci N index : Nat} {Cn ref : String} {T : u_T} {v : Int64} (ho : o ∈ sc.1) (hk : sc.2.1 o = ci + 4) (hf : (sc.2.2.2 o)[k0]? = some 1) (hcl : vwCl[ci]? = some (Cn, T, N)) (hN : k0 < N) (hin : ∀ w ∈ u_ws Cn T N, w ∈ lw_gt) (hw : Cond.fieldLink own index ref (T k0).2.1 (T k0).2.2.1 ∈ lw_gt) (hsame : (T k0).1 = ref) (hdg : decode cc pc = .ok (.getfield index, 3)) (hv : gL σ (100 * o + k0) = v) (k : Sim X sc ad nL out (pc + 3) lv (.long v :: st) σ F) : Sim X sc ad nL out pc lv (.ref (ad o) :: st) σ F := by
  obtain ⟨Y, p, e, R, s, m, args, below, meth, c, A⟩ := X
  obtain ⟨hx, hb, hml, hown, hts, hK, hA, hlk, hret, hR, hM⟩ := C
  intro r σ' hF H locs ls hP hD hS hl
  obtain ⟨q, hq⟩ := id_pl ho
  have hw2 := wd_at (c4 := Y.2.2.1) (ad := ad) (σ := σ) hq
  rw [show fcell sc Y.2.2.1 ad σ o = .inr (ci, flist ad σ o 0 (sc.2.2.2 o)) from by unfold fcell; rw [hk]] at hw2
  subst hsame
  exact va_get hx hb hts hin hown hK hP q hw2 hcl k0 hN (hts _ hw) (fun _ h9 => h9) (by rw [flist_get, Nat.zero_add, hf]; show some _ = _; rw [← hv]; rfl) hdg (k r σ' hF H locs ls hP hD hS hl)

theorem g_getP (C : Ok X cc own nL ret fr lo) {o k0 ci N index : Nat} {Cn ref : String} {T : u_T} {v : Nat} (ho : o ∈ sc.1) (hk : sc.2.1 o = ci + 4) (hf : (sc.2.2.2 o)[k0]? = some 2) (hcl : vwCl[ci]? = some (Cn, T, N)) (hN : k0 < N) (hin : ∀ w ∈ u_ws Cn T N, w ∈ lw_gt) (hw : Cond.fieldLink own index ref (T k0).2.1 (T k0).2.2.1 ∈ lw_gt) (hsame : (T k0).1 = ref) (hdg : decode cc pc = .ok (.getfield index, 3)) (hv : gP σ (100 * o + k0) = v) (k : Sim X sc ad nL out (pc + 3) lv (.ref (ad v) :: st) σ F) : Sim X sc ad nL out pc lv (.ref (ad o) :: st) σ F := by
  obtain ⟨Y, p, e, R, s, m, args, below, meth, c, A⟩ := X
  obtain ⟨hx, hb, hml, hown, hts, hK, hA, hlk, hret, hR, hM⟩ := C
  intro r σ' hF H locs ls hP hD hS hl
  obtain ⟨q, hq⟩ := id_pl ho
  have hw2 := wd_at (c4 := Y.2.2.1) (ad := ad) (σ := σ) hq
  rw [show fcell sc Y.2.2.1 ad σ o = .inr (ci, flist ad σ o 0 (sc.2.2.2 o)) from by unfold fcell; rw [hk]] at hw2
  subst hsame
  exact va_get hx hb hts hin hown hK hP q hw2 hcl k0 hN (hts _ hw) (fun _ h9 => h9) (by rw [flist_get, Nat.zero_add, hf]; show some _ = _; rw [← hv]; rfl) hdg (k r σ' hF H locs ls hP hD hS hl)

theorem g_getR (C : Ok X cc own nL ret fr lo) {o k0 ci N index : Nat} {Cn ref : String} {T : u_T} {t : Nat} (ho : o ∈ sc.1) (hk : sc.2.1 o = ci + 4) (hf : (sc.2.2.2 o)[k0]? = some (t + 3)) (hcl : vwCl[ci]? = some (Cn, T, N)) (hN : k0 < N) (hin : ∀ w ∈ u_ws Cn T N, w ∈ lw_gt) (hw : Cond.fieldLink own index ref (T k0).2.1 (T k0).2.2.1 ∈ lw_gt) (hsame : (T k0).1 = ref) (hdg : decode cc pc = .ok (.getfield index, 3)) (k : Sim X sc ad nL out (pc + 3) lv (.ref (ad t) :: st) σ F) : Sim X sc ad nL out pc lv (.ref (ad o) :: st) σ F := by
  obtain ⟨Y, p, e, R, s, m, args, below, meth, c, A⟩ := X
  obtain ⟨hx, hb, hml, hown, hts, hK, hA, hlk, hret, hR, hM⟩ := C
  intro r σ' hF H locs ls hP hD hS hl
  obtain ⟨q, hq⟩ := id_pl ho
  have hw2 := wd_at (c4 := Y.2.2.1) (ad := ad) (σ := σ) hq
  rw [show fcell sc Y.2.2.1 ad σ o = .inr (ci, flist ad σ o 0 (sc.2.2.2 o)) from by unfold fcell; rw [hk]] at hw2
  subst hsame
  exact va_get hx hb hts hin hown hK hP q hw2 hcl k0 hN (hts _ hw) (fun _ h9 => h9) (by rw [flist_get, Nat.zero_add, hf]; rfl) hdg (k r σ' hF H locs ls hP hD hS hl)

theorem g_putI (C : Ok X cc own nL ret fr lo) (hsc : ScOk sc) {o k0 ci N index : Nat} {Cn ref : String} {T : u_T} {v : Int32} {ty : FieldType} {ty0 : Nat → FieldType} (ho : o ∈ sc.1) (hk : sc.2.1 o = ci + 4) (hf : (sc.2.2.2 o)[k0]? = some 0) (hcl : vwCl[ci]? = some (Cn, T, N)) (hN : k0 < N) (hin : ∀ w ∈ u_ws Cn T N, w ∈ lw_gt) (hw : Cond.fieldLink own index ref (T k0).2.1 (T k0).2.2.1 ∈ lw_gt) (hsame : (T k0).1 = ref) (hty : ∀ k, k < N → parseFieldDescriptor (T k).2.2.1 = some (ty0 k)) (hnm : ∀ a, a < N → ∀ b, b < N → a ≠ b → (T a).2.1 ≠ (T b).2.1) (hfin : (T k0).2.2.2 = false) (hd : parseFieldDescriptor (T k0).2.2.1 = some ty) (hna : narrow ty (.int v) = .int v) (hfit : fits ty (.int v) = true) (hdg : decode cc pc = .ok (.putfield index, 3)) (k : Sim X sc ad nL out (pc + 3) lv st (sI σ (100 * o + k0) v) F) : Sim X sc ad nL out pc lv (.int v :: .ref (ad o) :: st) σ F := by
  obtain ⟨Y, p, e, R, s, m, args, below, meth, c, A⟩ := X
  obtain ⟨hx, hb, hml, hown, hts, hK, hA, hlk, hret, hR, hM⟩ := C
  intro r σ' hF H locs ls hP hD hS hl
  obtain ⟨q, hq⟩ := id_pl ho
  have hw2 := wd_at (c4 := Y.2.2.1) (ad := ad) (σ := σ) hq
  rw [show fcell sc Y.2.2.1 ad σ o = .inr (ci, flist ad σ o 0 (sc.2.2.2 o)) from by unfold fcell; rw [hk]] at hw2
  subst hsame
  refine va_put hx hb hts hin ty0 hty hnm hown hK hP hD hS q hw2 hcl k0 hN (hts _ hw) (fun _ h9 => h9) hfin hd hna hfit (by rw [flist_len]; exact fl_lt hf) hdg (fun H locs hP1 hD1 hS => ?_)
  rw [set_I hsc hD hq hk hf] at hP1 hD1
  exact k r σ' hF H locs ls hP1 hD1 hS hl

theorem g_putL (C : Ok X cc own nL ret fr lo) (hsc : ScOk sc) {o k0 ci N index : Nat} {Cn ref : String} {T : u_T} {v : Int64} {ty : FieldType} {ty0 : Nat → FieldType} (ho : o ∈ sc.1) (hk : sc.2.1 o = ci + 4) (hf : (sc.2.2.2 o)[k0]? = some 1) (hcl : vwCl[ci]? = some (Cn, T, N)) (hN : k0 < N) (hin : ∀ w ∈ u_ws Cn T N, w ∈ lw_gt) (hw : Cond.fieldLink own index ref (T k0).2.1 (T k0).2.2.1 ∈ lw_gt) (hsame : (T k0).1 = ref) (hty : ∀ k, k < N → parseFieldDescriptor (T k).2.2.1 = some (ty0 k)) (hnm : ∀ a, a < N → ∀ b, b < N → a ≠ b → (T a).2.1 ≠ (T b).2.1) (hfin : (T k0).2.2.2 = false) (hd : parseFieldDescriptor (T k0).2.2.1 = some ty) (hna : narrow ty (.long v) = .long v) (hfit : fits ty (.long v) = true) (hdg : decode cc pc = .ok (.putfield index, 3)) (k : Sim X sc ad nL out (pc + 3) lv st (sL σ (100 * o + k0) v) F) : Sim X sc ad nL out pc lv (.long v :: .ref (ad o) :: st) σ F := by
  obtain ⟨Y, p, e, R, s, m, args, below, meth, c, A⟩ := X
  obtain ⟨hx, hb, hml, hown, hts, hK, hA, hlk, hret, hR, hM⟩ := C
  intro r σ' hF H locs ls hP hD hS hl
  obtain ⟨q, hq⟩ := id_pl ho
  have hw2 := wd_at (c4 := Y.2.2.1) (ad := ad) (σ := σ) hq
  rw [show fcell sc Y.2.2.1 ad σ o = .inr (ci, flist ad σ o 0 (sc.2.2.2 o)) from by unfold fcell; rw [hk]] at hw2
  subst hsame
  refine va_put hx hb hts hin ty0 hty hnm hown hK hP hD hS q hw2 hcl k0 hN (hts _ hw) (fun _ h9 => h9) hfin hd hna hfit (by rw [flist_len]; exact fl_lt hf) hdg (fun H locs hP1 hD1 hS => ?_)
  rw [set_L hsc hD hq hk hf] at hP1 hD1
  exact k r σ' hF H locs ls hP1 hD1 hS hl

theorem g_putP (C : Ok X cc own nL ret fr lo) (hsc : ScOk sc) {o k0 ci N index : Nat} {Cn ref : String} {T : u_T} {v : Nat} {ty : FieldType} {ty0 : Nat → FieldType} (ho : o ∈ sc.1) (hk : sc.2.1 o = ci + 4) (hf : (sc.2.2.2 o)[k0]? = some 2) (hcl : vwCl[ci]? = some (Cn, T, N)) (hN : k0 < N) (hin : ∀ w ∈ u_ws Cn T N, w ∈ lw_gt) (hw : Cond.fieldLink own index ref (T k0).2.1 (T k0).2.2.1 ∈ lw_gt) (hsame : (T k0).1 = ref) (hty : ∀ k, k < N → parseFieldDescriptor (T k).2.2.1 = some (ty0 k)) (hnm : ∀ a, a < N → ∀ b, b < N → a ≠ b → (T a).2.1 ≠ (T b).2.1) (hfin : (T k0).2.2.2 = false) (hd : parseFieldDescriptor (T k0).2.2.1 = some ty) (hna : narrow ty (.ref (ad v)) = .ref (ad v)) (hfit : fits ty (.ref (ad v)) = true) (hdg : decode cc pc = .ok (.putfield index, 3)) (k : Sim X sc ad nL out (pc + 3) lv st (sP σ (100 * o + k0) v) F) : Sim X sc ad nL out pc lv (.ref (ad v) :: .ref (ad o) :: st) σ F := by
  obtain ⟨Y, p, e, R, s, m, args, below, meth, c, A⟩ := X
  obtain ⟨hx, hb, hml, hown, hts, hK, hA, hlk, hret, hR, hM⟩ := C
  intro r σ' hF H locs ls hP hD hS hl
  obtain ⟨q, hq⟩ := id_pl ho
  have hw2 := wd_at (c4 := Y.2.2.1) (ad := ad) (σ := σ) hq
  rw [show fcell sc Y.2.2.1 ad σ o = .inr (ci, flist ad σ o 0 (sc.2.2.2 o)) from by unfold fcell; rw [hk]] at hw2
  subst hsame
  refine va_put hx hb hts hin ty0 hty hnm hown hK hP hD hS q hw2 hcl k0 hN (hts _ hw) (fun _ h9 => h9) hfin hd hna hfit (by rw [flist_len]; exact fl_lt hf) hdg (fun H locs hP1 hD1 hS => ?_)
  rw [set_P hsc hD hq hk hf] at hP1 hD1
  exact k r σ' hF H locs ls hP1 hD1 hS hl

theorem g_iret (C : Ok X cc own nL (some .int) fr lo) {v : Int32} (hdg : decode cc pc = .ok (.ireturn, 1)) : Sim X sc ad nL outI pc lv [.int v] σ (some (v, σ)) := by
  obtain ⟨Y, p, e, R, s, m, args, below, meth, c, A⟩ := X
  obtain ⟨hx, hb, hml, hown, hts, hK, hA, hlk, hret, hR, hM⟩ := C
  intro r σ' hF H locs ls hP hD hS hl
  cases hF
  exact W.iret hx hb hret (fun t ht hW => ⟨⟨rfl, by rw [ht]; exact hP, hD⟩, hS.F ht⟩) hS.2.2 hdg hlk

theorem g_zret {ty : FieldType} (C : Ok X cc own nL (some ty) fr lo) {v : Int32} (hn : narrow ty (.int v) = .int v) (hdg : decode cc pc = .ok (.ireturn, 1)) : Sim X sc ad nL outI pc lv [.int v] σ (some (v, σ)) := by
  obtain ⟨Y, p, e, R, s, m, args, below, meth, c, A⟩ := X
  obtain ⟨hx, hb, hml, hown, hts, hK, hA, hlk, hret, hR, hM⟩ := C
  intro r σ' hF H locs ls hP hD hS hl
  cases hF
  exact W.zret hx hb hret hn (fun t ht hW => ⟨⟨rfl, by rw [ht]; exact hP, hD⟩, hS.F ht⟩) hS.2.2 hdg hlk

theorem g_lret (C : Ok X cc own nL (some .long) fr lo) {v : Int64} (hdg : decode cc pc = .ok (.lreturn, 1)) : Sim X sc ad nL outL pc lv [.long v] σ (some (v, σ)) := by
  obtain ⟨Y, p, e, R, s, m, args, below, meth, c, A⟩ := X
  obtain ⟨hx, hb, hml, hown, hts, hK, hA, hlk, hret, hR, hM⟩ := C
  intro r σ' hF H locs ls hP hD hS hl
  cases hF
  exact W.lret hx hb hret (fun t ht hW => ⟨⟨rfl, by rw [ht]; exact hP, hD⟩, hS.F ht⟩) hS.2.2 hdg hlk

theorem g_vret (C : Ok X cc own nL none fr lo) (hdg : decode cc pc = .ok (.return_, 1)) : Sim X sc ad nL outV pc lv [] σ (some ((), σ)) := by
  obtain ⟨Y, p, e, R, s, m, args, below, meth, c, A⟩ := X
  obtain ⟨hx, hb, hml, hown, hts, hK, hA, hlk, hret, hR, hM⟩ := C
  intro r σ' hF H locs ls hP hD hS hl
  cases hF
  exact W.vret hx hb hret (fun t ht hW => ⟨⟨rfl, by rw [ht]; exact hP, hD⟩, hS.F ht⟩) hS.2.2 hdg hlk

def isb (v : Int32) : Bool := v == 0 || v == 1
theorem isb_nar {v : Int32} (h : isb v = true) : narrow .boolean (.int v) = .int v := by
  unfold isb at h
  rw [Bool.or_eq_true] at h
  rcases h with h | h <;> (rw [beq_iff_eq] at h; subst h; rfl)
theorem isb_fit {v : Int32} (h : isb v = true) : fits .boolean (.int v) = true := by
  unfold isb at h
  rw [Bool.or_eq_true] at h
  rcases h with h | h <;> (rw [beq_iff_eq] at h; subst h; rfl)
/-- behind a call -/
theorem g9_callq {p : Program} {e : Env} {R : Room} {s : State} {m : MethodId} {args : Array Value} {below : List Frame} {meth : Method} {c : Code} {H : Heap} {locs : List Loc} {Q : State → Prop} {ls : Array Slot} {rest st0 : List Value} {a : Array Value} {A0 A1 : Nat → Prop} {H0 : Heap} {free : Addr → Prop} {Y : Yx} {o : Option Value} {σ1 : St} (hr : va_Run p Y.1 e R s m args below meth c H locs 0 0 0 0 (F0 m pc ls st0) rest (qq Y sc ad A1 o σ1 a) free) (hS : va_S A0 H0 H locs) (hA : ∀ q, q < H.size → A1 q → A0 q) (hf : ∀ q, free q → A0 q)
    (kk : ∀ (H1 : Heap) (locs1 : List Loc), va_P Y.2.1 vwCl (wdS sc Y.2.2.1 ad σ1) H1 → va_D A1 (wdS sc Y.2.2.1 ad σ1) → va_S A0 H0 H1 locs1 → W p Y.1 e R s m args below meth c H1 locs1 0 0 Q (F0 m (pc + 3) ls (o.toList ++ rest))) : W p Y.1 e R s m args below meth c H locs 0 0 Q (F0 m pc ls st0) := by
  intro T hT X
  obtain ⟨v, st₀, t, T', L, h0, X', hL, e1, e2, ⟨⟨hv, hp, hb⟩, hz, hk⟩, st⟩ := hr T hT X
  cases hv
  rw [h0] at hz hk
  obtain ⟨t2, a1, b1⟩ := kk T'.heap (locs ++ L) (by rw [e1]; exact hp) hb
    ⟨Nat.le_trans hS.1 (by rw [e1]; exact hz), fun q h1 h2 => by rw [e1, hk q (Nat.lt_of_lt_of_le h1 hS.1) (fun z => h2 (hA q (Nat.lt_of_lt_of_le h1 hS.1) z))]; exact hS.2.1 q h1 h2, fun q hq => by
      rcases List.mem_append.mp hq with h | h
      · exact hS.2.2 q h
      · exact hf _ (hL q h)⟩ T' rfl X'
  exact ⟨t2, st t2 a1, b1⟩
theorem wd_free {A0 : Nat → Prop} {ws : va_W} {H0 H : Heap} {locs : List Loc} (hD : va_D A0 ws) (hS : va_S A0 H0 H locs) (hA : ∀ q, H0.size ≤ q → A0 q) : ∀ q, va_A ws H.size q → A0 q := by
  intro q h
  rcases h with ⟨k, e, h⟩ | h
  · exact hD.2 k (q, e) h
  · exact hA q (Nat.le_trans hS.1 h)
theorem cQ_pre {Y : Yx} {A : Nat → Prop} {s : State} {H : Heap} {locs : List Loc} {av : List Value} (hP : va_P Y.2.1 vwCl (wdS sc Y.2.2.1 ad σ) H) (hK : va_K Y.2.1 vwCl (kTy Y.2.2.1) s) (hD : va_D A (wdS sc Y.2.2.1 ad σ)) (hS : va_S A s.heap H locs) (hA : ∀ q, s.heap.size ≤ q → A q) (hM : Amb Y.2.2.2.1 Y.2.2.2.2 A s) (U : State) (hU : U.heap = H) (hW : s.WarmedH U.vm) : cQ Y sc ad av σ H.size av.toArray U :=
  ⟨rfl, by rw [hU], by rw [hU]; exact hP, va_K.moved hW.alike hK, hD.weaken (fun _ _ _ _ => trivial), hM.pass hS (wd_free hD hS hA) hU hW⟩
/-- the words of a call: of an instance method, of a static one -/
def wV (own : String) (idx : Nat) (y : MethodName) (bytes : ByteArray) (maxL : Nat) (ret : Option FieldType) : Prop := Cond.methodLink own idx y ∈ lw_gt ∧ Cond.instanceMethod y ∈ lw_gt ∧ Cond.selects y.cls y y ∈ lw_gt ∧ Cond.initialized y.cls ∈ lw_gt ∧ Cond.code y bytes maxL ret ∈ lw_gt
def wS (own : String) (idx : Nat) (y : MethodName) (bytes : ByteArray) (maxL : Nat) (ret : Option FieldType) : Prop := Cond.methodLink own idx y ∈ lw_gt ∧ Cond.static y ∈ lw_gt ∧ Cond.initialized y.cls ∈ lw_gt ∧ Cond.code y bytes maxL ret ∈ lw_gt
theorem lw_gin {w : Cond} (h : w ∈ lw_gt) : w ∈ lw_gt ∧ ((w.onTables && w.keeps) = true ∨ ∃ ty, w = .arrayClass ty) := ⟨h, good_of_word (List.mem_filter.mp h).2⟩
theorem wV_good {own : String} {idx : Nat} {y : MethodName} {bytes : ByteArray} {maxL : Nat} {ret : Option FieldType} (h : wV own idx y bytes maxL ret) : GoodIn lw_gt (wsV own idx y.cls y (Cond.code y bytes maxL ret :: lw_gt)) := by
  obtain ⟨h1, h2, h3, h4, h5⟩ := h
  intro w hw
  unfold wsV at hw
  rcases List.mem_append.mp hw with h | h
  · simp only [List.mem_cons, List.not_mem_nil, or_false] at h
    rcases h with rfl | rfl | rfl | rfl
    · exact lw_gin h1
    · exact lw_gin h2
    · exact lw_gin h3
    · exact lw_gin h4
  · rcases List.mem_cons.mp h with rfl | h
    · exact lw_gin h5
    · exact lw_gin h
theorem wS_good {own : String} {idx : Nat} {y : MethodName} {bytes : ByteArray} {maxL : Nat} {ret : Option FieldType} (h : wS own idx y bytes maxL ret) : GoodIn lw_gt (va_wsS own idx y (Cond.code y bytes maxL ret :: lw_gt)) := by
  obtain ⟨h1, h2, h4, h5⟩ := h
  intro w hw
  unfold va_wsS at hw
  rcases List.mem_append.mp hw with h | h
  · simp only [List.mem_cons, List.not_mem_nil, or_false] at h
    rcases h with rfl | rfl | rfl
    · exact lw_gin h1
    · exact lw_gin h2
    · exact lw_gin h4
  · rcases List.mem_cons.mp h with rfl | h
    · exact lw_gin h5
    · exact lw_gin h
def callee (y : MethodName) (n : Nat) : Bool := decide (y.cls ≠ "java/lang/invoke/MethodHandle") && decide (y.cls ≠ "java/lang/invoke/VarHandle") && decide ((parseMethodDescriptor y.desc).map (fun d => d.parameters.length) = some n)
theorem callee_spec {y : MethodName} {n : Nat} (h : callee y n = true) : y.cls ≠ "java/lang/invoke/MethodHandle" ∧ y.cls ≠ "java/lang/invoke/VarHandle" ∧ (parseMethodDescriptor y.desc).map (fun d => d.parameters.length) = some n := by
  unfold callee at h
  simp only [Bool.and_eq_true, decide_eq_true_eq] at h
  exact ⟨h.1.1, h.1.2, h.2⟩
theorem g_callV (C : Ok X cc own nL ret fr lo) {ρ1 : Type} {out1 : ρ1 → Option Value} {y : MethodName} {bytes : ByteArray} {maxL index fr1 lo1 : Nat} {ret1 : Option FieldType} {o ci n : Nat} {q9 : vw_C} {As rest : List Value} {F1 : Option (ρ1 × St)} {K : ρ1 → St → Option (ρ × St)} (hw : wV own index y bytes maxL ret1) (hc : callee y n = true) (hR : fr1 + 1 ≤ fr ∧ 8 + (maxL + 11) + lo1 ≤ lo) (ho : o ∈ sc.1) (hk : sc.2.1 o = ci + 4) (hcl : vwCl[ci]? = some q9) (hq9 : q9.1 = y.cls) (hM1 : ∀ (r : ρ1) (σ' : St), F1 = some (r, σ') → Con X.1 sc ad y bytes maxL ret1 fr1 lo1 (.ref (ad o) :: As) σ (out1 r) σ') (hn : As.length = n) (hst : st = As.reverse ++ .ref (ad o) :: rest) (hcat : (rest.map fun v => v.category).sum ≤ 8) (hdg : decode cc pc = .ok (.invokevirtual index, 3))
    (k : ∀ (r : ρ1) (σ' : St), F1 = some (r, σ') → Sim X sc ad nL out (pc + 3) lv ((out1 r).toList ++ rest) σ' (K r σ')) : Sim X sc ad nL out pc lv st σ (bd F1 K) := by
  obtain ⟨Y, p, e, R, s, m, args, below, meth, c, A⟩ := X
  obtain ⟨hx, hb, hml, hown, hts, hK, hA, hlk, hret, hR9, hM⟩ := C
  intro r σ' hF H locs ls hP hD hS hl
  subst hR9
  obtain ⟨r1, σ1, h1, h2⟩ := bd_some hF
  obtain ⟨q, hq⟩ := id_pl ho
  have hw2 := wd_at (c4 := Y.2.2.1) (ad := ad) (σ := σ) hq
  rw [show fcell sc Y.2.2.1 ad σ o = .inr (ci, flist ad σ o 0 (sc.2.2.2 o)) from by unfold fcell; rw [hk]] at hw2
  have hrc := va_recv hK hP hcl hw2
  rw [hq9] at hrc
  obtain ⟨d1, d2, d3⟩ := callee_spec hc
  refine g9_callq (A1 := va_A (wdS sc Y.2.2.1 ad σ) H.size) (va_runV (rm := rmO fr1 lo1) (mc := 0) (ms := 0) (As := As) (rest := rest) (C := y.cls) (b := ad o) ⟨hx, hb, hml, hown, hts⟩ (hM1 r1 σ1 h1 H.size) (cwV n hts (wV_good hw) rfl rfl rfl ⟨rfl, d1, d2, d3⟩ hR) ⟨cQ_fb, hrc, fun U hU hW => cQ_pre hP hK hD hS hA hM U hU hW⟩ rfl hn hl.1 hst (lv_room hcat) hdg ⟨Nat.le_refl 0, Nat.le_refl 0⟩) hS (fun q _ h => wd_free hD hS hA q h) (wd_free hD hS hA) (fun H1 locs1 hP1 hD1 hS1 => ?_)
  exact k r1 σ1 h1 r σ' h2 H1 locs1 ls hP1 (hD1.weaken (fun _ q _ h => wd_free hD hS hA q.1 h)) hS1 hl
theorem g_callS (C : Ok X cc own nL ret fr lo) {ρ1 : Type} {out1 : ρ1 → Option Value} {y : MethodName} {bytes : ByteArray} {maxL index fr1 lo1 : Nat} {ret1 : Option FieldType} {n : Nat} {As rest : List Value} {F1 : Option (ρ1 × St)} {K : ρ1 → St → Option (ρ × St)} (hw : wS own index y bytes maxL ret1) (hc : callee y n = true) (hR : fr1 + 1 ≤ fr ∧ 8 + (maxL + 11) + lo1 ≤ lo) (hM1 : ∀ (r : ρ1) (σ' : St), F1 = some (r, σ') → Con X.1 sc ad y bytes maxL ret1 fr1 lo1 As σ (out1 r) σ') (hn : As.length = n) (hst : st = As.reverse ++ rest) (hcat : (rest.map fun v => v.category).sum ≤ 8) (hdg : decode cc pc = .ok (.invokestatic index, 3))
    (k : ∀ (r : ρ1) (σ' : St), F1 = some (r, σ') → Sim X sc ad nL out (pc + 3) lv ((out1 r).toList ++ rest) σ' (K r σ')) : Sim X sc ad nL out pc lv st σ (bd F1 K) := by
  obtain ⟨Y, p, e, R, s, m, args, below, meth, c, A⟩ := X
  obtain ⟨hx, hb, hml, hown, hts, hK, hA, hlk, hret, hR9, hM⟩ := C
  intro r σ' hF H locs ls hP hD hS hl
  subst hR9
  obtain ⟨r1, σ1, h1, h2⟩ := bd_some hF
  refine g9_callq (A1 := va_A (wdS sc Y.2.2.1 ad σ) H.size) (va_runS (rm := rmO fr1 lo1) (mc := 0) (ms := 0) (As := As) (rest := rest) ⟨hx, hb, hml, hown, hts⟩ (hM1 r1 σ1 h1 H.size) (va_cwS n hts (wS_good hw) rfl rfl rfl (callee_spec hc) hR) ⟨cQ_fb, fun U hU hW => cQ_pre hP hK hD hS hA hM U hU hW⟩ rfl hn hl.1 hst (lv_room hcat) hdg ⟨Nat.le_refl 0, Nat.le_refl 0⟩) hS (fun q _ h => wd_free hD hS hA q h) (wd_free hD hS hA) (fun H1 locs1 hP1 hD1 hS1 => ?_)
  exact k r1 σ1 h1 r σ' h2 H1 locs1 ls hP1 (hD1.weaken (fun _ q _ h => wd_free hD hS hA q.1 h)) hS1 hl
end SimRows
end
section
theorem k_ne {x : Int32} {k : Int32} {n : Int} (h : ¬ x = k) (hk : k.toInt = n) : ¬ x.toInt = n := fun e => h (Int32.toInt_inj.mp (e.trans hk.symm))
set_option maxRecDepth 100000 in
theorem gw_1565 : (.fieldLink RJ0 9 "java/lang/String" "value" "[B" : Cond) ∈ lw_gt := gt_of (List.mem_of_getElem? (i := 1565) (by decide +kernel)) (by rfl)
set_option maxRecDepth 100000 in
theorem gw_1566 : (.fieldLink RJ0 15 "java/lang/String" "coder" "B" : Cond) ∈ lw_gt := gt_of (List.mem_of_getElem? (i := 1566) (by decide +kernel)) (by rfl)
set_option maxRecDepth 100000 in
theorem gw_569 : (.fieldLink RJ0 38 "java/lang/String" "COMPACT_STRINGS" "Z" : Cond) ∈ lw_gt := gt_of (List.mem_of_getElem? (i := 569) (by decide +kernel)) (by rfl)
set_option maxRecDepth 100000 in
theorem gw_585 : (.fieldLink RJ0 1053 "jdk/internal/util/Preconditions" "SIOOBE_FORMATTER" "Ljava/util/function/BiFunction;" : Cond) ∈ lw_gt := gt_of (List.mem_of_getElem? (i := 585) (by decide +kernel)) (by rfl)
set_option maxRecDepth 100000 in
theorem gw_565 : (.methodLink RJ0 335 yJ0_coder_7d493 : Cond) ∈ lw_gt := gt_of (List.mem_of_getElem? (i := 565) (by decide +kernel)) (by rfl)
set_option maxRecDepth 100000 in
theorem gw_566 : (.instanceMethod yJ0_coder_7d493 : Cond) ∈ lw_gt := gt_of (List.mem_of_getElem? (i := 566) (by decide +kernel)) (by rfl)
set_option maxRecDepth 100000 in
theorem gw_567 : (.selects RJ0 yJ0_coder_7d493 yJ0_coder_7d493 : Cond) ∈ lw_gt := gt_of (List.mem_of_getElem? (i := 567) (by decide +kernel)) (by rfl)
set_option maxRecDepth 100000 in
theorem gw_119 : (.initialized RJ0 : Cond) ∈ lw_gt := gt_of (List.mem_of_getElem? (i := 119) (by decide +kernel)) (by rfl)
set_option maxRecDepth 100000 in
theorem gw_568 : (.code yJ0_coder_7d493 cJ0_coder_7d493 1 (some .byte) : Cond) ∈ lw_gt := gt_of (List.mem_of_getElem? (i := 568) rfl) (by rfl)
set_option maxRecDepth 100000 in
theorem gw_587 : (.methodLink RJ0 1059 yJ3_checkIndex_8e157 : Cond) ∈ lw_gt := gt_of (List.mem_of_getElem? (i := 587) (by decide +kernel)) (by rfl)
set_option maxRecDepth 100000 in
theorem gw_588 : (.static yJ3_checkIndex_8e157 : Cond) ∈ lw_gt := gt_of (List.mem_of_getElem? (i := 588) (by decide +kernel)) (by rfl)
set_option maxRecDepth 100000 in
theorem gw_121 : (.initialized RJ3 : Cond) ∈ lw_gt := gt_of (List.mem_of_getElem? (i := 121) (by decide +kernel)) (by rfl)
set_option maxRecDepth 100000 in
theorem gw_589 : (.code yJ3_checkIndex_8e157 cJ3_checkIndex_8e157 3 (some .int) : Cond) ∈ lw_gt := gt_of (List.mem_of_getElem? (i := 589) rfl) (by rfl)
set_option maxRecDepth 100000 in
theorem gw_582 : (.methodLink RJ1 9 yJ0_checkIndex_df160 : Cond) ∈ lw_gt := gt_of (List.mem_of_getElem? (i := 582) (by decide +kernel)) (by rfl)
set_option maxRecDepth 100000 in
theorem gw_583 : (.static yJ0_checkIndex_df160 : Cond) ∈ lw_gt := gt_of (List.mem_of_getElem? (i := 583) (by decide +kernel)) (by rfl)
set_option maxRecDepth 100000 in
theorem gw_584 : (.code yJ0_checkIndex_df160 cJ0_checkIndex_df160 2 none : Cond) ∈ lw_gt := gt_of (List.mem_of_getElem? (i := 584) rfl) (by rfl)
set_option maxRecDepth 100000 in
theorem gw_575 : (.methodLink RJ0 492 yJ0_isLatin1_aae02 : Cond) ∈ lw_gt := gt_of (List.mem_of_getElem? (i := 575) (by decide +kernel)) (by rfl)
set_option maxRecDepth 100000 in
theorem gw_576 : (.instanceMethod yJ0_isLatin1_aae02 : Cond) ∈ lw_gt := gt_of (List.mem_of_getElem? (i := 576) (by decide +kernel)) (by rfl)
set_option maxRecDepth 100000 in
theorem gw_577 : (.selects RJ0 yJ0_isLatin1_aae02 yJ0_isLatin1_aae02 : Cond) ∈ lw_gt := gt_of (List.mem_of_getElem? (i := 577) (by decide +kernel)) (by rfl)
set_option maxRecDepth 100000 in
theorem gw_578 : (.code yJ0_isLatin1_aae02 cJ0_isLatin1_aae02 1 (some .boolean) : Cond) ∈ lw_gt := gt_of (List.mem_of_getElem? (i := 578) rfl) (by rfl)
set_option maxRecDepth 100000 in
theorem gw_579 : (.methodLink RJ0 495 yJ1_charAt_3b067 : Cond) ∈ lw_gt := gt_of (List.mem_of_getElem? (i := 579) (by decide +kernel)) (by rfl)
set_option maxRecDepth 100000 in
theorem gw_580 : (.static yJ1_charAt_3b067 : Cond) ∈ lw_gt := gt_of (List.mem_of_getElem? (i := 580) (by decide +kernel)) (by rfl)
set_option maxRecDepth 100000 in
theorem gw_120 : (.initialized RJ1 : Cond) ∈ lw_gt := gt_of (List.mem_of_getElem? (i := 120) (by decide +kernel)) (by rfl)
set_option maxRecDepth 100000 in
theorem gw_581 : (.code yJ1_charAt_3b067 cJ1_charAt_3b067 2 (some .char) : Cond) ∈ lw_gt := gt_of (List.mem_of_getElem? (i := 581) rfl) (by rfl)
set_option maxRecDepth 100000 in
theorem gw_1332 : (.methodLink RX11 155 yJ0_length_8abf5 : Cond) ∈ lw_gt := gt_of (List.mem_of_getElem? (i := 1332) (by decide +kernel)) (by rfl)
set_option maxRecDepth 100000 in
theorem gw_562 : (.instanceMethod yJ0_length_8abf5 : Cond) ∈ lw_gt := gt_of (List.mem_of_getElem? (i := 562) (by decide +kernel)) (by rfl)
set_option maxRecDepth 100000 in
theorem gw_563 : (.selects RJ0 yJ0_length_8abf5 yJ0_length_8abf5 : Cond) ∈ lw_gt := gt_of (List.mem_of_getElem? (i := 563) (by decide +kernel)) (by rfl)
set_option maxRecDepth 100000 in
theorem gw_564 : (.code yJ0_length_8abf5 cJ0_length_8abf5 1 (some .int) : Cond) ∈ lw_gt := gt_of (List.mem_of_getElem? (i := 564) rfl) (by rfl)
set_option maxRecDepth 100000 in
theorem gw_1333 : (.methodLink RX11 160 yJ0_charAt_5068e : Cond) ∈ lw_gt := gt_of (List.mem_of_getElem? (i := 1333) (by decide +kernel)) (by rfl)
set_option maxRecDepth 100000 in
theorem gw_572 : (.instanceMethod yJ0_charAt_5068e : Cond) ∈ lw_gt := gt_of (List.mem_of_getElem? (i := 572) (by decide +kernel)) (by rfl)
set_option maxRecDepth 100000 in
theorem gw_573 : (.selects RJ0 yJ0_charAt_5068e yJ0_charAt_5068e : Cond) ∈ lw_gt := gt_of (List.mem_of_getElem? (i := 573) (by decide +kernel)) (by rfl)
set_option maxRecDepth 100000 in
theorem gw_574 : (.code yJ0_charAt_5068e cJ0_charAt_5068e 2 (some .char) : Cond) ∈ lw_gt := gt_of (List.mem_of_getElem? (i := 574) rfl) (by rfl)
set_option maxRecDepth 100000 in
theorem gw_1450 : (.constantLong RX11 257 (3) : Cond) ∈ lw_gt := gt_of (List.mem_of_getElem? (i := 1450) (by decide +kernel)) (by rfl)
set_option maxRecDepth 100000 in
theorem gw_1451 : (.constantLong RX11 259 (-1) : Cond) ∈ lw_gt := gt_of (List.mem_of_getElem? (i := 1451) (by decide +kernel)) (by rfl)
set_option maxRecDepth 100000 in
theorem gw_1446 : (.constantLong RX11 265 (1152921504606846976) : Cond) ∈ lw_gt := gt_of (List.mem_of_getElem? (i := 1446) (by decide +kernel)) (by rfl)
set_option maxRecDepth 100000 in
theorem gw_1098 : (.fieldLink RX11 121 "NothingJudgeModel" "thrown" "I" : Cond) ∈ lw_gt := gt_of (List.mem_of_getElem? (i := 1098) (by decide +kernel)) (by rfl)
set_option maxRecDepth 100000 in
theorem gw_1099 : (.fieldLink RX11 7 "NothingJudgeModel" "tape" "[I" : Cond) ∈ lw_gt := gt_of (List.mem_of_getElem? (i := 1099) (by decide +kernel)) (by rfl)
set_option maxRecDepth 100000 in
theorem gw_1100 : (.fieldLink RX11 124 "NothingJudgeModel" "taped" "I" : Cond) ∈ lw_gt := gt_of (List.mem_of_getElem? (i := 1100) (by decide +kernel)) (by rfl)
set_option maxRecDepth 100000 in
theorem gw_1101 : (.fieldLink RX11 130 "NothingJudgeModel" "size" "I" : Cond) ∈ lw_gt := gt_of (List.mem_of_getElem? (i := 1101) (by decide +kernel)) (by rfl)
set_option maxRecDepth 100000 in
theorem gw_1102 : (.fieldLink RX11 127 "NothingJudgeModel" "at" "I" : Cond) ∈ lw_gt := gt_of (List.mem_of_getElem? (i := 1102) (by decide +kernel)) (by rfl)
set_option maxRecDepth 100000 in
theorem gw_1103 : (.fieldLink RX11 137 "NothingJudgeModel" "place" "I" : Cond) ∈ lw_gt := gt_of (List.mem_of_getElem? (i := 1103) (by decide +kernel)) (by rfl)
set_option maxRecDepth 100000 in
theorem gw_1104 : (.fieldLink RX11 140 "NothingJudgeModel" "sort" "I" : Cond) ∈ lw_gt := gt_of (List.mem_of_getElem? (i := 1104) (by decide +kernel)) (by rfl)
set_option maxRecDepth 100000 in
theorem gw_1105 : (.fieldLink RX11 150 "NothingJudgeModel" "value" "I" : Cond) ∈ lw_gt := gt_of (List.mem_of_getElem? (i := 1105) (by decide +kernel)) (by rfl)
set_option maxRecDepth 100000 in
theorem gw_1106 : (.fieldLink RX11 164 "NothingJudgeModel" "fault" "I" : Cond) ∈ lw_gt := gt_of (List.mem_of_getElem? (i := 1106) (by decide +kernel)) (by rfl)
set_option maxRecDepth 100000 in
theorem gw_1107 : (.fieldLink RX11 167 "NothingJudgeModel" "faultPlace" "I" : Cond) ∈ lw_gt := gt_of (List.mem_of_getElem? (i := 1107) (by decide +kernel)) (by rfl)
set_option maxRecDepth 100000 in
theorem gw_1108 : (.fieldLink RX11 242 "NothingJudgeModel" "lastFault" "I" : Cond) ∈ lw_gt := gt_of (List.mem_of_getElem? (i := 1108) (by decide +kernel)) (by rfl)
set_option maxRecDepth 100000 in
theorem gw_1109 : (.fieldLink RX11 13 "NothingJudgeModel" "lastPlace" "I" : Cond) ∈ lw_gt := gt_of (List.mem_of_getElem? (i := 1109) (by decide +kernel)) (by rfl)
set_option maxRecDepth 100000 in
theorem gw_1110 : (.fieldLink RX11 17 "NothingJudgeModel" "act" "[I" : Cond) ∈ lw_gt := gt_of (List.mem_of_getElem? (i := 1110) (by decide +kernel)) (by rfl)
set_option maxRecDepth 100000 in
theorem gw_1111 : (.fieldLink RX11 20 "NothingJudgeModel" "one" "[I" : Cond) ∈ lw_gt := gt_of (List.mem_of_getElem? (i := 1111) (by decide +kernel)) (by rfl)
set_option maxRecDepth 100000 in
theorem gw_1112 : (.fieldLink RX11 23 "NothingJudgeModel" "two" "[I" : Cond) ∈ lw_gt := gt_of (List.mem_of_getElem? (i := 1112) (by decide +kernel)) (by rfl)
set_option maxRecDepth 100000 in
theorem gw_1113 : (.fieldLink RX11 26 "NothingJudgeModel" "three" "[I" : Cond) ∈ lw_gt := gt_of (List.mem_of_getElem? (i := 1113) (by decide +kernel)) (by rfl)
set_option maxRecDepth 100000 in
theorem gw_1114 : (.fieldLink RX11 29 "NothingJudgeModel" "argsOf" "[I" : Cond) ∈ lw_gt := gt_of (List.mem_of_getElem? (i := 1114) (by decide +kernel)) (by rfl)
set_option maxRecDepth 100000 in
theorem gw_1115 : (.fieldLink RX11 183 "NothingJudgeModel" "acts" "I" : Cond) ∈ lw_gt := gt_of (List.mem_of_getElem? (i := 1115) (by decide +kernel)) (by rfl)
set_option maxRecDepth 100000 in
theorem gw_1116 : (.fieldLink RX11 251 "NothingJudgeModel" "actMany" "I" : Cond) ∈ lw_gt := gt_of (List.mem_of_getElem? (i := 1116) (by decide +kernel)) (by rfl)
set_option maxRecDepth 100000 in
theorem gw_1117 : (.fieldLink RX11 32 "NothingJudgeModel" "routineFrom" "[I" : Cond) ∈ lw_gt := gt_of (List.mem_of_getElem? (i := 1117) (by decide +kernel)) (by rfl)
set_option maxRecDepth 100000 in
theorem gw_1118 : (.fieldLink RX11 35 "NothingJudgeModel" "params" "[I" : Cond) ∈ lw_gt := gt_of (List.mem_of_getElem? (i := 1118) (by decide +kernel)) (by rfl)
set_option maxRecDepth 100000 in
theorem gw_1119 : (.fieldLink RX11 38 "NothingJudgeModel" "paramNames" "[I" : Cond) ∈ lw_gt := gt_of (List.mem_of_getElem? (i := 1119) (by decide +kernel)) (by rfl)
set_option maxRecDepth 100000 in
theorem gw_1120 : (.fieldLink RX11 41 "NothingJudgeModel" "firstRoutine" "[I" : Cond) ∈ lw_gt := gt_of (List.mem_of_getElem? (i := 1120) (by decide +kernel)) (by rfl)
set_option maxRecDepth 100000 in
theorem gw_1121 : (.fieldLink RX11 44 "NothingJudgeModel" "useRoutine" "[I" : Cond) ∈ lw_gt := gt_of (List.mem_of_getElem? (i := 1121) (by decide +kernel)) (by rfl)
set_option maxRecDepth 100000 in
theorem gw_1122 : (.fieldLink RX11 47 "NothingJudgeModel" "usePlace" "[I" : Cond) ∈ lw_gt := gt_of (List.mem_of_getElem? (i := 1122) (by decide +kernel)) (by rfl)
set_option maxRecDepth 100000 in
theorem gw_1123 : (.fieldLink RX11 50 "NothingJudgeModel" "useName" "[I" : Cond) ∈ lw_gt := gt_of (List.mem_of_getElem? (i := 1123) (by decide +kernel)) (by rfl)
set_option maxRecDepth 100000 in
theorem gw_1124 : (.fieldLink RX11 53 "NothingJudgeModel" "useMany" "[I" : Cond) ∈ lw_gt := gt_of (List.mem_of_getElem? (i := 1124) (by decide +kernel)) (by rfl)
set_option maxRecDepth 100000 in
theorem gw_1125 : (.fieldLink RX11 56 "NothingJudgeModel" "testRoutine" "[I" : Cond) ∈ lw_gt := gt_of (List.mem_of_getElem? (i := 1125) (by decide +kernel)) (by rfl)
set_option maxRecDepth 100000 in
theorem gw_1126 : (.fieldLink RX11 59 "NothingJudgeModel" "testPlace" "[I" : Cond) ∈ lw_gt := gt_of (List.mem_of_getElem? (i := 1126) (by decide +kernel)) (by rfl)
set_option maxRecDepth 100000 in
theorem gw_1127 : (.fieldLink RX11 62 "NothingJudgeModel" "testMany" "[I" : Cond) ∈ lw_gt := gt_of (List.mem_of_getElem? (i := 1127) (by decide +kernel)) (by rfl)
set_option maxRecDepth 100000 in
theorem gw_1128 : (.fieldLink RX11 65 "NothingJudgeModel" "callPlace" "[I" : Cond) ∈ lw_gt := gt_of (List.mem_of_getElem? (i := 1128) (by decide +kernel)) (by rfl)
set_option maxRecDepth 100000 in
theorem gw_1129 : (.fieldLink RX11 68 "NothingJudgeModel" "callLetter" "[I" : Cond) ∈ lw_gt := gt_of (List.mem_of_getElem? (i := 1129) (by decide +kernel)) (by rfl)
set_option maxRecDepth 100000 in
theorem gw_1130 : (.fieldLink RX11 71 "NothingJudgeModel" "callArgs" "[I" : Cond) ∈ lw_gt := gt_of (List.mem_of_getElem? (i := 1130) (by decide +kernel)) (by rfl)
set_option maxRecDepth 100000 in
theorem gw_1131 : (.fieldLink RX11 186 "NothingJudgeModel" "calls" "I" : Cond) ∈ lw_gt := gt_of (List.mem_of_getElem? (i := 1131) (by decide +kernel)) (by rfl)
set_option maxRecDepth 100000 in
theorem gw_1132 : (.fieldLink RX11 209 "NothingJudgeModel" "routine" "I" : Cond) ∈ lw_gt := gt_of (List.mem_of_getElem? (i := 1132) (by decide +kernel)) (by rfl)
set_option maxRecDepth 100000 in
theorem gw_1133 : (.fieldLink RX11 74 "NothingJudgeModel" "blockKind" "[I" : Cond) ∈ lw_gt := gt_of (List.mem_of_getElem? (i := 1133) (by decide +kernel)) (by rfl)
set_option maxRecDepth 100000 in
theorem gw_1134 : (.fieldLink RX11 77 "NothingJudgeModel" "blockWaits" "[I" : Cond) ∈ lw_gt := gt_of (List.mem_of_getElem? (i := 1134) (by decide +kernel)) (by rfl)
set_option maxRecDepth 100000 in
theorem gw_1135 : (.fieldLink RX11 80 "NothingJudgeModel" "blockTest" "[I" : Cond) ∈ lw_gt := gt_of (List.mem_of_getElem? (i := 1135) (by decide +kernel)) (by rfl)
set_option maxRecDepth 100000 in
theorem gw_1136 : (.fieldLink RX11 189 "NothingJudgeModel" "blocks" "I" : Cond) ∈ lw_gt := gt_of (List.mem_of_getElem? (i := 1136) (by decide +kernel)) (by rfl)
set_option maxRecDepth 100000 in
theorem gw_1137 : (.fieldLink RX11 83 "NothingJudgeModel" "entry" "I" : Cond) ∈ lw_gt := gt_of (List.mem_of_getElem? (i := 1137) (by decide +kernel)) (by rfl)
set_option maxRecDepth 100000 in
theorem gw_1138 : (.fieldLink RX11 86 "NothingJudgeModel" "outers" "[I" : Cond) ∈ lw_gt := gt_of (List.mem_of_getElem? (i := 1138) (by decide +kernel)) (by rfl)
set_option maxRecDepth 100000 in
theorem gw_1139 : (.fieldLink RX11 89 "NothingJudgeModel" "ahead" "[J" : Cond) ∈ lw_gt := gt_of (List.mem_of_getElem? (i := 1139) (by decide +kernel)) (by rfl)
set_option maxRecDepth 100000 in
theorem gw_1140 : (.fieldLink RX11 93 "NothingJudgeModel" "marks" "[I" : Cond) ∈ lw_gt := gt_of (List.mem_of_getElem? (i := 1140) (by decide +kernel)) (by rfl)
set_option maxRecDepth 100000 in
theorem gw_1141 : (.fieldLink RX11 96 "NothingJudgeModel" "isHeld" "[Z" : Cond) ∈ lw_gt := gt_of (List.mem_of_getElem? (i := 1141) (by decide +kernel)) (by rfl)
set_option maxRecDepth 100000 in
theorem gw_1142 : (.fieldLink RX11 100 "NothingJudgeModel" "tested" "[I" : Cond) ∈ lw_gt := gt_of (List.mem_of_getElem? (i := 1142) (by decide +kernel)) (by rfl)
set_option maxRecDepth 100000 in
theorem gw_1143 : (.fieldLink RX11 261 "NothingJudgeModel" "isMore" "Z" : Cond) ∈ lw_gt := gt_of (List.mem_of_getElem? (i := 1143) (by decide +kernel)) (by rfl)
set_option maxRecDepth 100000 in
theorem gw_1144 : (.fieldLink RX11 103 "NothingJudgeModel" "fields" "[I" : Cond) ∈ lw_gt := gt_of (List.mem_of_getElem? (i := 1144) (by decide +kernel)) (by rfl)
set_option maxRecDepth 100000 in
theorem gw_1145 : (.fieldLink RX11 311 "NothingJudgeModel" "things" "I" : Cond) ∈ lw_gt := gt_of (List.mem_of_getElem? (i := 1145) (by decide +kernel)) (by rfl)
set_option maxRecDepth 100000 in
theorem gw_1146 : (.fieldLink RX11 106 "NothingJudgeModel" "names" "[I" : Cond) ∈ lw_gt := gt_of (List.mem_of_getElem? (i := 1146) (by decide +kernel)) (by rfl)
set_option maxRecDepth 100000 in
theorem gw_1147 : (.fieldLink RX11 109 "NothingJudgeModel" "backTo" "[I" : Cond) ∈ lw_gt := gt_of (List.mem_of_getElem? (i := 1147) (by decide +kernel)) (by rfl)
set_option maxRecDepth 100000 in
theorem gw_1148 : (.fieldLink RX11 320 "NothingJudgeModel" "frames" "I" : Cond) ∈ lw_gt := gt_of (List.mem_of_getElem? (i := 1148) (by decide +kernel)) (by rfl)
set_option maxRecDepth 100000 in
theorem gw_1149 : (.fieldLink RX11 329 "NothingJudgeModel" "acc" "I" : Cond) ∈ lw_gt := gt_of (List.mem_of_getElem? (i := 1149) (by decide +kernel)) (by rfl)
set_option maxRecDepth 100000 in
theorem gw_1150 : (.fieldLink RX11 323 "NothingJudgeModel" "steps" "I" : Cond) ∈ lw_gt := gt_of (List.mem_of_getElem? (i := 1150) (by decide +kernel)) (by rfl)
set_option maxRecDepth 100000 in
theorem gw_1151 : (.fieldLink RX11 317 "NothingJudgeModel" "anys" "I" : Cond) ∈ lw_gt := gt_of (List.mem_of_getElem? (i := 1151) (by decide +kernel)) (by rfl)
set_option maxRecDepth 100000 in
theorem gw_1152 : (.fieldLink RX11 326 "NothingJudgeModel" "failed" "I" : Cond) ∈ lw_gt := gt_of (List.mem_of_getElem? (i := 1152) (by decide +kernel)) (by rfl)
set_option maxRecDepth 100000 in
theorem gw_1153 : (.fieldLink RX11 314 "NothingJudgeModel" "outcome" "I" : Cond) ∈ lw_gt := gt_of (List.mem_of_getElem? (i := 1153) (by decide +kernel)) (by rfl)
set_option maxRecDepth 100000 in
theorem gw_1154 : (.fieldLink RX11 363 "NothingJudgeModel" "hasRun" "Z" : Cond) ∈ lw_gt := gt_of (List.mem_of_getElem? (i := 1154) (by decide +kernel)) (by rfl)
set_option maxRecDepth 100000 in
theorem gw_1155 : (.fieldLink RX11 366 "NothingJudgeModel" "ranSteps" "I" : Cond) ∈ lw_gt := gt_of (List.mem_of_getElem? (i := 1155) (by decide +kernel)) (by rfl)
set_option maxRecDepth 100000 in
theorem gw_1156 : (.fieldLink RX11 369 "NothingJudgeModel" "ranUse" "I" : Cond) ∈ lw_gt := gt_of (List.mem_of_getElem? (i := 1156) (by decide +kernel)) (by rfl)
set_option maxRecDepth 100000 in
theorem gw_1157 : (.fieldLink RX11 372 "NothingJudgeModel" "ranThings" "I" : Cond) ∈ lw_gt := gt_of (List.mem_of_getElem? (i := 1157) (by decide +kernel)) (by rfl)
set_option maxRecDepth 100000 in
theorem gw_1158 : (.fieldLink RX11 375 "NothingJudgeModel" "ranAnys" "I" : Cond) ∈ lw_gt := gt_of (List.mem_of_getElem? (i := 1158) (by decide +kernel)) (by rfl)
set_option maxRecDepth 100000 in
theorem gw_1159 : (.fieldLink RX11 112 "NothingJudgeModel" "prices" "[I" : Cond) ∈ lw_gt := gt_of (List.mem_of_getElem? (i := 1159) (by decide +kernel)) (by rfl)
set_option maxRecDepth 100000 in
theorem gw_1160 : (.fieldLink RX11 115 "NothingJudgeModel" "candidates" "[I" : Cond) ∈ lw_gt := gt_of (List.mem_of_getElem? (i := 1160) (by decide +kernel)) (by rfl)
set_option maxRecDepth 100000 in
theorem gw_1161 : (.fieldLink RX11 378 "NothingJudgeModel" "candidateMany" "I" : Cond) ∈ lw_gt := gt_of (List.mem_of_getElem? (i := 1161) (by decide +kernel)) (by rfl)
set_option maxRecDepth 100000 in
theorem gw_1162 : (.fieldLink RX11 390 "NothingJudgeModel" "mendHeld" "I" : Cond) ∈ lw_gt := gt_of (List.mem_of_getElem? (i := 1162) (by decide +kernel)) (by rfl)
set_option maxRecDepth 100000 in
theorem gw_1163 : (.fieldLink RX11 387 "NothingJudgeModel" "mendGuards" "I" : Cond) ∈ lw_gt := gt_of (List.mem_of_getElem? (i := 1163) (by decide +kernel)) (by rfl)
set_option maxRecDepth 100000 in
theorem gw_1164 : (.fieldLink RX11 118 "NothingJudgeModel" "mendMarks" "[I" : Cond) ∈ lw_gt := gt_of (List.mem_of_getElem? (i := 1164) (by decide +kernel)) (by rfl)
set_option maxRecDepth 100000 in
theorem gw_1165 : (.fieldLink RX11 393 "NothingJudgeModel" "hasMend" "Z" : Cond) ∈ lw_gt := gt_of (List.mem_of_getElem? (i := 1165) (by decide +kernel)) (by rfl)
set_option maxRecDepth 100000 in
theorem gw_1320 : (.methodLink RX11 133 yX11_here : Cond) ∈ lw_gt := gt_of (List.mem_of_getElem? (i := 1320) (by decide +kernel)) (by rfl)
set_option maxRecDepth 100000 in
theorem gw_1322 : (.instanceMethod yX11_here : Cond) ∈ lw_gt := gt_of (List.mem_of_getElem? (i := 1322) (by decide +kernel)) (by rfl)
set_option maxRecDepth 100000 in
theorem gw_63 : (.selects RX11 yX11_here yX11_here : Cond) ∈ lw_gt := gt_of (List.mem_of_getElem? (i := 63) (by decide +kernel)) (by rfl)
set_option maxRecDepth 100000 in
theorem gw_117 : (.initialized RX11 : Cond) ∈ lw_gt := gt_of (List.mem_of_getElem? (i := 117) (by decide +kernel)) (by rfl)
set_option maxRecDepth 100000 in
theorem gw_1323 : (.code yX11_here cX11_here 1 (some .int) : Cond) ∈ lw_gt := gt_of (List.mem_of_getElem? (i := 1323) rfl) (by rfl)
set_option maxRecDepth 100000 in
theorem gw_1324 : (.methodLink RX11 143 yX11_isSmall : Cond) ∈ lw_gt := gt_of (List.mem_of_getElem? (i := 1324) (by decide +kernel)) (by rfl)
set_option maxRecDepth 100000 in
theorem gw_1325 : (.static yX11_isSmall : Cond) ∈ lw_gt := gt_of (List.mem_of_getElem? (i := 1325) (by decide +kernel)) (by rfl)
set_option maxRecDepth 100000 in
theorem gw_1326 : (.code yX11_isSmall cX11_isSmall 1 (some .boolean) : Cond) ∈ lw_gt := gt_of (List.mem_of_getElem? (i := 1326) rfl) (by rfl)
set_option maxRecDepth 100000 in
theorem gw_1327 : (.methodLink RX11 147 yX11_wordOf : Cond) ∈ lw_gt := gt_of (List.mem_of_getElem? (i := 1327) (by decide +kernel)) (by rfl)
set_option maxRecDepth 100000 in
theorem gw_1329 : (.instanceMethod yX11_wordOf : Cond) ∈ lw_gt := gt_of (List.mem_of_getElem? (i := 1329) (by decide +kernel)) (by rfl)
set_option maxRecDepth 100000 in
theorem gw_64 : (.selects RX11 yX11_wordOf yX11_wordOf : Cond) ∈ lw_gt := gt_of (List.mem_of_getElem? (i := 64) (by decide +kernel)) (by rfl)
set_option maxRecDepth 100000 in
theorem gw_1330 : (.code yX11_wordOf cX11_wordOf 4 (some .int) : Cond) ∈ lw_gt := gt_of (List.mem_of_getElem? (i := 1330) rfl) (by rfl)
set_option maxRecDepth 100000 in
theorem gw_1316 : (.methodLink RX11 173 yX11_next : Cond) ∈ lw_gt := gt_of (List.mem_of_getElem? (i := 1316) (by decide +kernel)) (by rfl)
set_option maxRecDepth 100000 in
theorem gw_1318 : (.instanceMethod yX11_next : Cond) ∈ lw_gt := gt_of (List.mem_of_getElem? (i := 1318) (by decide +kernel)) (by rfl)
set_option maxRecDepth 100000 in
theorem gw_62 : (.selects RX11 yX11_next yX11_next : Cond) ∈ lw_gt := gt_of (List.mem_of_getElem? (i := 62) (by decide +kernel)) (by rfl)
set_option maxRecDepth 100000 in
theorem gw_1319 : (.code yX11_next cX11_next 3 none : Cond) ∈ lw_gt := gt_of (List.mem_of_getElem? (i := 1319) rfl) (by rfl)
set_option maxRecDepth 100000 in
theorem gw_1342 : (.methodLink RX11 179 yX11_wrong : Cond) ∈ lw_gt := gt_of (List.mem_of_getElem? (i := 1342) (by decide +kernel)) (by rfl)
set_option maxRecDepth 100000 in
theorem gw_1344 : (.instanceMethod yX11_wrong : Cond) ∈ lw_gt := gt_of (List.mem_of_getElem? (i := 1344) (by decide +kernel)) (by rfl)
set_option maxRecDepth 100000 in
theorem gw_67 : (.selects RX11 yX11_wrong yX11_wrong : Cond) ∈ lw_gt := gt_of (List.mem_of_getElem? (i := 67) (by decide +kernel)) (by rfl)
set_option maxRecDepth 100000 in
theorem gw_1345 : (.code yX11_wrong cX11_wrong 3 none : Cond) ∈ lw_gt := gt_of (List.mem_of_getElem? (i := 1345) rfl) (by rfl)
set_option maxRecDepth 100000 in
theorem gw_1354 : (.methodLink RX11 170 yX11_isSign : Cond) ∈ lw_gt := gt_of (List.mem_of_getElem? (i := 1354) (by decide +kernel)) (by rfl)
set_option maxRecDepth 100000 in
theorem gw_1356 : (.instanceMethod yX11_isSign : Cond) ∈ lw_gt := gt_of (List.mem_of_getElem? (i := 1356) (by decide +kernel)) (by rfl)
set_option maxRecDepth 100000 in
theorem gw_70 : (.selects RX11 yX11_isSign yX11_isSign : Cond) ∈ lw_gt := gt_of (List.mem_of_getElem? (i := 70) (by decide +kernel)) (by rfl)
set_option maxRecDepth 100000 in
theorem gw_1357 : (.code yX11_isSign cX11_isSign 2 (some .boolean) : Cond) ∈ lw_gt := gt_of (List.mem_of_getElem? (i := 1357) rfl) (by rfl)
set_option maxRecDepth 100000 in
theorem gw_1370 : (.methodLink RX11 220 yX11_isWord : Cond) ∈ lw_gt := gt_of (List.mem_of_getElem? (i := 1370) (by decide +kernel)) (by rfl)
set_option maxRecDepth 100000 in
theorem gw_1372 : (.instanceMethod yX11_isWord : Cond) ∈ lw_gt := gt_of (List.mem_of_getElem? (i := 1372) (by decide +kernel)) (by rfl)
set_option maxRecDepth 100000 in
theorem gw_74 : (.selects RX11 yX11_isWord yX11_isWord : Cond) ∈ lw_gt := gt_of (List.mem_of_getElem? (i := 74) (by decide +kernel)) (by rfl)
set_option maxRecDepth 100000 in
theorem gw_1373 : (.code yX11_isWord cX11_isWord 2 (some .boolean) : Cond) ∈ lw_gt := gt_of (List.mem_of_getElem? (i := 1373) rfl) (by rfl)
set_option maxRecDepth 100000 in
theorem gw_1350 : (.methodLink RX11 176 yX11_takesSign : Cond) ∈ lw_gt := gt_of (List.mem_of_getElem? (i := 1350) (by decide +kernel)) (by rfl)
set_option maxRecDepth 100000 in
theorem gw_1352 : (.instanceMethod yX11_takesSign : Cond) ∈ lw_gt := gt_of (List.mem_of_getElem? (i := 1352) (by decide +kernel)) (by rfl)
set_option maxRecDepth 100000 in
theorem gw_69 : (.selects RX11 yX11_takesSign yX11_takesSign : Cond) ∈ lw_gt := gt_of (List.mem_of_getElem? (i := 69) (by decide +kernel)) (by rfl)
set_option maxRecDepth 100000 in
theorem gw_1353 : (.code yX11_takesSign cX11_takesSign 2 (some .boolean) : Cond) ∈ lw_gt := gt_of (List.mem_of_getElem? (i := 1353) rfl) (by rfl)
set_option maxRecDepth 100000 in
theorem gw_1346 : (.methodLink RX11 201 yX11_wants : Cond) ∈ lw_gt := gt_of (List.mem_of_getElem? (i := 1346) (by decide +kernel)) (by rfl)
set_option maxRecDepth 100000 in
theorem gw_1348 : (.instanceMethod yX11_wants : Cond) ∈ lw_gt := gt_of (List.mem_of_getElem? (i := 1348) (by decide +kernel)) (by rfl)
set_option maxRecDepth 100000 in
theorem gw_68 : (.selects RX11 yX11_wants yX11_wants : Cond) ∈ lw_gt := gt_of (List.mem_of_getElem? (i := 68) (by decide +kernel)) (by rfl)
set_option maxRecDepth 100000 in
theorem gw_1349 : (.code yX11_wants cX11_wants 2 none : Cond) ∈ lw_gt := gt_of (List.mem_of_getElem? (i := 1349) rfl) (by rfl)
set_option maxRecDepth 100000 in
theorem gw_1338 : (.methodLink RX11 205 yX11_taken : Cond) ∈ lw_gt := gt_of (List.mem_of_getElem? (i := 1338) (by decide +kernel)) (by rfl)
set_option maxRecDepth 100000 in
theorem gw_1340 : (.instanceMethod yX11_taken : Cond) ∈ lw_gt := gt_of (List.mem_of_getElem? (i := 1340) (by decide +kernel)) (by rfl)
set_option maxRecDepth 100000 in
theorem gw_66 : (.selects RX11 yX11_taken yX11_taken : Cond) ∈ lw_gt := gt_of (List.mem_of_getElem? (i := 66) (by decide +kernel)) (by rfl)
set_option maxRecDepth 100000 in
theorem gw_1341 : (.code yX11_taken cX11_taken 3 (some .int) : Cond) ∈ lw_gt := gt_of (List.mem_of_getElem? (i := 1341) rfl) (by rfl)
set_option maxRecDepth 100000 in
theorem gw_1366 : (.methodLink RX11 216 yX11_emit : Cond) ∈ lw_gt := gt_of (List.mem_of_getElem? (i := 1366) (by decide +kernel)) (by rfl)
set_option maxRecDepth 100000 in
theorem gw_1368 : (.instanceMethod yX11_emit : Cond) ∈ lw_gt := gt_of (List.mem_of_getElem? (i := 1368) (by decide +kernel)) (by rfl)
set_option maxRecDepth 100000 in
theorem gw_73 : (.selects RX11 yX11_emit yX11_emit : Cond) ∈ lw_gt := gt_of (List.mem_of_getElem? (i := 73) (by decide +kernel)) (by rfl)
set_option maxRecDepth 100000 in
theorem gw_1369 : (.code yX11_emit cX11_emit 6 (some .int) : Cond) ∈ lw_gt := gt_of (List.mem_of_getElem? (i := 1369) rfl) (by rfl)
set_option maxRecDepth 100000 in
theorem gw_1358 : (.methodLink RX11 212 yX11_opens : Cond) ∈ lw_gt := gt_of (List.mem_of_getElem? (i := 1358) (by decide +kernel)) (by rfl)
set_option maxRecDepth 100000 in
theorem gw_1360 : (.instanceMethod yX11_opens : Cond) ∈ lw_gt := gt_of (List.mem_of_getElem? (i := 1360) (by decide +kernel)) (by rfl)
set_option maxRecDepth 100000 in
theorem gw_71 : (.selects RX11 yX11_opens yX11_opens : Cond) ∈ lw_gt := gt_of (List.mem_of_getElem? (i := 71) (by decide +kernel)) (by rfl)
set_option maxRecDepth 100000 in
theorem gw_1361 : (.code yX11_opens cX11_opens 4 none : Cond) ∈ lw_gt := gt_of (List.mem_of_getElem? (i := 1361) rfl) (by rfl)
set_option maxRecDepth 100000 in
theorem gw_1334 : (.methodLink RX11 192 yX11_head : Cond) ∈ lw_gt := gt_of (List.mem_of_getElem? (i := 1334) (by decide +kernel)) (by rfl)
set_option maxRecDepth 100000 in
theorem gw_1336 : (.instanceMethod yX11_head : Cond) ∈ lw_gt := gt_of (List.mem_of_getElem? (i := 1336) (by decide +kernel)) (by rfl)
set_option maxRecDepth 100000 in
theorem gw_65 : (.selects RX11 yX11_head yX11_head : Cond) ∈ lw_gt := gt_of (List.mem_of_getElem? (i := 65) (by decide +kernel)) (by rfl)
set_option maxRecDepth 100000 in
theorem gw_1337 : (.code yX11_head cX11_head 7 none : Cond) ∈ lw_gt := gt_of (List.mem_of_getElem? (i := 1337) rfl) (by rfl)
set_option maxRecDepth 100000 in
theorem gw_1362 : (.methodLink RX11 195 yX11_closes : Cond) ∈ lw_gt := gt_of (List.mem_of_getElem? (i := 1362) (by decide +kernel)) (by rfl)
set_option maxRecDepth 100000 in
theorem gw_1364 : (.instanceMethod yX11_closes : Cond) ∈ lw_gt := gt_of (List.mem_of_getElem? (i := 1364) (by decide +kernel)) (by rfl)
set_option maxRecDepth 100000 in
theorem gw_72 : (.selects RX11 yX11_closes yX11_closes : Cond) ∈ lw_gt := gt_of (List.mem_of_getElem? (i := 72) (by decide +kernel)) (by rfl)
set_option maxRecDepth 100000 in
theorem gw_1365 : (.code yX11_closes cX11_closes 4 none : Cond) ∈ lw_gt := gt_of (List.mem_of_getElem? (i := 1365) rfl) (by rfl)
set_option maxRecDepth 100000 in
theorem gw_1378 : (.methodLink RX11 223 yX11_newUse : Cond) ∈ lw_gt := gt_of (List.mem_of_getElem? (i := 1378) (by decide +kernel)) (by rfl)
set_option maxRecDepth 100000 in
theorem gw_1380 : (.instanceMethod yX11_newUse : Cond) ∈ lw_gt := gt_of (List.mem_of_getElem? (i := 1380) (by decide +kernel)) (by rfl)
set_option maxRecDepth 100000 in
theorem gw_76 : (.selects RX11 yX11_newUse yX11_newUse : Cond) ∈ lw_gt := gt_of (List.mem_of_getElem? (i := 76) (by decide +kernel)) (by rfl)
set_option maxRecDepth 100000 in
theorem gw_1381 : (.code yX11_newUse cX11_newUse 4 (some .int) : Cond) ∈ lw_gt := gt_of (List.mem_of_getElem? (i := 1381) rfl) (by rfl)
set_option maxRecDepth 100000 in
theorem gw_1382 : (.methodLink RX11 227 yX11_field : Cond) ∈ lw_gt := gt_of (List.mem_of_getElem? (i := 1382) (by decide +kernel)) (by rfl)
set_option maxRecDepth 100000 in
theorem gw_1384 : (.instanceMethod yX11_field : Cond) ∈ lw_gt := gt_of (List.mem_of_getElem? (i := 1384) (by decide +kernel)) (by rfl)
set_option maxRecDepth 100000 in
theorem gw_77 : (.selects RX11 yX11_field yX11_field : Cond) ∈ lw_gt := gt_of (List.mem_of_getElem? (i := 77) (by decide +kernel)) (by rfl)
set_option maxRecDepth 100000 in
theorem gw_1385 : (.code yX11_field cX11_field 1 (some .int) : Cond) ∈ lw_gt := gt_of (List.mem_of_getElem? (i := 1385) rfl) (by rfl)
set_option maxRecDepth 100000 in
theorem gw_1390 : (.methodLink RX11 233 yX11_call : Cond) ∈ lw_gt := gt_of (List.mem_of_getElem? (i := 1390) (by decide +kernel)) (by rfl)
set_option maxRecDepth 100000 in
theorem gw_1392 : (.instanceMethod yX11_call : Cond) ∈ lw_gt := gt_of (List.mem_of_getElem? (i := 1392) (by decide +kernel)) (by rfl)
set_option maxRecDepth 100000 in
theorem gw_79 : (.selects RX11 yX11_call yX11_call : Cond) ∈ lw_gt := gt_of (List.mem_of_getElem? (i := 79) (by decide +kernel)) (by rfl)
set_option maxRecDepth 100000 in
theorem gw_1393 : (.code yX11_call cX11_call 6 none : Cond) ∈ lw_gt := gt_of (List.mem_of_getElem? (i := 1393) rfl) (by rfl)
set_option maxRecDepth 100000 in
theorem gw_1386 : (.methodLink RX11 230 yX11_worth : Cond) ∈ lw_gt := gt_of (List.mem_of_getElem? (i := 1386) (by decide +kernel)) (by rfl)
set_option maxRecDepth 100000 in
theorem gw_1388 : (.instanceMethod yX11_worth : Cond) ∈ lw_gt := gt_of (List.mem_of_getElem? (i := 1388) (by decide +kernel)) (by rfl)
set_option maxRecDepth 100000 in
theorem gw_78 : (.selects RX11 yX11_worth yX11_worth : Cond) ∈ lw_gt := gt_of (List.mem_of_getElem? (i := 78) (by decide +kernel)) (by rfl)
set_option maxRecDepth 100000 in
theorem gw_1389 : (.code yX11_worth cX11_worth 4 none : Cond) ∈ lw_gt := gt_of (List.mem_of_getElem? (i := 1389) rfl) (by rfl)
set_option maxRecDepth 100000 in
theorem gw_1394 : (.methodLink RX11 236 yX11_newTest : Cond) ∈ lw_gt := gt_of (List.mem_of_getElem? (i := 1394) (by decide +kernel)) (by rfl)
set_option maxRecDepth 100000 in
theorem gw_1396 : (.instanceMethod yX11_newTest : Cond) ∈ lw_gt := gt_of (List.mem_of_getElem? (i := 1396) (by decide +kernel)) (by rfl)
set_option maxRecDepth 100000 in
theorem gw_80 : (.selects RX11 yX11_newTest yX11_newTest : Cond) ∈ lw_gt := gt_of (List.mem_of_getElem? (i := 80) (by decide +kernel)) (by rfl)
set_option maxRecDepth 100000 in
theorem gw_1397 : (.code yX11_newTest cX11_newTest 6 (some .int) : Cond) ∈ lw_gt := gt_of (List.mem_of_getElem? (i := 1397) rfl) (by rfl)
set_option maxRecDepth 100000 in
theorem gw_1374 : (.methodLink RX11 198 yX11_statement : Cond) ∈ lw_gt := gt_of (List.mem_of_getElem? (i := 1374) (by decide +kernel)) (by rfl)
set_option maxRecDepth 100000 in
theorem gw_1376 : (.instanceMethod yX11_statement : Cond) ∈ lw_gt := gt_of (List.mem_of_getElem? (i := 1376) (by decide +kernel)) (by rfl)
set_option maxRecDepth 100000 in
theorem gw_75 : (.selects RX11 yX11_statement yX11_statement : Cond) ∈ lw_gt := gt_of (List.mem_of_getElem? (i := 75) (by decide +kernel)) (by rfl)
set_option maxRecDepth 100000 in
theorem gw_1377 : (.code yX11_statement cX11_statement 5 none : Cond) ∈ lw_gt := gt_of (List.mem_of_getElem? (i := 1377) rfl) (by rfl)
set_option maxRecDepth 100000 in
theorem gw_1312 : (.methodLink RX11 239 yX11_parses : Cond) ∈ lw_gt := gt_of (List.mem_of_getElem? (i := 1312) (by decide +kernel)) (by rfl)
set_option maxRecDepth 100000 in
theorem gw_1314 : (.instanceMethod yX11_parses : Cond) ∈ lw_gt := gt_of (List.mem_of_getElem? (i := 1314) (by decide +kernel)) (by rfl)
set_option maxRecDepth 100000 in
theorem gw_61 : (.selects RX11 yX11_parses yX11_parses : Cond) ∈ lw_gt := gt_of (List.mem_of_getElem? (i := 61) (by decide +kernel)) (by rfl)
set_option maxRecDepth 100000 in
theorem gw_1315 : (.code yX11_parses cX11_parses 3 none : Cond) ∈ lw_gt := gt_of (List.mem_of_getElem? (i := 1315) rfl) (by rfl)
set_option maxRecDepth 100000 in
theorem gw_1402 : (.methodLink RX11 254 yX11_enters : Cond) ∈ lw_gt := gt_of (List.mem_of_getElem? (i := 1402) (by decide +kernel)) (by rfl)
set_option maxRecDepth 100000 in
theorem gw_1404 : (.instanceMethod yX11_enters : Cond) ∈ lw_gt := gt_of (List.mem_of_getElem? (i := 1404) (by decide +kernel)) (by rfl)
set_option maxRecDepth 100000 in
theorem gw_82 : (.selects RX11 yX11_enters yX11_enters : Cond) ∈ lw_gt := gt_of (List.mem_of_getElem? (i := 82) (by decide +kernel)) (by rfl)
set_option maxRecDepth 100000 in
theorem gw_1405 : (.code yX11_enters cX11_enters 3 none : Cond) ∈ lw_gt := gt_of (List.mem_of_getElem? (i := 1405) rfl) (by rfl)
set_option maxRecDepth 100000 in
theorem gw_1398 : (.methodLink RX11 245 yX11_comes : Cond) ∈ lw_gt := gt_of (List.mem_of_getElem? (i := 1398) (by decide +kernel)) (by rfl)
set_option maxRecDepth 100000 in
theorem gw_1400 : (.instanceMethod yX11_comes : Cond) ∈ lw_gt := gt_of (List.mem_of_getElem? (i := 1400) (by decide +kernel)) (by rfl)
set_option maxRecDepth 100000 in
theorem gw_81 : (.selects RX11 yX11_comes yX11_comes : Cond) ∈ lw_gt := gt_of (List.mem_of_getElem? (i := 81) (by decide +kernel)) (by rfl)
set_option maxRecDepth 100000 in
theorem gw_1401 : (.code yX11_comes cX11_comes 2 none : Cond) ∈ lw_gt := gt_of (List.mem_of_getElem? (i := 1401) rfl) (by rfl)
set_option maxRecDepth 100000 in
theorem gw_1406 : (.methodLink RX11 248 yX11_routinesMany : Cond) ∈ lw_gt := gt_of (List.mem_of_getElem? (i := 1406) (by decide +kernel)) (by rfl)
set_option maxRecDepth 100000 in
theorem gw_1408 : (.instanceMethod yX11_routinesMany : Cond) ∈ lw_gt := gt_of (List.mem_of_getElem? (i := 1408) (by decide +kernel)) (by rfl)
set_option maxRecDepth 100000 in
theorem gw_83 : (.selects RX11 yX11_routinesMany yX11_routinesMany : Cond) ∈ lw_gt := gt_of (List.mem_of_getElem? (i := 83) (by decide +kernel)) (by rfl)
set_option maxRecDepth 100000 in
theorem gw_1409 : (.code yX11_routinesMany cX11_routinesMany 3 (some .int) : Cond) ∈ lw_gt := gt_of (List.mem_of_getElem? (i := 1409) rfl) (by rfl)
set_option maxRecDepth 100000 in
theorem gw_1460 : (.methodLink RX11 287 yX11_factOf : Cond) ∈ lw_gt := gt_of (List.mem_of_getElem? (i := 1460) (by decide +kernel)) (by rfl)
set_option maxRecDepth 100000 in
theorem gw_1461 : (.static yX11_factOf : Cond) ∈ lw_gt := gt_of (List.mem_of_getElem? (i := 1461) (by decide +kernel)) (by rfl)
set_option maxRecDepth 100000 in
theorem gw_1462 : (.code yX11_factOf cX11_factOf 3 (some .int) : Cond) ∈ lw_gt := gt_of (List.mem_of_getElem? (i := 1462) rfl) (by rfl)
set_option maxRecDepth 100000 in
theorem gw_1447 : (.methodLink RX11 267 yX11_with : Cond) ∈ lw_gt := gt_of (List.mem_of_getElem? (i := 1447) (by decide +kernel)) (by rfl)
set_option maxRecDepth 100000 in
theorem gw_1448 : (.static yX11_with : Cond) ∈ lw_gt := gt_of (List.mem_of_getElem? (i := 1448) (by decide +kernel)) (by rfl)
set_option maxRecDepth 100000 in
theorem gw_1449 : (.code yX11_with cX11_with 4 (some .long) : Cond) ∈ lw_gt := gt_of (List.mem_of_getElem? (i := 1449) rfl) (by rfl)
set_option maxRecDepth 100000 in
theorem gw_1434 : (.methodLink RX11 275 yX11_puts : Cond) ∈ lw_gt := gt_of (List.mem_of_getElem? (i := 1434) (by decide +kernel)) (by rfl)
set_option maxRecDepth 100000 in
theorem gw_1436 : (.instanceMethod yX11_puts : Cond) ∈ lw_gt := gt_of (List.mem_of_getElem? (i := 1436) (by decide +kernel)) (by rfl)
set_option maxRecDepth 100000 in
theorem gw_86 : (.selects RX11 yX11_puts yX11_puts : Cond) ∈ lw_gt := gt_of (List.mem_of_getElem? (i := 86) (by decide +kernel)) (by rfl)
set_option maxRecDepth 100000 in
theorem gw_1437 : (.code yX11_puts cX11_puts 4 none : Cond) ∈ lw_gt := gt_of (List.mem_of_getElem? (i := 1437) rfl) (by rfl)
set_option maxRecDepth 100000 in
theorem gw_1452 : (.methodLink RX11 271 yX11_flows : Cond) ∈ lw_gt := gt_of (List.mem_of_getElem? (i := 1452) (by decide +kernel)) (by rfl)
set_option maxRecDepth 100000 in
theorem gw_1454 : (.instanceMethod yX11_flows : Cond) ∈ lw_gt := gt_of (List.mem_of_getElem? (i := 1454) (by decide +kernel)) (by rfl)
set_option maxRecDepth 100000 in
theorem gw_89 : (.selects RX11 yX11_flows yX11_flows : Cond) ∈ lw_gt := gt_of (List.mem_of_getElem? (i := 89) (by decide +kernel)) (by rfl)
set_option maxRecDepth 100000 in
theorem gw_1455 : (.code yX11_flows cX11_flows 6 none : Cond) ∈ lw_gt := gt_of (List.mem_of_getElem? (i := 1455) rfl) (by rfl)
set_option maxRecDepth 100000 in
theorem gw_1442 : (.methodLink RX11 281 yX11_begins : Cond) ∈ lw_gt := gt_of (List.mem_of_getElem? (i := 1442) (by decide +kernel)) (by rfl)
set_option maxRecDepth 100000 in
theorem gw_1444 : (.instanceMethod yX11_begins : Cond) ∈ lw_gt := gt_of (List.mem_of_getElem? (i := 1444) (by decide +kernel)) (by rfl)
set_option maxRecDepth 100000 in
theorem gw_88 : (.selects RX11 yX11_begins yX11_begins : Cond) ∈ lw_gt := gt_of (List.mem_of_getElem? (i := 88) (by decide +kernel)) (by rfl)
set_option maxRecDepth 100000 in
theorem gw_1445 : (.code yX11_begins cX11_begins 6 none : Cond) ∈ lw_gt := gt_of (List.mem_of_getElem? (i := 1445) rfl) (by rfl)
set_option maxRecDepth 100000 in
theorem gw_1438 : (.methodLink RX11 278 yX11_putsThings : Cond) ∈ lw_gt := gt_of (List.mem_of_getElem? (i := 1438) (by decide +kernel)) (by rfl)
set_option maxRecDepth 100000 in
theorem gw_1440 : (.instanceMethod yX11_putsThings : Cond) ∈ lw_gt := gt_of (List.mem_of_getElem? (i := 1440) (by decide +kernel)) (by rfl)
set_option maxRecDepth 100000 in
theorem gw_87 : (.selects RX11 yX11_putsThings yX11_putsThings : Cond) ∈ lw_gt := gt_of (List.mem_of_getElem? (i := 87) (by decide +kernel)) (by rfl)
set_option maxRecDepth 100000 in
theorem gw_1441 : (.code yX11_putsThings cX11_putsThings 1 none : Cond) ∈ lw_gt := gt_of (List.mem_of_getElem? (i := 1441) rfl) (by rfl)
set_option maxRecDepth 100000 in
theorem gw_1463 : (.methodLink RX11 291 yX11_calls : Cond) ∈ lw_gt := gt_of (List.mem_of_getElem? (i := 1463) (by decide +kernel)) (by rfl)
set_option maxRecDepth 100000 in
theorem gw_1465 : (.instanceMethod yX11_calls : Cond) ∈ lw_gt := gt_of (List.mem_of_getElem? (i := 1465) (by decide +kernel)) (by rfl)
set_option maxRecDepth 100000 in
theorem gw_91 : (.selects RX11 yX11_calls yX11_calls : Cond) ∈ lw_gt := gt_of (List.mem_of_getElem? (i := 91) (by decide +kernel)) (by rfl)
set_option maxRecDepth 100000 in
theorem gw_1466 : (.code yX11_calls cX11_calls 6 none : Cond) ∈ lw_gt := gt_of (List.mem_of_getElem? (i := 1466) rfl) (by rfl)
set_option maxRecDepth 100000 in
theorem gw_1467 : (.methodLink RX11 293 yX11_routineAt : Cond) ∈ lw_gt := gt_of (List.mem_of_getElem? (i := 1467) (by decide +kernel)) (by rfl)
set_option maxRecDepth 100000 in
theorem gw_1469 : (.instanceMethod yX11_routineAt : Cond) ∈ lw_gt := gt_of (List.mem_of_getElem? (i := 1469) (by decide +kernel)) (by rfl)
set_option maxRecDepth 100000 in
theorem gw_92 : (.selects RX11 yX11_routineAt yX11_routineAt : Cond) ∈ lw_gt := gt_of (List.mem_of_getElem? (i := 92) (by decide +kernel)) (by rfl)
set_option maxRecDepth 100000 in
theorem gw_1470 : (.code yX11_routineAt cX11_routineAt 4 (some .int) : Cond) ∈ lw_gt := gt_of (List.mem_of_getElem? (i := 1470) rfl) (by rfl)
set_option maxRecDepth 100000 in
theorem gw_1471 : (.methodLink RX11 296 yX11_tests : Cond) ∈ lw_gt := gt_of (List.mem_of_getElem? (i := 1471) (by decide +kernel)) (by rfl)
set_option maxRecDepth 100000 in
theorem gw_1473 : (.instanceMethod yX11_tests : Cond) ∈ lw_gt := gt_of (List.mem_of_getElem? (i := 1473) (by decide +kernel)) (by rfl)
set_option maxRecDepth 100000 in
theorem gw_93 : (.selects RX11 yX11_tests yX11_tests : Cond) ∈ lw_gt := gt_of (List.mem_of_getElem? (i := 93) (by decide +kernel)) (by rfl)
set_option maxRecDepth 100000 in
theorem gw_1474 : (.code yX11_tests cX11_tests 7 none : Cond) ∈ lw_gt := gt_of (List.mem_of_getElem? (i := 1474) rfl) (by rfl)
set_option maxRecDepth 100000 in
theorem gw_1456 : (.methodLink RX11 284 yX11_goes : Cond) ∈ lw_gt := gt_of (List.mem_of_getElem? (i := 1456) (by decide +kernel)) (by rfl)
set_option maxRecDepth 100000 in
theorem gw_1458 : (.instanceMethod yX11_goes : Cond) ∈ lw_gt := gt_of (List.mem_of_getElem? (i := 1458) (by decide +kernel)) (by rfl)
set_option maxRecDepth 100000 in
theorem gw_90 : (.selects RX11 yX11_goes yX11_goes : Cond) ∈ lw_gt := gt_of (List.mem_of_getElem? (i := 90) (by decide +kernel)) (by rfl)
set_option maxRecDepth 100000 in
theorem gw_1459 : (.code yX11_goes cX11_goes 4 none : Cond) ∈ lw_gt := gt_of (List.mem_of_getElem? (i := 1459) rfl) (by rfl)
set_option maxRecDepth 100000 in
theorem gw_1430 : (.methodLink RX11 302 yX11_reckons : Cond) ∈ lw_gt := gt_of (List.mem_of_getElem? (i := 1430) (by decide +kernel)) (by rfl)
set_option maxRecDepth 100000 in
theorem gw_1432 : (.instanceMethod yX11_reckons : Cond) ∈ lw_gt := gt_of (List.mem_of_getElem? (i := 1432) (by decide +kernel)) (by rfl)
set_option maxRecDepth 100000 in
theorem gw_85 : (.selects RX11 yX11_reckons yX11_reckons : Cond) ∈ lw_gt := gt_of (List.mem_of_getElem? (i := 85) (by decide +kernel)) (by rfl)
set_option maxRecDepth 100000 in
theorem gw_1433 : (.code yX11_reckons cX11_reckons 2 none : Cond) ∈ lw_gt := gt_of (List.mem_of_getElem? (i := 1433) rfl) (by rfl)
set_option maxRecDepth 100000 in
theorem gw_1426 : (.methodLink RX11 299 yX11_frees : Cond) ∈ lw_gt := gt_of (List.mem_of_getElem? (i := 1426) (by decide +kernel)) (by rfl)
set_option maxRecDepth 100000 in
theorem gw_1428 : (.instanceMethod yX11_frees : Cond) ∈ lw_gt := gt_of (List.mem_of_getElem? (i := 1428) (by decide +kernel)) (by rfl)
set_option maxRecDepth 100000 in
theorem gw_84 : (.selects RX11 yX11_frees yX11_frees : Cond) ∈ lw_gt := gt_of (List.mem_of_getElem? (i := 84) (by decide +kernel)) (by rfl)
set_option maxRecDepth 100000 in
theorem gw_1429 : (.code yX11_frees cX11_frees 2 none : Cond) ∈ lw_gt := gt_of (List.mem_of_getElem? (i := 1429) rfl) (by rfl)
set_option maxRecDepth 100000 in
theorem gw_1479 : (.methodLink RX11 305 yX11_useFact : Cond) ∈ lw_gt := gt_of (List.mem_of_getElem? (i := 1479) (by decide +kernel)) (by rfl)
set_option maxRecDepth 100000 in
theorem gw_1481 : (.instanceMethod yX11_useFact : Cond) ∈ lw_gt := gt_of (List.mem_of_getElem? (i := 1481) (by decide +kernel)) (by rfl)
set_option maxRecDepth 100000 in
theorem gw_94 : (.selects RX11 yX11_useFact yX11_useFact : Cond) ∈ lw_gt := gt_of (List.mem_of_getElem? (i := 94) (by decide +kernel)) (by rfl)
set_option maxRecDepth 100000 in
theorem gw_1482 : (.code yX11_useFact cX11_useFact 3 (some .int) : Cond) ∈ lw_gt := gt_of (List.mem_of_getElem? (i := 1482) rfl) (by rfl)
set_option maxRecDepth 100000 in
theorem gw_1483 : (.methodLink RX11 308 yX11_stateOf : Cond) ∈ lw_gt := gt_of (List.mem_of_getElem? (i := 1483) (by decide +kernel)) (by rfl)
set_option maxRecDepth 100000 in
theorem gw_1484 : (.static yX11_stateOf : Cond) ∈ lw_gt := gt_of (List.mem_of_getElem? (i := 1484) (by decide +kernel)) (by rfl)
set_option maxRecDepth 100000 in
theorem gw_1485 : (.code yX11_stateOf cX11_stateOf 1 (some .int) : Cond) ∈ lw_gt := gt_of (List.mem_of_getElem? (i := 1485) rfl) (by rfl)
set_option maxRecDepth 100000 in
theorem gw_1506 : (.methodLink RX11 335 yX11_makes : Cond) ∈ lw_gt := gt_of (List.mem_of_getElem? (i := 1506) (by decide +kernel)) (by rfl)
set_option maxRecDepth 100000 in
theorem gw_1508 : (.instanceMethod yX11_makes : Cond) ∈ lw_gt := gt_of (List.mem_of_getElem? (i := 1508) (by decide +kernel)) (by rfl)
set_option maxRecDepth 100000 in
theorem gw_98 : (.selects RX11 yX11_makes yX11_makes : Cond) ∈ lw_gt := gt_of (List.mem_of_getElem? (i := 98) (by decide +kernel)) (by rfl)
set_option maxRecDepth 100000 in
theorem gw_1509 : (.code yX11_makes cX11_makes 3 (some .int) : Cond) ∈ lw_gt := gt_of (List.mem_of_getElem? (i := 1509) rfl) (by rfl)
set_option maxRecDepth 100000 in
theorem gw_1518 : (.methodLink RX11 344 yX11_chooses : Cond) ∈ lw_gt := gt_of (List.mem_of_getElem? (i := 1518) (by decide +kernel)) (by rfl)
set_option maxRecDepth 100000 in
theorem gw_1520 : (.instanceMethod yX11_chooses : Cond) ∈ lw_gt := gt_of (List.mem_of_getElem? (i := 1520) (by decide +kernel)) (by rfl)
set_option maxRecDepth 100000 in
theorem gw_101 : (.selects RX11 yX11_chooses yX11_chooses : Cond) ∈ lw_gt := gt_of (List.mem_of_getElem? (i := 101) (by decide +kernel)) (by rfl)
set_option maxRecDepth 100000 in
theorem gw_1521 : (.code yX11_chooses cX11_chooses 3 (some .boolean) : Cond) ∈ lw_gt := gt_of (List.mem_of_getElem? (i := 1521) rfl) (by rfl)
set_option maxRecDepth 100000 in
theorem gw_1502 : (.methodLink RX11 332 yX11_frame : Cond) ∈ lw_gt := gt_of (List.mem_of_getElem? (i := 1502) (by decide +kernel)) (by rfl)
set_option maxRecDepth 100000 in
theorem gw_1504 : (.instanceMethod yX11_frame : Cond) ∈ lw_gt := gt_of (List.mem_of_getElem? (i := 1504) (by decide +kernel)) (by rfl)
set_option maxRecDepth 100000 in
theorem gw_97 : (.selects RX11 yX11_frame yX11_frame : Cond) ∈ lw_gt := gt_of (List.mem_of_getElem? (i := 97) (by decide +kernel)) (by rfl)
set_option maxRecDepth 100000 in
theorem gw_1505 : (.code yX11_frame cX11_frame 3 none : Cond) ∈ lw_gt := gt_of (List.mem_of_getElem? (i := 1505) rfl) (by rfl)
set_option maxRecDepth 100000 in
theorem gw_1494 : (.methodLink RX11 356 yX11_canRun : Cond) ∈ lw_gt := gt_of (List.mem_of_getElem? (i := 1494) (by decide +kernel)) (by rfl)
set_option maxRecDepth 100000 in
theorem gw_1496 : (.instanceMethod yX11_canRun : Cond) ∈ lw_gt := gt_of (List.mem_of_getElem? (i := 1496) (by decide +kernel)) (by rfl)
set_option maxRecDepth 100000 in
theorem gw_95 : (.selects RX11 yX11_canRun yX11_canRun : Cond) ∈ lw_gt := gt_of (List.mem_of_getElem? (i := 95) (by decide +kernel)) (by rfl)
set_option maxRecDepth 100000 in
theorem gw_1497 : (.code yX11_canRun cX11_canRun 4 (some .boolean) : Cond) ∈ lw_gt := gt_of (List.mem_of_getElem? (i := 1497) rfl) (by rfl)
set_option maxRecDepth 100000 in
theorem gw_1514 : (.methodLink RX11 341 yX11_step : Cond) ∈ lw_gt := gt_of (List.mem_of_getElem? (i := 1514) (by decide +kernel)) (by rfl)
set_option maxRecDepth 100000 in
theorem gw_1516 : (.instanceMethod yX11_step : Cond) ∈ lw_gt := gt_of (List.mem_of_getElem? (i := 1516) (by decide +kernel)) (by rfl)
set_option maxRecDepth 100000 in
theorem gw_100 : (.selects RX11 yX11_step yX11_step : Cond) ∈ lw_gt := gt_of (List.mem_of_getElem? (i := 100) (by decide +kernel)) (by rfl)
set_option maxRecDepth 100000 in
theorem gw_1517 : (.code yX11_step cX11_step 1 none : Cond) ∈ lw_gt := gt_of (List.mem_of_getElem? (i := 1517) rfl) (by rfl)
set_option maxRecDepth 100000 in
theorem gw_1522 : (.methodLink RX11 347 yX11_nameOf : Cond) ∈ lw_gt := gt_of (List.mem_of_getElem? (i := 1522) (by decide +kernel)) (by rfl)
set_option maxRecDepth 100000 in
theorem gw_1524 : (.instanceMethod yX11_nameOf : Cond) ∈ lw_gt := gt_of (List.mem_of_getElem? (i := 1524) (by decide +kernel)) (by rfl)
set_option maxRecDepth 100000 in
theorem gw_102 : (.selects RX11 yX11_nameOf yX11_nameOf : Cond) ∈ lw_gt := gt_of (List.mem_of_getElem? (i := 102) (by decide +kernel)) (by rfl)
set_option maxRecDepth 100000 in
theorem gw_1525 : (.code yX11_nameOf cX11_nameOf 2 (some .int) : Cond) ∈ lw_gt := gt_of (List.mem_of_getElem? (i := 1525) rfl) (by rfl)
set_option maxRecDepth 100000 in
theorem gw_1526 : (.methodLink RX11 350 yX11_fails : Cond) ∈ lw_gt := gt_of (List.mem_of_getElem? (i := 1526) (by decide +kernel)) (by rfl)
set_option maxRecDepth 100000 in
theorem gw_1528 : (.instanceMethod yX11_fails : Cond) ∈ lw_gt := gt_of (List.mem_of_getElem? (i := 1528) (by decide +kernel)) (by rfl)
set_option maxRecDepth 100000 in
theorem gw_103 : (.selects RX11 yX11_fails yX11_fails : Cond) ∈ lw_gt := gt_of (List.mem_of_getElem? (i := 103) (by decide +kernel)) (by rfl)
set_option maxRecDepth 100000 in
theorem gw_1529 : (.code yX11_fails cX11_fails 2 none : Cond) ∈ lw_gt := gt_of (List.mem_of_getElem? (i := 1529) rfl) (by rfl)
set_option maxRecDepth 100000 in
theorem gw_1530 : (.methodLink RX11 353 yX11_enter : Cond) ∈ lw_gt := gt_of (List.mem_of_getElem? (i := 1530) (by decide +kernel)) (by rfl)
set_option maxRecDepth 100000 in
theorem gw_1532 : (.instanceMethod yX11_enter : Cond) ∈ lw_gt := gt_of (List.mem_of_getElem? (i := 1532) (by decide +kernel)) (by rfl)
set_option maxRecDepth 100000 in
theorem gw_104 : (.selects RX11 yX11_enter yX11_enter : Cond) ∈ lw_gt := gt_of (List.mem_of_getElem? (i := 104) (by decide +kernel)) (by rfl)
set_option maxRecDepth 100000 in
theorem gw_1533 : (.code yX11_enter cX11_enter 5 (some .int) : Cond) ∈ lw_gt := gt_of (List.mem_of_getElem? (i := 1533) rfl) (by rfl)
set_option maxRecDepth 100000 in
theorem gw_1510 : (.methodLink RX11 338 yX11_does : Cond) ∈ lw_gt := gt_of (List.mem_of_getElem? (i := 1510) (by decide +kernel)) (by rfl)
set_option maxRecDepth 100000 in
theorem gw_1512 : (.instanceMethod yX11_does : Cond) ∈ lw_gt := gt_of (List.mem_of_getElem? (i := 1512) (by decide +kernel)) (by rfl)
set_option maxRecDepth 100000 in
theorem gw_99 : (.selects RX11 yX11_does yX11_does : Cond) ∈ lw_gt := gt_of (List.mem_of_getElem? (i := 99) (by decide +kernel)) (by rfl)
set_option maxRecDepth 100000 in
theorem gw_1513 : (.code yX11_does cX11_does 4 (some .int) : Cond) ∈ lw_gt := gt_of (List.mem_of_getElem? (i := 1513) rfl) (by rfl)
set_option maxRecDepth 100000 in
theorem gw_1498 : (.methodLink RX11 360 yX11_runs : Cond) ∈ lw_gt := gt_of (List.mem_of_getElem? (i := 1498) (by decide +kernel)) (by rfl)
set_option maxRecDepth 100000 in
theorem gw_1500 : (.instanceMethod yX11_runs : Cond) ∈ lw_gt := gt_of (List.mem_of_getElem? (i := 1500) (by decide +kernel)) (by rfl)
set_option maxRecDepth 100000 in
theorem gw_96 : (.selects RX11 yX11_runs yX11_runs : Cond) ∈ lw_gt := gt_of (List.mem_of_getElem? (i := 96) (by decide +kernel)) (by rfl)
set_option maxRecDepth 100000 in
theorem gw_1501 : (.code yX11_runs cX11_runs 4 none : Cond) ∈ lw_gt := gt_of (List.mem_of_getElem? (i := 1501) rfl) (by rfl)
set_option maxRecDepth 100000 in
theorem gw_1553 : (.methodLink RX11 384 yX11_guards : Cond) ∈ lw_gt := gt_of (List.mem_of_getElem? (i := 1553) (by decide +kernel)) (by rfl)
set_option maxRecDepth 100000 in
theorem gw_1555 : (.instanceMethod yX11_guards : Cond) ∈ lw_gt := gt_of (List.mem_of_getElem? (i := 1555) (by decide +kernel)) (by rfl)
set_option maxRecDepth 100000 in
theorem gw_105 : (.selects RX11 yX11_guards yX11_guards : Cond) ∈ lw_gt := gt_of (List.mem_of_getElem? (i := 105) (by decide +kernel)) (by rfl)
set_option maxRecDepth 100000 in
theorem gw_1556 : (.code yX11_guards cX11_guards 3 (some .int) : Cond) ∈ lw_gt := gt_of (List.mem_of_getElem? (i := 1556) rfl) (by rfl)
set_option maxRecDepth 100000 in
theorem gw_1550 : (.methodLink RX11 381 yX11_kindOf : Cond) ∈ lw_gt := gt_of (List.mem_of_getElem? (i := 1550) (by decide +kernel)) (by rfl)
set_option maxRecDepth 100000 in
theorem gw_1551 : (.static yX11_kindOf : Cond) ∈ lw_gt := gt_of (List.mem_of_getElem? (i := 1551) (by decide +kernel)) (by rfl)
set_option maxRecDepth 100000 in
theorem gw_1552 : (.code yX11_kindOf cX11_kindOf 1 (some .int) : Cond) ∈ lw_gt := gt_of (List.mem_of_getElem? (i := 1552) rfl) (by rfl)
end
section
def Y9 (X : Cx) : Nat → Nat := X.1.2.2.2.1
def Y8 (X : Cx) : Nat → Nat := X.1.2.2.2.2
def chS (i k : Nat) : Int32 := (bytS.getD i []).getD k 0 &&& 255
section SimStr
variable {X : Cx} {cc : ByteArray} {own : String} {nL : Nat} {ret : Option FieldType} {fr lo : Nat} {sc : Sc} {ad : Nat → Nat} {ρ : Type} {out : ρ → Option Value} {pc : Nat} {lv : List (Nat × Value)} {st : List Value} {σ : St} {F : Option (ρ × St)}
theorem g_ldcS (C : Ok X cc own nL ret fr lo) {i idx : Nat} {tx : String} (hk : keyS[i]? = some (own, idx, tx)) (hdg : decode cc pc = .ok (.ldc idx, 2)) (k : Sim X sc ad nL out (pc + 2) lv (.ref (Y9 X i) :: st) σ F) : Sim X sc ad nL out pc lv st σ F := by
  obtain ⟨Y, p, e, R, s, m, args, below, meth, c, A⟩ := X
  obtain ⟨hx, hb, hml, hown, hts, hK, hA, hlk, hret, hR, hM⟩ := C
  intro r σ' hF H locs ls hP hD hS hl
  exact va_ldcS hx hb hown (hM.2.1 i _ hk) hdg (k r σ' hF H locs ls hP hD hS hl)

theorem g_sval (C : Ok X cc RJ0 nL ret fr lo) {i : Nat} (hi : i < 10) (hdg : decode cc pc = .ok (.getfield 9, 3)) (k : Sim X sc ad nL out (pc + 3) lv (.ref (Y8 X i) :: st) σ F) : Sim X sc ad nL out pc lv (.ref (Y9 X i) :: st) σ F := by
  obtain ⟨Y, p, e, R, s, m, args, below, meth, c, A⟩ := X
  obtain ⟨hx, hb, hml, hown, hts, hK, hA, hlk, hret, hR, hM⟩ := C
  intro r σ' hF H locs ls hP hD hS hl
  exact vk_getf hx hb (hM.1.1 i hi).2.2.1 hS hown (hts _ gw_1565) (fun _ h9 => h9) hdg (k r σ' hF H locs ls hP hD hS hl)

theorem g_scod (C : Ok X cc RJ0 nL ret fr lo) {i : Nat} (hi : i < 10) (hdg : decode cc pc = .ok (.getfield 15, 3)) (k : Sim X sc ad nL out (pc + 3) lv (.int 0 :: st) σ F) : Sim X sc ad nL out pc lv (.ref (Y9 X i) :: st) σ F := by
  obtain ⟨Y, p, e, R, s, m, args, below, meth, c, A⟩ := X
  obtain ⟨hx, hb, hml, hown, hts, hK, hA, hlk, hret, hR, hM⟩ := C
  intro r σ' hF H locs ls hP hD hS hl
  exact vk_getf hx hb (hM.1.1 i hi).2.1 hS hown (hts _ gw_1566) (fun _ h9 => h9) hdg (k r σ' hF H locs ls hP hD hS hl)

theorem g_scmp (C : Ok X cc RJ0 nL ret fr lo) (hdg : decode cc pc = .ok (.getstatic 38, 3)) (k : Sim X sc ad nL out (pc + 3) lv (.int 1 :: st) σ F) : Sim X sc ad nL out pc lv st σ F := by
  obtain ⟨Y, p, e, R, s, m, args, below, meth, c, A⟩ := X
  obtain ⟨hx, hb, hml, hown, hts, hK, hA, hlk, hret, hR, hM⟩ := C
  intro r σ' hF H locs ls hP hD hS hl
  exact va_gets hx hb hM.2.2.1 hS hown (hts _ gw_569) (fun _ h9 => h9) hdg (k r σ' hF H locs ls hP hD hS hl)

theorem g_sfmt (C : Ok X cc RJ0 nL ret fr lo) (hdg : decode cc pc = .ok (.getstatic 1053, 3)) (k : ∀ v : Value, v.isRef = true → Sim X sc ad nL out (pc + 3) lv (v :: st) σ F) : Sim X sc ad nL out pc lv st σ F := by
  obtain ⟨Y, p, e, R, s, m, args, below, meth, c, A⟩ := X
  obtain ⟨hx, hb, hml, hown, hts, hK, hA, hlk, hret, hR, hM⟩ := C
  intro r σ' hF H locs ls hP hD hS hl
  obtain ⟨v, h4, h5⟩ := hM.2.2.2
  exact va_gets hx hb h4 hS hown (hts _ gw_585) (fun _ h9 => h9) hdg (k v h5 r σ' hF H locs ls hP hD hS hl)

theorem g_stl (C : Ok X cc own nL ret fr lo) {i : Nat} (hi : i < 10) (hdg : decode cc pc = .ok (.arraylength, 1)) (k : Sim X sc ad nL out (pc + 1) lv (.int (Int32.ofNat (lenS.getD i 0)) :: st) σ F) : Sim X sc ad nL out pc lv (.ref (Y8 X i) :: st) σ F := by
  obtain ⟨Y, p, e, R, s, m, args, below, meth, c, A⟩ := X
  obtain ⟨hx, hb, hml, hown, hts, hK, hA, hlk, hret, hR, hM⟩ := C
  intro r σ' hF H locs ls hP hD hS hl
  exact va_tlen hx hb (hM.1.1 i hi).2.2.2 hS rfl hdg (k r σ' hF H locs ls hP hD hS hl)

theorem g_stb (C : Ok X cc own nL ret fr lo) {i : Nat} {j : Int32} (hi : i < 10) (hj : ib j (lenS.getD i 0) = true) (hdg : decode cc pc = .ok (.baload, 1)) (k : Sim X sc ad nL out (pc + 1) lv (.int ((bytS.getD i []).getD j.toNatClampNeg 0) :: st) σ F) : Sim X sc ad nL out pc lv (.int j :: .ref (Y8 X i) :: st) σ F := by
  obtain ⟨Y, p, e, R, s, m, args, below, meth, c, A⟩ := X
  obtain ⟨hx, hb, hml, hown, hts, hK, hA, hlk, hret, hR, hM⟩ := C
  intro r σ' hF H locs ls hP hD hS hl
  exact va_tb hx hb (hM.1.1 i hi).2.2.2 hS (ib_in hj) rfl hdg (k r σ' hF H locs ls hP hD hS hl)
theorem g_callT (C : Ok X cc own nL ret fr lo) {ρ1 : Type} {out1 : ρ1 → Option Value} {y : MethodName} {bytes : ByteArray} {maxL index fr1 lo1 : Nat} {ret1 : Option FieldType} {i n : Nat} {As rest : List Value} {F1 : Option (ρ1 × St)} {K : ρ1 → St → Option (ρ × St)} (hw : wV own index y bytes maxL ret1) (hc : callee y n = true) (hR : fr1 + 1 ≤ fr ∧ 8 + (maxL + 11) + lo1 ≤ lo) (hi : i < 10) (hq9 : y.cls = "java/lang/String") (hM1 : ∀ (r : ρ1) (σ' : St), F1 = some (r, σ') → Con X.1 sc ad y bytes maxL ret1 fr1 lo1 (.ref (Y9 X i) :: As) σ (out1 r) σ') (hn : As.length = n) (hst : st = As.reverse ++ .ref (Y9 X i) :: rest) (hcat : (rest.map fun v => v.category).sum ≤ 8) (hdg : decode cc pc = .ok (.invokevirtual index, 3))
    (k : ∀ (r : ρ1) (σ' : St), F1 = some (r, σ') → Sim X sc ad nL out (pc + 3) lv ((out1 r).toList ++ rest) σ' (K r σ')) : Sim X sc ad nL out pc lv st σ (bd F1 K) := by
  obtain ⟨Y, p, e, R, s, m, args, below, meth, c, A⟩ := X
  obtain ⟨hx, hb, hml, hown, hts, hK, hA, hlk, hret, hR9, hM⟩ := C
  intro r σ' hF H locs ls hP hD hS hl
  subst hR9
  obtain ⟨r1, σ1, h1, h2⟩ := bd_some hF
  have hrc : ∃ cell : Cell, H[Y.2.2.2.1 i]? = some cell ∧ cell.vm.isStatics = false ∧ s.vm.findClass y.cls = some cell.cls := by
    obtain ⟨cell, g1, g2, g3, -⟩ := ((hM.1.1 i hi).1).kept hS.2.1
    exact ⟨cell, g1, g2, by rw [hq9]; exact g3⟩
  obtain ⟨d1, d2, d3⟩ := callee_spec hc
  refine g9_callq (A1 := va_A (wdS sc Y.2.2.1 ad σ) H.size) (va_runV (rm := rmO fr1 lo1) (mc := 0) (ms := 0) (As := As) (rest := rest) (C := y.cls) (b := Y.2.2.2.1 i) ⟨hx, hb, hml, hown, hts⟩ (hM1 r1 σ1 h1 H.size) (cwV n hts (wV_good hw) rfl rfl rfl ⟨rfl, d1, d2, d3⟩ hR) ⟨cQ_fb, hrc, fun U hU hW => cQ_pre hP hK hD hS hA hM U hU hW⟩ rfl hn hl.1 hst (lv_room hcat) hdg ⟨Nat.le_refl 0, Nat.le_refl 0⟩) hS (fun q _ h => wd_free hD hS hA q h) (wd_free hD hS hA) (fun H1 locs1 hP1 hD1 hS1 => ?_)
  exact k r1 σ1 h1 r σ' h2 H1 locs1 ls hP1 (hD1.weaken (fun _ q _ h => wd_free hD hS hA q.1 h)) hS1 hl
end SimStr
theorem c_coder {Y : Yx} {sc : Sc} {ad : Nat → Nat} {σ : St} {i : Nat} (hi : i < 10) : Con Y sc ad yJ0_coder_7d493 cJ0_coder_7d493 1 (some .byte) 0 0 [.ref (Y.2.2.2.1 i)] σ (outI 0) σ := by
  refine con_of (F := some (0, σ)) (by decide) rfl (Nat.le_of_ble_eq_true rfl) rfl (fun X hX C => ?_) rfl
  subst hX
  refine g_scmp C dJ0_coder_7d493_0 ?_
  rw [show some ((0 : Int32), σ) = (if (1 : Int32) = 0 then none else some (0, σ)) from rfl]
  refine g_if_eq C 13 dJ0_coder_7d493_3 (by decide) g_none ?_
  refine g_aload_n C 0 dJ0_coder_7d493_6 rfl rfl ?_
  refine g_scod C hi dJ0_coder_7d493_7 ?_
  refine g_goto C 14 dJ0_coder_7d493_10 (by decide) ?_
  exact g_zret C rfl dJ0_coder_7d493_14
theorem c_isLatin1 {Y : Yx} {sc : Sc} {ad : Nat → Nat} {σ : St} {i : Nat} (hi : i < 10) : Con Y sc ad yJ0_isLatin1_aae02 cJ0_isLatin1_aae02 1 (some .boolean) 0 0 [.ref (Y.2.2.2.1 i)] σ (outI 1) σ := by
  refine con_of (F := some (1, σ)) (by decide) rfl (Nat.le_of_ble_eq_true rfl) rfl (fun X hX C => ?_) rfl
  subst hX
  refine g_scmp C dJ0_isLatin1_aae02_0 ?_
  rw [show some ((1 : Int32), σ) = (if (1 : Int32) = 0 then none else some (1, σ)) from rfl]
  refine g_if_eq C 17 dJ0_isLatin1_aae02_3 (by decide) g_none ?_
  refine g_aload_n C 0 dJ0_isLatin1_aae02_6 rfl rfl ?_
  refine g_scod C hi dJ0_isLatin1_aae02_7 ?_
  rw [show some ((1 : Int32), σ) = (if (0 : Int32) = 0 then some (1, σ) else none) from rfl]
  refine g_if_ne C 17 dJ0_isLatin1_aae02_10 (by decide) g_none ?_
  refine g_iconst C 1 dJ0_isLatin1_aae02_13 (by decide) ?_
  refine g_goto C 18 dJ0_isLatin1_aae02_14 (by decide) ?_
  exact g_zret C rfl dJ0_isLatin1_aae02_18
theorem c_length {Y : Yx} {sc : Sc} {ad : Nat → Nat} {σ : St} {i : Nat} (hi : i < 10) : Con Y sc ad yJ0_length_8abf5 cJ0_length_8abf5 1 (some .int) 1 20 [.ref (Y.2.2.2.1 i)] σ (outI (Int32.ofNat (lenS.getD i 0) >>> ((0 : Int32) &&& 31))) σ := by
  refine con_of (F := bd (some ((0 : Int32), σ)) (fun r σ1 => some (Int32.ofNat (lenS.getD i 0) >>> (r &&& 31), σ1))) (by decide) rfl (Nat.le_of_ble_eq_true rfl) rfl (fun X hX C => ?_) rfl
  subst hX
  refine g_aload_n C 0 dJ0_length_8abf5_0 rfl rfl ?_
  refine g_sval C hi dJ0_length_8abf5_1 ?_
  refine g_stl C hi dJ0_length_8abf5_4 ?_
  refine g_aload_n C 0 dJ0_length_8abf5_5 rfl rfl ?_
  refine g_callT C (out1 := outI) (y := yJ0_coder_7d493) (fr1 := 0) (lo1 := 0) (n := 0) (As := []) (i := i) ⟨gw_565, gw_566, gw_567, gw_119, gw_568⟩ (by decide +kernel) ⟨by decide, by decide⟩ hi rfl (fun r σ' h => ?_) rfl rfl (Nat.le_of_ble_eq_true rfl) dJ0_length_8abf5_6 (fun r σ' h => ?_)
  · cases h
    exact c_coder hi
  · refine g_ishr C dJ0_length_8abf5_9 ?_
    exact g_iret C dJ0_length_8abf5_10
theorem c_checkIndex3 {Y : Yx} {sc : Sc} {ad : Nat → Nat} {σ : St} {i n : Int32} {v : Value} (hv : v.isRef = true) (h1 : ¬ i < 0) (h2 : i < n) : Con Y sc ad yJ3_checkIndex_8e157 cJ3_checkIndex_8e157 3 (some .int) 0 0 [.int i, .int n, v] σ (outI i) σ := by
  refine con_of (F := (if i < 0 then none else if i < n then some (i, σ) else none)) (own := RJ3) (by decide) rfl ?_ rfl (fun X hX C => ?_) (by rw [if_neg h1, if_pos h2])
  · cases v <;> first | exact Nat.le_of_ble_eq_true rfl | cases hv
  refine g_iload_n C 0 dJ3_checkIndex_8e157_0 rfl rfl ?_
  refine g_if_lt C 9 dJ3_checkIndex_8e157_1 (by decide) g_none ?_
  refine g_iload_n C 0 dJ3_checkIndex_8e157_4 rfl rfl ?_
  refine g_iload_n C 1 dJ3_checkIndex_8e157_5 rfl rfl ?_
  refine g_icmp_lt C 16 dJ3_checkIndex_8e157_6 (by decide) ?_ g_none
  refine g_iload_n C 0 dJ3_checkIndex_8e157_16 rfl rfl ?_
  exact g_iret C dJ3_checkIndex_8e157_17
theorem c_checkIndex0 {Y : Yx} {sc : Sc} {ad : Nat → Nat} {σ : St} {i n : Int32} (h1 : ¬ i < 0) (h2 : i < n) : Con Y sc ad yJ0_checkIndex_df160 cJ0_checkIndex_df160 2 none 1 22 [.int i, .int n] σ (outV ()) σ := by
  refine con_of (F := bd (some (i, σ)) (fun _ σ1 => some ((), σ1))) (by decide) rfl (Nat.le_of_ble_eq_true rfl) rfl (fun X hX C => ?_) rfl
  refine g_iload_n C 0 dJ0_checkIndex_df160_0 rfl rfl ?_
  refine g_iload_n C 1 dJ0_checkIndex_df160_1 rfl rfl ?_
  refine g_sfmt C dJ0_checkIndex_df160_2 (fun v hv => ?_)
  refine g_callS C (out1 := outI) (y := yJ3_checkIndex_8e157) (fr1 := 0) (lo1 := 0) (n := 3) (As := [.int i, .int n, v]) ⟨gw_587, gw_588, gw_121, gw_589⟩ (by decide +kernel) ⟨by decide, by decide⟩ (fun r σ' h => ?_) rfl rfl (Nat.le_of_ble_eq_true rfl) dJ0_checkIndex_df160_5 (fun r σ' h => ?_)
  · cases h
    exact c_checkIndex3 hv h1 h2
  · refine g_pop C dJ0_checkIndex_df160_8 rfl ?_
    exact g_vret C dJ0_checkIndex_df160_9
theorem ib_lt {i : Int32} {n : Nat} (h : ib i n = true) (hn : n < 2 ^ 31) : ¬ i < 0 ∧ i < Int32.ofNat n := by
  unfold ib at h
  simp only [Bool.and_eq_true, Bool.not_eq_true', decide_eq_false_iff_not, decide_eq_true_eq] at h
  refine ⟨h.1, ?_⟩
  obtain ⟨j, hj, rfl⟩ := nI_of h.1
  rw [nI_clamp hj] at h
  exact nI_lt h.2 hn
theorem len_all : ∀ i, i < 10 → (lenS.getD i 0 < 2 ^ 31 ∧ (∀ k, k < lenS.getD i 0 → (((bytS.getD i []).getD k 0 &&& 255).toUInt32 % 65536).toInt32 = chS i k ∧ narrow .char (.int (chS i k)) = .int (chS i k)) ∧ Int32.ofNat (lenS.getD i 0) >>> ((0 : Int32) &&& 31) = Int32.ofNat (lenS.getD i 0)) := by decide +kernel
theorem ib_cl {i : Int32} {n : Nat} (h : ib i n = true) : i.toNatClampNeg < n := by
  unfold ib at h
  simp only [Bool.and_eq_true, Bool.not_eq_true', decide_eq_false_iff_not, decide_eq_true_eq] at h
  exact h.2
theorem c_charAt1 {Y : Yx} {sc : Sc} {ad : Nat → Nat} {σ : St} {i : Nat} {k : Int32} (hi : i < 10) (hk : ib k (lenS.getD i 0) = true) : Con Y sc ad yJ1_charAt_3b067 cJ1_charAt_3b067 2 (some .char) 2 43 [.ref (Y.2.2.2.2 i), .int k] σ (outI (chS i k.toNatClampNeg)) σ := by
  have hl := len_all i hi
  have hc := hl.2.1 _ (ib_cl hk)
  refine con_of (F := bd (some ((), σ)) (fun _ σ1 => some (chS i k.toNatClampNeg, σ1))) (by decide) rfl (Nat.le_of_ble_eq_true rfl) rfl (fun X hX C => ?_) rfl
  subst hX
  refine g_iload_n C 1 dJ1_charAt_3b067_0 rfl rfl ?_
  refine g_aload_n C 0 dJ1_charAt_3b067_1 rfl rfl ?_
  refine g_stl C hi dJ1_charAt_3b067_2 ?_
  refine g_callS C (out1 := outV) (y := yJ0_checkIndex_df160) (fr1 := 1) (lo1 := 22) (n := 2) (As := [.int k, .int (Int32.ofNat (lenS.getD i 0))]) (rest := []) ⟨gw_582, gw_583, gw_119, gw_584⟩ (by decide +kernel) ⟨by decide, by decide⟩ (fun r σ' h => ?_) rfl rfl (Nat.le_of_ble_eq_true rfl) dJ1_charAt_3b067_3 (fun r σ' h => ?_)
  · cases h
    exact c_checkIndex0 (ib_lt hk hl.1).1 (ib_lt hk hl.1).2
  · refine g_aload_n C 0 dJ1_charAt_3b067_6 rfl rfl ?_
    refine g_iload_n C 1 dJ1_charAt_3b067_7 rfl rfl ?_
    refine g_stb C hi hk dJ1_charAt_3b067_8 ?_
    refine g_sipush C 255 dJ1_charAt_3b067_9 (by decide) ?_
    refine g_iand C dJ1_charAt_3b067_12 ?_
    refine g_i2c C dJ1_charAt_3b067_13 ?_
    rw [hc.1]
    exact g_zret C hc.2 dJ1_charAt_3b067_14
theorem c_charAt {Y : Yx} {sc : Sc} {ad : Nat → Nat} {σ : St} {i : Nat} {k : Int32} (hi : i < 10) (hk : ib k (lenS.getD i 0) = true) : Con Y sc ad yJ0_charAt_5068e cJ0_charAt_5068e 2 (some .char) 3 64 [.ref (Y.2.2.2.1 i), .int k] σ (outI (chS i k.toNatClampNeg)) σ := by
  have hc := (len_all i hi).2.1 _ (ib_cl hk)
  refine con_of (F := bd (some ((1 : Int32), σ)) (fun r σ1 => if r = 0 then none else bd (some (chS i k.toNatClampNeg, σ1)) (fun r2 σ2 => gd (narrow .char (.int r2) == .int r2) (some (r2, σ2))))) (by decide) rfl (Nat.le_of_ble_eq_true rfl) rfl (fun X hX C => ?_) (by simp only [bd]; rw [if_neg (by decide), hc.2]; simp [gd])
  subst hX
  refine g_aload_n C 0 dJ0_charAt_5068e_0 rfl rfl ?_
  refine g_callT C (out1 := outI) (y := yJ0_isLatin1_aae02) (fr1 := 0) (lo1 := 0) (n := 0) (As := []) (i := i) ⟨gw_575, gw_576, gw_577, gw_119, gw_578⟩ (by decide +kernel) ⟨by decide, by decide⟩ hi rfl (fun r σ' h => ?_) rfl rfl (Nat.le_of_ble_eq_true rfl) dJ0_charAt_5068e_1 (fun r σ' h => ?_)
  · cases h
    exact c_isLatin1 hi
  refine g_if_eq C 16 dJ0_charAt_5068e_4 (by decide) g_none ?_
  refine g_aload_n C 0 dJ0_charAt_5068e_7 rfl rfl ?_
  refine g_sval C hi dJ0_charAt_5068e_8 ?_
  refine g_iload_n C 1 dJ0_charAt_5068e_11 rfl rfl ?_
  refine g_callS C (out1 := outI) (y := yJ1_charAt_3b067) (fr1 := 2) (lo1 := 43) (n := 2) (As := [.ref (Y8 X i), .int k]) (rest := []) ⟨gw_579, gw_580, gw_120, gw_581⟩ (by decide +kernel) ⟨by decide, by decide⟩ (fun r σ' h => ?_) rfl rfl (Nat.le_of_ble_eq_true rfl) dJ0_charAt_5068e_12 (fun r σ' h => ?_)
  · cases h
    exact c_charAt1 hi hk
  · refine g_gd (fun hb9 => ?_)
    exact g_zret C (by simpa using hb9) dJ0_charAt_5068e_15
/-- length() of the i-th constant -/
theorem g_slen {X : Cx} {cc : ByteArray} {own : String} {nL : Nat} {ret : Option FieldType} {fr lo : Nat} {sc : Sc} {ad : Nat → Nat} {ρ : Type} {out : ρ → Option Value} {pc : Nat} {lv : List (Nat × Value)} {st : List Value} {σ : St} {F : Option (ρ × St)} (C : Ok X cc own nL ret fr lo) {i index : Nat} (v : Int32) (hi : i < 10) (hv : Int32.ofNat (lenS.getD i 0) = v) (hw : wV own index yJ0_length_8abf5 cJ0_length_8abf5 1 (some .int)) (hR : 1 + 1 ≤ fr ∧ 8 + (1 + 11) + 20 ≤ lo) (hcat : (st.map fun v => v.category).sum ≤ 8) (hdg : decode cc pc = .ok (.invokevirtual index, 3)) (k : Sim X sc ad nL out (pc + 3) lv (.int v :: st) σ F) : Sim X sc ad nL out pc lv (.ref (Y9 X i) :: st) σ F := by
  have hb : F = bd (some (Int32.ofNat (lenS.getD i 0) >>> ((0 : Int32) &&& 31), σ)) (fun _ _ => F) := rfl
  rw [hb]
  refine g_callT C (out1 := outI) (n := 0) (As := []) (i := i) hw (by decide +kernel) hR hi rfl (fun r σ' h => ?_) rfl rfl hcat hdg (fun r σ' h => ?_)
  · cases h
    exact c_length hi
  · cases h
    rw [(len_all i hi).2.2, hv]
    exact k
/-- charAt(k) of the i-th constant -/
theorem g_schr {X : Cx} {cc : ByteArray} {own : String} {nL : Nat} {ret : Option FieldType} {fr lo : Nat} {sc : Sc} {ad : Nat → Nat} {ρ : Type} {out : ρ → Option Value} {pc : Nat} {lv : List (Nat × Value)} {st : List Value} {σ : St} {F : Option (ρ × St)} (C : Ok X cc own nL ret fr lo) {i index : Nat} {j : Int32} (hi : i < 10) (hw : wV own index yJ0_charAt_5068e cJ0_charAt_5068e 2 (some .char)) (hR : 3 + 1 ≤ fr ∧ 8 + (2 + 11) + 64 ≤ lo) (hcat : (st.map fun v => v.category).sum ≤ 8) (hdg : decode cc pc = .ok (.invokevirtual index, 3)) (k : Sim X sc ad nL out (pc + 3) lv (.int (chS i j.toNatClampNeg) :: st) σ F) : Sim X sc ad nL out pc lv (.int j :: .ref (Y9 X i) :: st) σ (gd (ib j (lenS.getD i 0)) F) := by
  refine g_gd (fun hj => ?_)
  have hb : F = bd (some (chS i j.toNatClampNeg, σ)) (fun _ _ => F) := rfl
  rw [hb]
  refine g_callT C (out1 := outI) (n := 1) (As := [.int j]) (i := i) hw (by decide +kernel) hR hi rfl (fun r σ' h => ?_) rfl rfl hcat hdg (fun r σ' h => ?_)
  · cases h
    exact c_charAt hi hj
  · cases h
    exact k
end
