section
-- ===== PART A: goes FIRST, ahead of the names: the tables' words, and 'selects' of the private methods out of them =====
/-- a private method of a class that the tables say can be made, by its rows of tables_1 -/
def lw_okq (q : MethodName × Nat) : Prop := (q.1.cls ≠ "java/lang/invoke/MethodHandle" ∧ q.1.cls ≠ "java/lang/invoke/VarHandle") ∧ Cond.instantiable q.1.cls q.2 ∈ tables_1 ∧ Cond.privateMethod q.1 ∈ tables_1 ∧ Cond.instanceMethod q.1 ∈ tables_1
theorem lw_p0 : lw_okq (⟨"LampVote$Reader", "takes", "(I)Z"⟩, 15) := ⟨⟨by decide +kernel, by decide +kernel⟩, List.mem_of_getElem? (i := 191) (by decide +kernel), List.mem_of_getElem? (i := 277) (by decide +kernel), List.mem_of_getElem? (i := 278) (by decide +kernel)⟩
theorem lw_p1 : lw_okq (⟨"LampVote$Reader", "takesWord", "(I)Z"⟩, 15) := ⟨⟨by decide +kernel, by decide +kernel⟩, List.mem_of_getElem? (i := 191) (by decide +kernel), List.mem_of_getElem? (i := 281) (by decide +kernel), List.mem_of_getElem? (i := 282) (by decide +kernel)⟩
theorem lw_p2 : lw_okq (⟨"LampVote$Reader", "takesLetter", "(I)Z"⟩, 15) := ⟨⟨by decide +kernel, by decide +kernel⟩, List.mem_of_getElem? (i := 191) (by decide +kernel), List.mem_of_getElem? (i := 328) (by decide +kernel), List.mem_of_getElem? (i := 329) (by decide +kernel)⟩
theorem lw_p3 : lw_okq (⟨"LampVote$Reader", "opensClause", "()Z"⟩, 15) := ⟨⟨by decide +kernel, by decide +kernel⟩, List.mem_of_getElem? (i := 191) (by decide +kernel), List.mem_of_getElem? (i := 340) (by decide +kernel), List.mem_of_getElem? (i := 341) (by decide +kernel)⟩
theorem lw_p4 : lw_okq (⟨"LampVote$Reader", "takesDigit", "(II)Z"⟩, 15) := ⟨⟨by decide +kernel, by decide +kernel⟩, List.mem_of_getElem? (i := 191) (by decide +kernel), List.mem_of_getElem? (i := 344) (by decide +kernel), List.mem_of_getElem? (i := 345) (by decide +kernel)⟩
theorem lw_p5 : lw_okq (⟨"LampVote$Reader", "takesBlank", "()Z"⟩, 15) := ⟨⟨by decide +kernel, by decide +kernel⟩, List.mem_of_getElem? (i := 191) (by decide +kernel), List.mem_of_getElem? (i := 348) (by decide +kernel), List.mem_of_getElem? (i := 349) (by decide +kernel)⟩
theorem lw_p6 : lw_okq (⟨"LampVote$Reader", "takesSecondDigit", "(I)Z"⟩, 15) := ⟨⟨by decide +kernel, by decide +kernel⟩, List.mem_of_getElem? (i := 191) (by decide +kernel), List.mem_of_getElem? (i := 352) (by decide +kernel), List.mem_of_getElem? (i := 353) (by decide +kernel)⟩
theorem lw_p7 : lw_okq (⟨"LampVote$Reader", "takesFactor", "(I)Z"⟩, 15) := ⟨⟨by decide +kernel, by decide +kernel⟩, List.mem_of_getElem? (i := 191) (by decide +kernel), List.mem_of_getElem? (i := 356) (by decide +kernel), List.mem_of_getElem? (i := 357) (by decide +kernel)⟩
theorem lw_p8 : lw_okq (⟨"LampVote$Reader", "pend", "(I)V"⟩, 15) := ⟨⟨by decide +kernel, by decide +kernel⟩, List.mem_of_getElem? (i := 191) (by decide +kernel), List.mem_of_getElem? (i := 360) (by decide +kernel), List.mem_of_getElem? (i := 361) (by decide +kernel)⟩
theorem lw_p9 : lw_okq (⟨"LampVote$Reader", "takesRelation", "(I)Z"⟩, 15) := ⟨⟨by decide +kernel, by decide +kernel⟩, List.mem_of_getElem? (i := 191) (by decide +kernel), List.mem_of_getElem? (i := 424) (by decide +kernel), List.mem_of_getElem? (i := 425) (by decide +kernel)⟩
theorem lw_p10 : lw_okq (⟨"LampVote$Reader", "endTest", "()V"⟩, 15) := ⟨⟨by decide +kernel, by decide +kernel⟩, List.mem_of_getElem? (i := 191) (by decide +kernel), List.mem_of_getElem? (i := 429) (by decide +kernel), List.mem_of_getElem? (i := 430) (by decide +kernel)⟩
theorem lw_p11 : lw_okq (⟨"LampVote$Reader", "isSo", "(I)Z"⟩, 15) := ⟨⟨by decide +kernel, by decide +kernel⟩, List.mem_of_getElem? (i := 191) (by decide +kernel), List.mem_of_getElem? (i := 433) (by decide +kernel), List.mem_of_getElem? (i := 434) (by decide +kernel)⟩
theorem lw_p12 : lw_okq (⟨"LampVote$Reader", "write", "(I)V"⟩, 15) := ⟨⟨by decide +kernel, by decide +kernel⟩, List.mem_of_getElem? (i := 191) (by decide +kernel), List.mem_of_getElem? (i := 437) (by decide +kernel), List.mem_of_getElem? (i := 438) (by decide +kernel)⟩
theorem lw_p13 : lw_okq (⟨"LampVote$Reader", "takesJoint", "(I)Z"⟩, 15) := ⟨⟨by decide +kernel, by decide +kernel⟩, List.mem_of_getElem? (i := 191) (by decide +kernel), List.mem_of_getElem? (i := 441) (by decide +kernel), List.mem_of_getElem? (i := 442) (by decide +kernel)⟩
theorem lw_p14 : lw_okq (⟨"LampVote$Reader", "takesOperator", "(I)Z"⟩, 15) := ⟨⟨by decide +kernel, by decide +kernel⟩, List.mem_of_getElem? (i := 191) (by decide +kernel), List.mem_of_getElem? (i := 445) (by decide +kernel), List.mem_of_getElem? (i := 446) (by decide +kernel)⟩
theorem lw_p15 : lw_okq (⟨"LampVote$Reader", "writePending", "(I)V"⟩, 15) := ⟨⟨by decide +kernel, by decide +kernel⟩, List.mem_of_getElem? (i := 191) (by decide +kernel), List.mem_of_getElem? (i := 449) (by decide +kernel), List.mem_of_getElem? (i := 450) (by decide +kernel)⟩
def lw_privs_1 : List (MethodName × Nat) := [(⟨"LampVote$Reader", "takes", "(I)Z"⟩, 15), (⟨"LampVote$Reader", "takesWord", "(I)Z"⟩, 15), (⟨"LampVote$Reader", "takesLetter", "(I)Z"⟩, 15), (⟨"LampVote$Reader", "opensClause", "()Z"⟩, 15), (⟨"LampVote$Reader", "takesDigit", "(II)Z"⟩, 15), (⟨"LampVote$Reader", "takesBlank", "()Z"⟩, 15), (⟨"LampVote$Reader", "takesSecondDigit", "(I)Z"⟩, 15), (⟨"LampVote$Reader", "takesFactor", "(I)Z"⟩, 15), (⟨"LampVote$Reader", "pend", "(I)V"⟩, 15), (⟨"LampVote$Reader", "takesRelation", "(I)Z"⟩, 15), (⟨"LampVote$Reader", "endTest", "()V"⟩, 15), (⟨"LampVote$Reader", "isSo", "(I)Z"⟩, 15), (⟨"LampVote$Reader", "write", "(I)V"⟩, 15), (⟨"LampVote$Reader", "takesJoint", "(I)Z"⟩, 15), (⟨"LampVote$Reader", "takesOperator", "(I)Z"⟩, 15), (⟨"LampVote$Reader", "writePending", "(I)V"⟩, 15)]
theorem lw_r1 : ∀ q ∈ lw_privs_1, lw_okq q := List.forall_mem_cons.mpr ⟨lw_p0, List.forall_mem_cons.mpr ⟨lw_p1, List.forall_mem_cons.mpr ⟨lw_p2, List.forall_mem_cons.mpr ⟨lw_p3, List.forall_mem_cons.mpr ⟨lw_p4, List.forall_mem_cons.mpr ⟨lw_p5, List.forall_mem_cons.mpr ⟨lw_p6, List.forall_mem_cons.mpr ⟨lw_p7, List.forall_mem_cons.mpr ⟨lw_p8, List.forall_mem_cons.mpr ⟨lw_p9, List.forall_mem_cons.mpr ⟨lw_p10, List.forall_mem_cons.mpr ⟨lw_p11, List.forall_mem_cons.mpr ⟨lw_p12, List.forall_mem_cons.mpr ⟨lw_p13, List.forall_mem_cons.mpr ⟨lw_p14, List.forall_mem_cons.mpr ⟨lw_p15, fun _ h => absurd h List.not_mem_nil⟩⟩⟩⟩⟩⟩⟩⟩⟩⟩⟩⟩⟩⟩⟩⟩
theorem lw_p16 : lw_okq (⟨"LampVote$Reader", "takesClosing", "()Z"⟩, 15) := ⟨⟨by decide +kernel, by decide +kernel⟩, List.mem_of_getElem? (i := 191) (by decide +kernel), List.mem_of_getElem? (i := 453) (by decide +kernel), List.mem_of_getElem? (i := 454) (by decide +kernel)⟩
theorem lw_p17 : lw_okq (⟨"LampVote$Reader", "endsClause", "()Z"⟩, 15) := ⟨⟨by decide +kernel, by decide +kernel⟩, List.mem_of_getElem? (i := 191) (by decide +kernel), List.mem_of_getElem? (i := 457) (by decide +kernel), List.mem_of_getElem? (i := 458) (by decide +kernel)⟩
theorem lw_p18 : lw_okq (⟨"LampVote$Reader", "isWhole", "()Z"⟩, 15) := ⟨⟨by decide +kernel, by decide +kernel⟩, List.mem_of_getElem? (i := 191) (by decide +kernel), List.mem_of_getElem? (i := 461) (by decide +kernel), List.mem_of_getElem? (i := 462) (by decide +kernel)⟩
theorem lw_p19 : lw_okq (⟨"LampVote", "mayBecome", "(II)Z"⟩, 6) := ⟨⟨by decide +kernel, by decide +kernel⟩, List.mem_of_getElem? (i := 18) (by decide +kernel), List.mem_of_getElem? (i := 501) (by decide +kernel), List.mem_of_getElem? (i := 502) (by decide +kernel)⟩
theorem lw_p20 : lw_okq (⟨"LampVote$Canal", "look", "(II)[I"⟩, 17) := ⟨⟨by decide +kernel, by decide +kernel⟩, List.mem_of_getElem? (i := 26) (by decide +kernel), List.mem_of_getElem? (i := 513) (by decide +kernel), List.mem_of_getElem? (i := 514) (by decide +kernel)⟩
theorem lw_p21 : lw_okq (⟨"LampVote$Tide", "holds", "(I[I)Z"⟩, 4) := ⟨⟨by decide +kernel, by decide +kernel⟩, List.mem_of_getElem? (i := 34) (by decide +kernel), List.mem_of_getElem? (i := 521) (by decide +kernel), List.mem_of_getElem? (i := 522) (by decide +kernel)⟩
theorem lw_p22 : lw_okq (⟨"LampVote$Canal", "upstream", "(I)I"⟩, 17) := ⟨⟨by decide +kernel, by decide +kernel⟩, List.mem_of_getElem? (i := 26) (by decide +kernel), List.mem_of_getElem? (i := 558) (by decide +kernel), List.mem_of_getElem? (i := 559) (by decide +kernel)⟩
theorem lw_p23 : lw_okq (⟨"LampVote$Canal", "crowded", "()I"⟩, 17) := ⟨⟨by decide +kernel, by decide +kernel⟩, List.mem_of_getElem? (i := 26) (by decide +kernel), List.mem_of_getElem? (i := 562) (by decide +kernel), List.mem_of_getElem? (i := 563) (by decide +kernel)⟩
theorem lw_p24 : lw_okq (⟨"LampVote$Canal", "living", "(I)I"⟩, 17) := ⟨⟨by decide +kernel, by decide +kernel⟩, List.mem_of_getElem? (i := 26) (by decide +kernel), List.mem_of_getElem? (i := 566) (by decide +kernel), List.mem_of_getElem? (i := 567) (by decide +kernel)⟩
theorem lw_p25 : lw_okq (⟨"LampVote$Night", "lightAll", "()V"⟩, 8) := ⟨⟨by decide +kernel, by decide +kernel⟩, List.mem_of_getElem? (i := 139) (by decide +kernel), List.mem_of_getElem? (i := 611) (by decide +kernel), List.mem_of_getElem? (i := 612) (by decide +kernel)⟩
theorem lw_p26 : lw_okq (⟨"LampVote$Night", "lead", "(I)I"⟩, 8) := ⟨⟨by decide +kernel, by decide +kernel⟩, List.mem_of_getElem? (i := 139) (by decide +kernel), List.mem_of_getElem? (i := 633) (by decide +kernel), List.mem_of_getElem? (i := 634) (by decide +kernel)⟩
theorem lw_p27 : lw_okq (⟨"LampVote$Night", "countLamps", "()V"⟩, 8) := ⟨⟨by decide +kernel, by decide +kernel⟩, List.mem_of_getElem? (i := 139) (by decide +kernel), List.mem_of_getElem? (i := 748) (by decide +kernel), List.mem_of_getElem? (i := 749) (by decide +kernel)⟩
theorem lw_p28 : lw_okq (⟨"LampVote$Night", "isAsSeen", "()Z"⟩, 8) := ⟨⟨by decide +kernel, by decide +kernel⟩, List.mem_of_getElem? (i := 139) (by decide +kernel), List.mem_of_getElem? (i := 753) (by decide +kernel), List.mem_of_getElem? (i := 754) (by decide +kernel)⟩
theorem lw_p29 : lw_okq (⟨"LampVote$Night", "placeAfter", "(II)I"⟩, 8) := ⟨⟨by decide +kernel, by decide +kernel⟩, List.mem_of_getElem? (i := 139) (by decide +kernel), List.mem_of_getElem? (i := 785) (by decide +kernel), List.mem_of_getElem? (i := 786) (by decide +kernel)⟩
theorem lw_p30 : lw_okq (⟨"LampVote$Acts", "begin", "(I)V"⟩, 3) := ⟨⟨by decide +kernel, by decide +kernel⟩, List.mem_of_getElem? (i := 173) (by decide +kernel), List.mem_of_getElem? (i := 808) (by decide +kernel), List.mem_of_getElem? (i := 809) (by decide +kernel)⟩
theorem lw_p31 : lw_okq (⟨"LampVoteModel", "asAtFirst", "(I)V"⟩, 26) := ⟨⟨by decide +kernel, by decide +kernel⟩, List.mem_of_getElem? (i := 853) (by decide +kernel), List.mem_of_getElem? (i := 859) (by decide +kernel), List.mem_of_getElem? (i := 860) (by decide +kernel)⟩
def lw_privs_2 : List (MethodName × Nat) := [(⟨"LampVote$Reader", "takesClosing", "()Z"⟩, 15), (⟨"LampVote$Reader", "endsClause", "()Z"⟩, 15), (⟨"LampVote$Reader", "isWhole", "()Z"⟩, 15), (⟨"LampVote", "mayBecome", "(II)Z"⟩, 6), (⟨"LampVote$Canal", "look", "(II)[I"⟩, 17), (⟨"LampVote$Tide", "holds", "(I[I)Z"⟩, 4), (⟨"LampVote$Canal", "upstream", "(I)I"⟩, 17), (⟨"LampVote$Canal", "crowded", "()I"⟩, 17), (⟨"LampVote$Canal", "living", "(I)I"⟩, 17), (⟨"LampVote$Night", "lightAll", "()V"⟩, 8), (⟨"LampVote$Night", "lead", "(I)I"⟩, 8), (⟨"LampVote$Night", "countLamps", "()V"⟩, 8), (⟨"LampVote$Night", "isAsSeen", "()Z"⟩, 8), (⟨"LampVote$Night", "placeAfter", "(II)I"⟩, 8), (⟨"LampVote$Acts", "begin", "(I)V"⟩, 3), (⟨"LampVoteModel", "asAtFirst", "(I)V"⟩, 26)]
theorem lw_r2 : ∀ q ∈ lw_privs_2, lw_okq q := List.forall_mem_cons.mpr ⟨lw_p16, List.forall_mem_cons.mpr ⟨lw_p17, List.forall_mem_cons.mpr ⟨lw_p18, List.forall_mem_cons.mpr ⟨lw_p19, List.forall_mem_cons.mpr ⟨lw_p20, List.forall_mem_cons.mpr ⟨lw_p21, List.forall_mem_cons.mpr ⟨lw_p22, List.forall_mem_cons.mpr ⟨lw_p23, List.forall_mem_cons.mpr ⟨lw_p24, List.forall_mem_cons.mpr ⟨lw_p25, List.forall_mem_cons.mpr ⟨lw_p26, List.forall_mem_cons.mpr ⟨lw_p27, List.forall_mem_cons.mpr ⟨lw_p28, List.forall_mem_cons.mpr ⟨lw_p29, List.forall_mem_cons.mpr ⟨lw_p30, List.forall_mem_cons.mpr ⟨lw_p31, fun _ h => absurd h List.not_mem_nil⟩⟩⟩⟩⟩⟩⟩⟩⟩⟩⟩⟩⟩⟩⟩⟩
theorem lw_p32 : lw_okq (⟨"LampVoteModel", "clauseHere", "()V"⟩, 26) := ⟨⟨by decide +kernel, by decide +kernel⟩, List.mem_of_getElem? (i := 853) (by decide +kernel), List.mem_of_getElem? (i := 953) (by decide +kernel), List.mem_of_getElem? (i := 954) (by decide +kernel)⟩
theorem lw_p33 : lw_okq (⟨"LampVoteModel", "here", "()I"⟩, 26) := ⟨⟨by decide +kernel, by decide +kernel⟩, List.mem_of_getElem? (i := 853) (by decide +kernel), List.mem_of_getElem? (i := 957) (by decide +kernel), List.mem_of_getElem? (i := 958) (by decide +kernel)⟩
theorem lw_p34 : lw_okq (⟨"LampVoteModel", "plain", "(ILjava/lang/String;)V"⟩, 26) := ⟨⟨by decide +kernel, by decide +kernel⟩, List.mem_of_getElem? (i := 853) (by decide +kernel), List.mem_of_getElem? (i := 962) (by decide +kernel), List.mem_of_getElem? (i := 963) (by decide +kernel)⟩
theorem lw_p35 : lw_okq (⟨"LampVoteModel", "spells", "(Ljava/lang/String;)V"⟩, 26) := ⟨⟨by decide +kernel, by decide +kernel⟩, List.mem_of_getElem? (i := 853) (by decide +kernel), List.mem_of_getElem? (i := 966) (by decide +kernel), List.mem_of_getElem? (i := 967) (by decide +kernel)⟩
theorem lw_p36 : lw_okq (⟨"LampVoteModel", "must", "(I)V"⟩, 26) := ⟨⟨by decide +kernel, by decide +kernel⟩, List.mem_of_getElem? (i := 853) (by decide +kernel), List.mem_of_getElem? (i := 972) (by decide +kernel), List.mem_of_getElem? (i := 973) (by decide +kernel)⟩
theorem lw_p37 : lw_okq (⟨"LampVoteModel", "some", "()V"⟩, 26) := ⟨⟨by decide +kernel, by decide +kernel⟩, List.mem_of_getElem? (i := 853) (by decide +kernel), List.mem_of_getElem? (i := 976) (by decide +kernel), List.mem_of_getElem? (i := 977) (by decide +kernel)⟩
theorem lw_p38 : lw_okq (⟨"LampVoteModel", "every", "()V"⟩, 26) := ⟨⟨by decide +kernel, by decide +kernel⟩, List.mem_of_getElem? (i := 853) (by decide +kernel), List.mem_of_getElem? (i := 980) (by decide +kernel), List.mem_of_getElem? (i := 981) (by decide +kernel)⟩
theorem lw_p39 : lw_okq (⟨"LampVoteModel", "factor", "()V"⟩, 26) := ⟨⟨by decide +kernel, by decide +kernel⟩, List.mem_of_getElem? (i := 853) (by decide +kernel), List.mem_of_getElem? (i := 984) (by decide +kernel), List.mem_of_getElem? (i := 985) (by decide +kernel)⟩
theorem lw_p40 : lw_okq (⟨"LampVoteModel", "emits", "(I)V"⟩, 26) := ⟨⟨by decide +kernel, by decide +kernel⟩, List.mem_of_getElem? (i := 853) (by decide +kernel), List.mem_of_getElem? (i := 988) (by decide +kernel), List.mem_of_getElem? (i := 989) (by decide +kernel)⟩
theorem lw_p41 : lw_okq (⟨"LampVoteModel", "among", "(Ljava/lang/String;)I"⟩, 26) := ⟨⟨by decide +kernel, by decide +kernel⟩, List.mem_of_getElem? (i := 853) (by decide +kernel), List.mem_of_getElem? (i := 993) (by decide +kernel), List.mem_of_getElem? (i := 994) (by decide +kernel)⟩
theorem lw_p42 : lw_okq (⟨"LampVoteModel", "figures", "()I"⟩, 26) := ⟨⟨by decide +kernel, by decide +kernel⟩, List.mem_of_getElem? (i := 853) (by decide +kernel), List.mem_of_getElem? (i := 998) (by decide +kernel), List.mem_of_getElem? (i := 999) (by decide +kernel)⟩
theorem lw_p43 : lw_okq (⟨"LampVoteModel", "much", "(ILjava/lang/String;)V"⟩, 26) := ⟨⟨by decide +kernel, by decide +kernel⟩, List.mem_of_getElem? (i := 853) (by decide +kernel), List.mem_of_getElem? (i := 1004) (by decide +kernel), List.mem_of_getElem? (i := 1005) (by decide +kernel)⟩
theorem lw_p44 : lw_okq (⟨"LampVoteModel", "isPlace", "(I)Z"⟩, 26) := ⟨⟨by decide +kernel, by decide +kernel⟩, List.mem_of_getElem? (i := 853) (by decide +kernel), List.mem_of_getElem? (i := 1017) (by decide +kernel), List.mem_of_getElem? (i := 1018) (by decide +kernel)⟩
theorem lw_p45 : lw_okq (⟨"LampVoteModel", "goesFrom", "(II)I"⟩, 26) := ⟨⟨by decide +kernel, by decide +kernel⟩, List.mem_of_getElem? (i := 853) (by decide +kernel), List.mem_of_getElem? (i := 1025) (by decide +kernel), List.mem_of_getElem? (i := 1026) (by decide +kernel)⟩
theorem lw_p46 : lw_okq (⟨"LampVoteModel", "looks", "(II)V"⟩, 26) := ⟨⟨by decide +kernel, by decide +kernel⟩, List.mem_of_getElem? (i := 853) (by decide +kernel), List.mem_of_getElem? (i := 1029) (by decide +kernel), List.mem_of_getElem? (i := 1030) (by decide +kernel)⟩
theorem lw_p47 : lw_okq (⟨"LampVoteModel", "isVoter", "(I)Z"⟩, 26) := ⟨⟨by decide +kernel, by decide +kernel⟩, List.mem_of_getElem? (i := 853) (by decide +kernel), List.mem_of_getElem? (i := 1041) (by decide +kernel), List.mem_of_getElem? (i := 1042) (by decide +kernel)⟩
def lw_privs_3 : List (MethodName × Nat) := [(⟨"LampVoteModel", "clauseHere", "()V"⟩, 26), (⟨"LampVoteModel", "here", "()I"⟩, 26), (⟨"LampVoteModel", "plain", "(ILjava/lang/String;)V"⟩, 26), (⟨"LampVoteModel", "spells", "(Ljava/lang/String;)V"⟩, 26), (⟨"LampVoteModel", "must", "(I)V"⟩, 26), (⟨"LampVoteModel", "some", "()V"⟩, 26), (⟨"LampVoteModel", "every", "()V"⟩, 26), (⟨"LampVoteModel", "factor", "()V"⟩, 26), (⟨"LampVoteModel", "emits", "(I)V"⟩, 26), (⟨"LampVoteModel", "among", "(Ljava/lang/String;)I"⟩, 26), (⟨"LampVoteModel", "figures", "()I"⟩, 26), (⟨"LampVoteModel", "much", "(ILjava/lang/String;)V"⟩, 26), (⟨"LampVoteModel", "isPlace", "(I)Z"⟩, 26), (⟨"LampVoteModel", "goesFrom", "(II)I"⟩, 26), (⟨"LampVoteModel", "looks", "(II)V"⟩, 26), (⟨"LampVoteModel", "isVoter", "(I)Z"⟩, 26)]
theorem lw_r3 : ∀ q ∈ lw_privs_3, lw_okq q := List.forall_mem_cons.mpr ⟨lw_p32, List.forall_mem_cons.mpr ⟨lw_p33, List.forall_mem_cons.mpr ⟨lw_p34, List.forall_mem_cons.mpr ⟨lw_p35, List.forall_mem_cons.mpr ⟨lw_p36, List.forall_mem_cons.mpr ⟨lw_p37, List.forall_mem_cons.mpr ⟨lw_p38, List.forall_mem_cons.mpr ⟨lw_p39, List.forall_mem_cons.mpr ⟨lw_p40, List.forall_mem_cons.mpr ⟨lw_p41, List.forall_mem_cons.mpr ⟨lw_p42, List.forall_mem_cons.mpr ⟨lw_p43, List.forall_mem_cons.mpr ⟨lw_p44, List.forall_mem_cons.mpr ⟨lw_p45, List.forall_mem_cons.mpr ⟨lw_p46, List.forall_mem_cons.mpr ⟨lw_p47, fun _ h => absurd h List.not_mem_nil⟩⟩⟩⟩⟩⟩⟩⟩⟩⟩⟩⟩⟩⟩⟩⟩
theorem lw_p48 : lw_okq (⟨"LampVoteModel", "setsOf", "(I)I"⟩, 26) := ⟨⟨by decide +kernel, by decide +kernel⟩, List.mem_of_getElem? (i := 853) (by decide +kernel), List.mem_of_getElem? (i := 1045) (by decide +kernel), List.mem_of_getElem? (i := 1046) (by decide +kernel)⟩
theorem lw_p49 : lw_okq (⟨"LampVoteModel", "upperOf", "(I)I"⟩, 26) := ⟨⟨by decide +kernel, by decide +kernel⟩, List.mem_of_getElem? (i := 853) (by decide +kernel), List.mem_of_getElem? (i := 1049) (by decide +kernel), List.mem_of_getElem? (i := 1050) (by decide +kernel)⟩
theorem lw_p50 : lw_okq (⟨"LampVoteModel", "crowded", "()I"⟩, 26) := ⟨⟨by decide +kernel, by decide +kernel⟩, List.mem_of_getElem? (i := 853) (by decide +kernel), List.mem_of_getElem? (i := 1053) (by decide +kernel), List.mem_of_getElem? (i := 1054) (by decide +kernel)⟩
theorem lw_p51 : lw_okq (⟨"LampVoteModel", "delayOf", "(I)I"⟩, 26) := ⟨⟨by decide +kernel, by decide +kernel⟩, List.mem_of_getElem? (i := 853) (by decide +kernel), List.mem_of_getElem? (i := 1057) (by decide +kernel), List.mem_of_getElem? (i := 1058) (by decide +kernel)⟩
theorem lw_p52 : lw_okq (⟨"LampVoteModel", "burnsAt", "(II)I"⟩, 26) := ⟨⟨by decide +kernel, by decide +kernel⟩, List.mem_of_getElem? (i := 853) (by decide +kernel), List.mem_of_getElem? (i := 1061) (by decide +kernel), List.mem_of_getElem? (i := 1062) (by decide +kernel)⟩
theorem lw_p53 : lw_okq (⟨"LampVoteModel", "looksForNight", "()V"⟩, 26) := ⟨⟨by decide +kernel, by decide +kernel⟩, List.mem_of_getElem? (i := 853) (by decide +kernel), List.mem_of_getElem? (i := 1081) (by decide +kernel), List.mem_of_getElem? (i := 1082) (by decide +kernel)⟩
theorem lw_p54 : lw_okq (⟨"LampVoteModel", "laysAll", "()V"⟩, 26) := ⟨⟨by decide +kernel, by decide +kernel⟩, List.mem_of_getElem? (i := 853) (by decide +kernel), List.mem_of_getElem? (i := 1085) (by decide +kernel), List.mem_of_getElem? (i := 1086) (by decide +kernel)⟩
theorem lw_p55 : lw_okq (⟨"LampVoteModel", "lays", "(II)V"⟩, 26) := ⟨⟨by decide +kernel, by decide +kernel⟩, List.mem_of_getElem? (i := 853) (by decide +kernel), List.mem_of_getElem? (i := 1089) (by decide +kernel), List.mem_of_getElem? (i := 1090) (by decide +kernel)⟩
theorem lw_p56 : lw_okq (⟨"LampVoteModel", "lampAt", "(III)I"⟩, 26) := ⟨⟨by decide +kernel, by decide +kernel⟩, List.mem_of_getElem? (i := 853) (by decide +kernel), List.mem_of_getElem? (i := 1093) (by decide +kernel), List.mem_of_getElem? (i := 1094) (by decide +kernel)⟩
theorem lw_p57 : lw_okq (⟨"LampVoteModel", "mayor", "()I"⟩, 26) := ⟨⟨by decide +kernel, by decide +kernel⟩, List.mem_of_getElem? (i := 853) (by decide +kernel), List.mem_of_getElem? (i := 1097) (by decide +kernel), List.mem_of_getElem? (i := 1098) (by decide +kernel)⟩
theorem lw_p58 : lw_okq (⟨"LampVoteModel", "votesFor", "(I)I"⟩, 26) := ⟨⟨by decide +kernel, by decide +kernel⟩, List.mem_of_getElem? (i := 853) (by decide +kernel), List.mem_of_getElem? (i := 1101) (by decide +kernel), List.mem_of_getElem? (i := 1102) (by decide +kernel)⟩
theorem lw_p59 : lw_okq (⟨"LampVoteModel", "driftOf", "(II)I"⟩, 26) := ⟨⟨by decide +kernel, by decide +kernel⟩, List.mem_of_getElem? (i := 853) (by decide +kernel), List.mem_of_getElem? (i := 1120) (by decide +kernel), List.mem_of_getElem? (i := 1121) (by decide +kernel)⟩
theorem lw_p60 : lw_okq (⟨"LampVoteModel", "mayorBy", "(I)I"⟩, 26) := ⟨⟨by decide +kernel, by decide +kernel⟩, List.mem_of_getElem? (i := 853) (by decide +kernel), List.mem_of_getElem? (i := 1132) (by decide +kernel), List.mem_of_getElem? (i := 1133) (by decide +kernel)⟩
theorem lw_p61 : lw_okq (⟨"LampVoteModel", "turnsWishes", "(I)V"⟩, 26) := ⟨⟨by decide +kernel, by decide +kernel⟩, List.mem_of_getElem? (i := 853) (by decide +kernel), List.mem_of_getElem? (i := 1136) (by decide +kernel), List.mem_of_getElem? (i := 1137) (by decide +kernel)⟩
theorem lw_p62 : lw_okq (⟨"LampVoteModel", "looksForBest", "(I)V"⟩, 26) := ⟨⟨by decide +kernel, by decide +kernel⟩, List.mem_of_getElem? (i := 853) (by decide +kernel), List.mem_of_getElem? (i := 1159) (by decide +kernel), List.mem_of_getElem? (i := 1160) (by decide +kernel)⟩
theorem lw_p63 : lw_okq (⟨"LampVoteModel", "moreOf", "(I)I"⟩, 26) := ⟨⟨by decide +kernel, by decide +kernel⟩, List.mem_of_getElem? (i := 853) (by decide +kernel), List.mem_of_getElem? (i := 1163) (by decide +kernel), List.mem_of_getElem? (i := 1164) (by decide +kernel)⟩
def lw_privs_4 : List (MethodName × Nat) := [(⟨"LampVoteModel", "setsOf", "(I)I"⟩, 26), (⟨"LampVoteModel", "upperOf", "(I)I"⟩, 26), (⟨"LampVoteModel", "crowded", "()I"⟩, 26), (⟨"LampVoteModel", "delayOf", "(I)I"⟩, 26), (⟨"LampVoteModel", "burnsAt", "(II)I"⟩, 26), (⟨"LampVoteModel", "looksForNight", "()V"⟩, 26), (⟨"LampVoteModel", "laysAll", "()V"⟩, 26), (⟨"LampVoteModel", "lays", "(II)V"⟩, 26), (⟨"LampVoteModel", "lampAt", "(III)I"⟩, 26), (⟨"LampVoteModel", "mayor", "()I"⟩, 26), (⟨"LampVoteModel", "votesFor", "(I)I"⟩, 26), (⟨"LampVoteModel", "driftOf", "(II)I"⟩, 26), (⟨"LampVoteModel", "mayorBy", "(I)I"⟩, 26), (⟨"LampVoteModel", "turnsWishes", "(I)V"⟩, 26), (⟨"LampVoteModel", "looksForBest", "(I)V"⟩, 26), (⟨"LampVoteModel", "moreOf", "(I)I"⟩, 26)]
theorem lw_r4 : ∀ q ∈ lw_privs_4, lw_okq q := List.forall_mem_cons.mpr ⟨lw_p48, List.forall_mem_cons.mpr ⟨lw_p49, List.forall_mem_cons.mpr ⟨lw_p50, List.forall_mem_cons.mpr ⟨lw_p51, List.forall_mem_cons.mpr ⟨lw_p52, List.forall_mem_cons.mpr ⟨lw_p53, List.forall_mem_cons.mpr ⟨lw_p54, List.forall_mem_cons.mpr ⟨lw_p55, List.forall_mem_cons.mpr ⟨lw_p56, List.forall_mem_cons.mpr ⟨lw_p57, List.forall_mem_cons.mpr ⟨lw_p58, List.forall_mem_cons.mpr ⟨lw_p59, List.forall_mem_cons.mpr ⟨lw_p60, List.forall_mem_cons.mpr ⟨lw_p61, List.forall_mem_cons.mpr ⟨lw_p62, List.forall_mem_cons.mpr ⟨lw_p63, fun _ h => absurd h List.not_mem_nil⟩⟩⟩⟩⟩⟩⟩⟩⟩⟩⟩⟩⟩⟩⟩⟩
theorem lw_p64 : lw_okq (⟨"LampVoteModel", "lampsAt", "(I)I"⟩, 26) := ⟨⟨by decide +kernel, by decide +kernel⟩, List.mem_of_getElem? (i := 853) (by decide +kernel), List.mem_of_getElem? (i := 1179) (by decide +kernel), List.mem_of_getElem? (i := 1180) (by decide +kernel)⟩
theorem lw_p65 : lw_okq (⟨"LampVoteModel", "setsActs", "(I)I"⟩, 26) := ⟨⟨by decide +kernel, by decide +kernel⟩, List.mem_of_getElem? (i := 853) (by decide +kernel), List.mem_of_getElem? (i := 1199) (by decide +kernel), List.mem_of_getElem? (i := 1200) (by decide +kernel)⟩
theorem lw_p66 : lw_okq (⟨"LampVoteModel", "ranBody", "(I)V"⟩, 26) := ⟨⟨by decide +kernel, by decide +kernel⟩, List.mem_of_getElem? (i := 853) (by decide +kernel), List.mem_of_getElem? (i := 1206) (by decide +kernel), List.mem_of_getElem? (i := 1207) (by decide +kernel)⟩
theorem lw_p67 : lw_okq (⟨"LampVoteModel", "plainSets", "(I)I"⟩, 26) := ⟨⟨by decide +kernel, by decide +kernel⟩, List.mem_of_getElem? (i := 853) (by decide +kernel), List.mem_of_getElem? (i := 1210) (by decide +kernel), List.mem_of_getElem? (i := 1211) (by decide +kernel)⟩
theorem lw_p68 : lw_okq (⟨"LampVoteModel", "burnsActs", "(I)I"⟩, 26) := ⟨⟨by decide +kernel, by decide +kernel⟩, List.mem_of_getElem? (i := 853) (by decide +kernel), List.mem_of_getElem? (i := 1214) (by decide +kernel), List.mem_of_getElem? (i := 1215) (by decide +kernel)⟩
theorem lw_p69 : lw_okq (⟨"LampVoteModel", "plainBurns", "(I)I"⟩, 26) := ⟨⟨by decide +kernel, by decide +kernel⟩, List.mem_of_getElem? (i := 853) (by decide +kernel), List.mem_of_getElem? (i := 1218) (by decide +kernel), List.mem_of_getElem? (i := 1219) (by decide +kernel)⟩
theorem lw_p70 : lw_okq (⟨"LampVoteModel", "tellsActs", "(I)I"⟩, 26) := ⟨⟨by decide +kernel, by decide +kernel⟩, List.mem_of_getElem? (i := 853) (by decide +kernel), List.mem_of_getElem? (i := 1222) (by decide +kernel), List.mem_of_getElem? (i := 1223) (by decide +kernel)⟩
theorem lw_p71 : lw_okq (⟨"LampVoteModel", "plainTells", "(I)I"⟩, 26) := ⟨⟨by decide +kernel, by decide +kernel⟩, List.mem_of_getElem? (i := 853) (by decide +kernel), List.mem_of_getElem? (i := 1226) (by decide +kernel), List.mem_of_getElem? (i := 1227) (by decide +kernel)⟩
def lw_privs_5 : List (MethodName × Nat) := [(⟨"LampVoteModel", "lampsAt", "(I)I"⟩, 26), (⟨"LampVoteModel", "setsActs", "(I)I"⟩, 26), (⟨"LampVoteModel", "ranBody", "(I)V"⟩, 26), (⟨"LampVoteModel", "plainSets", "(I)I"⟩, 26), (⟨"LampVoteModel", "burnsActs", "(I)I"⟩, 26), (⟨"LampVoteModel", "plainBurns", "(I)I"⟩, 26), (⟨"LampVoteModel", "tellsActs", "(I)I"⟩, 26), (⟨"LampVoteModel", "plainTells", "(I)I"⟩, 26)]
theorem lw_r5 : ∀ q ∈ lw_privs_5, lw_okq q := List.forall_mem_cons.mpr ⟨lw_p64, List.forall_mem_cons.mpr ⟨lw_p65, List.forall_mem_cons.mpr ⟨lw_p66, List.forall_mem_cons.mpr ⟨lw_p67, List.forall_mem_cons.mpr ⟨lw_p68, List.forall_mem_cons.mpr ⟨lw_p69, List.forall_mem_cons.mpr ⟨lw_p70, List.forall_mem_cons.mpr ⟨lw_p71, fun _ h => absurd h List.not_mem_nil⟩⟩⟩⟩⟩⟩⟩⟩
def lw_privs : List (MethodName × Nat) := lw_privs_1 ++ (lw_privs_2 ++ (lw_privs_3 ++ (lw_privs_4 ++ (lw_privs_5))))
def lw_tbl : List Cond := k2_sels lw_privs ++ tables_1
theorem lw_privs_ok : ∀ q ∈ lw_privs, lw_okq q := by
  show ∀ q ∈ lw_privs_1 ++ (lw_privs_2 ++ (lw_privs_3 ++ (lw_privs_4 ++ (lw_privs_5)))), lw_okq q
  exact List.forall_mem_append.mpr ⟨lw_r1, List.forall_mem_append.mpr ⟨lw_r2, List.forall_mem_append.mpr ⟨lw_r3, List.forall_mem_append.mpr ⟨lw_r4, lw_r5⟩⟩⟩⟩
-- ===== end of PART A; then your names; then what follows =====
end
section
/-! ===== BEGIN words of one list among another's, by their places ===== -/
theorem goodIn_r {big : List Cond} (ws : List Cond) (ps : List Nat) (hp : ws = ps.filterMap (fun i => big[i]?)) (h : ws.all goodWord = true) : GoodIn big ws := by
  intro w hw
  have h1 := List.all_eq_true.mp h w hw
  rw [hp] at hw
  obtain ⟨i, -, hi⟩ := List.mem_filterMap.mp hw
  have hm : w ∈ big := by first | exact List.mem_of_getElem? hi | exact List.getElem?_mem hi
  exact ⟨hm, good_of_word h1⟩
theorem goodIn_app {big a b : List Cond} (ha : GoodIn big a) (hb : GoodIn big b) : GoodIn big (a ++ b) := fun w h => (List.mem_append.mp h).elim (ha w) (hb w)
theorem goodIn_ca {big a b : List Cond} {c : Cond} (ha : GoodIn big (c :: a)) (hb : GoodIn big b) : GoodIn big (c :: (a ++ b)) := fun w h => (List.mem_cons.mp h).elim (fun e => ha w (List.mem_cons.mpr (Or.inl e))) (fun h => (List.mem_append.mp h).elim (fun h => ha w (List.mem_cons.mpr (Or.inr h))) (hb w))
theorem goodIn_sub {big ws : List Cond} (hm : ∀ w ∈ ws, w ∈ big) (h : ws.all goodWord = true) : GoodIn big ws := fun w hw => ⟨hm w hw, good_of_word (List.all_eq_true.mp h w hw)⟩
/-! ===== END ===== -/
/-! ===== BEGIN printed: names, fields, word lists, decode rows ===== -/
def RX0 : String := "LampVote$Acts"
def TX0 : u_T := fun k => match k with
  | 0 => ("LampVote$Acts", "canal", "LLampVote$Canal;", true)
  | 1 => ("LampVote$Acts", "bodies", "[I", true)
  | _ => ("LampVote$Acts", "ran", "I", false)
def tyX0 : Nat → FieldType := fun k => match k with
  | 0 => .object "LampVote$Canal"
  | 1 => .array .int
  | _ => .int
abbrev wsX00 : List Cond := u_ws RX0 TX0 3
theorem nmX0 : ∀ a, a < 3 → ∀ b, b < 3 → a ≠ b → (TX0 a).2.1 ≠ (TX0 b).2.1 := by decide +kernel
theorem tyX0_ok : ∀ k, k < 3 → parseFieldDescriptor (TX0 k).2.2.1 = some (tyX0 k) := by decide +kernel
abbrev cX0_init : ByteArray := prog_2_method_1_code
def yX0_init : MethodName := ⟨RX0, "<init>", "(LLampVote$Canal;)V"⟩
abbrev cX0_forget : ByteArray := prog_2_method_2_code
def yX0_forget : MethodName := ⟨RX0, "forget", "()V"⟩
abbrev cX0_kept : ByteArray := prog_2_method_3_code
def yX0_kept : MethodName := ⟨RX0, "kept", "()I"⟩
abbrev cX0_isUnder : ByteArray := prog_2_method_4_code
def yX0_isUnder : MethodName := ⟨RX0, "isUnder", "(II)Z"⟩
abbrev cX0_doerOf : ByteArray := prog_2_method_5_code
def yX0_doerOf : MethodName := ⟨RX0, "doerOf", "(II)I"⟩
abbrev cX0_run : ByteArray := prog_2_method_6_code
def yX0_run : MethodName := ⟨RX0, "run", "(IIIII)I"⟩
abbrev cX0_begin : ByteArray := prog_2_method_7_code
def yX0_begin : MethodName := ⟨RX0, "begin", "(I)V"⟩
def RX1 : String := "LampVote$Canal"
def TX1 : u_T := fun k => match k with
  | 0 => ("LampVote$Canal", "places", "I", false)
  | 1 => ("LampVote$Canal", "place", "[[I", true)
  | 2 => ("LampVote$Canal", "minute", "I", false)
  | 3 => ("LampVote$Canal", "voters", "I", false)
  | 4 => ("LampVote$Canal", "voter", "[[I", true)
  | 5 => ("LampVote$Canal", "signs", "I", false)
  | 6 => ("LampVote$Canal", "tape", "[I", true)
  | 7 => ("LampVote$Canal", "tides", "I", false)
  | 8 => ("LampVote$Canal", "newest", "LLampVote$Tide;", false)
  | 9 => ("LampVote$Canal", "seen", "I", false)
  | 10 => ("LampVote$Canal", "seenPlace", "[I", true)
  | 11 => ("LampVote$Canal", "seenLamps", "[I", true)
  | 12 => ("LampVote$Canal", "tales", "I", false)
  | 13 => ("LampVote$Canal", "taleVoter", "[I", true)
  | 14 => ("LampVote$Canal", "taleMinute", "[I", true)
  | 15 => ("LampVote$Canal", "talePlace", "[I", true)
  | _ => ("LampVote$Canal", "here", "[I", true)
def tyX1 : Nat → FieldType := fun k => match k with
  | 0 => .int
  | 1 => .array (.array .int)
  | 2 => .int
  | 3 => .int
  | 4 => .array (.array .int)
  | 5 => .int
  | 6 => .array .int
  | 7 => .int
  | 8 => .object "LampVote$Tide"
  | 9 => .int
  | 10 => .array .int
  | 11 => .array .int
  | 12 => .int
  | 13 => .array .int
  | 14 => .array .int
  | 15 => .array .int
  | _ => .array .int
abbrev wsX10 : List Cond := u_ws RX1 TX1 17
theorem nmX1 : ∀ a, a < 17 → ∀ b, b < 17 → a ≠ b → (TX1 a).2.1 ≠ (TX1 b).2.1 := by decide +kernel
theorem tyX1_ok : ∀ k, k < 17 → parseFieldDescriptor (TX1 k).2.2.1 = some (tyX1 k) := by decide +kernel
abbrev cX1_init : ByteArray := prog_3_method_1_code
def yX1_init : MethodName := ⟨RX1, "<init>", "()V"⟩
abbrev cX1_dig : ByteArray := prog_3_method_2_code
def yX1_dig : MethodName := ⟨RX1, "dig", "(I)V"⟩
abbrev cX1_copy : ByteArray := prog_3_method_3_code
def yX1_copy : MethodName := ⟨RX1, "copy", "(LLampVote$Canal;)V"⟩
abbrev cX1_copyRows : ByteArray := prog_3_method_4_code
def yX1_copyRows : MethodName := ⟨RX1, "copyRows", "([[I[[I)V"⟩
abbrev cX1_copyRow : ByteArray := prog_3_method_5_code
def yX1_copyRow : MethodName := ⟨RX1, "copyRow", "([I[I)V"⟩
abbrev cX1_hasPlace : ByteArray := prog_3_method_6_code
def yX1_hasPlace : MethodName := ⟨RX1, "hasPlace", "(I)Z"⟩
abbrev cX1_hasVoter : ByteArray := prog_3_method_7_code
def yX1_hasVoter : MethodName := ⟨RX1, "hasVoter", "(I)Z"⟩
abbrev cX1_look : ByteArray := prog_3_method_8_code
def yX1_look : MethodName := ⟨RX1, "look", "(II)[I"⟩
abbrev cX1_holdsBack : ByteArray := prog_3_method_9_code
def yX1_holdsBack : MethodName := ⟨RX1, "holdsBack", "(II)Z"⟩
abbrev cX1_goal : ByteArray := prog_3_method_10_code
def yX1_goal : MethodName := ⟨RX1, "goal", "(II)I"⟩
abbrev cX1_weight : ByteArray := prog_3_method_11_code
def yX1_weight : MethodName := ⟨RX1, "weight", "(II)I"⟩
abbrev cX1_filled : ByteArray := prog_3_method_12_code
def yX1_filled : MethodName := ⟨RX1, "filled", "(II)I"⟩
abbrev cX1_delay : ByteArray := prog_3_method_13_code
def yX1_delay : MethodName := ⟨RX1, "delay", "(I)I"⟩
abbrev cX1_wishes : ByteArray := prog_3_method_14_code
def yX1_wishes : MethodName := ⟨RX1, "wishes", "()I"⟩
abbrev cX1_setsAt : ByteArray := prog_3_method_15_code
def yX1_setsAt : MethodName := ⟨RX1, "setsAt", "(I)I"⟩
abbrev cX1_upstream : ByteArray := prog_3_method_16_code
def yX1_upstream : MethodName := ⟨RX1, "upstream", "(I)I"⟩
abbrev cX1_crowded : ByteArray := prog_3_method_17_code
def yX1_crowded : MethodName := ⟨RX1, "crowded", "()I"⟩
abbrev cX1_living : ByteArray := prog_3_method_18_code
def yX1_living : MethodName := ⟨RX1, "living", "(I)I"⟩
def RX2 : String := "LampVote$Night"
def TX2 : u_T := fun k => match k with
  | 0 => ("LampVote$Night", "canal", "LLampVote$Canal;", true)
  | 1 => ("LampVote$Night", "goal", "[[I", true)
  | 2 => ("LampVote$Night", "filled", "[[I", true)
  | 3 => ("LampVote$Night", "weight", "[I", true)
  | 4 => ("LampVote$Night", "lamps", "[I", true)
  | 5 => ("LampVote$Night", "stick", "I", false)
  | 6 => ("LampVote$Night", "lie", "[I", true)
  | _ => ("LampVote$Night", "worth", "[I", true)
def tyX2 : Nat → FieldType := fun k => match k with
  | 0 => .object "LampVote$Canal"
  | 1 => .array (.array .int)
  | 2 => .array (.array .int)
  | 3 => .array .int
  | 4 => .array .int
  | 5 => .int
  | 6 => .array .int
  | _ => .array .int
abbrev wsX20 : List Cond := u_ws RX2 TX2 8
theorem nmX2 : ∀ a, a < 8 → ∀ b, b < 8 → a ≠ b → (TX2 a).2.1 ≠ (TX2 b).2.1 := by decide +kernel
theorem tyX2_ok : ∀ k, k < 8 → parseFieldDescriptor (TX2 k).2.2.1 = some (tyX2 k) := by decide +kernel
abbrev cX2_init : ByteArray := prog_4_method_1_code
def yX2_init : MethodName := ⟨RX2, "<init>", "(LLampVote$Canal;)V"⟩
abbrev cX2_chart : ByteArray := prog_4_method_2_code
def yX2_chart : MethodName := ⟨RX2, "chart", "()V"⟩
abbrev cX2_afloat : ByteArray := prog_4_method_3_code
def yX2_afloat : MethodName := ⟨RX2, "afloat", "(III)I"⟩
abbrev cX2_burns : ByteArray := prog_4_method_4_code
def yX2_burns : MethodName := ⟨RX2, "burns", "(II)I"⟩
abbrev cX2_light : ByteArray := prog_4_method_5_code
def yX2_light : MethodName := ⟨RX2, "light", "(II)V"⟩
abbrev cX2_lightAll : ByteArray := prog_4_method_6_code
def yX2_lightAll : MethodName := ⟨RX2, "lightAll", "()V"⟩
abbrev cX2_pass : ByteArray := prog_4_method_7_code
def yX2_pass : MethodName := ⟨RX2, "pass", "()V"⟩
abbrev cX2_votes : ByteArray := prog_4_method_8_code
def yX2_votes : MethodName := ⟨RX2, "votes", "(I)I"⟩
abbrev cX2_lead : ByteArray := prog_4_method_9_code
def yX2_lead : MethodName := ⟨RX2, "lead", "(I)I"⟩
abbrev cX2_winnerBy : ByteArray := prog_4_method_10_code
def yX2_winnerBy : MethodName := ⟨RX2, "winnerBy", "(I)I"⟩
abbrev cX2_mayor : ByteArray := prog_4_method_11_code
def yX2_mayor : MethodName := ⟨RX2, "mayor", "(I)I"⟩
abbrev cX2_leadOf : ByteArray := prog_4_method_12_code
def yX2_leadOf : MethodName := ⟨RX2, "leadOf", "(I)I"⟩
abbrev cX2_winner : ByteArray := prog_4_method_13_code
def yX2_winner : MethodName := ⟨RX2, "winner", "(I)I"⟩
abbrev cX2_startsTo : ByteArray := prog_4_method_14_code
def yX2_startsTo : MethodName := ⟨RX2, "startsTo", "(II)I"⟩
abbrev cX2_turning : ByteArray := prog_4_method_15_code
def yX2_turning : MethodName := ⟨RX2, "turning", "()I"⟩
abbrev cX2_swayed : ByteArray := prog_4_method_16_code
def yX2_swayed : MethodName := ⟨RX2, "swayed", "(I)I"⟩
abbrev cX2_stickFor : ByteArray := prog_4_method_17_code
def yX2_stickFor : MethodName := ⟨RX2, "stickFor", "(I)I"⟩
abbrev cX2_bestFor : ByteArray := prog_4_method_18_code
def yX2_bestFor : MethodName := ⟨RX2, "bestFor", "(I)I"⟩
abbrev cX2_leadBehind : ByteArray := prog_4_method_19_code
def yX2_leadBehind : MethodName := ⟨RX2, "leadBehind", "(III)I"⟩
abbrev cX2_firstOf : ByteArray := prog_4_method_20_code
def yX2_firstOf : MethodName := ⟨RX2, "firstOf", "(II)I"⟩
abbrev cX2_countLamps : ByteArray := prog_4_method_21_code
def yX2_countLamps : MethodName := ⟨RX2, "countLamps", "()V"⟩
abbrev cX2_fitting : ByteArray := prog_4_method_22_code
def yX2_fitting : MethodName := ⟨RX2, "fitting", "(I)I"⟩
abbrev cX2_isAsSeen : ByteArray := prog_4_method_23_code
def yX2_isAsSeen : MethodName := ⟨RX2, "isAsSeen", "()Z"⟩
abbrev cX2_fairest : ByteArray := prog_4_method_24_code
def yX2_fairest : MethodName := ⟨RX2, "fairest", "()I"⟩
abbrev cX2_unfairness : ByteArray := prog_4_method_25_code
def yX2_unfairness : MethodName := ⟨RX2, "unfairness", "(I)I"⟩
abbrev cX2_firstUntrue : ByteArray := prog_4_method_26_code
def yX2_firstUntrue : MethodName := ⟨RX2, "firstUntrue", "()I"⟩
abbrev cX2_placeAfter : ByteArray := prog_4_method_27_code
def yX2_placeAfter : MethodName := ⟨RX2, "placeAfter", "(II)I"⟩
def RX3 : String := "LampVote$Reader"
def TX3 : u_T := fun k => match k with
  | 0 => ("LampVote$Reader", "words", "[I", true)
  | 1 => ("LampVote$Reader", "amounts", "[I", true)
  | 2 => ("LampVote$Reader", "ends", "[I", true)
  | 3 => ("LampVote$Reader", "code", "[I", true)
  | 4 => ("LampVote$Reader", "pending", "[I", true)
  | 5 => ("LampVote$Reader", "clauses", "I", false)
  | 6 => ("LampVote$Reader", "codes", "I", false)
  | 7 => ("LampVote$Reader", "pended", "I", false)
  | 8 => ("LampVote$Reader", "open", "I", false)
  | 9 => ("LampVote$Reader", "due", "I", false)
  | 10 => ("LampVote$Reader", "word", "I", false)
  | 11 => ("LampVote$Reader", "letter", "I", false)
  | 12 => ("LampVote$Reader", "subject", "I", false)
  | 13 => ("LampVote$Reader", "relation", "I", false)
  | _ => ("LampVote$Reader", "number", "I", false)
def tyX3 : Nat → FieldType := fun k => match k with
  | 0 => .array .int
  | 1 => .array .int
  | 2 => .array .int
  | 3 => .array .int
  | 4 => .array .int
  | 5 => .int
  | 6 => .int
  | 7 => .int
  | 8 => .int
  | 9 => .int
  | 10 => .int
  | 11 => .int
  | 12 => .int
  | 13 => .int
  | _ => .int
abbrev wsX30 : List Cond := u_ws RX3 TX3 15
theorem nmX3 : ∀ a, a < 15 → ∀ b, b < 15 → a ≠ b → (TX3 a).2.1 ≠ (TX3 b).2.1 := by decide +kernel
theorem tyX3_ok : ∀ k, k < 15 → parseFieldDescriptor (TX3 k).2.2.1 = some (tyX3 k) := by decide +kernel
abbrev cX3_init : ByteArray := prog_5_method_1_code
def yX3_init : MethodName := ⟨RX3, "<init>", "()V"⟩
abbrev cX3_faultOf : ByteArray := prog_5_method_2_code
def yX3_faultOf : MethodName := ⟨RX3, "faultOf", "([II)I"⟩
abbrev cX3_written : ByteArray := prog_5_method_3_code
def yX3_written : MethodName := ⟨RX3, "written", "()LLampVote$Tide;"⟩
abbrev cX3_takes : ByteArray := prog_5_method_4_code
def yX3_takes : MethodName := ⟨RX3, "takes", "(I)Z"⟩
abbrev cX3_takesWord : ByteArray := prog_5_method_5_code
def yX3_takesWord : MethodName := ⟨RX3, "takesWord", "(I)Z"⟩
abbrev cX3_takesLetter : ByteArray := prog_5_method_6_code
def yX3_takesLetter : MethodName := ⟨RX3, "takesLetter", "(I)Z"⟩
abbrev cX3_opensClause : ByteArray := prog_5_method_7_code
def yX3_opensClause : MethodName := ⟨RX3, "opensClause", "()Z"⟩
abbrev cX3_takesDigit : ByteArray := prog_5_method_8_code
def yX3_takesDigit : MethodName := ⟨RX3, "takesDigit", "(II)Z"⟩
abbrev cX3_takesSecondDigit : ByteArray := prog_5_method_9_code
def yX3_takesSecondDigit : MethodName := ⟨RX3, "takesSecondDigit", "(I)Z"⟩
abbrev cX3_takesBlank : ByteArray := prog_5_method_10_code
def yX3_takesBlank : MethodName := ⟨RX3, "takesBlank", "()Z"⟩
abbrev cX3_takesFactor : ByteArray := prog_5_method_11_code
def yX3_takesFactor : MethodName := ⟨RX3, "takesFactor", "(I)Z"⟩
abbrev cX3_takesRelation : ByteArray := prog_5_method_12_code
def yX3_takesRelation : MethodName := ⟨RX3, "takesRelation", "(I)Z"⟩
abbrev cX3_isSo : ByteArray := prog_5_method_13_code
def yX3_isSo : MethodName := ⟨RX3, "isSo", "(I)Z"⟩
abbrev cX3_endTest : ByteArray := prog_5_method_14_code
def yX3_endTest : MethodName := ⟨RX3, "endTest", "()V"⟩
abbrev cX3_takesJoint : ByteArray := prog_5_method_15_code
def yX3_takesJoint : MethodName := ⟨RX3, "takesJoint", "(I)Z"⟩
abbrev cX3_takesOperator : ByteArray := prog_5_method_16_code
def yX3_takesOperator : MethodName := ⟨RX3, "takesOperator", "(I)Z"⟩
abbrev cX3_takesClosing : ByteArray := prog_5_method_17_code
def yX3_takesClosing : MethodName := ⟨RX3, "takesClosing", "()Z"⟩
abbrev cX3_isWhole : ByteArray := prog_5_method_18_code
def yX3_isWhole : MethodName := ⟨RX3, "isWhole", "()Z"⟩
abbrev cX3_endsClause : ByteArray := prog_5_method_19_code
def yX3_endsClause : MethodName := ⟨RX3, "endsClause", "()Z"⟩
abbrev cX3_pend : ByteArray := prog_5_method_20_code
def yX3_pend : MethodName := ⟨RX3, "pend", "(I)V"⟩
abbrev cX3_writePending : ByteArray := prog_5_method_21_code
def yX3_writePending : MethodName := ⟨RX3, "writePending", "(I)V"⟩
abbrev cX3_write : ByteArray := prog_5_method_22_code
def yX3_write : MethodName := ⟨RX3, "write", "(I)V"⟩
def RX4 : String := "LampVote$Tide"
def TX4 : u_T := fun k => match k with
  | 0 => ("LampVote$Tide", "words", "[I", true)
  | 1 => ("LampVote$Tide", "amounts", "[I", true)
  | 2 => ("LampVote$Tide", "ends", "[I", true)
  | _ => ("LampVote$Tide", "code", "[I", true)
def tyX4 : Nat → FieldType := fun k => match k with
  | 0 => .array .int
  | 1 => .array .int
  | 2 => .array .int
  | _ => .array .int
abbrev wsX40 : List Cond := u_ws RX4 TX4 4
theorem nmX4 : ∀ a, a < 4 → ∀ b, b < 4 → a ≠ b → (TX4 a).2.1 ≠ (TX4 b).2.1 := by decide +kernel
theorem tyX4_ok : ∀ k, k < 4 → parseFieldDescriptor (TX4 k).2.2.1 = some (tyX4 k) := by decide +kernel
abbrev cX4_init : ByteArray := prog_6_method_1_code
def yX4_init : MethodName := ⟨RX4, "<init>", "()V"⟩
abbrev cX4_init_ : ByteArray := prog_6_method_2_code
def yX4_init_ : MethodName := ⟨RX4, "<init>", "([I[I[I[I)V"⟩
abbrev cX4_any : ByteArray := prog_6_method_3_code
def yX4_any : MethodName := ⟨RX4, "any", "(I[I)Z"⟩
abbrev cX4_sum : ByteArray := prog_6_method_4_code
def yX4_sum : MethodName := ⟨RX4, "sum", "(I[I)I"⟩
abbrev cX4_holds : ByteArray := prog_6_method_5_code
def yX4_holds : MethodName := ⟨RX4, "holds", "(I[I)Z"⟩
def RX5 : String := "LampVote"
def TX5 : u_T := fun k => match k with
  | 0 => ("LampVote", "now", "LLampVote$Canal;", true)
  | 1 => ("LampVote", "image", "LLampVote$Canal;", true)
  | 2 => ("LampVote", "night", "LLampVote$Night;", true)
  | 3 => ("LampVote", "acts", "LLampVote$Acts;", true)
  | 4 => ("LampVote", "reader", "LLampVote$Reader;", true)
  | _ => ("LampVote", "imaged", "Z", false)
def tyX5 : Nat → FieldType := fun k => match k with
  | 0 => .object "LampVote$Canal"
  | 1 => .object "LampVote$Canal"
  | 2 => .object "LampVote$Night"
  | 3 => .object "LampVote$Acts"
  | 4 => .object "LampVote$Reader"
  | _ => .boolean
abbrev wsX50 : List Cond := u_ws RX5 TX5 6
theorem nmX5 : ∀ a, a < 6 → ∀ b, b < 6 → a ≠ b → (TX5 a).2.1 ≠ (TX5 b).2.1 := by decide +kernel
theorem tyX5_ok : ∀ k, k < 6 → parseFieldDescriptor (TX5 k).2.2.1 = some (tyX5 k) := by decide +kernel
abbrev cX5_init : ByteArray := prog_1_method_1_code
def yX5_init : MethodName := ⟨RX5, "<init>", "()V"⟩
abbrev cX5_feed : ByteArray := prog_1_method_2_code
def yX5_feed : MethodName := ⟨RX5, "feed", "(I)I"⟩
abbrev cX5_tide : ByteArray := prog_1_method_3_code
def yX5_tide : MethodName := ⟨RX5, "tide", "()I"⟩
abbrev cX5_places : ByteArray := prog_1_method_4_code
def yX5_places : MethodName := ⟨RX5, "places", "(I)I"⟩
abbrev cX5_place : ByteArray := prog_1_method_5_code
def yX5_place : MethodName := ⟨RX5, "place", "(III)I"⟩
abbrev cX5_mayBecome : ByteArray := prog_1_method_6_code
def yX5_mayBecome : MethodName := ⟨RX5, "mayBecome", "(II)Z"⟩
abbrev cX5_at : ByteArray := prog_1_method_7_code
def yX5_at : MethodName := ⟨RX5, "at", "(II)I"⟩
abbrev cX5_voter : ByteArray := prog_1_method_8_code
def yX5_voter : MethodName := ⟨RX5, "voter", "(IIIII)I"⟩
abbrev cX5_of : ByteArray := prog_1_method_9_code
def yX5_of : MethodName := ⟨RX5, "of", "(II)I"⟩
abbrev cX5_wish : ByteArray := prog_1_method_10_code
def yX5_wish : MethodName := ⟨RX5, "wish", "(II)I"⟩
abbrev cX5_row : ByteArray := prog_1_method_11_code
def yX5_row : MethodName := ⟨RX5, "row", "(III)I"⟩
abbrev cX5_minutes : ByteArray := prog_1_method_12_code
def yX5_minutes : MethodName := ⟨RX5, "minutes", "(I)I"⟩
abbrev cX5_vote : ByteArray := prog_1_method_13_code
def yX5_vote : MethodName := ⟨RX5, "vote", "(I)I"⟩
abbrev cX5_lies : ByteArray := prog_1_method_14_code
def yX5_lies : MethodName := ⟨RX5, "lies", "(II)I"⟩
abbrev cX5_ward : ByteArray := prog_1_method_15_code
def yX5_ward : MethodName := ⟨RX5, "ward", "(I)I"⟩
abbrev cX5_drifts : ByteArray := prog_1_method_16_code
def yX5_drifts : MethodName := ⟨RX5, "drifts", "(II)I"⟩
abbrev cX5_from : ByteArray := prog_1_method_17_code
def yX5_from : MethodName := ⟨RX5, "from", "(III)I"⟩
abbrev cX5_leastOf : ByteArray := prog_1_method_18_code
def yX5_leastOf : MethodName := ⟨RX5, "leastOf", "(I)I"⟩
abbrev cX5_turns : ByteArray := prog_1_method_19_code
def yX5_turns : MethodName := ⟨RX5, "turns", "(I)I"⟩
abbrev cX5_sways : ByteArray := prog_1_method_20_code
def yX5_sways : MethodName := ⟨RX5, "sways", "(II)J"⟩
abbrev cX5_stick : ByteArray := prog_1_method_21_code
def yX5_stick : MethodName := ⟨RX5, "stick", "(I)I"⟩
abbrev cX5_set : ByteArray := prog_1_method_22_code
def yX5_set : MethodName := ⟨RX5, "set", "(II)I"⟩
abbrev cX5_game : ByteArray := prog_1_method_23_code
def yX5_game : MethodName := ⟨RX5, "game", "(III)I"⟩
abbrev cX5_see : ByteArray := prog_1_method_24_code
def yX5_see : MethodName := ⟨RX5, "see", "(II)I"⟩
abbrev cX5_fits : ByteArray := prog_1_method_25_code
def yX5_fits : MethodName := ⟨RX5, "fits", "(I)I"⟩
abbrev cX5_fair : ByteArray := prog_1_method_26_code
def yX5_fair : MethodName := ⟨RX5, "fair", "(I)I"⟩
abbrev cX5_tale : ByteArray := prog_1_method_27_code
def yX5_tale : MethodName := ⟨RX5, "tale", "(III)I"⟩
abbrev cX5_looked : ByteArray := prog_1_method_28_code
def yX5_looked : MethodName := ⟨RX5, "looked", "()I"⟩
abbrev cX5_act : ByteArray := prog_1_method_29_code
def yX5_act : MethodName := ⟨RX5, "act", "(III)I"⟩
abbrev cX5_trace : ByteArray := prog_1_method_30_code
def yX5_trace : MethodName := ⟨RX5, "trace", "(I)I"⟩
abbrev cX5_as : ByteArray := prog_1_method_31_code
def yX5_as : MethodName := ⟨RX5, "as", "(II)I"⟩
abbrev cX5_image : ByteArray := prog_1_method_32_code
def yX5_image : MethodName := ⟨RX5, "image", "()I"⟩
abbrev cX5_undo : ByteArray := prog_1_method_33_code
def yX5_undo : MethodName := ⟨RX5, "undo", "()I"⟩
abbrev cX5_count : ByteArray := prog_1_method_34_code
def yX5_count : MethodName := ⟨RX5, "count", "(I)I"⟩
abbrev cX5_within : ByteArray := prog_1_method_35_code
def yX5_within : MethodName := ⟨RX5, "within", "(III)Z"⟩
def RX6 : String := "LampVoteModel"
def TX6 : u_T := fun k => match k with
  | 0 => ("LampVoteModel", "thrown", "I", false)
  | 1 => ("LampVoteModel", "s", "[I", true)
  | 2 => ("LampVoteModel", "image", "[I", true)
  | 3 => ("LampVoteModel", "hasImage", "Z", false)
  | 4 => ("LampVoteModel", "act", "I", false)
  | 5 => ("LampVoteModel", "spot", "I", false)
  | 6 => ("LampVoteModel", "end", "I", false)
  | 7 => ("LampVoteModel", "isWrong", "Z", false)
  | 8 => ("LampVoteModel", "open", "I", false)
  | 9 => ("LampVoteModel", "by", "[I", true)
  | 10 => ("LampVoteModel", "truths", "[Z", true)
  | 11 => ("LampVoteModel", "isSide", "Z", false)
  | 12 => ("LampVoteModel", "isHeld", "Z", false)
  | 13 => ("LampVoteModel", "oiled", "I", false)
  | 14 => ("LampVoteModel", "weighed", "I", false)
  | 15 => ("LampVoteModel", "going", "[I", true)
  | 16 => ("LampVoteModel", "weights", "[I", true)
  | 17 => ("LampVoteModel", "lying", "[I", true)
  | 18 => ("LampVoteModel", "counts", "[Z", true)
  | 19 => ("LampVoteModel", "bestPlace", "I", false)
  | 20 => ("LampVoteModel", "bestMore", "I", false)
  | 21 => ("LampVoteModel", "bodies", "[I", true)
  | 22 => ("LampVoteModel", "ran", "I", false)
  | 23 => ("LampVoteModel", "kind", "I", false)
  | 24 => ("LampVoteModel", "number", "I", false)
  | _ => ("LampVoteModel", "tellsV", "I", false)
def tyX6 : Nat → FieldType := fun k => match k with
  | 0 => .int
  | 1 => .array .int
  | 2 => .array .int
  | 3 => .boolean
  | 4 => .int
  | 5 => .int
  | 6 => .int
  | 7 => .boolean
  | 8 => .int
  | 9 => .array .int
  | 10 => .array .boolean
  | 11 => .boolean
  | 12 => .boolean
  | 13 => .int
  | 14 => .int
  | 15 => .array .int
  | 16 => .array .int
  | 17 => .array .int
  | 18 => .array .boolean
  | 19 => .int
  | 20 => .int
  | 21 => .array .int
  | 22 => .int
  | 23 => .int
  | 24 => .int
  | _ => .int
abbrev wsX60 : List Cond := u_ws RX6 TX6 26
theorem nmX6 : ∀ a, a < 26 → ∀ b, b < 26 → a ≠ b → (TX6 a).2.1 ≠ (TX6 b).2.1 := by decide +kernel
theorem tyX6_ok : ∀ k, k < 26 → parseFieldDescriptor (TX6 k).2.2.1 = some (tyX6 k) := by decide +kernel
abbrev cX6_init : ByteArray := prog_8_method_1_code
def yX6_init : MethodName := ⟨RX6, "<init>", "()V"⟩
abbrev cX6_in : ByteArray := prog_8_method_3_code
def yX6_in : MethodName := ⟨RX6, "in", "(III)Z"⟩
abbrev cX6_isPlace : ByteArray := prog_8_method_4_code
def yX6_isPlace : MethodName := ⟨RX6, "isPlace", "(I)Z"⟩
abbrev cX6_isVoter : ByteArray := prog_8_method_5_code
def yX6_isVoter : MethodName := ⟨RX6, "isVoter", "(I)Z"⟩
abbrev cX6_asAtFirst : ByteArray := prog_8_method_6_code
def yX6_asAtFirst : MethodName := ⟨RX6, "asAtFirst", "(I)V"⟩
abbrev cX6_feed : ByteArray := prog_8_method_7_code
def yX6_feed : MethodName := ⟨RX6, "feed", "(I)I"⟩
abbrev cX6_here : ByteArray := prog_8_method_8_code
def yX6_here : MethodName := ⟨RX6, "here", "()I"⟩
abbrev cX6_must : ByteArray := prog_8_method_9_code
def yX6_must : MethodName := ⟨RX6, "must", "(I)V"⟩
abbrev cX6_spells : ByteArray := prog_8_method_10_code
def yX6_spells : MethodName := ⟨RX6, "spells", "(Ljava/lang/String;)V"⟩
abbrev cX6_figures : ByteArray := prog_8_method_11_code
def yX6_figures : MethodName := ⟨RX6, "figures", "()I"⟩
abbrev cX6_among : ByteArray := prog_8_method_12_code
def yX6_among : MethodName := ⟨RX6, "among", "(Ljava/lang/String;)I"⟩
abbrev cX6_emits : ByteArray := prog_8_method_13_code
def yX6_emits : MethodName := ⟨RX6, "emits", "(I)V"⟩
abbrev cX6_factor : ByteArray := prog_8_method_14_code
def yX6_factor : MethodName := ⟨RX6, "factor", "()V"⟩
abbrev cX6_every : ByteArray := prog_8_method_15_code
def yX6_every : MethodName := ⟨RX6, "every", "()V"⟩
abbrev cX6_some : ByteArray := prog_8_method_16_code
def yX6_some : MethodName := ⟨RX6, "some", "()V"⟩
abbrev cX6_plain : ByteArray := prog_8_method_17_code
def yX6_plain : MethodName := ⟨RX6, "plain", "(ILjava/lang/String;)V"⟩
abbrev cX6_much : ByteArray := prog_8_method_18_code
def yX6_much : MethodName := ⟨RX6, "much", "(ILjava/lang/String;)V"⟩
abbrev cX6_clauseHere : ByteArray := prog_8_method_19_code
def yX6_clauseHere : MethodName := ⟨RX6, "clauseHere", "()V"⟩
abbrev cX6_tide : ByteArray := prog_8_method_20_code
def yX6_tide : MethodName := ⟨RX6, "tide", "()I"⟩
abbrev cX6_looks : ByteArray := prog_8_method_21_code
def yX6_looks : MethodName := ⟨RX6, "looks", "(II)V"⟩
abbrev cX6_goesFrom : ByteArray := prog_8_method_22_code
def yX6_goesFrom : MethodName := ⟨RX6, "goesFrom", "(II)I"⟩
abbrev cX6_places : ByteArray := prog_8_method_23_code
def yX6_places : MethodName := ⟨RX6, "places", "(I)I"⟩
abbrev cX6_place : ByteArray := prog_8_method_24_code
def yX6_place : MethodName := ⟨RX6, "place", "(III)I"⟩
abbrev cX6_at : ByteArray := prog_8_method_25_code
def yX6_at : MethodName := ⟨RX6, "at", "(II)I"⟩
abbrev cX6_voter : ByteArray := prog_8_method_26_code
def yX6_voter : MethodName := ⟨RX6, "voter", "(IIIII)I"⟩
abbrev cX6_upperOf : ByteArray := prog_8_method_27_code
def yX6_upperOf : MethodName := ⟨RX6, "upperOf", "(I)I"⟩
abbrev cX6_crowded : ByteArray := prog_8_method_28_code
def yX6_crowded : MethodName := ⟨RX6, "crowded", "()I"⟩
abbrev cX6_setsOf : ByteArray := prog_8_method_29_code
def yX6_setsOf : MethodName := ⟨RX6, "setsOf", "(I)I"⟩
abbrev cX6_delayOf : ByteArray := prog_8_method_30_code
def yX6_delayOf : MethodName := ⟨RX6, "delayOf", "(I)I"⟩
abbrev cX6_burnsAt : ByteArray := prog_8_method_31_code
def yX6_burnsAt : MethodName := ⟨RX6, "burnsAt", "(II)I"⟩
abbrev cX6_of : ByteArray := prog_8_method_32_code
def yX6_of : MethodName := ⟨RX6, "of", "(II)I"⟩
abbrev cX6_wish : ByteArray := prog_8_method_33_code
def yX6_wish : MethodName := ⟨RX6, "wish", "(II)I"⟩
abbrev cX6_row : ByteArray := prog_8_method_34_code
def yX6_row : MethodName := ⟨RX6, "row", "(III)I"⟩
abbrev cX6_minutes : ByteArray := prog_8_method_35_code
def yX6_minutes : MethodName := ⟨RX6, "minutes", "(I)I"⟩
abbrev cX6_looksForNight : ByteArray := prog_8_method_36_code
def yX6_looksForNight : MethodName := ⟨RX6, "looksForNight", "()V"⟩
abbrev cX6_lampAt : ByteArray := prog_8_method_37_code
def yX6_lampAt : MethodName := ⟨RX6, "lampAt", "(III)I"⟩
abbrev cX6_lays : ByteArray := prog_8_method_38_code
def yX6_lays : MethodName := ⟨RX6, "lays", "(II)V"⟩
abbrev cX6_laysAll : ByteArray := prog_8_method_39_code
def yX6_laysAll : MethodName := ⟨RX6, "laysAll", "()V"⟩
abbrev cX6_votesFor : ByteArray := prog_8_method_40_code
def yX6_votesFor : MethodName := ⟨RX6, "votesFor", "(I)I"⟩
abbrev cX6_greater : ByteArray := prog_8_method_41_code
def yX6_greater : MethodName := ⟨RX6, "greater", "(II)I"⟩
abbrev cX6_mayor : ByteArray := prog_8_method_42_code
def yX6_mayor : MethodName := ⟨RX6, "mayor", "()I"⟩
abbrev cX6_vote : ByteArray := prog_8_method_43_code
def yX6_vote : MethodName := ⟨RX6, "vote", "(I)I"⟩
abbrev cX6_lies : ByteArray := prog_8_method_44_code
def yX6_lies : MethodName := ⟨RX6, "lies", "(II)I"⟩
abbrev cX6_ward : ByteArray := prog_8_method_45_code
def yX6_ward : MethodName := ⟨RX6, "ward", "(I)I"⟩
abbrev cX6_driftOf : ByteArray := prog_8_method_46_code
def yX6_driftOf : MethodName := ⟨RX6, "driftOf", "(II)I"⟩
abbrev cX6_drifts : ByteArray := prog_8_method_47_code
def yX6_drifts : MethodName := ⟨RX6, "drifts", "(II)I"⟩
abbrev cX6_from : ByteArray := prog_8_method_48_code
def yX6_from : MethodName := ⟨RX6, "from", "(III)I"⟩
abbrev cX6_turnsWishes : ByteArray := prog_8_method_49_code
def yX6_turnsWishes : MethodName := ⟨RX6, "turnsWishes", "(I)V"⟩
abbrev cX6_count1 : ByteArray := prog_8_method_50_code
def yX6_count1 : MethodName := ⟨RX6, "count1", "(I)I"⟩
abbrev cX6_mayorBy : ByteArray := prog_8_method_51_code
def yX6_mayorBy : MethodName := ⟨RX6, "mayorBy", "(I)I"⟩
abbrev cX6_turns : ByteArray := prog_8_method_52_code
def yX6_turns : MethodName := ⟨RX6, "turns", "(I)I"⟩
abbrev cX6_lowest : ByteArray := prog_8_method_53_code
def yX6_lowest : MethodName := ⟨RX6, "lowest", "(JJI)J"⟩
abbrev cX6_sways : ByteArray := prog_8_method_54_code
def yX6_sways : MethodName := ⟨RX6, "sways", "(II)J"⟩
abbrev cX6_stick : ByteArray := prog_8_method_55_code
def yX6_stick : MethodName := ⟨RX6, "stick", "(I)I"⟩
abbrev cX6_moreOf : ByteArray := prog_8_method_56_code
def yX6_moreOf : MethodName := ⟨RX6, "moreOf", "(I)I"⟩
abbrev cX6_looksForBest : ByteArray := prog_8_method_57_code
def yX6_looksForBest : MethodName := ⟨RX6, "looksForBest", "(I)V"⟩
abbrev cX6_set : ByteArray := prog_8_method_58_code
def yX6_set : MethodName := ⟨RX6, "set", "(II)I"⟩
abbrev cX6_game : ByteArray := prog_8_method_59_code
def yX6_game : MethodName := ⟨RX6, "game", "(III)I"⟩
abbrev cX6_see : ByteArray := prog_8_method_60_code
def yX6_see : MethodName := ⟨RX6, "see", "(II)I"⟩
abbrev cX6_lampsAt : ByteArray := prog_8_method_61_code
def yX6_lampsAt : MethodName := ⟨RX6, "lampsAt", "(I)I"⟩
abbrev cX6_fits : ByteArray := prog_8_method_62_code
def yX6_fits : MethodName := ⟨RX6, "fits", "(I)I"⟩
abbrev cX6_fair : ByteArray := prog_8_method_63_code
def yX6_fair : MethodName := ⟨RX6, "fair", "(I)I"⟩
abbrev cX6_tale : ByteArray := prog_8_method_64_code
def yX6_tale : MethodName := ⟨RX6, "tale", "(III)I"⟩
abbrev cX6_looked : ByteArray := prog_8_method_65_code
def yX6_looked : MethodName := ⟨RX6, "looked", "()I"⟩
abbrev cX6_ranBody : ByteArray := prog_8_method_66_code
def yX6_ranBody : MethodName := ⟨RX6, "ranBody", "(I)V"⟩
abbrev cX6_isUnder : ByteArray := prog_8_method_67_code
def yX6_isUnder : MethodName := ⟨RX6, "isUnder", "(II)Z"⟩
abbrev cX6_plainSets : ByteArray := prog_8_method_68_code
def yX6_plainSets : MethodName := ⟨RX6, "plainSets", "(I)I"⟩
abbrev cX6_setsActs : ByteArray := prog_8_method_69_code
def yX6_setsActs : MethodName := ⟨RX6, "setsActs", "(I)I"⟩
abbrev cX6_plainBurns : ByteArray := prog_8_method_70_code
def yX6_plainBurns : MethodName := ⟨RX6, "plainBurns", "(I)I"⟩
abbrev cX6_burnsActs : ByteArray := prog_8_method_71_code
def yX6_burnsActs : MethodName := ⟨RX6, "burnsActs", "(I)I"⟩
abbrev cX6_plainTells : ByteArray := prog_8_method_72_code
def yX6_plainTells : MethodName := ⟨RX6, "plainTells", "(I)I"⟩
abbrev cX6_tellsActs : ByteArray := prog_8_method_73_code
def yX6_tellsActs : MethodName := ⟨RX6, "tellsActs", "(I)I"⟩
abbrev cX6_act : ByteArray := prog_8_method_74_code
def yX6_act : MethodName := ⟨RX6, "act", "(III)I"⟩
abbrev cX6_trace : ByteArray := prog_8_method_75_code
def yX6_trace : MethodName := ⟨RX6, "trace", "(I)I"⟩
abbrev cX6_as : ByteArray := prog_8_method_76_code
def yX6_as : MethodName := ⟨RX6, "as", "(II)I"⟩
abbrev cX6_image : ByteArray := prog_8_method_77_code
def yX6_image : MethodName := ⟨RX6, "image", "()I"⟩
abbrev cX6_undo : ByteArray := prog_8_method_78_code
def yX6_undo : MethodName := ⟨RX6, "undo", "()I"⟩
abbrev cX6_count : ByteArray := prog_8_method_79_code
def yX6_count : MethodName := ⟨RX6, "count", "(I)I"⟩
def RJx145de : String := "java/io/Serializable"
def TJx145de : u_T := fun k => match k with
  | _ => ("", "", "", false)
def tyJx145de : Nat → FieldType := fun k => match k with
  | _ => .int
abbrev wsJx145de0 : List Cond := u_ws RJx145de TJx145de 0
theorem nmJx145de : ∀ a, a < 0 → ∀ b, b < 0 → a ≠ b → (TJx145de a).2.1 ≠ (TJx145de b).2.1 := by decide +kernel
theorem tyJx145de_ok : ∀ k, k < 0 → parseFieldDescriptor (TJx145de k).2.2.1 = some (tyJx145de k) := by decide +kernel
def RJx9f9b0 : String := "java/lang/CharSequence"
def TJx9f9b0 : u_T := fun k => match k with
  | _ => ("", "", "", false)
def tyJx9f9b0 : Nat → FieldType := fun k => match k with
  | _ => .int
abbrev wsJx9f9b00 : List Cond := u_ws RJx9f9b0 TJx9f9b0 0
theorem nmJx9f9b0 : ∀ a, a < 0 → ∀ b, b < 0 → a ≠ b → (TJx9f9b0 a).2.1 ≠ (TJx9f9b0 b).2.1 := by decide +kernel
theorem tyJx9f9b0_ok : ∀ k, k < 0 → parseFieldDescriptor (TJx9f9b0 k).2.2.1 = some (tyJx9f9b0 k) := by decide +kernel
def RJ11 : String := "java/lang/Character"
def TJ11 : u_T := fun k => match k with
  | _ => ("", "", "", false)
def tyJ11 : Nat → FieldType := fun k => match k with
  | _ => .int
abbrev wsJ110 : List Cond := u_ws RJ11 TJ11 0
theorem nmJ11 : ∀ a, a < 0 → ∀ b, b < 0 → a ≠ b → (TJ11 a).2.1 ≠ (TJ11 b).2.1 := by decide +kernel
theorem tyJ11_ok : ∀ k, k < 0 → parseFieldDescriptor (TJ11 k).2.2.1 = some (tyJ11 k) := by decide +kernel
abbrev cJ11_isValidCodePoint_9a6ad : ByteArray := prog_9_method_11_code
def yJ11_isValidCodePoint_9a6ad : MethodName := ⟨RJ11, "isValidCodePoint", "(I)Z"⟩
abbrev cJ11_highSurrogate_5068e : ByteArray := prog_9_method_28_code
def yJ11_highSurrogate_5068e : MethodName := ⟨RJ11, "highSurrogate", "(I)C"⟩
abbrev cJ11_lowSurrogate_5068e : ByteArray := prog_9_method_29_code
def yJ11_lowSurrogate_5068e : MethodName := ⟨RJ11, "lowSurrogate", "(I)C"⟩
def RJx8e188 : String := "java/lang/Cloneable"
def TJx8e188 : u_T := fun k => match k with
  | _ => ("", "", "", false)
def tyJx8e188 : Nat → FieldType := fun k => match k with
  | _ => .int
abbrev wsJx8e1880 : List Cond := u_ws RJx8e188 TJx8e188 0
theorem nmJx8e188 : ∀ a, a < 0 → ∀ b, b < 0 → a ≠ b → (TJx8e188 a).2.1 ≠ (TJx8e188 b).2.1 := by decide +kernel
theorem tyJx8e188_ok : ∀ k, k < 0 → parseFieldDescriptor (TJx8e188 k).2.2.1 = some (tyJx8e188 k) := by decide +kernel
def RJxb160c : String := "java/lang/Comparable"
def TJxb160c : u_T := fun k => match k with
  | _ => ("", "", "", false)
def tyJxb160c : Nat → FieldType := fun k => match k with
  | _ => .int
abbrev wsJxb160c0 : List Cond := u_ws RJxb160c TJxb160c 0
theorem nmJxb160c : ∀ a, a < 0 → ∀ b, b < 0 → a ≠ b → (TJxb160c a).2.1 ≠ (TJxb160c b).2.1 := by decide +kernel
theorem tyJxb160c_ok : ∀ k, k < 0 → parseFieldDescriptor (TJxb160c k).2.2.1 = some (tyJxb160c k) := by decide +kernel
def RJ6 : String := "java/lang/Integer"
def TJ6 : u_T := fun k => match k with
  | _ => ("", "", "", false)
def tyJ6 : Nat → FieldType := fun k => match k with
  | _ => .int
abbrev wsJ60 : List Cond := u_ws RJ6 TJ6 0
theorem nmJ6 : ∀ a, a < 0 → ∀ b, b < 0 → a ≠ b → (TJ6 a).2.1 ≠ (TJ6 b).2.1 := by decide +kernel
theorem tyJ6_ok : ∀ k, k < 0 → parseFieldDescriptor (TJ6 k).2.2.1 = some (tyJ6 k) := by decide +kernel
abbrev cJ6_bitCount_0f7a4 : ByteArray := prog_11_method_49_code
def yJ6_bitCount_0f7a4 : MethodName := ⟨RJ6, "bitCount", "(I)I"⟩
def RJ9 : String := "java/lang/Math"
def TJ9 : u_T := fun k => match k with
  | _ => ("", "", "", false)
def tyJ9 : Nat → FieldType := fun k => match k with
  | _ => .int
abbrev wsJ90 : List Cond := u_ws RJ9 TJ9 0
theorem nmJ9 : ∀ a, a < 0 → ∀ b, b < 0 → a ≠ b → (TJ9 a).2.1 ≠ (TJ9 b).2.1 := by decide +kernel
theorem tyJ9_ok : ∀ k, k < 0 → parseFieldDescriptor (TJ9 k).2.2.1 = some (tyJ9 k) := by decide +kernel
abbrev cJ9_abs_0f7a4 : ByteArray := prog_12_method_59_code
def yJ9_abs_0f7a4 : MethodName := ⟨RJ9, "abs", "(I)I"⟩
abbrev cJ9_max_7cf53 : ByteArray := prog_12_method_65_code
def yJ9_max_7cf53 : MethodName := ⟨RJ9, "max", "(II)I"⟩
abbrev cJ9_min_7cf53 : ByteArray := prog_12_method_69_code
def yJ9_min_7cf53 : MethodName := ⟨RJ9, "min", "(II)I"⟩
def RJ0 : String := "java/lang/String"
def TJ0 : u_T := fun k => match k with
  | _ => ("", "", "", false)
def tyJ0 : Nat → FieldType := fun k => match k with
  | _ => .int
abbrev wsJ00 : List Cond := u_ws RJ0 TJ0 0
theorem nmJ0 : ∀ a, a < 0 → ∀ b, b < 0 → a ≠ b → (TJ0 a).2.1 ≠ (TJ0 b).2.1 := by decide +kernel
theorem tyJ0_ok : ∀ k, k < 0 → parseFieldDescriptor (TJ0 k).2.2.1 = some (tyJ0 k) := by decide +kernel
abbrev cJ0_length_8abf5 : ByteArray := prog_13_method_54_code
def yJ0_length_8abf5 : MethodName := ⟨RJ0, "length", "()I"⟩
abbrev cJ0_charAt_5068e : ByteArray := prog_13_method_56_code
def yJ0_charAt_5068e : MethodName := ⟨RJ0, "charAt", "(I)C"⟩
abbrev cJ0_indexOf_0f7a4 : ByteArray := prog_13_method_79_code
def yJ0_indexOf_0f7a4 : MethodName := ⟨RJ0, "indexOf", "(I)I"⟩
abbrev cJ0_indexOf_7cf53 : ByteArray := prog_13_method_80_code
def yJ0_indexOf_7cf53 : MethodName := ⟨RJ0, "indexOf", "(II)I"⟩
abbrev cJ0_coder_7d493 : ByteArray := prog_13_method_152_code
def yJ0_coder_7d493 : MethodName := ⟨RJ0, "coder", "()B"⟩
abbrev cJ0_isLatin1_aae02 : ByteArray := prog_13_method_154_code
def yJ0_isLatin1_aae02 : MethodName := ⟨RJ0, "isLatin1", "()Z"⟩
abbrev cJ0_checkIndex_df160 : ByteArray := prog_13_method_155_code
def yJ0_checkIndex_df160 : MethodName := ⟨RJ0, "checkIndex", "(II)V"⟩
abbrev cJ0_checkBoundsBeginEnd_23922 : ByteArray := prog_13_method_158_code
def yJ0_checkBoundsBeginEnd_23922 : MethodName := ⟨RJ0, "checkBoundsBeginEnd", "(III)V"⟩
def RJ1 : String := "java/lang/StringLatin1"
def TJ1 : u_T := fun k => match k with
  | _ => ("", "", "", false)
def tyJ1 : Nat → FieldType := fun k => match k with
  | _ => .int
abbrev wsJ10 : List Cond := u_ws RJ1 TJ1 0
theorem nmJ1 : ∀ a, a < 0 → ∀ b, b < 0 → a ≠ b → (TJ1 a).2.1 ≠ (TJ1 b).2.1 := by decide +kernel
theorem tyJ1_ok : ∀ k, k < 0 → parseFieldDescriptor (TJ1 k).2.2.1 = some (tyJ1 k) := by decide +kernel
abbrev cJ1_charAt_3b067 : ByteArray := prog_14_method_2_code
def yJ1_charAt_3b067 : MethodName := ⟨RJ1, "charAt", "([BI)C"⟩
abbrev cJ1_canEncode_9a6ad : ByteArray := prog_14_method_4_code
def yJ1_canEncode_9a6ad : MethodName := ⟨RJ1, "canEncode", "(I)Z"⟩
abbrev cJ1_indexOf_4cfef : ByteArray := prog_14_method_22_code
def yJ1_indexOf_4cfef : MethodName := ⟨RJ1, "indexOf", "([BIII)I"⟩
abbrev cJ1_indexOfChar_4cfef : ByteArray := prog_14_method_23_code
def yJ1_indexOfChar_4cfef : MethodName := ⟨RJ1, "indexOfChar", "([BIII)I"⟩
def RJ2 : String := "java/lang/StringUTF16"
def TJ2 : u_T := fun k => match k with
  | _ => ("", "", "", false)
def tyJ2 : Nat → FieldType := fun k => match k with
  | _ => .int
abbrev wsJ20 : List Cond := u_ws RJ2 TJ2 0
theorem nmJ2 : ∀ a, a < 0 → ∀ b, b < 0 → a ≠ b → (TJ2 a).2.1 ≠ (TJ2 b).2.1 := by decide +kernel
theorem tyJ2_ok : ∀ k, k < 0 → parseFieldDescriptor (TJ2 k).2.2.1 = some (tyJ2 k) := by decide +kernel
abbrev cJ2_getChar_3b067 : ByteArray := prog_15_method_5_code
def yJ2_getChar_3b067 : MethodName := ⟨RJ2, "getChar", "([BI)C"⟩
abbrev cJ2_length_9d52b : ByteArray := prog_15_method_6_code
def yJ2_length_9d52b : MethodName := ⟨RJ2, "length", "([B)I"⟩
abbrev cJ2_indexOf_4cfef : ByteArray := prog_15_method_40_code
def yJ2_indexOf_4cfef : MethodName := ⟨RJ2, "indexOf", "([BIII)I"⟩
abbrev cJ2_indexOfChar_4cfef : ByteArray := prog_15_method_47_code
def yJ2_indexOfChar_4cfef : MethodName := ⟨RJ2, "indexOfChar", "([BIII)I"⟩
abbrev cJ2_indexOfCharUnsafe_4cfef : ByteArray := prog_15_method_48_code
def yJ2_indexOfCharUnsafe_4cfef : MethodName := ⟨RJ2, "indexOfCharUnsafe", "([BIII)I"⟩
abbrev cJ2_indexOfSupplementary_4cfef : ByteArray := prog_15_method_49_code
def yJ2_indexOfSupplementary_4cfef : MethodName := ⟨RJ2, "indexOfSupplementary", "([BIII)I"⟩
abbrev cJ2_charAt_3b067 : ByteArray := prog_15_method_83_code
def yJ2_charAt_3b067 : MethodName := ⟨RJ2, "charAt", "([BI)C"⟩
abbrev cJ2_checkIndex_2214a : ByteArray := prog_15_method_91_code
def yJ2_checkIndex_2214a : MethodName := ⟨RJ2, "checkIndex", "(I[B)V"⟩
abbrev cJ2_checkBoundsBeginEnd_d044e : ByteArray := prog_15_method_93_code
def yJ2_checkBoundsBeginEnd_d044e : MethodName := ⟨RJ2, "checkBoundsBeginEnd", "(II[B)V"⟩
def RJ10 : String := "java/lang/System"
def TJ10 : u_T := fun k => match k with
  | _ => ("", "", "", false)
def tyJ10 : Nat → FieldType := fun k => match k with
  | _ => .int
abbrev wsJ100 : List Cond := u_ws RJ10 TJ10 0
theorem nmJ10 : ∀ a, a < 0 → ∀ b, b < 0 → a ≠ b → (TJ10 a).2.1 ≠ (TJ10 b).2.1 := by decide +kernel
theorem tyJ10_ok : ∀ k, k < 0 → parseFieldDescriptor (TJ10 k).2.2.1 = some (tyJ10 k) := by decide +kernel
def RJxfd54e : String := "java/lang/constant/Constable"
def TJxfd54e : u_T := fun k => match k with
  | _ => ("", "", "", false)
def tyJxfd54e : Nat → FieldType := fun k => match k with
  | _ => .int
abbrev wsJxfd54e0 : List Cond := u_ws RJxfd54e TJxfd54e 0
theorem nmJxfd54e : ∀ a, a < 0 → ∀ b, b < 0 → a ≠ b → (TJxfd54e a).2.1 ≠ (TJxfd54e b).2.1 := by decide +kernel
theorem tyJxfd54e_ok : ∀ k, k < 0 → parseFieldDescriptor (TJxfd54e k).2.2.1 = some (tyJxfd54e k) := by decide +kernel
def RJx3cf43 : String := "java/lang/constant/ConstantDesc"
def TJx3cf43 : u_T := fun k => match k with
  | _ => ("", "", "", false)
def tyJx3cf43 : Nat → FieldType := fun k => match k with
  | _ => .int
abbrev wsJx3cf430 : List Cond := u_ws RJx3cf43 TJx3cf43 0
theorem nmJx3cf43 : ∀ a, a < 0 → ∀ b, b < 0 → a ≠ b → (TJx3cf43 a).2.1 ≠ (TJx3cf43 b).2.1 := by decide +kernel
theorem tyJx3cf43_ok : ∀ k, k < 0 → parseFieldDescriptor (TJx3cf43 k).2.2.1 = some (tyJx3cf43 k) := by decide +kernel
def RJ7 : String := "java/util/Arrays"
def TJ7 : u_T := fun k => match k with
  | _ => ("", "", "", false)
def tyJ7 : Nat → FieldType := fun k => match k with
  | _ => .int
abbrev wsJ70 : List Cond := u_ws RJ7 TJ7 0
theorem nmJ7 : ∀ a, a < 0 → ∀ b, b < 0 → a ≠ b → (TJ7 a).2.1 ≠ (TJ7 b).2.1 := by decide +kernel
theorem tyJ7_ok : ∀ k, k < 0 → parseFieldDescriptor (TJ7 k).2.2.1 = some (tyJ7 k) := by decide +kernel
abbrev cJ7_fill_53178 : ByteArray := prog_17_method_103_code
def yJ7_fill_53178 : MethodName := ⟨RJ7, "fill", "([II)V"⟩
abbrev cJ7_copyOf_59c91 : ByteArray := prog_17_method_123_code
def yJ7_copyOf_59c91 : MethodName := ⟨RJ7, "copyOf", "([II)[I"⟩
def RJ3 : String := "jdk/internal/util/Preconditions"
def TJ3 : u_T := fun k => match k with
  | _ => ("", "", "", false)
def tyJ3 : Nat → FieldType := fun k => match k with
  | _ => .int
abbrev wsJ30 : List Cond := u_ws RJ3 TJ3 0
theorem nmJ3 : ∀ a, a < 0 → ∀ b, b < 0 → a ≠ b → (TJ3 a).2.1 ≠ (TJ3 b).2.1 := by decide +kernel
theorem tyJ3_ok : ∀ k, k < 0 → parseFieldDescriptor (TJ3 k).2.2.1 = some (tyJ3 k) := by decide +kernel
abbrev cJ3_checkIndex_8e157 : ByteArray := prog_18_method_11_code
def yJ3_checkIndex_8e157 : MethodName := ⟨RJ3, "checkIndex", "(IILjava/util/function/BiFunction;)I"⟩
abbrev cJ3_checkFromToIndex_8c36e : ByteArray := prog_18_method_12_code
def yJ3_checkFromToIndex_8c36e : MethodName := ⟨RJ3, "checkFromToIndex", "(IIILjava/util/function/BiFunction;)I"⟩
def RL : String := "LampVoteLaw"
abbrev cL_law : ByteArray := code
def yL_law : MethodName := ⟨RL, "law", "([I)Z"⟩
abbrev vwCl : List vw_C := [(RX0, TX0, 3), (RX1, TX1, 17), (RX2, TX2, 8), (RX3, TX3, 15), (RX4, TX4, 4), (RX5, TX5, 6), (RX6, TX6, 26)]
end
section
/-! the judgement of a method's body: at pc, with the locals lv, the stack st, the state x of the world -/
/-- all the tables' words that a callee may take over -/
def jx_ws : List Cond := lw_tbl.filter goodWord
theorem jx_good : ∀ w ∈ jx_ws, goodWord w = true := fun _ h => (List.mem_filter.mp h).2
theorem jx_tt {w : Cond} (h : w ∈ tables_1) (hg : goodWord w = true) : w ∈ jx_ws := List.mem_filter.mpr ⟨List.mem_append_right _ h, hg⟩
theorem jx_t1 {w : Cond} (h : w ∈ tables_1_1) (hg : goodWord w = true) : w ∈ jx_ws := jx_tt (List.mem_append_left _ h) hg
theorem jx_t2 {w : Cond} (h : w ∈ tables_1_2) (hg : goodWord w = true) : w ∈ jx_ws := jx_tt (List.mem_append_right _ (List.mem_append_left _ h)) hg
theorem jx_t3 {w : Cond} (h : w ∈ tables_1_3) (hg : goodWord w = true) : w ∈ jx_ws := jx_tt (List.mem_append_right _ (List.mem_append_right _ (List.mem_append_left _ h))) hg
theorem jx_t4 {w : Cond} (h : w ∈ tables_1_4) (hg : goodWord w = true) : w ∈ jx_ws := jx_tt (List.mem_append_right _ (List.mem_append_right _ (List.mem_append_right _ (List.mem_append_left _ h)))) hg
theorem jx_t5 {w : Cond} (h : w ∈ tables_1_5) (hg : goodWord w = true) : w ∈ jx_ws := jx_tt (List.mem_append_right _ (List.mem_append_right _ (List.mem_append_right _ (List.mem_append_right _ (List.mem_append_left _ h))))) hg
theorem jx_t6 {w : Cond} (h : w ∈ tables_1_6) (hg : goodWord w = true) : w ∈ jx_ws := jx_tt (List.mem_append_right _ (List.mem_append_right _ (List.mem_append_right _ (List.mem_append_right _ (List.mem_append_right _ h))))) hg
theorem jx_pv {q : MethodName × Nat} (h : q ∈ lw_privs) : Cond.selects q.1.cls q.1 q.1 ∈ jx_ws := List.mem_filter.mpr ⟨List.mem_append_left _ (List.mem_map.mpr ⟨q, h, rfl⟩), rfl⟩
theorem jx_p1 {q : MethodName × Nat} (h : q ∈ lw_privs_1) : q ∈ lw_privs := List.mem_append_left _ h
theorem jx_p2 {q : MethodName × Nat} (h : q ∈ lw_privs_2) : q ∈ lw_privs := List.mem_append_right _ (List.mem_append_left _ h)
theorem jx_p3 {q : MethodName × Nat} (h : q ∈ lw_privs_3) : q ∈ lw_privs := List.mem_append_right _ (List.mem_append_right _ (List.mem_append_left _ h))
theorem jx_p4 {q : MethodName × Nat} (h : q ∈ lw_privs_4) : q ∈ lw_privs := List.mem_append_right _ (List.mem_append_right _ (List.mem_append_right _ (List.mem_append_left _ h)))
theorem jx_p5 {q : MethodName × Nat} (h : q ∈ lw_privs_5) : q ∈ lw_privs := List.mem_append_right _ (List.mem_append_right _ (List.mem_append_right _ (List.mem_append_right _ h)))
def jx_A (rg : Nat → Prop) (sz : Nat) : Nat → Prop := fun q => rg q ∨ sz ≤ q
def jx_J (l : Launch) {X : Type} (env : (Nat → Prop) → State → Prop) (dyn : X → Heap → Prop) (rg : Nat → Prop) (sz : Nat) (own nm : String) (cc : ByteArray) (nL : Nat) (ret : Option FieldType) (R : Room) (Qf : List Frame → Array Value → State → State → Prop) (ce sl pc : Nat) (lv : List (Nat × Value)) (st : List Value) (x : X) : Prop :=
  ∀ (p : Program) (e : Env) (s : State) (m : MethodId) (args : Array Value) (below : List Frame) (meth : Method) (c : Code), CallFix p m c cc nL s args jx_ws own → meth.sig.returnType = ret → meth.locks = false → meth.name = nm → s.heap.size = sz → env (jx_A rg sz) s → ∀ (H : Heap) (locs : List Loc) (ls : Array Slot), lv_has ls nL lv → dyn x H → va_S (jx_A rg sz) s.heap H locs → W p l e R s m args below meth c H locs ce sl (Qf below args s) (F0 m pc ls st)
def jx_g : List (Nat × Value) → Nat → Option Value
  | [], _ => none
  | q :: r, i => cond (Nat.beq q.1 i) (some q.2) (jx_g r i)
theorem jx_g_has {ls : Array Slot} {n : Nat} {i : Nat} {v : Value} : ∀ {l : List (Nat × Value)}, (∀ q ∈ l, ls[q.1]? = some (.val q.2)) → jx_g l i = some v → ls[i]? = some (.val v)
  | [], _, h => by cases h
  | q :: r, hh, h => by
    unfold jx_g at h
    cases hb : Nat.beq q.1 i with
    | true =>
      rw [hb] at h
      cases h
      have e := Nat.eq_of_beq_eq_true hb
      subst e
      exact hh q List.mem_cons_self
    | false =>
      rw [hb] at h
      exact jx_g_has (n := n) (fun z hz => hh z (List.mem_cons_of_mem _ hz)) h
theorem jx_g_at {v : Value} {i : Nat} : ∀ {l : List (Nat × Value)}, jx_g l i = some v → ∃ k : Nat, l[k]? = some (i, v)
  | [], h => by cases h
  | q :: r, h => by
    unfold jx_g at h
    cases hb : Nat.beq q.1 i with
    | true =>
      rw [hb] at h
      cases h
      have e := Nat.eq_of_beq_eq_true hb
      subst e
      exact ⟨0, rfl⟩
    | false =>
      rw [hb] at h
      obtain ⟨k, hk⟩ := jx_g_at h
      exact ⟨k + 1, hk⟩
def jx_lt {α β : Type} (e : α) (k : α → β) : β := k e
theorem jx_lt_o {α β : Type} {e : α} {k : α → β} {o : β} (h : jx_lt e k = o) : ∃ x, x = e ∧ k x = o := ⟨e, rfl, h⟩
def jx_in (i : Int32) (n : Nat) : Bool := decide (¬ (i < 0 ∨ n ≤ i.toNatClampNeg))
def jx_gd {α : Type} (b : Bool) (k : Option α) : Option α := if b = true then k else none
theorem jx_gd_o {α : Type} {b : Bool} {k : Option α} {o : α} (h : jx_gd b k = some o) : b = true ∧ k = some o := by
  unfold jx_gd at h
  by_cases hb : b = true
  · rw [if_pos hb] at h
    exact ⟨hb, h⟩
  · rw [if_neg hb] at h
    cases h
theorem jx_in_o {i : Int32} {n : Nat} (h : jx_in i n = true) : vp_in i n := (of_decide_eq_true h : ¬ (i < 0 ∨ n ≤ i.toNatClampNeg))
def jx_bd {α β : Type} (a : Option α) (k : α → Option β) : Option β := match a with
  | none => none
  | some x => k x
theorem jx_bd_o {α β : Type} {a : Option α} {k : α → Option β} {o : β} (h : jx_bd a k = some o) : ∃ x, a = some x ∧ k x = some o := by
  cases a with
  | none => cases h
  | some x => exact ⟨x, rfl, h⟩
theorem jx_t {α : Type} {c : Prop} {dc : Decidable c} {a b o : α} (hc : c) (h : @ite α c dc a b = o) : a = o := (if_pos hc).symm.trans h
theorem jx_f {α : Type} {c : Prop} {dc : Decidable c} {a b o : α} (hc : ¬ c) (h : @ite α c dc a b = o) : b = o := (if_neg hc).symm.trans h
abbrev jx_M : Type := Nat → Nat → Int32
def jx_mu (σ : jx_M) (a i : Nat) (v : Int32) : jx_M := fun b => if b = a then upd (σ a) i v else σ b
def jx_fuel : Nat := 1000
def jx_nb (x : Int32) : Int32 := vp_nar .boolean x
def jx_Pc {X : Type} (env : (Nat → Prop) → State → Prop) (dyn : X → Heap → Prop) (rg : Nat → Prop) (sz : Nat) (x : X) (av : List Value) : Array Value → State → Prop := va_Pc av (fun U => U.heap.size = sz ∧ env (jx_A rg sz) U ∧ dyn x U.heap)
def jx_Qi {X : Type} (dyn : X → Heap → Prop) (x : X) (v : Int32) (A : Nat → Prop) : Array Value → State → Outcome → State → Prop := va_Qi (fun r (_ : Unit) => r = v) (fun _ t => dyn x t.heap) A
def jx_Ql {X : Type} (dyn : X → Heap → Prop) (x : X) (v : Int64) (A : Nat → Prop) : Array Value → State → Outcome → State → Prop := va_Ql (fun r (_ : Unit) => r = v) (fun _ t => dyn x t.heap) A
def jx_Qv {X : Type} (dyn : X → Heap → Prop) (x : X) (A : Nat → Prop) : Array Value → State → Outcome → State → Prop := va_Qv (fun (_ : Unit) => True) (fun _ t => dyn x t.heap) A
def jx_Qr {X : Type} (dyn : X → Heap → Prop) (x : X) (v : Nat) (A : Nat → Prop) : Array Value → State → Outcome → State → Prop := va_Qr (fun (_ : Unit) => True) (fun _ a t => a = v ∧ dyn x t.heap) A
def jx_ok (rg : Nat → Prop) (env : (Nat → Prop) → State → Prop) : Prop :=
  (∀ (A : Nat → Prop) (U : State) (g : JFrame) (mk : MethodId) (a : Array Value), env A U → env A (U.calling g mk a)) ∧ ∀ (sz : Nat) (s U : State) (H : Heap) (locs : List Loc), s.heap.size = sz → env (jx_A rg sz) s → va_S (jx_A rg sz) s.heap H locs → U.heap = H → s.WarmedH U.vm → env (jx_A rg H.size) U
theorem jx_nbv {v : Int32} (h : v = 0 ∨ v = 1) : jx_nb v = v := by rcases h with rfl | rfl <;> decide +kernel
theorem jx_narc {v : Int32} (h : vp_nar .char v = v) : narrow .char (.int v) = .int v := congrArg Value.int h
theorem jx_nar {v : Int32} (h : v = 0 ∨ v = 1) : narrow .boolean (.int v) = .int v := congrArg Value.int (jx_nbv h)
theorem jx_fit {v : Int32} (h : v = 0 ∨ v = 1) : fits .boolean (.int v) = true := by rcases h with rfl | rfl <;> decide +kernel
abbrev jx_kD (y : MethodName) (n : Nat) : Prop := y.cls ≠ "java/lang/invoke/MethodHandle" ∧ y.cls ≠ "java/lang/invoke/VarHandle" ∧ (parseMethodDescriptor y.desc).map (fun d => d.parameters.length) = some n
def jx_kV (own : String) (index : Nat) (Cn : String) (y : MethodName) (bytes : ByteArray) (maxL : Nat) (ret2 : Option FieldType) (n : Nat) : Prop := Cond.methodLink own index y ∈ jx_ws ∧ Cond.instanceMethod y ∈ jx_ws ∧ Cond.selects Cn y y ∈ jx_ws ∧ Cond.initialized Cn ∈ jx_ws ∧ Cond.code y bytes maxL ret2 ∈ jx_ws ∧ y.cls = Cn ∧ jx_kD y n
def jx_kS (own : String) (index : Nat) (y : MethodName) (bytes : ByteArray) (maxL : Nat) (ret2 : Option FieldType) (n : Nat) : Prop := Cond.methodLink own index y ∈ jx_ws ∧ Cond.static y ∈ jx_ws ∧ Cond.initialized y.cls ∈ jx_ws ∧ Cond.code y bytes maxL ret2 ∈ jx_ws ∧ jx_kD y n
theorem jx_goodV {own Cn : String} {index n maxL : Nat} {y : MethodName} {bytes : ByteArray} {ret2 : Option FieldType} (h : jx_kV own index Cn y bytes maxL ret2 n) : GoodIn jx_ws (wsV own index Cn y (Cond.code y bytes maxL ret2 :: jx_ws)) := by
  intro w hw
  have hm : w ∈ jx_ws := by
    unfold wsV at hw
    obtain ⟨h1, h2, h3, h4, h5, -⟩ := h
    rcases List.mem_append.mp hw with q | q
    · rcases List.mem_cons.mp q with rfl | q
      · exact h1
      rcases List.mem_cons.mp q with rfl | q
      · exact h2
      rcases List.mem_cons.mp q with rfl | q
      · exact h3
      rcases List.mem_cons.mp q with rfl | q
      · exact h4
      · cases q
    · rcases List.mem_cons.mp q with rfl | q
      · exact h5
      · exact q
  exact ⟨hm, good_of_word (jx_good w hm)⟩
theorem jx_goodS {own : String} {index n maxL : Nat} {y : MethodName} {bytes : ByteArray} {ret2 : Option FieldType} (h : jx_kS own index y bytes maxL ret2 n) : GoodIn jx_ws (va_wsS own index y (Cond.code y bytes maxL ret2 :: jx_ws)) := by
  intro w hw
  have hm : w ∈ jx_ws := by
    unfold va_wsS at hw
    obtain ⟨h1, h2, h3, h4, -⟩ := h
    rcases List.mem_append.mp hw with q | q
    · rcases List.mem_cons.mp q with rfl | q
      · exact h1
      rcases List.mem_cons.mp q with rfl | q
      · exact h2
      rcases List.mem_cons.mp q with rfl | q
      · exact h3
      · cases q
    · rcases List.mem_cons.mp q with rfl | q
      · exact h4
      · exact q
  exact ⟨hm, good_of_word (jx_good w hm)⟩
def jx_rc {X : Type} (env : (Nat → Prop) → State → Prop) (dyn : X → Heap → Prop) (rg : Nat → Prop) (b : Nat) (Cn : String) : Prop := ∀ (sz : Nat) (s : State) (x : X) (H : Heap) (locs : List Loc), env (jx_A rg sz) s → dyn x H → va_S (jx_A rg sz) s.heap H locs → ∃ cell : Cell, H[b]? = some cell ∧ cell.vm.isStatics = false ∧ s.vm.findClass Cn = some cell.cls
def jx_rm (rm R : Room) (maxL ce sl : Nat) : Prop := (rm.cells = 0 ∧ rm.slots = 0) ∧ (rm.frames + 1 ≤ R.frames ∧ 8 + (maxL + 11) + rm.locals ≤ R.locals) ∧ ce ≤ R.cells ∧ sl ≤ R.slots
section JX
variable {l : Launch} {X : Type} {env : (Nat → Prop) → State → Prop} {dyn : X → Heap → Prop} {rg : Nat → Prop} {sz : Nat} {own nm : String} {cc : ByteArray} {nL : Nat} {ret : Option FieldType} {R : Room} {Qf : List Frame → Array Value → State → State → Prop} {ce sl pc : Nat} {lv lv' : List (Nat × Value)} {st rest : List Value} {x : X}
theorem jx_met {y : MethodName} {rm : Room} {Qc : Array Value → State → Outcome → State → Prop} {mc ms : Nat} {av : List Value} (hy : plainName y.cls = true) (hn : (lg_sl av).length ≤ nL)
    (body : jx_J l env dyn rg sz y.cls y.name cc nL ret rm (fun below args s => MQ below Qc args s mc ms (jx_A rg sz)) 0 0 0 (lv_args 0 av) [] x) :
    Met l y (Cond.code y cc nL ret :: jx_ws) rm (jx_Pc env dyn rg sz x av) Qc mc ms (jx_A rg sz) := by
  refine Met.ofW (cc := cc) (maxL := nL) (ret := ret) hy rfl ?_
  intro p e s m args below meth c s₁ B hml hv
  obtain ⟨rfl, hsz, hE, hD⟩ := hv
  rw [lg_entry_eq]
  exact body p e s m _ below meth c ⟨B.exec, B.bytes, hml, findClass_of_methodNamed B.named, fun w h => atoms_spec (ws := Cond.code y cc nL ret :: jx_ws) B.pre w (List.mem_cons_of_mem _ h)⟩ B.returns B.notSynchronized (name_of_methodNamed B.named B.method).1 hsz hE s.heap [] _ (lv_entry av hn) hD va_S.rf
theorem jx_sub (ks : List Nat) (hl : lv_pick lv ks = lv') (k : jx_J l env dyn rg sz own nm cc nL ret R Qf ce sl pc lv' st x) : jx_J l env dyn rg sz own nm cc nL ret R Qf ce sl pc lv st x := by
  intro p e s m args below meth c C hr hk hn hs hE H locs ls hl2 hD hS
  exact k p e s m args below meth c C hr hk hn hs hE H locs ls (lv_sub hl2 ks hl) hD hS
theorem jx_iadd {x1 x2 : Int32} (d : decode cc pc = .ok (.iadd, 1)) (k : jx_J l env dyn rg sz own nm cc nL ret R Qf ce sl (pc + 1) lv (.int (x1 + x2) :: rest) x) : jx_J l env dyn rg sz own nm cc nL ret R Qf ce sl pc lv (.int x2 :: .int x1 :: rest) x := by
  intro p e s m args below meth c C hr hk hn hs hE H locs ls hl hD hS
  exact lv_iadd C.1 C.2.1 d (k p e s m args below meth c C hr hk hn hs hE H locs ls hl hD hS)
theorem jx_isub {x1 x2 : Int32} (d : decode cc pc = .ok (.isub, 1)) (k : jx_J l env dyn rg sz own nm cc nL ret R Qf ce sl (pc + 1) lv (.int (x1 - x2) :: rest) x) : jx_J l env dyn rg sz own nm cc nL ret R Qf ce sl pc lv (.int x2 :: .int x1 :: rest) x := by
  intro p e s m args below meth c C hr hk hn hs hE H locs ls hl hD hS
  exact lv_isub C.1 C.2.1 d (k p e s m args below meth c C hr hk hn hs hE H locs ls hl hD hS)
theorem jx_imul {x1 x2 : Int32} (d : decode cc pc = .ok (.imul, 1)) (k : jx_J l env dyn rg sz own nm cc nL ret R Qf ce sl (pc + 1) lv (.int (x1 * x2) :: rest) x) : jx_J l env dyn rg sz own nm cc nL ret R Qf ce sl pc lv (.int x2 :: .int x1 :: rest) x := by
  intro p e s m args below meth c C hr hk hn hs hE H locs ls hl hD hS
  exact lv_imul C.1 C.2.1 d (k p e s m args below meth c C hr hk hn hs hE H locs ls hl hD hS)
theorem jx_iand {x1 x2 : Int32} (d : decode cc pc = .ok (.iand, 1)) (k : jx_J l env dyn rg sz own nm cc nL ret R Qf ce sl (pc + 1) lv (.int (x1 &&& x2) :: rest) x) : jx_J l env dyn rg sz own nm cc nL ret R Qf ce sl pc lv (.int x2 :: .int x1 :: rest) x := by
  intro p e s m args below meth c C hr hk hn hs hE H locs ls hl hD hS
  exact lv_iand C.1 C.2.1 d (k p e s m args below meth c C hr hk hn hs hE H locs ls hl hD hS)
theorem jx_ior {x1 x2 : Int32} (d : decode cc pc = .ok (.ior, 1)) (k : jx_J l env dyn rg sz own nm cc nL ret R Qf ce sl (pc + 1) lv (.int (x1 ||| x2) :: rest) x) : jx_J l env dyn rg sz own nm cc nL ret R Qf ce sl pc lv (.int x2 :: .int x1 :: rest) x := by
  intro p e s m args below meth c C hr hk hn hs hE H locs ls hl hD hS
  exact lv_ior C.1 C.2.1 d (k p e s m args below meth c C hr hk hn hs hE H locs ls hl hD hS)
theorem jx_ixor {x1 x2 : Int32} (d : decode cc pc = .ok (.ixor, 1)) (k : jx_J l env dyn rg sz own nm cc nL ret R Qf ce sl (pc + 1) lv (.int (x1 ^^^ x2) :: rest) x) : jx_J l env dyn rg sz own nm cc nL ret R Qf ce sl pc lv (.int x2 :: .int x1 :: rest) x := by
  intro p e s m args below meth c C hr hk hn hs hE H locs ls hl hD hS
  exact lv_ixor C.1 C.2.1 d (k p e s m args below meth c C hr hk hn hs hE H locs ls hl hD hS)
theorem jx_ishl {x1 x2 : Int32} (d : decode cc pc = .ok (.ishl, 1)) (k : jx_J l env dyn rg sz own nm cc nL ret R Qf ce sl (pc + 1) lv (.int (x1 <<< (x2 &&& 31)) :: rest) x) : jx_J l env dyn rg sz own nm cc nL ret R Qf ce sl pc lv (.int x2 :: .int x1 :: rest) x := by
  intro p e s m args below meth c C hr hk hn hs hE H locs ls hl hD hS
  exact lv_ishl C.1 C.2.1 d (k p e s m args below meth c C hr hk hn hs hE H locs ls hl hD hS)
theorem jx_ishr {x1 x2 : Int32} (d : decode cc pc = .ok (.ishr, 1)) (k : jx_J l env dyn rg sz own nm cc nL ret R Qf ce sl (pc + 1) lv (.int (x1 >>> (x2 &&& 31)) :: rest) x) : jx_J l env dyn rg sz own nm cc nL ret R Qf ce sl pc lv (.int x2 :: .int x1 :: rest) x := by
  intro p e s m args below meth c C hr hk hn hs hE H locs ls hl hD hS
  exact lv_ishr C.1 C.2.1 d (k p e s m args below meth c C hr hk hn hs hE H locs ls hl hD hS)
theorem jx_iushr {x1 x2 : Int32} (d : decode cc pc = .ok (.iushr, 1)) (k : jx_J l env dyn rg sz own nm cc nL ret R Qf ce sl (pc + 1) lv (.int (x1.toUInt32 >>> (x2.toUInt32 &&& Int32.toUInt32 31)).toInt32 :: rest) x) : jx_J l env dyn rg sz own nm cc nL ret R Qf ce sl pc lv (.int x2 :: .int x1 :: rest) x := by
  intro p e s m args below meth c C hr hk hn hs hE H locs ls hl hD hS
  exact lv_iushr C.1 C.2.1 d rfl (k p e s m args below meth c C hr hk hn hs hE H locs ls hl hD hS)
theorem jx_ineg {x1 : Int32} (d : decode cc pc = .ok (.ineg, 1)) (k : jx_J l env dyn rg sz own nm cc nL ret R Qf ce sl (pc + 1) lv (.int (-x1) :: rest) x) : jx_J l env dyn rg sz own nm cc nL ret R Qf ce sl pc lv (.int x1 :: rest) x := by
  intro p e s m args below meth c C hr hk hn hs hE H locs ls hl hD hS
  exact lv_ineg C.1 C.2.1 d (k p e s m args below meth c C hr hk hn hs hE H locs ls hl hD hS)
theorem jx_idiv {x1 x2 : Int32} (hne : ¬ x2 = 0) (d : decode cc pc = .ok (.idiv, 1)) (k : jx_J l env dyn rg sz own nm cc nL ret R Qf ce sl (pc + 1) lv (.int (x1 / x2) :: rest) x) : jx_J l env dyn rg sz own nm cc nL ret R Qf ce sl pc lv (.int x2 :: .int x1 :: rest) x := by
  intro p e s m args below meth c C hr hk hn hs hE H locs ls hl hD hS
  exact lv_idiv C.1 C.2.1 d hne (k p e s m args below meth c C hr hk hn hs hE H locs ls hl hD hS)
theorem jx_irem {x1 x2 : Int32} (hne : ¬ x2 = 0) (d : decode cc pc = .ok (.irem, 1)) (k : jx_J l env dyn rg sz own nm cc nL ret R Qf ce sl (pc + 1) lv (.int (x1 - x1 / x2 * x2) :: rest) x) : jx_J l env dyn rg sz own nm cc nL ret R Qf ce sl pc lv (.int x2 :: .int x1 :: rest) x := by
  intro p e s m args below meth c C hr hk hn hs hE H locs ls hl hD hS
  exact lv_irem C.1 C.2.1 d hne (k p e s m args below meth c C hr hk hn hs hE H locs ls hl hD hS)
theorem jx_ladd {x1 x2 : Int64} (d : decode cc pc = .ok (.ladd, 1)) (k : jx_J l env dyn rg sz own nm cc nL ret R Qf ce sl (pc + 1) lv (.long (x1 + x2) :: rest) x) : jx_J l env dyn rg sz own nm cc nL ret R Qf ce sl pc lv (.long x2 :: .long x1 :: rest) x := by
  intro p e s m args below meth c C hr hk hn hs hE H locs ls hl hD hS
  exact lv_ladd C.1 C.2.1 d (k p e s m args below meth c C hr hk hn hs hE H locs ls hl hD hS)
theorem jx_land {x1 x2 : Int64} (d : decode cc pc = .ok (.land, 1)) (k : jx_J l env dyn rg sz own nm cc nL ret R Qf ce sl (pc + 1) lv (.long (x1 &&& x2) :: rest) x) : jx_J l env dyn rg sz own nm cc nL ret R Qf ce sl pc lv (.long x2 :: .long x1 :: rest) x := by
  intro p e s m args below meth c C hr hk hn hs hE H locs ls hl hD hS
  exact lv_land C.1 C.2.1 d (k p e s m args below meth c C hr hk hn hs hE H locs ls hl hD hS)
theorem jx_lor {x1 x2 : Int64} (d : decode cc pc = .ok (.lor, 1)) (k : jx_J l env dyn rg sz own nm cc nL ret R Qf ce sl (pc + 1) lv (.long (x1 ||| x2) :: rest) x) : jx_J l env dyn rg sz own nm cc nL ret R Qf ce sl pc lv (.long x2 :: .long x1 :: rest) x := by
  intro p e s m args below meth c C hr hk hn hs hE H locs ls hl hD hS
  exact lv_lor C.1 C.2.1 d (k p e s m args below meth c C hr hk hn hs hE H locs ls hl hD hS)
theorem jx_lxor {x1 x2 : Int64} (d : decode cc pc = .ok (.lxor, 1)) (k : jx_J l env dyn rg sz own nm cc nL ret R Qf ce sl (pc + 1) lv (.long (x1 ^^^ x2) :: rest) x) : jx_J l env dyn rg sz own nm cc nL ret R Qf ce sl pc lv (.long x2 :: .long x1 :: rest) x := by
  intro p e s m args below meth c C hr hk hn hs hE H locs ls hl hD hS
  exact lv_lxor C.1 C.2.1 d (k p e s m args below meth c C hr hk hn hs hE H locs ls hl hD hS)
theorem jx_lsub {x1 x2 : Int64} (d : decode cc pc = .ok (.lsub, 1)) (k : jx_J l env dyn rg sz own nm cc nL ret R Qf ce sl (pc + 1) lv (.long (x1 - x2) :: rest) x) : jx_J l env dyn rg sz own nm cc nL ret R Qf ce sl pc lv (.long x2 :: .long x1 :: rest) x := by
  intro p e s m args below meth c C hr hk hn hs hE H locs ls hl hD hS
  exact lv_lsub C.1 C.2.1 d (k p e s m args below meth c C hr hk hn hs hE H locs ls hl hD hS)
theorem jx_lrem {x1 x2 : Int64} (hne : ¬ x2 = 0) (d : decode cc pc = .ok (.lrem, 1)) (k : jx_J l env dyn rg sz own nm cc nL ret R Qf ce sl (pc + 1) lv (.long (x1 - x1 / x2 * x2) :: rest) x) : jx_J l env dyn rg sz own nm cc nL ret R Qf ce sl pc lv (.long x2 :: .long x1 :: rest) x := by
  intro p e s m args below meth c C hr hk hn hs hE H locs ls hl hD hS
  exact lv_lrem C.1 C.2.1 d hne (k p e s m args below meth c C hr hk hn hs hE H locs ls hl hD hS)
theorem jx_ldiv {x1 x2 : Int64} (hne : ¬ x2 = 0) (d : decode cc pc = .ok (.ldiv, 1)) (k : jx_J l env dyn rg sz own nm cc nL ret R Qf ce sl (pc + 1) lv (.long (x1 / x2) :: rest) x) : jx_J l env dyn rg sz own nm cc nL ret R Qf ce sl pc lv (.long x2 :: .long x1 :: rest) x := by
  intro p e s m args below meth c C hr hk hn hs hE H locs ls hl hD hS
  exact lv_ldiv C.1 C.2.1 d hne (k p e s m args below meth c C hr hk hn hs hE H locs ls hl hD hS)
theorem jx_lcmp {x1 x2 : Int64} (d : decode cc pc = .ok (.lcmp, 1)) (k : jx_J l env dyn rg sz own nm cc nL ret R Qf ce sl (pc + 1) lv (.int (lg_cmp x1 x2) :: rest) x) : jx_J l env dyn rg sz own nm cc nL ret R Qf ce sl pc lv (.long x2 :: .long x1 :: rest) x := by
  intro p e s m args below meth c C hr hk hn hs hE H locs ls hl hD hS
  exact W.lcmp C.1 C.2.1 d (k p e s m args below meth c C hr hk hn hs hE H locs ls hl hD hS)
theorem jx_lshl {x1 : Int64} {x2 : Int32} (d : decode cc pc = .ok (.lshl, 1)) (k : jx_J l env dyn rg sz own nm cc nL ret R Qf ce sl (pc + 1) lv (.long (x1 <<< (x2.toInt64 &&& 63)) :: rest) x) : jx_J l env dyn rg sz own nm cc nL ret R Qf ce sl pc lv (.int x2 :: .long x1 :: rest) x := by
  intro p e s m args below meth c C hr hk hn hs hE H locs ls hl hD hS
  exact lv_lshl C.1 C.2.1 d rfl (k p e s m args below meth c C hr hk hn hs hE H locs ls hl hD hS)
theorem jx_lshr {x1 : Int64} {x2 : Int32} (d : decode cc pc = .ok (.lshr, 1)) (k : jx_J l env dyn rg sz own nm cc nL ret R Qf ce sl (pc + 1) lv (.long (x1 >>> (x2.toInt64 &&& 63)) :: rest) x) : jx_J l env dyn rg sz own nm cc nL ret R Qf ce sl pc lv (.int x2 :: .long x1 :: rest) x := by
  intro p e s m args below meth c C hr hk hn hs hE H locs ls hl hD hS
  exact lv_lshr C.1 C.2.1 d rfl (k p e s m args below meth c C hr hk hn hs hE H locs ls hl hD hS)
theorem jx_i2l {x1 : Int32} (d : decode cc pc = .ok (.i2l, 1)) (k : jx_J l env dyn rg sz own nm cc nL ret R Qf ce sl (pc + 1) lv (.long x1.toInt64 :: rest) x) : jx_J l env dyn rg sz own nm cc nL ret R Qf ce sl pc lv (.int x1 :: rest) x := by
  intro p e s m args below meth c C hr hk hn hs hE H locs ls hl hD hS
  exact lv_i2l C.1 C.2.1 d rfl (k p e s m args below meth c C hr hk hn hs hE H locs ls hl hD hS)
theorem jx_i2c {x1 : Int32} (d : decode cc pc = .ok (.i2c, 1)) (k : jx_J l env dyn rg sz own nm cc nL ret R Qf ce sl (pc + 1) lv (.int (x1.toUInt32 % 65536).toInt32 :: rest) x) : jx_J l env dyn rg sz own nm cc nL ret R Qf ce sl pc lv (.int x1 :: rest) x := by
  intro p e s m args below meth c C hr hk hn hs hE H locs ls hl hD hS
  exact lv_i2c C.1 C.2.1 d rfl (k p e s m args below meth c C hr hk hn hs hE H locs ls hl hD hS)
theorem jx_i2b {x1 : Int32} (d : decode cc pc = .ok (.i2b, 1)) (k : jx_J l env dyn rg sz own nm cc nL ret R Qf ce sl (pc + 1) lv (.int x1.toInt8.toInt32 :: rest) x) : jx_J l env dyn rg sz own nm cc nL ret R Qf ce sl pc lv (.int x1 :: rest) x := by
  intro p e s m args below meth c C hr hk hn hs hE H locs ls hl hD hS
  exact lv_i2b C.1 C.2.1 d rfl (k p e s m args below meth c C hr hk hn hs hE H locs ls hl hD hS)
theorem jx_dup {va : Value} (hva : va.category = 1) (d : decode cc pc = .ok (.dup, 1)) (k : jx_J l env dyn rg sz own nm cc nL ret R Qf ce sl (pc + 1) lv (va :: va :: rest) x) : jx_J l env dyn rg sz own nm cc nL ret R Qf ce sl pc lv (va :: rest) x := by
  intro p e s m args below meth c C hr hk hn hs hE H locs ls hl hD hS
  exact lv_dup C.1 C.2.1 d hva (k p e s m args below meth c C hr hk hn hs hE H locs ls hl hD hS)
theorem jx_dup2 {va vb : Value} (hva : va.category = 1) (hvb : vb.category = 1) (d : decode cc pc = .ok (.dup2, 1)) (k : jx_J l env dyn rg sz own nm cc nL ret R Qf ce sl (pc + 1) lv (va :: vb :: va :: vb :: rest) x) : jx_J l env dyn rg sz own nm cc nL ret R Qf ce sl pc lv (va :: vb :: rest) x := by
  intro p e s m args below meth c C hr hk hn hs hE H locs ls hl hD hS
  exact lv_dup2_11 C.1 C.2.1 d hva hvb (k p e s m args below meth c C hr hk hn hs hE H locs ls hl hD hS)
theorem jx_dup_x1 {va vb : Value} (hva : va.category = 1) (hvb : vb.category = 1) (d : decode cc pc = .ok (.dup_x1, 1)) (k : jx_J l env dyn rg sz own nm cc nL ret R Qf ce sl (pc + 1) lv (va :: vb :: va :: rest) x) : jx_J l env dyn rg sz own nm cc nL ret R Qf ce sl pc lv (va :: vb :: rest) x := by
  intro p e s m args below meth c C hr hk hn hs hE H locs ls hl hD hS
  exact lv_dup_x1 C.1 C.2.1 d hva hvb (k p e s m args below meth c C hr hk hn hs hE H locs ls hl hD hS)
theorem jx_pop {va : Value} (hva : va.category = 1) (d : decode cc pc = .ok (.pop, 1)) (k : jx_J l env dyn rg sz own nm cc nL ret R Qf ce sl (pc + 1) lv (rest) x) : jx_J l env dyn rg sz own nm cc nL ret R Qf ce sl pc lv (va :: rest) x := by
  intro p e s m args below meth c C hr hk hn hs hE H locs ls hl hD hS
  exact lv_pop C.1 C.2.1 d hva (k p e s m args below meth c C hr hk hn hs hE H locs ls hl hD hS)
theorem jx_iconst {n : Int} {v : Int32} (hv : Int32.ofInt n = v) (d : decode cc pc = .ok (.iconst n, 1)) (k : jx_J l env dyn rg sz own nm cc nL ret R Qf ce sl (pc + 1) lv (.int v :: rest) x) : jx_J l env dyn rg sz own nm cc nL ret R Qf ce sl pc lv (rest) x := by
  intro p e s m args below meth c C hr hk hn hs hE H locs ls hl hD hS
  exact lv_iconst C.1 C.2.1 d hv (k p e s m args below meth c C hr hk hn hs hE H locs ls hl hD hS)
theorem jx_bipush {n : Int} {v : Int32} (hv : (Int8.ofInt n).toInt32 = v) (d : decode cc pc = .ok (.bipush n, 2)) (k : jx_J l env dyn rg sz own nm cc nL ret R Qf ce sl (pc + 2) lv (.int v :: rest) x) : jx_J l env dyn rg sz own nm cc nL ret R Qf ce sl pc lv (rest) x := by
  intro p e s m args below meth c C hr hk hn hs hE H locs ls hl hD hS
  exact lv_bipush C.1 C.2.1 d hv (k p e s m args below meth c C hr hk hn hs hE H locs ls hl hD hS)
theorem jx_sipush {n : Int} {v : Int32} (hv : (Int16.ofInt n).toInt32 = v) (d : decode cc pc = .ok (.sipush n, 3)) (k : jx_J l env dyn rg sz own nm cc nL ret R Qf ce sl (pc + 3) lv (.int v :: rest) x) : jx_J l env dyn rg sz own nm cc nL ret R Qf ce sl pc lv (rest) x := by
  intro p e s m args below meth c C hr hk hn hs hE H locs ls hl hD hS
  exact lv_sipush C.1 C.2.1 d hv (k p e s m args below meth c C hr hk hn hs hE H locs ls hl hD hS)
theorem jx_lconst {n : Fin 2} {v : Int64} (hv : Int64.ofNat (n : Nat) = v) (d : decode cc pc = .ok (.lconst n, 1)) (k : jx_J l env dyn rg sz own nm cc nL ret R Qf ce sl (pc + 1) lv (.long v :: rest) x) : jx_J l env dyn rg sz own nm cc nL ret R Qf ce sl pc lv (rest) x := by
  intro p e s m args below meth c C hr hk hn hs hE H locs ls hl hD hS
  exact lv_lconst C.1 C.2.1 d hv (k p e s m args below meth c C hr hk hn hs hE H locs ls hl hD hS)
theorem jx_ldc {index : Nat} {v : Int32} (hw : Cond.constant own index v ∈ jx_ws) (d : decode cc pc = .ok (.ldc index, 2)) (k : jx_J l env dyn rg sz own nm cc nL ret R Qf ce sl (pc + 2) lv (.int v :: rest) x) : jx_J l env dyn rg sz own nm cc nL ret R Qf ce sl pc lv (rest) x := by
  intro p e s m args below meth c C hr hk hn hs hE H locs ls hl hD hS
  exact lv_ldc C.1 C.2.1 C.2.2.2.1 (C.2.2.2.2 _ hw) d (k p e s m args below meth c C hr hk hn hs hE H locs ls hl hD hS)
theorem jx_ldc_w {index : Nat} {v : Int32} (hw : Cond.constant own index v ∈ jx_ws) (d : decode cc pc = .ok (.ldc_w index, 3)) (k : jx_J l env dyn rg sz own nm cc nL ret R Qf ce sl (pc + 3) lv (.int v :: rest) x) : jx_J l env dyn rg sz own nm cc nL ret R Qf ce sl pc lv (rest) x := by
  intro p e s m args below meth c C hr hk hn hs hE H locs ls hl hD hS
  exact lv_ldcw C.1 C.2.1 C.2.2.2.1 (C.2.2.2.2 _ hw) d (k p e s m args below meth c C hr hk hn hs hE H locs ls hl hD hS)
theorem jx_ldc2 {index : Nat} {v : Int64} (hw : Cond.constantLong own index v ∈ jx_ws) (d : decode cc pc = .ok (.ldc2_w index, 3)) (k : jx_J l env dyn rg sz own nm cc nL ret R Qf ce sl (pc + 3) lv (.long v :: rest) x) : jx_J l env dyn rg sz own nm cc nL ret R Qf ce sl pc lv (rest) x := by
  intro p e s m args below meth c C hr hk hn hs hE H locs ls hl hD hS
  exact lv_ldc2 C.1 C.2.1 C.2.2.2.1 (C.2.2.2.2 _ hw) d (k p e s m args below meth c C hr hk hn hs hE H locs ls hl hD hS)
theorem jx_iload_n {k0 : Fin 4} {v : Int32} (hg : jx_g lv (k0 : Nat) = some (.int v)) (d : decode cc pc = .ok (.iload_n k0, 1)) (k : jx_J l env dyn rg sz own nm cc nL ret R Qf ce sl (pc + 1) lv (.int v :: rest) x) : jx_J l env dyn rg sz own nm cc nL ret R Qf ce sl pc lv (rest) x := by
  intro p e s m args below meth c C hr hk hn hs hE H locs ls hl hD hS
  exact lv_iload_n C.1 C.2.1 d rfl (jx_g_has (n := nL) hl.2.2 hg) (k p e s m args below meth c C hr hk hn hs hE H locs ls hl hD hS)
theorem jx_iload {i : Nat} {v : Int32} (hg : jx_g lv i = some (.int v)) (d : decode cc pc = .ok (.iload i, 2)) (k : jx_J l env dyn rg sz own nm cc nL ret R Qf ce sl (pc + 2) lv (.int v :: rest) x) : jx_J l env dyn rg sz own nm cc nL ret R Qf ce sl pc lv (rest) x := by
  intro p e s m args below meth c C hr hk hn hs hE H locs ls hl hD hS
  exact lv_iload C.1 C.2.1 d (jx_g_has (n := nL) hl.2.2 hg) (k p e s m args below meth c C hr hk hn hs hE H locs ls hl hD hS)
theorem jx_istore_n {k0 : Fin 4} {i : Nat} (hi : (k0 : Nat) = i) {v v2 : Int32} (ev : v2 = v) (hi2 : i < nL) (hl2 : (i, Value.int v2) :: lv.filter (fun q => !(q.1 == i) && !(q.1 + 1 == i && q.2.category == 2)) = lv') (d : decode cc pc = .ok (.istore_n k0, 1)) (k : jx_J l env dyn rg sz own nm cc nL ret R Qf ce sl (pc + 1) lv' rest x) : jx_J l env dyn rg sz own nm cc nL ret R Qf ce sl pc lv (.int v :: rest) x := by
  subst ev
  intro p e s m args below meth c C hr hk hn hs hE H locs ls hl hD hS
  exact lv_istore_n C.1 C.2.1 d hi hl hi2 hl2 (fun ls1 hl1 => k p e s m args below meth c C hr hk hn hs hE H locs ls1 hl1 hD hS)
theorem jx_istore {i : Nat} {v v2 : Int32} (ev : v2 = v) (hi2 : i < nL) (hl2 : (i, Value.int v2) :: lv.filter (fun q => !(q.1 == i) && !(q.1 + 1 == i && q.2.category == 2)) = lv') (d : decode cc pc = .ok (.istore i, 2)) (k : jx_J l env dyn rg sz own nm cc nL ret R Qf ce sl (pc + 2) lv' rest x) : jx_J l env dyn rg sz own nm cc nL ret R Qf ce sl pc lv (.int v :: rest) x := by
  subst ev
  intro p e s m args below meth c C hr hk hn hs hE H locs ls hl hD hS
  exact lv_istore C.1 C.2.1 d hl hi2 hl2 (fun ls1 hl1 => k p e s m args below meth c C hr hk hn hs hE H locs ls1 hl1 hD hS)
theorem jx_lload_n {k0 : Fin 4} {v : Int64} (hg : jx_g lv (k0 : Nat) = some (.long v)) (d : decode cc pc = .ok (.lload_n k0, 1)) (k : jx_J l env dyn rg sz own nm cc nL ret R Qf ce sl (pc + 1) lv (.long v :: rest) x) : jx_J l env dyn rg sz own nm cc nL ret R Qf ce sl pc lv (rest) x := by
  intro p e s m args below meth c C hr hk hn hs hE H locs ls hl hD hS
  exact lv_lload_n C.1 C.2.1 d rfl (jx_g_has (n := nL) hl.2.2 hg) (k p e s m args below meth c C hr hk hn hs hE H locs ls hl hD hS)
theorem jx_lload {i : Nat} {v : Int64} (hg : jx_g lv i = some (.long v)) (d : decode cc pc = .ok (.lload i, 2)) (k : jx_J l env dyn rg sz own nm cc nL ret R Qf ce sl (pc + 2) lv (.long v :: rest) x) : jx_J l env dyn rg sz own nm cc nL ret R Qf ce sl pc lv (rest) x := by
  intro p e s m args below meth c C hr hk hn hs hE H locs ls hl hD hS
  exact lv_lload C.1 C.2.1 d (jx_g_has (n := nL) hl.2.2 hg) (k p e s m args below meth c C hr hk hn hs hE H locs ls hl hD hS)
theorem jx_lstore_n {k0 : Fin 4} {i : Nat} (hi : (k0 : Nat) = i) {v v2 : Int64} (ev : v2 = v) (hi2 : i + 1 < nL) (hl2 : (i, Value.long v2) :: lv.filter (fun q => !(q.1 == i) && (!(q.1 == i + 1) && !(q.1 + 1 == i && q.2.category == 2))) = lv') (d : decode cc pc = .ok (.lstore_n k0, 1)) (k : jx_J l env dyn rg sz own nm cc nL ret R Qf ce sl (pc + 1) lv' rest x) : jx_J l env dyn rg sz own nm cc nL ret R Qf ce sl pc lv (.long v :: rest) x := by
  subst ev
  intro p e s m args below meth c C hr hk hn hs hE H locs ls hl hD hS
  exact lv_lstore_n C.1 C.2.1 d hi hl hi2 hl2 (fun ls1 hl1 => k p e s m args below meth c C hr hk hn hs hE H locs ls1 hl1 hD hS)
theorem jx_lstore {i : Nat} {v v2 : Int64} (ev : v2 = v) (hi2 : i + 1 < nL) (hl2 : (i, Value.long v2) :: lv.filter (fun q => !(q.1 == i) && (!(q.1 == i + 1) && !(q.1 + 1 == i && q.2.category == 2))) = lv') (d : decode cc pc = .ok (.lstore i, 2)) (k : jx_J l env dyn rg sz own nm cc nL ret R Qf ce sl (pc + 2) lv' rest x) : jx_J l env dyn rg sz own nm cc nL ret R Qf ce sl pc lv (.long v :: rest) x := by
  subst ev
  intro p e s m args below meth c C hr hk hn hs hE H locs ls hl hD hS
  exact lv_lstore C.1 C.2.1 d hl hi2 hl2 (fun ls1 hl1 => k p e s m args below meth c C hr hk hn hs hE H locs ls1 hl1 hD hS)
theorem jx_aload_n {k0 : Fin 4} {v : Nat} (hg : jx_g lv (k0 : Nat) = some (.ref v)) (d : decode cc pc = .ok (.aload_n k0, 1)) (k : jx_J l env dyn rg sz own nm cc nL ret R Qf ce sl (pc + 1) lv (.ref v :: rest) x) : jx_J l env dyn rg sz own nm cc nL ret R Qf ce sl pc lv (rest) x := by
  intro p e s m args below meth c C hr hk hn hs hE H locs ls hl hD hS
  exact lv_aload_n C.1 C.2.1 d rfl (jx_g_has (n := nL) hl.2.2 hg) (k p e s m args below meth c C hr hk hn hs hE H locs ls hl hD hS)
theorem jx_aload {i : Nat} {v : Nat} (hg : jx_g lv i = some (.ref v)) (d : decode cc pc = .ok (.aload i, 2)) (k : jx_J l env dyn rg sz own nm cc nL ret R Qf ce sl (pc + 2) lv (.ref v :: rest) x) : jx_J l env dyn rg sz own nm cc nL ret R Qf ce sl pc lv (rest) x := by
  intro p e s m args below meth c C hr hk hn hs hE H locs ls hl hD hS
  exact lv_aload C.1 C.2.1 d (jx_g_has (n := nL) hl.2.2 hg) (k p e s m args below meth c C hr hk hn hs hE H locs ls hl hD hS)
theorem jx_astore_n {k0 : Fin 4} {i : Nat} (hi : (k0 : Nat) = i) {v v2 : Nat} (ev : v2 = v) (hi2 : i < nL) (hl2 : (i, Value.ref v2) :: lv.filter (fun q => !(q.1 == i) && !(q.1 + 1 == i && q.2.category == 2)) = lv') (d : decode cc pc = .ok (.astore_n k0, 1)) (k : jx_J l env dyn rg sz own nm cc nL ret R Qf ce sl (pc + 1) lv' rest x) : jx_J l env dyn rg sz own nm cc nL ret R Qf ce sl pc lv (.ref v :: rest) x := by
  subst ev
  intro p e s m args below meth c C hr hk hn hs hE H locs ls hl hD hS
  exact lv_astore_n C.1 C.2.1 d hi hl hi2 hl2 (fun ls1 hl1 => k p e s m args below meth c C hr hk hn hs hE H locs ls1 hl1 hD hS)
theorem jx_astore {i : Nat} {v v2 : Nat} (ev : v2 = v) (hi2 : i < nL) (hl2 : (i, Value.ref v2) :: lv.filter (fun q => !(q.1 == i) && !(q.1 + 1 == i && q.2.category == 2)) = lv') (d : decode cc pc = .ok (.astore i, 2)) (k : jx_J l env dyn rg sz own nm cc nL ret R Qf ce sl (pc + 2) lv' rest x) : jx_J l env dyn rg sz own nm cc nL ret R Qf ce sl pc lv (.ref v :: rest) x := by
  subst ev
  intro p e s m args below meth c C hr hk hn hs hE H locs ls hl hD hS
  exact lv_astore C.1 C.2.1 d hl hi2 hl2 (fun ls1 hl1 => k p e s m args below meth c C hr hk hn hs hE H locs ls1 hl1 hD hS)
theorem jx_iinc {i : Nat} {n : Int} {v v2 w : Int32} (hg : jx_g lv i = some (.int v)) (ev : v2 = v + w) (hw : Int32.ofInt n = w) (hi2 : i < nL) (hl2 : (i, Value.int v2) :: lv.filter (fun q => !(q.1 == i) && !(q.1 + 1 == i && q.2.category == 2)) = lv') (d : decode cc pc = .ok (.iinc i n, 3)) (k : jx_J l env dyn rg sz own nm cc nL ret R Qf ce sl (pc + 3) lv' rest x) : jx_J l env dyn rg sz own nm cc nL ret R Qf ce sl pc lv rest x := by
  subst hw
  subst ev
  intro p e s m args below meth c C hr hk hn hs hE H locs ls hl hD hS
  obtain ⟨k1, hk1⟩ := jx_g_at hg
  exact lv_iinc C.1 C.2.1 d hl hk1 rfl hi2 hl2 (fun ls1 hl1 => k p e s m args below meth c C hr hk hn hs hE H locs ls1 hl1 hD hS)
theorem jx_goto {off : Int} {tgt : Nat} (d : decode cc pc = .ok (.goto off, 3)) (ht : (pc : Int) + off = (tgt : Int)) (k : jx_J l env dyn rg sz own nm cc nL ret R Qf ce sl tgt lv rest x) : jx_J l env dyn rg sz own nm cc nL ret R Qf ce sl pc lv rest x := by
  intro p e s m args below meth c C hr hk hn hs hE H locs ls hl hD hS
  exact lv_goto C.1 C.2.1 d ht (k p e s m args below meth c C hr hk hn hs hE H locs ls hl hD hS)
theorem jx_if_eq {v : Int32} {off : Int} {tgt : Nat} (d : decode cc pc = .ok (.ifCond .eq off, 3)) (ht : (pc : Int) + off = (tgt : Int)) (kt : v = 0 → jx_J l env dyn rg sz own nm cc nL ret R Qf ce sl tgt lv rest x) (kf : ¬ v = 0 → jx_J l env dyn rg sz own nm cc nL ret R Qf ce sl (pc + 3) lv rest x) : jx_J l env dyn rg sz own nm cc nL ret R Qf ce sl pc lv (.int v :: rest) x := by
  intro p e s m args below meth c C hr hk hn hs hE H locs ls hl hD hS
  exact lv_if_eq C.1 C.2.1 d ht (fun h => kt h p e s m args below meth c C hr hk hn hs hE H locs ls hl hD hS) (fun h => kf h p e s m args below meth c C hr hk hn hs hE H locs ls hl hD hS)
theorem jx_icmp_eq {v v2 : Int32} {off : Int} {tgt : Nat} (d : decode cc pc = .ok (.if_icmp .eq off, 3)) (ht : (pc : Int) + off = (tgt : Int)) (kt : v = v2 → jx_J l env dyn rg sz own nm cc nL ret R Qf ce sl tgt lv rest x) (kf : ¬ v = v2 → jx_J l env dyn rg sz own nm cc nL ret R Qf ce sl (pc + 3) lv rest x) : jx_J l env dyn rg sz own nm cc nL ret R Qf ce sl pc lv (.int v2 :: .int v :: rest) x := by
  intro p e s m args below meth c C hr hk hn hs hE H locs ls hl hD hS
  exact lv_icmp_eq C.1 C.2.1 d ht (fun h => kt h p e s m args below meth c C hr hk hn hs hE H locs ls hl hD hS) (fun h => kf h p e s m args below meth c C hr hk hn hs hE H locs ls hl hD hS)
theorem jx_if_ne {v : Int32} {off : Int} {tgt : Nat} (d : decode cc pc = .ok (.ifCond .ne off, 3)) (ht : (pc : Int) + off = (tgt : Int)) (kt : ¬ v = 0 → jx_J l env dyn rg sz own nm cc nL ret R Qf ce sl tgt lv rest x) (kf : v = 0 → jx_J l env dyn rg sz own nm cc nL ret R Qf ce sl (pc + 3) lv rest x) : jx_J l env dyn rg sz own nm cc nL ret R Qf ce sl pc lv (.int v :: rest) x := by
  intro p e s m args below meth c C hr hk hn hs hE H locs ls hl hD hS
  exact lv_if_ne C.1 C.2.1 d ht (fun h => kt h p e s m args below meth c C hr hk hn hs hE H locs ls hl hD hS) (fun h => kf h p e s m args below meth c C hr hk hn hs hE H locs ls hl hD hS)
theorem jx_icmp_ne {v v2 : Int32} {off : Int} {tgt : Nat} (d : decode cc pc = .ok (.if_icmp .ne off, 3)) (ht : (pc : Int) + off = (tgt : Int)) (kt : ¬ v = v2 → jx_J l env dyn rg sz own nm cc nL ret R Qf ce sl tgt lv rest x) (kf : v = v2 → jx_J l env dyn rg sz own nm cc nL ret R Qf ce sl (pc + 3) lv rest x) : jx_J l env dyn rg sz own nm cc nL ret R Qf ce sl pc lv (.int v2 :: .int v :: rest) x := by
  intro p e s m args below meth c C hr hk hn hs hE H locs ls hl hD hS
  exact lv_icmp_ne C.1 C.2.1 d ht (fun h => kt h p e s m args below meth c C hr hk hn hs hE H locs ls hl hD hS) (fun h => kf h p e s m args below meth c C hr hk hn hs hE H locs ls hl hD hS)
theorem jx_if_lt {v : Int32} {off : Int} {tgt : Nat} (d : decode cc pc = .ok (.ifCond .lt off, 3)) (ht : (pc : Int) + off = (tgt : Int)) (kt : v < 0 → jx_J l env dyn rg sz own nm cc nL ret R Qf ce sl tgt lv rest x) (kf : ¬ v < 0 → jx_J l env dyn rg sz own nm cc nL ret R Qf ce sl (pc + 3) lv rest x) : jx_J l env dyn rg sz own nm cc nL ret R Qf ce sl pc lv (.int v :: rest) x := by
  intro p e s m args below meth c C hr hk hn hs hE H locs ls hl hD hS
  exact lv_if_lt C.1 C.2.1 d ht (fun h => kt h p e s m args below meth c C hr hk hn hs hE H locs ls hl hD hS) (fun h => kf h p e s m args below meth c C hr hk hn hs hE H locs ls hl hD hS)
theorem jx_icmp_lt {v v2 : Int32} {off : Int} {tgt : Nat} (d : decode cc pc = .ok (.if_icmp .lt off, 3)) (ht : (pc : Int) + off = (tgt : Int)) (kt : v < v2 → jx_J l env dyn rg sz own nm cc nL ret R Qf ce sl tgt lv rest x) (kf : ¬ v < v2 → jx_J l env dyn rg sz own nm cc nL ret R Qf ce sl (pc + 3) lv rest x) : jx_J l env dyn rg sz own nm cc nL ret R Qf ce sl pc lv (.int v2 :: .int v :: rest) x := by
  intro p e s m args below meth c C hr hk hn hs hE H locs ls hl hD hS
  exact lv_icmp_lt C.1 C.2.1 d ht (fun h => kt h p e s m args below meth c C hr hk hn hs hE H locs ls hl hD hS) (fun h => kf h p e s m args below meth c C hr hk hn hs hE H locs ls hl hD hS)
theorem jx_if_ge {v : Int32} {off : Int} {tgt : Nat} (d : decode cc pc = .ok (.ifCond .ge off, 3)) (ht : (pc : Int) + off = (tgt : Int)) (kt : 0 ≤ v → jx_J l env dyn rg sz own nm cc nL ret R Qf ce sl tgt lv rest x) (kf : ¬ 0 ≤ v → jx_J l env dyn rg sz own nm cc nL ret R Qf ce sl (pc + 3) lv rest x) : jx_J l env dyn rg sz own nm cc nL ret R Qf ce sl pc lv (.int v :: rest) x := by
  intro p e s m args below meth c C hr hk hn hs hE H locs ls hl hD hS
  exact lv_if_ge C.1 C.2.1 d ht (fun h => kt h p e s m args below meth c C hr hk hn hs hE H locs ls hl hD hS) (fun h => kf h p e s m args below meth c C hr hk hn hs hE H locs ls hl hD hS)
theorem jx_icmp_ge {v v2 : Int32} {off : Int} {tgt : Nat} (d : decode cc pc = .ok (.if_icmp .ge off, 3)) (ht : (pc : Int) + off = (tgt : Int)) (kt : v2 ≤ v → jx_J l env dyn rg sz own nm cc nL ret R Qf ce sl tgt lv rest x) (kf : ¬ v2 ≤ v → jx_J l env dyn rg sz own nm cc nL ret R Qf ce sl (pc + 3) lv rest x) : jx_J l env dyn rg sz own nm cc nL ret R Qf ce sl pc lv (.int v2 :: .int v :: rest) x := by
  intro p e s m args below meth c C hr hk hn hs hE H locs ls hl hD hS
  exact lv_icmp_ge C.1 C.2.1 d ht (fun h => kt h p e s m args below meth c C hr hk hn hs hE H locs ls hl hD hS) (fun h => kf h p e s m args below meth c C hr hk hn hs hE H locs ls hl hD hS)
theorem jx_if_gt {v : Int32} {off : Int} {tgt : Nat} (d : decode cc pc = .ok (.ifCond .gt off, 3)) (ht : (pc : Int) + off = (tgt : Int)) (kt : 0 < v → jx_J l env dyn rg sz own nm cc nL ret R Qf ce sl tgt lv rest x) (kf : ¬ 0 < v → jx_J l env dyn rg sz own nm cc nL ret R Qf ce sl (pc + 3) lv rest x) : jx_J l env dyn rg sz own nm cc nL ret R Qf ce sl pc lv (.int v :: rest) x := by
  intro p e s m args below meth c C hr hk hn hs hE H locs ls hl hD hS
  exact lv_if_gt C.1 C.2.1 d ht (fun h => kt h p e s m args below meth c C hr hk hn hs hE H locs ls hl hD hS) (fun h => kf h p e s m args below meth c C hr hk hn hs hE H locs ls hl hD hS)
theorem jx_icmp_gt {v v2 : Int32} {off : Int} {tgt : Nat} (d : decode cc pc = .ok (.if_icmp .gt off, 3)) (ht : (pc : Int) + off = (tgt : Int)) (kt : v2 < v → jx_J l env dyn rg sz own nm cc nL ret R Qf ce sl tgt lv rest x) (kf : ¬ v2 < v → jx_J l env dyn rg sz own nm cc nL ret R Qf ce sl (pc + 3) lv rest x) : jx_J l env dyn rg sz own nm cc nL ret R Qf ce sl pc lv (.int v2 :: .int v :: rest) x := by
  intro p e s m args below meth c C hr hk hn hs hE H locs ls hl hD hS
  exact lv_icmp_gt C.1 C.2.1 d ht (fun h => kt h p e s m args below meth c C hr hk hn hs hE H locs ls hl hD hS) (fun h => kf h p e s m args below meth c C hr hk hn hs hE H locs ls hl hD hS)
theorem jx_if_le {v : Int32} {off : Int} {tgt : Nat} (d : decode cc pc = .ok (.ifCond .le off, 3)) (ht : (pc : Int) + off = (tgt : Int)) (kt : v ≤ 0 → jx_J l env dyn rg sz own nm cc nL ret R Qf ce sl tgt lv rest x) (kf : ¬ v ≤ 0 → jx_J l env dyn rg sz own nm cc nL ret R Qf ce sl (pc + 3) lv rest x) : jx_J l env dyn rg sz own nm cc nL ret R Qf ce sl pc lv (.int v :: rest) x := by
  intro p e s m args below meth c C hr hk hn hs hE H locs ls hl hD hS
  exact lv_if_le C.1 C.2.1 d ht (fun h => kt h p e s m args below meth c C hr hk hn hs hE H locs ls hl hD hS) (fun h => kf h p e s m args below meth c C hr hk hn hs hE H locs ls hl hD hS)
theorem jx_icmp_le {v v2 : Int32} {off : Int} {tgt : Nat} (d : decode cc pc = .ok (.if_icmp .le off, 3)) (ht : (pc : Int) + off = (tgt : Int)) (kt : v ≤ v2 → jx_J l env dyn rg sz own nm cc nL ret R Qf ce sl tgt lv rest x) (kf : ¬ v ≤ v2 → jx_J l env dyn rg sz own nm cc nL ret R Qf ce sl (pc + 3) lv rest x) : jx_J l env dyn rg sz own nm cc nL ret R Qf ce sl pc lv (.int v2 :: .int v :: rest) x := by
  intro p e s m args below meth c C hr hk hn hs hE H locs ls hl hD hS
  exact lv_icmp_le C.1 C.2.1 d ht (fun h => kt h p e s m args below meth c C hr hk hn hs hE H locs ls hl hD hS) (fun h => kf h p e s m args below meth c C hr hk hn hs hE H locs ls hl hD hS)
theorem jx_tabIn {dflt lo hi : Int} {offs : Array Int} {len : Nat} {v : Int32} {off : Int} {tgt : Nat} (d : decode cc pc = .ok (.tableswitch dflt lo hi offs, len)) (n : Int) (hv : v.toInt = n) (h1 : ¬ n < lo) (h2 : ¬ hi < n) (ho : offs[(n - lo).toNat]? = some off) (ht : (pc : Int) + off = (tgt : Int)) (k : jx_J l env dyn rg sz own nm cc nL ret R Qf ce sl tgt lv rest x) : jx_J l env dyn rg sz own nm cc nL ret R Qf ce sl pc lv (.int v :: rest) x := by
  subst hv
  intro p e s m args below meth c C hr hk hn hs hE H locs ls hl hD hS
  exact lv_tableIn C.1 C.2.1 d h1 h2 ho ht (k p e s m args below meth c C hr hk hn hs hE H locs ls hl hD hS)
theorem jx_tabOut {dflt lo hi : Int} {offs : Array Int} {len : Nat} {v : Int32} {tgt : Nat} (d : decode cc pc = .ok (.tableswitch dflt lo hi offs, len)) (h : v.toInt < lo ∨ hi < v.toInt) (ht : (pc : Int) + dflt = (tgt : Int)) (k : jx_J l env dyn rg sz own nm cc nL ret R Qf ce sl tgt lv rest x) : jx_J l env dyn rg sz own nm cc nL ret R Qf ce sl pc lv (.int v :: rest) x := by
  intro p e s m args below meth c C hr hk hn hs hE H locs ls hl hD hS
  exact lv_tableOut C.1 C.2.1 d h ht (k p e s m args below meth c C hr hk hn hs hE H locs ls hl hD hS)
theorem jx_look {dflt : Int} {ps : Array (Int × Int)} {len : Nat} {v : Int32} {off : Int} {tgt : Nat} (d : decode cc pc = .ok (.lookupswitch dflt ps, len)) (hp : (ps.toList.zip (ps.toList.drop 1)).all (fun (a, next) => a.1 < next.1) = true) (ho : Op.lookupswitch.offset ps.toList dflt v.toInt = off) (ht : (pc : Int) + off = (tgt : Int)) (k : jx_J l env dyn rg sz own nm cc nL ret R Qf ce sl tgt lv rest x) : jx_J l env dyn rg sz own nm cc nL ret R Qf ce sl pc lv (.int v :: rest) x := by
  intro p e s m args below meth c C hr hk hn hs hE H locs ls hl hD hS
  exact lv_lookup C.1 C.2.1 d hp ho ht (k p e s m args below meth c C hr hk hn hs hE H locs ls hl hD hS)
theorem jx_mmin {x1 x2 : Int32} {index : Nat} (h1 : Cond.methodLink own index Lib.Math.min.name ∈ jx_ws) (h2 : Cond.static Lib.Math.min.name ∈ jx_ws) (h3 : Cond.initialized "java/lang/Math" ∈ jx_ws) (h4 : Cond.code Lib.Math.min.name Lib.Math.min.code 2 (some .int) ∈ jx_ws) (hf : 1 ≤ R.frames) (hlo : (rest.map fun v => v.category).sum + 13 ≤ R.locals) (hce : ce ≤ R.cells) (hsl : sl ≤ R.slots) (d : decode cc pc = .ok (.invokestatic index, 3)) (k : jx_J l env dyn rg sz own nm cc nL ret R Qf ce sl (pc + 3) lv (.int (if x2 < x1 then x2 else x1) :: rest) x) : jx_J l env dyn rg sz own nm cc nL ret R Qf ce sl pc lv (.int x2 :: .int x1 :: rest) x := by
  intro p e s m args below meth c C hr hk hn hs hE H locs ls hl hD hS
  exact va_mmin C.1 C.2.1 (by rw [C.2.2.1]; exact hl.1.symm) C.2.2.2.1 (C.2.2.2.2 _ h1) (C.2.2.2.2 _ h2) (C.2.2.2.2 _ h3) (C.2.2.2.2 _ h4) hf hlo hce hsl d (k p e s m args below meth c C hr hk hn hs hE H locs ls hl hD hS)
theorem jx_mmax {x1 x2 : Int32} {index : Nat} (h1 : Cond.methodLink own index Lib.Math.max.name ∈ jx_ws) (h2 : Cond.static Lib.Math.max.name ∈ jx_ws) (h3 : Cond.initialized "java/lang/Math" ∈ jx_ws) (h4 : Cond.code Lib.Math.max.name Lib.Math.max.code 2 (some .int) ∈ jx_ws) (hf : 1 ≤ R.frames) (hlo : (rest.map fun v => v.category).sum + 13 ≤ R.locals) (hce : ce ≤ R.cells) (hsl : sl ≤ R.slots) (d : decode cc pc = .ok (.invokestatic index, 3)) (k : jx_J l env dyn rg sz own nm cc nL ret R Qf ce sl (pc + 3) lv (.int (if x1 < x2 then x2 else x1) :: rest) x) : jx_J l env dyn rg sz own nm cc nL ret R Qf ce sl pc lv (.int x2 :: .int x1 :: rest) x := by
  intro p e s m args below meth c C hr hk hn hs hE H locs ls hl hD hS
  exact va_mmax C.1 C.2.1 (by rw [C.2.2.1]; exact hl.1.symm) C.2.2.2.1 (C.2.2.2.2 _ h1) (C.2.2.2.2 _ h2) (C.2.2.2.2 _ h3) (C.2.2.2.2 _ h4) hf hlo hce hsl d (k p e s m args below meth c C hr hk hn hs hE H locs ls hl hD hS)
theorem jx_mabs {x1 : Int32} {index : Nat} (h1 : Cond.methodLink own index Lib.Math.abs.name ∈ jx_ws) (h2 : Cond.static Lib.Math.abs.name ∈ jx_ws) (h3 : Cond.initialized "java/lang/Math" ∈ jx_ws) (h4 : Cond.code Lib.Math.abs.name Lib.Math.abs.code 1 (some .int) ∈ jx_ws) (hf : 1 ≤ R.frames) (hlo : (rest.map fun v => v.category).sum + 13 ≤ R.locals) (hce : ce ≤ R.cells) (hsl : sl ≤ R.slots) (d : decode cc pc = .ok (.invokestatic index, 3)) (k : jx_J l env dyn rg sz own nm cc nL ret R Qf ce sl (pc + 3) lv (.int (if 0 ≤ x1 then x1 else 0 - x1) :: rest) x) : jx_J l env dyn rg sz own nm cc nL ret R Qf ce sl pc lv (.int x1 :: rest) x := by
  intro p e s m args below meth c C hr hk hn hs hE H locs ls hl hD hS
  exact va_mabs C.1 C.2.1 (by rw [C.2.2.1]; exact hl.1.symm) C.2.2.2.1 (C.2.2.2.2 _ h1) (C.2.2.2.2 _ h2) (C.2.2.2.2 _ h3) (C.2.2.2.2 _ h4) hf hlo hce hsl d (k p e s m args below meth c C hr hk hn hs hE H locs ls hl hD hS)
theorem jx_nret {ty : FieldType} {v : Int32} (hz : narrow ty (.int v) = .int v) (d : decode cc pc = .ok (.ireturn, 1)) : jx_J l env dyn rg sz own nm cc nL (some ty) R (fun below args s => MQ below (jx_Qi dyn x v (jx_A rg sz)) args s 0 0 (jx_A rg sz)) 0 0 pc lv [.int v] x := by
  intro p e s m args below meth c C hr hk hn hs hE H locs ls hl hD hS
  exact W.zret C.1 C.2.1 hr hz (fun t ht hW => ⟨⟨v, (), rfl, rfl, (show dyn x t.heap by rw [ht]; exact hD)⟩, hS.F ht⟩) hS.2.2 d hk
theorem jx_iret {v : Int32} (d : decode cc pc = .ok (.ireturn, 1)) : jx_J l env dyn rg sz own nm cc nL (some .int) R (fun below args s => MQ below (jx_Qi dyn x v (jx_A rg sz)) args s 0 0 (jx_A rg sz)) 0 0 pc lv [.int v] x := by
  intro p e s m args below meth c C hr hk hn hs hE H locs ls hl hD hS
  exact W.iret C.1 C.2.1 hr (fun t ht hW => ⟨⟨v, (), rfl, rfl, (show dyn x t.heap by rw [ht]; exact hD)⟩, hS.F ht⟩) hS.2.2 d hk
theorem jx_zret {v : Int32} (hz : v = 0 ∨ v = 1) (d : decode cc pc = .ok (.ireturn, 1)) : jx_J l env dyn rg sz own nm cc nL (some .boolean) R (fun below args s => MQ below (jx_Qi dyn x v (jx_A rg sz)) args s 0 0 (jx_A rg sz)) 0 0 pc lv [.int v] x := by
  intro p e s m args below meth c C hr hk hn hs hE H locs ls hl hD hS
  exact W.zret C.1 C.2.1 hr (jx_nar hz) (fun t ht hW => ⟨⟨v, (), rfl, rfl, (show dyn x t.heap by rw [ht]; exact hD)⟩, hS.F ht⟩) hS.2.2 d hk
theorem jx_lret {v : Int64} (d : decode cc pc = .ok (.lreturn, 1)) : jx_J l env dyn rg sz own nm cc nL (some .long) R (fun below args s => MQ below (jx_Ql dyn x v (jx_A rg sz)) args s 0 0 (jx_A rg sz)) 0 0 pc lv [.long v] x := by
  intro p e s m args below meth c C hr hk hn hs hE H locs ls hl hD hS
  exact W.lret C.1 C.2.1 hr (fun t ht hW => ⟨⟨v, (), rfl, rfl, (show dyn x t.heap by rw [ht]; exact hD)⟩, hS.F ht⟩) hS.2.2 d hk
theorem jx_vret (d : decode cc pc = .ok (.return_, 1)) : jx_J l env dyn rg sz own nm cc nL none R (fun below args s => MQ below (jx_Qv dyn x (jx_A rg sz)) args s 0 0 (jx_A rg sz)) 0 0 pc lv [] x := by
  intro p e s m args below meth c C hr hk hn hs hE H locs ls hl hD hS
  exact W.vret C.1 C.2.1 hr (fun t ht hW => ⟨⟨(), rfl, trivial, (show dyn x t.heap by rw [ht]; exact hD)⟩, hS.F ht⟩) hS.2.2 d hk
theorem jx_aret {rt : FieldType} {v : Nat} (hrt : (∃ n, rt = .object n) ∨ ∃ t, rt = .array t) (d : decode cc pc = .ok (.areturn, 1)) : jx_J l env dyn rg sz own nm cc nL (some rt) R (fun below args s => MQ below (jx_Qr dyn x v (jx_A rg sz)) args s 0 0 (jx_A rg sz)) 0 0 pc lv [.ref v] x := by
  intro p e s m args below meth c C hr hk hn hs hE H locs ls hl hD hS
  exact W.aret C.1 C.2.1 hr hrt (Or.inr ⟨_, rfl⟩) (fun t ht hW => ⟨⟨(), v, rfl, trivial, rfl, (show dyn x t.heap by rw [ht]; exact hD)⟩, hS.F ht⟩) hS.2.2 d hk
theorem jx_callVi {Cn : String} {y : MethodName} {bytes : ByteArray} {maxL n index : Nat} {ret2 : Option FieldType} {rm : Room} {b : Nat} (As : List Value) {x1 : X} {r : Int32} (hM : ∀ sz' : Nat, Met l y (Cond.code y bytes maxL ret2 :: jx_ws) rm (jx_Pc env dyn rg sz' x (Value.ref b :: As)) (jx_Qi dyn x1 r (jx_A rg sz')) 0 0 (jx_A rg sz')) (hkv : jx_kV own index Cn y bytes maxL ret2 n) (hok : jx_ok rg env) (hrc : jx_rc env dyn rg b Cn) (hst : st = As.reverse ++ .ref b :: rest) (hn0 : As.length = n) (hcat : (rest.map fun v => v.category).sum ≤ 8) (hroom : jx_rm rm R maxL ce sl) (d : decode cc pc = .ok (.invokevirtual index, 3)) (k : jx_J l env dyn rg sz own nm cc nL ret R Qf ce sl (pc + 3) lv (.int r :: rest) x1) : jx_J l env dyn rg sz own nm cc nL ret R Qf ce sl pc lv st x := by
  intro p e s m args below meth c C hr hk hn hs hE H locs ls hl hD hS
  subst hst
  have hA : ∀ q, jx_A rg H.size q → jx_A rg sz q := fun q h => h.elim Or.inl (fun h => Or.inr (Nat.le_trans (by rw [← hs]; exact hS.1) h))
  refine va_calli (va_runV (As := As) (rest := rest) C (hM H.size) (cwV n C.2.2.2.2 (jx_goodV hkv) rfl hroom.1.1 hroom.1.2 ⟨hkv.2.2.2.2.2.1, hkv.2.2.2.2.2.2⟩ hroom.2.1) ⟨fun a U g mk q => ⟨q.1, q.2.1, hok.1 _ _ _ _ _ q.2.2.1, q.2.2.2⟩, hrc _ _ _ _ _ hE hD hS, fun U hU hW => ⟨rfl, by rw [hU], hok.2 sz s U H locs hs hE hS hU hW, by rw [hU]; exact hD⟩⟩ rfl hn0 hl.1 rfl (lv_room hcat) d ⟨hroom.2.2.1, hroom.2.2.2⟩) hS (fun q _ h => hA q h) hA (fun r1 u t H1 locs1 ht hvm hw hB hz1 hk1 hS1 => ?_)
  have hw : r1 = r := hw
  subst hw
  have hB : dyn x1 t.heap := hB
  exact k p e s m args below meth c C hr hk hn hs hE H1 locs1 ls hl (by rw [← ht]; exact hB) hS1
theorem jx_callSi {y : MethodName} {bytes : ByteArray} {maxL n index : Nat} {ret2 : Option FieldType} {rm : Room} (As : List Value) {x1 : X} {r : Int32} (hM : ∀ sz' : Nat, Met l y (Cond.code y bytes maxL ret2 :: jx_ws) rm (jx_Pc env dyn rg sz' x As) (jx_Qi dyn x1 r (jx_A rg sz')) 0 0 (jx_A rg sz')) (hkv : jx_kS own index y bytes maxL ret2 n) (hok : jx_ok rg env) (hst : st = As.reverse ++ rest) (hn0 : As.length = n) (hcat : (rest.map fun v => v.category).sum ≤ 8) (hroom : jx_rm rm R maxL ce sl) (d : decode cc pc = .ok (.invokestatic index, 3)) (k : jx_J l env dyn rg sz own nm cc nL ret R Qf ce sl (pc + 3) lv (.int r :: rest) x1) : jx_J l env dyn rg sz own nm cc nL ret R Qf ce sl pc lv st x := by
  intro p e s m args below meth c C hr hk hn hs hE H locs ls hl hD hS
  subst hst
  have hA : ∀ q, jx_A rg H.size q → jx_A rg sz q := fun q h => h.elim Or.inl (fun h => Or.inr (Nat.le_trans (by rw [← hs]; exact hS.1) h))
  refine va_calli (va_runS (As := As) (rest := rest) C (hM H.size) (va_cwS n C.2.2.2.2 (jx_goodS hkv) rfl hroom.1.1 hroom.1.2 hkv.2.2.2.2 hroom.2.1) ⟨fun a U g mk q => ⟨q.1, q.2.1, hok.1 _ _ _ _ _ q.2.2.1, q.2.2.2⟩, fun U hU hW => ⟨rfl, by rw [hU], hok.2 sz s U H locs hs hE hS hU hW, by rw [hU]; exact hD⟩⟩ rfl hn0 hl.1 rfl (lv_room hcat) d ⟨hroom.2.2.1, hroom.2.2.2⟩) hS (fun q _ h => hA q h) hA (fun r1 u t H1 locs1 ht hvm hw hB hz1 hk1 hS1 => ?_)
  have hw : r1 = r := hw
  subst hw
  have hB : dyn x1 t.heap := hB
  exact k p e s m args below meth c C hr hk hn hs hE H1 locs1 ls hl (by rw [← ht]; exact hB) hS1
theorem jx_callVl {Cn : String} {y : MethodName} {bytes : ByteArray} {maxL n index : Nat} {ret2 : Option FieldType} {rm : Room} {b : Nat} (As : List Value) {x1 : X} {r : Int64} (hM : ∀ sz' : Nat, Met l y (Cond.code y bytes maxL ret2 :: jx_ws) rm (jx_Pc env dyn rg sz' x (Value.ref b :: As)) (jx_Ql dyn x1 r (jx_A rg sz')) 0 0 (jx_A rg sz')) (hkv : jx_kV own index Cn y bytes maxL ret2 n) (hok : jx_ok rg env) (hrc : jx_rc env dyn rg b Cn) (hst : st = As.reverse ++ .ref b :: rest) (hn0 : As.length = n) (hcat : (rest.map fun v => v.category).sum ≤ 8) (hroom : jx_rm rm R maxL ce sl) (d : decode cc pc = .ok (.invokevirtual index, 3)) (k : jx_J l env dyn rg sz own nm cc nL ret R Qf ce sl (pc + 3) lv (.long r :: rest) x1) : jx_J l env dyn rg sz own nm cc nL ret R Qf ce sl pc lv st x := by
  intro p e s m args below meth c C hr hk hn hs hE H locs ls hl hD hS
  subst hst
  have hA : ∀ q, jx_A rg H.size q → jx_A rg sz q := fun q h => h.elim Or.inl (fun h => Or.inr (Nat.le_trans (by rw [← hs]; exact hS.1) h))
  refine va_calll (va_runV (As := As) (rest := rest) C (hM H.size) (cwV n C.2.2.2.2 (jx_goodV hkv) rfl hroom.1.1 hroom.1.2 ⟨hkv.2.2.2.2.2.1, hkv.2.2.2.2.2.2⟩ hroom.2.1) ⟨fun a U g mk q => ⟨q.1, q.2.1, hok.1 _ _ _ _ _ q.2.2.1, q.2.2.2⟩, hrc _ _ _ _ _ hE hD hS, fun U hU hW => ⟨rfl, by rw [hU], hok.2 sz s U H locs hs hE hS hU hW, by rw [hU]; exact hD⟩⟩ rfl hn0 hl.1 rfl (lv_room hcat) d ⟨hroom.2.2.1, hroom.2.2.2⟩) hS (fun q _ h => hA q h) hA (fun r1 u t H1 locs1 ht hvm hw hB hz1 hk1 hS1 => ?_)
  have hw : r1 = r := hw
  subst hw
  have hB : dyn x1 t.heap := hB
  exact k p e s m args below meth c C hr hk hn hs hE H1 locs1 ls hl (by rw [← ht]; exact hB) hS1
theorem jx_callSl {y : MethodName} {bytes : ByteArray} {maxL n index : Nat} {ret2 : Option FieldType} {rm : Room} (As : List Value) {x1 : X} {r : Int64} (hM : ∀ sz' : Nat, Met l y (Cond.code y bytes maxL ret2 :: jx_ws) rm (jx_Pc env dyn rg sz' x As) (jx_Ql dyn x1 r (jx_A rg sz')) 0 0 (jx_A rg sz')) (hkv : jx_kS own index y bytes maxL ret2 n) (hok : jx_ok rg env) (hst : st = As.reverse ++ rest) (hn0 : As.length = n) (hcat : (rest.map fun v => v.category).sum ≤ 8) (hroom : jx_rm rm R maxL ce sl) (d : decode cc pc = .ok (.invokestatic index, 3)) (k : jx_J l env dyn rg sz own nm cc nL ret R Qf ce sl (pc + 3) lv (.long r :: rest) x1) : jx_J l env dyn rg sz own nm cc nL ret R Qf ce sl pc lv st x := by
  intro p e s m args below meth c C hr hk hn hs hE H locs ls hl hD hS
  subst hst
  have hA : ∀ q, jx_A rg H.size q → jx_A rg sz q := fun q h => h.elim Or.inl (fun h => Or.inr (Nat.le_trans (by rw [← hs]; exact hS.1) h))
  refine va_calll (va_runS (As := As) (rest := rest) C (hM H.size) (va_cwS n C.2.2.2.2 (jx_goodS hkv) rfl hroom.1.1 hroom.1.2 hkv.2.2.2.2 hroom.2.1) ⟨fun a U g mk q => ⟨q.1, q.2.1, hok.1 _ _ _ _ _ q.2.2.1, q.2.2.2⟩, fun U hU hW => ⟨rfl, by rw [hU], hok.2 sz s U H locs hs hE hS hU hW, by rw [hU]; exact hD⟩⟩ rfl hn0 hl.1 rfl (lv_room hcat) d ⟨hroom.2.2.1, hroom.2.2.2⟩) hS (fun q _ h => hA q h) hA (fun r1 u t H1 locs1 ht hvm hw hB hz1 hk1 hS1 => ?_)
  have hw : r1 = r := hw
  subst hw
  have hB : dyn x1 t.heap := hB
  exact k p e s m args below meth c C hr hk hn hs hE H1 locs1 ls hl (by rw [← ht]; exact hB) hS1
theorem jx_callVv {Cn : String} {y : MethodName} {bytes : ByteArray} {maxL n index : Nat} {ret2 : Option FieldType} {rm : Room} {b : Nat} (As : List Value) {x1 : X} (hM : ∀ sz' : Nat, Met l y (Cond.code y bytes maxL ret2 :: jx_ws) rm (jx_Pc env dyn rg sz' x (Value.ref b :: As)) (jx_Qv dyn x1 (jx_A rg sz')) 0 0 (jx_A rg sz')) (hkv : jx_kV own index Cn y bytes maxL ret2 n) (hok : jx_ok rg env) (hrc : jx_rc env dyn rg b Cn) (hst : st = As.reverse ++ .ref b :: rest) (hn0 : As.length = n) (hcat : (rest.map fun v => v.category).sum ≤ 8) (hroom : jx_rm rm R maxL ce sl) (d : decode cc pc = .ok (.invokevirtual index, 3)) (k : jx_J l env dyn rg sz own nm cc nL ret R Qf ce sl (pc + 3) lv (rest) x1) : jx_J l env dyn rg sz own nm cc nL ret R Qf ce sl pc lv st x := by
  intro p e s m args below meth c C hr hk hn hs hE H locs ls hl hD hS
  subst hst
  have hA : ∀ q, jx_A rg H.size q → jx_A rg sz q := fun q h => h.elim Or.inl (fun h => Or.inr (Nat.le_trans (by rw [← hs]; exact hS.1) h))
  refine va_callv (va_runV (As := As) (rest := rest) C (hM H.size) (cwV n C.2.2.2.2 (jx_goodV hkv) rfl hroom.1.1 hroom.1.2 ⟨hkv.2.2.2.2.2.1, hkv.2.2.2.2.2.2⟩ hroom.2.1) ⟨fun a U g mk q => ⟨q.1, q.2.1, hok.1 _ _ _ _ _ q.2.2.1, q.2.2.2⟩, hrc _ _ _ _ _ hE hD hS, fun U hU hW => ⟨rfl, by rw [hU], hok.2 sz s U H locs hs hE hS hU hW, by rw [hU]; exact hD⟩⟩ rfl hn0 hl.1 rfl (lv_room hcat) d ⟨hroom.2.2.1, hroom.2.2.2⟩) hS (fun q _ h => hA q h) hA (fun u t H1 locs1 ht hvm hw hB hz1 hk1 hS1 => ?_)
  have hB : dyn x1 t.heap := hB
  exact k p e s m args below meth c C hr hk hn hs hE H1 locs1 ls hl (by rw [← ht]; exact hB) hS1
theorem jx_callSv {y : MethodName} {bytes : ByteArray} {maxL n index : Nat} {ret2 : Option FieldType} {rm : Room} (As : List Value) {x1 : X} (hM : ∀ sz' : Nat, Met l y (Cond.code y bytes maxL ret2 :: jx_ws) rm (jx_Pc env dyn rg sz' x As) (jx_Qv dyn x1 (jx_A rg sz')) 0 0 (jx_A rg sz')) (hkv : jx_kS own index y bytes maxL ret2 n) (hok : jx_ok rg env) (hst : st = As.reverse ++ rest) (hn0 : As.length = n) (hcat : (rest.map fun v => v.category).sum ≤ 8) (hroom : jx_rm rm R maxL ce sl) (d : decode cc pc = .ok (.invokestatic index, 3)) (k : jx_J l env dyn rg sz own nm cc nL ret R Qf ce sl (pc + 3) lv (rest) x1) : jx_J l env dyn rg sz own nm cc nL ret R Qf ce sl pc lv st x := by
  intro p e s m args below meth c C hr hk hn hs hE H locs ls hl hD hS
  subst hst
  have hA : ∀ q, jx_A rg H.size q → jx_A rg sz q := fun q h => h.elim Or.inl (fun h => Or.inr (Nat.le_trans (by rw [← hs]; exact hS.1) h))
  refine va_callv (va_runS (As := As) (rest := rest) C (hM H.size) (va_cwS n C.2.2.2.2 (jx_goodS hkv) rfl hroom.1.1 hroom.1.2 hkv.2.2.2.2 hroom.2.1) ⟨fun a U g mk q => ⟨q.1, q.2.1, hok.1 _ _ _ _ _ q.2.2.1, q.2.2.2⟩, fun U hU hW => ⟨rfl, by rw [hU], hok.2 sz s U H locs hs hE hS hU hW, by rw [hU]; exact hD⟩⟩ rfl hn0 hl.1 rfl (lv_room hcat) d ⟨hroom.2.2.1, hroom.2.2.2⟩) hS (fun q _ h => hA q h) hA (fun u t H1 locs1 ht hvm hw hB hz1 hk1 hS1 => ?_)
  have hB : dyn x1 t.heap := hB
  exact k p e s m args below meth c C hr hk hn hs hE H1 locs1 ls hl (by rw [← ht]; exact hB) hS1
theorem jx_callVr {Cn : String} {y : MethodName} {bytes : ByteArray} {maxL n index : Nat} {ret2 : Option FieldType} {rm : Room} {b : Nat} (As : List Value) {x1 : X} {r : Nat} (hM : ∀ sz' : Nat, Met l y (Cond.code y bytes maxL ret2 :: jx_ws) rm (jx_Pc env dyn rg sz' x (Value.ref b :: As)) (jx_Qr dyn x1 r (jx_A rg sz')) 0 0 (jx_A rg sz')) (hkv : jx_kV own index Cn y bytes maxL ret2 n) (hok : jx_ok rg env) (hrc : jx_rc env dyn rg b Cn) (hst : st = As.reverse ++ .ref b :: rest) (hn0 : As.length = n) (hcat : (rest.map fun v => v.category).sum ≤ 8) (hroom : jx_rm rm R maxL ce sl) (d : decode cc pc = .ok (.invokevirtual index, 3)) (k : jx_J l env dyn rg sz own nm cc nL ret R Qf ce sl (pc + 3) lv (.ref r :: rest) x1) : jx_J l env dyn rg sz own nm cc nL ret R Qf ce sl pc lv st x := by
  intro p e s m args below meth c C hr hk hn hs hE H locs ls hl hD hS
  subst hst
  have hA : ∀ q, jx_A rg H.size q → jx_A rg sz q := fun q h => h.elim Or.inl (fun h => Or.inr (Nat.le_trans (by rw [← hs]; exact hS.1) h))
  refine va_callr (va_runV (As := As) (rest := rest) C (hM H.size) (cwV n C.2.2.2.2 (jx_goodV hkv) rfl hroom.1.1 hroom.1.2 ⟨hkv.2.2.2.2.2.1, hkv.2.2.2.2.2.2⟩ hroom.2.1) ⟨fun a U g mk q => ⟨q.1, q.2.1, hok.1 _ _ _ _ _ q.2.2.1, q.2.2.2⟩, hrc _ _ _ _ _ hE hD hS, fun U hU hW => ⟨rfl, by rw [hU], hok.2 sz s U H locs hs hE hS hU hW, by rw [hU]; exact hD⟩⟩ rfl hn0 hl.1 rfl (lv_room hcat) d ⟨hroom.2.2.1, hroom.2.2.2⟩) hS (fun q _ h => hA q h) hA (fun u r1 t H1 locs1 ht hvm hw hB hz1 hk1 hS1 => ?_)
  have hw2 : r1 = r := hB.1
  subst hw2
  have hB : dyn x1 t.heap := hB.2
  exact k p e s m args below meth c C hr hk hn hs hE H1 locs1 ls hl (by rw [← ht]; exact hB) hS1
theorem jx_callSr {y : MethodName} {bytes : ByteArray} {maxL n index : Nat} {ret2 : Option FieldType} {rm : Room} (As : List Value) {x1 : X} {r : Nat} (hM : ∀ sz' : Nat, Met l y (Cond.code y bytes maxL ret2 :: jx_ws) rm (jx_Pc env dyn rg sz' x As) (jx_Qr dyn x1 r (jx_A rg sz')) 0 0 (jx_A rg sz')) (hkv : jx_kS own index y bytes maxL ret2 n) (hok : jx_ok rg env) (hst : st = As.reverse ++ rest) (hn0 : As.length = n) (hcat : (rest.map fun v => v.category).sum ≤ 8) (hroom : jx_rm rm R maxL ce sl) (d : decode cc pc = .ok (.invokestatic index, 3)) (k : jx_J l env dyn rg sz own nm cc nL ret R Qf ce sl (pc + 3) lv (.ref r :: rest) x1) : jx_J l env dyn rg sz own nm cc nL ret R Qf ce sl pc lv st x := by
  intro p e s m args below meth c C hr hk hn hs hE H locs ls hl hD hS
  subst hst
  have hA : ∀ q, jx_A rg H.size q → jx_A rg sz q := fun q h => h.elim Or.inl (fun h => Or.inr (Nat.le_trans (by rw [← hs]; exact hS.1) h))
  refine va_callr (va_runS (As := As) (rest := rest) C (hM H.size) (va_cwS n C.2.2.2.2 (jx_goodS hkv) rfl hroom.1.1 hroom.1.2 hkv.2.2.2.2 hroom.2.1) ⟨fun a U g mk q => ⟨q.1, q.2.1, hok.1 _ _ _ _ _ q.2.2.1, q.2.2.2⟩, fun U hU hW => ⟨rfl, by rw [hU], hok.2 sz s U H locs hs hE hS hU hW, by rw [hU]; exact hD⟩⟩ rfl hn0 hl.1 rfl (lv_room hcat) d ⟨hroom.2.2.1, hroom.2.2.2⟩) hS (fun q _ h => hA q h) hA (fun u r1 t H1 locs1 ht hvm hw hB hz1 hk1 hS1 => ?_)
  have hw2 : r1 = r := hB.1
  subst hw2
  have hB : dyn x1 t.heap := hB.2
  exact k p e s m args below meth c C hr hk hn hs hE H1 locs1 ls hl (by rw [← ht]; exact hB) hS1
end JX
end
section
/-! the words of the tables, one row each that is used -/
theorem fl_X4_9 : Cond.fieldLink RX4 9 "LampVote$Tide" "words" "[I" ∈ jx_ws := (jx_t1 (List.mem_of_getElem? (i := 39) rfl) rfl)
theorem fl_X4_15 : Cond.fieldLink RX4 15 "LampVote$Tide" "amounts" "[I" ∈ jx_ws := (jx_t1 (List.mem_of_getElem? (i := 40) rfl) rfl)
theorem fl_X4_18 : Cond.fieldLink RX4 18 "LampVote$Tide" "ends" "[I" ∈ jx_ws := (jx_t1 (List.mem_of_getElem? (i := 41) rfl) rfl)
theorem fl_X4_21 : Cond.fieldLink RX4 21 "LampVote$Tide" "code" "[I" ∈ jx_ws := (jx_t1 (List.mem_of_getElem? (i := 42) rfl) rfl)
theorem fl_X1_71 : Cond.fieldLink RX1 71 "LampVote$Canal" "places" "I" ∈ jx_ws := (jx_t1 (List.mem_of_getElem? (i := 57) rfl) rfl)
theorem fl_X2_40 : Cond.fieldLink RX2 40 "LampVote$Canal" "places" "I" ∈ jx_ws := (jx_t1 (List.mem_of_getElem? (i := 58) rfl) rfl)
theorem fl_X5_78 : Cond.fieldLink RX5 78 "LampVote$Canal" "places" "I" ∈ jx_ws := (jx_t1 (List.mem_of_getElem? (i := 59) rfl) rfl)
theorem fl_X1_11 : Cond.fieldLink RX1 11 "LampVote$Canal" "place" "[[I" ∈ jx_ws := (jx_t1 (List.mem_of_getElem? (i := 60) rfl) rfl)
theorem fl_X5_93 : Cond.fieldLink RX5 93 "LampVote$Canal" "place" "[[I" ∈ jx_ws := (jx_t1 (List.mem_of_getElem? (i := 61) rfl) rfl)
theorem fl_X2_100 : Cond.fieldLink RX2 100 "LampVote$Canal" "place" "[[I" ∈ jx_ws := (jx_t1 (List.mem_of_getElem? (i := 62) rfl) rfl)
theorem fl_X1_16 : Cond.fieldLink RX1 16 "LampVote$Canal" "minute" "I" ∈ jx_ws := (jx_t1 (List.mem_of_getElem? (i := 63) rfl) rfl)
theorem fl_X2_45 : Cond.fieldLink RX2 45 "LampVote$Canal" "minute" "I" ∈ jx_ws := (jx_t1 (List.mem_of_getElem? (i := 64) rfl) rfl)
theorem fl_X5_97 : Cond.fieldLink RX5 97 "LampVote$Canal" "minute" "I" ∈ jx_ws := (jx_t1 (List.mem_of_getElem? (i := 65) rfl) rfl)
theorem fl_X1_20 : Cond.fieldLink RX1 20 "LampVote$Canal" "voters" "I" ∈ jx_ws := (jx_t1 (List.mem_of_getElem? (i := 66) rfl) rfl)
theorem fl_X5_75 : Cond.fieldLink RX5 75 "LampVote$Canal" "voters" "I" ∈ jx_ws := (jx_t1 (List.mem_of_getElem? (i := 67) rfl) rfl)
theorem fl_X2_74 : Cond.fieldLink RX2 74 "LampVote$Canal" "voters" "I" ∈ jx_ws := (jx_t1 (List.mem_of_getElem? (i := 68) rfl) rfl)
theorem fl_X1_23 : Cond.fieldLink RX1 23 "LampVote$Canal" "voter" "[[I" ∈ jx_ws := (jx_t1 (List.mem_of_getElem? (i := 69) rfl) rfl)
theorem fl_X2_55 : Cond.fieldLink RX2 55 "LampVote$Canal" "voter" "[[I" ∈ jx_ws := (jx_t1 (List.mem_of_getElem? (i := 70) rfl) rfl)
theorem fl_X0_42 : Cond.fieldLink RX0 42 "LampVote$Canal" "voter" "[[I" ∈ jx_ws := (jx_t1 (List.mem_of_getElem? (i := 71) rfl) rfl)
theorem fl_X5_110 : Cond.fieldLink RX5 110 "LampVote$Canal" "voter" "[[I" ∈ jx_ws := (jx_t1 (List.mem_of_getElem? (i := 72) rfl) rfl)
theorem fl_X1_26 : Cond.fieldLink RX1 26 "LampVote$Canal" "signs" "I" ∈ jx_ws := (jx_t1 (List.mem_of_getElem? (i := 73) rfl) rfl)
theorem fl_X5_52 : Cond.fieldLink RX5 52 "LampVote$Canal" "signs" "I" ∈ jx_ws := (jx_t1 (List.mem_of_getElem? (i := 74) rfl) rfl)
theorem fl_X1_29 : Cond.fieldLink RX1 29 "LampVote$Canal" "tape" "[I" ∈ jx_ws := (jx_t1 (List.mem_of_getElem? (i := 75) rfl) rfl)
theorem fl_X5_56 : Cond.fieldLink RX5 56 "LampVote$Canal" "tape" "[I" ∈ jx_ws := (jx_t1 (List.mem_of_getElem? (i := 76) rfl) rfl)
theorem fl_X1_33 : Cond.fieldLink RX1 33 "LampVote$Canal" "tides" "I" ∈ jx_ws := (jx_t1 (List.mem_of_getElem? (i := 77) rfl) rfl)
theorem fl_X5_60 : Cond.fieldLink RX5 60 "LampVote$Canal" "tides" "I" ∈ jx_ws := (jx_t1 (List.mem_of_getElem? (i := 78) rfl) rfl)
theorem fl_X1_39 : Cond.fieldLink RX1 39 "LampVote$Canal" "newest" "LLampVote$Tide;" ∈ jx_ws := (jx_t1 (List.mem_of_getElem? (i := 79) rfl) rfl)
theorem fl_X5_71 : Cond.fieldLink RX5 71 "LampVote$Canal" "newest" "LLampVote$Tide;" ∈ jx_ws := (jx_t1 (List.mem_of_getElem? (i := 80) rfl) rfl)
theorem fl_X1_43 : Cond.fieldLink RX1 43 "LampVote$Canal" "seen" "I" ∈ jx_ws := (jx_t1 (List.mem_of_getElem? (i := 81) rfl) rfl)
theorem fl_X2_137 : Cond.fieldLink RX2 137 "LampVote$Canal" "seen" "I" ∈ jx_ws := (jx_t1 (List.mem_of_getElem? (i := 82) rfl) rfl)
theorem fl_X5_199 : Cond.fieldLink RX5 199 "LampVote$Canal" "seen" "I" ∈ jx_ws := (jx_t1 (List.mem_of_getElem? (i := 83) rfl) rfl)
theorem fl_X1_46 : Cond.fieldLink RX1 46 "LampVote$Canal" "seenPlace" "[I" ∈ jx_ws := (jx_t1 (List.mem_of_getElem? (i := 84) rfl) rfl)
theorem fl_X2_140 : Cond.fieldLink RX2 140 "LampVote$Canal" "seenPlace" "[I" ∈ jx_ws := (jx_t1 (List.mem_of_getElem? (i := 85) rfl) rfl)
theorem fl_X5_202 : Cond.fieldLink RX5 202 "LampVote$Canal" "seenPlace" "[I" ∈ jx_ws := (jx_t1 (List.mem_of_getElem? (i := 86) rfl) rfl)
theorem fl_X1_49 : Cond.fieldLink RX1 49 "LampVote$Canal" "seenLamps" "[I" ∈ jx_ws := (jx_t1 (List.mem_of_getElem? (i := 87) rfl) rfl)
theorem fl_X2_143 : Cond.fieldLink RX2 143 "LampVote$Canal" "seenLamps" "[I" ∈ jx_ws := (jx_t1 (List.mem_of_getElem? (i := 88) rfl) rfl)
theorem fl_X5_205 : Cond.fieldLink RX5 205 "LampVote$Canal" "seenLamps" "[I" ∈ jx_ws := (jx_t1 (List.mem_of_getElem? (i := 89) rfl) rfl)
theorem fl_X1_52 : Cond.fieldLink RX1 52 "LampVote$Canal" "tales" "I" ∈ jx_ws := (jx_t1 (List.mem_of_getElem? (i := 90) rfl) rfl)
theorem fl_X2_152 : Cond.fieldLink RX2 152 "LampVote$Canal" "tales" "I" ∈ jx_ws := (jx_t1 (List.mem_of_getElem? (i := 91) rfl) rfl)
theorem fl_X5_217 : Cond.fieldLink RX5 217 "LampVote$Canal" "tales" "I" ∈ jx_ws := (jx_t1 (List.mem_of_getElem? (i := 92) rfl) rfl)
theorem fl_X1_55 : Cond.fieldLink RX1 55 "LampVote$Canal" "taleVoter" "[I" ∈ jx_ws := (jx_t1 (List.mem_of_getElem? (i := 93) rfl) rfl)
theorem fl_X2_155 : Cond.fieldLink RX2 155 "LampVote$Canal" "taleVoter" "[I" ∈ jx_ws := (jx_t1 (List.mem_of_getElem? (i := 94) rfl) rfl)
theorem fl_X5_220 : Cond.fieldLink RX5 220 "LampVote$Canal" "taleVoter" "[I" ∈ jx_ws := (jx_t1 (List.mem_of_getElem? (i := 95) rfl) rfl)
theorem fl_X1_58 : Cond.fieldLink RX1 58 "LampVote$Canal" "taleMinute" "[I" ∈ jx_ws := (jx_t1 (List.mem_of_getElem? (i := 96) rfl) rfl)
theorem fl_X2_158 : Cond.fieldLink RX2 158 "LampVote$Canal" "taleMinute" "[I" ∈ jx_ws := (jx_t1 (List.mem_of_getElem? (i := 97) rfl) rfl)
theorem fl_X5_223 : Cond.fieldLink RX5 223 "LampVote$Canal" "taleMinute" "[I" ∈ jx_ws := (jx_t1 (List.mem_of_getElem? (i := 98) rfl) rfl)
theorem fl_X1_61 : Cond.fieldLink RX1 61 "LampVote$Canal" "talePlace" "[I" ∈ jx_ws := (jx_t1 (List.mem_of_getElem? (i := 99) rfl) rfl)
theorem fl_X2_164 : Cond.fieldLink RX2 164 "LampVote$Canal" "talePlace" "[I" ∈ jx_ws := (jx_t1 (List.mem_of_getElem? (i := 100) rfl) rfl)
theorem fl_X5_226 : Cond.fieldLink RX5 226 "LampVote$Canal" "talePlace" "[I" ∈ jx_ws := (jx_t1 (List.mem_of_getElem? (i := 101) rfl) rfl)
theorem fl_X1_64 : Cond.fieldLink RX1 64 "LampVote$Canal" "here" "[I" ∈ jx_ws := (jx_t1 (List.mem_of_getElem? (i := 102) rfl) rfl)
theorem fl_X2_36 : Cond.fieldLink RX2 36 "LampVote$Night" "canal" "LLampVote$Canal;" ∈ jx_ws := (jx_t1 (List.mem_of_getElem? (i := 145) rfl) rfl)
theorem fl_X2_11 : Cond.fieldLink RX2 11 "LampVote$Night" "goal" "[[I" ∈ jx_ws := (jx_t1 (List.mem_of_getElem? (i := 146) rfl) rfl)
theorem fl_X2_16 : Cond.fieldLink RX2 16 "LampVote$Night" "filled" "[[I" ∈ jx_ws := (jx_t1 (List.mem_of_getElem? (i := 147) rfl) rfl)
theorem fl_X2_19 : Cond.fieldLink RX2 19 "LampVote$Night" "weight" "[I" ∈ jx_ws := (jx_t1 (List.mem_of_getElem? (i := 148) rfl) rfl)
theorem fl_X2_23 : Cond.fieldLink RX2 23 "LampVote$Night" "lamps" "[I" ∈ jx_ws := (jx_t1 (List.mem_of_getElem? (i := 149) rfl) rfl)
theorem fl_X2_26 : Cond.fieldLink RX2 26 "LampVote$Night" "stick" "I" ∈ jx_ws := (jx_t1 (List.mem_of_getElem? (i := 150) rfl) rfl)
theorem fl_X2_30 : Cond.fieldLink RX2 30 "LampVote$Night" "lie" "[I" ∈ jx_ws := (jx_t1 (List.mem_of_getElem? (i := 151) rfl) rfl)
theorem fl_X5_148 : Cond.fieldLink RX5 148 "LampVote$Night" "lie" "[I" ∈ jx_ws := (jx_t1 (List.mem_of_getElem? (i := 152) rfl) rfl)
theorem fl_X2_33 : Cond.fieldLink RX2 33 "LampVote$Night" "worth" "[I" ∈ jx_ws := (jx_t1 (List.mem_of_getElem? (i := 153) rfl) rfl)
theorem fl_X5_151 : Cond.fieldLink RX5 151 "LampVote$Night" "worth" "[I" ∈ jx_ws := (jx_t1 (List.mem_of_getElem? (i := 154) rfl) rfl)
theorem fl_X0_19 : Cond.fieldLink RX0 19 "LampVote$Acts" "canal" "LLampVote$Canal;" ∈ jx_ws := (jx_t1 (List.mem_of_getElem? (i := 178) rfl) rfl)
theorem fl_X0_11 : Cond.fieldLink RX0 11 "LampVote$Acts" "bodies" "[I" ∈ jx_ws := (jx_t1 (List.mem_of_getElem? (i := 179) rfl) rfl)
theorem fl_X5_242 : Cond.fieldLink RX5 242 "LampVote$Acts" "bodies" "[I" ∈ jx_ws := (jx_t1 (List.mem_of_getElem? (i := 180) rfl) rfl)
theorem fl_X0_15 : Cond.fieldLink RX0 15 "LampVote$Acts" "ran" "I" ∈ jx_ws := (jx_t1 (List.mem_of_getElem? (i := 181) rfl) rfl)
theorem fl_X5_251 : Cond.fieldLink RX5 251 "LampVote$Acts" "ran" "I" ∈ jx_ws := (jx_t1 (List.mem_of_getElem? (i := 182) rfl) rfl)
theorem fl_X3_11 : Cond.fieldLink RX3 11 "LampVote$Reader" "words" "[I" ∈ jx_ws := (jx_t1 (List.mem_of_getElem? (i := 196) rfl) rfl)
theorem fl_X3_15 : Cond.fieldLink RX3 15 "LampVote$Reader" "amounts" "[I" ∈ jx_ws := (jx_t1 (List.mem_of_getElem? (i := 197) rfl) rfl)
theorem fl_X3_18 : Cond.fieldLink RX3 18 "LampVote$Reader" "ends" "[I" ∈ jx_ws := (jx_t1 (List.mem_of_getElem? (i := 198) rfl) rfl)
theorem fl_X3_21 : Cond.fieldLink RX3 21 "LampVote$Reader" "code" "[I" ∈ jx_ws := (jx_t1 (List.mem_of_getElem? (i := 199) rfl) rfl)
theorem fl_X3_24 : Cond.fieldLink RX3 24 "LampVote$Reader" "pending" "[I" ∈ jx_ws := (jx_t1 (List.mem_of_getElem? (i := 200) rfl) rfl)
theorem fl_X3_27 : Cond.fieldLink RX3 27 "LampVote$Reader" "clauses" "I" ∈ jx_ws := (jx_t1 (List.mem_of_getElem? (i := 201) rfl) rfl)
theorem fl_X3_31 : Cond.fieldLink RX3 31 "LampVote$Reader" "codes" "I" ∈ jx_ws := (jx_t1 (List.mem_of_getElem? (i := 202) rfl) rfl)
theorem fl_X3_34 : Cond.fieldLink RX3 34 "LampVote$Reader" "pended" "I" ∈ jx_ws := (jx_t1 (List.mem_of_getElem? (i := 203) rfl) rfl)
theorem fl_X3_37 : Cond.fieldLink RX3 37 "LampVote$Reader" "open" "I" ∈ jx_ws := (jx_t1 (List.mem_of_getElem? (i := 204) rfl) rfl)
theorem fl_X3_40 : Cond.fieldLink RX3 40 "LampVote$Reader" "due" "I" ∈ jx_ws := (jx_t1 (List.mem_of_getElem? (i := 205) rfl) rfl)
theorem fl_X3_101 : Cond.fieldLink RX3 101 "LampVote$Reader" "word" "I" ∈ jx_ws := (jx_t1 (List.mem_of_getElem? (i := 206) rfl) rfl)
theorem fl_X3_104 : Cond.fieldLink RX3 104 "LampVote$Reader" "letter" "I" ∈ jx_ws := (jx_t1 (List.mem_of_getElem? (i := 207) rfl) rfl)
theorem fl_X3_127 : Cond.fieldLink RX3 127 "LampVote$Reader" "subject" "I" ∈ jx_ws := (jx_t1 (List.mem_of_getElem? (i := 208) rfl) rfl)
theorem fl_X3_132 : Cond.fieldLink RX3 132 "LampVote$Reader" "relation" "I" ∈ jx_ws := (jx_t1 (List.mem_of_getElem? (i := 209) rfl) rfl)
theorem fl_X3_114 : Cond.fieldLink RX3 114 "LampVote$Reader" "number" "I" ∈ jx_ws := (jx_t1 (List.mem_of_getElem? (i := 210) rfl) rfl)
theorem fl_X5_12 : Cond.fieldLink RX5 12 "LampVote" "now" "LLampVote$Canal;" ∈ jx_ws := (jx_t2 (List.mem_of_getElem? (i := 2) rfl) rfl)
theorem fl_X5_18 : Cond.fieldLink RX5 18 "LampVote" "image" "LLampVote$Canal;" ∈ jx_ws := (jx_t2 (List.mem_of_getElem? (i := 3) rfl) rfl)
theorem fl_X5_26 : Cond.fieldLink RX5 26 "LampVote" "night" "LLampVote$Night;" ∈ jx_ws := (jx_t2 (List.mem_of_getElem? (i := 4) rfl) rfl)
theorem fl_X5_33 : Cond.fieldLink RX5 33 "LampVote" "acts" "LLampVote$Acts;" ∈ jx_ws := (jx_t2 (List.mem_of_getElem? (i := 5) rfl) rfl)
theorem fl_X5_40 : Cond.fieldLink RX5 40 "LampVote" "reader" "LLampVote$Reader;" ∈ jx_ws := (jx_t2 (List.mem_of_getElem? (i := 6) rfl) rfl)
theorem fl_X5_44 : Cond.fieldLink RX5 44 "LampVote" "imaged" "Z" ∈ jx_ws := (jx_t2 (List.mem_of_getElem? (i := 7) rfl) rfl)
theorem fl_X3_90 : Cond.fieldLink RX3 90 "LampVote$Reader" "STARTS" "[I" ∈ jx_ws := (jx_t2 (List.mem_of_getElem? (i := 44) rfl) rfl)
theorem fl_J0_38 : Cond.fieldLink RJ0 38 "java/lang/String" "COMPACT_STRINGS" "Z" ∈ jx_ws := (jx_t2 (List.mem_of_getElem? (i := 55) rfl) rfl)
theorem fl_J0_1053 : Cond.fieldLink RJ0 1053 "jdk/internal/util/Preconditions" "SIOOBE_FORMATTER" "Ljava/util/function/BiFunction;" ∈ jx_ws := (jx_t2 (List.mem_of_getElem? (i := 63) rfl) rfl)
theorem fl_J2_44 : Cond.fieldLink RJ2 44 "java/lang/StringUTF16" "$assertionsDisabled" "Z" ∈ jx_ws := (jx_t2 (List.mem_of_getElem? (i := 81) rfl) rfl)
theorem fl_J2_59 : Cond.fieldLink RJ2 59 "java/lang/StringUTF16" "HI_BYTE_SHIFT" "I" ∈ jx_ws := (jx_t2 (List.mem_of_getElem? (i := 83) rfl) rfl)
theorem fl_J2_63 : Cond.fieldLink RJ2 63 "java/lang/StringUTF16" "LO_BYTE_SHIFT" "I" ∈ jx_ws := (jx_t2 (List.mem_of_getElem? (i := 85) rfl) rfl)
theorem cn_J2_227 : Cond.constant RJ2 227 (65536 : Int32) ∈ jx_ws := (jx_t2 (List.mem_of_getElem? (i := 153) rfl) rfl)
theorem cn_J11_110 : Cond.constant RJ11 110 (55232 : Int32) ∈ jx_ws := (jx_t2 (List.mem_of_getElem? (i := 178) rfl) rfl)
theorem cn_J11_76 : Cond.constant RJ11 76 (56320 : Int32) ∈ jx_ws := (jx_t2 (List.mem_of_getElem? (i := 182) rfl) rfl)
theorem cn_X4_28 : Cond.constantLong RX4 28 (-2 : Int64) ∈ jx_ws := (jx_t3 (List.mem_of_getElem? (i := 44) rfl) rfl)
theorem cn_J6_265 : Cond.constant RJ6 265 (1431655765 : Int32) ∈ jx_ws := (jx_t3 (List.mem_of_getElem? (i := 205) rfl) rfl)
theorem cn_J6_266 : Cond.constant RJ6 266 (858993459 : Int32) ∈ jx_ws := (jx_t3 (List.mem_of_getElem? (i := 206) rfl) rfl)
theorem cn_J6_267 : Cond.constant RJ6 267 (252645135 : Int32) ∈ jx_ws := (jx_t3 (List.mem_of_getElem? (i := 207) rfl) rfl)
theorem cn_X5_175 : Cond.constantLong RX5 175 (-9223372036854775808 : Int64) ∈ jx_ws := (jx_t3 (List.mem_of_getElem? (i := 213) rfl) rfl)
theorem cn_X2_114 : Cond.constant RX2 114 (-2147483648 : Int32) ∈ jx_ws := (jx_t3 (List.mem_of_getElem? (i := 234) rfl) rfl)
theorem fl_X0_32 : Cond.fieldLink RX0 32 "LampVote$Acts" "BODIES" "[I" ∈ jx_ws := (jx_t4 (List.mem_of_getElem? (i := 83) rfl) rfl)
theorem fl_X0_29 : Cond.fieldLink RX0 29 "LampVote$Acts" "ABOVE" "[I" ∈ jx_ws := (jx_t4 (List.mem_of_getElem? (i := 85) rfl) rfl)
theorem fl_X6_9 : Cond.fieldLink RX6 9 "LampVoteModel" "s" "[I" ∈ jx_ws := (jx_t4 (List.mem_of_getElem? (i := 142) rfl) rfl)
theorem fl_X6_15 : Cond.fieldLink RX6 15 "LampVoteModel" "image" "[I" ∈ jx_ws := (jx_t4 (List.mem_of_getElem? (i := 143) rfl) rfl)
theorem fl_X6_264 : Cond.fieldLink RX6 264 "LampVoteModel" "hasImage" "Z" ∈ jx_ws := (jx_t4 (List.mem_of_getElem? (i := 144) rfl) rfl)
theorem fl_X6_78 : Cond.fieldLink RX6 78 "LampVoteModel" "act" "I" ∈ jx_ws := (jx_t4 (List.mem_of_getElem? (i := 145) rfl) rfl)
theorem fl_X6_52 : Cond.fieldLink RX6 52 "LampVoteModel" "spot" "I" ∈ jx_ws := (jx_t4 (List.mem_of_getElem? (i := 146) rfl) rfl)
theorem fl_X6_55 : Cond.fieldLink RX6 55 "LampVoteModel" "end" "I" ∈ jx_ws := (jx_t4 (List.mem_of_getElem? (i := 147) rfl) rfl)
theorem fl_X6_58 : Cond.fieldLink RX6 58 "LampVoteModel" "isWrong" "Z" ∈ jx_ws := (jx_t4 (List.mem_of_getElem? (i := 148) rfl) rfl)
theorem fl_X6_81 : Cond.fieldLink RX6 81 "LampVoteModel" "open" "I" ∈ jx_ws := (jx_t4 (List.mem_of_getElem? (i := 149) rfl) rfl)
theorem fl_X6_18 : Cond.fieldLink RX6 18 "LampVoteModel" "by" "[I" ∈ jx_ws := (jx_t4 (List.mem_of_getElem? (i := 150) rfl) rfl)
theorem fl_X6_21 : Cond.fieldLink RX6 21 "LampVoteModel" "truths" "[Z" ∈ jx_ws := (jx_t4 (List.mem_of_getElem? (i := 151) rfl) rfl)
theorem fl_X6_129 : Cond.fieldLink RX6 129 "LampVoteModel" "isSide" "Z" ∈ jx_ws := (jx_t4 (List.mem_of_getElem? (i := 152) rfl) rfl)
theorem fl_X6_132 : Cond.fieldLink RX6 132 "LampVoteModel" "isHeld" "Z" ∈ jx_ws := (jx_t4 (List.mem_of_getElem? (i := 153) rfl) rfl)
theorem fl_X6_135 : Cond.fieldLink RX6 135 "LampVoteModel" "oiled" "I" ∈ jx_ws := (jx_t4 (List.mem_of_getElem? (i := 154) rfl) rfl)
theorem fl_X6_138 : Cond.fieldLink RX6 138 "LampVoteModel" "weighed" "I" ∈ jx_ws := (jx_t4 (List.mem_of_getElem? (i := 155) rfl) rfl)
theorem fl_X6_25 : Cond.fieldLink RX6 25 "LampVoteModel" "going" "[I" ∈ jx_ws := (jx_t4 (List.mem_of_getElem? (i := 156) rfl) rfl)
theorem fl_X6_28 : Cond.fieldLink RX6 28 "LampVoteModel" "weights" "[I" ∈ jx_ws := (jx_t4 (List.mem_of_getElem? (i := 157) rfl) rfl)
theorem fl_X6_31 : Cond.fieldLink RX6 31 "LampVoteModel" "lying" "[I" ∈ jx_ws := (jx_t4 (List.mem_of_getElem? (i := 158) rfl) rfl)
theorem fl_X6_34 : Cond.fieldLink RX6 34 "LampVoteModel" "counts" "[Z" ∈ jx_ws := (jx_t4 (List.mem_of_getElem? (i := 159) rfl) rfl)
theorem fl_X6_212 : Cond.fieldLink RX6 212 "LampVoteModel" "bestPlace" "I" ∈ jx_ws := (jx_t4 (List.mem_of_getElem? (i := 160) rfl) rfl)
theorem fl_X6_218 : Cond.fieldLink RX6 218 "LampVoteModel" "bestMore" "I" ∈ jx_ws := (jx_t4 (List.mem_of_getElem? (i := 161) rfl) rfl)
theorem fl_X6_37 : Cond.fieldLink RX6 37 "LampVoteModel" "bodies" "[I" ∈ jx_ws := (jx_t4 (List.mem_of_getElem? (i := 162) rfl) rfl)
theorem fl_X6_227 : Cond.fieldLink RX6 227 "LampVoteModel" "ran" "I" ∈ jx_ws := (jx_t4 (List.mem_of_getElem? (i := 163) rfl) rfl)
theorem fl_X6_236 : Cond.fieldLink RX6 236 "LampVoteModel" "kind" "I" ∈ jx_ws := (jx_t4 (List.mem_of_getElem? (i := 164) rfl) rfl)
theorem fl_X6_233 : Cond.fieldLink RX6 233 "LampVoteModel" "number" "I" ∈ jx_ws := (jx_t4 (List.mem_of_getElem? (i := 165) rfl) rfl)
theorem fl_X6_249 : Cond.fieldLink RX6 249 "LampVoteModel" "tellsV" "I" ∈ jx_ws := (jx_t4 (List.mem_of_getElem? (i := 166) rfl) rfl)
theorem cn_X6_206 : Cond.constantLong RX6 206 (-9223372036854775808 : Int64) ∈ jx_ws := (jx_t5 (List.mem_of_getElem? (i := 186) rfl) rfl)
theorem fl_J0_15 : Cond.fieldLink RJ0 15 "java/lang/String" "coder" "B" ∈ jx_ws := (jx_t6 (List.mem_of_getElem? (i := 49) rfl) rfl)
theorem fl_J0_9 : Cond.fieldLink RJ0 9 "java/lang/String" "value" "[B" ∈ jx_ws := (jx_t6 (List.mem_of_getElem? (i := 50) rfl) rfl)
theorem il_X0_k : ∀ k, k < 3 → u_lay RX0 TX0 k ∈ jx_ws := fun k hk => match k, hk with
  | 0, _ => (jx_t1 (List.mem_of_getElem? (i := 183) rfl) rfl)
  | 1, _ => (jx_t1 (List.mem_of_getElem? (i := 185) rfl) rfl)
  | 2, _ => (jx_t1 (List.mem_of_getElem? (i := 187) rfl) rfl)
  | n + 3, h => absurd h (by omega)
theorem il_X0 : ∀ w ∈ u_ws RX0 TX0 3, w ∈ jx_ws := fun w h => by
  obtain ⟨k, hk, rfl⟩ := List.mem_map.mp h
  exact il_X0_k k (List.mem_range.mp hk)
theorem il_X1_k : ∀ k, k < 17 → u_lay RX1 TX1 k ∈ jx_ws := fun k hk => match k, hk with
  | 0, _ => (jx_t1 (List.mem_of_getElem? (i := 103) rfl) rfl)
  | 1, _ => (jx_t1 (List.mem_of_getElem? (i := 105) rfl) rfl)
  | 2, _ => (jx_t1 (List.mem_of_getElem? (i := 107) rfl) rfl)
  | 3, _ => (jx_t1 (List.mem_of_getElem? (i := 109) rfl) rfl)
  | 4, _ => (jx_t1 (List.mem_of_getElem? (i := 111) rfl) rfl)
  | 5, _ => (jx_t1 (List.mem_of_getElem? (i := 113) rfl) rfl)
  | 6, _ => (jx_t1 (List.mem_of_getElem? (i := 115) rfl) rfl)
  | 7, _ => (jx_t1 (List.mem_of_getElem? (i := 117) rfl) rfl)
  | 8, _ => (jx_t1 (List.mem_of_getElem? (i := 119) rfl) rfl)
  | 9, _ => (jx_t1 (List.mem_of_getElem? (i := 121) rfl) rfl)
  | 10, _ => (jx_t1 (List.mem_of_getElem? (i := 123) rfl) rfl)
  | 11, _ => (jx_t1 (List.mem_of_getElem? (i := 125) rfl) rfl)
  | 12, _ => (jx_t1 (List.mem_of_getElem? (i := 127) rfl) rfl)
  | 13, _ => (jx_t1 (List.mem_of_getElem? (i := 129) rfl) rfl)
  | 14, _ => (jx_t1 (List.mem_of_getElem? (i := 131) rfl) rfl)
  | 15, _ => (jx_t1 (List.mem_of_getElem? (i := 133) rfl) rfl)
  | 16, _ => (jx_t1 (List.mem_of_getElem? (i := 135) rfl) rfl)
  | n + 17, h => absurd h (by omega)
theorem il_X1 : ∀ w ∈ u_ws RX1 TX1 17, w ∈ jx_ws := fun w h => by
  obtain ⟨k, hk, rfl⟩ := List.mem_map.mp h
  exact il_X1_k k (List.mem_range.mp hk)
theorem il_X2_k : ∀ k, k < 8 → u_lay RX2 TX2 k ∈ jx_ws := fun k hk => match k, hk with
  | 0, _ => (jx_t1 (List.mem_of_getElem? (i := 155) rfl) rfl)
  | 1, _ => (jx_t1 (List.mem_of_getElem? (i := 157) rfl) rfl)
  | 2, _ => (jx_t1 (List.mem_of_getElem? (i := 159) rfl) rfl)
  | 3, _ => (jx_t1 (List.mem_of_getElem? (i := 161) rfl) rfl)
  | 4, _ => (jx_t1 (List.mem_of_getElem? (i := 163) rfl) rfl)
  | 5, _ => (jx_t1 (List.mem_of_getElem? (i := 165) rfl) rfl)
  | 6, _ => (jx_t1 (List.mem_of_getElem? (i := 167) rfl) rfl)
  | 7, _ => (jx_t1 (List.mem_of_getElem? (i := 169) rfl) rfl)
  | n + 8, h => absurd h (by omega)
theorem il_X2 : ∀ w ∈ u_ws RX2 TX2 8, w ∈ jx_ws := fun w h => by
  obtain ⟨k, hk, rfl⟩ := List.mem_map.mp h
  exact il_X2_k k (List.mem_range.mp hk)
theorem il_X3_k : ∀ k, k < 15 → u_lay RX3 TX3 k ∈ jx_ws := fun k hk => match k, hk with
  | 0, _ => (jx_t1 (List.mem_of_getElem? (i := 211) rfl) rfl)
  | 1, _ => (jx_t1 (List.mem_of_getElem? (i := 213) rfl) rfl)
  | 2, _ => (jx_t1 (List.mem_of_getElem? (i := 215) rfl) rfl)
  | 3, _ => (jx_t1 (List.mem_of_getElem? (i := 217) rfl) rfl)
  | 4, _ => (jx_t1 (List.mem_of_getElem? (i := 219) rfl) rfl)
  | 5, _ => (jx_t1 (List.mem_of_getElem? (i := 221) rfl) rfl)
  | 6, _ => (jx_t1 (List.mem_of_getElem? (i := 223) rfl) rfl)
  | 7, _ => (jx_t1 (List.mem_of_getElem? (i := 225) rfl) rfl)
  | 8, _ => (jx_t1 (List.mem_of_getElem? (i := 227) rfl) rfl)
  | 9, _ => (jx_t1 (List.mem_of_getElem? (i := 229) rfl) rfl)
  | 10, _ => (jx_t1 (List.mem_of_getElem? (i := 231) rfl) rfl)
  | 11, _ => (jx_t1 (List.mem_of_getElem? (i := 233) rfl) rfl)
  | 12, _ => (jx_t1 (List.mem_of_getElem? (i := 235) rfl) rfl)
  | 13, _ => (jx_t1 (List.mem_of_getElem? (i := 237) rfl) rfl)
  | 14, _ => (jx_t1 (List.mem_of_getElem? (i := 239) rfl) rfl)
  | n + 15, h => absurd h (by omega)
theorem il_X3 : ∀ w ∈ u_ws RX3 TX3 15, w ∈ jx_ws := fun w h => by
  obtain ⟨k, hk, rfl⟩ := List.mem_map.mp h
  exact il_X3_k k (List.mem_range.mp hk)
theorem il_X4_k : ∀ k, k < 4 → u_lay RX4 TX4 k ∈ jx_ws := fun k hk => match k, hk with
  | 0, _ => (jx_t1 (List.mem_of_getElem? (i := 43) rfl) rfl)
  | 1, _ => (jx_t1 (List.mem_of_getElem? (i := 45) rfl) rfl)
  | 2, _ => (jx_t1 (List.mem_of_getElem? (i := 47) rfl) rfl)
  | 3, _ => (jx_t1 (List.mem_of_getElem? (i := 49) rfl) rfl)
  | n + 4, h => absurd h (by omega)
theorem il_X4 : ∀ w ∈ u_ws RX4 TX4 4, w ∈ jx_ws := fun w h => by
  obtain ⟨k, hk, rfl⟩ := List.mem_map.mp h
  exact il_X4_k k (List.mem_range.mp hk)
theorem il_X5_k : ∀ k, k < 6 → u_lay RX5 TX5 k ∈ jx_ws := fun k hk => match k, hk with
  | 0, _ => (jx_t2 (List.mem_of_getElem? (i := 8) rfl) rfl)
  | 1, _ => (jx_t2 (List.mem_of_getElem? (i := 10) rfl) rfl)
  | 2, _ => (jx_t2 (List.mem_of_getElem? (i := 12) rfl) rfl)
  | 3, _ => (jx_t2 (List.mem_of_getElem? (i := 14) rfl) rfl)
  | 4, _ => (jx_t2 (List.mem_of_getElem? (i := 16) rfl) rfl)
  | 5, _ => (jx_t2 (List.mem_of_getElem? (i := 18) rfl) rfl)
  | n + 6, h => absurd h (by omega)
theorem il_X5 : ∀ w ∈ u_ws RX5 TX5 6, w ∈ jx_ws := fun w h => by
  obtain ⟨k, hk, rfl⟩ := List.mem_map.mp h
  exact il_X5_k k (List.mem_range.mp hk)
theorem il_X6_k : ∀ k, k < 26 → u_lay RX6 TX6 k ∈ jx_ws := fun k hk => match k, hk with
  | 0, _ => (jx_t4 (List.mem_of_getElem? (i := 167) rfl) rfl)
  | 1, _ => (jx_t4 (List.mem_of_getElem? (i := 169) rfl) rfl)
  | 2, _ => (jx_t4 (List.mem_of_getElem? (i := 171) rfl) rfl)
  | 3, _ => (jx_t4 (List.mem_of_getElem? (i := 173) rfl) rfl)
  | 4, _ => (jx_t4 (List.mem_of_getElem? (i := 175) rfl) rfl)
  | 5, _ => (jx_t4 (List.mem_of_getElem? (i := 177) rfl) rfl)
  | 6, _ => (jx_t4 (List.mem_of_getElem? (i := 179) rfl) rfl)
  | 7, _ => (jx_t4 (List.mem_of_getElem? (i := 181) rfl) rfl)
  | 8, _ => (jx_t4 (List.mem_of_getElem? (i := 183) rfl) rfl)
  | 9, _ => (jx_t4 (List.mem_of_getElem? (i := 185) rfl) rfl)
  | 10, _ => (jx_t4 (List.mem_of_getElem? (i := 187) rfl) rfl)
  | 11, _ => (jx_t4 (List.mem_of_getElem? (i := 189) rfl) rfl)
  | 12, _ => (jx_t4 (List.mem_of_getElem? (i := 191) rfl) rfl)
  | 13, _ => (jx_t4 (List.mem_of_getElem? (i := 193) rfl) rfl)
  | 14, _ => (jx_t4 (List.mem_of_getElem? (i := 195) rfl) rfl)
  | 15, _ => (jx_t4 (List.mem_of_getElem? (i := 197) rfl) rfl)
  | 16, _ => (jx_t4 (List.mem_of_getElem? (i := 199) rfl) rfl)
  | 17, _ => (jx_t4 (List.mem_of_getElem? (i := 201) rfl) rfl)
  | 18, _ => (jx_t4 (List.mem_of_getElem? (i := 203) rfl) rfl)
  | 19, _ => (jx_t4 (List.mem_of_getElem? (i := 205) rfl) rfl)
  | 20, _ => (jx_t4 (List.mem_of_getElem? (i := 207) rfl) rfl)
  | 21, _ => (jx_t4 (List.mem_of_getElem? (i := 209) rfl) rfl)
  | 22, _ => (jx_t4 (List.mem_of_getElem? (i := 211) rfl) rfl)
  | 23, _ => (jx_t4 (List.mem_of_getElem? (i := 213) rfl) rfl)
  | 24, _ => (jx_t4 (List.mem_of_getElem? (i := 215) rfl) rfl)
  | 25, _ => (jx_t4 (List.mem_of_getElem? (i := 217) rfl) rfl)
  | n + 26, h => absurd h (by omega)
theorem il_X6 : ∀ w ∈ u_ws RX6 TX6 26, w ∈ jx_ws := fun w h => by
  obtain ⟨k, hk, rfl⟩ := List.mem_map.mp h
  exact il_X6_k k (List.mem_range.mp hk)
theorem kv_X1_67 : jx_kV RX1 67 RX1 yX1_dig cX1_dig 3 none 1 := ⟨(jx_t1 (List.mem_of_getElem? (i := 53) rfl) rfl), (jx_t1 (List.mem_of_getElem? (i := 54) rfl) rfl), (jx_t1 (List.mem_of_getElem? (i := 55) rfl) rfl), (jx_t1 (List.mem_of_getElem? (i := 2) rfl) rfl), (jx_t1 (List.mem_of_getElem? (i := 56) rfl) rfl), rfl, ⟨by decide +kernel, by decide +kernel, by decide +kernel⟩⟩
theorem kv_L_13 : jx_kV RL 13 RX5 yX5_feed cX5_feed 2 (some .int) 1 := ⟨(jx_t2 (List.mem_of_getElem? (i := 21) rfl) rfl), (jx_t2 (List.mem_of_getElem? (i := 22) rfl) rfl), (jx_t2 (List.mem_of_getElem? (i := 23) rfl) rfl), (jx_t1 (List.mem_of_getElem? (i := 1) rfl) rfl), (jx_t2 (List.mem_of_getElem? (i := 24) rfl) rfl), rfl, ⟨by decide +kernel, by decide +kernel, by decide +kernel⟩⟩
theorem ks_X5_48 : jx_kS RX5 48 yX5_within cX5_within 3 (some .boolean) 3 := ⟨(jx_t2 (List.mem_of_getElem? (i := 25) rfl) rfl), (jx_t2 (List.mem_of_getElem? (i := 26) rfl) rfl), (jx_t1 (List.mem_of_getElem? (i := 1) rfl) rfl), (jx_t2 (List.mem_of_getElem? (i := 27) rfl) rfl), ⟨by decide +kernel, by decide +kernel, by decide +kernel⟩⟩
theorem kv_L_18 : jx_kV RL 18 RX5 yX5_tide cX5_tide 2 (some .int) 0 := ⟨(jx_t2 (List.mem_of_getElem? (i := 28) rfl) rfl), (jx_t2 (List.mem_of_getElem? (i := 29) rfl) rfl), (jx_t2 (List.mem_of_getElem? (i := 30) rfl) rfl), (jx_t1 (List.mem_of_getElem? (i := 1) rfl) rfl), (jx_t2 (List.mem_of_getElem? (i := 31) rfl) rfl), rfl, ⟨by decide +kernel, by decide +kernel, by decide +kernel⟩⟩
theorem kv_X5_63 : jx_kV RX5 63 RX3 yX3_faultOf cX3_faultOf 4 (some .int) 2 := ⟨(jx_t2 (List.mem_of_getElem? (i := 32) rfl) rfl), (jx_t2 (List.mem_of_getElem? (i := 33) rfl) rfl), (jx_t2 (List.mem_of_getElem? (i := 34) rfl) rfl), (jx_t1 (List.mem_of_getElem? (i := 6) rfl) rfl), (jx_t2 (List.mem_of_getElem? (i := 35) rfl) rfl), rfl, ⟨by decide +kernel, by decide +kernel, by decide +kernel⟩⟩
theorem kv_X3_43 : jx_kV RX3 43 RX3 yX3_takes cX3_takes 2 (some .boolean) 1 := ⟨(jx_t2 (List.mem_of_getElem? (i := 36) rfl) rfl), (jx_t2 (List.mem_of_getElem? (i := 38) rfl) rfl), (jx_pv (jx_p1 (List.mem_of_getElem? (i := 0) rfl))), (jx_t1 (List.mem_of_getElem? (i := 6) rfl) rfl), (jx_t2 (List.mem_of_getElem? (i := 39) rfl) rfl), rfl, ⟨by decide +kernel, by decide +kernel, by decide +kernel⟩⟩
theorem kv_X3_62 : jx_kV RX3 62 RX3 yX3_takesWord cX3_takesWord 3 (some .boolean) 1 := ⟨(jx_t2 (List.mem_of_getElem? (i := 40) rfl) rfl), (jx_t2 (List.mem_of_getElem? (i := 42) rfl) rfl), (jx_pv (jx_p1 (List.mem_of_getElem? (i := 1) rfl))), (jx_t1 (List.mem_of_getElem? (i := 6) rfl) rfl), (jx_t2 (List.mem_of_getElem? (i := 43) rfl) rfl), rfl, ⟨by decide +kernel, by decide +kernel, by decide +kernel⟩⟩
theorem kv_X3_95 : jx_kV RX3 95 RJ0 yJ0_charAt_5068e cJ0_charAt_5068e 2 (some .char) 1 := ⟨(jx_t2 (List.mem_of_getElem? (i := 47) rfl) rfl), (jx_t2 (List.mem_of_getElem? (i := 48) rfl) rfl), (jx_t2 (List.mem_of_getElem? (i := 49) rfl) rfl), (jx_t1 (List.mem_of_getElem? (i := 8) rfl) rfl), (jx_t2 (List.mem_of_getElem? (i := 50) rfl) rfl), rfl, ⟨by decide +kernel, by decide +kernel, by decide +kernel⟩⟩
theorem kv_J0_492 : jx_kV RJ0 492 RJ0 yJ0_isLatin1_aae02 cJ0_isLatin1_aae02 1 (some .boolean) 0 := ⟨(jx_t2 (List.mem_of_getElem? (i := 51) rfl) rfl), (jx_t2 (List.mem_of_getElem? (i := 52) rfl) rfl), (jx_t2 (List.mem_of_getElem? (i := 53) rfl) rfl), (jx_t1 (List.mem_of_getElem? (i := 8) rfl) rfl), (jx_t2 (List.mem_of_getElem? (i := 54) rfl) rfl), rfl, ⟨by decide +kernel, by decide +kernel, by decide +kernel⟩⟩
theorem ks_J0_495 : jx_kS RJ0 495 yJ1_charAt_3b067 cJ1_charAt_3b067 2 (some .char) 2 := ⟨(jx_t2 (List.mem_of_getElem? (i := 57) rfl) rfl), (jx_t2 (List.mem_of_getElem? (i := 58) rfl) rfl), (jx_t1 (List.mem_of_getElem? (i := 9) rfl) rfl), (jx_t2 (List.mem_of_getElem? (i := 59) rfl) rfl), ⟨by decide +kernel, by decide +kernel, by decide +kernel⟩⟩
theorem ks_J1_9 : jx_kS RJ1 9 yJ0_checkIndex_df160 cJ0_checkIndex_df160 2 none 2 := ⟨(jx_t2 (List.mem_of_getElem? (i := 60) rfl) rfl), (jx_t2 (List.mem_of_getElem? (i := 61) rfl) rfl), (jx_t1 (List.mem_of_getElem? (i := 8) rfl) rfl), (jx_t2 (List.mem_of_getElem? (i := 62) rfl) rfl), ⟨by decide +kernel, by decide +kernel, by decide +kernel⟩⟩
theorem ks_J0_1059 : jx_kS RJ0 1059 yJ3_checkIndex_8e157 cJ3_checkIndex_8e157 3 (some .int) 3 := ⟨(jx_t2 (List.mem_of_getElem? (i := 65) rfl) rfl), (jx_t2 (List.mem_of_getElem? (i := 66) rfl) rfl), (jx_t1 (List.mem_of_getElem? (i := 10) rfl) rfl), (jx_t2 (List.mem_of_getElem? (i := 67) rfl) rfl), ⟨by decide +kernel, by decide +kernel, by decide +kernel⟩⟩
theorem ks_J0_498 : jx_kS RJ0 498 yJ2_charAt_3b067 cJ2_charAt_3b067 2 (some .char) 2 := ⟨(jx_t2 (List.mem_of_getElem? (i := 68) rfl) rfl), (jx_t2 (List.mem_of_getElem? (i := 69) rfl) rfl), (jx_t1 (List.mem_of_getElem? (i := 11) rfl) rfl), (jx_t2 (List.mem_of_getElem? (i := 70) rfl) rfl), ⟨by decide +kernel, by decide +kernel, by decide +kernel⟩⟩
theorem ks_J2_67 : jx_kS RJ2 67 yJ2_checkIndex_2214a cJ2_checkIndex_2214a 2 none 2 := ⟨(jx_t2 (List.mem_of_getElem? (i := 71) rfl) rfl), (jx_t2 (List.mem_of_getElem? (i := 72) rfl) rfl), (jx_t1 (List.mem_of_getElem? (i := 11) rfl) rfl), (jx_t2 (List.mem_of_getElem? (i := 73) rfl) rfl), ⟨by decide +kernel, by decide +kernel, by decide +kernel⟩⟩
theorem ks_J2_48 : jx_kS RJ2 48 yJ2_length_9d52b cJ2_length_9d52b 1 (some .int) 1 := ⟨(jx_t2 (List.mem_of_getElem? (i := 74) rfl) rfl), (jx_t2 (List.mem_of_getElem? (i := 75) rfl) rfl), (jx_t1 (List.mem_of_getElem? (i := 11) rfl) rfl), (jx_t2 (List.mem_of_getElem? (i := 76) rfl) rfl), ⟨by decide +kernel, by decide +kernel, by decide +kernel⟩⟩
theorem ks_J2_414 : jx_kS RJ2 414 yJ0_checkIndex_df160 cJ0_checkIndex_df160 2 none 2 := ⟨(jx_t2 (List.mem_of_getElem? (i := 77) rfl) rfl), (jx_t2 (List.mem_of_getElem? (i := 61) rfl) rfl), (jx_t1 (List.mem_of_getElem? (i := 8) rfl) rfl), (jx_t2 (List.mem_of_getElem? (i := 62) rfl) rfl), ⟨by decide +kernel, by decide +kernel, by decide +kernel⟩⟩
theorem ks_J2_71 : jx_kS RJ2 71 yJ2_getChar_3b067 cJ2_getChar_3b067 2 (some .char) 2 := ⟨(jx_t2 (List.mem_of_getElem? (i := 78) rfl) rfl), (jx_t2 (List.mem_of_getElem? (i := 79) rfl) rfl), (jx_t1 (List.mem_of_getElem? (i := 11) rfl) rfl), (jx_t2 (List.mem_of_getElem? (i := 80) rfl) rfl), ⟨by decide +kernel, by decide +kernel, by decide +kernel⟩⟩
theorem kv_X3_65 : jx_kV RX3 65 RX3 yX3_takesLetter cX3_takesLetter 2 (some .boolean) 1 := ⟨(jx_t2 (List.mem_of_getElem? (i := 87) rfl) rfl), (jx_t2 (List.mem_of_getElem? (i := 89) rfl) rfl), (jx_pv (jx_p1 (List.mem_of_getElem? (i := 2) rfl))), (jx_t1 (List.mem_of_getElem? (i := 6) rfl) rfl), (jx_t2 (List.mem_of_getElem? (i := 90) rfl) rfl), rfl, ⟨by decide +kernel, by decide +kernel, by decide +kernel⟩⟩
theorem kv_X3_107 : jx_kV RX3 107 RJ0 yJ0_length_8abf5 cJ0_length_8abf5 1 (some .int) 0 := ⟨(jx_t2 (List.mem_of_getElem? (i := 91) rfl) rfl), (jx_t2 (List.mem_of_getElem? (i := 92) rfl) rfl), (jx_t2 (List.mem_of_getElem? (i := 93) rfl) rfl), (jx_t1 (List.mem_of_getElem? (i := 8) rfl) rfl), (jx_t2 (List.mem_of_getElem? (i := 94) rfl) rfl), rfl, ⟨by decide +kernel, by decide +kernel, by decide +kernel⟩⟩
theorem kv_J0_335 : jx_kV RJ0 335 RJ0 yJ0_coder_7d493 cJ0_coder_7d493 1 (some .byte) 0 := ⟨(jx_t2 (List.mem_of_getElem? (i := 95) rfl) rfl), (jx_t2 (List.mem_of_getElem? (i := 96) rfl) rfl), (jx_t2 (List.mem_of_getElem? (i := 97) rfl) rfl), (jx_t1 (List.mem_of_getElem? (i := 8) rfl) rfl), (jx_t2 (List.mem_of_getElem? (i := 98) rfl) rfl), rfl, ⟨by decide +kernel, by decide +kernel, by decide +kernel⟩⟩
theorem kv_X3_111 : jx_kV RX3 111 RX3 yX3_opensClause cX3_opensClause 1 (some .boolean) 0 := ⟨(jx_t2 (List.mem_of_getElem? (i := 99) rfl) rfl), (jx_t2 (List.mem_of_getElem? (i := 101) rfl) rfl), (jx_pv (jx_p1 (List.mem_of_getElem? (i := 3) rfl))), (jx_t1 (List.mem_of_getElem? (i := 6) rfl) rfl), (jx_t2 (List.mem_of_getElem? (i := 102) rfl) rfl), rfl, ⟨by decide +kernel, by decide +kernel, by decide +kernel⟩⟩
theorem kv_X3_68 : jx_kV RX3 68 RX3 yX3_takesDigit cX3_takesDigit 3 (some .boolean) 2 := ⟨(jx_t2 (List.mem_of_getElem? (i := 103) rfl) rfl), (jx_t2 (List.mem_of_getElem? (i := 105) rfl) rfl), (jx_pv (jx_p1 (List.mem_of_getElem? (i := 4) rfl))), (jx_t1 (List.mem_of_getElem? (i := 6) rfl) rfl), (jx_t2 (List.mem_of_getElem? (i := 106) rfl) rfl), rfl, ⟨by decide +kernel, by decide +kernel, by decide +kernel⟩⟩
theorem kv_X3_72 : jx_kV RX3 72 RX3 yX3_takesBlank cX3_takesBlank 1 (some .boolean) 0 := ⟨(jx_t2 (List.mem_of_getElem? (i := 107) rfl) rfl), (jx_t2 (List.mem_of_getElem? (i := 109) rfl) rfl), (jx_pv (jx_p1 (List.mem_of_getElem? (i := 5) rfl))), (jx_t1 (List.mem_of_getElem? (i := 6) rfl) rfl), (jx_t2 (List.mem_of_getElem? (i := 110) rfl) rfl), rfl, ⟨by decide +kernel, by decide +kernel, by decide +kernel⟩⟩
theorem kv_X3_75 : jx_kV RX3 75 RX3 yX3_takesSecondDigit cX3_takesSecondDigit 2 (some .boolean) 1 := ⟨(jx_t2 (List.mem_of_getElem? (i := 111) rfl) rfl), (jx_t2 (List.mem_of_getElem? (i := 113) rfl) rfl), (jx_pv (jx_p1 (List.mem_of_getElem? (i := 6) rfl))), (jx_t1 (List.mem_of_getElem? (i := 6) rfl) rfl), (jx_t2 (List.mem_of_getElem? (i := 114) rfl) rfl), rfl, ⟨by decide +kernel, by decide +kernel, by decide +kernel⟩⟩
theorem kv_X3_78 : jx_kV RX3 78 RX3 yX3_takesFactor cX3_takesFactor 2 (some .boolean) 1 := ⟨(jx_t2 (List.mem_of_getElem? (i := 115) rfl) rfl), (jx_t2 (List.mem_of_getElem? (i := 117) rfl) rfl), (jx_pv (jx_p1 (List.mem_of_getElem? (i := 7) rfl))), (jx_t1 (List.mem_of_getElem? (i := 6) rfl) rfl), (jx_t2 (List.mem_of_getElem? (i := 118) rfl) rfl), rfl, ⟨by decide +kernel, by decide +kernel, by decide +kernel⟩⟩
theorem kv_X3_117 : jx_kV RX3 117 RX3 yX3_pend cX3_pend 2 none 1 := ⟨(jx_t2 (List.mem_of_getElem? (i := 119) rfl) rfl), (jx_t2 (List.mem_of_getElem? (i := 121) rfl) rfl), (jx_pv (jx_p1 (List.mem_of_getElem? (i := 8) rfl))), (jx_t1 (List.mem_of_getElem? (i := 6) rfl) rfl), (jx_t2 (List.mem_of_getElem? (i := 122) rfl) rfl), rfl, ⟨by decide +kernel, by decide +kernel, by decide +kernel⟩⟩
theorem kv_X3_123 : jx_kV RX3 123 RJ0 yJ0_indexOf_0f7a4 cJ0_indexOf_0f7a4 2 (some .int) 1 := ⟨(jx_t2 (List.mem_of_getElem? (i := 124) rfl) rfl), (jx_t2 (List.mem_of_getElem? (i := 125) rfl) rfl), (jx_t2 (List.mem_of_getElem? (i := 126) rfl) rfl), (jx_t1 (List.mem_of_getElem? (i := 8) rfl) rfl), (jx_t2 (List.mem_of_getElem? (i := 127) rfl) rfl), rfl, ⟨by decide +kernel, by decide +kernel, by decide +kernel⟩⟩
theorem kv_J0_633 : jx_kV RJ0 633 RJ0 yJ0_indexOf_7cf53 cJ0_indexOf_7cf53 3 (some .int) 2 := ⟨(jx_t2 (List.mem_of_getElem? (i := 128) rfl) rfl), (jx_t2 (List.mem_of_getElem? (i := 129) rfl) rfl), (jx_t2 (List.mem_of_getElem? (i := 130) rfl) rfl), (jx_t1 (List.mem_of_getElem? (i := 8) rfl) rfl), (jx_t2 (List.mem_of_getElem? (i := 131) rfl) rfl), rfl, ⟨by decide +kernel, by decide +kernel, by decide +kernel⟩⟩
theorem kv_J0_505 : jx_kV RJ0 505 RJ0 yJ0_length_8abf5 cJ0_length_8abf5 1 (some .int) 0 := ⟨(jx_t2 (List.mem_of_getElem? (i := 132) rfl) rfl), (jx_t2 (List.mem_of_getElem? (i := 92) rfl) rfl), (jx_t2 (List.mem_of_getElem? (i := 93) rfl) rfl), (jx_t1 (List.mem_of_getElem? (i := 8) rfl) rfl), (jx_t2 (List.mem_of_getElem? (i := 94) rfl) rfl), rfl, ⟨by decide +kernel, by decide +kernel, by decide +kernel⟩⟩
theorem ks_J0_637 : jx_kS RJ0 637 yJ1_indexOf_4cfef cJ1_indexOf_4cfef 4 (some .int) 4 := ⟨(jx_t2 (List.mem_of_getElem? (i := 133) rfl) rfl), (jx_t2 (List.mem_of_getElem? (i := 134) rfl) rfl), (jx_t1 (List.mem_of_getElem? (i := 9) rfl) rfl), (jx_t2 (List.mem_of_getElem? (i := 135) rfl) rfl), ⟨by decide +kernel, by decide +kernel, by decide +kernel⟩⟩
theorem ks_J1_88 : jx_kS RJ1 88 yJ1_canEncode_9a6ad cJ1_canEncode_9a6ad 1 (some .boolean) 1 := ⟨(jx_t2 (List.mem_of_getElem? (i := 136) rfl) rfl), (jx_t2 (List.mem_of_getElem? (i := 137) rfl) rfl), (jx_t1 (List.mem_of_getElem? (i := 9) rfl) rfl), (jx_t2 (List.mem_of_getElem? (i := 138) rfl) rfl), ⟨by decide +kernel, by decide +kernel, by decide +kernel⟩⟩
theorem ks_J1_92 : jx_kS RJ1 92 yJ9_max_7cf53 cJ9_max_7cf53 2 (some .int) 2 := ⟨(jx_t2 (List.mem_of_getElem? (i := 139) rfl) rfl), (jx_t2 (List.mem_of_getElem? (i := 140) rfl) rfl), (jx_t1 (List.mem_of_getElem? (i := 12) rfl) rfl), (jx_t2 (List.mem_of_getElem? (i := 141) rfl) rfl), ⟨by decide +kernel, by decide +kernel, by decide +kernel⟩⟩
theorem ks_J1_38 : jx_kS RJ1 38 yJ9_min_7cf53 cJ9_min_7cf53 2 (some .int) 2 := ⟨(jx_t2 (List.mem_of_getElem? (i := 142) rfl) rfl), (jx_t2 (List.mem_of_getElem? (i := 143) rfl) rfl), (jx_t1 (List.mem_of_getElem? (i := 12) rfl) rfl), (jx_t2 (List.mem_of_getElem? (i := 144) rfl) rfl), ⟨by decide +kernel, by decide +kernel, by decide +kernel⟩⟩
theorem ks_J1_95 : jx_kS RJ1 95 yJ1_indexOfChar_4cfef cJ1_indexOfChar_4cfef 6 (some .int) 4 := ⟨(jx_t2 (List.mem_of_getElem? (i := 145) rfl) rfl), (jx_t2 (List.mem_of_getElem? (i := 146) rfl) rfl), (jx_t1 (List.mem_of_getElem? (i := 9) rfl) rfl), (jx_t2 (List.mem_of_getElem? (i := 147) rfl) rfl), ⟨by decide +kernel, by decide +kernel, by decide +kernel⟩⟩
theorem ks_J0_640 : jx_kS RJ0 640 yJ2_indexOf_4cfef cJ2_indexOf_4cfef 4 (some .int) 4 := ⟨(jx_t2 (List.mem_of_getElem? (i := 148) rfl) rfl), (jx_t2 (List.mem_of_getElem? (i := 149) rfl) rfl), (jx_t1 (List.mem_of_getElem? (i := 11) rfl) rfl), (jx_t2 (List.mem_of_getElem? (i := 150) rfl) rfl), ⟨by decide +kernel, by decide +kernel, by decide +kernel⟩⟩
theorem ks_J2_224 : jx_kS RJ2 224 yJ9_max_7cf53 cJ9_max_7cf53 2 (some .int) 2 := ⟨(jx_t2 (List.mem_of_getElem? (i := 151) rfl) rfl), (jx_t2 (List.mem_of_getElem? (i := 140) rfl) rfl), (jx_t1 (List.mem_of_getElem? (i := 12) rfl) rfl), (jx_t2 (List.mem_of_getElem? (i := 141) rfl) rfl), ⟨by decide +kernel, by decide +kernel, by decide +kernel⟩⟩
theorem ks_J2_183 : jx_kS RJ2 183 yJ9_min_7cf53 cJ9_min_7cf53 2 (some .int) 2 := ⟨(jx_t2 (List.mem_of_getElem? (i := 152) rfl) rfl), (jx_t2 (List.mem_of_getElem? (i := 143) rfl) rfl), (jx_t1 (List.mem_of_getElem? (i := 12) rfl) rfl), (jx_t2 (List.mem_of_getElem? (i := 144) rfl) rfl), ⟨by decide +kernel, by decide +kernel, by decide +kernel⟩⟩
theorem ks_J2_228 : jx_kS RJ2 228 yJ2_indexOfChar_4cfef cJ2_indexOfChar_4cfef 4 (some .int) 4 := ⟨(jx_t2 (List.mem_of_getElem? (i := 154) rfl) rfl), (jx_t2 (List.mem_of_getElem? (i := 155) rfl) rfl), (jx_t1 (List.mem_of_getElem? (i := 11) rfl) rfl), (jx_t2 (List.mem_of_getElem? (i := 156) rfl) rfl), ⟨by decide +kernel, by decide +kernel, by decide +kernel⟩⟩
theorem ks_J2_96 : jx_kS RJ2 96 yJ2_checkBoundsBeginEnd_d044e cJ2_checkBoundsBeginEnd_d044e 3 none 3 := ⟨(jx_t2 (List.mem_of_getElem? (i := 157) rfl) rfl), (jx_t2 (List.mem_of_getElem? (i := 158) rfl) rfl), (jx_t1 (List.mem_of_getElem? (i := 11) rfl) rfl), (jx_t2 (List.mem_of_getElem? (i := 159) rfl) rfl), ⟨by decide +kernel, by decide +kernel, by decide +kernel⟩⟩
theorem ks_J2_241 : jx_kS RJ2 241 yJ0_checkBoundsBeginEnd_23922 cJ0_checkBoundsBeginEnd_23922 3 none 3 := ⟨(jx_t2 (List.mem_of_getElem? (i := 160) rfl) rfl), (jx_t2 (List.mem_of_getElem? (i := 161) rfl) rfl), (jx_t1 (List.mem_of_getElem? (i := 8) rfl) rfl), (jx_t2 (List.mem_of_getElem? (i := 162) rfl) rfl), ⟨by decide +kernel, by decide +kernel, by decide +kernel⟩⟩
theorem ks_J0_1062 : jx_kS RJ0 1062 yJ3_checkFromToIndex_8c36e cJ3_checkFromToIndex_8c36e 4 (some .int) 4 := ⟨(jx_t2 (List.mem_of_getElem? (i := 163) rfl) rfl), (jx_t2 (List.mem_of_getElem? (i := 164) rfl) rfl), (jx_t1 (List.mem_of_getElem? (i := 10) rfl) rfl), (jx_t2 (List.mem_of_getElem? (i := 165) rfl) rfl), ⟨by decide +kernel, by decide +kernel, by decide +kernel⟩⟩
theorem ks_J2_244 : jx_kS RJ2 244 yJ2_indexOfCharUnsafe_4cfef cJ2_indexOfCharUnsafe_4cfef 5 (some .int) 4 := ⟨(jx_t2 (List.mem_of_getElem? (i := 166) rfl) rfl), (jx_t2 (List.mem_of_getElem? (i := 167) rfl) rfl), (jx_t1 (List.mem_of_getElem? (i := 11) rfl) rfl), (jx_t2 (List.mem_of_getElem? (i := 168) rfl) rfl), ⟨by decide +kernel, by decide +kernel, by decide +kernel⟩⟩
theorem ks_J2_232 : jx_kS RJ2 232 yJ2_indexOfSupplementary_4cfef cJ2_indexOfSupplementary_4cfef 7 (some .int) 4 := ⟨(jx_t2 (List.mem_of_getElem? (i := 169) rfl) rfl), (jx_t2 (List.mem_of_getElem? (i := 170) rfl) rfl), (jx_t1 (List.mem_of_getElem? (i := 11) rfl) rfl), (jx_t2 (List.mem_of_getElem? (i := 171) rfl) rfl), ⟨by decide +kernel, by decide +kernel, by decide +kernel⟩⟩
theorem ks_J2_164 : jx_kS RJ2 164 yJ11_isValidCodePoint_9a6ad cJ11_isValidCodePoint_9a6ad 2 (some .boolean) 1 := ⟨(jx_t2 (List.mem_of_getElem? (i := 172) rfl) rfl), (jx_t2 (List.mem_of_getElem? (i := 173) rfl) rfl), (jx_t1 (List.mem_of_getElem? (i := 13) rfl) rfl), (jx_t2 (List.mem_of_getElem? (i := 174) rfl) rfl), ⟨by decide +kernel, by decide +kernel, by decide +kernel⟩⟩
theorem ks_J2_157 : jx_kS RJ2 157 yJ11_highSurrogate_5068e cJ11_highSurrogate_5068e 1 (some .char) 1 := ⟨(jx_t2 (List.mem_of_getElem? (i := 175) rfl) rfl), (jx_t2 (List.mem_of_getElem? (i := 176) rfl) rfl), (jx_t1 (List.mem_of_getElem? (i := 13) rfl) rfl), (jx_t2 (List.mem_of_getElem? (i := 177) rfl) rfl), ⟨by decide +kernel, by decide +kernel, by decide +kernel⟩⟩
theorem ks_J2_161 : jx_kS RJ2 161 yJ11_lowSurrogate_5068e cJ11_lowSurrogate_5068e 1 (some .char) 1 := ⟨(jx_t2 (List.mem_of_getElem? (i := 179) rfl) rfl), (jx_t2 (List.mem_of_getElem? (i := 180) rfl) rfl), (jx_t1 (List.mem_of_getElem? (i := 13) rfl) rfl), (jx_t2 (List.mem_of_getElem? (i := 181) rfl) rfl), ⟨by decide +kernel, by decide +kernel, by decide +kernel⟩⟩
theorem kv_X3_81 : jx_kV RX3 81 RX3 yX3_takesRelation cX3_takesRelation 2 (some .boolean) 1 := ⟨(jx_t2 (List.mem_of_getElem? (i := 183) rfl) rfl), (jx_t2 (List.mem_of_getElem? (i := 185) rfl) rfl), (jx_pv (jx_p1 (List.mem_of_getElem? (i := 9) rfl))), (jx_t1 (List.mem_of_getElem? (i := 6) rfl) rfl), (jx_t2 (List.mem_of_getElem? (i := 186) rfl) rfl), rfl, ⟨by decide +kernel, by decide +kernel, by decide +kernel⟩⟩
theorem kv_X3_84 : jx_kV RX3 84 RX3 yX3_endTest cX3_endTest 3 none 0 := ⟨(jx_t2 (List.mem_of_getElem? (i := 188) rfl) rfl), (jx_t2 (List.mem_of_getElem? (i := 190) rfl) rfl), (jx_pv (jx_p1 (List.mem_of_getElem? (i := 10) rfl))), (jx_t1 (List.mem_of_getElem? (i := 6) rfl) rfl), (jx_t2 (List.mem_of_getElem? (i := 191) rfl) rfl), rfl, ⟨by decide +kernel, by decide +kernel, by decide +kernel⟩⟩
theorem kv_X3_135 : jx_kV RX3 135 RX3 yX3_isSo cX3_isSo 2 (some .boolean) 1 := ⟨(jx_t2 (List.mem_of_getElem? (i := 192) rfl) rfl), (jx_t2 (List.mem_of_getElem? (i := 194) rfl) rfl), (jx_pv (jx_p1 (List.mem_of_getElem? (i := 11) rfl))), (jx_t1 (List.mem_of_getElem? (i := 6) rfl) rfl), (jx_t2 (List.mem_of_getElem? (i := 195) rfl) rfl), rfl, ⟨by decide +kernel, by decide +kernel, by decide +kernel⟩⟩
theorem kv_X3_138 : jx_kV RX3 138 RX3 yX3_write cX3_write 2 none 1 := ⟨(jx_t2 (List.mem_of_getElem? (i := 196) rfl) rfl), (jx_t2 (List.mem_of_getElem? (i := 198) rfl) rfl), (jx_pv (jx_p1 (List.mem_of_getElem? (i := 12) rfl))), (jx_t1 (List.mem_of_getElem? (i := 6) rfl) rfl), (jx_t2 (List.mem_of_getElem? (i := 199) rfl) rfl), rfl, ⟨by decide +kernel, by decide +kernel, by decide +kernel⟩⟩
theorem kv_X3_87 : jx_kV RX3 87 RX3 yX3_takesJoint cX3_takesJoint 2 (some .boolean) 1 := ⟨(jx_t2 (List.mem_of_getElem? (i := 200) rfl) rfl), (jx_t2 (List.mem_of_getElem? (i := 202) rfl) rfl), (jx_pv (jx_p1 (List.mem_of_getElem? (i := 13) rfl))), (jx_t1 (List.mem_of_getElem? (i := 6) rfl) rfl), (jx_t2 (List.mem_of_getElem? (i := 203) rfl) rfl), rfl, ⟨by decide +kernel, by decide +kernel, by decide +kernel⟩⟩
theorem kv_X3_141 : jx_kV RX3 141 RX3 yX3_takesOperator cX3_takesOperator 2 (some .boolean) 1 := ⟨(jx_t2 (List.mem_of_getElem? (i := 204) rfl) rfl), (jx_t2 (List.mem_of_getElem? (i := 206) rfl) rfl), (jx_pv (jx_p1 (List.mem_of_getElem? (i := 14) rfl))), (jx_t1 (List.mem_of_getElem? (i := 6) rfl) rfl), (jx_t2 (List.mem_of_getElem? (i := 207) rfl) rfl), rfl, ⟨by decide +kernel, by decide +kernel, by decide +kernel⟩⟩
theorem kv_X3_150 : jx_kV RX3 150 RX3 yX3_writePending cX3_writePending 2 none 1 := ⟨(jx_t2 (List.mem_of_getElem? (i := 208) rfl) rfl), (jx_t2 (List.mem_of_getElem? (i := 210) rfl) rfl), (jx_pv (jx_p1 (List.mem_of_getElem? (i := 15) rfl))), (jx_t1 (List.mem_of_getElem? (i := 6) rfl) rfl), (jx_t2 (List.mem_of_getElem? (i := 211) rfl) rfl), rfl, ⟨by decide +kernel, by decide +kernel, by decide +kernel⟩⟩
theorem kv_X3_144 : jx_kV RX3 144 RX3 yX3_takesClosing cX3_takesClosing 1 (some .boolean) 0 := ⟨(jx_t2 (List.mem_of_getElem? (i := 212) rfl) rfl), (jx_t2 (List.mem_of_getElem? (i := 214) rfl) rfl), (jx_pv (jx_p2 (List.mem_of_getElem? (i := 0) rfl))), (jx_t1 (List.mem_of_getElem? (i := 6) rfl) rfl), (jx_t2 (List.mem_of_getElem? (i := 215) rfl) rfl), rfl, ⟨by decide +kernel, by decide +kernel, by decide +kernel⟩⟩
theorem kv_X3_147 : jx_kV RX3 147 RX3 yX3_endsClause cX3_endsClause 1 (some .boolean) 0 := ⟨(jx_t2 (List.mem_of_getElem? (i := 216) rfl) rfl), (jx_t2 (List.mem_of_getElem? (i := 218) rfl) rfl), (jx_pv (jx_p2 (List.mem_of_getElem? (i := 1) rfl))), (jx_t1 (List.mem_of_getElem? (i := 6) rfl) rfl), (jx_t2 (List.mem_of_getElem? (i := 219) rfl) rfl), rfl, ⟨by decide +kernel, by decide +kernel, by decide +kernel⟩⟩
theorem kv_X3_47 : jx_kV RX3 47 RX3 yX3_isWhole cX3_isWhole 1 (some .boolean) 0 := ⟨(jx_t2 (List.mem_of_getElem? (i := 220) rfl) rfl), (jx_t2 (List.mem_of_getElem? (i := 222) rfl) rfl), (jx_pv (jx_p2 (List.mem_of_getElem? (i := 2) rfl))), (jx_t1 (List.mem_of_getElem? (i := 6) rfl) rfl), (jx_t2 (List.mem_of_getElem? (i := 223) rfl) rfl), rfl, ⟨by decide +kernel, by decide +kernel, by decide +kernel⟩⟩
theorem kv_X5_67 : jx_kV RX5 67 RX3 yX3_written cX3_written 1 (some (.object "LampVote$Tide")) 0 := ⟨(jx_t2 (List.mem_of_getElem? (i := 224) rfl) rfl), (jx_t2 (List.mem_of_getElem? (i := 225) rfl) rfl), (jx_t2 (List.mem_of_getElem? (i := 226) rfl) rfl), (jx_t1 (List.mem_of_getElem? (i := 6) rfl) rfl), (jx_t2 (List.mem_of_getElem? (i := 227) rfl) rfl), rfl, ⟨by decide +kernel, by decide +kernel, by decide +kernel⟩⟩
theorem ks_X3_53 : jx_kS RX3 53 yJ7_copyOf_59c91 cJ7_copyOf_59c91 3 (some (.array .int)) 2 := ⟨(jx_t2 (List.mem_of_getElem? (i := 229) rfl) rfl), (jx_t2 (List.mem_of_getElem? (i := 230) rfl) rfl), (jx_t1 (List.mem_of_getElem? (i := 14) rfl) rfl), (jx_t2 (List.mem_of_getElem? (i := 231) rfl) rfl), ⟨by decide +kernel, by decide +kernel, by decide +kernel⟩⟩
theorem ks_J7_304 : jx_kS RJ7 304 yJ9_min_7cf53 cJ9_min_7cf53 2 (some .int) 2 := ⟨(jx_t2 (List.mem_of_getElem? (i := 239) rfl) rfl), (jx_t2 (List.mem_of_getElem? (i := 143) rfl) rfl), (jx_t1 (List.mem_of_getElem? (i := 12) rfl) rfl), (jx_t2 (List.mem_of_getElem? (i := 144) rfl) rfl), ⟨by decide +kernel, by decide +kernel, by decide +kernel⟩⟩
theorem kv_L_23 : jx_kV RL 23 RX5 yX5_places cX5_places 3 (some .int) 1 := ⟨(jx_t3 (List.mem_of_getElem? (i := 7) rfl) rfl), (jx_t3 (List.mem_of_getElem? (i := 8) rfl) rfl), (jx_t3 (List.mem_of_getElem? (i := 9) rfl) rfl), (jx_t1 (List.mem_of_getElem? (i := 1) rfl) rfl), (jx_t3 (List.mem_of_getElem? (i := 10) rfl) rfl), rfl, ⟨by decide +kernel, by decide +kernel, by decide +kernel⟩⟩
theorem kv_X5_81 : jx_kV RX5 81 RX1 yX1_dig cX1_dig 3 none 1 := ⟨(jx_t3 (List.mem_of_getElem? (i := 11) rfl) rfl), (jx_t1 (List.mem_of_getElem? (i := 54) rfl) rfl), (jx_t1 (List.mem_of_getElem? (i := 55) rfl) rfl), (jx_t1 (List.mem_of_getElem? (i := 2) rfl) rfl), (jx_t1 (List.mem_of_getElem? (i := 56) rfl) rfl), rfl, ⟨by decide +kernel, by decide +kernel, by decide +kernel⟩⟩
theorem kv_L_27 : jx_kV RL 27 RX5 yX5_place cX5_place 5 (some .int) 3 := ⟨(jx_t3 (List.mem_of_getElem? (i := 12) rfl) rfl), (jx_t3 (List.mem_of_getElem? (i := 13) rfl) rfl), (jx_t3 (List.mem_of_getElem? (i := 14) rfl) rfl), (jx_t1 (List.mem_of_getElem? (i := 1) rfl) rfl), (jx_t3 (List.mem_of_getElem? (i := 15) rfl) rfl), rfl, ⟨by decide +kernel, by decide +kernel, by decide +kernel⟩⟩
theorem kv_X5_85 : jx_kV RX5 85 RX1 yX1_hasPlace cX1_hasPlace 2 (some .boolean) 1 := ⟨(jx_t3 (List.mem_of_getElem? (i := 16) rfl) rfl), (jx_t3 (List.mem_of_getElem? (i := 17) rfl) rfl), (jx_t3 (List.mem_of_getElem? (i := 18) rfl) rfl), (jx_t1 (List.mem_of_getElem? (i := 2) rfl) rfl), (jx_t3 (List.mem_of_getElem? (i := 19) rfl) rfl), rfl, ⟨by decide +kernel, by decide +kernel, by decide +kernel⟩⟩
theorem kv_X5_89 : jx_kV RX5 89 RX5 yX5_mayBecome cX5_mayBecome 3 (some .boolean) 2 := ⟨(jx_t3 (List.mem_of_getElem? (i := 20) rfl) rfl), (jx_t3 (List.mem_of_getElem? (i := 22) rfl) rfl), (jx_pv (jx_p2 (List.mem_of_getElem? (i := 3) rfl))), (jx_t1 (List.mem_of_getElem? (i := 1) rfl) rfl), (jx_t3 (List.mem_of_getElem? (i := 23) rfl) rfl), rfl, ⟨by decide +kernel, by decide +kernel, by decide +kernel⟩⟩
theorem kv_L_32 : jx_kV RL 32 RX5 yX5_at cX5_at 3 (some .int) 2 := ⟨(jx_t3 (List.mem_of_getElem? (i := 24) rfl) rfl), (jx_t3 (List.mem_of_getElem? (i := 25) rfl) rfl), (jx_t3 (List.mem_of_getElem? (i := 26) rfl) rfl), (jx_t1 (List.mem_of_getElem? (i := 1) rfl) rfl), (jx_t3 (List.mem_of_getElem? (i := 27) rfl) rfl), rfl, ⟨by decide +kernel, by decide +kernel, by decide +kernel⟩⟩
theorem kv_X5_100 : jx_kV RX5 100 RX1 yX1_holdsBack cX1_holdsBack 3 (some .boolean) 2 := ⟨(jx_t3 (List.mem_of_getElem? (i := 28) rfl) rfl), (jx_t3 (List.mem_of_getElem? (i := 29) rfl) rfl), (jx_t3 (List.mem_of_getElem? (i := 30) rfl) rfl), (jx_t1 (List.mem_of_getElem? (i := 2) rfl) rfl), (jx_t3 (List.mem_of_getElem? (i := 31) rfl) rfl), rfl, ⟨by decide +kernel, by decide +kernel, by decide +kernel⟩⟩
theorem kv_X1_94 : jx_kV RX1 94 RX1 yX1_look cX1_look 3 (some (.array .int)) 2 := ⟨(jx_t3 (List.mem_of_getElem? (i := 32) rfl) rfl), (jx_t3 (List.mem_of_getElem? (i := 34) rfl) rfl), (jx_pv (jx_p2 (List.mem_of_getElem? (i := 4) rfl))), (jx_t1 (List.mem_of_getElem? (i := 2) rfl) rfl), (jx_t3 (List.mem_of_getElem? (i := 35) rfl) rfl), rfl, ⟨by decide +kernel, by decide +kernel, by decide +kernel⟩⟩
theorem kv_X1_98 : jx_kV RX1 98 RX4 yX4_any cX4_any 4 (some .boolean) 2 := ⟨(jx_t3 (List.mem_of_getElem? (i := 36) rfl) rfl), (jx_t3 (List.mem_of_getElem? (i := 37) rfl) rfl), (jx_t3 (List.mem_of_getElem? (i := 38) rfl) rfl), (jx_t1 (List.mem_of_getElem? (i := 3) rfl) rfl), (jx_t3 (List.mem_of_getElem? (i := 39) rfl) rfl), rfl, ⟨by decide +kernel, by decide +kernel, by decide +kernel⟩⟩
theorem kv_X4_24 : jx_kV RX4 24 RX4 yX4_holds cX4_holds 8 (some .boolean) 2 := ⟨(jx_t3 (List.mem_of_getElem? (i := 40) rfl) rfl), (jx_t3 (List.mem_of_getElem? (i := 42) rfl) rfl), (jx_pv (jx_p2 (List.mem_of_getElem? (i := 5) rfl))), (jx_t1 (List.mem_of_getElem? (i := 3) rfl) rfl), (jx_t3 (List.mem_of_getElem? (i := 43) rfl) rfl), rfl, ⟨by decide +kernel, by decide +kernel, by decide +kernel⟩⟩
theorem kv_X5_103 : jx_kV RX5 103 RX1 yX1_goal cX1_goal 5 (some .int) 2 := ⟨(jx_t3 (List.mem_of_getElem? (i := 45) rfl) rfl), (jx_t3 (List.mem_of_getElem? (i := 46) rfl) rfl), (jx_t3 (List.mem_of_getElem? (i := 47) rfl) rfl), (jx_t1 (List.mem_of_getElem? (i := 2) rfl) rfl), (jx_t3 (List.mem_of_getElem? (i := 48) rfl) rfl), rfl, ⟨by decide +kernel, by decide +kernel, by decide +kernel⟩⟩
theorem kv_X1_102 : jx_kV RX1 102 RX1 yX1_hasPlace cX1_hasPlace 2 (some .boolean) 1 := ⟨(jx_t3 (List.mem_of_getElem? (i := 49) rfl) rfl), (jx_t3 (List.mem_of_getElem? (i := 17) rfl) rfl), (jx_t3 (List.mem_of_getElem? (i := 18) rfl) rfl), (jx_t1 (List.mem_of_getElem? (i := 2) rfl) rfl), (jx_t3 (List.mem_of_getElem? (i := 19) rfl) rfl), rfl, ⟨by decide +kernel, by decide +kernel, by decide +kernel⟩⟩
theorem kv_X5_107 : jx_kV RX5 107 RX1 yX1_weight cX1_weight 3 (some .int) 2 := ⟨(jx_t3 (List.mem_of_getElem? (i := 50) rfl) rfl), (jx_t3 (List.mem_of_getElem? (i := 51) rfl) rfl), (jx_t3 (List.mem_of_getElem? (i := 52) rfl) rfl), (jx_t1 (List.mem_of_getElem? (i := 2) rfl) rfl), (jx_t3 (List.mem_of_getElem? (i := 53) rfl) rfl), rfl, ⟨by decide +kernel, by decide +kernel, by decide +kernel⟩⟩
theorem kv_X1_106 : jx_kV RX1 106 RX4 yX4_sum cX4_sum 5 (some .int) 2 := ⟨(jx_t3 (List.mem_of_getElem? (i := 54) rfl) rfl), (jx_t3 (List.mem_of_getElem? (i := 55) rfl) rfl), (jx_t3 (List.mem_of_getElem? (i := 56) rfl) rfl), (jx_t1 (List.mem_of_getElem? (i := 3) rfl) rfl), (jx_t3 (List.mem_of_getElem? (i := 57) rfl) rfl), rfl, ⟨by decide +kernel, by decide +kernel, by decide +kernel⟩⟩
theorem kv_L_37 : jx_kV RL 37 RX5 yX5_voter cX5_voter 7 (some .int) 5 := ⟨(jx_t3 (List.mem_of_getElem? (i := 58) rfl) rfl), (jx_t3 (List.mem_of_getElem? (i := 59) rfl) rfl), (jx_t3 (List.mem_of_getElem? (i := 60) rfl) rfl), (jx_t1 (List.mem_of_getElem? (i := 1) rfl) rfl), (jx_t3 (List.mem_of_getElem? (i := 61) rfl) rfl), rfl, ⟨by decide +kernel, by decide +kernel, by decide +kernel⟩⟩
theorem ks_X5_113 : jx_kS RX5 113 yJ7_fill_53178 cJ7_fill_53178 4 none 2 := ⟨(jx_t3 (List.mem_of_getElem? (i := 62) rfl) rfl), (jx_t3 (List.mem_of_getElem? (i := 63) rfl) rfl), (jx_t1 (List.mem_of_getElem? (i := 14) rfl) rfl), (jx_t3 (List.mem_of_getElem? (i := 64) rfl) rfl), ⟨by decide +kernel, by decide +kernel, by decide +kernel⟩⟩
theorem kv_L_42 : jx_kV RL 42 RX5 yX5_of cX5_of 3 (some .int) 2 := ⟨(jx_t3 (List.mem_of_getElem? (i := 65) rfl) rfl), (jx_t3 (List.mem_of_getElem? (i := 66) rfl) rfl), (jx_t3 (List.mem_of_getElem? (i := 67) rfl) rfl), (jx_t1 (List.mem_of_getElem? (i := 1) rfl) rfl), (jx_t3 (List.mem_of_getElem? (i := 68) rfl) rfl), rfl, ⟨by decide +kernel, by decide +kernel, by decide +kernel⟩⟩
theorem kv_X5_119 : jx_kV RX5 119 RX1 yX1_hasVoter cX1_hasVoter 2 (some .boolean) 1 := ⟨(jx_t3 (List.mem_of_getElem? (i := 69) rfl) rfl), (jx_t3 (List.mem_of_getElem? (i := 70) rfl) rfl), (jx_t3 (List.mem_of_getElem? (i := 71) rfl) rfl), (jx_t1 (List.mem_of_getElem? (i := 2) rfl) rfl), (jx_t3 (List.mem_of_getElem? (i := 72) rfl) rfl), rfl, ⟨by decide +kernel, by decide +kernel, by decide +kernel⟩⟩
theorem kv_X5_122 : jx_kV RX5 122 RX1 yX1_setsAt cX1_setsAt 3 (some .int) 1 := ⟨(jx_t3 (List.mem_of_getElem? (i := 73) rfl) rfl), (jx_t3 (List.mem_of_getElem? (i := 74) rfl) rfl), (jx_t3 (List.mem_of_getElem? (i := 75) rfl) rfl), (jx_t1 (List.mem_of_getElem? (i := 2) rfl) rfl), (jx_t3 (List.mem_of_getElem? (i := 76) rfl) rfl), rfl, ⟨by decide +kernel, by decide +kernel, by decide +kernel⟩⟩
theorem kv_X1_110 : jx_kV RX1 110 RX1 yX1_upstream cX1_upstream 3 (some .int) 1 := ⟨(jx_t3 (List.mem_of_getElem? (i := 77) rfl) rfl), (jx_t3 (List.mem_of_getElem? (i := 79) rfl) rfl), (jx_pv (jx_p2 (List.mem_of_getElem? (i := 6) rfl))), (jx_t1 (List.mem_of_getElem? (i := 2) rfl) rfl), (jx_t3 (List.mem_of_getElem? (i := 80) rfl) rfl), rfl, ⟨by decide +kernel, by decide +kernel, by decide +kernel⟩⟩
theorem kv_X1_114 : jx_kV RX1 114 RX1 yX1_crowded cX1_crowded 3 (some .int) 0 := ⟨(jx_t3 (List.mem_of_getElem? (i := 81) rfl) rfl), (jx_t3 (List.mem_of_getElem? (i := 83) rfl) rfl), (jx_pv (jx_p2 (List.mem_of_getElem? (i := 7) rfl))), (jx_t1 (List.mem_of_getElem? (i := 2) rfl) rfl), (jx_t3 (List.mem_of_getElem? (i := 84) rfl) rfl), rfl, ⟨by decide +kernel, by decide +kernel, by decide +kernel⟩⟩
theorem kv_X1_118 : jx_kV RX1 118 RX1 yX1_living cX1_living 4 (some .int) 1 := ⟨(jx_t3 (List.mem_of_getElem? (i := 85) rfl) rfl), (jx_t3 (List.mem_of_getElem? (i := 87) rfl) rfl), (jx_pv (jx_p2 (List.mem_of_getElem? (i := 8) rfl))), (jx_t1 (List.mem_of_getElem? (i := 2) rfl) rfl), (jx_t3 (List.mem_of_getElem? (i := 88) rfl) rfl), rfl, ⟨by decide +kernel, by decide +kernel, by decide +kernel⟩⟩
theorem kv_X5_126 : jx_kV RX5 126 RX1 yX1_delay cX1_delay 3 (some .int) 1 := ⟨(jx_t3 (List.mem_of_getElem? (i := 89) rfl) rfl), (jx_t3 (List.mem_of_getElem? (i := 90) rfl) rfl), (jx_t3 (List.mem_of_getElem? (i := 91) rfl) rfl), (jx_t1 (List.mem_of_getElem? (i := 2) rfl) rfl), (jx_t3 (List.mem_of_getElem? (i := 92) rfl) rfl), rfl, ⟨by decide +kernel, by decide +kernel, by decide +kernel⟩⟩
theorem kv_X5_129 : jx_kV RX5 129 RX2 yX2_chart cX2_chart 3 none 0 := ⟨(jx_t3 (List.mem_of_getElem? (i := 93) rfl) rfl), (jx_t3 (List.mem_of_getElem? (i := 94) rfl) rfl), (jx_t3 (List.mem_of_getElem? (i := 95) rfl) rfl), (jx_t1 (List.mem_of_getElem? (i := 4) rfl) rfl), (jx_t3 (List.mem_of_getElem? (i := 96) rfl) rfl), rfl, ⟨by decide +kernel, by decide +kernel, by decide +kernel⟩⟩
theorem kv_X2_48 : jx_kV RX2 48 RX1 yX1_goal cX1_goal 5 (some .int) 2 := ⟨(jx_t3 (List.mem_of_getElem? (i := 97) rfl) rfl), (jx_t3 (List.mem_of_getElem? (i := 46) rfl) rfl), (jx_t3 (List.mem_of_getElem? (i := 47) rfl) rfl), (jx_t1 (List.mem_of_getElem? (i := 2) rfl) rfl), (jx_t3 (List.mem_of_getElem? (i := 48) rfl) rfl), rfl, ⟨by decide +kernel, by decide +kernel, by decide +kernel⟩⟩
theorem kv_X2_51 : jx_kV RX2 51 RX1 yX1_filled cX1_filled 3 (some .int) 2 := ⟨(jx_t3 (List.mem_of_getElem? (i := 98) rfl) rfl), (jx_t3 (List.mem_of_getElem? (i := 99) rfl) rfl), (jx_t3 (List.mem_of_getElem? (i := 100) rfl) rfl), (jx_t1 (List.mem_of_getElem? (i := 2) rfl) rfl), (jx_t3 (List.mem_of_getElem? (i := 101) rfl) rfl), rfl, ⟨by decide +kernel, by decide +kernel, by decide +kernel⟩⟩
theorem kv_X2_53 : jx_kV RX2 53 RX1 yX1_weight cX1_weight 3 (some .int) 2 := ⟨(jx_t3 (List.mem_of_getElem? (i := 102) rfl) rfl), (jx_t3 (List.mem_of_getElem? (i := 51) rfl) rfl), (jx_t3 (List.mem_of_getElem? (i := 52) rfl) rfl), (jx_t1 (List.mem_of_getElem? (i := 2) rfl) rfl), (jx_t3 (List.mem_of_getElem? (i := 53) rfl) rfl), rfl, ⟨by decide +kernel, by decide +kernel, by decide +kernel⟩⟩
theorem kv_X5_132 : jx_kV RX5 132 RX2 yX2_burns cX2_burns 4 (some .int) 2 := ⟨(jx_t3 (List.mem_of_getElem? (i := 103) rfl) rfl), (jx_t3 (List.mem_of_getElem? (i := 104) rfl) rfl), (jx_t3 (List.mem_of_getElem? (i := 105) rfl) rfl), (jx_t1 (List.mem_of_getElem? (i := 4) rfl) rfl), (jx_t3 (List.mem_of_getElem? (i := 106) rfl) rfl), rfl, ⟨by decide +kernel, by decide +kernel, by decide +kernel⟩⟩
theorem kv_X2_58 : jx_kV RX2 58 RX1 yX1_delay cX1_delay 3 (some .int) 1 := ⟨(jx_t3 (List.mem_of_getElem? (i := 107) rfl) rfl), (jx_t3 (List.mem_of_getElem? (i := 90) rfl) rfl), (jx_t3 (List.mem_of_getElem? (i := 91) rfl) rfl), (jx_t1 (List.mem_of_getElem? (i := 2) rfl) rfl), (jx_t3 (List.mem_of_getElem? (i := 92) rfl) rfl), rfl, ⟨by decide +kernel, by decide +kernel, by decide +kernel⟩⟩
theorem ks_X2_62 : jx_kS RX2 62 yJ9_min_7cf53 cJ9_min_7cf53 2 (some .int) 2 := ⟨(jx_t3 (List.mem_of_getElem? (i := 108) rfl) rfl), (jx_t2 (List.mem_of_getElem? (i := 143) rfl) rfl), (jx_t1 (List.mem_of_getElem? (i := 12) rfl) rfl), (jx_t2 (List.mem_of_getElem? (i := 144) rfl) rfl), ⟨by decide +kernel, by decide +kernel, by decide +kernel⟩⟩
theorem kv_L_46 : jx_kV RL 46 RX5 yX5_wish cX5_wish 4 (some .int) 2 := ⟨(jx_t3 (List.mem_of_getElem? (i := 109) rfl) rfl), (jx_t3 (List.mem_of_getElem? (i := 110) rfl) rfl), (jx_t3 (List.mem_of_getElem? (i := 111) rfl) rfl), (jx_t1 (List.mem_of_getElem? (i := 1) rfl) rfl), (jx_t3 (List.mem_of_getElem? (i := 112) rfl) rfl), rfl, ⟨by decide +kernel, by decide +kernel, by decide +kernel⟩⟩
theorem kv_L_50 : jx_kV RL 50 RX5 yX5_row cX5_row 6 (some .int) 3 := ⟨(jx_t3 (List.mem_of_getElem? (i := 113) rfl) rfl), (jx_t3 (List.mem_of_getElem? (i := 114) rfl) rfl), (jx_t3 (List.mem_of_getElem? (i := 115) rfl) rfl), (jx_t1 (List.mem_of_getElem? (i := 1) rfl) rfl), (jx_t3 (List.mem_of_getElem? (i := 116) rfl) rfl), rfl, ⟨by decide +kernel, by decide +kernel, by decide +kernel⟩⟩
theorem kv_L_54 : jx_kV RL 54 RX5 yX5_minutes cX5_minutes 2 (some .int) 1 := ⟨(jx_t3 (List.mem_of_getElem? (i := 117) rfl) rfl), (jx_t3 (List.mem_of_getElem? (i := 118) rfl) rfl), (jx_t3 (List.mem_of_getElem? (i := 119) rfl) rfl), (jx_t1 (List.mem_of_getElem? (i := 1) rfl) rfl), (jx_t3 (List.mem_of_getElem? (i := 120) rfl) rfl), rfl, ⟨by decide +kernel, by decide +kernel, by decide +kernel⟩⟩
theorem kv_L_58 : jx_kV RL 58 RX5 yX5_vote cX5_vote 2 (some .int) 1 := ⟨(jx_t3 (List.mem_of_getElem? (i := 121) rfl) rfl), (jx_t3 (List.mem_of_getElem? (i := 122) rfl) rfl), (jx_t3 (List.mem_of_getElem? (i := 123) rfl) rfl), (jx_t1 (List.mem_of_getElem? (i := 1) rfl) rfl), (jx_t3 (List.mem_of_getElem? (i := 124) rfl) rfl), rfl, ⟨by decide +kernel, by decide +kernel, by decide +kernel⟩⟩
theorem kv_X5_135 : jx_kV RX5 135 RX2 yX2_pass cX2_pass 1 none 0 := ⟨(jx_t3 (List.mem_of_getElem? (i := 125) rfl) rfl), (jx_t3 (List.mem_of_getElem? (i := 126) rfl) rfl), (jx_t3 (List.mem_of_getElem? (i := 127) rfl) rfl), (jx_t1 (List.mem_of_getElem? (i := 4) rfl) rfl), (jx_t3 (List.mem_of_getElem? (i := 128) rfl) rfl), rfl, ⟨by decide +kernel, by decide +kernel, by decide +kernel⟩⟩
theorem kv_X2_84 : jx_kV RX2 84 RX2 yX2_chart cX2_chart 3 none 0 := ⟨(jx_t3 (List.mem_of_getElem? (i := 129) rfl) rfl), (jx_t3 (List.mem_of_getElem? (i := 94) rfl) rfl), (jx_t3 (List.mem_of_getElem? (i := 95) rfl) rfl), (jx_t1 (List.mem_of_getElem? (i := 4) rfl) rfl), (jx_t3 (List.mem_of_getElem? (i := 96) rfl) rfl), rfl, ⟨by decide +kernel, by decide +kernel, by decide +kernel⟩⟩
theorem kv_X2_87 : jx_kV RX2 87 RX2 yX2_lightAll cX2_lightAll 2 none 0 := ⟨(jx_t3 (List.mem_of_getElem? (i := 130) rfl) rfl), (jx_t3 (List.mem_of_getElem? (i := 132) rfl) rfl), (jx_pv (jx_p2 (List.mem_of_getElem? (i := 9) rfl))), (jx_t1 (List.mem_of_getElem? (i := 4) rfl) rfl), (jx_t3 (List.mem_of_getElem? (i := 133) rfl) rfl), rfl, ⟨by decide +kernel, by decide +kernel, by decide +kernel⟩⟩
theorem kv_X2_77 : jx_kV RX2 77 RX1 yX1_setsAt cX1_setsAt 3 (some .int) 1 := ⟨(jx_t3 (List.mem_of_getElem? (i := 134) rfl) rfl), (jx_t3 (List.mem_of_getElem? (i := 74) rfl) rfl), (jx_t3 (List.mem_of_getElem? (i := 75) rfl) rfl), (jx_t1 (List.mem_of_getElem? (i := 2) rfl) rfl), (jx_t3 (List.mem_of_getElem? (i := 76) rfl) rfl), rfl, ⟨by decide +kernel, by decide +kernel, by decide +kernel⟩⟩
theorem kv_X2_80 : jx_kV RX2 80 RX2 yX2_light cX2_light 6 none 2 := ⟨(jx_t3 (List.mem_of_getElem? (i := 135) rfl) rfl), (jx_t3 (List.mem_of_getElem? (i := 136) rfl) rfl), (jx_t3 (List.mem_of_getElem? (i := 137) rfl) rfl), (jx_t1 (List.mem_of_getElem? (i := 4) rfl) rfl), (jx_t3 (List.mem_of_getElem? (i := 138) rfl) rfl), rfl, ⟨by decide +kernel, by decide +kernel, by decide +kernel⟩⟩
theorem kv_X2_67 : jx_kV RX2 67 RX2 yX2_burns cX2_burns 4 (some .int) 2 := ⟨(jx_t3 (List.mem_of_getElem? (i := 139) rfl) rfl), (jx_t3 (List.mem_of_getElem? (i := 104) rfl) rfl), (jx_t3 (List.mem_of_getElem? (i := 105) rfl) rfl), (jx_t1 (List.mem_of_getElem? (i := 4) rfl) rfl), (jx_t3 (List.mem_of_getElem? (i := 106) rfl) rfl), rfl, ⟨by decide +kernel, by decide +kernel, by decide +kernel⟩⟩
theorem kv_X2_70 : jx_kV RX2 70 RX2 yX2_afloat cX2_afloat 6 (some .int) 3 := ⟨(jx_t3 (List.mem_of_getElem? (i := 140) rfl) rfl), (jx_t3 (List.mem_of_getElem? (i := 141) rfl) rfl), (jx_t3 (List.mem_of_getElem? (i := 142) rfl) rfl), (jx_t1 (List.mem_of_getElem? (i := 4) rfl) rfl), (jx_t3 (List.mem_of_getElem? (i := 143) rfl) rfl), rfl, ⟨by decide +kernel, by decide +kernel, by decide +kernel⟩⟩
theorem kv_X5_138 : jx_kV RX5 138 RX1 yX1_wishes cX1_wishes 3 (some .int) 0 := ⟨(jx_t3 (List.mem_of_getElem? (i := 144) rfl) rfl), (jx_t3 (List.mem_of_getElem? (i := 145) rfl) rfl), (jx_t3 (List.mem_of_getElem? (i := 146) rfl) rfl), (jx_t1 (List.mem_of_getElem? (i := 2) rfl) rfl), (jx_t3 (List.mem_of_getElem? (i := 147) rfl) rfl), rfl, ⟨by decide +kernel, by decide +kernel, by decide +kernel⟩⟩
theorem kv_X5_142 : jx_kV RX5 142 RX2 yX2_mayor cX2_mayor 2 (some .int) 1 := ⟨(jx_t3 (List.mem_of_getElem? (i := 148) rfl) rfl), (jx_t3 (List.mem_of_getElem? (i := 149) rfl) rfl), (jx_t3 (List.mem_of_getElem? (i := 150) rfl) rfl), (jx_t1 (List.mem_of_getElem? (i := 4) rfl) rfl), (jx_t3 (List.mem_of_getElem? (i := 151) rfl) rfl), rfl, ⟨by decide +kernel, by decide +kernel, by decide +kernel⟩⟩
theorem kv_X2_90 : jx_kV RX2 90 RX2 yX2_lead cX2_lead 4 (some .int) 1 := ⟨(jx_t3 (List.mem_of_getElem? (i := 152) rfl) rfl), (jx_t3 (List.mem_of_getElem? (i := 154) rfl) rfl), (jx_pv (jx_p2 (List.mem_of_getElem? (i := 10) rfl))), (jx_t1 (List.mem_of_getElem? (i := 4) rfl) rfl), (jx_t3 (List.mem_of_getElem? (i := 155) rfl) rfl), rfl, ⟨by decide +kernel, by decide +kernel, by decide +kernel⟩⟩
theorem ks_X2_93 : jx_kS RX2 93 yX2_winnerBy cX2_winnerBy 1 (some .int) 1 := ⟨(jx_t3 (List.mem_of_getElem? (i := 156) rfl) rfl), (jx_t3 (List.mem_of_getElem? (i := 157) rfl) rfl), (jx_t1 (List.mem_of_getElem? (i := 4) rfl) rfl), (jx_t3 (List.mem_of_getElem? (i := 158) rfl) rfl), ⟨by decide +kernel, by decide +kernel, by decide +kernel⟩⟩
theorem kv_X5_145 : jx_kV RX5 145 RX2 yX2_votes cX2_votes 4 (some .int) 1 := ⟨(jx_t3 (List.mem_of_getElem? (i := 159) rfl) rfl), (jx_t3 (List.mem_of_getElem? (i := 160) rfl) rfl), (jx_t3 (List.mem_of_getElem? (i := 161) rfl) rfl), (jx_t1 (List.mem_of_getElem? (i := 4) rfl) rfl), (jx_t3 (List.mem_of_getElem? (i := 162) rfl) rfl), rfl, ⟨by decide +kernel, by decide +kernel, by decide +kernel⟩⟩
theorem kv_L_62 : jx_kV RL 62 RX5 yX5_lies cX5_lies 3 (some .int) 2 := ⟨(jx_t3 (List.mem_of_getElem? (i := 163) rfl) rfl), (jx_t3 (List.mem_of_getElem? (i := 164) rfl) rfl), (jx_t3 (List.mem_of_getElem? (i := 165) rfl) rfl), (jx_t1 (List.mem_of_getElem? (i := 1) rfl) rfl), (jx_t3 (List.mem_of_getElem? (i := 166) rfl) rfl), rfl, ⟨by decide +kernel, by decide +kernel, by decide +kernel⟩⟩
theorem kv_L_66 : jx_kV RL 66 RX5 yX5_ward cX5_ward 2 (some .int) 1 := ⟨(jx_t3 (List.mem_of_getElem? (i := 167) rfl) rfl), (jx_t3 (List.mem_of_getElem? (i := 168) rfl) rfl), (jx_t3 (List.mem_of_getElem? (i := 169) rfl) rfl), (jx_t1 (List.mem_of_getElem? (i := 1) rfl) rfl), (jx_t3 (List.mem_of_getElem? (i := 170) rfl) rfl), rfl, ⟨by decide +kernel, by decide +kernel, by decide +kernel⟩⟩
theorem kv_X5_154 : jx_kV RX5 154 RX2 yX2_winner cX2_winner 4 (some .int) 1 := ⟨(jx_t3 (List.mem_of_getElem? (i := 171) rfl) rfl), (jx_t3 (List.mem_of_getElem? (i := 172) rfl) rfl), (jx_t3 (List.mem_of_getElem? (i := 173) rfl) rfl), (jx_t1 (List.mem_of_getElem? (i := 4) rfl) rfl), (jx_t3 (List.mem_of_getElem? (i := 174) rfl) rfl), rfl, ⟨by decide +kernel, by decide +kernel, by decide +kernel⟩⟩
theorem kv_L_70 : jx_kV RL 70 RX5 yX5_drifts cX5_drifts 3 (some .int) 2 := ⟨(jx_t3 (List.mem_of_getElem? (i := 175) rfl) rfl), (jx_t3 (List.mem_of_getElem? (i := 176) rfl) rfl), (jx_t3 (List.mem_of_getElem? (i := 177) rfl) rfl), (jx_t1 (List.mem_of_getElem? (i := 1) rfl) rfl), (jx_t3 (List.mem_of_getElem? (i := 178) rfl) rfl), rfl, ⟨by decide +kernel, by decide +kernel, by decide +kernel⟩⟩
theorem kv_X5_157 : jx_kV RX5 157 RX2 yX2_afloat cX2_afloat 6 (some .int) 3 := ⟨(jx_t3 (List.mem_of_getElem? (i := 179) rfl) rfl), (jx_t3 (List.mem_of_getElem? (i := 141) rfl) rfl), (jx_t3 (List.mem_of_getElem? (i := 142) rfl) rfl), (jx_t1 (List.mem_of_getElem? (i := 4) rfl) rfl), (jx_t3 (List.mem_of_getElem? (i := 143) rfl) rfl), rfl, ⟨by decide +kernel, by decide +kernel, by decide +kernel⟩⟩
theorem kv_L_74 : jx_kV RL 74 RX5 yX5_from cX5_from 5 (some .int) 3 := ⟨(jx_t3 (List.mem_of_getElem? (i := 180) rfl) rfl), (jx_t3 (List.mem_of_getElem? (i := 181) rfl) rfl), (jx_t3 (List.mem_of_getElem? (i := 182) rfl) rfl), (jx_t1 (List.mem_of_getElem? (i := 1) rfl) rfl), (jx_t3 (List.mem_of_getElem? (i := 183) rfl) rfl), rfl, ⟨by decide +kernel, by decide +kernel, by decide +kernel⟩⟩
theorem kv_X5_161 : jx_kV RX5 161 RX2 yX2_startsTo cX2_startsTo 5 (some .int) 2 := ⟨(jx_t3 (List.mem_of_getElem? (i := 184) rfl) rfl), (jx_t3 (List.mem_of_getElem? (i := 185) rfl) rfl), (jx_t3 (List.mem_of_getElem? (i := 186) rfl) rfl), (jx_t1 (List.mem_of_getElem? (i := 4) rfl) rfl), (jx_t3 (List.mem_of_getElem? (i := 187) rfl) rfl), rfl, ⟨by decide +kernel, by decide +kernel, by decide +kernel⟩⟩
theorem ks_X5_164 : jx_kS RX5 164 yX5_leastOf cX5_leastOf 2 (some .int) 1 := ⟨(jx_t3 (List.mem_of_getElem? (i := 188) rfl) rfl), (jx_t3 (List.mem_of_getElem? (i := 189) rfl) rfl), (jx_t1 (List.mem_of_getElem? (i := 1) rfl) rfl), (jx_t3 (List.mem_of_getElem? (i := 190) rfl) rfl), ⟨by decide +kernel, by decide +kernel, by decide +kernel⟩⟩
theorem kv_L_78 : jx_kV RL 78 RX5 yX5_turns cX5_turns 3 (some .int) 1 := ⟨(jx_t3 (List.mem_of_getElem? (i := 191) rfl) rfl), (jx_t3 (List.mem_of_getElem? (i := 192) rfl) rfl), (jx_t3 (List.mem_of_getElem? (i := 193) rfl) rfl), (jx_t1 (List.mem_of_getElem? (i := 1) rfl) rfl), (jx_t3 (List.mem_of_getElem? (i := 194) rfl) rfl), rfl, ⟨by decide +kernel, by decide +kernel, by decide +kernel⟩⟩
theorem kv_X5_167 : jx_kV RX5 167 RX2 yX2_turning cX2_turning 8 (some .int) 0 := ⟨(jx_t3 (List.mem_of_getElem? (i := 195) rfl) rfl), (jx_t3 (List.mem_of_getElem? (i := 196) rfl) rfl), (jx_t3 (List.mem_of_getElem? (i := 197) rfl) rfl), (jx_t1 (List.mem_of_getElem? (i := 4) rfl) rfl), (jx_t3 (List.mem_of_getElem? (i := 198) rfl) rfl), rfl, ⟨by decide +kernel, by decide +kernel, by decide +kernel⟩⟩
theorem kv_X2_103 : jx_kV RX2 103 RX2 yX2_pass cX2_pass 1 none 0 := ⟨(jx_t3 (List.mem_of_getElem? (i := 199) rfl) rfl), (jx_t3 (List.mem_of_getElem? (i := 126) rfl) rfl), (jx_t3 (List.mem_of_getElem? (i := 127) rfl) rfl), (jx_t1 (List.mem_of_getElem? (i := 4) rfl) rfl), (jx_t3 (List.mem_of_getElem? (i := 128) rfl) rfl), rfl, ⟨by decide +kernel, by decide +kernel, by decide +kernel⟩⟩
theorem kv_X2_96 : jx_kV RX2 96 RX1 yX1_wishes cX1_wishes 3 (some .int) 0 := ⟨(jx_t3 (List.mem_of_getElem? (i := 200) rfl) rfl), (jx_t3 (List.mem_of_getElem? (i := 145) rfl) rfl), (jx_t3 (List.mem_of_getElem? (i := 146) rfl) rfl), (jx_t1 (List.mem_of_getElem? (i := 2) rfl) rfl), (jx_t3 (List.mem_of_getElem? (i := 147) rfl) rfl), rfl, ⟨by decide +kernel, by decide +kernel, by decide +kernel⟩⟩
theorem kv_X2_106 : jx_kV RX2 106 RX2 yX2_mayor cX2_mayor 2 (some .int) 1 := ⟨(jx_t3 (List.mem_of_getElem? (i := 201) rfl) rfl), (jx_t3 (List.mem_of_getElem? (i := 149) rfl) rfl), (jx_t3 (List.mem_of_getElem? (i := 150) rfl) rfl), (jx_t1 (List.mem_of_getElem? (i := 4) rfl) rfl), (jx_t3 (List.mem_of_getElem? (i := 151) rfl) rfl), rfl, ⟨by decide +kernel, by decide +kernel, by decide +kernel⟩⟩
theorem ks_X2_109 : jx_kS RX2 109 yJ6_bitCount_0f7a4 cJ6_bitCount_0f7a4 1 (some .int) 1 := ⟨(jx_t3 (List.mem_of_getElem? (i := 202) rfl) rfl), (jx_t3 (List.mem_of_getElem? (i := 203) rfl) rfl), (jx_t1 (List.mem_of_getElem? (i := 16) rfl) rfl), (jx_t3 (List.mem_of_getElem? (i := 204) rfl) rfl), ⟨by decide +kernel, by decide +kernel, by decide +kernel⟩⟩
theorem ks_X5_170 : jx_kS RX5 170 yJ6_bitCount_0f7a4 cJ6_bitCount_0f7a4 1 (some .int) 1 := ⟨(jx_t3 (List.mem_of_getElem? (i := 208) rfl) rfl), (jx_t3 (List.mem_of_getElem? (i := 203) rfl) rfl), (jx_t1 (List.mem_of_getElem? (i := 16) rfl) rfl), (jx_t3 (List.mem_of_getElem? (i := 204) rfl) rfl), ⟨by decide +kernel, by decide +kernel, by decide +kernel⟩⟩
theorem kv_L_82 : jx_kV RL 82 RX5 yX5_sways cX5_sways 5 (some .long) 2 := ⟨(jx_t3 (List.mem_of_getElem? (i := 209) rfl) rfl), (jx_t3 (List.mem_of_getElem? (i := 210) rfl) rfl), (jx_t3 (List.mem_of_getElem? (i := 211) rfl) rfl), (jx_t1 (List.mem_of_getElem? (i := 1) rfl) rfl), (jx_t3 (List.mem_of_getElem? (i := 212) rfl) rfl), rfl, ⟨by decide +kernel, by decide +kernel, by decide +kernel⟩⟩
theorem kv_X5_177 : jx_kV RX5 177 RX2 yX2_swayed cX2_swayed 4 (some .int) 1 := ⟨(jx_t3 (List.mem_of_getElem? (i := 214) rfl) rfl), (jx_t3 (List.mem_of_getElem? (i := 215) rfl) rfl), (jx_t3 (List.mem_of_getElem? (i := 216) rfl) rfl), (jx_t1 (List.mem_of_getElem? (i := 4) rfl) rfl), (jx_t3 (List.mem_of_getElem? (i := 217) rfl) rfl), rfl, ⟨by decide +kernel, by decide +kernel, by decide +kernel⟩⟩
theorem kv_L_87 : jx_kV RL 87 RX5 yX5_stick cX5_stick 2 (some .int) 1 := ⟨(jx_t3 (List.mem_of_getElem? (i := 218) rfl) rfl), (jx_t3 (List.mem_of_getElem? (i := 219) rfl) rfl), (jx_t3 (List.mem_of_getElem? (i := 220) rfl) rfl), (jx_t1 (List.mem_of_getElem? (i := 1) rfl) rfl), (jx_t3 (List.mem_of_getElem? (i := 221) rfl) rfl), rfl, ⟨by decide +kernel, by decide +kernel, by decide +kernel⟩⟩
theorem kv_X5_180 : jx_kV RX5 180 RX2 yX2_stickFor cX2_stickFor 5 (some .int) 1 := ⟨(jx_t3 (List.mem_of_getElem? (i := 222) rfl) rfl), (jx_t3 (List.mem_of_getElem? (i := 223) rfl) rfl), (jx_t3 (List.mem_of_getElem? (i := 224) rfl) rfl), (jx_t1 (List.mem_of_getElem? (i := 4) rfl) rfl), (jx_t3 (List.mem_of_getElem? (i := 225) rfl) rfl), rfl, ⟨by decide +kernel, by decide +kernel, by decide +kernel⟩⟩
theorem kv_L_91 : jx_kV RL 91 RX5 yX5_set cX5_set 4 (some .int) 2 := ⟨(jx_t3 (List.mem_of_getElem? (i := 226) rfl) rfl), (jx_t3 (List.mem_of_getElem? (i := 227) rfl) rfl), (jx_t3 (List.mem_of_getElem? (i := 228) rfl) rfl), (jx_t1 (List.mem_of_getElem? (i := 1) rfl) rfl), (jx_t3 (List.mem_of_getElem? (i := 229) rfl) rfl), rfl, ⟨by decide +kernel, by decide +kernel, by decide +kernel⟩⟩
theorem kv_X5_183 : jx_kV RX5 183 RX2 yX2_bestFor cX2_bestFor 5 (some .int) 1 := ⟨(jx_t3 (List.mem_of_getElem? (i := 230) rfl) rfl), (jx_t3 (List.mem_of_getElem? (i := 231) rfl) rfl), (jx_t3 (List.mem_of_getElem? (i := 232) rfl) rfl), (jx_t1 (List.mem_of_getElem? (i := 4) rfl) rfl), (jx_t3 (List.mem_of_getElem? (i := 233) rfl) rfl), rfl, ⟨by decide +kernel, by decide +kernel, by decide +kernel⟩⟩
theorem kv_X2_115 : jx_kV RX2 115 RX2 yX2_leadOf cX2_leadOf 3 (some .int) 1 := ⟨(jx_t3 (List.mem_of_getElem? (i := 235) rfl) rfl), (jx_t3 (List.mem_of_getElem? (i := 236) rfl) rfl), (jx_t3 (List.mem_of_getElem? (i := 237) rfl) rfl), (jx_t1 (List.mem_of_getElem? (i := 4) rfl) rfl), (jx_t3 (List.mem_of_getElem? (i := 238) rfl) rfl), rfl, ⟨by decide +kernel, by decide +kernel, by decide +kernel⟩⟩
theorem kv_X5_186 : jx_kV RX5 186 RX2 yX2_light cX2_light 6 none 2 := ⟨(jx_t3 (List.mem_of_getElem? (i := 239) rfl) rfl), (jx_t3 (List.mem_of_getElem? (i := 136) rfl) rfl), (jx_t3 (List.mem_of_getElem? (i := 137) rfl) rfl), (jx_t1 (List.mem_of_getElem? (i := 4) rfl) rfl), (jx_t3 (List.mem_of_getElem? (i := 138) rfl) rfl), rfl, ⟨by decide +kernel, by decide +kernel, by decide +kernel⟩⟩
theorem kv_X5_190 : jx_kV RX5 190 RX2 yX2_leadOf cX2_leadOf 3 (some .int) 1 := ⟨(jx_t4 (List.mem_of_getElem? (i := 0) rfl) rfl), (jx_t3 (List.mem_of_getElem? (i := 236) rfl) rfl), (jx_t3 (List.mem_of_getElem? (i := 237) rfl) rfl), (jx_t1 (List.mem_of_getElem? (i := 4) rfl) rfl), (jx_t3 (List.mem_of_getElem? (i := 238) rfl) rfl), rfl, ⟨by decide +kernel, by decide +kernel, by decide +kernel⟩⟩
theorem kv_L_95 : jx_kV RL 95 RX5 yX5_game cX5_game 5 (some .int) 3 := ⟨(jx_t4 (List.mem_of_getElem? (i := 1) rfl) rfl), (jx_t4 (List.mem_of_getElem? (i := 2) rfl) rfl), (jx_t4 (List.mem_of_getElem? (i := 3) rfl) rfl), (jx_t1 (List.mem_of_getElem? (i := 1) rfl) rfl), (jx_t4 (List.mem_of_getElem? (i := 4) rfl) rfl), rfl, ⟨by decide +kernel, by decide +kernel, by decide +kernel⟩⟩
theorem kv_X5_193 : jx_kV RX5 193 RX2 yX2_firstOf cX2_firstOf 7 (some .int) 2 := ⟨(jx_t4 (List.mem_of_getElem? (i := 5) rfl) rfl), (jx_t4 (List.mem_of_getElem? (i := 6) rfl) rfl), (jx_t4 (List.mem_of_getElem? (i := 7) rfl) rfl), (jx_t1 (List.mem_of_getElem? (i := 4) rfl) rfl), (jx_t4 (List.mem_of_getElem? (i := 8) rfl) rfl), rfl, ⟨by decide +kernel, by decide +kernel, by decide +kernel⟩⟩
theorem kv_X2_121 : jx_kV RX2 121 RX2 yX2_leadBehind cX2_leadBehind 4 (some .int) 3 := ⟨(jx_t4 (List.mem_of_getElem? (i := 9) rfl) rfl), (jx_t4 (List.mem_of_getElem? (i := 10) rfl) rfl), (jx_t4 (List.mem_of_getElem? (i := 11) rfl) rfl), (jx_t1 (List.mem_of_getElem? (i := 4) rfl) rfl), (jx_t4 (List.mem_of_getElem? (i := 12) rfl) rfl), rfl, ⟨by decide +kernel, by decide +kernel, by decide +kernel⟩⟩
theorem kv_X2_118 : jx_kV RX2 118 RX2 yX2_bestFor cX2_bestFor 5 (some .int) 1 := ⟨(jx_t4 (List.mem_of_getElem? (i := 13) rfl) rfl), (jx_t3 (List.mem_of_getElem? (i := 231) rfl) rfl), (jx_t3 (List.mem_of_getElem? (i := 232) rfl) rfl), (jx_t1 (List.mem_of_getElem? (i := 4) rfl) rfl), (jx_t3 (List.mem_of_getElem? (i := 233) rfl) rfl), rfl, ⟨by decide +kernel, by decide +kernel, by decide +kernel⟩⟩
theorem kv_X5_196 : jx_kV RX5 196 RX2 yX2_leadBehind cX2_leadBehind 4 (some .int) 3 := ⟨(jx_t4 (List.mem_of_getElem? (i := 14) rfl) rfl), (jx_t4 (List.mem_of_getElem? (i := 10) rfl) rfl), (jx_t4 (List.mem_of_getElem? (i := 11) rfl) rfl), (jx_t1 (List.mem_of_getElem? (i := 4) rfl) rfl), (jx_t4 (List.mem_of_getElem? (i := 12) rfl) rfl), rfl, ⟨by decide +kernel, by decide +kernel, by decide +kernel⟩⟩
theorem kv_L_99 : jx_kV RL 99 RX5 yX5_see cX5_see 3 (some .int) 2 := ⟨(jx_t4 (List.mem_of_getElem? (i := 15) rfl) rfl), (jx_t4 (List.mem_of_getElem? (i := 16) rfl) rfl), (jx_t4 (List.mem_of_getElem? (i := 17) rfl) rfl), (jx_t1 (List.mem_of_getElem? (i := 1) rfl) rfl), (jx_t4 (List.mem_of_getElem? (i := 18) rfl) rfl), rfl, ⟨by decide +kernel, by decide +kernel, by decide +kernel⟩⟩
theorem kv_L_103 : jx_kV RL 103 RX5 yX5_fits cX5_fits 2 (some .int) 1 := ⟨(jx_t4 (List.mem_of_getElem? (i := 19) rfl) rfl), (jx_t4 (List.mem_of_getElem? (i := 20) rfl) rfl), (jx_t4 (List.mem_of_getElem? (i := 21) rfl) rfl), (jx_t1 (List.mem_of_getElem? (i := 1) rfl) rfl), (jx_t4 (List.mem_of_getElem? (i := 22) rfl) rfl), rfl, ⟨by decide +kernel, by decide +kernel, by decide +kernel⟩⟩
theorem kv_X5_208 : jx_kV RX5 208 RX2 yX2_fitting cX2_fitting 4 (some .int) 1 := ⟨(jx_t4 (List.mem_of_getElem? (i := 23) rfl) rfl), (jx_t4 (List.mem_of_getElem? (i := 24) rfl) rfl), (jx_t4 (List.mem_of_getElem? (i := 25) rfl) rfl), (jx_t1 (List.mem_of_getElem? (i := 4) rfl) rfl), (jx_t4 (List.mem_of_getElem? (i := 26) rfl) rfl), rfl, ⟨by decide +kernel, by decide +kernel, by decide +kernel⟩⟩
theorem kv_X2_130 : jx_kV RX2 130 RX2 yX2_countLamps cX2_countLamps 2 none 0 := ⟨(jx_t4 (List.mem_of_getElem? (i := 27) rfl) rfl), (jx_t4 (List.mem_of_getElem? (i := 29) rfl) rfl), (jx_pv (jx_p2 (List.mem_of_getElem? (i := 11) rfl))), (jx_t1 (List.mem_of_getElem? (i := 4) rfl) rfl), (jx_t4 (List.mem_of_getElem? (i := 30) rfl) rfl), rfl, ⟨by decide +kernel, by decide +kernel, by decide +kernel⟩⟩
theorem ks_X2_124 : jx_kS RX2 124 yJ7_fill_53178 cJ7_fill_53178 4 none 2 := ⟨(jx_t4 (List.mem_of_getElem? (i := 31) rfl) rfl), (jx_t3 (List.mem_of_getElem? (i := 63) rfl) rfl), (jx_t1 (List.mem_of_getElem? (i := 14) rfl) rfl), (jx_t3 (List.mem_of_getElem? (i := 64) rfl) rfl), ⟨by decide +kernel, by decide +kernel, by decide +kernel⟩⟩
theorem kv_X2_133 : jx_kV RX2 133 RX2 yX2_isAsSeen cX2_isAsSeen 2 (some .boolean) 0 := ⟨(jx_t4 (List.mem_of_getElem? (i := 32) rfl) rfl), (jx_t4 (List.mem_of_getElem? (i := 34) rfl) rfl), (jx_pv (jx_p2 (List.mem_of_getElem? (i := 12) rfl))), (jx_t1 (List.mem_of_getElem? (i := 4) rfl) rfl), (jx_t4 (List.mem_of_getElem? (i := 35) rfl) rfl), rfl, ⟨by decide +kernel, by decide +kernel, by decide +kernel⟩⟩
theorem kv_L_107 : jx_kV RL 107 RX5 yX5_fair cX5_fair 3 (some .int) 1 := ⟨(jx_t4 (List.mem_of_getElem? (i := 36) rfl) rfl), (jx_t4 (List.mem_of_getElem? (i := 37) rfl) rfl), (jx_t4 (List.mem_of_getElem? (i := 38) rfl) rfl), (jx_t1 (List.mem_of_getElem? (i := 1) rfl) rfl), (jx_t4 (List.mem_of_getElem? (i := 39) rfl) rfl), rfl, ⟨by decide +kernel, by decide +kernel, by decide +kernel⟩⟩
theorem kv_X5_211 : jx_kV RX5 211 RX2 yX2_fairest cX2_fairest 3 (some .int) 0 := ⟨(jx_t4 (List.mem_of_getElem? (i := 40) rfl) rfl), (jx_t4 (List.mem_of_getElem? (i := 41) rfl) rfl), (jx_t4 (List.mem_of_getElem? (i := 42) rfl) rfl), (jx_t1 (List.mem_of_getElem? (i := 4) rfl) rfl), (jx_t4 (List.mem_of_getElem? (i := 43) rfl) rfl), rfl, ⟨by decide +kernel, by decide +kernel, by decide +kernel⟩⟩
theorem kv_X2_146 : jx_kV RX2 146 RX2 yX2_unfairness cX2_unfairness 4 (some .int) 1 := ⟨(jx_t4 (List.mem_of_getElem? (i := 44) rfl) rfl), (jx_t4 (List.mem_of_getElem? (i := 45) rfl) rfl), (jx_t4 (List.mem_of_getElem? (i := 46) rfl) rfl), (jx_t1 (List.mem_of_getElem? (i := 4) rfl) rfl), (jx_t4 (List.mem_of_getElem? (i := 47) rfl) rfl), rfl, ⟨by decide +kernel, by decide +kernel, by decide +kernel⟩⟩
theorem ks_X2_149 : jx_kS RX2 149 yJ9_abs_0f7a4 cJ9_abs_0f7a4 1 (some .int) 1 := ⟨(jx_t4 (List.mem_of_getElem? (i := 48) rfl) rfl), (jx_t4 (List.mem_of_getElem? (i := 49) rfl) rfl), (jx_t1 (List.mem_of_getElem? (i := 12) rfl) rfl), (jx_t4 (List.mem_of_getElem? (i := 50) rfl) rfl), ⟨by decide +kernel, by decide +kernel, by decide +kernel⟩⟩
theorem kv_X5_214 : jx_kV RX5 214 RX2 yX2_unfairness cX2_unfairness 4 (some .int) 1 := ⟨(jx_t4 (List.mem_of_getElem? (i := 51) rfl) rfl), (jx_t4 (List.mem_of_getElem? (i := 45) rfl) rfl), (jx_t4 (List.mem_of_getElem? (i := 46) rfl) rfl), (jx_t1 (List.mem_of_getElem? (i := 4) rfl) rfl), (jx_t4 (List.mem_of_getElem? (i := 47) rfl) rfl), rfl, ⟨by decide +kernel, by decide +kernel, by decide +kernel⟩⟩
theorem kv_L_111 : jx_kV RL 111 RX5 yX5_tale cX5_tale 4 (some .int) 3 := ⟨(jx_t4 (List.mem_of_getElem? (i := 52) rfl) rfl), (jx_t4 (List.mem_of_getElem? (i := 53) rfl) rfl), (jx_t4 (List.mem_of_getElem? (i := 54) rfl) rfl), (jx_t1 (List.mem_of_getElem? (i := 1) rfl) rfl), (jx_t4 (List.mem_of_getElem? (i := 55) rfl) rfl), rfl, ⟨by decide +kernel, by decide +kernel, by decide +kernel⟩⟩
theorem kv_L_115 : jx_kV RL 115 RX5 yX5_looked cX5_looked 1 (some .int) 0 := ⟨(jx_t4 (List.mem_of_getElem? (i := 56) rfl) rfl), (jx_t4 (List.mem_of_getElem? (i := 57) rfl) rfl), (jx_t4 (List.mem_of_getElem? (i := 58) rfl) rfl), (jx_t1 (List.mem_of_getElem? (i := 1) rfl) rfl), (jx_t4 (List.mem_of_getElem? (i := 59) rfl) rfl), rfl, ⟨by decide +kernel, by decide +kernel, by decide +kernel⟩⟩
theorem kv_X5_229 : jx_kV RX5 229 RX2 yX2_firstUntrue cX2_firstUntrue 2 (some .int) 0 := ⟨(jx_t4 (List.mem_of_getElem? (i := 60) rfl) rfl), (jx_t4 (List.mem_of_getElem? (i := 61) rfl) rfl), (jx_t4 (List.mem_of_getElem? (i := 62) rfl) rfl), (jx_t1 (List.mem_of_getElem? (i := 4) rfl) rfl), (jx_t4 (List.mem_of_getElem? (i := 63) rfl) rfl), rfl, ⟨by decide +kernel, by decide +kernel, by decide +kernel⟩⟩
theorem kv_X2_161 : jx_kV RX2 161 RX2 yX2_placeAfter cX2_placeAfter 5 (some .int) 2 := ⟨(jx_t4 (List.mem_of_getElem? (i := 64) rfl) rfl), (jx_t4 (List.mem_of_getElem? (i := 66) rfl) rfl), (jx_pv (jx_p2 (List.mem_of_getElem? (i := 13) rfl))), (jx_t1 (List.mem_of_getElem? (i := 4) rfl) rfl), (jx_t4 (List.mem_of_getElem? (i := 67) rfl) rfl), rfl, ⟨by decide +kernel, by decide +kernel, by decide +kernel⟩⟩
theorem kv_L_119 : jx_kV RL 119 RX5 yX5_act cX5_act 4 (some .int) 3 := ⟨(jx_t4 (List.mem_of_getElem? (i := 68) rfl) rfl), (jx_t4 (List.mem_of_getElem? (i := 69) rfl) rfl), (jx_t4 (List.mem_of_getElem? (i := 70) rfl) rfl), (jx_t1 (List.mem_of_getElem? (i := 1) rfl) rfl), (jx_t4 (List.mem_of_getElem? (i := 71) rfl) rfl), rfl, ⟨by decide +kernel, by decide +kernel, by decide +kernel⟩⟩
theorem kv_X5_232 : jx_kV RX5 232 RX0 yX0_forget cX0_forget 1 none 0 := ⟨(jx_t4 (List.mem_of_getElem? (i := 72) rfl) rfl), (jx_t4 (List.mem_of_getElem? (i := 73) rfl) rfl), (jx_t4 (List.mem_of_getElem? (i := 74) rfl) rfl), (jx_t1 (List.mem_of_getElem? (i := 5) rfl) rfl), (jx_t4 (List.mem_of_getElem? (i := 75) rfl) rfl), rfl, ⟨by decide +kernel, by decide +kernel, by decide +kernel⟩⟩
theorem kv_X5_235 : jx_kV RX5 235 RX0 yX0_run cX0_run 11 (some .int) 5 := ⟨(jx_t4 (List.mem_of_getElem? (i := 76) rfl) rfl), (jx_t4 (List.mem_of_getElem? (i := 77) rfl) rfl), (jx_t4 (List.mem_of_getElem? (i := 78) rfl) rfl), (jx_t1 (List.mem_of_getElem? (i := 5) rfl) rfl), (jx_t4 (List.mem_of_getElem? (i := 79) rfl) rfl), rfl, ⟨by decide +kernel, by decide +kernel, by decide +kernel⟩⟩
theorem ks_X0_35 : jx_kS RX0 35 yX0_doerOf cX0_doerOf 4 (some .int) 2 := ⟨(jx_t4 (List.mem_of_getElem? (i := 80) rfl) rfl), (jx_t4 (List.mem_of_getElem? (i := 81) rfl) rfl), (jx_t1 (List.mem_of_getElem? (i := 5) rfl) rfl), (jx_t4 (List.mem_of_getElem? (i := 82) rfl) rfl), ⟨by decide +kernel, by decide +kernel, by decide +kernel⟩⟩
theorem kv_X0_38 : jx_kV RX0 38 RX0 yX0_begin cX0_begin 2 none 1 := ⟨(jx_t4 (List.mem_of_getElem? (i := 87) rfl) rfl), (jx_t4 (List.mem_of_getElem? (i := 89) rfl) rfl), (jx_pv (jx_p2 (List.mem_of_getElem? (i := 14) rfl))), (jx_t1 (List.mem_of_getElem? (i := 5) rfl) rfl), (jx_t4 (List.mem_of_getElem? (i := 90) rfl) rfl), rfl, ⟨by decide +kernel, by decide +kernel, by decide +kernel⟩⟩
theorem kv_X0_48 : jx_kV RX0 48 RX0 yX0_run cX0_run 11 (some .int) 5 := ⟨(jx_t4 (List.mem_of_getElem? (i := 91) rfl) rfl), (jx_t4 (List.mem_of_getElem? (i := 77) rfl) rfl), (jx_t4 (List.mem_of_getElem? (i := 78) rfl) rfl), (jx_t1 (List.mem_of_getElem? (i := 5) rfl) rfl), (jx_t4 (List.mem_of_getElem? (i := 79) rfl) rfl), rfl, ⟨by decide +kernel, by decide +kernel, by decide +kernel⟩⟩
theorem kv_L_123 : jx_kV RL 123 RX5 yX5_trace cX5_trace 2 (some .int) 1 := ⟨(jx_t4 (List.mem_of_getElem? (i := 92) rfl) rfl), (jx_t4 (List.mem_of_getElem? (i := 93) rfl) rfl), (jx_t4 (List.mem_of_getElem? (i := 94) rfl) rfl), (jx_t1 (List.mem_of_getElem? (i := 1) rfl) rfl), (jx_t4 (List.mem_of_getElem? (i := 95) rfl) rfl), rfl, ⟨by decide +kernel, by decide +kernel, by decide +kernel⟩⟩
theorem kv_X5_239 : jx_kV RX5 239 RX0 yX0_kept cX0_kept 1 (some .int) 0 := ⟨(jx_t4 (List.mem_of_getElem? (i := 96) rfl) rfl), (jx_t4 (List.mem_of_getElem? (i := 97) rfl) rfl), (jx_t4 (List.mem_of_getElem? (i := 98) rfl) rfl), (jx_t1 (List.mem_of_getElem? (i := 5) rfl) rfl), (jx_t4 (List.mem_of_getElem? (i := 99) rfl) rfl), rfl, ⟨by decide +kernel, by decide +kernel, by decide +kernel⟩⟩
theorem ks_X0_23 : jx_kS RX0 23 yJ9_min_7cf53 cJ9_min_7cf53 2 (some .int) 2 := ⟨(jx_t4 (List.mem_of_getElem? (i := 100) rfl) rfl), (jx_t2 (List.mem_of_getElem? (i := 143) rfl) rfl), (jx_t1 (List.mem_of_getElem? (i := 12) rfl) rfl), (jx_t2 (List.mem_of_getElem? (i := 144) rfl) rfl), ⟨by decide +kernel, by decide +kernel, by decide +kernel⟩⟩
theorem kv_L_127 : jx_kV RL 127 RX5 yX5_as cX5_as 4 (some .int) 2 := ⟨(jx_t4 (List.mem_of_getElem? (i := 101) rfl) rfl), (jx_t4 (List.mem_of_getElem? (i := 102) rfl) rfl), (jx_t4 (List.mem_of_getElem? (i := 103) rfl) rfl), (jx_t1 (List.mem_of_getElem? (i := 1) rfl) rfl), (jx_t4 (List.mem_of_getElem? (i := 104) rfl) rfl), rfl, ⟨by decide +kernel, by decide +kernel, by decide +kernel⟩⟩
theorem ks_X5_245 : jx_kS RX5 245 yX0_isUnder cX0_isUnder 4 (some .boolean) 2 := ⟨(jx_t4 (List.mem_of_getElem? (i := 105) rfl) rfl), (jx_t4 (List.mem_of_getElem? (i := 106) rfl) rfl), (jx_t1 (List.mem_of_getElem? (i := 5) rfl) rfl), (jx_t4 (List.mem_of_getElem? (i := 107) rfl) rfl), ⟨by decide +kernel, by decide +kernel, by decide +kernel⟩⟩
theorem kv_L_131 : jx_kV RL 131 RX5 yX5_image cX5_image 1 (some .int) 0 := ⟨(jx_t4 (List.mem_of_getElem? (i := 108) rfl) rfl), (jx_t4 (List.mem_of_getElem? (i := 109) rfl) rfl), (jx_t4 (List.mem_of_getElem? (i := 110) rfl) rfl), (jx_t1 (List.mem_of_getElem? (i := 1) rfl) rfl), (jx_t4 (List.mem_of_getElem? (i := 111) rfl) rfl), rfl, ⟨by decide +kernel, by decide +kernel, by decide +kernel⟩⟩
theorem kv_X5_248 : jx_kV RX5 248 RX1 yX1_copy cX1_copy 2 none 1 := ⟨(jx_t4 (List.mem_of_getElem? (i := 112) rfl) rfl), (jx_t4 (List.mem_of_getElem? (i := 113) rfl) rfl), (jx_t4 (List.mem_of_getElem? (i := 114) rfl) rfl), (jx_t1 (List.mem_of_getElem? (i := 2) rfl) rfl), (jx_t4 (List.mem_of_getElem? (i := 115) rfl) rfl), rfl, ⟨by decide +kernel, by decide +kernel, by decide +kernel⟩⟩
theorem ks_X1_74 : jx_kS RX1 74 yX1_copyRows cX1_copyRows 3 none 2 := ⟨(jx_t4 (List.mem_of_getElem? (i := 116) rfl) rfl), (jx_t4 (List.mem_of_getElem? (i := 117) rfl) rfl), (jx_t1 (List.mem_of_getElem? (i := 2) rfl) rfl), (jx_t4 (List.mem_of_getElem? (i := 118) rfl) rfl), ⟨by decide +kernel, by decide +kernel, by decide +kernel⟩⟩
theorem ks_X1_78 : jx_kS RX1 78 yX1_copyRow cX1_copyRow 2 none 2 := ⟨(jx_t4 (List.mem_of_getElem? (i := 119) rfl) rfl), (jx_t4 (List.mem_of_getElem? (i := 120) rfl) rfl), (jx_t1 (List.mem_of_getElem? (i := 2) rfl) rfl), (jx_t4 (List.mem_of_getElem? (i := 121) rfl) rfl), ⟨by decide +kernel, by decide +kernel, by decide +kernel⟩⟩
theorem ks_X1_82 : jx_kS RX1 82 yJ9_min_7cf53 cJ9_min_7cf53 2 (some .int) 2 := ⟨(jx_t4 (List.mem_of_getElem? (i := 122) rfl) rfl), (jx_t2 (List.mem_of_getElem? (i := 143) rfl) rfl), (jx_t1 (List.mem_of_getElem? (i := 12) rfl) rfl), (jx_t2 (List.mem_of_getElem? (i := 144) rfl) rfl), ⟨by decide +kernel, by decide +kernel, by decide +kernel⟩⟩
theorem kv_L_135 : jx_kV RL 135 RX5 yX5_undo cX5_undo 1 (some .int) 0 := ⟨(jx_t4 (List.mem_of_getElem? (i := 124) rfl) rfl), (jx_t4 (List.mem_of_getElem? (i := 125) rfl) rfl), (jx_t4 (List.mem_of_getElem? (i := 126) rfl) rfl), (jx_t1 (List.mem_of_getElem? (i := 1) rfl) rfl), (jx_t4 (List.mem_of_getElem? (i := 127) rfl) rfl), rfl, ⟨by decide +kernel, by decide +kernel, by decide +kernel⟩⟩
theorem kv_L_139 : jx_kV RL 139 RX5 yX5_count cX5_count 2 (some .int) 1 := ⟨(jx_t4 (List.mem_of_getElem? (i := 128) rfl) rfl), (jx_t4 (List.mem_of_getElem? (i := 129) rfl) rfl), (jx_t4 (List.mem_of_getElem? (i := 130) rfl) rfl), (jx_t1 (List.mem_of_getElem? (i := 1) rfl) rfl), (jx_t4 (List.mem_of_getElem? (i := 131) rfl) rfl), rfl, ⟨by decide +kernel, by decide +kernel, by decide +kernel⟩⟩
theorem kv_X6_40 : jx_kV RX6 40 RX6 yX6_asAtFirst cX6_asAtFirst 3 none 1 := ⟨(jx_t4 (List.mem_of_getElem? (i := 138) rfl) rfl), (jx_t4 (List.mem_of_getElem? (i := 140) rfl) rfl), (jx_pv (jx_p2 (List.mem_of_getElem? (i := 15) rfl))), (jx_t1 (List.mem_of_getElem? (i := 7) rfl) rfl), (jx_t4 (List.mem_of_getElem? (i := 141) rfl) rfl), rfl, ⟨by decide +kernel, by decide +kernel, by decide +kernel⟩⟩
theorem kv_L_17 : jx_kV RL 17 RX6 yX6_feed cX6_feed 2 (some .int) 1 := ⟨(jx_t4 (List.mem_of_getElem? (i := 221) rfl) rfl), (jx_t4 (List.mem_of_getElem? (i := 222) rfl) rfl), (jx_t4 (List.mem_of_getElem? (i := 223) rfl) rfl), (jx_t1 (List.mem_of_getElem? (i := 7) rfl) rfl), (jx_t4 (List.mem_of_getElem? (i := 224) rfl) rfl), rfl, ⟨by decide +kernel, by decide +kernel, by decide +kernel⟩⟩
theorem ks_X6_48 : jx_kS RX6 48 yX6_in cX6_in 3 (some .boolean) 3 := ⟨(jx_t4 (List.mem_of_getElem? (i := 225) rfl) rfl), (jx_t4 (List.mem_of_getElem? (i := 226) rfl) rfl), (jx_t1 (List.mem_of_getElem? (i := 7) rfl) rfl), (jx_t4 (List.mem_of_getElem? (i := 227) rfl) rfl), ⟨by decide +kernel, by decide +kernel, by decide +kernel⟩⟩
theorem kv_L_22 : jx_kV RL 22 RX6 yX6_tide cX6_tide 2 (some .int) 0 := ⟨(jx_t4 (List.mem_of_getElem? (i := 228) rfl) rfl), (jx_t4 (List.mem_of_getElem? (i := 229) rfl) rfl), (jx_t4 (List.mem_of_getElem? (i := 230) rfl) rfl), (jx_t1 (List.mem_of_getElem? (i := 7) rfl) rfl), (jx_t4 (List.mem_of_getElem? (i := 231) rfl) rfl), rfl, ⟨by decide +kernel, by decide +kernel, by decide +kernel⟩⟩
theorem kv_X6_126 : jx_kV RX6 126 RX6 yX6_clauseHere cX6_clauseHere 1 none 0 := ⟨(jx_t4 (List.mem_of_getElem? (i := 232) rfl) rfl), (jx_t4 (List.mem_of_getElem? (i := 234) rfl) rfl), (jx_pv (jx_p3 (List.mem_of_getElem? (i := 0) rfl))), (jx_t1 (List.mem_of_getElem? (i := 7) rfl) rfl), (jx_t4 (List.mem_of_getElem? (i := 235) rfl) rfl), rfl, ⟨by decide +kernel, by decide +kernel, by decide +kernel⟩⟩
theorem kv_X6_62 : jx_kV RX6 62 RX6 yX6_here cX6_here 1 (some .int) 0 := ⟨(jx_t4 (List.mem_of_getElem? (i := 236) rfl) rfl), (jx_t4 (List.mem_of_getElem? (i := 238) rfl) rfl), (jx_pv (jx_p3 (List.mem_of_getElem? (i := 1) rfl))), (jx_t1 (List.mem_of_getElem? (i := 7) rfl) rfl), (jx_t4 (List.mem_of_getElem? (i := 239) rfl) rfl), rfl, ⟨by decide +kernel, by decide +kernel, by decide +kernel⟩⟩
theorem kv_X6_113 : jx_kV RX6 113 RX6 yX6_plain cX6_plain 3 none 2 := ⟨(jx_t5 (List.mem_of_getElem? (i := 1) rfl) rfl), (jx_t5 (List.mem_of_getElem? (i := 3) rfl) rfl), (jx_pv (jx_p3 (List.mem_of_getElem? (i := 2) rfl))), (jx_t1 (List.mem_of_getElem? (i := 7) rfl) rfl), (jx_t5 (List.mem_of_getElem? (i := 4) rfl) rfl), rfl, ⟨by decide +kernel, by decide +kernel, by decide +kernel⟩⟩
theorem kv_X6_107 : jx_kV RX6 107 RX6 yX6_spells cX6_spells 3 none 1 := ⟨(jx_t5 (List.mem_of_getElem? (i := 5) rfl) rfl), (jx_t5 (List.mem_of_getElem? (i := 7) rfl) rfl), (jx_pv (jx_p3 (List.mem_of_getElem? (i := 3) rfl))), (jx_t1 (List.mem_of_getElem? (i := 7) rfl) rfl), (jx_t5 (List.mem_of_getElem? (i := 8) rfl) rfl), rfl, ⟨by decide +kernel, by decide +kernel, by decide +kernel⟩⟩
theorem kv_X6_66 : jx_kV RX6 66 RJ0 yJ0_length_8abf5 cJ0_length_8abf5 1 (some .int) 0 := ⟨(jx_t5 (List.mem_of_getElem? (i := 9) rfl) rfl), (jx_t2 (List.mem_of_getElem? (i := 92) rfl) rfl), (jx_t2 (List.mem_of_getElem? (i := 93) rfl) rfl), (jx_t1 (List.mem_of_getElem? (i := 8) rfl) rfl), (jx_t2 (List.mem_of_getElem? (i := 94) rfl) rfl), rfl, ⟨by decide +kernel, by decide +kernel, by decide +kernel⟩⟩
theorem kv_X6_71 : jx_kV RX6 71 RJ0 yJ0_charAt_5068e cJ0_charAt_5068e 2 (some .char) 1 := ⟨(jx_t5 (List.mem_of_getElem? (i := 10) rfl) rfl), (jx_t2 (List.mem_of_getElem? (i := 48) rfl) rfl), (jx_t2 (List.mem_of_getElem? (i := 49) rfl) rfl), (jx_t1 (List.mem_of_getElem? (i := 8) rfl) rfl), (jx_t2 (List.mem_of_getElem? (i := 50) rfl) rfl), rfl, ⟨by decide +kernel, by decide +kernel, by decide +kernel⟩⟩
theorem kv_X6_75 : jx_kV RX6 75 RX6 yX6_must cX6_must 2 none 1 := ⟨(jx_t5 (List.mem_of_getElem? (i := 11) rfl) rfl), (jx_t5 (List.mem_of_getElem? (i := 13) rfl) rfl), (jx_pv (jx_p3 (List.mem_of_getElem? (i := 4) rfl))), (jx_t1 (List.mem_of_getElem? (i := 7) rfl) rfl), (jx_t5 (List.mem_of_getElem? (i := 14) rfl) rfl), rfl, ⟨by decide +kernel, by decide +kernel, by decide +kernel⟩⟩
theorem kv_X6_90 : jx_kV RX6 90 RX6 yX6_some cX6_some 1 none 0 := ⟨(jx_t5 (List.mem_of_getElem? (i := 15) rfl) rfl), (jx_t5 (List.mem_of_getElem? (i := 17) rfl) rfl), (jx_pv (jx_p3 (List.mem_of_getElem? (i := 5) rfl))), (jx_t1 (List.mem_of_getElem? (i := 7) rfl) rfl), (jx_t5 (List.mem_of_getElem? (i := 18) rfl) rfl), rfl, ⟨by decide +kernel, by decide +kernel, by decide +kernel⟩⟩
theorem kv_X6_104 : jx_kV RX6 104 RX6 yX6_every cX6_every 1 none 0 := ⟨(jx_t5 (List.mem_of_getElem? (i := 19) rfl) rfl), (jx_t5 (List.mem_of_getElem? (i := 21) rfl) rfl), (jx_pv (jx_p3 (List.mem_of_getElem? (i := 6) rfl))), (jx_t1 (List.mem_of_getElem? (i := 7) rfl) rfl), (jx_t5 (List.mem_of_getElem? (i := 22) rfl) rfl), rfl, ⟨by decide +kernel, by decide +kernel, by decide +kernel⟩⟩
theorem kv_X6_84 : jx_kV RX6 84 RX6 yX6_factor cX6_factor 5 none 0 := ⟨(jx_t5 (List.mem_of_getElem? (i := 23) rfl) rfl), (jx_t5 (List.mem_of_getElem? (i := 25) rfl) rfl), (jx_pv (jx_p3 (List.mem_of_getElem? (i := 7) rfl))), (jx_t1 (List.mem_of_getElem? (i := 7) rfl) rfl), (jx_t5 (List.mem_of_getElem? (i := 26) rfl) rfl), rfl, ⟨by decide +kernel, by decide +kernel, by decide +kernel⟩⟩
theorem kv_X6_87 : jx_kV RX6 87 RX6 yX6_emits cX6_emits 2 none 1 := ⟨(jx_t5 (List.mem_of_getElem? (i := 27) rfl) rfl), (jx_t5 (List.mem_of_getElem? (i := 29) rfl) rfl), (jx_pv (jx_p3 (List.mem_of_getElem? (i := 8) rfl))), (jx_t1 (List.mem_of_getElem? (i := 7) rfl) rfl), (jx_t5 (List.mem_of_getElem? (i := 30) rfl) rfl), rfl, ⟨by decide +kernel, by decide +kernel, by decide +kernel⟩⟩
theorem kv_X6_95 : jx_kV RX6 95 RX6 yX6_among cX6_among 3 (some .int) 1 := ⟨(jx_t5 (List.mem_of_getElem? (i := 32) rfl) rfl), (jx_t5 (List.mem_of_getElem? (i := 34) rfl) rfl), (jx_pv (jx_p3 (List.mem_of_getElem? (i := 9) rfl))), (jx_t1 (List.mem_of_getElem? (i := 7) rfl) rfl), (jx_t5 (List.mem_of_getElem? (i := 35) rfl) rfl), rfl, ⟨by decide +kernel, by decide +kernel, by decide +kernel⟩⟩
theorem kv_X6_101 : jx_kV RX6 101 RX6 yX6_figures cX6_figures 3 (some .int) 0 := ⟨(jx_t5 (List.mem_of_getElem? (i := 37) rfl) rfl), (jx_t5 (List.mem_of_getElem? (i := 39) rfl) rfl), (jx_pv (jx_p3 (List.mem_of_getElem? (i := 10) rfl))), (jx_t1 (List.mem_of_getElem? (i := 7) rfl) rfl), (jx_t5 (List.mem_of_getElem? (i := 40) rfl) rfl), rfl, ⟨by decide +kernel, by decide +kernel, by decide +kernel⟩⟩
theorem kv_X6_121 : jx_kV RX6 121 RX6 yX6_much cX6_much 4 none 2 := ⟨(jx_t5 (List.mem_of_getElem? (i := 43) rfl) rfl), (jx_t5 (List.mem_of_getElem? (i := 45) rfl) rfl), (jx_pv (jx_p3 (List.mem_of_getElem? (i := 11) rfl))), (jx_t1 (List.mem_of_getElem? (i := 7) rfl) rfl), (jx_t5 (List.mem_of_getElem? (i := 46) rfl) rfl), rfl, ⟨by decide +kernel, by decide +kernel, by decide +kernel⟩⟩
theorem kv_L_26 : jx_kV RL 26 RX6 yX6_places cX6_places 3 (some .int) 1 := ⟨(jx_t5 (List.mem_of_getElem? (i := 48) rfl) rfl), (jx_t5 (List.mem_of_getElem? (i := 49) rfl) rfl), (jx_t5 (List.mem_of_getElem? (i := 50) rfl) rfl), (jx_t1 (List.mem_of_getElem? (i := 7) rfl) rfl), (jx_t5 (List.mem_of_getElem? (i := 51) rfl) rfl), rfl, ⟨by decide +kernel, by decide +kernel, by decide +kernel⟩⟩
theorem kv_L_31 : jx_kV RL 31 RX6 yX6_place cX6_place 5 (some .int) 3 := ⟨(jx_t5 (List.mem_of_getElem? (i := 52) rfl) rfl), (jx_t5 (List.mem_of_getElem? (i := 53) rfl) rfl), (jx_t5 (List.mem_of_getElem? (i := 54) rfl) rfl), (jx_t1 (List.mem_of_getElem? (i := 7) rfl) rfl), (jx_t5 (List.mem_of_getElem? (i := 55) rfl) rfl), rfl, ⟨by decide +kernel, by decide +kernel, by decide +kernel⟩⟩
theorem kv_X6_145 : jx_kV RX6 145 RX6 yX6_isPlace cX6_isPlace 2 (some .boolean) 1 := ⟨(jx_t5 (List.mem_of_getElem? (i := 56) rfl) rfl), (jx_t5 (List.mem_of_getElem? (i := 58) rfl) rfl), (jx_pv (jx_p3 (List.mem_of_getElem? (i := 12) rfl))), (jx_t1 (List.mem_of_getElem? (i := 7) rfl) rfl), (jx_t5 (List.mem_of_getElem? (i := 59) rfl) rfl), rfl, ⟨by decide +kernel, by decide +kernel, by decide +kernel⟩⟩
theorem kv_L_36 : jx_kV RL 36 RX6 yX6_at cX6_at 4 (some .int) 2 := ⟨(jx_t5 (List.mem_of_getElem? (i := 60) rfl) rfl), (jx_t5 (List.mem_of_getElem? (i := 61) rfl) rfl), (jx_t5 (List.mem_of_getElem? (i := 62) rfl) rfl), (jx_t1 (List.mem_of_getElem? (i := 7) rfl) rfl), (jx_t5 (List.mem_of_getElem? (i := 63) rfl) rfl), rfl, ⟨by decide +kernel, by decide +kernel, by decide +kernel⟩⟩
theorem kv_X6_149 : jx_kV RX6 149 RX6 yX6_goesFrom cX6_goesFrom 3 (some .int) 2 := ⟨(jx_t5 (List.mem_of_getElem? (i := 64) rfl) rfl), (jx_t5 (List.mem_of_getElem? (i := 66) rfl) rfl), (jx_pv (jx_p3 (List.mem_of_getElem? (i := 13) rfl))), (jx_t1 (List.mem_of_getElem? (i := 7) rfl) rfl), (jx_t5 (List.mem_of_getElem? (i := 67) rfl) rfl), rfl, ⟨by decide +kernel, by decide +kernel, by decide +kernel⟩⟩
theorem kv_X6_141 : jx_kV RX6 141 RX6 yX6_looks cX6_looks 11 none 2 := ⟨(jx_t5 (List.mem_of_getElem? (i := 68) rfl) rfl), (jx_t5 (List.mem_of_getElem? (i := 70) rfl) rfl), (jx_pv (jx_p3 (List.mem_of_getElem? (i := 14) rfl))), (jx_t1 (List.mem_of_getElem? (i := 7) rfl) rfl), (jx_t5 (List.mem_of_getElem? (i := 71) rfl) rfl), rfl, ⟨by decide +kernel, by decide +kernel, by decide +kernel⟩⟩
theorem kv_L_41 : jx_kV RL 41 RX6 yX6_voter cX6_voter 8 (some .int) 5 := ⟨(jx_t5 (List.mem_of_getElem? (i := 72) rfl) rfl), (jx_t5 (List.mem_of_getElem? (i := 73) rfl) rfl), (jx_t5 (List.mem_of_getElem? (i := 74) rfl) rfl), (jx_t1 (List.mem_of_getElem? (i := 7) rfl) rfl), (jx_t5 (List.mem_of_getElem? (i := 75) rfl) rfl), rfl, ⟨by decide +kernel, by decide +kernel, by decide +kernel⟩⟩
theorem kv_L_45 : jx_kV RL 45 RX6 yX6_of cX6_of 3 (some .int) 2 := ⟨(jx_t5 (List.mem_of_getElem? (i := 76) rfl) rfl), (jx_t5 (List.mem_of_getElem? (i := 77) rfl) rfl), (jx_t5 (List.mem_of_getElem? (i := 78) rfl) rfl), (jx_t1 (List.mem_of_getElem? (i := 7) rfl) rfl), (jx_t5 (List.mem_of_getElem? (i := 79) rfl) rfl), rfl, ⟨by decide +kernel, by decide +kernel, by decide +kernel⟩⟩
theorem kv_X6_163 : jx_kV RX6 163 RX6 yX6_isVoter cX6_isVoter 2 (some .boolean) 1 := ⟨(jx_t5 (List.mem_of_getElem? (i := 80) rfl) rfl), (jx_t5 (List.mem_of_getElem? (i := 82) rfl) rfl), (jx_pv (jx_p3 (List.mem_of_getElem? (i := 15) rfl))), (jx_t1 (List.mem_of_getElem? (i := 7) rfl) rfl), (jx_t5 (List.mem_of_getElem? (i := 83) rfl) rfl), rfl, ⟨by decide +kernel, by decide +kernel, by decide +kernel⟩⟩
theorem kv_X6_166 : jx_kV RX6 166 RX6 yX6_setsOf cX6_setsOf 3 (some .int) 1 := ⟨(jx_t5 (List.mem_of_getElem? (i := 84) rfl) rfl), (jx_t5 (List.mem_of_getElem? (i := 86) rfl) rfl), (jx_pv (jx_p4 (List.mem_of_getElem? (i := 0) rfl))), (jx_t1 (List.mem_of_getElem? (i := 7) rfl) rfl), (jx_t5 (List.mem_of_getElem? (i := 87) rfl) rfl), rfl, ⟨by decide +kernel, by decide +kernel, by decide +kernel⟩⟩
theorem kv_X6_153 : jx_kV RX6 153 RX6 yX6_upperOf cX6_upperOf 3 (some .int) 1 := ⟨(jx_t5 (List.mem_of_getElem? (i := 88) rfl) rfl), (jx_t5 (List.mem_of_getElem? (i := 90) rfl) rfl), (jx_pv (jx_p4 (List.mem_of_getElem? (i := 1) rfl))), (jx_t1 (List.mem_of_getElem? (i := 7) rfl) rfl), (jx_t5 (List.mem_of_getElem? (i := 91) rfl) rfl), rfl, ⟨by decide +kernel, by decide +kernel, by decide +kernel⟩⟩
theorem kv_X6_157 : jx_kV RX6 157 RX6 yX6_crowded cX6_crowded 6 (some .int) 0 := ⟨(jx_t5 (List.mem_of_getElem? (i := 92) rfl) rfl), (jx_t5 (List.mem_of_getElem? (i := 94) rfl) rfl), (jx_pv (jx_p4 (List.mem_of_getElem? (i := 2) rfl))), (jx_t1 (List.mem_of_getElem? (i := 7) rfl) rfl), (jx_t5 (List.mem_of_getElem? (i := 95) rfl) rfl), rfl, ⟨by decide +kernel, by decide +kernel, by decide +kernel⟩⟩
theorem kv_X6_160 : jx_kV RX6 160 RX6 yX6_delayOf cX6_delayOf 2 (some .int) 1 := ⟨(jx_t5 (List.mem_of_getElem? (i := 96) rfl) rfl), (jx_t5 (List.mem_of_getElem? (i := 98) rfl) rfl), (jx_pv (jx_p4 (List.mem_of_getElem? (i := 3) rfl))), (jx_t1 (List.mem_of_getElem? (i := 7) rfl) rfl), (jx_t5 (List.mem_of_getElem? (i := 99) rfl) rfl), rfl, ⟨by decide +kernel, by decide +kernel, by decide +kernel⟩⟩
theorem kv_X6_169 : jx_kV RX6 169 RX6 yX6_burnsAt cX6_burnsAt 4 (some .int) 2 := ⟨(jx_t5 (List.mem_of_getElem? (i := 100) rfl) rfl), (jx_t5 (List.mem_of_getElem? (i := 102) rfl) rfl), (jx_pv (jx_p4 (List.mem_of_getElem? (i := 4) rfl))), (jx_t1 (List.mem_of_getElem? (i := 7) rfl) rfl), (jx_t5 (List.mem_of_getElem? (i := 103) rfl) rfl), rfl, ⟨by decide +kernel, by decide +kernel, by decide +kernel⟩⟩
theorem kv_L_49 : jx_kV RL 49 RX6 yX6_wish cX6_wish 4 (some .int) 2 := ⟨(jx_t5 (List.mem_of_getElem? (i := 104) rfl) rfl), (jx_t5 (List.mem_of_getElem? (i := 105) rfl) rfl), (jx_t5 (List.mem_of_getElem? (i := 106) rfl) rfl), (jx_t1 (List.mem_of_getElem? (i := 7) rfl) rfl), (jx_t5 (List.mem_of_getElem? (i := 107) rfl) rfl), rfl, ⟨by decide +kernel, by decide +kernel, by decide +kernel⟩⟩
theorem kv_L_53 : jx_kV RL 53 RX6 yX6_row cX6_row 5 (some .int) 3 := ⟨(jx_t5 (List.mem_of_getElem? (i := 108) rfl) rfl), (jx_t5 (List.mem_of_getElem? (i := 109) rfl) rfl), (jx_t5 (List.mem_of_getElem? (i := 110) rfl) rfl), (jx_t1 (List.mem_of_getElem? (i := 7) rfl) rfl), (jx_t5 (List.mem_of_getElem? (i := 111) rfl) rfl), rfl, ⟨by decide +kernel, by decide +kernel, by decide +kernel⟩⟩
theorem kv_L_57 : jx_kV RL 57 RX6 yX6_minutes cX6_minutes 2 (some .int) 1 := ⟨(jx_t5 (List.mem_of_getElem? (i := 112) rfl) rfl), (jx_t5 (List.mem_of_getElem? (i := 113) rfl) rfl), (jx_t5 (List.mem_of_getElem? (i := 114) rfl) rfl), (jx_t1 (List.mem_of_getElem? (i := 7) rfl) rfl), (jx_t5 (List.mem_of_getElem? (i := 115) rfl) rfl), rfl, ⟨by decide +kernel, by decide +kernel, by decide +kernel⟩⟩
theorem kv_L_61 : jx_kV RL 61 RX6 yX6_vote cX6_vote 2 (some .int) 1 := ⟨(jx_t5 (List.mem_of_getElem? (i := 116) rfl) rfl), (jx_t5 (List.mem_of_getElem? (i := 117) rfl) rfl), (jx_t5 (List.mem_of_getElem? (i := 118) rfl) rfl), (jx_t1 (List.mem_of_getElem? (i := 7) rfl) rfl), (jx_t5 (List.mem_of_getElem? (i := 119) rfl) rfl), rfl, ⟨by decide +kernel, by decide +kernel, by decide +kernel⟩⟩
theorem kv_X6_185 : jx_kV RX6 185 RX6 yX6_looksForNight cX6_looksForNight 3 none 0 := ⟨(jx_t5 (List.mem_of_getElem? (i := 120) rfl) rfl), (jx_t5 (List.mem_of_getElem? (i := 122) rfl) rfl), (jx_pv (jx_p4 (List.mem_of_getElem? (i := 5) rfl))), (jx_t1 (List.mem_of_getElem? (i := 7) rfl) rfl), (jx_t5 (List.mem_of_getElem? (i := 123) rfl) rfl), rfl, ⟨by decide +kernel, by decide +kernel, by decide +kernel⟩⟩
theorem kv_X6_188 : jx_kV RX6 188 RX6 yX6_laysAll cX6_laysAll 2 none 0 := ⟨(jx_t5 (List.mem_of_getElem? (i := 124) rfl) rfl), (jx_t5 (List.mem_of_getElem? (i := 126) rfl) rfl), (jx_pv (jx_p4 (List.mem_of_getElem? (i := 6) rfl))), (jx_t1 (List.mem_of_getElem? (i := 7) rfl) rfl), (jx_t5 (List.mem_of_getElem? (i := 127) rfl) rfl), rfl, ⟨by decide +kernel, by decide +kernel, by decide +kernel⟩⟩
theorem kv_X6_176 : jx_kV RX6 176 RX6 yX6_lays cX6_lays 3 none 2 := ⟨(jx_t5 (List.mem_of_getElem? (i := 128) rfl) rfl), (jx_t5 (List.mem_of_getElem? (i := 130) rfl) rfl), (jx_pv (jx_p4 (List.mem_of_getElem? (i := 7) rfl))), (jx_t1 (List.mem_of_getElem? (i := 7) rfl) rfl), (jx_t5 (List.mem_of_getElem? (i := 131) rfl) rfl), rfl, ⟨by decide +kernel, by decide +kernel, by decide +kernel⟩⟩
theorem kv_X6_172 : jx_kV RX6 172 RX6 yX6_lampAt cX6_lampAt 8 (some .int) 3 := ⟨(jx_t5 (List.mem_of_getElem? (i := 132) rfl) rfl), (jx_t5 (List.mem_of_getElem? (i := 134) rfl) rfl), (jx_pv (jx_p4 (List.mem_of_getElem? (i := 8) rfl))), (jx_t1 (List.mem_of_getElem? (i := 7) rfl) rfl), (jx_t5 (List.mem_of_getElem? (i := 135) rfl) rfl), rfl, ⟨by decide +kernel, by decide +kernel, by decide +kernel⟩⟩
theorem kv_X6_191 : jx_kV RX6 191 RX6 yX6_mayor cX6_mayor 1 (some .int) 0 := ⟨(jx_t5 (List.mem_of_getElem? (i := 136) rfl) rfl), (jx_t5 (List.mem_of_getElem? (i := 138) rfl) rfl), (jx_pv (jx_p4 (List.mem_of_getElem? (i := 9) rfl))), (jx_t1 (List.mem_of_getElem? (i := 7) rfl) rfl), (jx_t5 (List.mem_of_getElem? (i := 139) rfl) rfl), rfl, ⟨by decide +kernel, by decide +kernel, by decide +kernel⟩⟩
theorem kv_X6_179 : jx_kV RX6 179 RX6 yX6_votesFor cX6_votesFor 4 (some .int) 1 := ⟨(jx_t5 (List.mem_of_getElem? (i := 140) rfl) rfl), (jx_t5 (List.mem_of_getElem? (i := 142) rfl) rfl), (jx_pv (jx_p4 (List.mem_of_getElem? (i := 10) rfl))), (jx_t1 (List.mem_of_getElem? (i := 7) rfl) rfl), (jx_t5 (List.mem_of_getElem? (i := 143) rfl) rfl), rfl, ⟨by decide +kernel, by decide +kernel, by decide +kernel⟩⟩
theorem ks_X6_182 : jx_kS RX6 182 yX6_greater cX6_greater 2 (some .int) 2 := ⟨(jx_t5 (List.mem_of_getElem? (i := 144) rfl) rfl), (jx_t5 (List.mem_of_getElem? (i := 145) rfl) rfl), (jx_t1 (List.mem_of_getElem? (i := 7) rfl) rfl), (jx_t5 (List.mem_of_getElem? (i := 146) rfl) rfl), ⟨by decide +kernel, by decide +kernel, by decide +kernel⟩⟩
theorem kv_L_65 : jx_kV RL 65 RX6 yX6_lies cX6_lies 3 (some .int) 2 := ⟨(jx_t5 (List.mem_of_getElem? (i := 147) rfl) rfl), (jx_t5 (List.mem_of_getElem? (i := 148) rfl) rfl), (jx_t5 (List.mem_of_getElem? (i := 149) rfl) rfl), (jx_t1 (List.mem_of_getElem? (i := 7) rfl) rfl), (jx_t5 (List.mem_of_getElem? (i := 150) rfl) rfl), rfl, ⟨by decide +kernel, by decide +kernel, by decide +kernel⟩⟩
theorem kv_L_69 : jx_kV RL 69 RX6 yX6_ward cX6_ward 6 (some .int) 1 := ⟨(jx_t5 (List.mem_of_getElem? (i := 151) rfl) rfl), (jx_t5 (List.mem_of_getElem? (i := 152) rfl) rfl), (jx_t5 (List.mem_of_getElem? (i := 153) rfl) rfl), (jx_t1 (List.mem_of_getElem? (i := 7) rfl) rfl), (jx_t5 (List.mem_of_getElem? (i := 154) rfl) rfl), rfl, ⟨by decide +kernel, by decide +kernel, by decide +kernel⟩⟩
theorem kv_L_73 : jx_kV RL 73 RX6 yX6_drifts cX6_drifts 3 (some .int) 2 := ⟨(jx_t5 (List.mem_of_getElem? (i := 155) rfl) rfl), (jx_t5 (List.mem_of_getElem? (i := 156) rfl) rfl), (jx_t5 (List.mem_of_getElem? (i := 157) rfl) rfl), (jx_t1 (List.mem_of_getElem? (i := 7) rfl) rfl), (jx_t5 (List.mem_of_getElem? (i := 158) rfl) rfl), rfl, ⟨by decide +kernel, by decide +kernel, by decide +kernel⟩⟩
theorem kv_X6_194 : jx_kV RX6 194 RX6 yX6_driftOf cX6_driftOf 5 (some .int) 2 := ⟨(jx_t5 (List.mem_of_getElem? (i := 159) rfl) rfl), (jx_t5 (List.mem_of_getElem? (i := 161) rfl) rfl), (jx_pv (jx_p4 (List.mem_of_getElem? (i := 11) rfl))), (jx_t1 (List.mem_of_getElem? (i := 7) rfl) rfl), (jx_t5 (List.mem_of_getElem? (i := 162) rfl) rfl), rfl, ⟨by decide +kernel, by decide +kernel, by decide +kernel⟩⟩
theorem kv_L_77 : jx_kV RL 77 RX6 yX6_from cX6_from 7 (some .int) 3 := ⟨(jx_t5 (List.mem_of_getElem? (i := 163) rfl) rfl), (jx_t5 (List.mem_of_getElem? (i := 164) rfl) rfl), (jx_t5 (List.mem_of_getElem? (i := 165) rfl) rfl), (jx_t1 (List.mem_of_getElem? (i := 7) rfl) rfl), (jx_t5 (List.mem_of_getElem? (i := 166) rfl) rfl), rfl, ⟨by decide +kernel, by decide +kernel, by decide +kernel⟩⟩
theorem kv_L_81 : jx_kV RL 81 RX6 yX6_turns cX6_turns 8 (some .int) 1 := ⟨(jx_t5 (List.mem_of_getElem? (i := 167) rfl) rfl), (jx_t5 (List.mem_of_getElem? (i := 168) rfl) rfl), (jx_t5 (List.mem_of_getElem? (i := 169) rfl) rfl), (jx_t1 (List.mem_of_getElem? (i := 7) rfl) rfl), (jx_t5 (List.mem_of_getElem? (i := 170) rfl) rfl), rfl, ⟨by decide +kernel, by decide +kernel, by decide +kernel⟩⟩
theorem kv_X6_200 : jx_kV RX6 200 RX6 yX6_mayorBy cX6_mayorBy 3 (some .int) 1 := ⟨(jx_t5 (List.mem_of_getElem? (i := 171) rfl) rfl), (jx_t5 (List.mem_of_getElem? (i := 173) rfl) rfl), (jx_pv (jx_p4 (List.mem_of_getElem? (i := 12) rfl))), (jx_t1 (List.mem_of_getElem? (i := 7) rfl) rfl), (jx_t5 (List.mem_of_getElem? (i := 174) rfl) rfl), rfl, ⟨by decide +kernel, by decide +kernel, by decide +kernel⟩⟩
theorem kv_X6_197 : jx_kV RX6 197 RX6 yX6_turnsWishes cX6_turnsWishes 3 none 1 := ⟨(jx_t5 (List.mem_of_getElem? (i := 175) rfl) rfl), (jx_t5 (List.mem_of_getElem? (i := 177) rfl) rfl), (jx_pv (jx_p4 (List.mem_of_getElem? (i := 13) rfl))), (jx_t1 (List.mem_of_getElem? (i := 7) rfl) rfl), (jx_t5 (List.mem_of_getElem? (i := 178) rfl) rfl), rfl, ⟨by decide +kernel, by decide +kernel, by decide +kernel⟩⟩
theorem ks_X6_203 : jx_kS RX6 203 yX6_count1 cX6_count1 3 (some .int) 1 := ⟨(jx_t5 (List.mem_of_getElem? (i := 179) rfl) rfl), (jx_t5 (List.mem_of_getElem? (i := 180) rfl) rfl), (jx_t1 (List.mem_of_getElem? (i := 7) rfl) rfl), (jx_t5 (List.mem_of_getElem? (i := 181) rfl) rfl), ⟨by decide +kernel, by decide +kernel, by decide +kernel⟩⟩
theorem kv_L_86 : jx_kV RL 86 RX6 yX6_sways cX6_sways 6 (some .long) 2 := ⟨(jx_t5 (List.mem_of_getElem? (i := 182) rfl) rfl), (jx_t5 (List.mem_of_getElem? (i := 183) rfl) rfl), (jx_t5 (List.mem_of_getElem? (i := 184) rfl) rfl), (jx_t1 (List.mem_of_getElem? (i := 7) rfl) rfl), (jx_t5 (List.mem_of_getElem? (i := 185) rfl) rfl), rfl, ⟨by decide +kernel, by decide +kernel, by decide +kernel⟩⟩
theorem ks_X6_208 : jx_kS RX6 208 yX6_lowest cX6_lowest 11 (some .long) 3 := ⟨(jx_t5 (List.mem_of_getElem? (i := 187) rfl) rfl), (jx_t5 (List.mem_of_getElem? (i := 188) rfl) rfl), (jx_t1 (List.mem_of_getElem? (i := 7) rfl) rfl), (jx_t5 (List.mem_of_getElem? (i := 189) rfl) rfl), ⟨by decide +kernel, by decide +kernel, by decide +kernel⟩⟩
theorem kv_L_90 : jx_kV RL 90 RX6 yX6_stick cX6_stick 4 (some .int) 1 := ⟨(jx_t5 (List.mem_of_getElem? (i := 190) rfl) rfl), (jx_t5 (List.mem_of_getElem? (i := 191) rfl) rfl), (jx_t5 (List.mem_of_getElem? (i := 192) rfl) rfl), (jx_t1 (List.mem_of_getElem? (i := 7) rfl) rfl), (jx_t5 (List.mem_of_getElem? (i := 193) rfl) rfl), rfl, ⟨by decide +kernel, by decide +kernel, by decide +kernel⟩⟩
theorem kv_L_94 : jx_kV RL 94 RX6 yX6_set cX6_set 3 (some .int) 2 := ⟨(jx_t5 (List.mem_of_getElem? (i := 194) rfl) rfl), (jx_t5 (List.mem_of_getElem? (i := 195) rfl) rfl), (jx_t5 (List.mem_of_getElem? (i := 196) rfl) rfl), (jx_t1 (List.mem_of_getElem? (i := 7) rfl) rfl), (jx_t5 (List.mem_of_getElem? (i := 197) rfl) rfl), rfl, ⟨by decide +kernel, by decide +kernel, by decide +kernel⟩⟩
theorem kv_X6_221 : jx_kV RX6 221 RX6 yX6_looksForBest cX6_looksForBest 5 none 1 := ⟨(jx_t5 (List.mem_of_getElem? (i := 198) rfl) rfl), (jx_t5 (List.mem_of_getElem? (i := 200) rfl) rfl), (jx_pv (jx_p4 (List.mem_of_getElem? (i := 14) rfl))), (jx_t1 (List.mem_of_getElem? (i := 7) rfl) rfl), (jx_t5 (List.mem_of_getElem? (i := 201) rfl) rfl), rfl, ⟨by decide +kernel, by decide +kernel, by decide +kernel⟩⟩
theorem kv_X6_215 : jx_kV RX6 215 RX6 yX6_moreOf cX6_moreOf 2 (some .int) 1 := ⟨(jx_t5 (List.mem_of_getElem? (i := 202) rfl) rfl), (jx_t5 (List.mem_of_getElem? (i := 204) rfl) rfl), (jx_pv (jx_p4 (List.mem_of_getElem? (i := 15) rfl))), (jx_t1 (List.mem_of_getElem? (i := 7) rfl) rfl), (jx_t5 (List.mem_of_getElem? (i := 205) rfl) rfl), rfl, ⟨by decide +kernel, by decide +kernel, by decide +kernel⟩⟩
theorem kv_L_98 : jx_kV RL 98 RX6 yX6_game cX6_game 9 (some .int) 3 := ⟨(jx_t5 (List.mem_of_getElem? (i := 206) rfl) rfl), (jx_t5 (List.mem_of_getElem? (i := 207) rfl) rfl), (jx_t5 (List.mem_of_getElem? (i := 208) rfl) rfl), (jx_t1 (List.mem_of_getElem? (i := 7) rfl) rfl), (jx_t5 (List.mem_of_getElem? (i := 209) rfl) rfl), rfl, ⟨by decide +kernel, by decide +kernel, by decide +kernel⟩⟩
theorem kv_L_102 : jx_kV RL 102 RX6 yX6_see cX6_see 3 (some .int) 2 := ⟨(jx_t5 (List.mem_of_getElem? (i := 210) rfl) rfl), (jx_t5 (List.mem_of_getElem? (i := 211) rfl) rfl), (jx_t5 (List.mem_of_getElem? (i := 212) rfl) rfl), (jx_t1 (List.mem_of_getElem? (i := 7) rfl) rfl), (jx_t5 (List.mem_of_getElem? (i := 213) rfl) rfl), rfl, ⟨by decide +kernel, by decide +kernel, by decide +kernel⟩⟩
theorem kv_L_106 : jx_kV RL 106 RX6 yX6_fits cX6_fits 6 (some .int) 1 := ⟨(jx_t5 (List.mem_of_getElem? (i := 214) rfl) rfl), (jx_t5 (List.mem_of_getElem? (i := 215) rfl) rfl), (jx_t5 (List.mem_of_getElem? (i := 216) rfl) rfl), (jx_t1 (List.mem_of_getElem? (i := 7) rfl) rfl), (jx_t5 (List.mem_of_getElem? (i := 217) rfl) rfl), rfl, ⟨by decide +kernel, by decide +kernel, by decide +kernel⟩⟩
theorem kv_X6_224 : jx_kV RX6 224 RX6 yX6_lampsAt cX6_lampsAt 4 (some .int) 1 := ⟨(jx_t5 (List.mem_of_getElem? (i := 218) rfl) rfl), (jx_t5 (List.mem_of_getElem? (i := 220) rfl) rfl), (jx_pv (jx_p5 (List.mem_of_getElem? (i := 0) rfl))), (jx_t1 (List.mem_of_getElem? (i := 7) rfl) rfl), (jx_t5 (List.mem_of_getElem? (i := 221) rfl) rfl), rfl, ⟨by decide +kernel, by decide +kernel, by decide +kernel⟩⟩
theorem kv_L_110 : jx_kV RL 110 RX6 yX6_fair cX6_fair 7 (some .int) 1 := ⟨(jx_t5 (List.mem_of_getElem? (i := 222) rfl) rfl), (jx_t5 (List.mem_of_getElem? (i := 223) rfl) rfl), (jx_t5 (List.mem_of_getElem? (i := 224) rfl) rfl), (jx_t1 (List.mem_of_getElem? (i := 7) rfl) rfl), (jx_t5 (List.mem_of_getElem? (i := 225) rfl) rfl), rfl, ⟨by decide +kernel, by decide +kernel, by decide +kernel⟩⟩
theorem kv_L_114 : jx_kV RL 114 RX6 yX6_tale cX6_tale 4 (some .int) 3 := ⟨(jx_t5 (List.mem_of_getElem? (i := 226) rfl) rfl), (jx_t5 (List.mem_of_getElem? (i := 227) rfl) rfl), (jx_t5 (List.mem_of_getElem? (i := 228) rfl) rfl), (jx_t1 (List.mem_of_getElem? (i := 7) rfl) rfl), (jx_t5 (List.mem_of_getElem? (i := 229) rfl) rfl), rfl, ⟨by decide +kernel, by decide +kernel, by decide +kernel⟩⟩
theorem kv_L_118 : jx_kV RL 118 RX6 yX6_looked cX6_looked 3 (some .int) 0 := ⟨(jx_t5 (List.mem_of_getElem? (i := 230) rfl) rfl), (jx_t5 (List.mem_of_getElem? (i := 231) rfl) rfl), (jx_t5 (List.mem_of_getElem? (i := 232) rfl) rfl), (jx_t1 (List.mem_of_getElem? (i := 7) rfl) rfl), (jx_t5 (List.mem_of_getElem? (i := 233) rfl) rfl), rfl, ⟨by decide +kernel, by decide +kernel, by decide +kernel⟩⟩
theorem kv_L_122 : jx_kV RL 122 RX6 yX6_act cX6_act 4 (some .int) 3 := ⟨(jx_t5 (List.mem_of_getElem? (i := 234) rfl) rfl), (jx_t5 (List.mem_of_getElem? (i := 235) rfl) rfl), (jx_t5 (List.mem_of_getElem? (i := 236) rfl) rfl), (jx_t1 (List.mem_of_getElem? (i := 7) rfl) rfl), (jx_t5 (List.mem_of_getElem? (i := 237) rfl) rfl), rfl, ⟨by decide +kernel, by decide +kernel, by decide +kernel⟩⟩
theorem kv_X6_246 : jx_kV RX6 246 RX6 yX6_setsActs cX6_setsActs 2 (some .int) 1 := ⟨(jx_t5 (List.mem_of_getElem? (i := 238) rfl) rfl), (jx_t6 (List.mem_of_getElem? (i := 0) rfl) rfl), (jx_pv (jx_p5 (List.mem_of_getElem? (i := 1) rfl))), (jx_t1 (List.mem_of_getElem? (i := 7) rfl) rfl), (jx_t6 (List.mem_of_getElem? (i := 1) rfl) rfl), rfl, ⟨by decide +kernel, by decide +kernel, by decide +kernel⟩⟩
theorem ks_X6_239 : jx_kS RX6 239 yX6_isUnder cX6_isUnder 2 (some .boolean) 2 := ⟨(jx_t6 (List.mem_of_getElem? (i := 2) rfl) rfl), (jx_t6 (List.mem_of_getElem? (i := 3) rfl) rfl), (jx_t1 (List.mem_of_getElem? (i := 7) rfl) rfl), (jx_t6 (List.mem_of_getElem? (i := 4) rfl) rfl), ⟨by decide +kernel, by decide +kernel, by decide +kernel⟩⟩
theorem kv_X6_230 : jx_kV RX6 230 RX6 yX6_ranBody cX6_ranBody 2 none 1 := ⟨(jx_t6 (List.mem_of_getElem? (i := 5) rfl) rfl), (jx_t6 (List.mem_of_getElem? (i := 7) rfl) rfl), (jx_pv (jx_p5 (List.mem_of_getElem? (i := 2) rfl))), (jx_t1 (List.mem_of_getElem? (i := 7) rfl) rfl), (jx_t6 (List.mem_of_getElem? (i := 8) rfl) rfl), rfl, ⟨by decide +kernel, by decide +kernel, by decide +kernel⟩⟩
theorem kv_X6_243 : jx_kV RX6 243 RX6 yX6_plainSets cX6_plainSets 2 (some .int) 1 := ⟨(jx_t6 (List.mem_of_getElem? (i := 9) rfl) rfl), (jx_t6 (List.mem_of_getElem? (i := 11) rfl) rfl), (jx_pv (jx_p5 (List.mem_of_getElem? (i := 3) rfl))), (jx_t1 (List.mem_of_getElem? (i := 7) rfl) rfl), (jx_t6 (List.mem_of_getElem? (i := 12) rfl) rfl), rfl, ⟨by decide +kernel, by decide +kernel, by decide +kernel⟩⟩
theorem kv_X6_255 : jx_kV RX6 255 RX6 yX6_burnsActs cX6_burnsActs 2 (some .int) 1 := ⟨(jx_t6 (List.mem_of_getElem? (i := 13) rfl) rfl), (jx_t6 (List.mem_of_getElem? (i := 15) rfl) rfl), (jx_pv (jx_p5 (List.mem_of_getElem? (i := 4) rfl))), (jx_t1 (List.mem_of_getElem? (i := 7) rfl) rfl), (jx_t6 (List.mem_of_getElem? (i := 16) rfl) rfl), rfl, ⟨by decide +kernel, by decide +kernel, by decide +kernel⟩⟩
theorem kv_X6_252 : jx_kV RX6 252 RX6 yX6_plainBurns cX6_plainBurns 2 (some .int) 1 := ⟨(jx_t6 (List.mem_of_getElem? (i := 17) rfl) rfl), (jx_t6 (List.mem_of_getElem? (i := 19) rfl) rfl), (jx_pv (jx_p5 (List.mem_of_getElem? (i := 5) rfl))), (jx_t1 (List.mem_of_getElem? (i := 7) rfl) rfl), (jx_t6 (List.mem_of_getElem? (i := 20) rfl) rfl), rfl, ⟨by decide +kernel, by decide +kernel, by decide +kernel⟩⟩
theorem kv_X6_261 : jx_kV RX6 261 RX6 yX6_tellsActs cX6_tellsActs 3 (some .int) 1 := ⟨(jx_t6 (List.mem_of_getElem? (i := 21) rfl) rfl), (jx_t6 (List.mem_of_getElem? (i := 23) rfl) rfl), (jx_pv (jx_p5 (List.mem_of_getElem? (i := 6) rfl))), (jx_t1 (List.mem_of_getElem? (i := 7) rfl) rfl), (jx_t6 (List.mem_of_getElem? (i := 24) rfl) rfl), rfl, ⟨by decide +kernel, by decide +kernel, by decide +kernel⟩⟩
theorem kv_X6_258 : jx_kV RX6 258 RX6 yX6_plainTells cX6_plainTells 2 (some .int) 1 := ⟨(jx_t6 (List.mem_of_getElem? (i := 25) rfl) rfl), (jx_t6 (List.mem_of_getElem? (i := 27) rfl) rfl), (jx_pv (jx_p5 (List.mem_of_getElem? (i := 7) rfl))), (jx_t1 (List.mem_of_getElem? (i := 7) rfl) rfl), (jx_t6 (List.mem_of_getElem? (i := 28) rfl) rfl), rfl, ⟨by decide +kernel, by decide +kernel, by decide +kernel⟩⟩
theorem kv_L_126 : jx_kV RL 126 RX6 yX6_trace cX6_trace 2 (some .int) 1 := ⟨(jx_t6 (List.mem_of_getElem? (i := 29) rfl) rfl), (jx_t6 (List.mem_of_getElem? (i := 30) rfl) rfl), (jx_t6 (List.mem_of_getElem? (i := 31) rfl) rfl), (jx_t1 (List.mem_of_getElem? (i := 7) rfl) rfl), (jx_t6 (List.mem_of_getElem? (i := 32) rfl) rfl), rfl, ⟨by decide +kernel, by decide +kernel, by decide +kernel⟩⟩
theorem kv_L_130 : jx_kV RL 130 RX6 yX6_as cX6_as 3 (some .int) 2 := ⟨(jx_t6 (List.mem_of_getElem? (i := 33) rfl) rfl), (jx_t6 (List.mem_of_getElem? (i := 34) rfl) rfl), (jx_t6 (List.mem_of_getElem? (i := 35) rfl) rfl), (jx_t1 (List.mem_of_getElem? (i := 7) rfl) rfl), (jx_t6 (List.mem_of_getElem? (i := 36) rfl) rfl), rfl, ⟨by decide +kernel, by decide +kernel, by decide +kernel⟩⟩
theorem kv_L_134 : jx_kV RL 134 RX6 yX6_image cX6_image 2 (some .int) 0 := ⟨(jx_t6 (List.mem_of_getElem? (i := 37) rfl) rfl), (jx_t6 (List.mem_of_getElem? (i := 38) rfl) rfl), (jx_t6 (List.mem_of_getElem? (i := 39) rfl) rfl), (jx_t1 (List.mem_of_getElem? (i := 7) rfl) rfl), (jx_t6 (List.mem_of_getElem? (i := 40) rfl) rfl), rfl, ⟨by decide +kernel, by decide +kernel, by decide +kernel⟩⟩
theorem kv_L_138 : jx_kV RL 138 RX6 yX6_undo cX6_undo 2 (some .int) 0 := ⟨(jx_t6 (List.mem_of_getElem? (i := 41) rfl) rfl), (jx_t6 (List.mem_of_getElem? (i := 42) rfl) rfl), (jx_t6 (List.mem_of_getElem? (i := 43) rfl) rfl), (jx_t1 (List.mem_of_getElem? (i := 7) rfl) rfl), (jx_t6 (List.mem_of_getElem? (i := 44) rfl) rfl), rfl, ⟨by decide +kernel, by decide +kernel, by decide +kernel⟩⟩
theorem kv_L_142 : jx_kV RL 142 RX6 yX6_count cX6_count 2 (some .int) 1 := ⟨(jx_t6 (List.mem_of_getElem? (i := 45) rfl) rfl), (jx_t6 (List.mem_of_getElem? (i := 46) rfl) rfl), (jx_t6 (List.mem_of_getElem? (i := 47) rfl) rfl), (jx_t1 (List.mem_of_getElem? (i := 7) rfl) rfl), (jx_t6 (List.mem_of_getElem? (i := 48) rfl) rfl), rfl, ⟨by decide +kernel, by decide +kernel, by decide +kernel⟩⟩
theorem km_J1_92 : Cond.methodLink RJ1 92 Lib.Math.max.name ∈ jx_ws ∧ Cond.static Lib.Math.max.name ∈ jx_ws ∧ Cond.initialized "java/lang/Math" ∈ jx_ws ∧ Cond.code Lib.Math.max.name Lib.Math.max.code 2 (some .int) ∈ jx_ws := ⟨(jx_t2 (List.mem_of_getElem? (i := 139) rfl) rfl), (jx_t2 (List.mem_of_getElem? (i := 140) rfl) rfl), (jx_t1 (List.mem_of_getElem? (i := 12) rfl) rfl), (jx_t2 (List.mem_of_getElem? (i := 141) rfl) rfl)⟩
theorem km_J1_38 : Cond.methodLink RJ1 38 Lib.Math.min.name ∈ jx_ws ∧ Cond.static Lib.Math.min.name ∈ jx_ws ∧ Cond.initialized "java/lang/Math" ∈ jx_ws ∧ Cond.code Lib.Math.min.name Lib.Math.min.code 2 (some .int) ∈ jx_ws := ⟨(jx_t2 (List.mem_of_getElem? (i := 142) rfl) rfl), (jx_t2 (List.mem_of_getElem? (i := 143) rfl) rfl), (jx_t1 (List.mem_of_getElem? (i := 12) rfl) rfl), (jx_t2 (List.mem_of_getElem? (i := 144) rfl) rfl)⟩
theorem km_J2_224 : Cond.methodLink RJ2 224 Lib.Math.max.name ∈ jx_ws ∧ Cond.static Lib.Math.max.name ∈ jx_ws ∧ Cond.initialized "java/lang/Math" ∈ jx_ws ∧ Cond.code Lib.Math.max.name Lib.Math.max.code 2 (some .int) ∈ jx_ws := ⟨(jx_t2 (List.mem_of_getElem? (i := 151) rfl) rfl), (jx_t2 (List.mem_of_getElem? (i := 140) rfl) rfl), (jx_t1 (List.mem_of_getElem? (i := 12) rfl) rfl), (jx_t2 (List.mem_of_getElem? (i := 141) rfl) rfl)⟩
theorem km_J2_183 : Cond.methodLink RJ2 183 Lib.Math.min.name ∈ jx_ws ∧ Cond.static Lib.Math.min.name ∈ jx_ws ∧ Cond.initialized "java/lang/Math" ∈ jx_ws ∧ Cond.code Lib.Math.min.name Lib.Math.min.code 2 (some .int) ∈ jx_ws := ⟨(jx_t2 (List.mem_of_getElem? (i := 152) rfl) rfl), (jx_t2 (List.mem_of_getElem? (i := 143) rfl) rfl), (jx_t1 (List.mem_of_getElem? (i := 12) rfl) rfl), (jx_t2 (List.mem_of_getElem? (i := 144) rfl) rfl)⟩
theorem km_J7_304 : Cond.methodLink RJ7 304 Lib.Math.min.name ∈ jx_ws ∧ Cond.static Lib.Math.min.name ∈ jx_ws ∧ Cond.initialized "java/lang/Math" ∈ jx_ws ∧ Cond.code Lib.Math.min.name Lib.Math.min.code 2 (some .int) ∈ jx_ws := ⟨(jx_t2 (List.mem_of_getElem? (i := 239) rfl) rfl), (jx_t2 (List.mem_of_getElem? (i := 143) rfl) rfl), (jx_t1 (List.mem_of_getElem? (i := 12) rfl) rfl), (jx_t2 (List.mem_of_getElem? (i := 144) rfl) rfl)⟩
theorem km_X2_62 : Cond.methodLink RX2 62 Lib.Math.min.name ∈ jx_ws ∧ Cond.static Lib.Math.min.name ∈ jx_ws ∧ Cond.initialized "java/lang/Math" ∈ jx_ws ∧ Cond.code Lib.Math.min.name Lib.Math.min.code 2 (some .int) ∈ jx_ws := ⟨(jx_t3 (List.mem_of_getElem? (i := 108) rfl) rfl), (jx_t2 (List.mem_of_getElem? (i := 143) rfl) rfl), (jx_t1 (List.mem_of_getElem? (i := 12) rfl) rfl), (jx_t2 (List.mem_of_getElem? (i := 144) rfl) rfl)⟩
theorem km_X2_149 : Cond.methodLink RX2 149 Lib.Math.abs.name ∈ jx_ws ∧ Cond.static Lib.Math.abs.name ∈ jx_ws ∧ Cond.initialized "java/lang/Math" ∈ jx_ws ∧ Cond.code Lib.Math.abs.name Lib.Math.abs.code 1 (some .int) ∈ jx_ws := ⟨(jx_t4 (List.mem_of_getElem? (i := 48) rfl) rfl), (jx_t4 (List.mem_of_getElem? (i := 49) rfl) rfl), (jx_t1 (List.mem_of_getElem? (i := 12) rfl) rfl), (jx_t4 (List.mem_of_getElem? (i := 50) rfl) rfl)⟩
theorem km_X0_23 : Cond.methodLink RX0 23 Lib.Math.min.name ∈ jx_ws ∧ Cond.static Lib.Math.min.name ∈ jx_ws ∧ Cond.initialized "java/lang/Math" ∈ jx_ws ∧ Cond.code Lib.Math.min.name Lib.Math.min.code 2 (some .int) ∈ jx_ws := ⟨(jx_t4 (List.mem_of_getElem? (i := 100) rfl) rfl), (jx_t2 (List.mem_of_getElem? (i := 143) rfl) rfl), (jx_t1 (List.mem_of_getElem? (i := 12) rfl) rfl), (jx_t2 (List.mem_of_getElem? (i := 144) rfl) rfl)⟩
theorem km_X1_82 : Cond.methodLink RX1 82 Lib.Math.min.name ∈ jx_ws ∧ Cond.static Lib.Math.min.name ∈ jx_ws ∧ Cond.initialized "java/lang/Math" ∈ jx_ws ∧ Cond.code Lib.Math.min.name Lib.Math.min.code 2 (some .int) ∈ jx_ws := ⟨(jx_t4 (List.mem_of_getElem? (i := 122) rfl) rfl), (jx_t2 (List.mem_of_getElem? (i := 143) rfl) rfl), (jx_t1 (List.mem_of_getElem? (i := 12) rfl) rfl), (jx_t2 (List.mem_of_getElem? (i := 144) rfl) rfl)⟩
end
section
/-! the reference's world: one object, nine arrays; G.2 names the array classes (0, 1), the object (10), the arrays (101 ..); σ 0 its numbers by the field's place, σ i its arrays -/
abbrev jx_G : Type := va_G × (Nat → Nat)
def mm_F (G : jx_G) (σ : jx_M) : List Value := [.int (σ 0 0), .ref (G.2 101), .ref (G.2 102), .int (σ 0 3), .int (σ 0 4), .int (σ 0 5), .int (σ 0 6), .int (σ 0 7), .int (σ 0 8), .ref (G.2 103), .ref (G.2 104), .int (σ 0 11), .int (σ 0 12), .int (σ 0 13), .int (σ 0 14), .ref (G.2 105), .ref (G.2 106), .ref (G.2 107), .ref (G.2 108), .int (σ 0 19), .int (σ 0 20), .ref (G.2 109), .int (σ 0 22), .int (σ 0 23), .int (σ 0 24), .int (σ 0 25)]
def mm_W (G : jx_G) (σ : jx_M) : va_W := [(G.2 10, .inr (6, mm_F G σ)), (G.2 101, .inl (G.2 0, 920, .inl (σ 1))), (G.2 102, .inl (G.2 0, 920, .inl (σ 2))), (G.2 103, .inl (G.2 0, 4, .inl (σ 3))), (G.2 104, .inl (G.2 1, 64, .inl (σ 4))), (G.2 105, .inl (G.2 0, 84, .inl (σ 5))), (G.2 106, .inl (G.2 0, 7, .inl (σ 6))), (G.2 107, .inl (G.2 0, 6, .inl (σ 7))), (G.2 108, .inl (G.2 1, 6, .inl (σ 8))), (G.2 109, .inl (G.2 0, 20, .inl (σ 9)))]
theorem jx_Dmap {A : Nat → Prop} {w w' : va_W} (h : w'.map Prod.fst = w.map Prod.fst) (hD : va_D A w) : va_D A w' := by
  have hg : ∀ (i : Nat) (p : Nat × va_E), w'[i]? = some p → ∃ p', w[i]? = some p' ∧ p'.1 = p.1 := by
    intro i p hp
    have h1 : (w'.map Prod.fst)[i]? = some p.1 := by rw [List.getElem?_map, hp]; rfl
    rw [h, List.getElem?_map] at h1
    cases hw : w[i]? with
    | none => rw [hw] at h1; cases h1
    | some p' => rw [hw] at h1; exact ⟨p', rfl, Option.some.inj h1⟩
  refine ⟨fun i j p q hp hq he => ?_, fun k q hq => ?_⟩
  · obtain ⟨p', h1, h2⟩ := hg i p hp
    obtain ⟨q', h3, h4⟩ := hg j q hq
    exact hD.1 i j p' q' h1 h3 (by rw [h2, h4]; exact he)
  · obtain ⟨q', h1, h2⟩ := hg k q hq
    rw [← h2]
    exact hD.2 k q' h1
def mm_rg (G : jx_G) : Nat → Prop := fun q => ∃ (k : Nat) (e : va_E), (mm_W G (fun _ _ => 0))[k]? = some (q, e)
def mm_dyn (G : jx_G) (σ : jx_M) (H : Heap) : Prop := va_P G.1 vwCl (mm_W G σ) H
/-- what stands outside the worlds and never changes -/
def zs_STARTS (j : Nat) : Int32 := [0, 5, 10, 14].getD j 0
def zs_ABOVE (j : Nat) : Int32 := [-1, 0, 0, 0, 1, 2, 3].getD j 0
def zs_BODIES (j : Nat) : Int32 := [1, 2, 3, 11, 0, 0, 0, 21, 0, 0, 0, 31, 0, 0, 41, 51, 0, 0, 0, 61, 0].getD j 0
def jx_zz (G : jx_G) (k n : Nat) (C nm : String) (f : Nat → Int32) (A : Nat → Prop) (s : State) : Prop := va_Z C nm "[I" (.ref (G.2 k)) A s s.heap ∧ va_T .int (G.2 k) n (fun j => .int (f j)) A s s.heap
theorem jx_sub2 {rg : Nat → Prop} {sz n : Nat} (h : sz ≤ n) : ∀ q, jx_A rg n q → jx_A rg sz q := fun q z => z.elim Or.inl (fun z => Or.inr (Nat.le_trans h z))
def st_lens : List Nat := [20, 4, 3, 5, 5, 4, 6]
def st_byts : List (List Int32) := [[115, 105, 100, 101, 32, 104, 111, 108, 100, 32, 111, 105, 108, 32, 119, 101, 105, 103, 104, 32], [112, 113, 109, 119], [60, 61, 62], [115, 105, 100, 101, 32], [104, 111, 108, 100, 32], [111, 105, 108, 32], [119, 101, 105, 103, 104, 32]]
def st_len (i : Nat) : Nat := st_lens.getD i 0
def st_b (i j : Nat) : Int32 := (st_byts.getD i []).getD j 0
def jx_fv (G : jx_G) : Value := if G.2 950 = 0 then .null else .ref (G.2 951)
def jx_st (G : jx_G) (A : Nat → Prop) (s : State) : Prop := vk_S 7 st_lens st_byts (fun i => G.2 (1000 + i)) (fun i => G.2 (1100 + i)) A s s.heap ∧ va_Z "java/lang/String" "COMPACT_STRINGS" "Z" (.int 1) A s s.heap ∧ va_Z "jdk/internal/util/Preconditions" "SIOOBE_FORMATTER" "Ljava/util/function/BiFunction;" (jx_fv G) A s s.heap ∧ (vk_R RX3 93 "side hold oil weigh " (G.2 1000) s ∧ vk_R RX3 121 "pqmw" (G.2 1001) s ∧ vk_R RX3 130 "<=>" (G.2 1002) s ∧ vk_R RX6 111 "side " (G.2 1003) s ∧ vk_R RX6 93 "pqmw" (G.2 1001) s ∧ vk_R RX6 99 "<=>" (G.2 1002) s ∧ vk_R RX6 117 "hold " (G.2 1004) s ∧ vk_R RX6 119 "oil " (G.2 1005) s ∧ vk_R RX6 124 "weigh " (G.2 1006) s)
theorem jx_st_call {G : jx_G} {A : Nat → Prop} {U : State} {g : JFrame} {mk : MethodId} {a : Array Value} (h : jx_st G A U) : jx_st G A (U.calling g mk a) := by
  obtain ⟨h1, h2, h3, rX3_93, rX3_121, rX3_130, rX6_111, rX6_93, rX6_99, rX6_117, rX6_119, rX6_124⟩ := h
  have hv : (U.calling g mk a).vm = U.vm := rfl
  exact ⟨vk_S.moved (u := U) (U := U.calling g mk a) (Vm.Alike.refl U.vm) h1, va_Z.moved (u := U) (U := U.calling g mk a) (Vm.Alike.refl U.vm) h2, va_Z.moved (u := U) (U := U.calling g mk a) (Vm.Alike.refl U.vm) h3, vk_R.same hv rX3_93, vk_R.same hv rX3_121, vk_R.same hv rX3_130, vk_R.same hv rX6_111, vk_R.same hv rX6_93, vk_R.same hv rX6_99, vk_R.same hv rX6_117, vk_R.same hv rX6_119, vk_R.same hv rX6_124⟩
theorem jx_st_run {G : jx_G} {rg : Nat → Prop} {sz : Nat} {s U : State} {H : Heap} {locs : List Loc} (h : jx_st G (jx_A rg sz) s) (hs : s.heap.size = sz) (hS : va_S (jx_A rg sz) s.heap H locs) (hU : U.heap = H) (hW : s.WarmedH U.vm) : jx_st G (jx_A rg H.size) U := by
  subst hU
  obtain ⟨h1, h2, h3, rX3_93, rX3_121, rX3_130, rX6_111, rX6_93, rX6_99, rX6_117, rX6_119, rX6_124⟩ := h
  have hq : ∀ a : Nat, a < s.heap.size → ¬ jx_A rg sz a → U.heap[a]? = s.heap[a]? := fun a z1 z2 => hS.2.1 a z1 z2
  have hn := jx_sub2 (rg := rg) (show sz ≤ U.heap.size by rw [← hs]; exact hS.1)
  exact ⟨((vk_S.moved hW.alike h1).kept (H1 := U.heap) hq).narrow hn, ((va_Z.moved hW.alike h2).kept (H1 := U.heap) hq).narrow hn, ((va_Z.moved hW.alike h3).kept (H1 := U.heap) hq).narrow hn, vk_R.warm hW rX3_93, vk_R.warm hW rX3_121, vk_R.warm hW rX3_130, vk_R.warm hW rX6_111, vk_R.warm hW rX6_93, vk_R.warm hW rX6_99, vk_R.warm hW rX6_117, vk_R.warm hW rX6_119, vk_R.warm hW rX6_124⟩
def jx_ex (G : jx_G) (A : Nat → Prop) (s : State) : Prop := jx_st G A s ∧ jx_zz G 900 4 "LampVote$Reader" "STARTS" zs_STARTS A s ∧ jx_zz G 901 7 "LampVote$Acts" "ABOVE" zs_ABOVE A s ∧ jx_zz G 902 21 "LampVote$Acts" "BODIES" zs_BODIES A s
theorem jx_zz_call {G : jx_G} {k n : Nat} {C nm : String} {f : Nat → Int32} {A : Nat → Prop} {U : State} {g : JFrame} {mk : MethodId} {a : Array Value} (h : jx_zz G k n C nm f A U) : jx_zz G k n C nm f A (U.calling g mk a) := ⟨va_Z.moved (u := U) (U := U.calling g mk a) (Vm.Alike.refl U.vm) h.1, va_T.moved (u := U) (U := U.calling g mk a) (Vm.Alike.refl U.vm) h.2⟩
theorem jx_zz_run {G : jx_G} {k n : Nat} {C nm : String} {f : Nat → Int32} {rg : Nat → Prop} {sz : Nat} {s U : State} {H : Heap} {locs : List Loc} (h : jx_zz G k n C nm f (jx_A rg sz) s) (hs : s.heap.size = sz) (hS : va_S (jx_A rg sz) s.heap H locs) (hU : U.heap = H) (hvm : s.vm.Alike U.vm) : jx_zz G k n C nm f (jx_A rg H.size) U := by
  subst hU
  exact ⟨((va_Z.moved hvm h.1).kept (H1 := U.heap) (fun a h1 h2 => hS.2.1 a h1 h2)).narrow (jx_sub2 (by rw [← hs]; exact hS.1)), ((va_T.moved hvm h.2).kept (H1 := U.heap) (fun a h1 h2 => hS.2.1 a h1 h2)).narrow (jx_sub2 (by rw [← hs]; exact hS.1))⟩
theorem jx_ex_call {G : jx_G} {A : Nat → Prop} {U : State} {g : JFrame} {mk : MethodId} {a : Array Value} (h : jx_ex G A U) : jx_ex G A (U.calling g mk a) := ⟨jx_st_call h.1, jx_zz_call h.2.1, jx_zz_call h.2.2.1, jx_zz_call h.2.2.2⟩
theorem jx_ex_run {G : jx_G} {rg : Nat → Prop} {sz : Nat} {s U : State} {H : Heap} {locs : List Loc} (hE : jx_ex G (jx_A rg sz) s) (hs : s.heap.size = sz) (hS : va_S (jx_A rg sz) s.heap H locs) (hU : U.heap = H) (hW : s.WarmedH U.vm) : jx_ex G (jx_A rg H.size) U := ⟨jx_st_run hE.1 hs hS hU hW, jx_zz_run hE.2.1 hs hS hU hW.alike, jx_zz_run hE.2.2.1 hs hS hU hW.alike, jx_zz_run hE.2.2.2 hs hS hU hW.alike⟩
def mm_env (G : jx_G) (A : Nat → Prop) (s : State) : Prop := va_K G.1 vwCl [(G.2 0, .int), (G.2 1, .boolean)] s ∧ jx_ex G A s
def mm_ok (G : jx_G) : Prop := va_D (mm_rg G) (mm_W G (fun _ _ => 0))
theorem mm_D {G : jx_G} (h : mm_ok G) (σ : jx_M) (sz : Nat) : va_D (jx_A (mm_rg G) sz) (mm_W G σ) := jx_Dmap (w := mm_W G (fun _ _ => 0)) rfl (va_D.weaken h (fun _ _ _ q => Or.inl q))
theorem mm_jok {G : jx_G} : jx_ok (mm_rg G) (mm_env G) := ⟨fun A U g mk a q => ⟨va_K.moved (u := U) (U := U.calling g mk a) (Vm.Alike.refl U.vm) q.1, jx_ex_call q.2⟩, fun sz s U H locs hs hE hS hU hvm => ⟨va_K.moved hvm.alike hE.1, jx_ex_run hE.2 hs hS hU hvm⟩⟩
theorem mm_rc {G : jx_G} : jx_rc (mm_env G) (mm_dyn G) (mm_rg G) (G.2 10) RX6 := fun _ _ _ _ _ hE hD _ => va_recv hE.1 hD (ci := 6) (q0 := 0) rfl rfl
section MM
variable {l : Launch} {G : jx_G} {sz : Nat} {own nm : String} {cc : ByteArray} {nL : Nat} {ret : Option FieldType} {R : Room} {Qf : List Frame → Array Value → State → State → Prop} {ce sl pc : Nat} {lv : List (Nat × Value)} {rest : List Value} {σ : jx_M}
theorem mm_get {index k : Nat} {v : Value} (hk0 : k < 26) (hw : Cond.fieldLink own index (TX6 k).1 (TX6 k).2.1 (TX6 k).2.2.1 ∈ jx_ws) (hv : (mm_F G σ)[k]? = some v) (d : decode cc pc = .ok (.getfield index, 3)) (kk : jx_J l (mm_env G) (mm_dyn G) (mm_rg G) sz own nm cc nL ret R Qf ce sl (pc + 3) lv (v :: rest) σ) : jx_J l (mm_env G) (mm_dyn G) (mm_rg G) sz own nm cc nL ret R Qf ce sl pc lv (.ref (G.2 10) :: rest) σ := by
  intro p e s m args below meth c C hr hk hn hs hE H locs ls hl hD hS
  exact va_get (D := G.1) (ci := 6) (C := RX6) (T := TX6) (N := 26) C.1 C.2.1 C.2.2.2.2 il_X6 C.2.2.2.1 hE.1 hD 0 rfl rfl k hk0 (C.2.2.2.2 _ hw) (fun _ h => h) hv d (kk p e s m args below meth c C hr hk hn hs hE H locs ls hl hD hS)
theorem mm_put {index k : Nat} {v : Value} {ty : FieldType} {σ2 : jx_M} (hG : mm_ok G) (hk0 : k < 26) (hw : Cond.fieldLink own index (TX6 k).1 (TX6 k).2.1 (TX6 k).2.2.1 ∈ jx_ws) (hfin : (TX6 k).2.2.2 = false) (hd : parseFieldDescriptor (TX6 k).2.2.1 = some ty) (hnr : narrow ty v = v) (hfit : fits ty v = true) (hset : (mm_W G σ).set 0 (G.2 10, .inr (6, (mm_F G σ).set k v)) = mm_W G σ2) (d : decode cc pc = .ok (.putfield index, 3)) (kk : jx_J l (mm_env G) (mm_dyn G) (mm_rg G) sz own nm cc nL ret R Qf ce sl (pc + 3) lv rest σ2) : jx_J l (mm_env G) (mm_dyn G) (mm_rg G) sz own nm cc nL ret R Qf ce sl pc lv (v :: .ref (G.2 10) :: rest) σ := by
  intro p e s m args below meth c C hr hk hn hs hE H locs ls hl hD hS
  refine va_put (D := G.1) (ci := 6) (C := RX6) (T := TX6) (N := 26) C.1 C.2.1 C.2.2.2.2 il_X6 tyX6 tyX6_ok nmX6 C.2.2.2.1 hE.1 hD (mm_D hG σ sz) hS 0 rfl rfl k hk0 (C.2.2.2.2 _ hw) (fun _ h => h) hfin hd hnr hfit hk0 d (fun H1 locs1 hP1 _ hS1 => ?_)
  rw [hset] at hP1
  exact kk p e s m args below meth c C hr hk hn hs hE H1 locs1 ls hl hP1 hS1
theorem mm_g_thrown {index : Nat} (hw : Cond.fieldLink own index "LampVoteModel" "thrown" "I" ∈ jx_ws) (d : decode cc pc = .ok (.getfield index, 3)) (kk : jx_J l (mm_env G) (mm_dyn G) (mm_rg G) sz own nm cc nL ret R Qf ce sl (pc + 3) lv (.int (σ 0 0) :: rest) σ) : jx_J l (mm_env G) (mm_dyn G) (mm_rg G) sz own nm cc nL ret R Qf ce sl pc lv (.ref (G.2 10) :: rest) σ := mm_get (k := 0) (by decide) hw rfl d kk
theorem mm_p_thrown {index : Nat} {v : Int32} {σ2 : jx_M} (hG : mm_ok G) (hw : Cond.fieldLink own index "LampVoteModel" "thrown" "I" ∈ jx_ws) (ev : σ2 = jx_mu σ 0 0 v) (d : decode cc pc = .ok (.putfield index, 3)) (kk : jx_J l (mm_env G) (mm_dyn G) (mm_rg G) sz own nm cc nL ret R Qf ce sl (pc + 3) lv rest σ2) : jx_J l (mm_env G) (mm_dyn G) (mm_rg G) sz own nm cc nL ret R Qf ce sl pc lv (.int v :: .ref (G.2 10) :: rest) σ := mm_put (k := 0) (ty := .int) hG (by decide) hw rfl (by decide +kernel) rfl rfl (by subst ev; rfl) d kk
theorem mm_g_s {index : Nat} (hw : Cond.fieldLink own index "LampVoteModel" "s" "[I" ∈ jx_ws) (d : decode cc pc = .ok (.getfield index, 3)) (kk : jx_J l (mm_env G) (mm_dyn G) (mm_rg G) sz own nm cc nL ret R Qf ce sl (pc + 3) lv (.ref (G.2 101) :: rest) σ) : jx_J l (mm_env G) (mm_dyn G) (mm_rg G) sz own nm cc nL ret R Qf ce sl pc lv (.ref (G.2 10) :: rest) σ := mm_get (k := 1) (by decide) hw rfl d kk
theorem mm_g_image {index : Nat} (hw : Cond.fieldLink own index "LampVoteModel" "image" "[I" ∈ jx_ws) (d : decode cc pc = .ok (.getfield index, 3)) (kk : jx_J l (mm_env G) (mm_dyn G) (mm_rg G) sz own nm cc nL ret R Qf ce sl (pc + 3) lv (.ref (G.2 102) :: rest) σ) : jx_J l (mm_env G) (mm_dyn G) (mm_rg G) sz own nm cc nL ret R Qf ce sl pc lv (.ref (G.2 10) :: rest) σ := mm_get (k := 2) (by decide) hw rfl d kk
theorem mm_g_hasImage {index : Nat} (hw : Cond.fieldLink own index "LampVoteModel" "hasImage" "Z" ∈ jx_ws) (d : decode cc pc = .ok (.getfield index, 3)) (kk : jx_J l (mm_env G) (mm_dyn G) (mm_rg G) sz own nm cc nL ret R Qf ce sl (pc + 3) lv (.int (σ 0 3) :: rest) σ) : jx_J l (mm_env G) (mm_dyn G) (mm_rg G) sz own nm cc nL ret R Qf ce sl pc lv (.ref (G.2 10) :: rest) σ := mm_get (k := 3) (by decide) hw rfl d kk
theorem mm_p_hasImage {index : Nat} {v : Int32} {σ2 : jx_M} (hG : mm_ok G) (hz : v = 0 ∨ v = 1) (hw : Cond.fieldLink own index "LampVoteModel" "hasImage" "Z" ∈ jx_ws) (ev : σ2 = jx_mu σ 0 3 v) (d : decode cc pc = .ok (.putfield index, 3)) (kk : jx_J l (mm_env G) (mm_dyn G) (mm_rg G) sz own nm cc nL ret R Qf ce sl (pc + 3) lv rest σ2) : jx_J l (mm_env G) (mm_dyn G) (mm_rg G) sz own nm cc nL ret R Qf ce sl pc lv (.int v :: .ref (G.2 10) :: rest) σ := mm_put (k := 3) (ty := .boolean) hG (by decide) hw rfl (by decide +kernel) (jx_nar hz) (jx_fit hz) (by subst ev; rfl) d kk
theorem mm_g_act {index : Nat} (hw : Cond.fieldLink own index "LampVoteModel" "act" "I" ∈ jx_ws) (d : decode cc pc = .ok (.getfield index, 3)) (kk : jx_J l (mm_env G) (mm_dyn G) (mm_rg G) sz own nm cc nL ret R Qf ce sl (pc + 3) lv (.int (σ 0 4) :: rest) σ) : jx_J l (mm_env G) (mm_dyn G) (mm_rg G) sz own nm cc nL ret R Qf ce sl pc lv (.ref (G.2 10) :: rest) σ := mm_get (k := 4) (by decide) hw rfl d kk
theorem mm_p_act {index : Nat} {v : Int32} {σ2 : jx_M} (hG : mm_ok G) (hw : Cond.fieldLink own index "LampVoteModel" "act" "I" ∈ jx_ws) (ev : σ2 = jx_mu σ 0 4 v) (d : decode cc pc = .ok (.putfield index, 3)) (kk : jx_J l (mm_env G) (mm_dyn G) (mm_rg G) sz own nm cc nL ret R Qf ce sl (pc + 3) lv rest σ2) : jx_J l (mm_env G) (mm_dyn G) (mm_rg G) sz own nm cc nL ret R Qf ce sl pc lv (.int v :: .ref (G.2 10) :: rest) σ := mm_put (k := 4) (ty := .int) hG (by decide) hw rfl (by decide +kernel) rfl rfl (by subst ev; rfl) d kk
theorem mm_g_spot {index : Nat} (hw : Cond.fieldLink own index "LampVoteModel" "spot" "I" ∈ jx_ws) (d : decode cc pc = .ok (.getfield index, 3)) (kk : jx_J l (mm_env G) (mm_dyn G) (mm_rg G) sz own nm cc nL ret R Qf ce sl (pc + 3) lv (.int (σ 0 5) :: rest) σ) : jx_J l (mm_env G) (mm_dyn G) (mm_rg G) sz own nm cc nL ret R Qf ce sl pc lv (.ref (G.2 10) :: rest) σ := mm_get (k := 5) (by decide) hw rfl d kk
theorem mm_p_spot {index : Nat} {v : Int32} {σ2 : jx_M} (hG : mm_ok G) (hw : Cond.fieldLink own index "LampVoteModel" "spot" "I" ∈ jx_ws) (ev : σ2 = jx_mu σ 0 5 v) (d : decode cc pc = .ok (.putfield index, 3)) (kk : jx_J l (mm_env G) (mm_dyn G) (mm_rg G) sz own nm cc nL ret R Qf ce sl (pc + 3) lv rest σ2) : jx_J l (mm_env G) (mm_dyn G) (mm_rg G) sz own nm cc nL ret R Qf ce sl pc lv (.int v :: .ref (G.2 10) :: rest) σ := mm_put (k := 5) (ty := .int) hG (by decide) hw rfl (by decide +kernel) rfl rfl (by subst ev; rfl) d kk
theorem mm_g_end {index : Nat} (hw : Cond.fieldLink own index "LampVoteModel" "end" "I" ∈ jx_ws) (d : decode cc pc = .ok (.getfield index, 3)) (kk : jx_J l (mm_env G) (mm_dyn G) (mm_rg G) sz own nm cc nL ret R Qf ce sl (pc + 3) lv (.int (σ 0 6) :: rest) σ) : jx_J l (mm_env G) (mm_dyn G) (mm_rg G) sz own nm cc nL ret R Qf ce sl pc lv (.ref (G.2 10) :: rest) σ := mm_get (k := 6) (by decide) hw rfl d kk
theorem mm_p_end {index : Nat} {v : Int32} {σ2 : jx_M} (hG : mm_ok G) (hw : Cond.fieldLink own index "LampVoteModel" "end" "I" ∈ jx_ws) (ev : σ2 = jx_mu σ 0 6 v) (d : decode cc pc = .ok (.putfield index, 3)) (kk : jx_J l (mm_env G) (mm_dyn G) (mm_rg G) sz own nm cc nL ret R Qf ce sl (pc + 3) lv rest σ2) : jx_J l (mm_env G) (mm_dyn G) (mm_rg G) sz own nm cc nL ret R Qf ce sl pc lv (.int v :: .ref (G.2 10) :: rest) σ := mm_put (k := 6) (ty := .int) hG (by decide) hw rfl (by decide +kernel) rfl rfl (by subst ev; rfl) d kk
theorem mm_g_isWrong {index : Nat} (hw : Cond.fieldLink own index "LampVoteModel" "isWrong" "Z" ∈ jx_ws) (d : decode cc pc = .ok (.getfield index, 3)) (kk : jx_J l (mm_env G) (mm_dyn G) (mm_rg G) sz own nm cc nL ret R Qf ce sl (pc + 3) lv (.int (σ 0 7) :: rest) σ) : jx_J l (mm_env G) (mm_dyn G) (mm_rg G) sz own nm cc nL ret R Qf ce sl pc lv (.ref (G.2 10) :: rest) σ := mm_get (k := 7) (by decide) hw rfl d kk
theorem mm_p_isWrong {index : Nat} {v : Int32} {σ2 : jx_M} (hG : mm_ok G) (hz : v = 0 ∨ v = 1) (hw : Cond.fieldLink own index "LampVoteModel" "isWrong" "Z" ∈ jx_ws) (ev : σ2 = jx_mu σ 0 7 v) (d : decode cc pc = .ok (.putfield index, 3)) (kk : jx_J l (mm_env G) (mm_dyn G) (mm_rg G) sz own nm cc nL ret R Qf ce sl (pc + 3) lv rest σ2) : jx_J l (mm_env G) (mm_dyn G) (mm_rg G) sz own nm cc nL ret R Qf ce sl pc lv (.int v :: .ref (G.2 10) :: rest) σ := mm_put (k := 7) (ty := .boolean) hG (by decide) hw rfl (by decide +kernel) (jx_nar hz) (jx_fit hz) (by subst ev; rfl) d kk
theorem mm_g_open {index : Nat} (hw : Cond.fieldLink own index "LampVoteModel" "open" "I" ∈ jx_ws) (d : decode cc pc = .ok (.getfield index, 3)) (kk : jx_J l (mm_env G) (mm_dyn G) (mm_rg G) sz own nm cc nL ret R Qf ce sl (pc + 3) lv (.int (σ 0 8) :: rest) σ) : jx_J l (mm_env G) (mm_dyn G) (mm_rg G) sz own nm cc nL ret R Qf ce sl pc lv (.ref (G.2 10) :: rest) σ := mm_get (k := 8) (by decide) hw rfl d kk
theorem mm_p_open {index : Nat} {v : Int32} {σ2 : jx_M} (hG : mm_ok G) (hw : Cond.fieldLink own index "LampVoteModel" "open" "I" ∈ jx_ws) (ev : σ2 = jx_mu σ 0 8 v) (d : decode cc pc = .ok (.putfield index, 3)) (kk : jx_J l (mm_env G) (mm_dyn G) (mm_rg G) sz own nm cc nL ret R Qf ce sl (pc + 3) lv rest σ2) : jx_J l (mm_env G) (mm_dyn G) (mm_rg G) sz own nm cc nL ret R Qf ce sl pc lv (.int v :: .ref (G.2 10) :: rest) σ := mm_put (k := 8) (ty := .int) hG (by decide) hw rfl (by decide +kernel) rfl rfl (by subst ev; rfl) d kk
theorem mm_g_by {index : Nat} (hw : Cond.fieldLink own index "LampVoteModel" "by" "[I" ∈ jx_ws) (d : decode cc pc = .ok (.getfield index, 3)) (kk : jx_J l (mm_env G) (mm_dyn G) (mm_rg G) sz own nm cc nL ret R Qf ce sl (pc + 3) lv (.ref (G.2 103) :: rest) σ) : jx_J l (mm_env G) (mm_dyn G) (mm_rg G) sz own nm cc nL ret R Qf ce sl pc lv (.ref (G.2 10) :: rest) σ := mm_get (k := 9) (by decide) hw rfl d kk
theorem mm_g_truths {index : Nat} (hw : Cond.fieldLink own index "LampVoteModel" "truths" "[Z" ∈ jx_ws) (d : decode cc pc = .ok (.getfield index, 3)) (kk : jx_J l (mm_env G) (mm_dyn G) (mm_rg G) sz own nm cc nL ret R Qf ce sl (pc + 3) lv (.ref (G.2 104) :: rest) σ) : jx_J l (mm_env G) (mm_dyn G) (mm_rg G) sz own nm cc nL ret R Qf ce sl pc lv (.ref (G.2 10) :: rest) σ := mm_get (k := 10) (by decide) hw rfl d kk
theorem mm_g_isSide {index : Nat} (hw : Cond.fieldLink own index "LampVoteModel" "isSide" "Z" ∈ jx_ws) (d : decode cc pc = .ok (.getfield index, 3)) (kk : jx_J l (mm_env G) (mm_dyn G) (mm_rg G) sz own nm cc nL ret R Qf ce sl (pc + 3) lv (.int (σ 0 11) :: rest) σ) : jx_J l (mm_env G) (mm_dyn G) (mm_rg G) sz own nm cc nL ret R Qf ce sl pc lv (.ref (G.2 10) :: rest) σ := mm_get (k := 11) (by decide) hw rfl d kk
theorem mm_p_isSide {index : Nat} {v : Int32} {σ2 : jx_M} (hG : mm_ok G) (hz : v = 0 ∨ v = 1) (hw : Cond.fieldLink own index "LampVoteModel" "isSide" "Z" ∈ jx_ws) (ev : σ2 = jx_mu σ 0 11 v) (d : decode cc pc = .ok (.putfield index, 3)) (kk : jx_J l (mm_env G) (mm_dyn G) (mm_rg G) sz own nm cc nL ret R Qf ce sl (pc + 3) lv rest σ2) : jx_J l (mm_env G) (mm_dyn G) (mm_rg G) sz own nm cc nL ret R Qf ce sl pc lv (.int v :: .ref (G.2 10) :: rest) σ := mm_put (k := 11) (ty := .boolean) hG (by decide) hw rfl (by decide +kernel) (jx_nar hz) (jx_fit hz) (by subst ev; rfl) d kk
theorem mm_g_isHeld {index : Nat} (hw : Cond.fieldLink own index "LampVoteModel" "isHeld" "Z" ∈ jx_ws) (d : decode cc pc = .ok (.getfield index, 3)) (kk : jx_J l (mm_env G) (mm_dyn G) (mm_rg G) sz own nm cc nL ret R Qf ce sl (pc + 3) lv (.int (σ 0 12) :: rest) σ) : jx_J l (mm_env G) (mm_dyn G) (mm_rg G) sz own nm cc nL ret R Qf ce sl pc lv (.ref (G.2 10) :: rest) σ := mm_get (k := 12) (by decide) hw rfl d kk
theorem mm_p_isHeld {index : Nat} {v : Int32} {σ2 : jx_M} (hG : mm_ok G) (hz : v = 0 ∨ v = 1) (hw : Cond.fieldLink own index "LampVoteModel" "isHeld" "Z" ∈ jx_ws) (ev : σ2 = jx_mu σ 0 12 v) (d : decode cc pc = .ok (.putfield index, 3)) (kk : jx_J l (mm_env G) (mm_dyn G) (mm_rg G) sz own nm cc nL ret R Qf ce sl (pc + 3) lv rest σ2) : jx_J l (mm_env G) (mm_dyn G) (mm_rg G) sz own nm cc nL ret R Qf ce sl pc lv (.int v :: .ref (G.2 10) :: rest) σ := mm_put (k := 12) (ty := .boolean) hG (by decide) hw rfl (by decide +kernel) (jx_nar hz) (jx_fit hz) (by subst ev; rfl) d kk
theorem mm_g_oiled {index : Nat} (hw : Cond.fieldLink own index "LampVoteModel" "oiled" "I" ∈ jx_ws) (d : decode cc pc = .ok (.getfield index, 3)) (kk : jx_J l (mm_env G) (mm_dyn G) (mm_rg G) sz own nm cc nL ret R Qf ce sl (pc + 3) lv (.int (σ 0 13) :: rest) σ) : jx_J l (mm_env G) (mm_dyn G) (mm_rg G) sz own nm cc nL ret R Qf ce sl pc lv (.ref (G.2 10) :: rest) σ := mm_get (k := 13) (by decide) hw rfl d kk
theorem mm_p_oiled {index : Nat} {v : Int32} {σ2 : jx_M} (hG : mm_ok G) (hw : Cond.fieldLink own index "LampVoteModel" "oiled" "I" ∈ jx_ws) (ev : σ2 = jx_mu σ 0 13 v) (d : decode cc pc = .ok (.putfield index, 3)) (kk : jx_J l (mm_env G) (mm_dyn G) (mm_rg G) sz own nm cc nL ret R Qf ce sl (pc + 3) lv rest σ2) : jx_J l (mm_env G) (mm_dyn G) (mm_rg G) sz own nm cc nL ret R Qf ce sl pc lv (.int v :: .ref (G.2 10) :: rest) σ := mm_put (k := 13) (ty := .int) hG (by decide) hw rfl (by decide +kernel) rfl rfl (by subst ev; rfl) d kk
theorem mm_g_weighed {index : Nat} (hw : Cond.fieldLink own index "LampVoteModel" "weighed" "I" ∈ jx_ws) (d : decode cc pc = .ok (.getfield index, 3)) (kk : jx_J l (mm_env G) (mm_dyn G) (mm_rg G) sz own nm cc nL ret R Qf ce sl (pc + 3) lv (.int (σ 0 14) :: rest) σ) : jx_J l (mm_env G) (mm_dyn G) (mm_rg G) sz own nm cc nL ret R Qf ce sl pc lv (.ref (G.2 10) :: rest) σ := mm_get (k := 14) (by decide) hw rfl d kk
theorem mm_p_weighed {index : Nat} {v : Int32} {σ2 : jx_M} (hG : mm_ok G) (hw : Cond.fieldLink own index "LampVoteModel" "weighed" "I" ∈ jx_ws) (ev : σ2 = jx_mu σ 0 14 v) (d : decode cc pc = .ok (.putfield index, 3)) (kk : jx_J l (mm_env G) (mm_dyn G) (mm_rg G) sz own nm cc nL ret R Qf ce sl (pc + 3) lv rest σ2) : jx_J l (mm_env G) (mm_dyn G) (mm_rg G) sz own nm cc nL ret R Qf ce sl pc lv (.int v :: .ref (G.2 10) :: rest) σ := mm_put (k := 14) (ty := .int) hG (by decide) hw rfl (by decide +kernel) rfl rfl (by subst ev; rfl) d kk
theorem mm_g_going {index : Nat} (hw : Cond.fieldLink own index "LampVoteModel" "going" "[I" ∈ jx_ws) (d : decode cc pc = .ok (.getfield index, 3)) (kk : jx_J l (mm_env G) (mm_dyn G) (mm_rg G) sz own nm cc nL ret R Qf ce sl (pc + 3) lv (.ref (G.2 105) :: rest) σ) : jx_J l (mm_env G) (mm_dyn G) (mm_rg G) sz own nm cc nL ret R Qf ce sl pc lv (.ref (G.2 10) :: rest) σ := mm_get (k := 15) (by decide) hw rfl d kk
theorem mm_g_weights {index : Nat} (hw : Cond.fieldLink own index "LampVoteModel" "weights" "[I" ∈ jx_ws) (d : decode cc pc = .ok (.getfield index, 3)) (kk : jx_J l (mm_env G) (mm_dyn G) (mm_rg G) sz own nm cc nL ret R Qf ce sl (pc + 3) lv (.ref (G.2 106) :: rest) σ) : jx_J l (mm_env G) (mm_dyn G) (mm_rg G) sz own nm cc nL ret R Qf ce sl pc lv (.ref (G.2 10) :: rest) σ := mm_get (k := 16) (by decide) hw rfl d kk
theorem mm_g_lying {index : Nat} (hw : Cond.fieldLink own index "LampVoteModel" "lying" "[I" ∈ jx_ws) (d : decode cc pc = .ok (.getfield index, 3)) (kk : jx_J l (mm_env G) (mm_dyn G) (mm_rg G) sz own nm cc nL ret R Qf ce sl (pc + 3) lv (.ref (G.2 107) :: rest) σ) : jx_J l (mm_env G) (mm_dyn G) (mm_rg G) sz own nm cc nL ret R Qf ce sl pc lv (.ref (G.2 10) :: rest) σ := mm_get (k := 17) (by decide) hw rfl d kk
theorem mm_g_counts {index : Nat} (hw : Cond.fieldLink own index "LampVoteModel" "counts" "[Z" ∈ jx_ws) (d : decode cc pc = .ok (.getfield index, 3)) (kk : jx_J l (mm_env G) (mm_dyn G) (mm_rg G) sz own nm cc nL ret R Qf ce sl (pc + 3) lv (.ref (G.2 108) :: rest) σ) : jx_J l (mm_env G) (mm_dyn G) (mm_rg G) sz own nm cc nL ret R Qf ce sl pc lv (.ref (G.2 10) :: rest) σ := mm_get (k := 18) (by decide) hw rfl d kk
theorem mm_g_bestPlace {index : Nat} (hw : Cond.fieldLink own index "LampVoteModel" "bestPlace" "I" ∈ jx_ws) (d : decode cc pc = .ok (.getfield index, 3)) (kk : jx_J l (mm_env G) (mm_dyn G) (mm_rg G) sz own nm cc nL ret R Qf ce sl (pc + 3) lv (.int (σ 0 19) :: rest) σ) : jx_J l (mm_env G) (mm_dyn G) (mm_rg G) sz own nm cc nL ret R Qf ce sl pc lv (.ref (G.2 10) :: rest) σ := mm_get (k := 19) (by decide) hw rfl d kk
theorem mm_p_bestPlace {index : Nat} {v : Int32} {σ2 : jx_M} (hG : mm_ok G) (hw : Cond.fieldLink own index "LampVoteModel" "bestPlace" "I" ∈ jx_ws) (ev : σ2 = jx_mu σ 0 19 v) (d : decode cc pc = .ok (.putfield index, 3)) (kk : jx_J l (mm_env G) (mm_dyn G) (mm_rg G) sz own nm cc nL ret R Qf ce sl (pc + 3) lv rest σ2) : jx_J l (mm_env G) (mm_dyn G) (mm_rg G) sz own nm cc nL ret R Qf ce sl pc lv (.int v :: .ref (G.2 10) :: rest) σ := mm_put (k := 19) (ty := .int) hG (by decide) hw rfl (by decide +kernel) rfl rfl (by subst ev; rfl) d kk
theorem mm_g_bestMore {index : Nat} (hw : Cond.fieldLink own index "LampVoteModel" "bestMore" "I" ∈ jx_ws) (d : decode cc pc = .ok (.getfield index, 3)) (kk : jx_J l (mm_env G) (mm_dyn G) (mm_rg G) sz own nm cc nL ret R Qf ce sl (pc + 3) lv (.int (σ 0 20) :: rest) σ) : jx_J l (mm_env G) (mm_dyn G) (mm_rg G) sz own nm cc nL ret R Qf ce sl pc lv (.ref (G.2 10) :: rest) σ := mm_get (k := 20) (by decide) hw rfl d kk
theorem mm_p_bestMore {index : Nat} {v : Int32} {σ2 : jx_M} (hG : mm_ok G) (hw : Cond.fieldLink own index "LampVoteModel" "bestMore" "I" ∈ jx_ws) (ev : σ2 = jx_mu σ 0 20 v) (d : decode cc pc = .ok (.putfield index, 3)) (kk : jx_J l (mm_env G) (mm_dyn G) (mm_rg G) sz own nm cc nL ret R Qf ce sl (pc + 3) lv rest σ2) : jx_J l (mm_env G) (mm_dyn G) (mm_rg G) sz own nm cc nL ret R Qf ce sl pc lv (.int v :: .ref (G.2 10) :: rest) σ := mm_put (k := 20) (ty := .int) hG (by decide) hw rfl (by decide +kernel) rfl rfl (by subst ev; rfl) d kk
theorem mm_g_bodies {index : Nat} (hw : Cond.fieldLink own index "LampVoteModel" "bodies" "[I" ∈ jx_ws) (d : decode cc pc = .ok (.getfield index, 3)) (kk : jx_J l (mm_env G) (mm_dyn G) (mm_rg G) sz own nm cc nL ret R Qf ce sl (pc + 3) lv (.ref (G.2 109) :: rest) σ) : jx_J l (mm_env G) (mm_dyn G) (mm_rg G) sz own nm cc nL ret R Qf ce sl pc lv (.ref (G.2 10) :: rest) σ := mm_get (k := 21) (by decide) hw rfl d kk
theorem mm_g_ran {index : Nat} (hw : Cond.fieldLink own index "LampVoteModel" "ran" "I" ∈ jx_ws) (d : decode cc pc = .ok (.getfield index, 3)) (kk : jx_J l (mm_env G) (mm_dyn G) (mm_rg G) sz own nm cc nL ret R Qf ce sl (pc + 3) lv (.int (σ 0 22) :: rest) σ) : jx_J l (mm_env G) (mm_dyn G) (mm_rg G) sz own nm cc nL ret R Qf ce sl pc lv (.ref (G.2 10) :: rest) σ := mm_get (k := 22) (by decide) hw rfl d kk
theorem mm_p_ran {index : Nat} {v : Int32} {σ2 : jx_M} (hG : mm_ok G) (hw : Cond.fieldLink own index "LampVoteModel" "ran" "I" ∈ jx_ws) (ev : σ2 = jx_mu σ 0 22 v) (d : decode cc pc = .ok (.putfield index, 3)) (kk : jx_J l (mm_env G) (mm_dyn G) (mm_rg G) sz own nm cc nL ret R Qf ce sl (pc + 3) lv rest σ2) : jx_J l (mm_env G) (mm_dyn G) (mm_rg G) sz own nm cc nL ret R Qf ce sl pc lv (.int v :: .ref (G.2 10) :: rest) σ := mm_put (k := 22) (ty := .int) hG (by decide) hw rfl (by decide +kernel) rfl rfl (by subst ev; rfl) d kk
theorem mm_g_kind {index : Nat} (hw : Cond.fieldLink own index "LampVoteModel" "kind" "I" ∈ jx_ws) (d : decode cc pc = .ok (.getfield index, 3)) (kk : jx_J l (mm_env G) (mm_dyn G) (mm_rg G) sz own nm cc nL ret R Qf ce sl (pc + 3) lv (.int (σ 0 23) :: rest) σ) : jx_J l (mm_env G) (mm_dyn G) (mm_rg G) sz own nm cc nL ret R Qf ce sl pc lv (.ref (G.2 10) :: rest) σ := mm_get (k := 23) (by decide) hw rfl d kk
theorem mm_p_kind {index : Nat} {v : Int32} {σ2 : jx_M} (hG : mm_ok G) (hw : Cond.fieldLink own index "LampVoteModel" "kind" "I" ∈ jx_ws) (ev : σ2 = jx_mu σ 0 23 v) (d : decode cc pc = .ok (.putfield index, 3)) (kk : jx_J l (mm_env G) (mm_dyn G) (mm_rg G) sz own nm cc nL ret R Qf ce sl (pc + 3) lv rest σ2) : jx_J l (mm_env G) (mm_dyn G) (mm_rg G) sz own nm cc nL ret R Qf ce sl pc lv (.int v :: .ref (G.2 10) :: rest) σ := mm_put (k := 23) (ty := .int) hG (by decide) hw rfl (by decide +kernel) rfl rfl (by subst ev; rfl) d kk
theorem mm_g_number {index : Nat} (hw : Cond.fieldLink own index "LampVoteModel" "number" "I" ∈ jx_ws) (d : decode cc pc = .ok (.getfield index, 3)) (kk : jx_J l (mm_env G) (mm_dyn G) (mm_rg G) sz own nm cc nL ret R Qf ce sl (pc + 3) lv (.int (σ 0 24) :: rest) σ) : jx_J l (mm_env G) (mm_dyn G) (mm_rg G) sz own nm cc nL ret R Qf ce sl pc lv (.ref (G.2 10) :: rest) σ := mm_get (k := 24) (by decide) hw rfl d kk
theorem mm_p_number {index : Nat} {v : Int32} {σ2 : jx_M} (hG : mm_ok G) (hw : Cond.fieldLink own index "LampVoteModel" "number" "I" ∈ jx_ws) (ev : σ2 = jx_mu σ 0 24 v) (d : decode cc pc = .ok (.putfield index, 3)) (kk : jx_J l (mm_env G) (mm_dyn G) (mm_rg G) sz own nm cc nL ret R Qf ce sl (pc + 3) lv rest σ2) : jx_J l (mm_env G) (mm_dyn G) (mm_rg G) sz own nm cc nL ret R Qf ce sl pc lv (.int v :: .ref (G.2 10) :: rest) σ := mm_put (k := 24) (ty := .int) hG (by decide) hw rfl (by decide +kernel) rfl rfl (by subst ev; rfl) d kk
theorem mm_g_tellsV {index : Nat} (hw : Cond.fieldLink own index "LampVoteModel" "tellsV" "I" ∈ jx_ws) (d : decode cc pc = .ok (.getfield index, 3)) (kk : jx_J l (mm_env G) (mm_dyn G) (mm_rg G) sz own nm cc nL ret R Qf ce sl (pc + 3) lv (.int (σ 0 25) :: rest) σ) : jx_J l (mm_env G) (mm_dyn G) (mm_rg G) sz own nm cc nL ret R Qf ce sl pc lv (.ref (G.2 10) :: rest) σ := mm_get (k := 25) (by decide) hw rfl d kk
theorem mm_p_tellsV {index : Nat} {v : Int32} {σ2 : jx_M} (hG : mm_ok G) (hw : Cond.fieldLink own index "LampVoteModel" "tellsV" "I" ∈ jx_ws) (ev : σ2 = jx_mu σ 0 25 v) (d : decode cc pc = .ok (.putfield index, 3)) (kk : jx_J l (mm_env G) (mm_dyn G) (mm_rg G) sz own nm cc nL ret R Qf ce sl (pc + 3) lv rest σ2) : jx_J l (mm_env G) (mm_dyn G) (mm_rg G) sz own nm cc nL ret R Qf ce sl pc lv (.int v :: .ref (G.2 10) :: rest) σ := mm_put (k := 25) (ty := .int) hG (by decide) hw rfl (by decide +kernel) rfl rfl (by subst ev; rfl) d kk
theorem mm_l_s {i : Int32} {j : Nat} (hin : vp_in i 920) (hj : i.toNatClampNeg = j) (d : decode cc pc = .ok (.iaload, 1)) (kk : jx_J l (mm_env G) (mm_dyn G) (mm_rg G) sz own nm cc nL ret R Qf ce sl (pc + 1) lv (.int (σ 1 j) :: rest) σ) : jx_J l (mm_env G) (mm_dyn G) (mm_rg G) sz own nm cc nL ret R Qf ce sl pc lv (.int i :: .ref (G.2 101) :: rest) σ := by
  subst hj
  intro p e s m args below meth c C hr hk hn hs hE H locs ls hl hD hS
  exact va_iald C.1 C.2.1 hE.1 hD 1 0 rfl rfl hin d (kk p e s m args below meth c C hr hk hn hs hE H locs ls hl hD hS)
theorem mm_s_s {i v : Int32} {j : Nat} {σ2 : jx_M} (hG : mm_ok G) (hin : vp_in i 920) (hj : i.toNatClampNeg = j) (ev : σ2 = jx_mu σ 1 j v) (d : decode cc pc = .ok (.iastore, 1)) (kk : jx_J l (mm_env G) (mm_dyn G) (mm_rg G) sz own nm cc nL ret R Qf ce sl (pc + 1) lv rest σ2) : jx_J l (mm_env G) (mm_dyn G) (mm_rg G) sz own nm cc nL ret R Qf ce sl pc lv (.int v :: .int i :: .ref (G.2 101) :: rest) σ := by
  subst hj
  subst ev
  intro p e s m args below meth c C hr hk hn hs hE H locs ls hl hD hS
  exact va_iast C.1 C.2.1 hE.1 hD (mm_D hG σ sz) hS 1 0 rfl rfl hin d (fun H1 locs1 hP1 _ hS1 => kk p e s m args below meth c C hr hk hn hs hE H1 locs1 ls hl hP1 hS1)
theorem mm_l_image {i : Int32} {j : Nat} (hin : vp_in i 920) (hj : i.toNatClampNeg = j) (d : decode cc pc = .ok (.iaload, 1)) (kk : jx_J l (mm_env G) (mm_dyn G) (mm_rg G) sz own nm cc nL ret R Qf ce sl (pc + 1) lv (.int (σ 2 j) :: rest) σ) : jx_J l (mm_env G) (mm_dyn G) (mm_rg G) sz own nm cc nL ret R Qf ce sl pc lv (.int i :: .ref (G.2 102) :: rest) σ := by
  subst hj
  intro p e s m args below meth c C hr hk hn hs hE H locs ls hl hD hS
  exact va_iald C.1 C.2.1 hE.1 hD 2 0 rfl rfl hin d (kk p e s m args below meth c C hr hk hn hs hE H locs ls hl hD hS)
theorem mm_s_image {i v : Int32} {j : Nat} {σ2 : jx_M} (hG : mm_ok G) (hin : vp_in i 920) (hj : i.toNatClampNeg = j) (ev : σ2 = jx_mu σ 2 j v) (d : decode cc pc = .ok (.iastore, 1)) (kk : jx_J l (mm_env G) (mm_dyn G) (mm_rg G) sz own nm cc nL ret R Qf ce sl (pc + 1) lv rest σ2) : jx_J l (mm_env G) (mm_dyn G) (mm_rg G) sz own nm cc nL ret R Qf ce sl pc lv (.int v :: .int i :: .ref (G.2 102) :: rest) σ := by
  subst hj
  subst ev
  intro p e s m args below meth c C hr hk hn hs hE H locs ls hl hD hS
  exact va_iast C.1 C.2.1 hE.1 hD (mm_D hG σ sz) hS 2 0 rfl rfl hin d (fun H1 locs1 hP1 _ hS1 => kk p e s m args below meth c C hr hk hn hs hE H1 locs1 ls hl hP1 hS1)
theorem mm_l_by {i : Int32} {j : Nat} (hin : vp_in i 4) (hj : i.toNatClampNeg = j) (d : decode cc pc = .ok (.iaload, 1)) (kk : jx_J l (mm_env G) (mm_dyn G) (mm_rg G) sz own nm cc nL ret R Qf ce sl (pc + 1) lv (.int (σ 3 j) :: rest) σ) : jx_J l (mm_env G) (mm_dyn G) (mm_rg G) sz own nm cc nL ret R Qf ce sl pc lv (.int i :: .ref (G.2 103) :: rest) σ := by
  subst hj
  intro p e s m args below meth c C hr hk hn hs hE H locs ls hl hD hS
  exact va_iald C.1 C.2.1 hE.1 hD 3 0 rfl rfl hin d (kk p e s m args below meth c C hr hk hn hs hE H locs ls hl hD hS)
theorem mm_s_by {i v : Int32} {j : Nat} {σ2 : jx_M} (hG : mm_ok G) (hin : vp_in i 4) (hj : i.toNatClampNeg = j) (ev : σ2 = jx_mu σ 3 j v) (d : decode cc pc = .ok (.iastore, 1)) (kk : jx_J l (mm_env G) (mm_dyn G) (mm_rg G) sz own nm cc nL ret R Qf ce sl (pc + 1) lv rest σ2) : jx_J l (mm_env G) (mm_dyn G) (mm_rg G) sz own nm cc nL ret R Qf ce sl pc lv (.int v :: .int i :: .ref (G.2 103) :: rest) σ := by
  subst hj
  subst ev
  intro p e s m args below meth c C hr hk hn hs hE H locs ls hl hD hS
  exact va_iast C.1 C.2.1 hE.1 hD (mm_D hG σ sz) hS 3 0 rfl rfl hin d (fun H1 locs1 hP1 _ hS1 => kk p e s m args below meth c C hr hk hn hs hE H1 locs1 ls hl hP1 hS1)
theorem mm_l_truths {i : Int32} {j : Nat} (hin : vp_in i 64) (hj : i.toNatClampNeg = j) (d : decode cc pc = .ok (.baload, 1)) (kk : jx_J l (mm_env G) (mm_dyn G) (mm_rg G) sz own nm cc nL ret R Qf ce sl (pc + 1) lv (.int (σ 4 j) :: rest) σ) : jx_J l (mm_env G) (mm_dyn G) (mm_rg G) sz own nm cc nL ret R Qf ce sl pc lv (.int i :: .ref (G.2 104) :: rest) σ := by
  subst hj
  intro p e s m args below meth c C hr hk hn hs hE H locs ls hl hD hS
  exact va_zald C.1 C.2.1 hE.1 hD 4 1 rfl rfl hin d (kk p e s m args below meth c C hr hk hn hs hE H locs ls hl hD hS)
theorem mm_s_truths {i v : Int32} {j : Nat} {σ2 : jx_M} (hG : mm_ok G) (hz : v = 0 ∨ v = 1) (hin : vp_in i 64) (hj : i.toNatClampNeg = j) (ev : σ2 = jx_mu σ 4 j v) (d : decode cc pc = .ok (.bastore, 1)) (kk : jx_J l (mm_env G) (mm_dyn G) (mm_rg G) sz own nm cc nL ret R Qf ce sl (pc + 1) lv rest σ2) : jx_J l (mm_env G) (mm_dyn G) (mm_rg G) sz own nm cc nL ret R Qf ce sl pc lv (.int v :: .int i :: .ref (G.2 104) :: rest) σ := by
  subst hj
  subst ev
  intro p e s m args below meth c C hr hk hn hs hE H locs ls hl hD hS
  exact va_zast C.1 C.2.1 hE.1 hD (mm_D hG σ sz) hS 4 1 rfl rfl hin d (fun H1 locs1 hP1 _ hS1 => by rw [show vp_nar .boolean v = v from jx_nbv hz] at hP1; exact kk p e s m args below meth c C hr hk hn hs hE H1 locs1 ls hl hP1 hS1)
theorem mm_l_going {i : Int32} {j : Nat} (hin : vp_in i 84) (hj : i.toNatClampNeg = j) (d : decode cc pc = .ok (.iaload, 1)) (kk : jx_J l (mm_env G) (mm_dyn G) (mm_rg G) sz own nm cc nL ret R Qf ce sl (pc + 1) lv (.int (σ 5 j) :: rest) σ) : jx_J l (mm_env G) (mm_dyn G) (mm_rg G) sz own nm cc nL ret R Qf ce sl pc lv (.int i :: .ref (G.2 105) :: rest) σ := by
  subst hj
  intro p e s m args below meth c C hr hk hn hs hE H locs ls hl hD hS
  exact va_iald C.1 C.2.1 hE.1 hD 5 0 rfl rfl hin d (kk p e s m args below meth c C hr hk hn hs hE H locs ls hl hD hS)
theorem mm_s_going {i v : Int32} {j : Nat} {σ2 : jx_M} (hG : mm_ok G) (hin : vp_in i 84) (hj : i.toNatClampNeg = j) (ev : σ2 = jx_mu σ 5 j v) (d : decode cc pc = .ok (.iastore, 1)) (kk : jx_J l (mm_env G) (mm_dyn G) (mm_rg G) sz own nm cc nL ret R Qf ce sl (pc + 1) lv rest σ2) : jx_J l (mm_env G) (mm_dyn G) (mm_rg G) sz own nm cc nL ret R Qf ce sl pc lv (.int v :: .int i :: .ref (G.2 105) :: rest) σ := by
  subst hj
  subst ev
  intro p e s m args below meth c C hr hk hn hs hE H locs ls hl hD hS
  exact va_iast C.1 C.2.1 hE.1 hD (mm_D hG σ sz) hS 5 0 rfl rfl hin d (fun H1 locs1 hP1 _ hS1 => kk p e s m args below meth c C hr hk hn hs hE H1 locs1 ls hl hP1 hS1)
theorem mm_l_weights {i : Int32} {j : Nat} (hin : vp_in i 7) (hj : i.toNatClampNeg = j) (d : decode cc pc = .ok (.iaload, 1)) (kk : jx_J l (mm_env G) (mm_dyn G) (mm_rg G) sz own nm cc nL ret R Qf ce sl (pc + 1) lv (.int (σ 6 j) :: rest) σ) : jx_J l (mm_env G) (mm_dyn G) (mm_rg G) sz own nm cc nL ret R Qf ce sl pc lv (.int i :: .ref (G.2 106) :: rest) σ := by
  subst hj
  intro p e s m args below meth c C hr hk hn hs hE H locs ls hl hD hS
  exact va_iald C.1 C.2.1 hE.1 hD 6 0 rfl rfl hin d (kk p e s m args below meth c C hr hk hn hs hE H locs ls hl hD hS)
theorem mm_s_weights {i v : Int32} {j : Nat} {σ2 : jx_M} (hG : mm_ok G) (hin : vp_in i 7) (hj : i.toNatClampNeg = j) (ev : σ2 = jx_mu σ 6 j v) (d : decode cc pc = .ok (.iastore, 1)) (kk : jx_J l (mm_env G) (mm_dyn G) (mm_rg G) sz own nm cc nL ret R Qf ce sl (pc + 1) lv rest σ2) : jx_J l (mm_env G) (mm_dyn G) (mm_rg G) sz own nm cc nL ret R Qf ce sl pc lv (.int v :: .int i :: .ref (G.2 106) :: rest) σ := by
  subst hj
  subst ev
  intro p e s m args below meth c C hr hk hn hs hE H locs ls hl hD hS
  exact va_iast C.1 C.2.1 hE.1 hD (mm_D hG σ sz) hS 6 0 rfl rfl hin d (fun H1 locs1 hP1 _ hS1 => kk p e s m args below meth c C hr hk hn hs hE H1 locs1 ls hl hP1 hS1)
theorem mm_l_lying {i : Int32} {j : Nat} (hin : vp_in i 6) (hj : i.toNatClampNeg = j) (d : decode cc pc = .ok (.iaload, 1)) (kk : jx_J l (mm_env G) (mm_dyn G) (mm_rg G) sz own nm cc nL ret R Qf ce sl (pc + 1) lv (.int (σ 7 j) :: rest) σ) : jx_J l (mm_env G) (mm_dyn G) (mm_rg G) sz own nm cc nL ret R Qf ce sl pc lv (.int i :: .ref (G.2 107) :: rest) σ := by
  subst hj
  intro p e s m args below meth c C hr hk hn hs hE H locs ls hl hD hS
  exact va_iald C.1 C.2.1 hE.1 hD 7 0 rfl rfl hin d (kk p e s m args below meth c C hr hk hn hs hE H locs ls hl hD hS)
theorem mm_s_lying {i v : Int32} {j : Nat} {σ2 : jx_M} (hG : mm_ok G) (hin : vp_in i 6) (hj : i.toNatClampNeg = j) (ev : σ2 = jx_mu σ 7 j v) (d : decode cc pc = .ok (.iastore, 1)) (kk : jx_J l (mm_env G) (mm_dyn G) (mm_rg G) sz own nm cc nL ret R Qf ce sl (pc + 1) lv rest σ2) : jx_J l (mm_env G) (mm_dyn G) (mm_rg G) sz own nm cc nL ret R Qf ce sl pc lv (.int v :: .int i :: .ref (G.2 107) :: rest) σ := by
  subst hj
  subst ev
  intro p e s m args below meth c C hr hk hn hs hE H locs ls hl hD hS
  exact va_iast C.1 C.2.1 hE.1 hD (mm_D hG σ sz) hS 7 0 rfl rfl hin d (fun H1 locs1 hP1 _ hS1 => kk p e s m args below meth c C hr hk hn hs hE H1 locs1 ls hl hP1 hS1)
theorem mm_l_counts {i : Int32} {j : Nat} (hin : vp_in i 6) (hj : i.toNatClampNeg = j) (d : decode cc pc = .ok (.baload, 1)) (kk : jx_J l (mm_env G) (mm_dyn G) (mm_rg G) sz own nm cc nL ret R Qf ce sl (pc + 1) lv (.int (σ 8 j) :: rest) σ) : jx_J l (mm_env G) (mm_dyn G) (mm_rg G) sz own nm cc nL ret R Qf ce sl pc lv (.int i :: .ref (G.2 108) :: rest) σ := by
  subst hj
  intro p e s m args below meth c C hr hk hn hs hE H locs ls hl hD hS
  exact va_zald C.1 C.2.1 hE.1 hD 8 1 rfl rfl hin d (kk p e s m args below meth c C hr hk hn hs hE H locs ls hl hD hS)
theorem mm_s_counts {i v : Int32} {j : Nat} {σ2 : jx_M} (hG : mm_ok G) (hz : v = 0 ∨ v = 1) (hin : vp_in i 6) (hj : i.toNatClampNeg = j) (ev : σ2 = jx_mu σ 8 j v) (d : decode cc pc = .ok (.bastore, 1)) (kk : jx_J l (mm_env G) (mm_dyn G) (mm_rg G) sz own nm cc nL ret R Qf ce sl (pc + 1) lv rest σ2) : jx_J l (mm_env G) (mm_dyn G) (mm_rg G) sz own nm cc nL ret R Qf ce sl pc lv (.int v :: .int i :: .ref (G.2 108) :: rest) σ := by
  subst hj
  subst ev
  intro p e s m args below meth c C hr hk hn hs hE H locs ls hl hD hS
  exact va_zast C.1 C.2.1 hE.1 hD (mm_D hG σ sz) hS 8 1 rfl rfl hin d (fun H1 locs1 hP1 _ hS1 => by rw [show vp_nar .boolean v = v from jx_nbv hz] at hP1; exact kk p e s m args below meth c C hr hk hn hs hE H1 locs1 ls hl hP1 hS1)
theorem mm_l_bodies {i : Int32} {j : Nat} (hin : vp_in i 20) (hj : i.toNatClampNeg = j) (d : decode cc pc = .ok (.iaload, 1)) (kk : jx_J l (mm_env G) (mm_dyn G) (mm_rg G) sz own nm cc nL ret R Qf ce sl (pc + 1) lv (.int (σ 9 j) :: rest) σ) : jx_J l (mm_env G) (mm_dyn G) (mm_rg G) sz own nm cc nL ret R Qf ce sl pc lv (.int i :: .ref (G.2 109) :: rest) σ := by
  subst hj
  intro p e s m args below meth c C hr hk hn hs hE H locs ls hl hD hS
  exact va_iald C.1 C.2.1 hE.1 hD 9 0 rfl rfl hin d (kk p e s m args below meth c C hr hk hn hs hE H locs ls hl hD hS)
theorem mm_s_bodies {i v : Int32} {j : Nat} {σ2 : jx_M} (hG : mm_ok G) (hin : vp_in i 20) (hj : i.toNatClampNeg = j) (ev : σ2 = jx_mu σ 9 j v) (d : decode cc pc = .ok (.iastore, 1)) (kk : jx_J l (mm_env G) (mm_dyn G) (mm_rg G) sz own nm cc nL ret R Qf ce sl (pc + 1) lv rest σ2) : jx_J l (mm_env G) (mm_dyn G) (mm_rg G) sz own nm cc nL ret R Qf ce sl pc lv (.int v :: .int i :: .ref (G.2 109) :: rest) σ := by
  subst hj
  subst ev
  intro p e s m args below meth c C hr hk hn hs hE H locs ls hl hD hS
  exact va_iast C.1 C.2.1 hE.1 hD (mm_D hG σ sz) hS 9 0 rfl rfl hin d (fun H1 locs1 hP1 _ hS1 => kk p e s m args below meth c C hr hk hn hs hE H1 locs1 ls hl hP1 hS1)
end MM
section ST
variable {l : Launch} {X : Type} {env : (Nat → Prop) → State → Prop} {dyn : X → Heap → Prop} {rg : Nat → Prop} {G : jx_G} {sz : Nat} {own nm : String} {cc : ByteArray} {nL : Nat} {ret : Option FieldType} {R : Room} {Qf : List Frame → Array Value → State → State → Prop} {ce sl pc : Nat} {lv : List (Nat × Value)} {rest : List Value} {x : X}
theorem st_ldc_X3_93 (hex : ∀ A s, env A s → jx_ex G A s) (d : decode cc pc = .ok (.ldc 93, 2)) (kk : jx_J l env dyn rg sz RX3 nm cc nL ret R Qf ce sl (pc + 2) lv (.ref (G.2 1000) :: rest) x) : jx_J l env dyn rg sz RX3 nm cc nL ret R Qf ce sl pc lv rest x := by
  intro p e s m args below meth c C hr hk hn hs hE H locs ls hl hD hS
  exact va_ldcS C.1 C.2.1 C.2.2.2.1 (hex _ _ hE).1.2.2.2.1 d (kk p e s m args below meth c C hr hk hn hs hE H locs ls hl hD hS)
theorem st_ldc_X3_121 (hex : ∀ A s, env A s → jx_ex G A s) (d : decode cc pc = .ok (.ldc 121, 2)) (kk : jx_J l env dyn rg sz RX3 nm cc nL ret R Qf ce sl (pc + 2) lv (.ref (G.2 1001) :: rest) x) : jx_J l env dyn rg sz RX3 nm cc nL ret R Qf ce sl pc lv rest x := by
  intro p e s m args below meth c C hr hk hn hs hE H locs ls hl hD hS
  exact va_ldcS C.1 C.2.1 C.2.2.2.1 (hex _ _ hE).1.2.2.2.2.1 d (kk p e s m args below meth c C hr hk hn hs hE H locs ls hl hD hS)
theorem st_ldc_X3_130 (hex : ∀ A s, env A s → jx_ex G A s) (d : decode cc pc = .ok (.ldc 130, 2)) (kk : jx_J l env dyn rg sz RX3 nm cc nL ret R Qf ce sl (pc + 2) lv (.ref (G.2 1002) :: rest) x) : jx_J l env dyn rg sz RX3 nm cc nL ret R Qf ce sl pc lv rest x := by
  intro p e s m args below meth c C hr hk hn hs hE H locs ls hl hD hS
  exact va_ldcS C.1 C.2.1 C.2.2.2.1 (hex _ _ hE).1.2.2.2.2.2.1 d (kk p e s m args below meth c C hr hk hn hs hE H locs ls hl hD hS)
theorem st_ldc_X6_111 (hex : ∀ A s, env A s → jx_ex G A s) (d : decode cc pc = .ok (.ldc 111, 2)) (kk : jx_J l env dyn rg sz RX6 nm cc nL ret R Qf ce sl (pc + 2) lv (.ref (G.2 1003) :: rest) x) : jx_J l env dyn rg sz RX6 nm cc nL ret R Qf ce sl pc lv rest x := by
  intro p e s m args below meth c C hr hk hn hs hE H locs ls hl hD hS
  exact va_ldcS C.1 C.2.1 C.2.2.2.1 (hex _ _ hE).1.2.2.2.2.2.2.1 d (kk p e s m args below meth c C hr hk hn hs hE H locs ls hl hD hS)
theorem st_ldc_X6_93 (hex : ∀ A s, env A s → jx_ex G A s) (d : decode cc pc = .ok (.ldc 93, 2)) (kk : jx_J l env dyn rg sz RX6 nm cc nL ret R Qf ce sl (pc + 2) lv (.ref (G.2 1001) :: rest) x) : jx_J l env dyn rg sz RX6 nm cc nL ret R Qf ce sl pc lv rest x := by
  intro p e s m args below meth c C hr hk hn hs hE H locs ls hl hD hS
  exact va_ldcS C.1 C.2.1 C.2.2.2.1 (hex _ _ hE).1.2.2.2.2.2.2.2.1 d (kk p e s m args below meth c C hr hk hn hs hE H locs ls hl hD hS)
theorem st_ldc_X6_99 (hex : ∀ A s, env A s → jx_ex G A s) (d : decode cc pc = .ok (.ldc 99, 2)) (kk : jx_J l env dyn rg sz RX6 nm cc nL ret R Qf ce sl (pc + 2) lv (.ref (G.2 1002) :: rest) x) : jx_J l env dyn rg sz RX6 nm cc nL ret R Qf ce sl pc lv rest x := by
  intro p e s m args below meth c C hr hk hn hs hE H locs ls hl hD hS
  exact va_ldcS C.1 C.2.1 C.2.2.2.1 (hex _ _ hE).1.2.2.2.2.2.2.2.2.1 d (kk p e s m args below meth c C hr hk hn hs hE H locs ls hl hD hS)
theorem st_ldc_X6_117 (hex : ∀ A s, env A s → jx_ex G A s) (d : decode cc pc = .ok (.ldc 117, 2)) (kk : jx_J l env dyn rg sz RX6 nm cc nL ret R Qf ce sl (pc + 2) lv (.ref (G.2 1004) :: rest) x) : jx_J l env dyn rg sz RX6 nm cc nL ret R Qf ce sl pc lv rest x := by
  intro p e s m args below meth c C hr hk hn hs hE H locs ls hl hD hS
  exact va_ldcS C.1 C.2.1 C.2.2.2.1 (hex _ _ hE).1.2.2.2.2.2.2.2.2.2.1 d (kk p e s m args below meth c C hr hk hn hs hE H locs ls hl hD hS)
theorem st_ldc_X6_119 (hex : ∀ A s, env A s → jx_ex G A s) (d : decode cc pc = .ok (.ldc 119, 2)) (kk : jx_J l env dyn rg sz RX6 nm cc nL ret R Qf ce sl (pc + 2) lv (.ref (G.2 1005) :: rest) x) : jx_J l env dyn rg sz RX6 nm cc nL ret R Qf ce sl pc lv rest x := by
  intro p e s m args below meth c C hr hk hn hs hE H locs ls hl hD hS
  exact va_ldcS C.1 C.2.1 C.2.2.2.1 (hex _ _ hE).1.2.2.2.2.2.2.2.2.2.2.1 d (kk p e s m args below meth c C hr hk hn hs hE H locs ls hl hD hS)
theorem st_ldc_X6_124 (hex : ∀ A s, env A s → jx_ex G A s) (d : decode cc pc = .ok (.ldc 124, 2)) (kk : jx_J l env dyn rg sz RX6 nm cc nL ret R Qf ce sl (pc + 2) lv (.ref (G.2 1006) :: rest) x) : jx_J l env dyn rg sz RX6 nm cc nL ret R Qf ce sl pc lv rest x := by
  intro p e s m args below meth c C hr hk hn hs hE H locs ls hl hD hS
  exact va_ldcS C.1 C.2.1 C.2.2.2.1 (hex _ _ hE).1.2.2.2.2.2.2.2.2.2.2.2 d (kk p e s m args below meth c C hr hk hn hs hE H locs ls hl hD hS)
theorem st_value (hex : ∀ A s, env A s → jx_ex G A s) {i index : Nat} (hi : i < 7) (hw : Cond.fieldLink own index "java/lang/String" "value" "[B" ∈ jx_ws) (d : decode cc pc = .ok (.getfield index, 3)) (kk : jx_J l env dyn rg sz own nm cc nL ret R Qf ce sl (pc + 3) lv (.ref (G.2 (1100 + i)) :: rest) x) : jx_J l env dyn rg sz own nm cc nL ret R Qf ce sl pc lv (.ref (G.2 (1000 + i)) :: rest) x := by
  intro p e s m args below meth c C hr hk hn hs hE H locs ls hl hD hS
  exact vk_getf C.1 C.2.1 ((hex _ _ hE).1.1.1 i hi).2.2.1 hS C.2.2.2.1 (C.2.2.2.2 _ hw) (fun _ h => h) d (kk p e s m args below meth c C hr hk hn hs hE H locs ls hl hD hS)
theorem st_coder (hex : ∀ A s, env A s → jx_ex G A s) {i index : Nat} (hi : i < 7) (hw : Cond.fieldLink own index "java/lang/String" "coder" "B" ∈ jx_ws) (d : decode cc pc = .ok (.getfield index, 3)) (kk : jx_J l env dyn rg sz own nm cc nL ret R Qf ce sl (pc + 3) lv (.int (0 : Int32) :: rest) x) : jx_J l env dyn rg sz own nm cc nL ret R Qf ce sl pc lv (.ref (G.2 (1000 + i)) :: rest) x := by
  intro p e s m args below meth c C hr hk hn hs hE H locs ls hl hD hS
  exact vk_getf C.1 C.2.1 ((hex _ _ hE).1.1.1 i hi).2.1 hS C.2.2.2.1 (C.2.2.2.2 _ hw) (fun _ h => h) d (kk p e s m args below meth c C hr hk hn hs hE H locs ls hl hD hS)
theorem st_cs (hex : ∀ A s, env A s → jx_ex G A s) {index : Nat} (hw : Cond.fieldLink own index "java/lang/String" "COMPACT_STRINGS" "Z" ∈ jx_ws) (d : decode cc pc = .ok (.getstatic index, 3)) (kk : jx_J l env dyn rg sz own nm cc nL ret R Qf ce sl (pc + 3) lv (.int (1 : Int32) :: rest) x) : jx_J l env dyn rg sz own nm cc nL ret R Qf ce sl pc lv rest x := by
  intro p e s m args below meth c C hr hk hn hs hE H locs ls hl hD hS
  exact va_gets C.1 C.2.1 (hex _ _ hE).1.2.1 hS C.2.2.2.1 (C.2.2.2.2 _ hw) (fun _ h => h) d (kk p e s m args below meth c C hr hk hn hs hE H locs ls hl hD hS)
theorem st_fv (hex : ∀ A s, env A s → jx_ex G A s) {index : Nat} (hw : Cond.fieldLink own index "jdk/internal/util/Preconditions" "SIOOBE_FORMATTER" "Ljava/util/function/BiFunction;" ∈ jx_ws) (d : decode cc pc = .ok (.getstatic index, 3)) (kk : jx_J l env dyn rg sz own nm cc nL ret R Qf ce sl (pc + 3) lv (jx_fv G :: rest) x) : jx_J l env dyn rg sz own nm cc nL ret R Qf ce sl pc lv rest x := by
  intro p e s m args below meth c C hr hk hn hs hE H locs ls hl hD hS
  exact va_gets C.1 C.2.1 (hex _ _ hE).1.2.2.1 hS C.2.2.2.1 (C.2.2.2.2 _ hw) (fun _ h => h) d (kk p e s m args below meth c C hr hk hn hs hE H locs ls hl hD hS)
theorem st_bl (hex : ∀ A s, env A s → jx_ex G A s) {i k : Nat} {j : Int32} (hi : i < 7) (hin : vp_in j (st_len i)) (hj : j.toNatClampNeg = k) (d : decode cc pc = .ok (.baload, 1)) (kk : jx_J l env dyn rg sz own nm cc nL ret R Qf ce sl (pc + 1) lv (.int (st_b i k) :: rest) x) : jx_J l env dyn rg sz own nm cc nL ret R Qf ce sl pc lv (.int j :: .ref (G.2 (1100 + i)) :: rest) x := by
  subst hj
  intro p e s m args below meth c C hr hk hn hs hE H locs ls hl hD hS
  exact va_tb C.1 C.2.1 ((hex _ _ hE).1.1.1 i hi).2.2.2 hS hin rfl d (kk p e s m args below meth c C hr hk hn hs hE H locs ls hl hD hS)
theorem st_bn (hex : ∀ A s, env A s → jx_ex G A s) {i : Nat} (hi : i < 7) (d : decode cc pc = .ok (.arraylength, 1)) (kk : jx_J l env dyn rg sz own nm cc nL ret R Qf ce sl (pc + 1) lv (.int (Int32.ofNat (st_len i)) :: rest) x) : jx_J l env dyn rg sz own nm cc nL ret R Qf ce sl pc lv (.ref (G.2 (1100 + i)) :: rest) x := by
  intro p e s m args below meth c C hr hk hn hs hE H locs ls hl hD hS
  exact va_tlen C.1 C.2.1 ((hex _ _ hE).1.1.1 i hi).2.2.2 hS rfl d (kk p e s m args below meth c C hr hk hn hs hE H locs ls hl hD hS)
theorem st_rc (hex : ∀ A s, env A s → jx_ex G A s) {i : Nat} (hi : i < 7) : jx_rc env dyn rg (G.2 (1000 + i)) "java/lang/String" := fun _ _ _ _ _ hE _ hS => vk_recv (adK := fun i => G.2 (1000 + i)) (i := i) (hex _ _ hE).1.1 hi hS
end ST
end
section
/-! the class's world: six objects (G.2 20 ..), six rows of rows (G.2 301 ..), 65 arrays of ints (G.2 101 ..); σ 0 the numbers, σ k the array k; the two tides t (addresses, lengths, what they hold) stand outside and never change -/
theorem va_aldA {p : Program} {l : Launch} {e : Env} {R : Room} {s : State} {m : MethodId} {args : Array Value} {below : List Frame} {meth : Method} {c : Code} {H : Heap} {locs : List Loc} {cells slots : Nat} {Q : State → Prop} {cc : ByteArray} {pc : Nat} {ls : Array Slot} {rest : List Value} {D : va_G} {cl : List vw_C} {a : Nat} {tys : List (ClassId × FieldType)} {ws : va_W} (hexec : p.tables.exec = Jvm.exec) (hb : c.code = cc) (hK : va_K D cl tys s) (hP : va_P D cl ws H) (q0 t0 : Nat) {cA : ClassId} {ty : FieldType} {n : Nat} {f : Nat → Option Nat} (ha : ws[q0]? = some (a, .inl (cA, n, .inr (.inr (.inr (.inr f)))))) (ht : tys[t0]? = some (cA, .array ty)) {i : Int32} (hin : vp_in i n) (hdg : decode cc pc = .ok (.aaload, 1))
    (kk : W p l e R s m args below meth c H locs cells slots Q (F0 m (pc + 1) ls (va_rf (f i.toNatClampNeg) :: rest))) : W p l e R s m args below meth c H locs cells slots Q (F0 m pc ls (.int i :: .ref a :: rest)) := by
  have hlt : i.toNatClampNeg < n := Nat.not_le.mp fun q => hin (Or.inr q)
  exact W.aald (v := va_rf (f i.toNatClampNeg)) (ty := .array ty) hexec hb (hP q0 _ ha) ((hK.2 t0 _ ht).1 n (fun j => va_rf (f j))) rfl (fun q => by cases q) (by show ¬ (i < 0 ∨ (arrV _ _ _).slots.size ≤ _); rw [arrV_size]; exact hin) (by show (arrV _ _ _).slots[_]? = _; rw [arrV_read _ _ hlt]) rfl rfl hdg kk
abbrev jx_T : Type := (Nat → Nat) × (Nat → Nat) × (Nat → Nat → Int32)
def ll_len (k : Nat) : Nat := [0, 3, 3, 3, 3, 3, 3, 3, 8, 8, 8, 8, 8, 8, 100, 6, 6, 8, 8, 8, 4, 3, 3, 3, 3, 3, 3, 3, 8, 8, 8, 8, 8, 8, 100, 6, 6, 8, 8, 8, 4, 7, 7, 7, 7, 7, 7, 7, 7, 7, 7, 7, 7, 7, 7, 7, 7, 7, 6, 6, 20, 10, 10, 10, 100, 17].getD k 0
def ll_rf (G : jx_G) (b n : Nat) : Nat → Option Nat := fun i => if i < n then some (G.2 (100 + (b + i))) else none
def ll_ou (G : jx_G) : va_W := [(G.2 301, .inl (G.2 2, 7, .inr (.inr (.inr (.inr (ll_rf G 1 7)))))), (G.2 302, .inl (G.2 2, 6, .inr (.inr (.inr (.inr (ll_rf G 8 6)))))), (G.2 303, .inl (G.2 2, 7, .inr (.inr (.inr (.inr (ll_rf G 21 7)))))), (G.2 304, .inl (G.2 2, 6, .inr (.inr (.inr (.inr (ll_rf G 28 6)))))), (G.2 305, .inl (G.2 2, 12, .inr (.inr (.inr (.inr (ll_rf G 41 12)))))), (G.2 306, .inl (G.2 2, 3, .inr (.inr (.inr (.inr (ll_rf G 53 3))))))]
def ll_Flamp (G : jx_G) (t : jx_T) (σ : jx_M) : List Value := [.ref (G.2 21), .ref (G.2 22), .ref (G.2 23), .ref (G.2 24), .ref (G.2 25), .int (σ 0 40)]
def ll_Fnow (G : jx_G) (t : jx_T) (σ : jx_M) : List Value := [.int (σ 0 0), .ref (G.2 301), .int (σ 0 1), .int (σ 0 2), .ref (G.2 302), .int (σ 0 3), .ref (G.2 114), .int (σ 0 4), .ref (t.1 0), .int (σ 0 5), .ref (G.2 115), .ref (G.2 116), .int (σ 0 6), .ref (G.2 117), .ref (G.2 118), .ref (G.2 119), .ref (G.2 120)]
def ll_Fimage (G : jx_G) (t : jx_T) (σ : jx_M) : List Value := [.int (σ 0 10), .ref (G.2 303), .int (σ 0 11), .int (σ 0 12), .ref (G.2 304), .int (σ 0 13), .ref (G.2 134), .int (σ 0 14), .ref (t.1 10), .int (σ 0 15), .ref (G.2 135), .ref (G.2 136), .int (σ 0 16), .ref (G.2 137), .ref (G.2 138), .ref (G.2 139), .ref (G.2 140)]
def ll_Fnight (G : jx_G) (t : jx_T) (σ : jx_M) : List Value := [.ref (G.2 21), .ref (G.2 305), .ref (G.2 306), .ref (G.2 156), .ref (G.2 157), .int (σ 0 20), .ref (G.2 158), .ref (G.2 159)]
def ll_Facts (G : jx_G) (t : jx_T) (σ : jx_M) : List Value := [.ref (G.2 21), .ref (G.2 160), .int (σ 0 21)]
def ll_Freader (G : jx_G) (t : jx_T) (σ : jx_M) : List Value := [.ref (G.2 161), .ref (G.2 162), .ref (G.2 163), .ref (G.2 164), .ref (G.2 165), .int (σ 0 30), .int (σ 0 31), .int (σ 0 32), .int (σ 0 33), .int (σ 0 34), .int (σ 0 35), .int (σ 0 36), .int (σ 0 37), .int (σ 0 38), .int (σ 0 39)]
def ll_ob (G : jx_G) (t : jx_T) (σ : jx_M) : va_W := [(G.2 20, .inr (5, ll_Flamp G t σ)), (G.2 21, .inr (1, ll_Fnow G t σ)), (G.2 22, .inr (1, ll_Fimage G t σ)), (G.2 23, .inr (2, ll_Fnight G t σ)), (G.2 24, .inr (0, ll_Facts G t σ)), (G.2 25, .inr (3, ll_Freader G t σ))]
def ll_ar (G : jx_G) (σ : jx_M) : va_W := (List.range 65).map (fun j => (G.2 (101 + j), .inl (G.2 0, ll_len (j + 1), .inl (σ (j + 1)))))
def ll_W (G : jx_G) (t : jx_T) (σ : jx_M) : va_W := (ll_ob G t σ ++ ll_ou G) ++ ll_ar G σ
theorem ll_at {G : jx_G} {t : jx_T} {σ : jx_M} {k : Nat} (h1 : 1 ≤ k) (h2 : k ≤ 65) : (ll_W G t σ)[11 + k]? = some (G.2 (100 + k), .inl (G.2 0, ll_len k, .inl (σ k))) := by
  obtain ⟨j, rfl⟩ : ∃ j, k = j + 1 := ⟨k - 1, by omega⟩
  unfold ll_W
  rw [List.getElem?_append_right (by show 12 ≤ _; omega), show 11 + (j + 1) - (ll_ob G t σ ++ ll_ou G).length = j from by show 11 + (j + 1) - 12 = j; omega]
  unfold ll_ar
  rw [List.getElem?_map, List.getElem?_range (by omega)]
  show some (G.2 (101 + j), _) = _
  rw [show 101 + j = 100 + (j + 1) from by omega]
theorem ll_lo {G : jx_G} {t : jx_T} {σ : jx_M} {k : Nat} (h : k < 12) : (ll_W G t σ)[k]? = (ll_ob G t σ ++ ll_ou G)[k]? := by
  unfold ll_W
  exact List.getElem?_append_left (by show k < 12; exact h)
theorem ll_set {G : jx_G} {t : jx_T} {σ : jx_M} {k i : Nat} {v : Int32} (h1 : 1 ≤ k) (h2 : k ≤ 65) : (ll_W G t σ).set (11 + k) (G.2 (100 + k), .inl (G.2 0, ll_len k, .inl (upd (σ k) i v))) = ll_W G t (jx_mu σ k i v) := by
  have h0 : jx_mu σ k i v 0 = σ 0 := by
    unfold jx_mu
    rw [if_neg (by omega)]
  have e1 : ll_ob G t (jx_mu σ k i v) = ll_ob G t σ := by
    unfold ll_ob ll_Flamp ll_Fnow ll_Fimage ll_Fnight ll_Facts ll_Freader
    rw [h0]
  apply List.ext_getElem?
  intro n
  rw [List.getElem?_set]
  rcases Nat.lt_or_ge n 12 with hn | hn
  · rw [if_neg (by omega), ll_lo hn, ll_lo hn, e1]
  · obtain ⟨k2, rfl⟩ : ∃ k2, n = 11 + k2 := ⟨n - 11, by omega⟩
    rcases Nat.lt_or_ge 65 k2 with hk | hk
    · have hl : ∀ τ : jx_M, (ll_W G t τ)[11 + k2]? = none := fun τ => List.getElem?_eq_none (by
        have : (ll_W G t τ).length = 77 := by unfold ll_W ll_ar; rw [List.length_append, List.length_map, List.length_range]; rfl
        omega)
      rw [if_neg (by omega), hl, hl]
    · rw [ll_at (σ := jx_mu σ k i v) (by omega) hk]
      by_cases e : k = k2
      · subst e
        have hl : (ll_W G t σ).length = 77 := by unfold ll_W ll_ar; rw [List.length_append, List.length_map, List.length_range]; rfl
        rw [if_pos rfl, if_pos (by omega)]
        unfold jx_mu
        rw [if_pos rfl]
      · rw [if_neg (by omega), ll_at (by omega) hk]
        unfold jx_mu
        rw [if_neg (fun q => e q.symm)]
theorem ll_lenk {k i : Nat} (h : i < ll_len k) : 1 ≤ k ∧ k ≤ 65 := by
  refine ⟨Nat.pos_of_ne_zero fun q => ?_, ?_⟩
  · subst q
    exact absurd h (Nat.not_lt_zero i)
  · rcases Nat.lt_or_ge 65 k with q | q
    · have hz : ll_len k = 0 := by
        unfold ll_len
        rw [List.getD_eq_getElem?_getD, List.getElem?_eq_none (by show 66 ≤ k; omega)]
        rfl
      rw [hz] at h
      exact absurd h (Nat.not_lt_zero i)
    · exact q
def ll_tw (G : jx_G) (t : jx_T) (b : Nat) : va_W := [(t.1 b, .inr (4, [.ref (t.1 (b + 1)), .ref (t.1 (b + 2)), .ref (t.1 (b + 3)), .ref (t.1 (b + 4))])), (t.1 (b + 1), .inl (G.2 0, t.2.1 (b + 1), .inl (t.2.2 (b + 1)))), (t.1 (b + 2), .inl (G.2 0, t.2.1 (b + 2), .inl (t.2.2 (b + 2)))), (t.1 (b + 3), .inl (G.2 0, t.2.1 (b + 3), .inl (t.2.2 (b + 3)))), (t.1 (b + 4), .inl (G.2 0, t.2.1 (b + 4), .inl (t.2.2 (b + 4))))]
def ll_tz (G : jx_G) (t : jx_T) (A : Nat → Prop) (H : Heap) : Prop := va_P G.1 vwCl (ll_tw G t 0 ++ ll_tw G t 10) H ∧ ∀ (k : Nat) (q : Nat × va_E), (ll_tw G t 0 ++ ll_tw G t 10)[k]? = some q → ¬ A q.1
def ll_rg (G : jx_G) : Nat → Prop := fun q => ∃ (k : Nat) (e : va_E), (ll_W G (fun _ => 0, fun _ => 0, fun _ _ => 0) (fun _ _ => 0))[k]? = some (q, e)
def ll_dyn (G : jx_G) (t : jx_T) (σ : jx_M) (H : Heap) : Prop := va_P G.1 vwCl (ll_W G t σ) H
def ll_env (G : jx_G) (t : jx_T) (A : Nat → Prop) (s : State) : Prop := va_K G.1 vwCl [(G.2 0, .int), (G.2 2, .array .int)] s ∧ jx_ex G A s ∧ ll_tz G t A s.heap
def ll_ok (G : jx_G) : Prop := va_D (ll_rg G) (ll_W G (fun _ => 0, fun _ => 0, fun _ _ => 0) (fun _ _ => 0))
theorem ll_fst {G : jx_G} {t t' : jx_T} {σ σ' : jx_M} : (ll_W G t σ).map Prod.fst = (ll_W G t' σ').map Prod.fst := by
  unfold ll_W ll_ar
  simp only [List.map_append, List.map_map]
  rfl
theorem ll_D {G : jx_G} (h : ll_ok G) (t : jx_T) (σ : jx_M) (sz : Nat) : va_D (jx_A (ll_rg G) sz) (ll_W G t σ) := jx_Dmap (w := ll_W G (fun _ => 0, fun _ => 0, fun _ _ => 0) (fun _ _ => 0)) ll_fst (va_D.weaken h (fun _ _ _ q => Or.inl q))
theorem ll_tzk {G : jx_G} {t : jx_T} {A B : Nat → Prop} {H H1 : Heap} (h : ll_tz G t A H) (hq : ∀ a : Nat, a < H.size → ¬ A a → H1[a]? = H[a]?) (hAB : ∀ q, B q → A q) : ll_tz G t B H1 := ⟨h.1.kept (fun k q hk => hq q.1 (h.1 k q hk).lt (h.2 k q hk)), fun k q hk hb => h.2 k q hk (hAB _ hb)⟩
theorem ll_jok {G : jx_G} {t : jx_T} : jx_ok (ll_rg G) (ll_env G t) := ⟨fun A U g mk a q => ⟨va_K.moved (u := U) (U := U.calling g mk a) (Vm.Alike.refl U.vm) q.1, jx_ex_call q.2.1, q.2.2⟩, fun sz s U H locs hs hE hS hU hvm => ⟨va_K.moved hvm.alike hE.1, jx_ex_run hE.2.1 hs hS hU hvm, by
  rw [hU]
  exact ll_tzk hE.2.2 (fun a h1 h2 => hS.2.1 a h1 h2) (jx_sub2 (by rw [← hs]; exact hS.1))⟩⟩
theorem ll_rclamp {G : jx_G} {t : jx_T} : jx_rc (ll_env G t) (ll_dyn G t) (ll_rg G) (G.2 20) RX5 := fun _ _ _ _ _ hE hD _ => va_recv hE.1 hD (ci := 5) (q0 := 0) rfl rfl
theorem ll_rcnow {G : jx_G} {t : jx_T} : jx_rc (ll_env G t) (ll_dyn G t) (ll_rg G) (G.2 21) RX1 := fun _ _ _ _ _ hE hD _ => va_recv hE.1 hD (ci := 1) (q0 := 1) rfl rfl
theorem ll_rcimage {G : jx_G} {t : jx_T} : jx_rc (ll_env G t) (ll_dyn G t) (ll_rg G) (G.2 22) RX1 := fun _ _ _ _ _ hE hD _ => va_recv hE.1 hD (ci := 1) (q0 := 2) rfl rfl
theorem ll_rcnight {G : jx_G} {t : jx_T} : jx_rc (ll_env G t) (ll_dyn G t) (ll_rg G) (G.2 23) RX2 := fun _ _ _ _ _ hE hD _ => va_recv hE.1 hD (ci := 2) (q0 := 3) rfl rfl
theorem ll_rcacts {G : jx_G} {t : jx_T} : jx_rc (ll_env G t) (ll_dyn G t) (ll_rg G) (G.2 24) RX0 := fun _ _ _ _ _ hE hD _ => va_recv hE.1 hD (ci := 0) (q0 := 4) rfl rfl
theorem ll_rcreader {G : jx_G} {t : jx_T} : jx_rc (ll_env G t) (ll_dyn G t) (ll_rg G) (G.2 25) RX3 := fun _ _ _ _ _ hE hD _ => va_recv hE.1 hD (ci := 3) (q0 := 5) rfl rfl
theorem ll_tP {G : jx_G} {t : jx_T} {sz : Nat} {s : State} {H : Heap} {locs : List Loc} (hE : ll_env G t (jx_A (ll_rg G) sz) s) (hS : va_S (jx_A (ll_rg G) sz) s.heap H locs) : va_P G.1 vwCl (ll_tw G t 0 ++ ll_tw G t 10) H := (ll_tzk (B := jx_A (ll_rg G) sz) hE.2.2 (fun a h1 h2 => hS.2.1 a h1 h2) (fun _ h => h)).1
theorem ll_rctide {G : jx_G} {t : jx_T} : jx_rc (ll_env G t) (ll_dyn G t) (ll_rg G) (t.1 0) RX4 := fun _ _ _ _ _ hE _ hS => va_recv hE.1 (ll_tP hE hS) (ci := 4) (q0 := 0) rfl rfl
section LL
variable {l : Launch} {G : jx_G} {t : jx_T} {sz : Nat} {own nm : String} {cc : ByteArray} {nL : Nat} {ret : Option FieldType} {R : Room} {Qf : List Frame → Array Value → State → State → Prop} {ce sl pc : Nat} {lv : List (Nat × Value)} {rest : List Value} {σ : jx_M}
theorem ll_getlamp {index k : Nat} {v : Value} (hk0 : k < 6) (hw : Cond.fieldLink own index (TX5 k).1 (TX5 k).2.1 (TX5 k).2.2.1 ∈ jx_ws) (hv : (ll_Flamp G t σ)[k]? = some v) (d : decode cc pc = .ok (.getfield index, 3)) (kk : jx_J l (ll_env G t) (ll_dyn G t) (ll_rg G) sz own nm cc nL ret R Qf ce sl (pc + 3) lv (v :: rest) σ) : jx_J l (ll_env G t) (ll_dyn G t) (ll_rg G) sz own nm cc nL ret R Qf ce sl pc lv (.ref (G.2 20) :: rest) σ := by
  intro p e s m args below meth c C hr hk hn hs hE H locs ls hl hD hS
  exact va_get (D := G.1) (ci := 5) (C := RX5) (T := TX5) (N := 6) C.1 C.2.1 C.2.2.2.2 il_X5 C.2.2.2.1 hE.1 hD 0 rfl rfl k hk0 (C.2.2.2.2 _ hw) (fun _ h => h) hv d (kk p e s m args below meth c C hr hk hn hs hE H locs ls hl hD hS)
theorem ll_putlamp {index k : Nat} {v : Value} {ty : FieldType} {σ2 : jx_M} (hG : ll_ok G) (hk0 : k < 6) (hw : Cond.fieldLink own index (TX5 k).1 (TX5 k).2.1 (TX5 k).2.2.1 ∈ jx_ws) (hfin : (TX5 k).2.2.2 = false) (hd : parseFieldDescriptor (TX5 k).2.2.1 = some ty) (hnr : narrow ty v = v) (hfit : fits ty v = true) (hset : (ll_W G t σ).set 0 (G.2 20, .inr (5, (ll_Flamp G t σ).set k v)) = ll_W G t σ2) (d : decode cc pc = .ok (.putfield index, 3)) (kk : jx_J l (ll_env G t) (ll_dyn G t) (ll_rg G) sz own nm cc nL ret R Qf ce sl (pc + 3) lv rest σ2) : jx_J l (ll_env G t) (ll_dyn G t) (ll_rg G) sz own nm cc nL ret R Qf ce sl pc lv (v :: .ref (G.2 20) :: rest) σ := by
  intro p e s m args below meth c C hr hk hn hs hE H locs ls hl hD hS
  refine va_put (D := G.1) (ci := 5) (C := RX5) (T := TX5) (N := 6) C.1 C.2.1 C.2.2.2.2 il_X5 tyX5 tyX5_ok nmX5 C.2.2.2.1 hE.1 hD (ll_D hG t σ sz) hS 0 rfl rfl k hk0 (C.2.2.2.2 _ hw) (fun _ h => h) hfin hd hnr hfit hk0 d (fun H1 locs1 hP1 _ hS1 => ?_)
  rw [hset] at hP1
  exact kk p e s m args below meth c C hr hk hn hs hE H1 locs1 ls hl hP1 hS1
theorem ll_glamp_now {index : Nat} (hw : Cond.fieldLink own index "LampVote" "now" "LLampVote$Canal;" ∈ jx_ws) (d : decode cc pc = .ok (.getfield index, 3)) (kk : jx_J l (ll_env G t) (ll_dyn G t) (ll_rg G) sz own nm cc nL ret R Qf ce sl (pc + 3) lv (.ref (G.2 21) :: rest) σ) : jx_J l (ll_env G t) (ll_dyn G t) (ll_rg G) sz own nm cc nL ret R Qf ce sl pc lv (.ref (G.2 20) :: rest) σ := ll_getlamp (k := 0) (by decide) hw rfl d kk
theorem ll_glamp_image {index : Nat} (hw : Cond.fieldLink own index "LampVote" "image" "LLampVote$Canal;" ∈ jx_ws) (d : decode cc pc = .ok (.getfield index, 3)) (kk : jx_J l (ll_env G t) (ll_dyn G t) (ll_rg G) sz own nm cc nL ret R Qf ce sl (pc + 3) lv (.ref (G.2 22) :: rest) σ) : jx_J l (ll_env G t) (ll_dyn G t) (ll_rg G) sz own nm cc nL ret R Qf ce sl pc lv (.ref (G.2 20) :: rest) σ := ll_getlamp (k := 1) (by decide) hw rfl d kk
theorem ll_glamp_night {index : Nat} (hw : Cond.fieldLink own index "LampVote" "night" "LLampVote$Night;" ∈ jx_ws) (d : decode cc pc = .ok (.getfield index, 3)) (kk : jx_J l (ll_env G t) (ll_dyn G t) (ll_rg G) sz own nm cc nL ret R Qf ce sl (pc + 3) lv (.ref (G.2 23) :: rest) σ) : jx_J l (ll_env G t) (ll_dyn G t) (ll_rg G) sz own nm cc nL ret R Qf ce sl pc lv (.ref (G.2 20) :: rest) σ := ll_getlamp (k := 2) (by decide) hw rfl d kk
theorem ll_glamp_acts {index : Nat} (hw : Cond.fieldLink own index "LampVote" "acts" "LLampVote$Acts;" ∈ jx_ws) (d : decode cc pc = .ok (.getfield index, 3)) (kk : jx_J l (ll_env G t) (ll_dyn G t) (ll_rg G) sz own nm cc nL ret R Qf ce sl (pc + 3) lv (.ref (G.2 24) :: rest) σ) : jx_J l (ll_env G t) (ll_dyn G t) (ll_rg G) sz own nm cc nL ret R Qf ce sl pc lv (.ref (G.2 20) :: rest) σ := ll_getlamp (k := 3) (by decide) hw rfl d kk
theorem ll_glamp_reader {index : Nat} (hw : Cond.fieldLink own index "LampVote" "reader" "LLampVote$Reader;" ∈ jx_ws) (d : decode cc pc = .ok (.getfield index, 3)) (kk : jx_J l (ll_env G t) (ll_dyn G t) (ll_rg G) sz own nm cc nL ret R Qf ce sl (pc + 3) lv (.ref (G.2 25) :: rest) σ) : jx_J l (ll_env G t) (ll_dyn G t) (ll_rg G) sz own nm cc nL ret R Qf ce sl pc lv (.ref (G.2 20) :: rest) σ := ll_getlamp (k := 4) (by decide) hw rfl d kk
theorem ll_glamp_imaged {index : Nat} (hw : Cond.fieldLink own index "LampVote" "imaged" "Z" ∈ jx_ws) (d : decode cc pc = .ok (.getfield index, 3)) (kk : jx_J l (ll_env G t) (ll_dyn G t) (ll_rg G) sz own nm cc nL ret R Qf ce sl (pc + 3) lv (.int (σ 0 40) :: rest) σ) : jx_J l (ll_env G t) (ll_dyn G t) (ll_rg G) sz own nm cc nL ret R Qf ce sl pc lv (.ref (G.2 20) :: rest) σ := ll_getlamp (k := 5) (by decide) hw rfl d kk
theorem ll_plamp_imaged {index : Nat} {v : Int32} {σ2 : jx_M} (hG : ll_ok G) (hz : v = 0 ∨ v = 1) (hw : Cond.fieldLink own index "LampVote" "imaged" "Z" ∈ jx_ws) (ev : σ2 = jx_mu σ 0 40 v) (d : decode cc pc = .ok (.putfield index, 3)) (kk : jx_J l (ll_env G t) (ll_dyn G t) (ll_rg G) sz own nm cc nL ret R Qf ce sl (pc + 3) lv rest σ2) : jx_J l (ll_env G t) (ll_dyn G t) (ll_rg G) sz own nm cc nL ret R Qf ce sl pc lv (.int v :: .ref (G.2 20) :: rest) σ := ll_putlamp (k := 5) (ty := .boolean) hG (by decide) hw rfl (by decide +kernel) (jx_nar hz) (jx_fit hz) (by subst ev; rfl) d kk
theorem ll_getnow {index k : Nat} {v : Value} (hk0 : k < 17) (hw : Cond.fieldLink own index (TX1 k).1 (TX1 k).2.1 (TX1 k).2.2.1 ∈ jx_ws) (hv : (ll_Fnow G t σ)[k]? = some v) (d : decode cc pc = .ok (.getfield index, 3)) (kk : jx_J l (ll_env G t) (ll_dyn G t) (ll_rg G) sz own nm cc nL ret R Qf ce sl (pc + 3) lv (v :: rest) σ) : jx_J l (ll_env G t) (ll_dyn G t) (ll_rg G) sz own nm cc nL ret R Qf ce sl pc lv (.ref (G.2 21) :: rest) σ := by
  intro p e s m args below meth c C hr hk hn hs hE H locs ls hl hD hS
  exact va_get (D := G.1) (ci := 1) (C := RX1) (T := TX1) (N := 17) C.1 C.2.1 C.2.2.2.2 il_X1 C.2.2.2.1 hE.1 hD 1 rfl rfl k hk0 (C.2.2.2.2 _ hw) (fun _ h => h) hv d (kk p e s m args below meth c C hr hk hn hs hE H locs ls hl hD hS)
theorem ll_putnow {index k : Nat} {v : Value} {ty : FieldType} {σ2 : jx_M} (hG : ll_ok G) (hk0 : k < 17) (hw : Cond.fieldLink own index (TX1 k).1 (TX1 k).2.1 (TX1 k).2.2.1 ∈ jx_ws) (hfin : (TX1 k).2.2.2 = false) (hd : parseFieldDescriptor (TX1 k).2.2.1 = some ty) (hnr : narrow ty v = v) (hfit : fits ty v = true) (hset : (ll_W G t σ).set 1 (G.2 21, .inr (1, (ll_Fnow G t σ).set k v)) = ll_W G t σ2) (d : decode cc pc = .ok (.putfield index, 3)) (kk : jx_J l (ll_env G t) (ll_dyn G t) (ll_rg G) sz own nm cc nL ret R Qf ce sl (pc + 3) lv rest σ2) : jx_J l (ll_env G t) (ll_dyn G t) (ll_rg G) sz own nm cc nL ret R Qf ce sl pc lv (v :: .ref (G.2 21) :: rest) σ := by
  intro p e s m args below meth c C hr hk hn hs hE H locs ls hl hD hS
  refine va_put (D := G.1) (ci := 1) (C := RX1) (T := TX1) (N := 17) C.1 C.2.1 C.2.2.2.2 il_X1 tyX1 tyX1_ok nmX1 C.2.2.2.1 hE.1 hD (ll_D hG t σ sz) hS 1 rfl rfl k hk0 (C.2.2.2.2 _ hw) (fun _ h => h) hfin hd hnr hfit hk0 d (fun H1 locs1 hP1 _ hS1 => ?_)
  rw [hset] at hP1
  exact kk p e s m args below meth c C hr hk hn hs hE H1 locs1 ls hl hP1 hS1
theorem ll_gnow_places {index : Nat} (hw : Cond.fieldLink own index "LampVote$Canal" "places" "I" ∈ jx_ws) (d : decode cc pc = .ok (.getfield index, 3)) (kk : jx_J l (ll_env G t) (ll_dyn G t) (ll_rg G) sz own nm cc nL ret R Qf ce sl (pc + 3) lv (.int (σ 0 0) :: rest) σ) : jx_J l (ll_env G t) (ll_dyn G t) (ll_rg G) sz own nm cc nL ret R Qf ce sl pc lv (.ref (G.2 21) :: rest) σ := ll_getnow (k := 0) (by decide) hw rfl d kk
theorem ll_pnow_places {index : Nat} {v : Int32} {σ2 : jx_M} (hG : ll_ok G) (hw : Cond.fieldLink own index "LampVote$Canal" "places" "I" ∈ jx_ws) (ev : σ2 = jx_mu σ 0 0 v) (d : decode cc pc = .ok (.putfield index, 3)) (kk : jx_J l (ll_env G t) (ll_dyn G t) (ll_rg G) sz own nm cc nL ret R Qf ce sl (pc + 3) lv rest σ2) : jx_J l (ll_env G t) (ll_dyn G t) (ll_rg G) sz own nm cc nL ret R Qf ce sl pc lv (.int v :: .ref (G.2 21) :: rest) σ := ll_putnow (k := 0) (ty := .int) hG (by decide) hw rfl (by decide +kernel) rfl rfl (by subst ev; rfl) d kk
theorem ll_gnow_place {index : Nat} (hw : Cond.fieldLink own index "LampVote$Canal" "place" "[[I" ∈ jx_ws) (d : decode cc pc = .ok (.getfield index, 3)) (kk : jx_J l (ll_env G t) (ll_dyn G t) (ll_rg G) sz own nm cc nL ret R Qf ce sl (pc + 3) lv (.ref (G.2 301) :: rest) σ) : jx_J l (ll_env G t) (ll_dyn G t) (ll_rg G) sz own nm cc nL ret R Qf ce sl pc lv (.ref (G.2 21) :: rest) σ := ll_getnow (k := 1) (by decide) hw rfl d kk
theorem ll_gnow_minute {index : Nat} (hw : Cond.fieldLink own index "LampVote$Canal" "minute" "I" ∈ jx_ws) (d : decode cc pc = .ok (.getfield index, 3)) (kk : jx_J l (ll_env G t) (ll_dyn G t) (ll_rg G) sz own nm cc nL ret R Qf ce sl (pc + 3) lv (.int (σ 0 1) :: rest) σ) : jx_J l (ll_env G t) (ll_dyn G t) (ll_rg G) sz own nm cc nL ret R Qf ce sl pc lv (.ref (G.2 21) :: rest) σ := ll_getnow (k := 2) (by decide) hw rfl d kk
theorem ll_pnow_minute {index : Nat} {v : Int32} {σ2 : jx_M} (hG : ll_ok G) (hw : Cond.fieldLink own index "LampVote$Canal" "minute" "I" ∈ jx_ws) (ev : σ2 = jx_mu σ 0 1 v) (d : decode cc pc = .ok (.putfield index, 3)) (kk : jx_J l (ll_env G t) (ll_dyn G t) (ll_rg G) sz own nm cc nL ret R Qf ce sl (pc + 3) lv rest σ2) : jx_J l (ll_env G t) (ll_dyn G t) (ll_rg G) sz own nm cc nL ret R Qf ce sl pc lv (.int v :: .ref (G.2 21) :: rest) σ := ll_putnow (k := 2) (ty := .int) hG (by decide) hw rfl (by decide +kernel) rfl rfl (by subst ev; rfl) d kk
theorem ll_gnow_voters {index : Nat} (hw : Cond.fieldLink own index "LampVote$Canal" "voters" "I" ∈ jx_ws) (d : decode cc pc = .ok (.getfield index, 3)) (kk : jx_J l (ll_env G t) (ll_dyn G t) (ll_rg G) sz own nm cc nL ret R Qf ce sl (pc + 3) lv (.int (σ 0 2) :: rest) σ) : jx_J l (ll_env G t) (ll_dyn G t) (ll_rg G) sz own nm cc nL ret R Qf ce sl pc lv (.ref (G.2 21) :: rest) σ := ll_getnow (k := 3) (by decide) hw rfl d kk
theorem ll_pnow_voters {index : Nat} {v : Int32} {σ2 : jx_M} (hG : ll_ok G) (hw : Cond.fieldLink own index "LampVote$Canal" "voters" "I" ∈ jx_ws) (ev : σ2 = jx_mu σ 0 2 v) (d : decode cc pc = .ok (.putfield index, 3)) (kk : jx_J l (ll_env G t) (ll_dyn G t) (ll_rg G) sz own nm cc nL ret R Qf ce sl (pc + 3) lv rest σ2) : jx_J l (ll_env G t) (ll_dyn G t) (ll_rg G) sz own nm cc nL ret R Qf ce sl pc lv (.int v :: .ref (G.2 21) :: rest) σ := ll_putnow (k := 3) (ty := .int) hG (by decide) hw rfl (by decide +kernel) rfl rfl (by subst ev; rfl) d kk
theorem ll_gnow_voter {index : Nat} (hw : Cond.fieldLink own index "LampVote$Canal" "voter" "[[I" ∈ jx_ws) (d : decode cc pc = .ok (.getfield index, 3)) (kk : jx_J l (ll_env G t) (ll_dyn G t) (ll_rg G) sz own nm cc nL ret R Qf ce sl (pc + 3) lv (.ref (G.2 302) :: rest) σ) : jx_J l (ll_env G t) (ll_dyn G t) (ll_rg G) sz own nm cc nL ret R Qf ce sl pc lv (.ref (G.2 21) :: rest) σ := ll_getnow (k := 4) (by decide) hw rfl d kk
theorem ll_gnow_signs {index : Nat} (hw : Cond.fieldLink own index "LampVote$Canal" "signs" "I" ∈ jx_ws) (d : decode cc pc = .ok (.getfield index, 3)) (kk : jx_J l (ll_env G t) (ll_dyn G t) (ll_rg G) sz own nm cc nL ret R Qf ce sl (pc + 3) lv (.int (σ 0 3) :: rest) σ) : jx_J l (ll_env G t) (ll_dyn G t) (ll_rg G) sz own nm cc nL ret R Qf ce sl pc lv (.ref (G.2 21) :: rest) σ := ll_getnow (k := 5) (by decide) hw rfl d kk
theorem ll_pnow_signs {index : Nat} {v : Int32} {σ2 : jx_M} (hG : ll_ok G) (hw : Cond.fieldLink own index "LampVote$Canal" "signs" "I" ∈ jx_ws) (ev : σ2 = jx_mu σ 0 3 v) (d : decode cc pc = .ok (.putfield index, 3)) (kk : jx_J l (ll_env G t) (ll_dyn G t) (ll_rg G) sz own nm cc nL ret R Qf ce sl (pc + 3) lv rest σ2) : jx_J l (ll_env G t) (ll_dyn G t) (ll_rg G) sz own nm cc nL ret R Qf ce sl pc lv (.int v :: .ref (G.2 21) :: rest) σ := ll_putnow (k := 5) (ty := .int) hG (by decide) hw rfl (by decide +kernel) rfl rfl (by subst ev; rfl) d kk
theorem ll_gnow_tape {index : Nat} (hw : Cond.fieldLink own index "LampVote$Canal" "tape" "[I" ∈ jx_ws) (d : decode cc pc = .ok (.getfield index, 3)) (kk : jx_J l (ll_env G t) (ll_dyn G t) (ll_rg G) sz own nm cc nL ret R Qf ce sl (pc + 3) lv (.ref (G.2 114) :: rest) σ) : jx_J l (ll_env G t) (ll_dyn G t) (ll_rg G) sz own nm cc nL ret R Qf ce sl pc lv (.ref (G.2 21) :: rest) σ := ll_getnow (k := 6) (by decide) hw rfl d kk
theorem ll_gnow_tides {index : Nat} (hw : Cond.fieldLink own index "LampVote$Canal" "tides" "I" ∈ jx_ws) (d : decode cc pc = .ok (.getfield index, 3)) (kk : jx_J l (ll_env G t) (ll_dyn G t) (ll_rg G) sz own nm cc nL ret R Qf ce sl (pc + 3) lv (.int (σ 0 4) :: rest) σ) : jx_J l (ll_env G t) (ll_dyn G t) (ll_rg G) sz own nm cc nL ret R Qf ce sl pc lv (.ref (G.2 21) :: rest) σ := ll_getnow (k := 7) (by decide) hw rfl d kk
theorem ll_pnow_tides {index : Nat} {v : Int32} {σ2 : jx_M} (hG : ll_ok G) (hw : Cond.fieldLink own index "LampVote$Canal" "tides" "I" ∈ jx_ws) (ev : σ2 = jx_mu σ 0 4 v) (d : decode cc pc = .ok (.putfield index, 3)) (kk : jx_J l (ll_env G t) (ll_dyn G t) (ll_rg G) sz own nm cc nL ret R Qf ce sl (pc + 3) lv rest σ2) : jx_J l (ll_env G t) (ll_dyn G t) (ll_rg G) sz own nm cc nL ret R Qf ce sl pc lv (.int v :: .ref (G.2 21) :: rest) σ := ll_putnow (k := 7) (ty := .int) hG (by decide) hw rfl (by decide +kernel) rfl rfl (by subst ev; rfl) d kk
theorem ll_gnow_newest {index : Nat} (hw : Cond.fieldLink own index "LampVote$Canal" "newest" "LLampVote$Tide;" ∈ jx_ws) (d : decode cc pc = .ok (.getfield index, 3)) (kk : jx_J l (ll_env G t) (ll_dyn G t) (ll_rg G) sz own nm cc nL ret R Qf ce sl (pc + 3) lv (.ref (t.1 0) :: rest) σ) : jx_J l (ll_env G t) (ll_dyn G t) (ll_rg G) sz own nm cc nL ret R Qf ce sl pc lv (.ref (G.2 21) :: rest) σ := ll_getnow (k := 8) (by decide) hw rfl d kk
theorem ll_gnow_seen {index : Nat} (hw : Cond.fieldLink own index "LampVote$Canal" "seen" "I" ∈ jx_ws) (d : decode cc pc = .ok (.getfield index, 3)) (kk : jx_J l (ll_env G t) (ll_dyn G t) (ll_rg G) sz own nm cc nL ret R Qf ce sl (pc + 3) lv (.int (σ 0 5) :: rest) σ) : jx_J l (ll_env G t) (ll_dyn G t) (ll_rg G) sz own nm cc nL ret R Qf ce sl pc lv (.ref (G.2 21) :: rest) σ := ll_getnow (k := 9) (by decide) hw rfl d kk
theorem ll_pnow_seen {index : Nat} {v : Int32} {σ2 : jx_M} (hG : ll_ok G) (hw : Cond.fieldLink own index "LampVote$Canal" "seen" "I" ∈ jx_ws) (ev : σ2 = jx_mu σ 0 5 v) (d : decode cc pc = .ok (.putfield index, 3)) (kk : jx_J l (ll_env G t) (ll_dyn G t) (ll_rg G) sz own nm cc nL ret R Qf ce sl (pc + 3) lv rest σ2) : jx_J l (ll_env G t) (ll_dyn G t) (ll_rg G) sz own nm cc nL ret R Qf ce sl pc lv (.int v :: .ref (G.2 21) :: rest) σ := ll_putnow (k := 9) (ty := .int) hG (by decide) hw rfl (by decide +kernel) rfl rfl (by subst ev; rfl) d kk
theorem ll_gnow_seenPlace {index : Nat} (hw : Cond.fieldLink own index "LampVote$Canal" "seenPlace" "[I" ∈ jx_ws) (d : decode cc pc = .ok (.getfield index, 3)) (kk : jx_J l (ll_env G t) (ll_dyn G t) (ll_rg G) sz own nm cc nL ret R Qf ce sl (pc + 3) lv (.ref (G.2 115) :: rest) σ) : jx_J l (ll_env G t) (ll_dyn G t) (ll_rg G) sz own nm cc nL ret R Qf ce sl pc lv (.ref (G.2 21) :: rest) σ := ll_getnow (k := 10) (by decide) hw rfl d kk
theorem ll_gnow_seenLamps {index : Nat} (hw : Cond.fieldLink own index "LampVote$Canal" "seenLamps" "[I" ∈ jx_ws) (d : decode cc pc = .ok (.getfield index, 3)) (kk : jx_J l (ll_env G t) (ll_dyn G t) (ll_rg G) sz own nm cc nL ret R Qf ce sl (pc + 3) lv (.ref (G.2 116) :: rest) σ) : jx_J l (ll_env G t) (ll_dyn G t) (ll_rg G) sz own nm cc nL ret R Qf ce sl pc lv (.ref (G.2 21) :: rest) σ := ll_getnow (k := 11) (by decide) hw rfl d kk
theorem ll_gnow_tales {index : Nat} (hw : Cond.fieldLink own index "LampVote$Canal" "tales" "I" ∈ jx_ws) (d : decode cc pc = .ok (.getfield index, 3)) (kk : jx_J l (ll_env G t) (ll_dyn G t) (ll_rg G) sz own nm cc nL ret R Qf ce sl (pc + 3) lv (.int (σ 0 6) :: rest) σ) : jx_J l (ll_env G t) (ll_dyn G t) (ll_rg G) sz own nm cc nL ret R Qf ce sl pc lv (.ref (G.2 21) :: rest) σ := ll_getnow (k := 12) (by decide) hw rfl d kk
theorem ll_pnow_tales {index : Nat} {v : Int32} {σ2 : jx_M} (hG : ll_ok G) (hw : Cond.fieldLink own index "LampVote$Canal" "tales" "I" ∈ jx_ws) (ev : σ2 = jx_mu σ 0 6 v) (d : decode cc pc = .ok (.putfield index, 3)) (kk : jx_J l (ll_env G t) (ll_dyn G t) (ll_rg G) sz own nm cc nL ret R Qf ce sl (pc + 3) lv rest σ2) : jx_J l (ll_env G t) (ll_dyn G t) (ll_rg G) sz own nm cc nL ret R Qf ce sl pc lv (.int v :: .ref (G.2 21) :: rest) σ := ll_putnow (k := 12) (ty := .int) hG (by decide) hw rfl (by decide +kernel) rfl rfl (by subst ev; rfl) d kk
theorem ll_gnow_taleVoter {index : Nat} (hw : Cond.fieldLink own index "LampVote$Canal" "taleVoter" "[I" ∈ jx_ws) (d : decode cc pc = .ok (.getfield index, 3)) (kk : jx_J l (ll_env G t) (ll_dyn G t) (ll_rg G) sz own nm cc nL ret R Qf ce sl (pc + 3) lv (.ref (G.2 117) :: rest) σ) : jx_J l (ll_env G t) (ll_dyn G t) (ll_rg G) sz own nm cc nL ret R Qf ce sl pc lv (.ref (G.2 21) :: rest) σ := ll_getnow (k := 13) (by decide) hw rfl d kk
theorem ll_gnow_taleMinute {index : Nat} (hw : Cond.fieldLink own index "LampVote$Canal" "taleMinute" "[I" ∈ jx_ws) (d : decode cc pc = .ok (.getfield index, 3)) (kk : jx_J l (ll_env G t) (ll_dyn G t) (ll_rg G) sz own nm cc nL ret R Qf ce sl (pc + 3) lv (.ref (G.2 118) :: rest) σ) : jx_J l (ll_env G t) (ll_dyn G t) (ll_rg G) sz own nm cc nL ret R Qf ce sl pc lv (.ref (G.2 21) :: rest) σ := ll_getnow (k := 14) (by decide) hw rfl d kk
theorem ll_gnow_talePlace {index : Nat} (hw : Cond.fieldLink own index "LampVote$Canal" "talePlace" "[I" ∈ jx_ws) (d : decode cc pc = .ok (.getfield index, 3)) (kk : jx_J l (ll_env G t) (ll_dyn G t) (ll_rg G) sz own nm cc nL ret R Qf ce sl (pc + 3) lv (.ref (G.2 119) :: rest) σ) : jx_J l (ll_env G t) (ll_dyn G t) (ll_rg G) sz own nm cc nL ret R Qf ce sl pc lv (.ref (G.2 21) :: rest) σ := ll_getnow (k := 15) (by decide) hw rfl d kk
theorem ll_gnow_here {index : Nat} (hw : Cond.fieldLink own index "LampVote$Canal" "here" "[I" ∈ jx_ws) (d : decode cc pc = .ok (.getfield index, 3)) (kk : jx_J l (ll_env G t) (ll_dyn G t) (ll_rg G) sz own nm cc nL ret R Qf ce sl (pc + 3) lv (.ref (G.2 120) :: rest) σ) : jx_J l (ll_env G t) (ll_dyn G t) (ll_rg G) sz own nm cc nL ret R Qf ce sl pc lv (.ref (G.2 21) :: rest) σ := ll_getnow (k := 16) (by decide) hw rfl d kk
theorem ll_getimage {index k : Nat} {v : Value} (hk0 : k < 17) (hw : Cond.fieldLink own index (TX1 k).1 (TX1 k).2.1 (TX1 k).2.2.1 ∈ jx_ws) (hv : (ll_Fimage G t σ)[k]? = some v) (d : decode cc pc = .ok (.getfield index, 3)) (kk : jx_J l (ll_env G t) (ll_dyn G t) (ll_rg G) sz own nm cc nL ret R Qf ce sl (pc + 3) lv (v :: rest) σ) : jx_J l (ll_env G t) (ll_dyn G t) (ll_rg G) sz own nm cc nL ret R Qf ce sl pc lv (.ref (G.2 22) :: rest) σ := by
  intro p e s m args below meth c C hr hk hn hs hE H locs ls hl hD hS
  exact va_get (D := G.1) (ci := 1) (C := RX1) (T := TX1) (N := 17) C.1 C.2.1 C.2.2.2.2 il_X1 C.2.2.2.1 hE.1 hD 2 rfl rfl k hk0 (C.2.2.2.2 _ hw) (fun _ h => h) hv d (kk p e s m args below meth c C hr hk hn hs hE H locs ls hl hD hS)
theorem ll_putimage {index k : Nat} {v : Value} {ty : FieldType} {σ2 : jx_M} (hG : ll_ok G) (hk0 : k < 17) (hw : Cond.fieldLink own index (TX1 k).1 (TX1 k).2.1 (TX1 k).2.2.1 ∈ jx_ws) (hfin : (TX1 k).2.2.2 = false) (hd : parseFieldDescriptor (TX1 k).2.2.1 = some ty) (hnr : narrow ty v = v) (hfit : fits ty v = true) (hset : (ll_W G t σ).set 2 (G.2 22, .inr (1, (ll_Fimage G t σ).set k v)) = ll_W G t σ2) (d : decode cc pc = .ok (.putfield index, 3)) (kk : jx_J l (ll_env G t) (ll_dyn G t) (ll_rg G) sz own nm cc nL ret R Qf ce sl (pc + 3) lv rest σ2) : jx_J l (ll_env G t) (ll_dyn G t) (ll_rg G) sz own nm cc nL ret R Qf ce sl pc lv (v :: .ref (G.2 22) :: rest) σ := by
  intro p e s m args below meth c C hr hk hn hs hE H locs ls hl hD hS
  refine va_put (D := G.1) (ci := 1) (C := RX1) (T := TX1) (N := 17) C.1 C.2.1 C.2.2.2.2 il_X1 tyX1 tyX1_ok nmX1 C.2.2.2.1 hE.1 hD (ll_D hG t σ sz) hS 2 rfl rfl k hk0 (C.2.2.2.2 _ hw) (fun _ h => h) hfin hd hnr hfit hk0 d (fun H1 locs1 hP1 _ hS1 => ?_)
  rw [hset] at hP1
  exact kk p e s m args below meth c C hr hk hn hs hE H1 locs1 ls hl hP1 hS1
theorem ll_gimage_places {index : Nat} (hw : Cond.fieldLink own index "LampVote$Canal" "places" "I" ∈ jx_ws) (d : decode cc pc = .ok (.getfield index, 3)) (kk : jx_J l (ll_env G t) (ll_dyn G t) (ll_rg G) sz own nm cc nL ret R Qf ce sl (pc + 3) lv (.int (σ 0 10) :: rest) σ) : jx_J l (ll_env G t) (ll_dyn G t) (ll_rg G) sz own nm cc nL ret R Qf ce sl pc lv (.ref (G.2 22) :: rest) σ := ll_getimage (k := 0) (by decide) hw rfl d kk
theorem ll_gimage_place {index : Nat} (hw : Cond.fieldLink own index "LampVote$Canal" "place" "[[I" ∈ jx_ws) (d : decode cc pc = .ok (.getfield index, 3)) (kk : jx_J l (ll_env G t) (ll_dyn G t) (ll_rg G) sz own nm cc nL ret R Qf ce sl (pc + 3) lv (.ref (G.2 303) :: rest) σ) : jx_J l (ll_env G t) (ll_dyn G t) (ll_rg G) sz own nm cc nL ret R Qf ce sl pc lv (.ref (G.2 22) :: rest) σ := ll_getimage (k := 1) (by decide) hw rfl d kk
theorem ll_gimage_minute {index : Nat} (hw : Cond.fieldLink own index "LampVote$Canal" "minute" "I" ∈ jx_ws) (d : decode cc pc = .ok (.getfield index, 3)) (kk : jx_J l (ll_env G t) (ll_dyn G t) (ll_rg G) sz own nm cc nL ret R Qf ce sl (pc + 3) lv (.int (σ 0 11) :: rest) σ) : jx_J l (ll_env G t) (ll_dyn G t) (ll_rg G) sz own nm cc nL ret R Qf ce sl pc lv (.ref (G.2 22) :: rest) σ := ll_getimage (k := 2) (by decide) hw rfl d kk
theorem ll_gimage_voters {index : Nat} (hw : Cond.fieldLink own index "LampVote$Canal" "voters" "I" ∈ jx_ws) (d : decode cc pc = .ok (.getfield index, 3)) (kk : jx_J l (ll_env G t) (ll_dyn G t) (ll_rg G) sz own nm cc nL ret R Qf ce sl (pc + 3) lv (.int (σ 0 12) :: rest) σ) : jx_J l (ll_env G t) (ll_dyn G t) (ll_rg G) sz own nm cc nL ret R Qf ce sl pc lv (.ref (G.2 22) :: rest) σ := ll_getimage (k := 3) (by decide) hw rfl d kk
theorem ll_gimage_voter {index : Nat} (hw : Cond.fieldLink own index "LampVote$Canal" "voter" "[[I" ∈ jx_ws) (d : decode cc pc = .ok (.getfield index, 3)) (kk : jx_J l (ll_env G t) (ll_dyn G t) (ll_rg G) sz own nm cc nL ret R Qf ce sl (pc + 3) lv (.ref (G.2 304) :: rest) σ) : jx_J l (ll_env G t) (ll_dyn G t) (ll_rg G) sz own nm cc nL ret R Qf ce sl pc lv (.ref (G.2 22) :: rest) σ := ll_getimage (k := 4) (by decide) hw rfl d kk
theorem ll_gimage_signs {index : Nat} (hw : Cond.fieldLink own index "LampVote$Canal" "signs" "I" ∈ jx_ws) (d : decode cc pc = .ok (.getfield index, 3)) (kk : jx_J l (ll_env G t) (ll_dyn G t) (ll_rg G) sz own nm cc nL ret R Qf ce sl (pc + 3) lv (.int (σ 0 13) :: rest) σ) : jx_J l (ll_env G t) (ll_dyn G t) (ll_rg G) sz own nm cc nL ret R Qf ce sl pc lv (.ref (G.2 22) :: rest) σ := ll_getimage (k := 5) (by decide) hw rfl d kk
theorem ll_gimage_tape {index : Nat} (hw : Cond.fieldLink own index "LampVote$Canal" "tape" "[I" ∈ jx_ws) (d : decode cc pc = .ok (.getfield index, 3)) (kk : jx_J l (ll_env G t) (ll_dyn G t) (ll_rg G) sz own nm cc nL ret R Qf ce sl (pc + 3) lv (.ref (G.2 134) :: rest) σ) : jx_J l (ll_env G t) (ll_dyn G t) (ll_rg G) sz own nm cc nL ret R Qf ce sl pc lv (.ref (G.2 22) :: rest) σ := ll_getimage (k := 6) (by decide) hw rfl d kk
theorem ll_gimage_tides {index : Nat} (hw : Cond.fieldLink own index "LampVote$Canal" "tides" "I" ∈ jx_ws) (d : decode cc pc = .ok (.getfield index, 3)) (kk : jx_J l (ll_env G t) (ll_dyn G t) (ll_rg G) sz own nm cc nL ret R Qf ce sl (pc + 3) lv (.int (σ 0 14) :: rest) σ) : jx_J l (ll_env G t) (ll_dyn G t) (ll_rg G) sz own nm cc nL ret R Qf ce sl pc lv (.ref (G.2 22) :: rest) σ := ll_getimage (k := 7) (by decide) hw rfl d kk
theorem ll_gimage_newest {index : Nat} (hw : Cond.fieldLink own index "LampVote$Canal" "newest" "LLampVote$Tide;" ∈ jx_ws) (d : decode cc pc = .ok (.getfield index, 3)) (kk : jx_J l (ll_env G t) (ll_dyn G t) (ll_rg G) sz own nm cc nL ret R Qf ce sl (pc + 3) lv (.ref (t.1 10) :: rest) σ) : jx_J l (ll_env G t) (ll_dyn G t) (ll_rg G) sz own nm cc nL ret R Qf ce sl pc lv (.ref (G.2 22) :: rest) σ := ll_getimage (k := 8) (by decide) hw rfl d kk
theorem ll_gimage_seen {index : Nat} (hw : Cond.fieldLink own index "LampVote$Canal" "seen" "I" ∈ jx_ws) (d : decode cc pc = .ok (.getfield index, 3)) (kk : jx_J l (ll_env G t) (ll_dyn G t) (ll_rg G) sz own nm cc nL ret R Qf ce sl (pc + 3) lv (.int (σ 0 15) :: rest) σ) : jx_J l (ll_env G t) (ll_dyn G t) (ll_rg G) sz own nm cc nL ret R Qf ce sl pc lv (.ref (G.2 22) :: rest) σ := ll_getimage (k := 9) (by decide) hw rfl d kk
theorem ll_gimage_seenPlace {index : Nat} (hw : Cond.fieldLink own index "LampVote$Canal" "seenPlace" "[I" ∈ jx_ws) (d : decode cc pc = .ok (.getfield index, 3)) (kk : jx_J l (ll_env G t) (ll_dyn G t) (ll_rg G) sz own nm cc nL ret R Qf ce sl (pc + 3) lv (.ref (G.2 135) :: rest) σ) : jx_J l (ll_env G t) (ll_dyn G t) (ll_rg G) sz own nm cc nL ret R Qf ce sl pc lv (.ref (G.2 22) :: rest) σ := ll_getimage (k := 10) (by decide) hw rfl d kk
theorem ll_gimage_seenLamps {index : Nat} (hw : Cond.fieldLink own index "LampVote$Canal" "seenLamps" "[I" ∈ jx_ws) (d : decode cc pc = .ok (.getfield index, 3)) (kk : jx_J l (ll_env G t) (ll_dyn G t) (ll_rg G) sz own nm cc nL ret R Qf ce sl (pc + 3) lv (.ref (G.2 136) :: rest) σ) : jx_J l (ll_env G t) (ll_dyn G t) (ll_rg G) sz own nm cc nL ret R Qf ce sl pc lv (.ref (G.2 22) :: rest) σ := ll_getimage (k := 11) (by decide) hw rfl d kk
theorem ll_gimage_tales {index : Nat} (hw : Cond.fieldLink own index "LampVote$Canal" "tales" "I" ∈ jx_ws) (d : decode cc pc = .ok (.getfield index, 3)) (kk : jx_J l (ll_env G t) (ll_dyn G t) (ll_rg G) sz own nm cc nL ret R Qf ce sl (pc + 3) lv (.int (σ 0 16) :: rest) σ) : jx_J l (ll_env G t) (ll_dyn G t) (ll_rg G) sz own nm cc nL ret R Qf ce sl pc lv (.ref (G.2 22) :: rest) σ := ll_getimage (k := 12) (by decide) hw rfl d kk
theorem ll_gimage_taleVoter {index : Nat} (hw : Cond.fieldLink own index "LampVote$Canal" "taleVoter" "[I" ∈ jx_ws) (d : decode cc pc = .ok (.getfield index, 3)) (kk : jx_J l (ll_env G t) (ll_dyn G t) (ll_rg G) sz own nm cc nL ret R Qf ce sl (pc + 3) lv (.ref (G.2 137) :: rest) σ) : jx_J l (ll_env G t) (ll_dyn G t) (ll_rg G) sz own nm cc nL ret R Qf ce sl pc lv (.ref (G.2 22) :: rest) σ := ll_getimage (k := 13) (by decide) hw rfl d kk
theorem ll_gimage_taleMinute {index : Nat} (hw : Cond.fieldLink own index "LampVote$Canal" "taleMinute" "[I" ∈ jx_ws) (d : decode cc pc = .ok (.getfield index, 3)) (kk : jx_J l (ll_env G t) (ll_dyn G t) (ll_rg G) sz own nm cc nL ret R Qf ce sl (pc + 3) lv (.ref (G.2 138) :: rest) σ) : jx_J l (ll_env G t) (ll_dyn G t) (ll_rg G) sz own nm cc nL ret R Qf ce sl pc lv (.ref (G.2 22) :: rest) σ := ll_getimage (k := 14) (by decide) hw rfl d kk
theorem ll_gimage_talePlace {index : Nat} (hw : Cond.fieldLink own index "LampVote$Canal" "talePlace" "[I" ∈ jx_ws) (d : decode cc pc = .ok (.getfield index, 3)) (kk : jx_J l (ll_env G t) (ll_dyn G t) (ll_rg G) sz own nm cc nL ret R Qf ce sl (pc + 3) lv (.ref (G.2 139) :: rest) σ) : jx_J l (ll_env G t) (ll_dyn G t) (ll_rg G) sz own nm cc nL ret R Qf ce sl pc lv (.ref (G.2 22) :: rest) σ := ll_getimage (k := 15) (by decide) hw rfl d kk
theorem ll_gimage_here {index : Nat} (hw : Cond.fieldLink own index "LampVote$Canal" "here" "[I" ∈ jx_ws) (d : decode cc pc = .ok (.getfield index, 3)) (kk : jx_J l (ll_env G t) (ll_dyn G t) (ll_rg G) sz own nm cc nL ret R Qf ce sl (pc + 3) lv (.ref (G.2 140) :: rest) σ) : jx_J l (ll_env G t) (ll_dyn G t) (ll_rg G) sz own nm cc nL ret R Qf ce sl pc lv (.ref (G.2 22) :: rest) σ := ll_getimage (k := 16) (by decide) hw rfl d kk
theorem ll_getnight {index k : Nat} {v : Value} (hk0 : k < 8) (hw : Cond.fieldLink own index (TX2 k).1 (TX2 k).2.1 (TX2 k).2.2.1 ∈ jx_ws) (hv : (ll_Fnight G t σ)[k]? = some v) (d : decode cc pc = .ok (.getfield index, 3)) (kk : jx_J l (ll_env G t) (ll_dyn G t) (ll_rg G) sz own nm cc nL ret R Qf ce sl (pc + 3) lv (v :: rest) σ) : jx_J l (ll_env G t) (ll_dyn G t) (ll_rg G) sz own nm cc nL ret R Qf ce sl pc lv (.ref (G.2 23) :: rest) σ := by
  intro p e s m args below meth c C hr hk hn hs hE H locs ls hl hD hS
  exact va_get (D := G.1) (ci := 2) (C := RX2) (T := TX2) (N := 8) C.1 C.2.1 C.2.2.2.2 il_X2 C.2.2.2.1 hE.1 hD 3 rfl rfl k hk0 (C.2.2.2.2 _ hw) (fun _ h => h) hv d (kk p e s m args below meth c C hr hk hn hs hE H locs ls hl hD hS)
theorem ll_putnight {index k : Nat} {v : Value} {ty : FieldType} {σ2 : jx_M} (hG : ll_ok G) (hk0 : k < 8) (hw : Cond.fieldLink own index (TX2 k).1 (TX2 k).2.1 (TX2 k).2.2.1 ∈ jx_ws) (hfin : (TX2 k).2.2.2 = false) (hd : parseFieldDescriptor (TX2 k).2.2.1 = some ty) (hnr : narrow ty v = v) (hfit : fits ty v = true) (hset : (ll_W G t σ).set 3 (G.2 23, .inr (2, (ll_Fnight G t σ).set k v)) = ll_W G t σ2) (d : decode cc pc = .ok (.putfield index, 3)) (kk : jx_J l (ll_env G t) (ll_dyn G t) (ll_rg G) sz own nm cc nL ret R Qf ce sl (pc + 3) lv rest σ2) : jx_J l (ll_env G t) (ll_dyn G t) (ll_rg G) sz own nm cc nL ret R Qf ce sl pc lv (v :: .ref (G.2 23) :: rest) σ := by
  intro p e s m args below meth c C hr hk hn hs hE H locs ls hl hD hS
  refine va_put (D := G.1) (ci := 2) (C := RX2) (T := TX2) (N := 8) C.1 C.2.1 C.2.2.2.2 il_X2 tyX2 tyX2_ok nmX2 C.2.2.2.1 hE.1 hD (ll_D hG t σ sz) hS 3 rfl rfl k hk0 (C.2.2.2.2 _ hw) (fun _ h => h) hfin hd hnr hfit hk0 d (fun H1 locs1 hP1 _ hS1 => ?_)
  rw [hset] at hP1
  exact kk p e s m args below meth c C hr hk hn hs hE H1 locs1 ls hl hP1 hS1
theorem ll_gnight_canal {index : Nat} (hw : Cond.fieldLink own index "LampVote$Night" "canal" "LLampVote$Canal;" ∈ jx_ws) (d : decode cc pc = .ok (.getfield index, 3)) (kk : jx_J l (ll_env G t) (ll_dyn G t) (ll_rg G) sz own nm cc nL ret R Qf ce sl (pc + 3) lv (.ref (G.2 21) :: rest) σ) : jx_J l (ll_env G t) (ll_dyn G t) (ll_rg G) sz own nm cc nL ret R Qf ce sl pc lv (.ref (G.2 23) :: rest) σ := ll_getnight (k := 0) (by decide) hw rfl d kk
theorem ll_gnight_goal {index : Nat} (hw : Cond.fieldLink own index "LampVote$Night" "goal" "[[I" ∈ jx_ws) (d : decode cc pc = .ok (.getfield index, 3)) (kk : jx_J l (ll_env G t) (ll_dyn G t) (ll_rg G) sz own nm cc nL ret R Qf ce sl (pc + 3) lv (.ref (G.2 305) :: rest) σ) : jx_J l (ll_env G t) (ll_dyn G t) (ll_rg G) sz own nm cc nL ret R Qf ce sl pc lv (.ref (G.2 23) :: rest) σ := ll_getnight (k := 1) (by decide) hw rfl d kk
theorem ll_gnight_filled {index : Nat} (hw : Cond.fieldLink own index "LampVote$Night" "filled" "[[I" ∈ jx_ws) (d : decode cc pc = .ok (.getfield index, 3)) (kk : jx_J l (ll_env G t) (ll_dyn G t) (ll_rg G) sz own nm cc nL ret R Qf ce sl (pc + 3) lv (.ref (G.2 306) :: rest) σ) : jx_J l (ll_env G t) (ll_dyn G t) (ll_rg G) sz own nm cc nL ret R Qf ce sl pc lv (.ref (G.2 23) :: rest) σ := ll_getnight (k := 2) (by decide) hw rfl d kk
theorem ll_gnight_weight {index : Nat} (hw : Cond.fieldLink own index "LampVote$Night" "weight" "[I" ∈ jx_ws) (d : decode cc pc = .ok (.getfield index, 3)) (kk : jx_J l (ll_env G t) (ll_dyn G t) (ll_rg G) sz own nm cc nL ret R Qf ce sl (pc + 3) lv (.ref (G.2 156) :: rest) σ) : jx_J l (ll_env G t) (ll_dyn G t) (ll_rg G) sz own nm cc nL ret R Qf ce sl pc lv (.ref (G.2 23) :: rest) σ := ll_getnight (k := 3) (by decide) hw rfl d kk
theorem ll_gnight_lamps {index : Nat} (hw : Cond.fieldLink own index "LampVote$Night" "lamps" "[I" ∈ jx_ws) (d : decode cc pc = .ok (.getfield index, 3)) (kk : jx_J l (ll_env G t) (ll_dyn G t) (ll_rg G) sz own nm cc nL ret R Qf ce sl (pc + 3) lv (.ref (G.2 157) :: rest) σ) : jx_J l (ll_env G t) (ll_dyn G t) (ll_rg G) sz own nm cc nL ret R Qf ce sl pc lv (.ref (G.2 23) :: rest) σ := ll_getnight (k := 4) (by decide) hw rfl d kk
theorem ll_gnight_stick {index : Nat} (hw : Cond.fieldLink own index "LampVote$Night" "stick" "I" ∈ jx_ws) (d : decode cc pc = .ok (.getfield index, 3)) (kk : jx_J l (ll_env G t) (ll_dyn G t) (ll_rg G) sz own nm cc nL ret R Qf ce sl (pc + 3) lv (.int (σ 0 20) :: rest) σ) : jx_J l (ll_env G t) (ll_dyn G t) (ll_rg G) sz own nm cc nL ret R Qf ce sl pc lv (.ref (G.2 23) :: rest) σ := ll_getnight (k := 5) (by decide) hw rfl d kk
theorem ll_pnight_stick {index : Nat} {v : Int32} {σ2 : jx_M} (hG : ll_ok G) (hw : Cond.fieldLink own index "LampVote$Night" "stick" "I" ∈ jx_ws) (ev : σ2 = jx_mu σ 0 20 v) (d : decode cc pc = .ok (.putfield index, 3)) (kk : jx_J l (ll_env G t) (ll_dyn G t) (ll_rg G) sz own nm cc nL ret R Qf ce sl (pc + 3) lv rest σ2) : jx_J l (ll_env G t) (ll_dyn G t) (ll_rg G) sz own nm cc nL ret R Qf ce sl pc lv (.int v :: .ref (G.2 23) :: rest) σ := ll_putnight (k := 5) (ty := .int) hG (by decide) hw rfl (by decide +kernel) rfl rfl (by subst ev; rfl) d kk
theorem ll_gnight_lie {index : Nat} (hw : Cond.fieldLink own index "LampVote$Night" "lie" "[I" ∈ jx_ws) (d : decode cc pc = .ok (.getfield index, 3)) (kk : jx_J l (ll_env G t) (ll_dyn G t) (ll_rg G) sz own nm cc nL ret R Qf ce sl (pc + 3) lv (.ref (G.2 158) :: rest) σ) : jx_J l (ll_env G t) (ll_dyn G t) (ll_rg G) sz own nm cc nL ret R Qf ce sl pc lv (.ref (G.2 23) :: rest) σ := ll_getnight (k := 6) (by decide) hw rfl d kk
theorem ll_gnight_worth {index : Nat} (hw : Cond.fieldLink own index "LampVote$Night" "worth" "[I" ∈ jx_ws) (d : decode cc pc = .ok (.getfield index, 3)) (kk : jx_J l (ll_env G t) (ll_dyn G t) (ll_rg G) sz own nm cc nL ret R Qf ce sl (pc + 3) lv (.ref (G.2 159) :: rest) σ) : jx_J l (ll_env G t) (ll_dyn G t) (ll_rg G) sz own nm cc nL ret R Qf ce sl pc lv (.ref (G.2 23) :: rest) σ := ll_getnight (k := 7) (by decide) hw rfl d kk
theorem ll_getacts {index k : Nat} {v : Value} (hk0 : k < 3) (hw : Cond.fieldLink own index (TX0 k).1 (TX0 k).2.1 (TX0 k).2.2.1 ∈ jx_ws) (hv : (ll_Facts G t σ)[k]? = some v) (d : decode cc pc = .ok (.getfield index, 3)) (kk : jx_J l (ll_env G t) (ll_dyn G t) (ll_rg G) sz own nm cc nL ret R Qf ce sl (pc + 3) lv (v :: rest) σ) : jx_J l (ll_env G t) (ll_dyn G t) (ll_rg G) sz own nm cc nL ret R Qf ce sl pc lv (.ref (G.2 24) :: rest) σ := by
  intro p e s m args below meth c C hr hk hn hs hE H locs ls hl hD hS
  exact va_get (D := G.1) (ci := 0) (C := RX0) (T := TX0) (N := 3) C.1 C.2.1 C.2.2.2.2 il_X0 C.2.2.2.1 hE.1 hD 4 rfl rfl k hk0 (C.2.2.2.2 _ hw) (fun _ h => h) hv d (kk p e s m args below meth c C hr hk hn hs hE H locs ls hl hD hS)
theorem ll_putacts {index k : Nat} {v : Value} {ty : FieldType} {σ2 : jx_M} (hG : ll_ok G) (hk0 : k < 3) (hw : Cond.fieldLink own index (TX0 k).1 (TX0 k).2.1 (TX0 k).2.2.1 ∈ jx_ws) (hfin : (TX0 k).2.2.2 = false) (hd : parseFieldDescriptor (TX0 k).2.2.1 = some ty) (hnr : narrow ty v = v) (hfit : fits ty v = true) (hset : (ll_W G t σ).set 4 (G.2 24, .inr (0, (ll_Facts G t σ).set k v)) = ll_W G t σ2) (d : decode cc pc = .ok (.putfield index, 3)) (kk : jx_J l (ll_env G t) (ll_dyn G t) (ll_rg G) sz own nm cc nL ret R Qf ce sl (pc + 3) lv rest σ2) : jx_J l (ll_env G t) (ll_dyn G t) (ll_rg G) sz own nm cc nL ret R Qf ce sl pc lv (v :: .ref (G.2 24) :: rest) σ := by
  intro p e s m args below meth c C hr hk hn hs hE H locs ls hl hD hS
  refine va_put (D := G.1) (ci := 0) (C := RX0) (T := TX0) (N := 3) C.1 C.2.1 C.2.2.2.2 il_X0 tyX0 tyX0_ok nmX0 C.2.2.2.1 hE.1 hD (ll_D hG t σ sz) hS 4 rfl rfl k hk0 (C.2.2.2.2 _ hw) (fun _ h => h) hfin hd hnr hfit hk0 d (fun H1 locs1 hP1 _ hS1 => ?_)
  rw [hset] at hP1
  exact kk p e s m args below meth c C hr hk hn hs hE H1 locs1 ls hl hP1 hS1
theorem ll_gacts_canal {index : Nat} (hw : Cond.fieldLink own index "LampVote$Acts" "canal" "LLampVote$Canal;" ∈ jx_ws) (d : decode cc pc = .ok (.getfield index, 3)) (kk : jx_J l (ll_env G t) (ll_dyn G t) (ll_rg G) sz own nm cc nL ret R Qf ce sl (pc + 3) lv (.ref (G.2 21) :: rest) σ) : jx_J l (ll_env G t) (ll_dyn G t) (ll_rg G) sz own nm cc nL ret R Qf ce sl pc lv (.ref (G.2 24) :: rest) σ := ll_getacts (k := 0) (by decide) hw rfl d kk
theorem ll_gacts_bodies {index : Nat} (hw : Cond.fieldLink own index "LampVote$Acts" "bodies" "[I" ∈ jx_ws) (d : decode cc pc = .ok (.getfield index, 3)) (kk : jx_J l (ll_env G t) (ll_dyn G t) (ll_rg G) sz own nm cc nL ret R Qf ce sl (pc + 3) lv (.ref (G.2 160) :: rest) σ) : jx_J l (ll_env G t) (ll_dyn G t) (ll_rg G) sz own nm cc nL ret R Qf ce sl pc lv (.ref (G.2 24) :: rest) σ := ll_getacts (k := 1) (by decide) hw rfl d kk
theorem ll_gacts_ran {index : Nat} (hw : Cond.fieldLink own index "LampVote$Acts" "ran" "I" ∈ jx_ws) (d : decode cc pc = .ok (.getfield index, 3)) (kk : jx_J l (ll_env G t) (ll_dyn G t) (ll_rg G) sz own nm cc nL ret R Qf ce sl (pc + 3) lv (.int (σ 0 21) :: rest) σ) : jx_J l (ll_env G t) (ll_dyn G t) (ll_rg G) sz own nm cc nL ret R Qf ce sl pc lv (.ref (G.2 24) :: rest) σ := ll_getacts (k := 2) (by decide) hw rfl d kk
theorem ll_pacts_ran {index : Nat} {v : Int32} {σ2 : jx_M} (hG : ll_ok G) (hw : Cond.fieldLink own index "LampVote$Acts" "ran" "I" ∈ jx_ws) (ev : σ2 = jx_mu σ 0 21 v) (d : decode cc pc = .ok (.putfield index, 3)) (kk : jx_J l (ll_env G t) (ll_dyn G t) (ll_rg G) sz own nm cc nL ret R Qf ce sl (pc + 3) lv rest σ2) : jx_J l (ll_env G t) (ll_dyn G t) (ll_rg G) sz own nm cc nL ret R Qf ce sl pc lv (.int v :: .ref (G.2 24) :: rest) σ := ll_putacts (k := 2) (ty := .int) hG (by decide) hw rfl (by decide +kernel) rfl rfl (by subst ev; rfl) d kk
theorem ll_getreader {index k : Nat} {v : Value} (hk0 : k < 15) (hw : Cond.fieldLink own index (TX3 k).1 (TX3 k).2.1 (TX3 k).2.2.1 ∈ jx_ws) (hv : (ll_Freader G t σ)[k]? = some v) (d : decode cc pc = .ok (.getfield index, 3)) (kk : jx_J l (ll_env G t) (ll_dyn G t) (ll_rg G) sz own nm cc nL ret R Qf ce sl (pc + 3) lv (v :: rest) σ) : jx_J l (ll_env G t) (ll_dyn G t) (ll_rg G) sz own nm cc nL ret R Qf ce sl pc lv (.ref (G.2 25) :: rest) σ := by
  intro p e s m args below meth c C hr hk hn hs hE H locs ls hl hD hS
  exact va_get (D := G.1) (ci := 3) (C := RX3) (T := TX3) (N := 15) C.1 C.2.1 C.2.2.2.2 il_X3 C.2.2.2.1 hE.1 hD 5 rfl rfl k hk0 (C.2.2.2.2 _ hw) (fun _ h => h) hv d (kk p e s m args below meth c C hr hk hn hs hE H locs ls hl hD hS)
theorem ll_putreader {index k : Nat} {v : Value} {ty : FieldType} {σ2 : jx_M} (hG : ll_ok G) (hk0 : k < 15) (hw : Cond.fieldLink own index (TX3 k).1 (TX3 k).2.1 (TX3 k).2.2.1 ∈ jx_ws) (hfin : (TX3 k).2.2.2 = false) (hd : parseFieldDescriptor (TX3 k).2.2.1 = some ty) (hnr : narrow ty v = v) (hfit : fits ty v = true) (hset : (ll_W G t σ).set 5 (G.2 25, .inr (3, (ll_Freader G t σ).set k v)) = ll_W G t σ2) (d : decode cc pc = .ok (.putfield index, 3)) (kk : jx_J l (ll_env G t) (ll_dyn G t) (ll_rg G) sz own nm cc nL ret R Qf ce sl (pc + 3) lv rest σ2) : jx_J l (ll_env G t) (ll_dyn G t) (ll_rg G) sz own nm cc nL ret R Qf ce sl pc lv (v :: .ref (G.2 25) :: rest) σ := by
  intro p e s m args below meth c C hr hk hn hs hE H locs ls hl hD hS
  refine va_put (D := G.1) (ci := 3) (C := RX3) (T := TX3) (N := 15) C.1 C.2.1 C.2.2.2.2 il_X3 tyX3 tyX3_ok nmX3 C.2.2.2.1 hE.1 hD (ll_D hG t σ sz) hS 5 rfl rfl k hk0 (C.2.2.2.2 _ hw) (fun _ h => h) hfin hd hnr hfit hk0 d (fun H1 locs1 hP1 _ hS1 => ?_)
  rw [hset] at hP1
  exact kk p e s m args below meth c C hr hk hn hs hE H1 locs1 ls hl hP1 hS1
theorem ll_greader_words {index : Nat} (hw : Cond.fieldLink own index "LampVote$Reader" "words" "[I" ∈ jx_ws) (d : decode cc pc = .ok (.getfield index, 3)) (kk : jx_J l (ll_env G t) (ll_dyn G t) (ll_rg G) sz own nm cc nL ret R Qf ce sl (pc + 3) lv (.ref (G.2 161) :: rest) σ) : jx_J l (ll_env G t) (ll_dyn G t) (ll_rg G) sz own nm cc nL ret R Qf ce sl pc lv (.ref (G.2 25) :: rest) σ := ll_getreader (k := 0) (by decide) hw rfl d kk
theorem ll_greader_amounts {index : Nat} (hw : Cond.fieldLink own index "LampVote$Reader" "amounts" "[I" ∈ jx_ws) (d : decode cc pc = .ok (.getfield index, 3)) (kk : jx_J l (ll_env G t) (ll_dyn G t) (ll_rg G) sz own nm cc nL ret R Qf ce sl (pc + 3) lv (.ref (G.2 162) :: rest) σ) : jx_J l (ll_env G t) (ll_dyn G t) (ll_rg G) sz own nm cc nL ret R Qf ce sl pc lv (.ref (G.2 25) :: rest) σ := ll_getreader (k := 1) (by decide) hw rfl d kk
theorem ll_greader_ends {index : Nat} (hw : Cond.fieldLink own index "LampVote$Reader" "ends" "[I" ∈ jx_ws) (d : decode cc pc = .ok (.getfield index, 3)) (kk : jx_J l (ll_env G t) (ll_dyn G t) (ll_rg G) sz own nm cc nL ret R Qf ce sl (pc + 3) lv (.ref (G.2 163) :: rest) σ) : jx_J l (ll_env G t) (ll_dyn G t) (ll_rg G) sz own nm cc nL ret R Qf ce sl pc lv (.ref (G.2 25) :: rest) σ := ll_getreader (k := 2) (by decide) hw rfl d kk
theorem ll_greader_code {index : Nat} (hw : Cond.fieldLink own index "LampVote$Reader" "code" "[I" ∈ jx_ws) (d : decode cc pc = .ok (.getfield index, 3)) (kk : jx_J l (ll_env G t) (ll_dyn G t) (ll_rg G) sz own nm cc nL ret R Qf ce sl (pc + 3) lv (.ref (G.2 164) :: rest) σ) : jx_J l (ll_env G t) (ll_dyn G t) (ll_rg G) sz own nm cc nL ret R Qf ce sl pc lv (.ref (G.2 25) :: rest) σ := ll_getreader (k := 3) (by decide) hw rfl d kk
theorem ll_greader_pending {index : Nat} (hw : Cond.fieldLink own index "LampVote$Reader" "pending" "[I" ∈ jx_ws) (d : decode cc pc = .ok (.getfield index, 3)) (kk : jx_J l (ll_env G t) (ll_dyn G t) (ll_rg G) sz own nm cc nL ret R Qf ce sl (pc + 3) lv (.ref (G.2 165) :: rest) σ) : jx_J l (ll_env G t) (ll_dyn G t) (ll_rg G) sz own nm cc nL ret R Qf ce sl pc lv (.ref (G.2 25) :: rest) σ := ll_getreader (k := 4) (by decide) hw rfl d kk
theorem ll_greader_clauses {index : Nat} (hw : Cond.fieldLink own index "LampVote$Reader" "clauses" "I" ∈ jx_ws) (d : decode cc pc = .ok (.getfield index, 3)) (kk : jx_J l (ll_env G t) (ll_dyn G t) (ll_rg G) sz own nm cc nL ret R Qf ce sl (pc + 3) lv (.int (σ 0 30) :: rest) σ) : jx_J l (ll_env G t) (ll_dyn G t) (ll_rg G) sz own nm cc nL ret R Qf ce sl pc lv (.ref (G.2 25) :: rest) σ := ll_getreader (k := 5) (by decide) hw rfl d kk
theorem ll_preader_clauses {index : Nat} {v : Int32} {σ2 : jx_M} (hG : ll_ok G) (hw : Cond.fieldLink own index "LampVote$Reader" "clauses" "I" ∈ jx_ws) (ev : σ2 = jx_mu σ 0 30 v) (d : decode cc pc = .ok (.putfield index, 3)) (kk : jx_J l (ll_env G t) (ll_dyn G t) (ll_rg G) sz own nm cc nL ret R Qf ce sl (pc + 3) lv rest σ2) : jx_J l (ll_env G t) (ll_dyn G t) (ll_rg G) sz own nm cc nL ret R Qf ce sl pc lv (.int v :: .ref (G.2 25) :: rest) σ := ll_putreader (k := 5) (ty := .int) hG (by decide) hw rfl (by decide +kernel) rfl rfl (by subst ev; rfl) d kk
theorem ll_greader_codes {index : Nat} (hw : Cond.fieldLink own index "LampVote$Reader" "codes" "I" ∈ jx_ws) (d : decode cc pc = .ok (.getfield index, 3)) (kk : jx_J l (ll_env G t) (ll_dyn G t) (ll_rg G) sz own nm cc nL ret R Qf ce sl (pc + 3) lv (.int (σ 0 31) :: rest) σ) : jx_J l (ll_env G t) (ll_dyn G t) (ll_rg G) sz own nm cc nL ret R Qf ce sl pc lv (.ref (G.2 25) :: rest) σ := ll_getreader (k := 6) (by decide) hw rfl d kk
theorem ll_preader_codes {index : Nat} {v : Int32} {σ2 : jx_M} (hG : ll_ok G) (hw : Cond.fieldLink own index "LampVote$Reader" "codes" "I" ∈ jx_ws) (ev : σ2 = jx_mu σ 0 31 v) (d : decode cc pc = .ok (.putfield index, 3)) (kk : jx_J l (ll_env G t) (ll_dyn G t) (ll_rg G) sz own nm cc nL ret R Qf ce sl (pc + 3) lv rest σ2) : jx_J l (ll_env G t) (ll_dyn G t) (ll_rg G) sz own nm cc nL ret R Qf ce sl pc lv (.int v :: .ref (G.2 25) :: rest) σ := ll_putreader (k := 6) (ty := .int) hG (by decide) hw rfl (by decide +kernel) rfl rfl (by subst ev; rfl) d kk
theorem ll_greader_pended {index : Nat} (hw : Cond.fieldLink own index "LampVote$Reader" "pended" "I" ∈ jx_ws) (d : decode cc pc = .ok (.getfield index, 3)) (kk : jx_J l (ll_env G t) (ll_dyn G t) (ll_rg G) sz own nm cc nL ret R Qf ce sl (pc + 3) lv (.int (σ 0 32) :: rest) σ) : jx_J l (ll_env G t) (ll_dyn G t) (ll_rg G) sz own nm cc nL ret R Qf ce sl pc lv (.ref (G.2 25) :: rest) σ := ll_getreader (k := 7) (by decide) hw rfl d kk
theorem ll_preader_pended {index : Nat} {v : Int32} {σ2 : jx_M} (hG : ll_ok G) (hw : Cond.fieldLink own index "LampVote$Reader" "pended" "I" ∈ jx_ws) (ev : σ2 = jx_mu σ 0 32 v) (d : decode cc pc = .ok (.putfield index, 3)) (kk : jx_J l (ll_env G t) (ll_dyn G t) (ll_rg G) sz own nm cc nL ret R Qf ce sl (pc + 3) lv rest σ2) : jx_J l (ll_env G t) (ll_dyn G t) (ll_rg G) sz own nm cc nL ret R Qf ce sl pc lv (.int v :: .ref (G.2 25) :: rest) σ := ll_putreader (k := 7) (ty := .int) hG (by decide) hw rfl (by decide +kernel) rfl rfl (by subst ev; rfl) d kk
theorem ll_greader_open {index : Nat} (hw : Cond.fieldLink own index "LampVote$Reader" "open" "I" ∈ jx_ws) (d : decode cc pc = .ok (.getfield index, 3)) (kk : jx_J l (ll_env G t) (ll_dyn G t) (ll_rg G) sz own nm cc nL ret R Qf ce sl (pc + 3) lv (.int (σ 0 33) :: rest) σ) : jx_J l (ll_env G t) (ll_dyn G t) (ll_rg G) sz own nm cc nL ret R Qf ce sl pc lv (.ref (G.2 25) :: rest) σ := ll_getreader (k := 8) (by decide) hw rfl d kk
theorem ll_preader_open {index : Nat} {v : Int32} {σ2 : jx_M} (hG : ll_ok G) (hw : Cond.fieldLink own index "LampVote$Reader" "open" "I" ∈ jx_ws) (ev : σ2 = jx_mu σ 0 33 v) (d : decode cc pc = .ok (.putfield index, 3)) (kk : jx_J l (ll_env G t) (ll_dyn G t) (ll_rg G) sz own nm cc nL ret R Qf ce sl (pc + 3) lv rest σ2) : jx_J l (ll_env G t) (ll_dyn G t) (ll_rg G) sz own nm cc nL ret R Qf ce sl pc lv (.int v :: .ref (G.2 25) :: rest) σ := ll_putreader (k := 8) (ty := .int) hG (by decide) hw rfl (by decide +kernel) rfl rfl (by subst ev; rfl) d kk
theorem ll_greader_due {index : Nat} (hw : Cond.fieldLink own index "LampVote$Reader" "due" "I" ∈ jx_ws) (d : decode cc pc = .ok (.getfield index, 3)) (kk : jx_J l (ll_env G t) (ll_dyn G t) (ll_rg G) sz own nm cc nL ret R Qf ce sl (pc + 3) lv (.int (σ 0 34) :: rest) σ) : jx_J l (ll_env G t) (ll_dyn G t) (ll_rg G) sz own nm cc nL ret R Qf ce sl pc lv (.ref (G.2 25) :: rest) σ := ll_getreader (k := 9) (by decide) hw rfl d kk
theorem ll_preader_due {index : Nat} {v : Int32} {σ2 : jx_M} (hG : ll_ok G) (hw : Cond.fieldLink own index "LampVote$Reader" "due" "I" ∈ jx_ws) (ev : σ2 = jx_mu σ 0 34 v) (d : decode cc pc = .ok (.putfield index, 3)) (kk : jx_J l (ll_env G t) (ll_dyn G t) (ll_rg G) sz own nm cc nL ret R Qf ce sl (pc + 3) lv rest σ2) : jx_J l (ll_env G t) (ll_dyn G t) (ll_rg G) sz own nm cc nL ret R Qf ce sl pc lv (.int v :: .ref (G.2 25) :: rest) σ := ll_putreader (k := 9) (ty := .int) hG (by decide) hw rfl (by decide +kernel) rfl rfl (by subst ev; rfl) d kk
theorem ll_greader_word {index : Nat} (hw : Cond.fieldLink own index "LampVote$Reader" "word" "I" ∈ jx_ws) (d : decode cc pc = .ok (.getfield index, 3)) (kk : jx_J l (ll_env G t) (ll_dyn G t) (ll_rg G) sz own nm cc nL ret R Qf ce sl (pc + 3) lv (.int (σ 0 35) :: rest) σ) : jx_J l (ll_env G t) (ll_dyn G t) (ll_rg G) sz own nm cc nL ret R Qf ce sl pc lv (.ref (G.2 25) :: rest) σ := ll_getreader (k := 10) (by decide) hw rfl d kk
theorem ll_preader_word {index : Nat} {v : Int32} {σ2 : jx_M} (hG : ll_ok G) (hw : Cond.fieldLink own index "LampVote$Reader" "word" "I" ∈ jx_ws) (ev : σ2 = jx_mu σ 0 35 v) (d : decode cc pc = .ok (.putfield index, 3)) (kk : jx_J l (ll_env G t) (ll_dyn G t) (ll_rg G) sz own nm cc nL ret R Qf ce sl (pc + 3) lv rest σ2) : jx_J l (ll_env G t) (ll_dyn G t) (ll_rg G) sz own nm cc nL ret R Qf ce sl pc lv (.int v :: .ref (G.2 25) :: rest) σ := ll_putreader (k := 10) (ty := .int) hG (by decide) hw rfl (by decide +kernel) rfl rfl (by subst ev; rfl) d kk
theorem ll_greader_letter {index : Nat} (hw : Cond.fieldLink own index "LampVote$Reader" "letter" "I" ∈ jx_ws) (d : decode cc pc = .ok (.getfield index, 3)) (kk : jx_J l (ll_env G t) (ll_dyn G t) (ll_rg G) sz own nm cc nL ret R Qf ce sl (pc + 3) lv (.int (σ 0 36) :: rest) σ) : jx_J l (ll_env G t) (ll_dyn G t) (ll_rg G) sz own nm cc nL ret R Qf ce sl pc lv (.ref (G.2 25) :: rest) σ := ll_getreader (k := 11) (by decide) hw rfl d kk
theorem ll_preader_letter {index : Nat} {v : Int32} {σ2 : jx_M} (hG : ll_ok G) (hw : Cond.fieldLink own index "LampVote$Reader" "letter" "I" ∈ jx_ws) (ev : σ2 = jx_mu σ 0 36 v) (d : decode cc pc = .ok (.putfield index, 3)) (kk : jx_J l (ll_env G t) (ll_dyn G t) (ll_rg G) sz own nm cc nL ret R Qf ce sl (pc + 3) lv rest σ2) : jx_J l (ll_env G t) (ll_dyn G t) (ll_rg G) sz own nm cc nL ret R Qf ce sl pc lv (.int v :: .ref (G.2 25) :: rest) σ := ll_putreader (k := 11) (ty := .int) hG (by decide) hw rfl (by decide +kernel) rfl rfl (by subst ev; rfl) d kk
theorem ll_greader_subject {index : Nat} (hw : Cond.fieldLink own index "LampVote$Reader" "subject" "I" ∈ jx_ws) (d : decode cc pc = .ok (.getfield index, 3)) (kk : jx_J l (ll_env G t) (ll_dyn G t) (ll_rg G) sz own nm cc nL ret R Qf ce sl (pc + 3) lv (.int (σ 0 37) :: rest) σ) : jx_J l (ll_env G t) (ll_dyn G t) (ll_rg G) sz own nm cc nL ret R Qf ce sl pc lv (.ref (G.2 25) :: rest) σ := ll_getreader (k := 12) (by decide) hw rfl d kk
theorem ll_preader_subject {index : Nat} {v : Int32} {σ2 : jx_M} (hG : ll_ok G) (hw : Cond.fieldLink own index "LampVote$Reader" "subject" "I" ∈ jx_ws) (ev : σ2 = jx_mu σ 0 37 v) (d : decode cc pc = .ok (.putfield index, 3)) (kk : jx_J l (ll_env G t) (ll_dyn G t) (ll_rg G) sz own nm cc nL ret R Qf ce sl (pc + 3) lv rest σ2) : jx_J l (ll_env G t) (ll_dyn G t) (ll_rg G) sz own nm cc nL ret R Qf ce sl pc lv (.int v :: .ref (G.2 25) :: rest) σ := ll_putreader (k := 12) (ty := .int) hG (by decide) hw rfl (by decide +kernel) rfl rfl (by subst ev; rfl) d kk
theorem ll_greader_relation {index : Nat} (hw : Cond.fieldLink own index "LampVote$Reader" "relation" "I" ∈ jx_ws) (d : decode cc pc = .ok (.getfield index, 3)) (kk : jx_J l (ll_env G t) (ll_dyn G t) (ll_rg G) sz own nm cc nL ret R Qf ce sl (pc + 3) lv (.int (σ 0 38) :: rest) σ) : jx_J l (ll_env G t) (ll_dyn G t) (ll_rg G) sz own nm cc nL ret R Qf ce sl pc lv (.ref (G.2 25) :: rest) σ := ll_getreader (k := 13) (by decide) hw rfl d kk
theorem ll_preader_relation {index : Nat} {v : Int32} {σ2 : jx_M} (hG : ll_ok G) (hw : Cond.fieldLink own index "LampVote$Reader" "relation" "I" ∈ jx_ws) (ev : σ2 = jx_mu σ 0 38 v) (d : decode cc pc = .ok (.putfield index, 3)) (kk : jx_J l (ll_env G t) (ll_dyn G t) (ll_rg G) sz own nm cc nL ret R Qf ce sl (pc + 3) lv rest σ2) : jx_J l (ll_env G t) (ll_dyn G t) (ll_rg G) sz own nm cc nL ret R Qf ce sl pc lv (.int v :: .ref (G.2 25) :: rest) σ := ll_putreader (k := 13) (ty := .int) hG (by decide) hw rfl (by decide +kernel) rfl rfl (by subst ev; rfl) d kk
theorem ll_greader_number {index : Nat} (hw : Cond.fieldLink own index "LampVote$Reader" "number" "I" ∈ jx_ws) (d : decode cc pc = .ok (.getfield index, 3)) (kk : jx_J l (ll_env G t) (ll_dyn G t) (ll_rg G) sz own nm cc nL ret R Qf ce sl (pc + 3) lv (.int (σ 0 39) :: rest) σ) : jx_J l (ll_env G t) (ll_dyn G t) (ll_rg G) sz own nm cc nL ret R Qf ce sl pc lv (.ref (G.2 25) :: rest) σ := ll_getreader (k := 14) (by decide) hw rfl d kk
theorem ll_preader_number {index : Nat} {v : Int32} {σ2 : jx_M} (hG : ll_ok G) (hw : Cond.fieldLink own index "LampVote$Reader" "number" "I" ∈ jx_ws) (ev : σ2 = jx_mu σ 0 39 v) (d : decode cc pc = .ok (.putfield index, 3)) (kk : jx_J l (ll_env G t) (ll_dyn G t) (ll_rg G) sz own nm cc nL ret R Qf ce sl (pc + 3) lv rest σ2) : jx_J l (ll_env G t) (ll_dyn G t) (ll_rg G) sz own nm cc nL ret R Qf ce sl pc lv (.int v :: .ref (G.2 25) :: rest) σ := ll_putreader (k := 14) (ty := .int) hG (by decide) hw rfl (by decide +kernel) rfl rfl (by subst ev; rfl) d kk
theorem ll_a_now_place {i : Int32} (hin : vp_in i 7) (d : decode cc pc = .ok (.aaload, 1)) (kk : jx_J l (ll_env G t) (ll_dyn G t) (ll_rg G) sz own nm cc nL ret R Qf ce sl (pc + 1) lv (.ref (G.2 (100 + (1 + i.toNatClampNeg))) :: rest) σ) : jx_J l (ll_env G t) (ll_dyn G t) (ll_rg G) sz own nm cc nL ret R Qf ce sl pc lv (.int i :: .ref (G.2 301) :: rest) σ := by
  intro p e s m args below meth c C hr hk hn hs hE H locs ls hl hD hS
  have hlt : i.toNatClampNeg < 7 := Nat.not_le.mp fun q => hin (Or.inr q)
  refine va_aldA C.1 C.2.1 hE.1 hD 6 1 rfl rfl hin d ?_
  rw [show va_rf (ll_rf G 1 7 i.toNatClampNeg) = .ref (G.2 (100 + (1 + i.toNatClampNeg))) from by unfold ll_rf; rw [if_pos hlt]; rfl]
  exact kk p e s m args below meth c C hr hk hn hs hE H locs ls hl hD hS
theorem ll_a_now_voter {i : Int32} (hin : vp_in i 6) (d : decode cc pc = .ok (.aaload, 1)) (kk : jx_J l (ll_env G t) (ll_dyn G t) (ll_rg G) sz own nm cc nL ret R Qf ce sl (pc + 1) lv (.ref (G.2 (100 + (8 + i.toNatClampNeg))) :: rest) σ) : jx_J l (ll_env G t) (ll_dyn G t) (ll_rg G) sz own nm cc nL ret R Qf ce sl pc lv (.int i :: .ref (G.2 302) :: rest) σ := by
  intro p e s m args below meth c C hr hk hn hs hE H locs ls hl hD hS
  have hlt : i.toNatClampNeg < 6 := Nat.not_le.mp fun q => hin (Or.inr q)
  refine va_aldA C.1 C.2.1 hE.1 hD 7 1 rfl rfl hin d ?_
  rw [show va_rf (ll_rf G 8 6 i.toNatClampNeg) = .ref (G.2 (100 + (8 + i.toNatClampNeg))) from by unfold ll_rf; rw [if_pos hlt]; rfl]
  exact kk p e s m args below meth c C hr hk hn hs hE H locs ls hl hD hS
theorem ll_a_image_place {i : Int32} (hin : vp_in i 7) (d : decode cc pc = .ok (.aaload, 1)) (kk : jx_J l (ll_env G t) (ll_dyn G t) (ll_rg G) sz own nm cc nL ret R Qf ce sl (pc + 1) lv (.ref (G.2 (100 + (21 + i.toNatClampNeg))) :: rest) σ) : jx_J l (ll_env G t) (ll_dyn G t) (ll_rg G) sz own nm cc nL ret R Qf ce sl pc lv (.int i :: .ref (G.2 303) :: rest) σ := by
  intro p e s m args below meth c C hr hk hn hs hE H locs ls hl hD hS
  have hlt : i.toNatClampNeg < 7 := Nat.not_le.mp fun q => hin (Or.inr q)
  refine va_aldA C.1 C.2.1 hE.1 hD 8 1 rfl rfl hin d ?_
  rw [show va_rf (ll_rf G 21 7 i.toNatClampNeg) = .ref (G.2 (100 + (21 + i.toNatClampNeg))) from by unfold ll_rf; rw [if_pos hlt]; rfl]
  exact kk p e s m args below meth c C hr hk hn hs hE H locs ls hl hD hS
theorem ll_a_image_voter {i : Int32} (hin : vp_in i 6) (d : decode cc pc = .ok (.aaload, 1)) (kk : jx_J l (ll_env G t) (ll_dyn G t) (ll_rg G) sz own nm cc nL ret R Qf ce sl (pc + 1) lv (.ref (G.2 (100 + (28 + i.toNatClampNeg))) :: rest) σ) : jx_J l (ll_env G t) (ll_dyn G t) (ll_rg G) sz own nm cc nL ret R Qf ce sl pc lv (.int i :: .ref (G.2 304) :: rest) σ := by
  intro p e s m args below meth c C hr hk hn hs hE H locs ls hl hD hS
  have hlt : i.toNatClampNeg < 6 := Nat.not_le.mp fun q => hin (Or.inr q)
  refine va_aldA C.1 C.2.1 hE.1 hD 9 1 rfl rfl hin d ?_
  rw [show va_rf (ll_rf G 28 6 i.toNatClampNeg) = .ref (G.2 (100 + (28 + i.toNatClampNeg))) from by unfold ll_rf; rw [if_pos hlt]; rfl]
  exact kk p e s m args below meth c C hr hk hn hs hE H locs ls hl hD hS
theorem ll_a_night_goal {i : Int32} (hin : vp_in i 12) (d : decode cc pc = .ok (.aaload, 1)) (kk : jx_J l (ll_env G t) (ll_dyn G t) (ll_rg G) sz own nm cc nL ret R Qf ce sl (pc + 1) lv (.ref (G.2 (100 + (41 + i.toNatClampNeg))) :: rest) σ) : jx_J l (ll_env G t) (ll_dyn G t) (ll_rg G) sz own nm cc nL ret R Qf ce sl pc lv (.int i :: .ref (G.2 305) :: rest) σ := by
  intro p e s m args below meth c C hr hk hn hs hE H locs ls hl hD hS
  have hlt : i.toNatClampNeg < 12 := Nat.not_le.mp fun q => hin (Or.inr q)
  refine va_aldA C.1 C.2.1 hE.1 hD 10 1 rfl rfl hin d ?_
  rw [show va_rf (ll_rf G 41 12 i.toNatClampNeg) = .ref (G.2 (100 + (41 + i.toNatClampNeg))) from by unfold ll_rf; rw [if_pos hlt]; rfl]
  exact kk p e s m args below meth c C hr hk hn hs hE H locs ls hl hD hS
theorem ll_a_night_filled {i : Int32} (hin : vp_in i 3) (d : decode cc pc = .ok (.aaload, 1)) (kk : jx_J l (ll_env G t) (ll_dyn G t) (ll_rg G) sz own nm cc nL ret R Qf ce sl (pc + 1) lv (.ref (G.2 (100 + (53 + i.toNatClampNeg))) :: rest) σ) : jx_J l (ll_env G t) (ll_dyn G t) (ll_rg G) sz own nm cc nL ret R Qf ce sl pc lv (.int i :: .ref (G.2 306) :: rest) σ := by
  intro p e s m args below meth c C hr hk hn hs hE H locs ls hl hD hS
  have hlt : i.toNatClampNeg < 3 := Nat.not_le.mp fun q => hin (Or.inr q)
  refine va_aldA C.1 C.2.1 hE.1 hD 11 1 rfl rfl hin d ?_
  rw [show va_rf (ll_rf G 53 3 i.toNatClampNeg) = .ref (G.2 (100 + (53 + i.toNatClampNeg))) from by unfold ll_rf; rw [if_pos hlt]; rfl]
  exact kk p e s m args below meth c C hr hk hn hs hE H locs ls hl hD hS
theorem ll_l {k : Nat} {i : Int32} {j : Nat} (hin : vp_in i (ll_len k)) (hj : i.toNatClampNeg = j) (d : decode cc pc = .ok (.iaload, 1)) (kk : jx_J l (ll_env G t) (ll_dyn G t) (ll_rg G) sz own nm cc nL ret R Qf ce sl (pc + 1) lv (.int (σ k j) :: rest) σ) : jx_J l (ll_env G t) (ll_dyn G t) (ll_rg G) sz own nm cc nL ret R Qf ce sl pc lv (.int i :: .ref (G.2 (100 + k)) :: rest) σ := by
  subst hj
  have hb := ll_lenk (Nat.not_le.mp fun q => hin (Or.inr q))
  intro p e s m args below meth c C hr hk hn hs hE H locs ls hl hD hS
  exact va_iald C.1 C.2.1 hE.1 hD (11 + k) 0 (ll_at hb.1 hb.2) rfl hin d (kk p e s m args below meth c C hr hk hn hs hE H locs ls hl hD hS)
theorem ll_s {k : Nat} {i v : Int32} {j : Nat} {σ2 : jx_M} (hG : ll_ok G) (hin : vp_in i (ll_len k)) (hj : i.toNatClampNeg = j) (ev : σ2 = jx_mu σ k j v) (d : decode cc pc = .ok (.iastore, 1)) (kk : jx_J l (ll_env G t) (ll_dyn G t) (ll_rg G) sz own nm cc nL ret R Qf ce sl (pc + 1) lv rest σ2) : jx_J l (ll_env G t) (ll_dyn G t) (ll_rg G) sz own nm cc nL ret R Qf ce sl pc lv (.int v :: .int i :: .ref (G.2 (100 + k)) :: rest) σ := by
  subst hj
  subst ev
  have hb := ll_lenk (Nat.not_le.mp fun q => hin (Or.inr q))
  intro p e s m args below meth c C hr hk hn hs hE H locs ls hl hD hS
  exact va_iast C.1 C.2.1 hE.1 hD (ll_D hG t σ sz) hS (11 + k) 0 (ll_at hb.1 hb.2) rfl hin d (fun H1 locs1 hP1 _ hS1 => by rw [ll_set hb.1 hb.2] at hP1; exact kk p e s m args below meth c C hr hk hn hs hE H1 locs1 ls hl hP1 hS1)
theorem ll_len1 {k : Nat} {v : Int32} (h1 : 1 ≤ k) (h2 : k ≤ 65) (hv : Int32.ofNat (ll_len k) = v) (d : decode cc pc = .ok (.arraylength, 1)) (kk : jx_J l (ll_env G t) (ll_dyn G t) (ll_rg G) sz own nm cc nL ret R Qf ce sl (pc + 1) lv (.int v :: rest) σ) : jx_J l (ll_env G t) (ll_dyn G t) (ll_rg G) sz own nm cc nL ret R Qf ce sl pc lv (.ref (G.2 (100 + k)) :: rest) σ := by
  intro p e s m args below meth c C hr hk hn hs hE H locs ls hl hD hS
  exact va_alen C.1 C.2.1 hE.1 hD (11 + k) 0 (ll_at h1 h2) (ty := .int) rfl hv d (kk p e s m args below meth c C hr hk hn hs hE H locs ls hl hD hS)
theorem ll_gtide_words {index : Nat} (hw : Cond.fieldLink own index "LampVote$Tide" "words" "[I" ∈ jx_ws) (d : decode cc pc = .ok (.getfield index, 3)) (kk : jx_J l (ll_env G t) (ll_dyn G t) (ll_rg G) sz own nm cc nL ret R Qf ce sl (pc + 3) lv (.ref (t.1 1) :: rest) σ) : jx_J l (ll_env G t) (ll_dyn G t) (ll_rg G) sz own nm cc nL ret R Qf ce sl pc lv (.ref (t.1 0) :: rest) σ := by
  intro p e s m args below meth c C hr hk hn hs hE H locs ls hl hD hS
  exact va_get (D := G.1) (ci := 4) (C := RX4) (T := TX4) (N := 4) C.1 C.2.1 C.2.2.2.2 il_X4 C.2.2.2.1 hE.1 (ll_tP hE hS) 0 rfl rfl 0 (by decide) (C.2.2.2.2 _ hw) (fun _ h => h) rfl d (kk p e s m args below meth c C hr hk hn hs hE H locs ls hl hD hS)
theorem ll_ltide_1 {i : Int32} {j : Nat} (hin : vp_in i (t.2.1 1)) (hj : i.toNatClampNeg = j) (d : decode cc pc = .ok (.iaload, 1)) (kk : jx_J l (ll_env G t) (ll_dyn G t) (ll_rg G) sz own nm cc nL ret R Qf ce sl (pc + 1) lv (.int (t.2.2 1 j) :: rest) σ) : jx_J l (ll_env G t) (ll_dyn G t) (ll_rg G) sz own nm cc nL ret R Qf ce sl pc lv (.int i :: .ref (t.1 1) :: rest) σ := by
  subst hj
  intro p e s m args below meth c C hr hk hn hs hE H locs ls hl hD hS
  exact va_iald C.1 C.2.1 hE.1 (ll_tP hE hS) 1 0 rfl rfl hin d (kk p e s m args below meth c C hr hk hn hs hE H locs ls hl hD hS)
theorem ll_ntide_1 (d : decode cc pc = .ok (.arraylength, 1)) (kk : jx_J l (ll_env G t) (ll_dyn G t) (ll_rg G) sz own nm cc nL ret R Qf ce sl (pc + 1) lv (.int (Int32.ofNat (t.2.1 1)) :: rest) σ) : jx_J l (ll_env G t) (ll_dyn G t) (ll_rg G) sz own nm cc nL ret R Qf ce sl pc lv (.ref (t.1 1) :: rest) σ := by
  intro p e s m args below meth c C hr hk hn hs hE H locs ls hl hD hS
  exact va_alen C.1 C.2.1 hE.1 (ll_tP hE hS) 1 0 rfl (ty := .int) rfl rfl d (kk p e s m args below meth c C hr hk hn hs hE H locs ls hl hD hS)
theorem ll_gtide_amounts {index : Nat} (hw : Cond.fieldLink own index "LampVote$Tide" "amounts" "[I" ∈ jx_ws) (d : decode cc pc = .ok (.getfield index, 3)) (kk : jx_J l (ll_env G t) (ll_dyn G t) (ll_rg G) sz own nm cc nL ret R Qf ce sl (pc + 3) lv (.ref (t.1 2) :: rest) σ) : jx_J l (ll_env G t) (ll_dyn G t) (ll_rg G) sz own nm cc nL ret R Qf ce sl pc lv (.ref (t.1 0) :: rest) σ := by
  intro p e s m args below meth c C hr hk hn hs hE H locs ls hl hD hS
  exact va_get (D := G.1) (ci := 4) (C := RX4) (T := TX4) (N := 4) C.1 C.2.1 C.2.2.2.2 il_X4 C.2.2.2.1 hE.1 (ll_tP hE hS) 0 rfl rfl 1 (by decide) (C.2.2.2.2 _ hw) (fun _ h => h) rfl d (kk p e s m args below meth c C hr hk hn hs hE H locs ls hl hD hS)
theorem ll_ltide_2 {i : Int32} {j : Nat} (hin : vp_in i (t.2.1 2)) (hj : i.toNatClampNeg = j) (d : decode cc pc = .ok (.iaload, 1)) (kk : jx_J l (ll_env G t) (ll_dyn G t) (ll_rg G) sz own nm cc nL ret R Qf ce sl (pc + 1) lv (.int (t.2.2 2 j) :: rest) σ) : jx_J l (ll_env G t) (ll_dyn G t) (ll_rg G) sz own nm cc nL ret R Qf ce sl pc lv (.int i :: .ref (t.1 2) :: rest) σ := by
  subst hj
  intro p e s m args below meth c C hr hk hn hs hE H locs ls hl hD hS
  exact va_iald C.1 C.2.1 hE.1 (ll_tP hE hS) 2 0 rfl rfl hin d (kk p e s m args below meth c C hr hk hn hs hE H locs ls hl hD hS)
theorem ll_ntide_2 (d : decode cc pc = .ok (.arraylength, 1)) (kk : jx_J l (ll_env G t) (ll_dyn G t) (ll_rg G) sz own nm cc nL ret R Qf ce sl (pc + 1) lv (.int (Int32.ofNat (t.2.1 2)) :: rest) σ) : jx_J l (ll_env G t) (ll_dyn G t) (ll_rg G) sz own nm cc nL ret R Qf ce sl pc lv (.ref (t.1 2) :: rest) σ := by
  intro p e s m args below meth c C hr hk hn hs hE H locs ls hl hD hS
  exact va_alen C.1 C.2.1 hE.1 (ll_tP hE hS) 2 0 rfl (ty := .int) rfl rfl d (kk p e s m args below meth c C hr hk hn hs hE H locs ls hl hD hS)
theorem ll_gtide_ends {index : Nat} (hw : Cond.fieldLink own index "LampVote$Tide" "ends" "[I" ∈ jx_ws) (d : decode cc pc = .ok (.getfield index, 3)) (kk : jx_J l (ll_env G t) (ll_dyn G t) (ll_rg G) sz own nm cc nL ret R Qf ce sl (pc + 3) lv (.ref (t.1 3) :: rest) σ) : jx_J l (ll_env G t) (ll_dyn G t) (ll_rg G) sz own nm cc nL ret R Qf ce sl pc lv (.ref (t.1 0) :: rest) σ := by
  intro p e s m args below meth c C hr hk hn hs hE H locs ls hl hD hS
  exact va_get (D := G.1) (ci := 4) (C := RX4) (T := TX4) (N := 4) C.1 C.2.1 C.2.2.2.2 il_X4 C.2.2.2.1 hE.1 (ll_tP hE hS) 0 rfl rfl 2 (by decide) (C.2.2.2.2 _ hw) (fun _ h => h) rfl d (kk p e s m args below meth c C hr hk hn hs hE H locs ls hl hD hS)
theorem ll_ltide_3 {i : Int32} {j : Nat} (hin : vp_in i (t.2.1 3)) (hj : i.toNatClampNeg = j) (d : decode cc pc = .ok (.iaload, 1)) (kk : jx_J l (ll_env G t) (ll_dyn G t) (ll_rg G) sz own nm cc nL ret R Qf ce sl (pc + 1) lv (.int (t.2.2 3 j) :: rest) σ) : jx_J l (ll_env G t) (ll_dyn G t) (ll_rg G) sz own nm cc nL ret R Qf ce sl pc lv (.int i :: .ref (t.1 3) :: rest) σ := by
  subst hj
  intro p e s m args below meth c C hr hk hn hs hE H locs ls hl hD hS
  exact va_iald C.1 C.2.1 hE.1 (ll_tP hE hS) 3 0 rfl rfl hin d (kk p e s m args below meth c C hr hk hn hs hE H locs ls hl hD hS)
theorem ll_ntide_3 (d : decode cc pc = .ok (.arraylength, 1)) (kk : jx_J l (ll_env G t) (ll_dyn G t) (ll_rg G) sz own nm cc nL ret R Qf ce sl (pc + 1) lv (.int (Int32.ofNat (t.2.1 3)) :: rest) σ) : jx_J l (ll_env G t) (ll_dyn G t) (ll_rg G) sz own nm cc nL ret R Qf ce sl pc lv (.ref (t.1 3) :: rest) σ := by
  intro p e s m args below meth c C hr hk hn hs hE H locs ls hl hD hS
  exact va_alen C.1 C.2.1 hE.1 (ll_tP hE hS) 3 0 rfl (ty := .int) rfl rfl d (kk p e s m args below meth c C hr hk hn hs hE H locs ls hl hD hS)
theorem ll_gtide_code {index : Nat} (hw : Cond.fieldLink own index "LampVote$Tide" "code" "[I" ∈ jx_ws) (d : decode cc pc = .ok (.getfield index, 3)) (kk : jx_J l (ll_env G t) (ll_dyn G t) (ll_rg G) sz own nm cc nL ret R Qf ce sl (pc + 3) lv (.ref (t.1 4) :: rest) σ) : jx_J l (ll_env G t) (ll_dyn G t) (ll_rg G) sz own nm cc nL ret R Qf ce sl pc lv (.ref (t.1 0) :: rest) σ := by
  intro p e s m args below meth c C hr hk hn hs hE H locs ls hl hD hS
  exact va_get (D := G.1) (ci := 4) (C := RX4) (T := TX4) (N := 4) C.1 C.2.1 C.2.2.2.2 il_X4 C.2.2.2.1 hE.1 (ll_tP hE hS) 0 rfl rfl 3 (by decide) (C.2.2.2.2 _ hw) (fun _ h => h) rfl d (kk p e s m args below meth c C hr hk hn hs hE H locs ls hl hD hS)
theorem ll_ltide_4 {i : Int32} {j : Nat} (hin : vp_in i (t.2.1 4)) (hj : i.toNatClampNeg = j) (d : decode cc pc = .ok (.iaload, 1)) (kk : jx_J l (ll_env G t) (ll_dyn G t) (ll_rg G) sz own nm cc nL ret R Qf ce sl (pc + 1) lv (.int (t.2.2 4 j) :: rest) σ) : jx_J l (ll_env G t) (ll_dyn G t) (ll_rg G) sz own nm cc nL ret R Qf ce sl pc lv (.int i :: .ref (t.1 4) :: rest) σ := by
  subst hj
  intro p e s m args below meth c C hr hk hn hs hE H locs ls hl hD hS
  exact va_iald C.1 C.2.1 hE.1 (ll_tP hE hS) 4 0 rfl rfl hin d (kk p e s m args below meth c C hr hk hn hs hE H locs ls hl hD hS)
theorem ll_ntide_4 (d : decode cc pc = .ok (.arraylength, 1)) (kk : jx_J l (ll_env G t) (ll_dyn G t) (ll_rg G) sz own nm cc nL ret R Qf ce sl (pc + 1) lv (.int (Int32.ofNat (t.2.1 4)) :: rest) σ) : jx_J l (ll_env G t) (ll_dyn G t) (ll_rg G) sz own nm cc nL ret R Qf ce sl pc lv (.ref (t.1 4) :: rest) σ := by
  intro p e s m args below meth c C hr hk hn hs hE H locs ls hl hD hS
  exact va_alen C.1 C.2.1 hE.1 (ll_tP hE hS) 4 0 rfl (ty := .int) rfl rfl d (kk p e s m args below meth c C hr hk hn hs hE H locs ls hl hD hS)
theorem ll_z_STARTS {index : Nat} (hw : Cond.fieldLink own index "LampVote$Reader" "STARTS" "[I" ∈ jx_ws) (d : decode cc pc = .ok (.getstatic index, 3)) (kk : jx_J l (ll_env G t) (ll_dyn G t) (ll_rg G) sz own nm cc nL ret R Qf ce sl (pc + 3) lv (.ref (G.2 900) :: rest) σ) : jx_J l (ll_env G t) (ll_dyn G t) (ll_rg G) sz own nm cc nL ret R Qf ce sl pc lv rest σ := by
  intro p e s m args below meth c C hr hk hn hs hE H locs ls hl hD hS
  exact va_gets C.1 C.2.1 hE.2.1.2.1.1 hS C.2.2.2.1 (C.2.2.2.2 _ hw) (fun _ h => h) d (kk p e s m args below meth c C hr hk hn hs hE H locs ls hl hD hS)
theorem ll_zl_STARTS {i : Int32} {j : Nat} (hin : vp_in i 4) (hj : i.toNatClampNeg = j) (d : decode cc pc = .ok (.iaload, 1)) (kk : jx_J l (ll_env G t) (ll_dyn G t) (ll_rg G) sz own nm cc nL ret R Qf ce sl (pc + 1) lv (.int (zs_STARTS j) :: rest) σ) : jx_J l (ll_env G t) (ll_dyn G t) (ll_rg G) sz own nm cc nL ret R Qf ce sl pc lv (.int i :: .ref (G.2 900) :: rest) σ := by
  subst hj
  intro p e s m args below meth c C hr hk hn hs hE H locs ls hl hD hS
  exact va_ti C.1 C.2.1 hE.2.1.2.1.2 hS hin rfl d (kk p e s m args below meth c C hr hk hn hs hE H locs ls hl hD hS)
theorem ll_zn_STARTS (d : decode cc pc = .ok (.arraylength, 1)) (kk : jx_J l (ll_env G t) (ll_dyn G t) (ll_rg G) sz own nm cc nL ret R Qf ce sl (pc + 1) lv (.int (4 : Int32) :: rest) σ) : jx_J l (ll_env G t) (ll_dyn G t) (ll_rg G) sz own nm cc nL ret R Qf ce sl pc lv (.ref (G.2 900) :: rest) σ := by
  intro p e s m args below meth c C hr hk hn hs hE H locs ls hl hD hS
  exact va_tlen C.1 C.2.1 hE.2.1.2.1.2 hS (by decide) d (kk p e s m args below meth c C hr hk hn hs hE H locs ls hl hD hS)
theorem ll_z_ABOVE {index : Nat} (hw : Cond.fieldLink own index "LampVote$Acts" "ABOVE" "[I" ∈ jx_ws) (d : decode cc pc = .ok (.getstatic index, 3)) (kk : jx_J l (ll_env G t) (ll_dyn G t) (ll_rg G) sz own nm cc nL ret R Qf ce sl (pc + 3) lv (.ref (G.2 901) :: rest) σ) : jx_J l (ll_env G t) (ll_dyn G t) (ll_rg G) sz own nm cc nL ret R Qf ce sl pc lv rest σ := by
  intro p e s m args below meth c C hr hk hn hs hE H locs ls hl hD hS
  exact va_gets C.1 C.2.1 hE.2.1.2.2.1.1 hS C.2.2.2.1 (C.2.2.2.2 _ hw) (fun _ h => h) d (kk p e s m args below meth c C hr hk hn hs hE H locs ls hl hD hS)
theorem ll_zl_ABOVE {i : Int32} {j : Nat} (hin : vp_in i 7) (hj : i.toNatClampNeg = j) (d : decode cc pc = .ok (.iaload, 1)) (kk : jx_J l (ll_env G t) (ll_dyn G t) (ll_rg G) sz own nm cc nL ret R Qf ce sl (pc + 1) lv (.int (zs_ABOVE j) :: rest) σ) : jx_J l (ll_env G t) (ll_dyn G t) (ll_rg G) sz own nm cc nL ret R Qf ce sl pc lv (.int i :: .ref (G.2 901) :: rest) σ := by
  subst hj
  intro p e s m args below meth c C hr hk hn hs hE H locs ls hl hD hS
  exact va_ti C.1 C.2.1 hE.2.1.2.2.1.2 hS hin rfl d (kk p e s m args below meth c C hr hk hn hs hE H locs ls hl hD hS)
theorem ll_zn_ABOVE (d : decode cc pc = .ok (.arraylength, 1)) (kk : jx_J l (ll_env G t) (ll_dyn G t) (ll_rg G) sz own nm cc nL ret R Qf ce sl (pc + 1) lv (.int (7 : Int32) :: rest) σ) : jx_J l (ll_env G t) (ll_dyn G t) (ll_rg G) sz own nm cc nL ret R Qf ce sl pc lv (.ref (G.2 901) :: rest) σ := by
  intro p e s m args below meth c C hr hk hn hs hE H locs ls hl hD hS
  exact va_tlen C.1 C.2.1 hE.2.1.2.2.1.2 hS (by decide) d (kk p e s m args below meth c C hr hk hn hs hE H locs ls hl hD hS)
theorem ll_z_BODIES {index : Nat} (hw : Cond.fieldLink own index "LampVote$Acts" "BODIES" "[I" ∈ jx_ws) (d : decode cc pc = .ok (.getstatic index, 3)) (kk : jx_J l (ll_env G t) (ll_dyn G t) (ll_rg G) sz own nm cc nL ret R Qf ce sl (pc + 3) lv (.ref (G.2 902) :: rest) σ) : jx_J l (ll_env G t) (ll_dyn G t) (ll_rg G) sz own nm cc nL ret R Qf ce sl pc lv rest σ := by
  intro p e s m args below meth c C hr hk hn hs hE H locs ls hl hD hS
  exact va_gets C.1 C.2.1 hE.2.1.2.2.2.1 hS C.2.2.2.1 (C.2.2.2.2 _ hw) (fun _ h => h) d (kk p e s m args below meth c C hr hk hn hs hE H locs ls hl hD hS)
theorem ll_zl_BODIES {i : Int32} {j : Nat} (hin : vp_in i 21) (hj : i.toNatClampNeg = j) (d : decode cc pc = .ok (.iaload, 1)) (kk : jx_J l (ll_env G t) (ll_dyn G t) (ll_rg G) sz own nm cc nL ret R Qf ce sl (pc + 1) lv (.int (zs_BODIES j) :: rest) σ) : jx_J l (ll_env G t) (ll_dyn G t) (ll_rg G) sz own nm cc nL ret R Qf ce sl pc lv (.int i :: .ref (G.2 902) :: rest) σ := by
  subst hj
  intro p e s m args below meth c C hr hk hn hs hE H locs ls hl hD hS
  exact va_ti C.1 C.2.1 hE.2.1.2.2.2.2 hS hin rfl d (kk p e s m args below meth c C hr hk hn hs hE H locs ls hl hD hS)
theorem ll_zn_BODIES (d : decode cc pc = .ok (.arraylength, 1)) (kk : jx_J l (ll_env G t) (ll_dyn G t) (ll_rg G) sz own nm cc nL ret R Qf ce sl (pc + 1) lv (.int (21 : Int32) :: rest) σ) : jx_J l (ll_env G t) (ll_dyn G t) (ll_rg G) sz own nm cc nL ret R Qf ce sl pc lv (.ref (G.2 902) :: rest) σ := by
  intro p e s m args below meth c C hr hk hn hs hE H locs ls hl hD hS
  exact va_tlen C.1 C.2.1 hE.2.1.2.2.2.2 hS (by decide) d (kk p e s m args below meth c C hr hk hn hs hE H locs ls hl hD hS)
end LL
end
section
/-! the JDK's methods over the String constants (a constant is its place i < 7) -/
theorem dJ3_checkIndex_8e157_0 : decode cJ3_checkIndex_8e157 0 = .ok (.iload_n 0, 1) := by decide +kernel
theorem dJ3_checkIndex_8e157_1 : decode cJ3_checkIndex_8e157 1 = .ok (.ifCond .lt 8, 3) := by decide +kernel
theorem dJ3_checkIndex_8e157_4 : decode cJ3_checkIndex_8e157 4 = .ok (.iload_n 0, 1) := by decide +kernel
theorem dJ3_checkIndex_8e157_5 : decode cJ3_checkIndex_8e157 5 = .ok (.iload_n 1, 1) := by decide +kernel
theorem dJ3_checkIndex_8e157_6 : decode cJ3_checkIndex_8e157 6 = .ok (.if_icmp .lt 10, 3) := by decide +kernel
theorem dJ3_checkIndex_8e157_9 : decode cJ3_checkIndex_8e157 9 = .ok (.aload_n 2, 1) := by decide +kernel
theorem dJ3_checkIndex_8e157_10 : decode cJ3_checkIndex_8e157 10 = .ok (.iload_n 0, 1) := by decide +kernel
theorem dJ3_checkIndex_8e157_11 : decode cJ3_checkIndex_8e157 11 = .ok (.iload_n 1, 1) := by decide +kernel
theorem dJ3_checkIndex_8e157_12 : decode cJ3_checkIndex_8e157 12 = .ok (.invokestatic 95, 3) := by decide +kernel
theorem dJ3_checkIndex_8e157_15 : decode cJ3_checkIndex_8e157 15 = .ok (.athrow, 1) := by decide +kernel
theorem dJ3_checkIndex_8e157_16 : decode cJ3_checkIndex_8e157 16 = .ok (.iload_n 0, 1) := by decide +kernel
theorem dJ3_checkIndex_8e157_17 : decode cJ3_checkIndex_8e157 17 = .ok (.ireturn, 1) := by decide +kernel
abbrev rm_J3_checkIndex_8e157 : Room := { frames := 0, cells := 0, slots := 0, locals := 0 }
abbrev jJ_J3_checkIndex_8e157 (l : Launch) {X : Type} (env : (Nat → Prop) → State → Prop) (dyn : X → Heap → Prop) (rg : Nat → Prop) (G : jx_G) (sz : Nat) (σ0 : X) (out : Int32) (pc : Nat) (lv : List (Nat × Value)) (st : List Value) (σ : X) : Prop := jx_J l (env) (dyn) (rg) sz RJ3 "checkIndex" cJ3_checkIndex_8e157 3 (some .int) rm_J3_checkIndex_8e157 (fun below args s => MQ below (jx_Qi (dyn) σ0 out (jx_A (rg) sz)) args s 0 0 (jx_A (rg) sz)) 0 0 pc lv st σ
def b_J3_checkIndex_8e157_9  (v0 : Int32) (v1 : Int32) : Option Int32 :=
  none
set_option maxHeartbeats 4000000 in
set_option maxRecDepth 100000 in
theorem jb_J3_checkIndex_8e157_9 (l : Launch) {X : Type} (env : (Nat → Prop) → State → Prop) (dyn : X → Heap → Prop) (rg : Nat → Prop) (G : jx_G) (hok : jx_ok rg env) (hex : ∀ A s, env A s → jx_ex G A s) (sz : Nat) (σ0 : X) (out : Int32)  (σ : X) (v0 : Int32) (v1 : Int32) (e0 : σ = σ0) (h : b_J3_checkIndex_8e157_9 v0 v1 = some out) : jJ_J3_checkIndex_8e157 l env dyn rg G sz σ0 out 9 [(0, .int v0), (1, .int v1)] [] σ := by
  unfold b_J3_checkIndex_8e157_9 at h
  cases h
def f_J3_checkIndex_8e157 (a0 : Int32) (a1 : Int32) : Option Int32 :=
  if a0 < 0 then (b_J3_checkIndex_8e157_9 a0 a1) else if a0 < a1 then some a0 else (b_J3_checkIndex_8e157_9 a0 a1)
set_option maxHeartbeats 4000000 in
set_option maxRecDepth 100000 in
theorem k_J3_checkIndex_8e157 (l : Launch) {X : Type} (env : (Nat → Prop) → State → Prop) (dyn : X → Heap → Prop) (rg : Nat → Prop) (G : jx_G) (hok : jx_ok rg env) (hex : ∀ A s, env A s → jx_ex G A s) (sz : Nat) (σ : X) (a0 : Int32) (a1 : Int32) (a2 : Value) (hc2 : a2.category = 1) (out : Int32) (h : f_J3_checkIndex_8e157 a0 a1 = some out) : Met l yJ3_checkIndex_8e157 (Cond.code yJ3_checkIndex_8e157 cJ3_checkIndex_8e157 3 (some .int) :: jx_ws) rm_J3_checkIndex_8e157 (jx_Pc (env) (dyn) (rg) sz σ [.int a0, .int a1, a2]) (jx_Qi (dyn) σ out (jx_A (rg) sz)) 0 0 (jx_A (rg) sz) := by
  unfold f_J3_checkIndex_8e157 at h
  refine jx_met (by decide) (by simp [lg_sl, hc2, show ∀ i : Int32, (Value.int i).category = 1 from fun _ => rfl]) ?_
  refine jx_sub (lv' := [(0, .int a0), (1, .int a1), (2, a2)]) [0, 1, 2] rfl ?_
  refine jx_iload_n (pc := 0) (k0 := 0) rfl dJ3_checkIndex_8e157_0 ?_
  refine jx_if_lt (pc := 1) (tgt := 9) dJ3_checkIndex_8e157_1 (by decide) (fun c1 => ?_) (fun c1 => ?_)
  · have h := jx_t c1 h
    exact jx_sub [0, 1] rfl (jb_J3_checkIndex_8e157_9 l env dyn rg G hok hex sz σ out σ a0 a1 rfl h)
  · have h := jx_f c1 h
    refine jx_iload_n (pc := 4) (k0 := 0) rfl dJ3_checkIndex_8e157_4 ?_
    refine jx_iload_n (pc := 5) (k0 := 1) rfl dJ3_checkIndex_8e157_5 ?_
    refine jx_icmp_lt (pc := 6) (tgt := 16) dJ3_checkIndex_8e157_6 (by decide) (fun c2 => ?_) (fun c2 => ?_)
    · have h := jx_t c2 h
      refine jx_iload_n (pc := 16) (k0 := 0) rfl dJ3_checkIndex_8e157_16 ?_
      cases h
      exact jx_iret (pc := 17) dJ3_checkIndex_8e157_17
    · have h := jx_f c2 h
      exact jx_sub [0, 1] rfl (jb_J3_checkIndex_8e157_9 l env dyn rg G hok hex sz σ out σ a0 a1 rfl h)
theorem dJ0_checkIndex_df160_0 : decode cJ0_checkIndex_df160 0 = .ok (.iload_n 0, 1) := by decide +kernel
theorem dJ0_checkIndex_df160_1 : decode cJ0_checkIndex_df160 1 = .ok (.iload_n 1, 1) := by decide +kernel
theorem dJ0_checkIndex_df160_2 : decode cJ0_checkIndex_df160 2 = .ok (.getstatic 1053, 3) := by decide +kernel
theorem dJ0_checkIndex_df160_5 : decode cJ0_checkIndex_df160 5 = .ok (.invokestatic 1059, 3) := by decide +kernel
theorem dJ0_checkIndex_df160_8 : decode cJ0_checkIndex_df160 8 = .ok (.pop, 1) := by decide +kernel
theorem dJ0_checkIndex_df160_9 : decode cJ0_checkIndex_df160 9 = .ok (.return_, 1) := by decide +kernel
abbrev rm_J0_checkIndex_df160 : Room := { frames := 1, cells := 0, slots := 0, locals := 22 }
abbrev jJ_J0_checkIndex_df160 (l : Launch) {X : Type} (env : (Nat → Prop) → State → Prop) (dyn : X → Heap → Prop) (rg : Nat → Prop) (G : jx_G) (sz : Nat) (σ0 : X) (out : Unit) (pc : Nat) (lv : List (Nat × Value)) (st : List Value) (σ : X) : Prop := jx_J l (env) (dyn) (rg) sz RJ0 "checkIndex" cJ0_checkIndex_df160 2 none rm_J0_checkIndex_df160 (fun below args s => MQ below (jx_Qv (dyn) σ0 (jx_A (rg) sz)) args s 0 0 (jx_A (rg) sz)) 0 0 pc lv st σ
def f_J0_checkIndex_df160 (a0 : Int32) (a1 : Int32) : Option Unit :=
  jx_bd (f_J3_checkIndex_8e157 a0 a1) (fun q1 => some ())
set_option maxHeartbeats 4000000 in
set_option maxRecDepth 100000 in
theorem k_J0_checkIndex_df160 (l : Launch) {X : Type} (env : (Nat → Prop) → State → Prop) (dyn : X → Heap → Prop) (rg : Nat → Prop) (G : jx_G) (hok : jx_ok rg env) (hex : ∀ A s, env A s → jx_ex G A s) (sz : Nat) (σ : X) (a0 : Int32) (a1 : Int32) (out : Unit) (h : f_J0_checkIndex_df160 a0 a1 = some out) : Met l yJ0_checkIndex_df160 (Cond.code yJ0_checkIndex_df160 cJ0_checkIndex_df160 2 none :: jx_ws) rm_J0_checkIndex_df160 (jx_Pc (env) (dyn) (rg) sz σ [.int a0, .int a1]) (jx_Qv (dyn) σ (jx_A (rg) sz)) 0 0 (jx_A (rg) sz) := by
  unfold f_J0_checkIndex_df160 at h
  refine jx_met (by decide) (Nat.le_of_ble_eq_true rfl) ?_
  refine jx_sub (lv' := [(0, .int a0), (1, .int a1)]) [0, 1] rfl ?_
  refine jx_iload_n (pc := 0) (k0 := 0) rfl dJ0_checkIndex_df160_0 ?_
  refine jx_iload_n (pc := 1) (k0 := 1) rfl dJ0_checkIndex_df160_1 ?_
  refine st_fv (pc := 2) hex fl_J0_1053 dJ0_checkIndex_df160_2 ?_
  by_cases hfv : G.2 950 = 0
  · rw [show jx_fv G = Value.null from if_pos hfv]
    obtain ⟨q1, eq1, h⟩ := jx_bd_o h
    refine jx_callSi (pc := 5) [.int a0, .int a1, Value.null] (fun sz' => k_J3_checkIndex_8e157 l env dyn rg G hok hex sz' σ a0 a1 (Value.null) rfl q1 eq1) ks_J0_1059 hok rfl rfl (Nat.le_of_ble_eq_true rfl) ⟨⟨rfl, rfl⟩, ⟨Nat.le_of_ble_eq_true rfl, Nat.le_of_ble_eq_true rfl⟩, Nat.zero_le _, Nat.zero_le _⟩ dJ0_checkIndex_df160_5 ?_
    refine jx_pop (pc := 8) rfl dJ0_checkIndex_df160_8 ?_
    cases h
    exact jx_vret (pc := 9) dJ0_checkIndex_df160_9
  · rw [show jx_fv G = Value.ref (G.2 951) from if_neg hfv]
    obtain ⟨q2, eq2, h⟩ := jx_bd_o h
    refine jx_callSi (pc := 5) [.int a0, .int a1, Value.ref (G.2 951)] (fun sz' => k_J3_checkIndex_8e157 l env dyn rg G hok hex sz' σ a0 a1 (Value.ref (G.2 951)) rfl q2 eq2) ks_J0_1059 hok rfl rfl (Nat.le_of_ble_eq_true rfl) ⟨⟨rfl, rfl⟩, ⟨Nat.le_of_ble_eq_true rfl, Nat.le_of_ble_eq_true rfl⟩, Nat.zero_le _, Nat.zero_le _⟩ dJ0_checkIndex_df160_5 ?_
    refine jx_pop (pc := 8) rfl dJ0_checkIndex_df160_8 ?_
    cases h
    exact jx_vret (pc := 9) dJ0_checkIndex_df160_9
theorem dJ0_coder_7d493_0 : decode cJ0_coder_7d493 0 = .ok (.getstatic 38, 3) := by decide +kernel
theorem dJ0_coder_7d493_3 : decode cJ0_coder_7d493 3 = .ok (.ifCond .eq 10, 3) := by decide +kernel
theorem dJ0_coder_7d493_6 : decode cJ0_coder_7d493 6 = .ok (.aload_n 0, 1) := by decide +kernel
theorem dJ0_coder_7d493_7 : decode cJ0_coder_7d493 7 = .ok (.getfield 15, 3) := by decide +kernel
theorem dJ0_coder_7d493_10 : decode cJ0_coder_7d493 10 = .ok (.goto 4, 3) := by decide +kernel
theorem dJ0_coder_7d493_13 : decode cJ0_coder_7d493 13 = .ok (.iconst 1, 1) := by decide +kernel
theorem dJ0_coder_7d493_14 : decode cJ0_coder_7d493 14 = .ok (.ireturn, 1) := by decide +kernel
abbrev rm_J0_coder_7d493 : Room := { frames := 0, cells := 0, slots := 0, locals := 0 }
abbrev jJ_J0_coder_7d493 (l : Launch) {X : Type} (env : (Nat → Prop) → State → Prop) (dyn : X → Heap → Prop) (rg : Nat → Prop) (G : jx_G) (sz : Nat) (σ0 : X) (out : Int32) (pc : Nat) (lv : List (Nat × Value)) (st : List Value) (σ : X) : Prop := jx_J l (env) (dyn) (rg) sz RJ0 "coder" cJ0_coder_7d493 1 (some .byte) rm_J0_coder_7d493 (fun below args s => MQ below (jx_Qi (dyn) σ0 out (jx_A (rg) sz)) args s 0 0 (jx_A (rg) sz)) 0 0 pc lv st σ
def f_J0_coder_7d493 (a0 : Nat) : Option Int32 :=
  if (1 : Int32) = 0 then some (1 : Int32) else jx_gd (decide (a0 < 7)) (some (0 : Int32))
set_option maxHeartbeats 4000000 in
set_option maxRecDepth 100000 in
theorem k_J0_coder_7d493 (l : Launch) {X : Type} (env : (Nat → Prop) → State → Prop) (dyn : X → Heap → Prop) (rg : Nat → Prop) (G : jx_G) (hok : jx_ok rg env) (hex : ∀ A s, env A s → jx_ex G A s) (sz : Nat) (σ : X) (a0 : Nat) (out : Int32) (h : f_J0_coder_7d493 a0 = some out) : Met l yJ0_coder_7d493 (Cond.code yJ0_coder_7d493 cJ0_coder_7d493 1 (some .byte) :: jx_ws) rm_J0_coder_7d493 (jx_Pc (env) (dyn) (rg) sz σ [.ref (G.2 (1000 + a0))]) (jx_Qi (dyn) σ out (jx_A (rg) sz)) 0 0 (jx_A (rg) sz) := by
  unfold f_J0_coder_7d493 at h
  refine jx_met (by decide) (Nat.le_of_ble_eq_true rfl) ?_
  refine jx_sub (lv' := [(0, .ref (G.2 (1000 + a0)))]) [0] rfl ?_
  refine st_cs (pc := 0) hex fl_J0_38 dJ0_coder_7d493_0 ?_
  refine jx_if_eq (pc := 3) (tgt := 13) dJ0_coder_7d493_3 (by decide) (fun c1 => ?_) (fun c1 => ?_)
  · have h := jx_t c1 h
    refine jx_iconst (pc := 13) (v := (1 : Int32)) (by decide) dJ0_coder_7d493_13 ?_
    cases h
    exact jx_nret (pc := 14) (by rfl) dJ0_coder_7d493_14
  · have h := jx_f c1 h
    refine jx_aload_n (pc := 6) (k0 := 0) rfl dJ0_coder_7d493_6 ?_
    obtain ⟨g2, h⟩ := jx_gd_o h
    refine st_coder (pc := 7) hex (i := a0) (of_decide_eq_true g2) fl_J0_15 dJ0_coder_7d493_7 ?_
    refine jx_goto (pc := 10) (tgt := 14) dJ0_coder_7d493_10 (by decide) ?_
    cases h
    exact jx_nret (pc := 14) (by rfl) dJ0_coder_7d493_14
theorem dJ0_isLatin1_aae02_0 : decode cJ0_isLatin1_aae02 0 = .ok (.getstatic 38, 3) := by decide +kernel
theorem dJ0_isLatin1_aae02_3 : decode cJ0_isLatin1_aae02 3 = .ok (.ifCond .eq 14, 3) := by decide +kernel
theorem dJ0_isLatin1_aae02_6 : decode cJ0_isLatin1_aae02 6 = .ok (.aload_n 0, 1) := by decide +kernel
theorem dJ0_isLatin1_aae02_7 : decode cJ0_isLatin1_aae02 7 = .ok (.getfield 15, 3) := by decide +kernel
theorem dJ0_isLatin1_aae02_10 : decode cJ0_isLatin1_aae02 10 = .ok (.ifCond .ne 7, 3) := by decide +kernel
theorem dJ0_isLatin1_aae02_13 : decode cJ0_isLatin1_aae02 13 = .ok (.iconst 1, 1) := by decide +kernel
theorem dJ0_isLatin1_aae02_14 : decode cJ0_isLatin1_aae02 14 = .ok (.goto 4, 3) := by decide +kernel
theorem dJ0_isLatin1_aae02_17 : decode cJ0_isLatin1_aae02 17 = .ok (.iconst 0, 1) := by decide +kernel
theorem dJ0_isLatin1_aae02_18 : decode cJ0_isLatin1_aae02 18 = .ok (.ireturn, 1) := by decide +kernel
abbrev rm_J0_isLatin1_aae02 : Room := { frames := 0, cells := 0, slots := 0, locals := 0 }
abbrev jJ_J0_isLatin1_aae02 (l : Launch) {X : Type} (env : (Nat → Prop) → State → Prop) (dyn : X → Heap → Prop) (rg : Nat → Prop) (G : jx_G) (sz : Nat) (σ0 : X) (out : Int32) (pc : Nat) (lv : List (Nat × Value)) (st : List Value) (σ : X) : Prop := jx_J l (env) (dyn) (rg) sz RJ0 "isLatin1" cJ0_isLatin1_aae02 1 (some .boolean) rm_J0_isLatin1_aae02 (fun below args s => MQ below (jx_Qi (dyn) σ0 out (jx_A (rg) sz)) args s 0 0 (jx_A (rg) sz)) 0 0 pc lv st σ
def f_J0_isLatin1_aae02 (a0 : Nat) : Option Int32 :=
  if (1 : Int32) = 0 then some (0 : Int32) else jx_gd (decide (a0 < 7)) (if (0 : Int32) = 0 then some (1 : Int32) else some (0 : Int32))
set_option maxHeartbeats 4000000 in
set_option maxRecDepth 100000 in
theorem k_J0_isLatin1_aae02 (l : Launch) {X : Type} (env : (Nat → Prop) → State → Prop) (dyn : X → Heap → Prop) (rg : Nat → Prop) (G : jx_G) (hok : jx_ok rg env) (hex : ∀ A s, env A s → jx_ex G A s) (sz : Nat) (σ : X) (a0 : Nat) (out : Int32) (h : f_J0_isLatin1_aae02 a0 = some out) : Met l yJ0_isLatin1_aae02 (Cond.code yJ0_isLatin1_aae02 cJ0_isLatin1_aae02 1 (some .boolean) :: jx_ws) rm_J0_isLatin1_aae02 (jx_Pc (env) (dyn) (rg) sz σ [.ref (G.2 (1000 + a0))]) (jx_Qi (dyn) σ out (jx_A (rg) sz)) 0 0 (jx_A (rg) sz) := by
  unfold f_J0_isLatin1_aae02 at h
  refine jx_met (by decide) (Nat.le_of_ble_eq_true rfl) ?_
  refine jx_sub (lv' := [(0, .ref (G.2 (1000 + a0)))]) [0] rfl ?_
  refine st_cs (pc := 0) hex fl_J0_38 dJ0_isLatin1_aae02_0 ?_
  refine jx_if_eq (pc := 3) (tgt := 17) dJ0_isLatin1_aae02_3 (by decide) (fun c1 => ?_) (fun c1 => ?_)
  · have h := jx_t c1 h
    refine jx_iconst (pc := 17) (v := (0 : Int32)) (by decide) dJ0_isLatin1_aae02_17 ?_
    cases h
    exact jx_zret (pc := 18) (Or.inl rfl) dJ0_isLatin1_aae02_18
  · have h := jx_f c1 h
    refine jx_aload_n (pc := 6) (k0 := 0) rfl dJ0_isLatin1_aae02_6 ?_
    obtain ⟨g2, h⟩ := jx_gd_o h
    refine st_coder (pc := 7) hex (i := a0) (of_decide_eq_true g2) fl_J0_15 dJ0_isLatin1_aae02_7 ?_
    refine jx_if_ne (pc := 10) (tgt := 17) dJ0_isLatin1_aae02_10 (by decide) (fun c3 => ?_) (fun c3 => ?_)
    · have h := jx_f c3 h
      refine jx_iconst (pc := 17) (v := (0 : Int32)) (by decide) dJ0_isLatin1_aae02_17 ?_
      cases h
      exact jx_zret (pc := 18) (Or.inl rfl) dJ0_isLatin1_aae02_18
    · have h := jx_t c3 h
      refine jx_iconst (pc := 13) (v := (1 : Int32)) (by decide) dJ0_isLatin1_aae02_13 ?_
      refine jx_goto (pc := 14) (tgt := 18) dJ0_isLatin1_aae02_14 (by decide) ?_
      cases h
      exact jx_zret (pc := 18) (Or.inr rfl) dJ0_isLatin1_aae02_18
theorem dJ0_length_8abf5_0 : decode cJ0_length_8abf5 0 = .ok (.aload_n 0, 1) := by decide +kernel
theorem dJ0_length_8abf5_1 : decode cJ0_length_8abf5 1 = .ok (.getfield 9, 3) := by decide +kernel
theorem dJ0_length_8abf5_4 : decode cJ0_length_8abf5 4 = .ok (.arraylength, 1) := by decide +kernel
theorem dJ0_length_8abf5_5 : decode cJ0_length_8abf5 5 = .ok (.aload_n 0, 1) := by decide +kernel
theorem dJ0_length_8abf5_6 : decode cJ0_length_8abf5 6 = .ok (.invokevirtual 335, 3) := by decide +kernel
theorem dJ0_length_8abf5_9 : decode cJ0_length_8abf5 9 = .ok (.ishr, 1) := by decide +kernel
theorem dJ0_length_8abf5_10 : decode cJ0_length_8abf5 10 = .ok (.ireturn, 1) := by decide +kernel
abbrev rm_J0_length_8abf5 : Room := { frames := 1, cells := 0, slots := 0, locals := 20 }
abbrev jJ_J0_length_8abf5 (l : Launch) {X : Type} (env : (Nat → Prop) → State → Prop) (dyn : X → Heap → Prop) (rg : Nat → Prop) (G : jx_G) (sz : Nat) (σ0 : X) (out : Int32) (pc : Nat) (lv : List (Nat × Value)) (st : List Value) (σ : X) : Prop := jx_J l (env) (dyn) (rg) sz RJ0 "length" cJ0_length_8abf5 1 (some .int) rm_J0_length_8abf5 (fun below args s => MQ below (jx_Qi (dyn) σ0 out (jx_A (rg) sz)) args s 0 0 (jx_A (rg) sz)) 0 0 pc lv st σ
def f_J0_length_8abf5 (a0 : Nat) : Option Int32 :=
  jx_gd (decide (a0 < 7)) (jx_gd (decide (a0 < 7)) (jx_bd (f_J0_coder_7d493 a0) (fun q3 => jx_gd (decide (a0 < 7)) (some ((Int32.ofNat (st_len a0)) >>> (q3 &&& 31))))))
set_option maxHeartbeats 4000000 in
set_option maxRecDepth 100000 in
theorem k_J0_length_8abf5 (l : Launch) {X : Type} (env : (Nat → Prop) → State → Prop) (dyn : X → Heap → Prop) (rg : Nat → Prop) (G : jx_G) (hok : jx_ok rg env) (hex : ∀ A s, env A s → jx_ex G A s) (sz : Nat) (σ : X) (a0 : Nat) (out : Int32) (h : f_J0_length_8abf5 a0 = some out) : Met l yJ0_length_8abf5 (Cond.code yJ0_length_8abf5 cJ0_length_8abf5 1 (some .int) :: jx_ws) rm_J0_length_8abf5 (jx_Pc (env) (dyn) (rg) sz σ [.ref (G.2 (1000 + a0))]) (jx_Qi (dyn) σ out (jx_A (rg) sz)) 0 0 (jx_A (rg) sz) := by
  unfold f_J0_length_8abf5 at h
  refine jx_met (by decide) (Nat.le_of_ble_eq_true rfl) ?_
  refine jx_sub (lv' := [(0, .ref (G.2 (1000 + a0)))]) [0] rfl ?_
  refine jx_aload_n (pc := 0) (k0 := 0) rfl dJ0_length_8abf5_0 ?_
  obtain ⟨g1, h⟩ := jx_gd_o h
  refine st_value (pc := 1) hex (i := a0) (of_decide_eq_true g1) fl_J0_9 dJ0_length_8abf5_1 ?_
  obtain ⟨g2, h⟩ := jx_gd_o h
  refine st_bn (pc := 4) hex (i := a0) (of_decide_eq_true g2) dJ0_length_8abf5_4 ?_
  refine jx_aload_n (pc := 5) (k0 := 0) rfl dJ0_length_8abf5_5 ?_
  obtain ⟨q3, eq3, h⟩ := jx_bd_o h
  obtain ⟨g4, h⟩ := jx_gd_o h
  refine jx_callVi (pc := 6) [] (fun sz' => k_J0_coder_7d493 l env dyn rg G hok hex sz' σ a0 q3 eq3) kv_J0_335 hok (st_rc hex (i := a0) (of_decide_eq_true g4)) rfl rfl (Nat.le_of_ble_eq_true rfl) ⟨⟨rfl, rfl⟩, ⟨Nat.le_of_ble_eq_true rfl, Nat.le_of_ble_eq_true rfl⟩, Nat.zero_le _, Nat.zero_le _⟩ dJ0_length_8abf5_6 ?_
  refine jx_ishr (pc := 9) dJ0_length_8abf5_9 ?_
  cases h
  exact jx_iret (pc := 10) dJ0_length_8abf5_10
theorem dJ1_charAt_3b067_0 : decode cJ1_charAt_3b067 0 = .ok (.iload_n 1, 1) := by decide +kernel
theorem dJ1_charAt_3b067_1 : decode cJ1_charAt_3b067 1 = .ok (.aload_n 0, 1) := by decide +kernel
theorem dJ1_charAt_3b067_2 : decode cJ1_charAt_3b067 2 = .ok (.arraylength, 1) := by decide +kernel
theorem dJ1_charAt_3b067_3 : decode cJ1_charAt_3b067 3 = .ok (.invokestatic 9, 3) := by decide +kernel
theorem dJ1_charAt_3b067_6 : decode cJ1_charAt_3b067 6 = .ok (.aload_n 0, 1) := by decide +kernel
theorem dJ1_charAt_3b067_7 : decode cJ1_charAt_3b067 7 = .ok (.iload_n 1, 1) := by decide +kernel
theorem dJ1_charAt_3b067_8 : decode cJ1_charAt_3b067 8 = .ok (.baload, 1) := by decide +kernel
theorem dJ1_charAt_3b067_9 : decode cJ1_charAt_3b067 9 = .ok (.sipush 255, 3) := by decide +kernel
theorem dJ1_charAt_3b067_12 : decode cJ1_charAt_3b067 12 = .ok (.iand, 1) := by decide +kernel
theorem dJ1_charAt_3b067_13 : decode cJ1_charAt_3b067 13 = .ok (.i2c, 1) := by decide +kernel
theorem dJ1_charAt_3b067_14 : decode cJ1_charAt_3b067 14 = .ok (.ireturn, 1) := by decide +kernel
abbrev rm_J1_charAt_3b067 : Room := { frames := 2, cells := 0, slots := 0, locals := 43 }
abbrev jJ_J1_charAt_3b067 (l : Launch) {X : Type} (env : (Nat → Prop) → State → Prop) (dyn : X → Heap → Prop) (rg : Nat → Prop) (G : jx_G) (sz : Nat) (σ0 : X) (out : Int32) (pc : Nat) (lv : List (Nat × Value)) (st : List Value) (σ : X) : Prop := jx_J l (env) (dyn) (rg) sz RJ1 "charAt" cJ1_charAt_3b067 2 (some .char) rm_J1_charAt_3b067 (fun below args s => MQ below (jx_Qi (dyn) σ0 out (jx_A (rg) sz)) args s 0 0 (jx_A (rg) sz)) 0 0 pc lv st σ
def f_J1_charAt_3b067 (a0 : Nat) (a1 : Int32) : Option Int32 :=
  jx_gd (decide (a0 < 7)) (jx_bd (f_J0_checkIndex_df160 a1 (Int32.ofNat (st_len a0))) (fun q2 => jx_gd (decide (a0 < 7)) (jx_gd (jx_in a1 (st_len a0)) (jx_gd (decide (vp_nar .char (((st_b a0 a1.toNatClampNeg) &&& (255 : Int32)).toUInt32 % 65536).toInt32 = (((st_b a0 a1.toNatClampNeg) &&& (255 : Int32)).toUInt32 % 65536).toInt32)) (some (((st_b a0 a1.toNatClampNeg) &&& (255 : Int32)).toUInt32 % 65536).toInt32)))))
set_option maxHeartbeats 4000000 in
set_option maxRecDepth 100000 in
theorem k_J1_charAt_3b067 (l : Launch) {X : Type} (env : (Nat → Prop) → State → Prop) (dyn : X → Heap → Prop) (rg : Nat → Prop) (G : jx_G) (hok : jx_ok rg env) (hex : ∀ A s, env A s → jx_ex G A s) (sz : Nat) (σ : X) (a0 : Nat) (a1 : Int32) (out : Int32) (h : f_J1_charAt_3b067 a0 a1 = some out) : Met l yJ1_charAt_3b067 (Cond.code yJ1_charAt_3b067 cJ1_charAt_3b067 2 (some .char) :: jx_ws) rm_J1_charAt_3b067 (jx_Pc (env) (dyn) (rg) sz σ [.ref (G.2 (1100 + a0)), .int a1]) (jx_Qi (dyn) σ out (jx_A (rg) sz)) 0 0 (jx_A (rg) sz) := by
  unfold f_J1_charAt_3b067 at h
  refine jx_met (by decide) (Nat.le_of_ble_eq_true rfl) ?_
  refine jx_sub (lv' := [(0, .ref (G.2 (1100 + a0))), (1, .int a1)]) [0, 1] rfl ?_
  refine jx_iload_n (pc := 0) (k0 := 1) rfl dJ1_charAt_3b067_0 ?_
  refine jx_aload_n (pc := 1) (k0 := 0) rfl dJ1_charAt_3b067_1 ?_
  obtain ⟨g1, h⟩ := jx_gd_o h
  refine st_bn (pc := 2) hex (i := a0) (of_decide_eq_true g1) dJ1_charAt_3b067_2 ?_
  obtain ⟨q2, eq2, h⟩ := jx_bd_o h
  refine jx_callSv (pc := 3) [.int a1, .int (Int32.ofNat (st_len a0))] (fun sz' => k_J0_checkIndex_df160 l env dyn rg G hok hex sz' σ a1 (Int32.ofNat (st_len a0)) q2 eq2) ks_J1_9 hok rfl rfl (Nat.le_of_ble_eq_true rfl) ⟨⟨rfl, rfl⟩, ⟨Nat.le_of_ble_eq_true rfl, Nat.le_of_ble_eq_true rfl⟩, Nat.zero_le _, Nat.zero_le _⟩ dJ1_charAt_3b067_3 ?_
  refine jx_aload_n (pc := 6) (k0 := 0) rfl dJ1_charAt_3b067_6 ?_
  refine jx_iload_n (pc := 7) (k0 := 1) rfl dJ1_charAt_3b067_7 ?_
  obtain ⟨g3, h⟩ := jx_gd_o h
  obtain ⟨g4, h⟩ := jx_gd_o h
  refine st_bl (pc := 8) hex (i := a0) (of_decide_eq_true g3) (jx_in_o g4) rfl dJ1_charAt_3b067_8 ?_
  refine jx_sipush (pc := 9) (v := (255 : Int32)) (by decide) dJ1_charAt_3b067_9 ?_
  refine jx_iand (pc := 12) dJ1_charAt_3b067_12 ?_
  refine jx_i2c (pc := 13) dJ1_charAt_3b067_13 ?_
  obtain ⟨g5, h⟩ := jx_gd_o h
  cases h
  exact jx_nret (pc := 14) (jx_narc (of_decide_eq_true g5)) dJ1_charAt_3b067_14
theorem dJ0_charAt_5068e_0 : decode cJ0_charAt_5068e 0 = .ok (.aload_n 0, 1) := by decide +kernel
theorem dJ0_charAt_5068e_1 : decode cJ0_charAt_5068e 1 = .ok (.invokevirtual 492, 3) := by decide +kernel
theorem dJ0_charAt_5068e_4 : decode cJ0_charAt_5068e 4 = .ok (.ifCond .eq 12, 3) := by decide +kernel
theorem dJ0_charAt_5068e_7 : decode cJ0_charAt_5068e 7 = .ok (.aload_n 0, 1) := by decide +kernel
theorem dJ0_charAt_5068e_8 : decode cJ0_charAt_5068e 8 = .ok (.getfield 9, 3) := by decide +kernel
theorem dJ0_charAt_5068e_11 : decode cJ0_charAt_5068e 11 = .ok (.iload_n 1, 1) := by decide +kernel
theorem dJ0_charAt_5068e_12 : decode cJ0_charAt_5068e 12 = .ok (.invokestatic 495, 3) := by decide +kernel
theorem dJ0_charAt_5068e_15 : decode cJ0_charAt_5068e 15 = .ok (.ireturn, 1) := by decide +kernel
theorem dJ0_charAt_5068e_16 : decode cJ0_charAt_5068e 16 = .ok (.aload_n 0, 1) := by decide +kernel
theorem dJ0_charAt_5068e_17 : decode cJ0_charAt_5068e 17 = .ok (.getfield 9, 3) := by decide +kernel
theorem dJ0_charAt_5068e_20 : decode cJ0_charAt_5068e 20 = .ok (.iload_n 1, 1) := by decide +kernel
theorem dJ0_charAt_5068e_21 : decode cJ0_charAt_5068e 21 = .ok (.invokestatic 498, 3) := by decide +kernel
theorem dJ0_charAt_5068e_24 : decode cJ0_charAt_5068e 24 = .ok (.ireturn, 1) := by decide +kernel
abbrev rm_J0_charAt_5068e : Room := { frames := 3, cells := 0, slots := 0, locals := 64 }
abbrev jJ_J0_charAt_5068e (l : Launch) {X : Type} (env : (Nat → Prop) → State → Prop) (dyn : X → Heap → Prop) (rg : Nat → Prop) (G : jx_G) (sz : Nat) (σ0 : X) (out : Int32) (pc : Nat) (lv : List (Nat × Value)) (st : List Value) (σ : X) : Prop := jx_J l (env) (dyn) (rg) sz RJ0 "charAt" cJ0_charAt_5068e 2 (some .char) rm_J0_charAt_5068e (fun below args s => MQ below (jx_Qi (dyn) σ0 out (jx_A (rg) sz)) args s 0 0 (jx_A (rg) sz)) 0 0 pc lv st σ
def f_J0_charAt_5068e (a0 : Nat) (a1 : Int32) : Option Int32 :=
  jx_bd (f_J0_isLatin1_aae02 a0) (fun q1 => jx_gd (decide (a0 < 7)) (if q1 = 0 then jx_gd (decide (a0 < 7)) (none) else jx_gd (decide (a0 < 7)) (jx_bd (f_J1_charAt_3b067 a0 a1) (fun q6 => jx_gd (decide (vp_nar .char q6 = q6)) (some q6)))))
set_option maxHeartbeats 4000000 in
set_option maxRecDepth 100000 in
theorem k_J0_charAt_5068e (l : Launch) {X : Type} (env : (Nat → Prop) → State → Prop) (dyn : X → Heap → Prop) (rg : Nat → Prop) (G : jx_G) (hok : jx_ok rg env) (hex : ∀ A s, env A s → jx_ex G A s) (sz : Nat) (σ : X) (a0 : Nat) (a1 : Int32) (out : Int32) (h : f_J0_charAt_5068e a0 a1 = some out) : Met l yJ0_charAt_5068e (Cond.code yJ0_charAt_5068e cJ0_charAt_5068e 2 (some .char) :: jx_ws) rm_J0_charAt_5068e (jx_Pc (env) (dyn) (rg) sz σ [.ref (G.2 (1000 + a0)), .int a1]) (jx_Qi (dyn) σ out (jx_A (rg) sz)) 0 0 (jx_A (rg) sz) := by
  unfold f_J0_charAt_5068e at h
  refine jx_met (by decide) (Nat.le_of_ble_eq_true rfl) ?_
  refine jx_sub (lv' := [(0, .ref (G.2 (1000 + a0))), (1, .int a1)]) [0, 1] rfl ?_
  refine jx_aload_n (pc := 0) (k0 := 0) rfl dJ0_charAt_5068e_0 ?_
  obtain ⟨q1, eq1, h⟩ := jx_bd_o h
  obtain ⟨g2, h⟩ := jx_gd_o h
  refine jx_callVi (pc := 1) [] (fun sz' => k_J0_isLatin1_aae02 l env dyn rg G hok hex sz' σ a0 q1 eq1) kv_J0_492 hok (st_rc hex (i := a0) (of_decide_eq_true g2)) rfl rfl (Nat.le_of_ble_eq_true rfl) ⟨⟨rfl, rfl⟩, ⟨Nat.le_of_ble_eq_true rfl, Nat.le_of_ble_eq_true rfl⟩, Nat.zero_le _, Nat.zero_le _⟩ dJ0_charAt_5068e_1 ?_
  refine jx_if_eq (pc := 4) (tgt := 16) dJ0_charAt_5068e_4 (by decide) (fun c3 => ?_) (fun c3 => ?_)
  · have h := jx_t c3 h
    refine jx_aload_n (pc := 16) (k0 := 0) rfl dJ0_charAt_5068e_16 ?_
    obtain ⟨g4, h⟩ := jx_gd_o h
    refine st_value (pc := 17) hex (i := a0) (of_decide_eq_true g4) fl_J0_9 dJ0_charAt_5068e_17 ?_
    refine jx_iload_n (pc := 20) (k0 := 1) rfl dJ0_charAt_5068e_20 ?_
    cases h
  · have h := jx_f c3 h
    refine jx_aload_n (pc := 7) (k0 := 0) rfl dJ0_charAt_5068e_7 ?_
    obtain ⟨g5, h⟩ := jx_gd_o h
    refine st_value (pc := 8) hex (i := a0) (of_decide_eq_true g5) fl_J0_9 dJ0_charAt_5068e_8 ?_
    refine jx_iload_n (pc := 11) (k0 := 1) rfl dJ0_charAt_5068e_11 ?_
    obtain ⟨q6, eq6, h⟩ := jx_bd_o h
    refine jx_callSi (pc := 12) [.ref (G.2 (1100 + a0)), .int a1] (fun sz' => k_J1_charAt_3b067 l env dyn rg G hok hex sz' σ a0 a1 q6 eq6) ks_J0_495 hok rfl rfl (Nat.le_of_ble_eq_true rfl) ⟨⟨rfl, rfl⟩, ⟨Nat.le_of_ble_eq_true rfl, Nat.le_of_ble_eq_true rfl⟩, Nat.zero_le _, Nat.zero_le _⟩ dJ0_charAt_5068e_12 ?_
    obtain ⟨g7, h⟩ := jx_gd_o h
    cases h
    exact jx_nret (pc := 15) (jx_narc (of_decide_eq_true g7)) dJ0_charAt_5068e_15
theorem dJ1_canEncode_9a6ad_0 : decode cJ1_canEncode_9a6ad 0 = .ok (.iload_n 0, 1) := by decide +kernel
theorem dJ1_canEncode_9a6ad_1 : decode cJ1_canEncode_9a6ad 1 = .ok (.ifCond .lt 14, 3) := by decide +kernel
theorem dJ1_canEncode_9a6ad_4 : decode cJ1_canEncode_9a6ad 4 = .ok (.iload_n 0, 1) := by decide +kernel
theorem dJ1_canEncode_9a6ad_5 : decode cJ1_canEncode_9a6ad 5 = .ok (.sipush 255, 3) := by decide +kernel
theorem dJ1_canEncode_9a6ad_8 : decode cJ1_canEncode_9a6ad 8 = .ok (.if_icmp .gt 7, 3) := by decide +kernel
theorem dJ1_canEncode_9a6ad_11 : decode cJ1_canEncode_9a6ad 11 = .ok (.iconst 1, 1) := by decide +kernel
theorem dJ1_canEncode_9a6ad_12 : decode cJ1_canEncode_9a6ad 12 = .ok (.goto 4, 3) := by decide +kernel
theorem dJ1_canEncode_9a6ad_15 : decode cJ1_canEncode_9a6ad 15 = .ok (.iconst 0, 1) := by decide +kernel
theorem dJ1_canEncode_9a6ad_16 : decode cJ1_canEncode_9a6ad 16 = .ok (.ireturn, 1) := by decide +kernel
abbrev rm_J1_canEncode_9a6ad : Room := { frames := 0, cells := 0, slots := 0, locals := 0 }
abbrev jJ_J1_canEncode_9a6ad (l : Launch) {X : Type} (env : (Nat → Prop) → State → Prop) (dyn : X → Heap → Prop) (rg : Nat → Prop) (G : jx_G) (sz : Nat) (σ0 : X) (out : Int32) (pc : Nat) (lv : List (Nat × Value)) (st : List Value) (σ : X) : Prop := jx_J l (env) (dyn) (rg) sz RJ1 "canEncode" cJ1_canEncode_9a6ad 1 (some .boolean) rm_J1_canEncode_9a6ad (fun below args s => MQ below (jx_Qi (dyn) σ0 out (jx_A (rg) sz)) args s 0 0 (jx_A (rg) sz)) 0 0 pc lv st σ
def f_J1_canEncode_9a6ad (a0 : Int32) : Option Int32 :=
  if a0 < 0 then some (0 : Int32) else if (255 : Int32) < a0 then some (0 : Int32) else some (1 : Int32)
set_option maxHeartbeats 4000000 in
set_option maxRecDepth 100000 in
theorem k_J1_canEncode_9a6ad (l : Launch) {X : Type} (env : (Nat → Prop) → State → Prop) (dyn : X → Heap → Prop) (rg : Nat → Prop) (G : jx_G) (hok : jx_ok rg env) (hex : ∀ A s, env A s → jx_ex G A s) (sz : Nat) (σ : X) (a0 : Int32) (out : Int32) (h : f_J1_canEncode_9a6ad a0 = some out) : Met l yJ1_canEncode_9a6ad (Cond.code yJ1_canEncode_9a6ad cJ1_canEncode_9a6ad 1 (some .boolean) :: jx_ws) rm_J1_canEncode_9a6ad (jx_Pc (env) (dyn) (rg) sz σ [.int a0]) (jx_Qi (dyn) σ out (jx_A (rg) sz)) 0 0 (jx_A (rg) sz) := by
  unfold f_J1_canEncode_9a6ad at h
  refine jx_met (by decide) (Nat.le_of_ble_eq_true rfl) ?_
  refine jx_sub (lv' := [(0, .int a0)]) [0] rfl ?_
  refine jx_iload_n (pc := 0) (k0 := 0) rfl dJ1_canEncode_9a6ad_0 ?_
  refine jx_if_lt (pc := 1) (tgt := 15) dJ1_canEncode_9a6ad_1 (by decide) (fun c1 => ?_) (fun c1 => ?_)
  · have h := jx_t c1 h
    refine jx_iconst (pc := 15) (v := (0 : Int32)) (by decide) dJ1_canEncode_9a6ad_15 ?_
    cases h
    exact jx_zret (pc := 16) (Or.inl rfl) dJ1_canEncode_9a6ad_16
  · have h := jx_f c1 h
    refine jx_iload_n (pc := 4) (k0 := 0) rfl dJ1_canEncode_9a6ad_4 ?_
    refine jx_sipush (pc := 5) (v := (255 : Int32)) (by decide) dJ1_canEncode_9a6ad_5 ?_
    refine jx_icmp_gt (pc := 8) (tgt := 15) dJ1_canEncode_9a6ad_8 (by decide) (fun c2 => ?_) (fun c2 => ?_)
    · have h := jx_t c2 h
      refine jx_iconst (pc := 15) (v := (0 : Int32)) (by decide) dJ1_canEncode_9a6ad_15 ?_
      cases h
      exact jx_zret (pc := 16) (Or.inl rfl) dJ1_canEncode_9a6ad_16
    · have h := jx_f c2 h
      refine jx_iconst (pc := 11) (v := (1 : Int32)) (by decide) dJ1_canEncode_9a6ad_11 ?_
      refine jx_goto (pc := 12) (tgt := 16) dJ1_canEncode_9a6ad_12 (by decide) ?_
      cases h
      exact jx_zret (pc := 16) (Or.inr rfl) dJ1_canEncode_9a6ad_16
theorem dJ1_indexOfChar_4cfef_0 : decode cJ1_indexOfChar_4cfef 0 = .ok (.iload_n 1, 1) := by decide +kernel
theorem dJ1_indexOfChar_4cfef_1 : decode cJ1_indexOfChar_4cfef 1 = .ok (.i2b, 1) := by decide +kernel
theorem dJ1_indexOfChar_4cfef_2 : decode cJ1_indexOfChar_4cfef 2 = .ok (.istore 4, 2) := by decide +kernel
theorem dJ1_indexOfChar_4cfef_4 : decode cJ1_indexOfChar_4cfef 4 = .ok (.iload_n 2, 1) := by decide +kernel
theorem dJ1_indexOfChar_4cfef_5 : decode cJ1_indexOfChar_4cfef 5 = .ok (.istore 5, 2) := by decide +kernel
theorem dJ1_indexOfChar_4cfef_7 : decode cJ1_indexOfChar_4cfef 7 = .ok (.iload 5, 2) := by decide +kernel
theorem dJ1_indexOfChar_4cfef_9 : decode cJ1_indexOfChar_4cfef 9 = .ok (.iload_n 3, 1) := by decide +kernel
theorem dJ1_indexOfChar_4cfef_10 : decode cJ1_indexOfChar_4cfef 10 = .ok (.if_icmp .ge 21, 3) := by decide +kernel
theorem dJ1_indexOfChar_4cfef_13 : decode cJ1_indexOfChar_4cfef 13 = .ok (.aload_n 0, 1) := by decide +kernel
theorem dJ1_indexOfChar_4cfef_14 : decode cJ1_indexOfChar_4cfef 14 = .ok (.iload 5, 2) := by decide +kernel
theorem dJ1_indexOfChar_4cfef_16 : decode cJ1_indexOfChar_4cfef 16 = .ok (.baload, 1) := by decide +kernel
theorem dJ1_indexOfChar_4cfef_17 : decode cJ1_indexOfChar_4cfef 17 = .ok (.iload 4, 2) := by decide +kernel
theorem dJ1_indexOfChar_4cfef_19 : decode cJ1_indexOfChar_4cfef 19 = .ok (.if_icmp .ne 6, 3) := by decide +kernel
theorem dJ1_indexOfChar_4cfef_22 : decode cJ1_indexOfChar_4cfef 22 = .ok (.iload 5, 2) := by decide +kernel
theorem dJ1_indexOfChar_4cfef_24 : decode cJ1_indexOfChar_4cfef 24 = .ok (.ireturn, 1) := by decide +kernel
theorem dJ1_indexOfChar_4cfef_25 : decode cJ1_indexOfChar_4cfef 25 = .ok (.iinc 5 1, 3) := by decide +kernel
theorem dJ1_indexOfChar_4cfef_28 : decode cJ1_indexOfChar_4cfef 28 = .ok (.goto (-21), 3) := by decide +kernel
theorem dJ1_indexOfChar_4cfef_31 : decode cJ1_indexOfChar_4cfef 31 = .ok (.iconst (-1), 1) := by decide +kernel
theorem dJ1_indexOfChar_4cfef_32 : decode cJ1_indexOfChar_4cfef 32 = .ok (.ireturn, 1) := by decide +kernel
abbrev rm_J1_indexOfChar_4cfef : Room := { frames := 0, cells := 0, slots := 0, locals := 0 }
abbrev jJ_J1_indexOfChar_4cfef (l : Launch) {X : Type} (env : (Nat → Prop) → State → Prop) (dyn : X → Heap → Prop) (rg : Nat → Prop) (G : jx_G) (sz : Nat) (σ0 : X) (out : Int32) (pc : Nat) (lv : List (Nat × Value)) (st : List Value) (σ : X) : Prop := jx_J l (env) (dyn) (rg) sz RJ1 "indexOfChar" cJ1_indexOfChar_4cfef 6 (some .int) rm_J1_indexOfChar_4cfef (fun below args s => MQ below (jx_Qi (dyn) σ0 out (jx_A (rg) sz)) args s 0 0 (jx_A (rg) sz)) 0 0 pc lv st σ
def g_J1_indexOfChar_4cfef_7 (k7 : Nat → Int32 → Int32 → Int32 → Option Int32) (v0 : Nat) (v3 : Int32) (v4 : Int32) (v5 : Int32) : Option Int32 :=
  if v3 ≤ v5 then some (-1 : Int32) else jx_gd (decide (v0 < 7)) (jx_gd (jx_in v5 (st_len v0)) (if (st_b v0 v5.toNatClampNeg) = v4 then some v5 else jx_lt (v5 + (1 : Int32)) (fun x5 => (k7 v0 v3 v4 x5))))
set_option maxHeartbeats 4000000 in
set_option maxRecDepth 100000 in
theorem jg_J1_indexOfChar_4cfef_7 (l : Launch) {X : Type} (env : (Nat → Prop) → State → Prop) (dyn : X → Heap → Prop) (rg : Nat → Prop) (G : jx_G) (hok : jx_ok rg env) (hex : ∀ A s, env A s → jx_ex G A s) (sz : Nat) (σ0 : X) (out : Int32) (k7 : Nat → Int32 → Int32 → Int32 → Option Int32) (h7 : ∀ (σ : X) (v0 : Nat) (v3 : Int32) (v4 : Int32) (v5 : Int32), σ = σ0 → k7 v0 v3 v4 v5 = some out → jJ_J1_indexOfChar_4cfef l env dyn rg G sz σ0 out 7 [(0, .ref (G.2 (1100 + v0))), (3, .int v3), (4, .int v4), (5, .int v5)] [] σ) (σ : X) (v0 : Nat) (v3 : Int32) (v4 : Int32) (v5 : Int32) (e0 : σ = σ0) (h : g_J1_indexOfChar_4cfef_7 k7 v0 v3 v4 v5 = some out) : jJ_J1_indexOfChar_4cfef l env dyn rg G sz σ0 out 7 [(0, .ref (G.2 (1100 + v0))), (3, .int v3), (4, .int v4), (5, .int v5)] [] σ := by
  unfold g_J1_indexOfChar_4cfef_7 at h
  refine jx_iload (pc := 7) (i := 5) rfl dJ1_indexOfChar_4cfef_7 ?_
  refine jx_iload_n (pc := 9) (k0 := 3) rfl dJ1_indexOfChar_4cfef_9 ?_
  refine jx_icmp_ge (pc := 10) (tgt := 31) dJ1_indexOfChar_4cfef_10 (by decide) (fun c1 => ?_) (fun c1 => ?_)
  · have h := jx_t c1 h
    refine jx_iconst (pc := 31) (v := (-1 : Int32)) (by decide) dJ1_indexOfChar_4cfef_31 ?_
    subst e0
    cases h
    exact jx_iret (pc := 32) dJ1_indexOfChar_4cfef_32
  · have h := jx_f c1 h
    refine jx_aload_n (pc := 13) (k0 := 0) rfl dJ1_indexOfChar_4cfef_13 ?_
    refine jx_iload (pc := 14) (i := 5) rfl dJ1_indexOfChar_4cfef_14 ?_
    obtain ⟨g2, h⟩ := jx_gd_o h
    obtain ⟨g3, h⟩ := jx_gd_o h
    refine st_bl (pc := 16) hex (i := v0) (of_decide_eq_true g2) (jx_in_o g3) rfl dJ1_indexOfChar_4cfef_16 ?_
    refine jx_iload (pc := 17) (i := 4) rfl dJ1_indexOfChar_4cfef_17 ?_
    refine jx_icmp_ne (pc := 19) (tgt := 25) dJ1_indexOfChar_4cfef_19 (by decide) (fun c4 => ?_) (fun c4 => ?_)
    · have h := jx_f c4 h
      obtain ⟨x5, ex5, h⟩ := jx_lt_o h
      refine jx_iinc (pc := 25) (i := 5) (v := v5) rfl ex5 (n := 1) (by decide) (by decide) (lv' := [(5, .int x5), (0, .ref (G.2 (1100 + v0))), (3, .int v3), (4, .int v4)]) rfl dJ1_indexOfChar_4cfef_25 ?_
      refine jx_goto (pc := 28) (tgt := 7) dJ1_indexOfChar_4cfef_28 (by decide) ?_
      exact jx_sub [1, 2, 3, 0] rfl (h7 σ v0 v3 v4 x5 e0 h)
    · have h := jx_t c4 h
      refine jx_iload (pc := 22) (i := 5) rfl dJ1_indexOfChar_4cfef_22 ?_
      subst e0
      cases h
      exact jx_iret (pc := 24) dJ1_indexOfChar_4cfef_24
def b_J1_indexOfChar_4cfef_7  : Nat → Nat → Int32 → Int32 → Int32 → Option Int32
  | 0, _, _, _, _ => none
  | n + 1, v0, v3, v4, v5 => g_J1_indexOfChar_4cfef_7 (b_J1_indexOfChar_4cfef_7 n) v0 v3 v4 v5
theorem jb_J1_indexOfChar_4cfef_7 (l : Launch) {X : Type} (env : (Nat → Prop) → State → Prop) (dyn : X → Heap → Prop) (rg : Nat → Prop) (G : jx_G) (hok : jx_ok rg env) (hex : ∀ A s, env A s → jx_ex G A s) (sz : Nat) (σ0 : X) (out : Int32)  : ∀ (n : Nat) (σ : X) (v0 : Nat) (v3 : Int32) (v4 : Int32) (v5 : Int32), σ = σ0 → b_J1_indexOfChar_4cfef_7 n v0 v3 v4 v5 = some out → jJ_J1_indexOfChar_4cfef l env dyn rg G sz σ0 out 7 [(0, .ref (G.2 (1100 + v0))), (3, .int v3), (4, .int v4), (5, .int v5)] [] σ := by
  intro n
  induction n with
  | zero =>
    intro σ v0 v3 v4 v5 e0 h
    cases h
  | succ n ih =>
    intro σ v0 v3 v4 v5 e0 h
    exact jg_J1_indexOfChar_4cfef_7 l env dyn rg G hok hex sz σ0 out (b_J1_indexOfChar_4cfef_7 n) ih σ v0 v3 v4 v5 e0 h
def f_J1_indexOfChar_4cfef (a0 : Nat) (a1 : Int32) (a2 : Int32) (a3 : Int32) : Option Int32 :=
  (b_J1_indexOfChar_4cfef_7 jx_fuel a0 a3 a1.toInt8.toInt32 a2)
set_option maxHeartbeats 4000000 in
set_option maxRecDepth 100000 in
theorem k_J1_indexOfChar_4cfef (l : Launch) {X : Type} (env : (Nat → Prop) → State → Prop) (dyn : X → Heap → Prop) (rg : Nat → Prop) (G : jx_G) (hok : jx_ok rg env) (hex : ∀ A s, env A s → jx_ex G A s) (sz : Nat) (σ : X) (a0 : Nat) (a1 : Int32) (a2 : Int32) (a3 : Int32) (out : Int32) (h : f_J1_indexOfChar_4cfef a0 a1 a2 a3 = some out) : Met l yJ1_indexOfChar_4cfef (Cond.code yJ1_indexOfChar_4cfef cJ1_indexOfChar_4cfef 6 (some .int) :: jx_ws) rm_J1_indexOfChar_4cfef (jx_Pc (env) (dyn) (rg) sz σ [.ref (G.2 (1100 + a0)), .int a1, .int a2, .int a3]) (jx_Qi (dyn) σ out (jx_A (rg) sz)) 0 0 (jx_A (rg) sz) := by
  unfold f_J1_indexOfChar_4cfef at h
  refine jx_met (by decide) (Nat.le_of_ble_eq_true rfl) ?_
  refine jx_sub (lv' := [(0, .ref (G.2 (1100 + a0))), (1, .int a1), (2, .int a2), (3, .int a3)]) [0, 1, 2, 3] rfl ?_
  refine jx_iload_n (pc := 0) (k0 := 1) rfl dJ1_indexOfChar_4cfef_0 ?_
  refine jx_i2b (pc := 1) dJ1_indexOfChar_4cfef_1 ?_
  refine jx_istore (pc := 2) (i := 4) rfl (by decide) (lv' := [(4, .int a1.toInt8.toInt32), (0, .ref (G.2 (1100 + a0))), (1, .int a1), (2, .int a2), (3, .int a3)]) rfl dJ1_indexOfChar_4cfef_2 ?_
  refine jx_iload_n (pc := 4) (k0 := 2) rfl dJ1_indexOfChar_4cfef_4 ?_
  refine jx_istore (pc := 5) (i := 5) rfl (by decide) (lv' := [(5, .int a2), (4, .int a1.toInt8.toInt32), (0, .ref (G.2 (1100 + a0))), (1, .int a1), (2, .int a2), (3, .int a3)]) rfl dJ1_indexOfChar_4cfef_5 ?_
  exact jx_sub [2, 5, 1, 0] rfl (jb_J1_indexOfChar_4cfef_7 l env dyn rg G hok hex sz σ out jx_fuel σ a0 a3 a1.toInt8.toInt32 a2 rfl h)
theorem dJ1_indexOf_4cfef_0 : decode cJ1_indexOf_4cfef 0 = .ok (.iload_n 1, 1) := by decide +kernel
theorem dJ1_indexOf_4cfef_1 : decode cJ1_indexOf_4cfef 1 = .ok (.invokestatic 88, 3) := by decide +kernel
theorem dJ1_indexOf_4cfef_4 : decode cJ1_indexOf_4cfef 4 = .ok (.ifCond .ne 5, 3) := by decide +kernel
theorem dJ1_indexOf_4cfef_7 : decode cJ1_indexOf_4cfef 7 = .ok (.iconst (-1), 1) := by decide +kernel
theorem dJ1_indexOf_4cfef_8 : decode cJ1_indexOf_4cfef 8 = .ok (.ireturn, 1) := by decide +kernel
theorem dJ1_indexOf_4cfef_9 : decode cJ1_indexOf_4cfef 9 = .ok (.iload_n 2, 1) := by decide +kernel
theorem dJ1_indexOf_4cfef_10 : decode cJ1_indexOf_4cfef 10 = .ok (.iconst 0, 1) := by decide +kernel
theorem dJ1_indexOf_4cfef_11 : decode cJ1_indexOf_4cfef 11 = .ok (.invokestatic 92, 3) := by decide +kernel
theorem dJ1_indexOf_4cfef_14 : decode cJ1_indexOf_4cfef 14 = .ok (.istore_n 2, 1) := by decide +kernel
theorem dJ1_indexOf_4cfef_15 : decode cJ1_indexOf_4cfef 15 = .ok (.iload_n 3, 1) := by decide +kernel
theorem dJ1_indexOf_4cfef_16 : decode cJ1_indexOf_4cfef 16 = .ok (.aload_n 0, 1) := by decide +kernel
theorem dJ1_indexOf_4cfef_17 : decode cJ1_indexOf_4cfef 17 = .ok (.arraylength, 1) := by decide +kernel
theorem dJ1_indexOf_4cfef_18 : decode cJ1_indexOf_4cfef 18 = .ok (.invokestatic 38, 3) := by decide +kernel
theorem dJ1_indexOf_4cfef_21 : decode cJ1_indexOf_4cfef 21 = .ok (.istore_n 3, 1) := by decide +kernel
theorem dJ1_indexOf_4cfef_22 : decode cJ1_indexOf_4cfef 22 = .ok (.iload_n 2, 1) := by decide +kernel
theorem dJ1_indexOf_4cfef_23 : decode cJ1_indexOf_4cfef 23 = .ok (.iload_n 3, 1) := by decide +kernel
theorem dJ1_indexOf_4cfef_24 : decode cJ1_indexOf_4cfef 24 = .ok (.if_icmp .lt 5, 3) := by decide +kernel
theorem dJ1_indexOf_4cfef_27 : decode cJ1_indexOf_4cfef 27 = .ok (.iconst (-1), 1) := by decide +kernel
theorem dJ1_indexOf_4cfef_28 : decode cJ1_indexOf_4cfef 28 = .ok (.ireturn, 1) := by decide +kernel
theorem dJ1_indexOf_4cfef_29 : decode cJ1_indexOf_4cfef 29 = .ok (.aload_n 0, 1) := by decide +kernel
theorem dJ1_indexOf_4cfef_30 : decode cJ1_indexOf_4cfef 30 = .ok (.iload_n 1, 1) := by decide +kernel
theorem dJ1_indexOf_4cfef_31 : decode cJ1_indexOf_4cfef 31 = .ok (.iload_n 2, 1) := by decide +kernel
theorem dJ1_indexOf_4cfef_32 : decode cJ1_indexOf_4cfef 32 = .ok (.iload_n 3, 1) := by decide +kernel
theorem dJ1_indexOf_4cfef_33 : decode cJ1_indexOf_4cfef 33 = .ok (.invokestatic 95, 3) := by decide +kernel
theorem dJ1_indexOf_4cfef_36 : decode cJ1_indexOf_4cfef 36 = .ok (.ireturn, 1) := by decide +kernel
abbrev rm_J1_indexOf_4cfef : Room := { frames := 1, cells := 0, slots := 0, locals := 25 }
abbrev jJ_J1_indexOf_4cfef (l : Launch) {X : Type} (env : (Nat → Prop) → State → Prop) (dyn : X → Heap → Prop) (rg : Nat → Prop) (G : jx_G) (sz : Nat) (σ0 : X) (out : Int32) (pc : Nat) (lv : List (Nat × Value)) (st : List Value) (σ : X) : Prop := jx_J l (env) (dyn) (rg) sz RJ1 "indexOf" cJ1_indexOf_4cfef 4 (some .int) rm_J1_indexOf_4cfef (fun below args s => MQ below (jx_Qi (dyn) σ0 out (jx_A (rg) sz)) args s 0 0 (jx_A (rg) sz)) 0 0 pc lv st σ
def f_J1_indexOf_4cfef (a0 : Nat) (a1 : Int32) (a2 : Int32) (a3 : Int32) : Option Int32 :=
  jx_bd (f_J1_canEncode_9a6ad a1) (fun q1 => if q1 = 0 then some (-1 : Int32) else jx_lt ((if a2 < (0 : Int32) then (0 : Int32) else a2)) (fun x3 => jx_gd (decide (a0 < 7)) (jx_lt ((if (Int32.ofNat (st_len a0)) < a3 then (Int32.ofNat (st_len a0)) else a3)) (fun x5 => if x3 < x5 then jx_bd (f_J1_indexOfChar_4cfef a0 a1 x3 x5) (fun q7 => some q7) else some (-1 : Int32)))))
set_option maxHeartbeats 4000000 in
set_option maxRecDepth 100000 in
theorem k_J1_indexOf_4cfef (l : Launch) {X : Type} (env : (Nat → Prop) → State → Prop) (dyn : X → Heap → Prop) (rg : Nat → Prop) (G : jx_G) (hok : jx_ok rg env) (hex : ∀ A s, env A s → jx_ex G A s) (sz : Nat) (σ : X) (a0 : Nat) (a1 : Int32) (a2 : Int32) (a3 : Int32) (out : Int32) (h : f_J1_indexOf_4cfef a0 a1 a2 a3 = some out) : Met l yJ1_indexOf_4cfef (Cond.code yJ1_indexOf_4cfef cJ1_indexOf_4cfef 4 (some .int) :: jx_ws) rm_J1_indexOf_4cfef (jx_Pc (env) (dyn) (rg) sz σ [.ref (G.2 (1100 + a0)), .int a1, .int a2, .int a3]) (jx_Qi (dyn) σ out (jx_A (rg) sz)) 0 0 (jx_A (rg) sz) := by
  unfold f_J1_indexOf_4cfef at h
  refine jx_met (by decide) (Nat.le_of_ble_eq_true rfl) ?_
  refine jx_sub (lv' := [(0, .ref (G.2 (1100 + a0))), (1, .int a1), (2, .int a2), (3, .int a3)]) [0, 1, 2, 3] rfl ?_
  refine jx_iload_n (pc := 0) (k0 := 1) rfl dJ1_indexOf_4cfef_0 ?_
  obtain ⟨q1, eq1, h⟩ := jx_bd_o h
  refine jx_callSi (pc := 1) [.int a1] (fun sz' => k_J1_canEncode_9a6ad l env dyn rg G hok hex sz' σ a1 q1 eq1) ks_J1_88 hok rfl rfl (Nat.le_of_ble_eq_true rfl) ⟨⟨rfl, rfl⟩, ⟨Nat.le_of_ble_eq_true rfl, Nat.le_of_ble_eq_true rfl⟩, Nat.zero_le _, Nat.zero_le _⟩ dJ1_indexOf_4cfef_1 ?_
  refine jx_if_ne (pc := 4) (tgt := 9) dJ1_indexOf_4cfef_4 (by decide) (fun c2 => ?_) (fun c2 => ?_)
  · have h := jx_f c2 h
    refine jx_iload_n (pc := 9) (k0 := 2) rfl dJ1_indexOf_4cfef_9 ?_
    refine jx_iconst (pc := 10) (v := (0 : Int32)) (by decide) dJ1_indexOf_4cfef_10 ?_
    refine jx_mmax (pc := 11) km_J1_92.1 km_J1_92.2.1 km_J1_92.2.2.1 km_J1_92.2.2.2 (Nat.le_of_ble_eq_true rfl) (Nat.le_of_ble_eq_true rfl) (Nat.zero_le _) (Nat.zero_le _) dJ1_indexOf_4cfef_11 ?_
    obtain ⟨x3, ex3, h⟩ := jx_lt_o h
    refine jx_istore_n (pc := 14) (i := 2) rfl ex3 (by decide) (lv' := [(2, .int x3), (0, .ref (G.2 (1100 + a0))), (1, .int a1), (3, .int a3)]) rfl dJ1_indexOf_4cfef_14 ?_
    refine jx_iload_n (pc := 15) (k0 := 3) rfl dJ1_indexOf_4cfef_15 ?_
    refine jx_aload_n (pc := 16) (k0 := 0) rfl dJ1_indexOf_4cfef_16 ?_
    obtain ⟨g4, h⟩ := jx_gd_o h
    refine st_bn (pc := 17) hex (i := a0) (of_decide_eq_true g4) dJ1_indexOf_4cfef_17 ?_
    refine jx_mmin (pc := 18) km_J1_38.1 km_J1_38.2.1 km_J1_38.2.2.1 km_J1_38.2.2.2 (Nat.le_of_ble_eq_true rfl) (Nat.le_of_ble_eq_true rfl) (Nat.zero_le _) (Nat.zero_le _) dJ1_indexOf_4cfef_18 ?_
    obtain ⟨x5, ex5, h⟩ := jx_lt_o h
    refine jx_istore_n (pc := 21) (i := 3) rfl ex5 (by decide) (lv' := [(3, .int x5), (2, .int x3), (0, .ref (G.2 (1100 + a0))), (1, .int a1)]) rfl dJ1_indexOf_4cfef_21 ?_
    refine jx_iload_n (pc := 22) (k0 := 2) rfl dJ1_indexOf_4cfef_22 ?_
    refine jx_iload_n (pc := 23) (k0 := 3) rfl dJ1_indexOf_4cfef_23 ?_
    refine jx_icmp_lt (pc := 24) (tgt := 29) dJ1_indexOf_4cfef_24 (by decide) (fun c6 => ?_) (fun c6 => ?_)
    · have h := jx_t c6 h
      refine jx_aload_n (pc := 29) (k0 := 0) rfl dJ1_indexOf_4cfef_29 ?_
      refine jx_iload_n (pc := 30) (k0 := 1) rfl dJ1_indexOf_4cfef_30 ?_
      refine jx_iload_n (pc := 31) (k0 := 2) rfl dJ1_indexOf_4cfef_31 ?_
      refine jx_iload_n (pc := 32) (k0 := 3) rfl dJ1_indexOf_4cfef_32 ?_
      obtain ⟨q7, eq7, h⟩ := jx_bd_o h
      refine jx_callSi (pc := 33) [.ref (G.2 (1100 + a0)), .int a1, .int x3, .int x5] (fun sz' => k_J1_indexOfChar_4cfef l env dyn rg G hok hex sz' σ a0 a1 x3 x5 q7 eq7) ks_J1_95 hok rfl rfl (Nat.le_of_ble_eq_true rfl) ⟨⟨rfl, rfl⟩, ⟨Nat.le_of_ble_eq_true rfl, Nat.le_of_ble_eq_true rfl⟩, Nat.zero_le _, Nat.zero_le _⟩ dJ1_indexOf_4cfef_33 ?_
      cases h
      exact jx_iret (pc := 36) dJ1_indexOf_4cfef_36
    · have h := jx_f c6 h
      refine jx_iconst (pc := 27) (v := (-1 : Int32)) (by decide) dJ1_indexOf_4cfef_27 ?_
      cases h
      exact jx_iret (pc := 28) dJ1_indexOf_4cfef_28
  · have h := jx_t c2 h
    refine jx_iconst (pc := 7) (v := (-1 : Int32)) (by decide) dJ1_indexOf_4cfef_7 ?_
    cases h
    exact jx_iret (pc := 8) dJ1_indexOf_4cfef_8
theorem dJ0_indexOf_7cf53_0 : decode cJ0_indexOf_7cf53 0 = .ok (.aload_n 0, 1) := by decide +kernel
theorem dJ0_indexOf_7cf53_1 : decode cJ0_indexOf_7cf53 1 = .ok (.invokevirtual 492, 3) := by decide +kernel
theorem dJ0_indexOf_7cf53_4 : decode cJ0_indexOf_7cf53 4 = .ok (.ifCond .eq 19, 3) := by decide +kernel
theorem dJ0_indexOf_7cf53_7 : decode cJ0_indexOf_7cf53 7 = .ok (.aload_n 0, 1) := by decide +kernel
theorem dJ0_indexOf_7cf53_8 : decode cJ0_indexOf_7cf53 8 = .ok (.getfield 9, 3) := by decide +kernel
theorem dJ0_indexOf_7cf53_11 : decode cJ0_indexOf_7cf53 11 = .ok (.iload_n 1, 1) := by decide +kernel
theorem dJ0_indexOf_7cf53_12 : decode cJ0_indexOf_7cf53 12 = .ok (.iload_n 2, 1) := by decide +kernel
theorem dJ0_indexOf_7cf53_13 : decode cJ0_indexOf_7cf53 13 = .ok (.aload_n 0, 1) := by decide +kernel
theorem dJ0_indexOf_7cf53_14 : decode cJ0_indexOf_7cf53 14 = .ok (.invokevirtual 505, 3) := by decide +kernel
theorem dJ0_indexOf_7cf53_17 : decode cJ0_indexOf_7cf53 17 = .ok (.invokestatic 637, 3) := by decide +kernel
theorem dJ0_indexOf_7cf53_20 : decode cJ0_indexOf_7cf53 20 = .ok (.goto 16, 3) := by decide +kernel
theorem dJ0_indexOf_7cf53_23 : decode cJ0_indexOf_7cf53 23 = .ok (.aload_n 0, 1) := by decide +kernel
theorem dJ0_indexOf_7cf53_24 : decode cJ0_indexOf_7cf53 24 = .ok (.getfield 9, 3) := by decide +kernel
theorem dJ0_indexOf_7cf53_27 : decode cJ0_indexOf_7cf53 27 = .ok (.iload_n 1, 1) := by decide +kernel
theorem dJ0_indexOf_7cf53_28 : decode cJ0_indexOf_7cf53 28 = .ok (.iload_n 2, 1) := by decide +kernel
theorem dJ0_indexOf_7cf53_29 : decode cJ0_indexOf_7cf53 29 = .ok (.aload_n 0, 1) := by decide +kernel
theorem dJ0_indexOf_7cf53_30 : decode cJ0_indexOf_7cf53 30 = .ok (.invokevirtual 505, 3) := by decide +kernel
theorem dJ0_indexOf_7cf53_33 : decode cJ0_indexOf_7cf53 33 = .ok (.invokestatic 640, 3) := by decide +kernel
theorem dJ0_indexOf_7cf53_36 : decode cJ0_indexOf_7cf53 36 = .ok (.ireturn, 1) := by decide +kernel
abbrev rm_J0_indexOf_7cf53 : Room := { frames := 2, cells := 0, slots := 0, locals := 48 }
abbrev jJ_J0_indexOf_7cf53 (l : Launch) {X : Type} (env : (Nat → Prop) → State → Prop) (dyn : X → Heap → Prop) (rg : Nat → Prop) (G : jx_G) (sz : Nat) (σ0 : X) (out : Int32) (pc : Nat) (lv : List (Nat × Value)) (st : List Value) (σ : X) : Prop := jx_J l (env) (dyn) (rg) sz RJ0 "indexOf" cJ0_indexOf_7cf53 3 (some .int) rm_J0_indexOf_7cf53 (fun below args s => MQ below (jx_Qi (dyn) σ0 out (jx_A (rg) sz)) args s 0 0 (jx_A (rg) sz)) 0 0 pc lv st σ
def f_J0_indexOf_7cf53 (a0 : Nat) (a1 : Int32) (a2 : Int32) : Option Int32 :=
  jx_bd (f_J0_isLatin1_aae02 a0) (fun q1 => jx_gd (decide (a0 < 7)) (if q1 = 0 then jx_gd (decide (a0 < 7)) (jx_bd (f_J0_length_8abf5 a0) (fun q5 => jx_gd (decide (a0 < 7)) (none))) else jx_gd (decide (a0 < 7)) (jx_bd (f_J0_length_8abf5 a0) (fun q8 => jx_gd (decide (a0 < 7)) (jx_bd (f_J1_indexOf_4cfef a0 a1 a2 q8) (fun q10 => some q10))))))
set_option maxHeartbeats 4000000 in
set_option maxRecDepth 100000 in
theorem k_J0_indexOf_7cf53 (l : Launch) {X : Type} (env : (Nat → Prop) → State → Prop) (dyn : X → Heap → Prop) (rg : Nat → Prop) (G : jx_G) (hok : jx_ok rg env) (hex : ∀ A s, env A s → jx_ex G A s) (sz : Nat) (σ : X) (a0 : Nat) (a1 : Int32) (a2 : Int32) (out : Int32) (h : f_J0_indexOf_7cf53 a0 a1 a2 = some out) : Met l yJ0_indexOf_7cf53 (Cond.code yJ0_indexOf_7cf53 cJ0_indexOf_7cf53 3 (some .int) :: jx_ws) rm_J0_indexOf_7cf53 (jx_Pc (env) (dyn) (rg) sz σ [.ref (G.2 (1000 + a0)), .int a1, .int a2]) (jx_Qi (dyn) σ out (jx_A (rg) sz)) 0 0 (jx_A (rg) sz) := by
  unfold f_J0_indexOf_7cf53 at h
  refine jx_met (by decide) (Nat.le_of_ble_eq_true rfl) ?_
  refine jx_sub (lv' := [(0, .ref (G.2 (1000 + a0))), (1, .int a1), (2, .int a2)]) [0, 1, 2] rfl ?_
  refine jx_aload_n (pc := 0) (k0 := 0) rfl dJ0_indexOf_7cf53_0 ?_
  obtain ⟨q1, eq1, h⟩ := jx_bd_o h
  obtain ⟨g2, h⟩ := jx_gd_o h
  refine jx_callVi (pc := 1) [] (fun sz' => k_J0_isLatin1_aae02 l env dyn rg G hok hex sz' σ a0 q1 eq1) kv_J0_492 hok (st_rc hex (i := a0) (of_decide_eq_true g2)) rfl rfl (Nat.le_of_ble_eq_true rfl) ⟨⟨rfl, rfl⟩, ⟨Nat.le_of_ble_eq_true rfl, Nat.le_of_ble_eq_true rfl⟩, Nat.zero_le _, Nat.zero_le _⟩ dJ0_indexOf_7cf53_1 ?_
  refine jx_if_eq (pc := 4) (tgt := 23) dJ0_indexOf_7cf53_4 (by decide) (fun c3 => ?_) (fun c3 => ?_)
  · have h := jx_t c3 h
    refine jx_aload_n (pc := 23) (k0 := 0) rfl dJ0_indexOf_7cf53_23 ?_
    obtain ⟨g4, h⟩ := jx_gd_o h
    refine st_value (pc := 24) hex (i := a0) (of_decide_eq_true g4) fl_J0_9 dJ0_indexOf_7cf53_24 ?_
    refine jx_iload_n (pc := 27) (k0 := 1) rfl dJ0_indexOf_7cf53_27 ?_
    refine jx_iload_n (pc := 28) (k0 := 2) rfl dJ0_indexOf_7cf53_28 ?_
    refine jx_aload_n (pc := 29) (k0 := 0) rfl dJ0_indexOf_7cf53_29 ?_
    obtain ⟨q5, eq5, h⟩ := jx_bd_o h
    obtain ⟨g6, h⟩ := jx_gd_o h
    refine jx_callVi (pc := 30) [] (fun sz' => k_J0_length_8abf5 l env dyn rg G hok hex sz' σ a0 q5 eq5) kv_J0_505 hok (st_rc hex (i := a0) (of_decide_eq_true g6)) rfl rfl (Nat.le_of_ble_eq_true rfl) ⟨⟨rfl, rfl⟩, ⟨Nat.le_of_ble_eq_true rfl, Nat.le_of_ble_eq_true rfl⟩, Nat.zero_le _, Nat.zero_le _⟩ dJ0_indexOf_7cf53_30 ?_
    cases h
  · have h := jx_f c3 h
    refine jx_aload_n (pc := 7) (k0 := 0) rfl dJ0_indexOf_7cf53_7 ?_
    obtain ⟨g7, h⟩ := jx_gd_o h
    refine st_value (pc := 8) hex (i := a0) (of_decide_eq_true g7) fl_J0_9 dJ0_indexOf_7cf53_8 ?_
    refine jx_iload_n (pc := 11) (k0 := 1) rfl dJ0_indexOf_7cf53_11 ?_
    refine jx_iload_n (pc := 12) (k0 := 2) rfl dJ0_indexOf_7cf53_12 ?_
    refine jx_aload_n (pc := 13) (k0 := 0) rfl dJ0_indexOf_7cf53_13 ?_
    obtain ⟨q8, eq8, h⟩ := jx_bd_o h
    obtain ⟨g9, h⟩ := jx_gd_o h
    refine jx_callVi (pc := 14) [] (fun sz' => k_J0_length_8abf5 l env dyn rg G hok hex sz' σ a0 q8 eq8) kv_J0_505 hok (st_rc hex (i := a0) (of_decide_eq_true g9)) rfl rfl (Nat.le_of_ble_eq_true rfl) ⟨⟨rfl, rfl⟩, ⟨Nat.le_of_ble_eq_true rfl, Nat.le_of_ble_eq_true rfl⟩, Nat.zero_le _, Nat.zero_le _⟩ dJ0_indexOf_7cf53_14 ?_
    obtain ⟨q10, eq10, h⟩ := jx_bd_o h
    refine jx_callSi (pc := 17) [.ref (G.2 (1100 + a0)), .int a1, .int a2, .int q8] (fun sz' => k_J1_indexOf_4cfef l env dyn rg G hok hex sz' σ a0 a1 a2 q8 q10 eq10) ks_J0_637 hok rfl rfl (Nat.le_of_ble_eq_true rfl) ⟨⟨rfl, rfl⟩, ⟨Nat.le_of_ble_eq_true rfl, Nat.le_of_ble_eq_true rfl⟩, Nat.zero_le _, Nat.zero_le _⟩ dJ0_indexOf_7cf53_17 ?_
    refine jx_goto (pc := 20) (tgt := 36) dJ0_indexOf_7cf53_20 (by decide) ?_
    cases h
    exact jx_iret (pc := 36) dJ0_indexOf_7cf53_36
theorem dJ0_indexOf_0f7a4_0 : decode cJ0_indexOf_0f7a4 0 = .ok (.aload_n 0, 1) := by decide +kernel
theorem dJ0_indexOf_0f7a4_1 : decode cJ0_indexOf_0f7a4 1 = .ok (.iload_n 1, 1) := by decide +kernel
theorem dJ0_indexOf_0f7a4_2 : decode cJ0_indexOf_0f7a4 2 = .ok (.iconst 0, 1) := by decide +kernel
theorem dJ0_indexOf_0f7a4_3 : decode cJ0_indexOf_0f7a4 3 = .ok (.invokevirtual 633, 3) := by decide +kernel
theorem dJ0_indexOf_0f7a4_6 : decode cJ0_indexOf_0f7a4 6 = .ok (.ireturn, 1) := by decide +kernel
abbrev rm_J0_indexOf_0f7a4 : Room := { frames := 3, cells := 0, slots := 0, locals := 70 }
abbrev jJ_J0_indexOf_0f7a4 (l : Launch) {X : Type} (env : (Nat → Prop) → State → Prop) (dyn : X → Heap → Prop) (rg : Nat → Prop) (G : jx_G) (sz : Nat) (σ0 : X) (out : Int32) (pc : Nat) (lv : List (Nat × Value)) (st : List Value) (σ : X) : Prop := jx_J l (env) (dyn) (rg) sz RJ0 "indexOf" cJ0_indexOf_0f7a4 2 (some .int) rm_J0_indexOf_0f7a4 (fun below args s => MQ below (jx_Qi (dyn) σ0 out (jx_A (rg) sz)) args s 0 0 (jx_A (rg) sz)) 0 0 pc lv st σ
def f_J0_indexOf_0f7a4 (a0 : Nat) (a1 : Int32) : Option Int32 :=
  jx_bd (f_J0_indexOf_7cf53 a0 a1 (0 : Int32)) (fun q1 => jx_gd (decide (a0 < 7)) (some q1))
set_option maxHeartbeats 4000000 in
set_option maxRecDepth 100000 in
theorem k_J0_indexOf_0f7a4 (l : Launch) {X : Type} (env : (Nat → Prop) → State → Prop) (dyn : X → Heap → Prop) (rg : Nat → Prop) (G : jx_G) (hok : jx_ok rg env) (hex : ∀ A s, env A s → jx_ex G A s) (sz : Nat) (σ : X) (a0 : Nat) (a1 : Int32) (out : Int32) (h : f_J0_indexOf_0f7a4 a0 a1 = some out) : Met l yJ0_indexOf_0f7a4 (Cond.code yJ0_indexOf_0f7a4 cJ0_indexOf_0f7a4 2 (some .int) :: jx_ws) rm_J0_indexOf_0f7a4 (jx_Pc (env) (dyn) (rg) sz σ [.ref (G.2 (1000 + a0)), .int a1]) (jx_Qi (dyn) σ out (jx_A (rg) sz)) 0 0 (jx_A (rg) sz) := by
  unfold f_J0_indexOf_0f7a4 at h
  refine jx_met (by decide) (Nat.le_of_ble_eq_true rfl) ?_
  refine jx_sub (lv' := [(0, .ref (G.2 (1000 + a0))), (1, .int a1)]) [0, 1] rfl ?_
  refine jx_aload_n (pc := 0) (k0 := 0) rfl dJ0_indexOf_0f7a4_0 ?_
  refine jx_iload_n (pc := 1) (k0 := 1) rfl dJ0_indexOf_0f7a4_1 ?_
  refine jx_iconst (pc := 2) (v := (0 : Int32)) (by decide) dJ0_indexOf_0f7a4_2 ?_
  obtain ⟨q1, eq1, h⟩ := jx_bd_o h
  obtain ⟨g2, h⟩ := jx_gd_o h
  refine jx_callVi (pc := 3) [.int a1, .int (0 : Int32)] (fun sz' => k_J0_indexOf_7cf53 l env dyn rg G hok hex sz' σ a0 a1 (0 : Int32) q1 eq1) kv_J0_633 hok (st_rc hex (i := a0) (of_decide_eq_true g2)) rfl rfl (Nat.le_of_ble_eq_true rfl) ⟨⟨rfl, rfl⟩, ⟨Nat.le_of_ble_eq_true rfl, Nat.le_of_ble_eq_true rfl⟩, Nat.zero_le _, Nat.zero_le _⟩ dJ0_indexOf_0f7a4_3 ?_
  cases h
  exact jx_iret (pc := 6) dJ0_indexOf_0f7a4_6
end
