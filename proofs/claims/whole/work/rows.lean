section
-- ===== PART A: goes FIRST, ahead of the names: the tables' words, and 'selects' of the private methods out of them =====
/-- a private method of a class that the tables say can be made, by its rows of tables_1 -/
def lw_okq (q : MethodName × Nat) : Prop := (q.1.cls ≠ "java/lang/invoke/MethodHandle" ∧ q.1.cls ≠ "java/lang/invoke/VarHandle") ∧ Cond.instantiable q.1.cls q.2 ∈ tables_1 ∧ Cond.privateMethod q.1 ∈ tables_1 ∧ Cond.instanceMethod q.1 ∈ tables_1
theorem lw_p0 : lw_okq (⟨"LampVote$Reader", "takes", "(I)Z"⟩, 15) := ⟨⟨by decide +kernel, by decide +kernel⟩, List.mem_of_getElem? (i := 191) (by decide +kernel), List.mem_of_getElem? (i := 277) (by decide +kernel), List.mem_of_getElem? (i := 278) (by decide +kernel)⟩
theorem lw_p1 : lw_okq (⟨"LampVote$Reader", "takesWord", "(I)Z"⟩, 15) := ⟨⟨by decide +kernel, by decide +kernel⟩, List.mem_of_getElem? (i := 191) (by decide +kernel), List.mem_of_getElem? (i := 281) (by decide +kernel), List.mem_of_getElem? (i := 282) (by decide +kernel)⟩
theorem lw_p2 : lw_okq (⟨"LampVote$Reader", "takesLetter", "(I)Z"⟩, 15) := ⟨⟨by decide +kernel, by decide +kernel⟩, List.mem_of_getElem? (i := 191) (by decide +kernel), List.mem_of_getElem? (i := 328) (by decide +kernel), List.mem_of_getElem? (i := 329) (by decide +kernel)⟩
theorem lw_p3 : lw_okq (⟨"LampVote$Reader", "opensClause", "()Z"⟩, 15) := ⟨⟨by decide +kernel, by decide +kernel⟩, List.mem_of_getElem? (i := 191) (by decide +kernel), List.mem_of_getElem? (i := 340) (by decide +kernel), List.mem_of_getElem? (i := 341) (by decide +kernel)⟩
theorem lw_p4 : lw_okq (⟨"LampVote$Reader", "takesDigit", "(II)Z"⟩, 15) := ⟨⟨by decide +kernel, by decide +kernel⟩, List.mem_of_getElem? (i := 191) (by decide +kernel), List.mem_of_getElem? (i := 344) (by decide +kernel), List.mem_of_getElem? (i := 345) (by decide +kernel)⟩
theorem lw_p5 : lw_okq (⟨"LampVote$Reader", "takesBlank", "()Z"⟩, 15) := ⟨⟨by decide +kernel, by decide +kernel⟩, List.mem_of_getElem? (i := 191) (by decide +kernel), List.mem_of_getElem? (i := 348) (by decide +kernel), List.mem_of_getElem? (i := 349) (by decide +kernel)⟩
theorem lw_p6 : lw_okq (⟨"LampVote$Reader", "takesSecondDigit", "(I)Z"⟩, 15) := ⟨⟨by decide +kernel, by decide +kernel⟩, List.mem_of_getElem? (i := 191) (by decide +kernel), List.mem_of_getElem? (i := 352) (by decide +kernel), List.mem_of_getElem? (i := 353) (by decide +kernel)⟩
theorem lw_p7 : lw_okq (⟨"LampVote$Reader", "takesFactor", "(I)Z"⟩, 15) := ⟨⟨by decide +kernel, by decide +kernel⟩, List.mem_of_getElem? (i := 191) (by decide +kernel), List.mem_of_getElem? (i := 356) (by decide +kernel), List.mem_of_getElem? (i := 357) (by decide +kernel)⟩
theorem lw_p8 : lw_okq (⟨"LampVote$Reader", "pend", "(I)V"⟩, 15) := ⟨⟨by decide +kernel, by decide +kernel⟩, List.mem_of_getElem? (i := 191) (by decide +kernel), List.mem_of_getElem? (i := 360) (by decide +kernel), List.mem_of_getElem? (i := 361) (by decide +kernel)⟩
theorem lw_p9 : lw_okq (⟨"LampVote$Reader", "takesRelation", "(I)Z"⟩, 15) := ⟨⟨by decide +kernel, by decide +kernel⟩, List.mem_of_getElem? (i := 191) (by decide +kernel), List.mem_of_getElem? (i := 424) (by decide +kernel), List.mem_of_getElem? (i := 425) (by decide +kernel)⟩
theorem lw_p10 : lw_okq (⟨"LampVote$Reader", "endTest", "()V"⟩, 15) := ⟨⟨by decide +kernel, by decide +kernel⟩, List.mem_of_getElem? (i := 191) (by decide +kernel), List.mem_of_getElem? (i := 429) (by decide +kernel), List.mem_of_getElem? (i := 430) (by decide +kernel)⟩
theorem lw_p11 : lw_okq (⟨"LampVote$Reader", "isSo", "(I)Z"⟩, 15) := ⟨⟨by decide +kernel, by decide +kernel⟩, List.mem_of_getElem? (i := 191) (by decide +kernel), List.mem_of_getElem? (i := 433) (by decide +kernel), List.mem_of_getElem? (i := 434) (by decide +kernel)⟩
theorem lw_p12 : lw_okq (⟨"LampVote$Reader", "write", "(I)V"⟩, 15) := ⟨⟨by decide +kernel, by decide +kernel⟩, List.mem_of_getElem? (i := 191) (by decide +kernel), List.mem_of_getElem? (i := 437) (by decide +kernel), List.mem_of_getElem? (i := 438) (by decide +kernel)⟩
theorem lw_p13 : lw_okq (⟨"LampVote$Reader", "takesJoint", "(I)Z"⟩, 15) := ⟨⟨by decide +kernel, by decide +kernel⟩, List.mem_of_getElem? (i := 191) (by decide +kernel), List.mem_of_getElem? (i := 441) (by decide +kernel), List.mem_of_getElem? (i := 442) (by decide +kernel)⟩
theorem lw_p14 : lw_okq (⟨"LampVote$Reader", "takesOperator", "(I)Z"⟩, 15) := ⟨⟨by decide +kernel, by decide +kernel⟩, List.mem_of_getElem? (i := 191) (by decide +kernel), List.mem_of_getElem? (i := 445) (by decide +kernel), List.mem_of_getElem? (i := 446) (by decide +kernel)⟩
theorem lw_p15 : lw_okq (⟨"LampVote$Reader", "writePending", "(I)V"⟩, 15) := ⟨⟨by decide +kernel, by decide +kernel⟩, List.mem_of_getElem? (i := 191) (by decide +kernel), List.mem_of_getElem? (i := 449) (by decide +kernel), List.mem_of_getElem? (i := 450) (by decide +kernel)⟩
def lw_privs_1 : List (MethodName × Nat) := [(⟨"LampVote$Reader", "takes", "(I)Z"⟩, 15), (⟨"LampVote$Reader", "takesWord", "(I)Z"⟩, 15), (⟨"LampVote$Reader", "takesLetter", "(I)Z"⟩, 15), (⟨"LampVote$Reader", "opensClause", "()Z"⟩, 15), (⟨"LampVote$Reader", "takesDigit", "(II)Z"⟩, 15), (⟨"LampVote$Reader", "takesBlank", "()Z"⟩, 15), (⟨"LampVote$Reader", "takesSecondDigit", "(I)Z"⟩, 15), (⟨"LampVote$Reader", "takesFactor", "(I)Z"⟩, 15), (⟨"LampVote$Reader", "pend", "(I)V"⟩, 15), (⟨"LampVote$Reader", "takesRelation", "(I)Z"⟩, 15), (⟨"LampVote$Reader", "endTest", "()V"⟩, 15), (⟨"LampVote$Reader", "isSo", "(I)Z"⟩, 15), (⟨"LampVote$Reader", "write", "(I)V"⟩, 15), (⟨"LampVote$Reader", "takesJoint", "(I)Z"⟩, 15), (⟨"LampVote$Reader", "takesOperator", "(I)Z"⟩, 15), (⟨"LampVote$Reader", "writePending", "(I)V"⟩, 15)]
theorem lw_r1 : ∀ q ∈ lw_privs_1, lw_okq q := List.forall_mem_cons.mpr ⟨lw_p0, List.forall_mem_cons.mpr ⟨lw_p1, List.forall_mem_cons.mpr ⟨lw_p2, List.forall_mem_cons.mpr ⟨lw_p3, List.forall_mem_cons.mpr ⟨lw_p4, List.forall_mem_cons.mpr ⟨lw_p5, List.forall_mem_cons.mpr ⟨lw_p6, List.forall_mem_cons.mpr ⟨lw_p7, List.forall_mem_cons.mpr ⟨lw_p8, List.forall_mem_cons.mpr ⟨lw_p9, List.forall_mem_cons.mpr ⟨lw_p10, List.forall_mem_cons.mpr ⟨lw_p11, List.forall_mem_cons.mpr ⟨lw_p12, List.forall_mem_cons.mpr ⟨lw_p13, List.forall_mem_cons.mpr ⟨lw_p14, List.forall_mem_cons.mpr ⟨lw_p15, fun _ h => absurd h List.not_mem_nil⟩⟩⟩⟩⟩⟩⟩⟩⟩⟩⟩⟩⟩⟩⟩⟩
theorem lw_p16 : lw_okq (⟨"LampVote$Reader", "takesClosing", "()Z"⟩, 15) := ⟨⟨by decide +kernel, by decide +kernel⟩, List.mem_of_getElem? (i := 191) (by decide +kernel), List.mem_of_getElem? (i := 453) (by decide +kernel), List.mem_of_getElem? (i := 454) (by decide +kernel)⟩
theorem lw_p17 : lw_okq (⟨"LampVote$Reader", "endsClause", "()Z"⟩, 15) := ⟨⟨by decide +kernel, by decide +kernel⟩, List.mem_of_getElem? (i := 191) (by decide +kernel), List.mem_of_getElem? (i := 457) (by decide +kernel), List.mem_of_getElem? (i := 458) (by decide +kernel)⟩
theorem lw_p18 : lw_okq (⟨"LampVote$Reader", "isWhole", "()Z"⟩, 15) := ⟨⟨by decide +kernel, by decide +kernel⟩, List.mem_of_getElem? (i := 191) (by decide +kernel), List.mem_of_getElem? (i := 461) (by decide +kernel), List.mem_of_getElem? (i := 462) (by decide +kernel)⟩
theorem lw_p19 : lw_okq (⟨"LampVote", "mayBecome", "(II)Z"⟩, 6) := ⟨⟨by decide +kernel, by decide +kernel⟩, List.mem_of_getElem? (i := 18) (by decide +kernel), List.mem_of_getElem? (i := 501) (by decide +kernel), List.mem_of_getElem? (i := 502) (by decide +kernel)⟩
theorem lw_p20 : lw_okq (⟨"LampVote$Canal", "look", "(II)[I"⟩, 17) := ⟨⟨by decide +kernel, by decide +kernel⟩, List.mem_of_getElem? (i := 26) (by decide +kernel), List.mem_of_getElem? (i := 513) (by decide +kernel), List.mem_of_getElem? (i := 514) (by decide +kernel)⟩
theorem lw_p21 : lw_okq (⟨"LampVote$Tide", "holds", "(I[I)Z"⟩, 4) := ⟨⟨by decide +kernel, by decide +kernel⟩, List.mem_of_getElem? (i := 34) (by decide +kernel), List.mem_of_getElem? (i := 521) (by decide +kernel), List.mem_of_getElem? (i := 522) (by decide +kernel)⟩
theorem lw_p22 : lw_okq (⟨"LampVote$Canal", "upstream", "(I)I"⟩, 17) := ⟨⟨by decide +kernel, by decide +kernel⟩, List.mem_of_getElem? (i := 26) (by decide +kernel), List.mem_of_getElem? (i := 558) (by decide +kernel), List.mem_of_getElem? (i := 559) (by decide +kernel)⟩
theorem lw_p23 : lw_okq (⟨"LampVote$Canal", "crowded", "()I"⟩, 17) := ⟨⟨by decide +kernel, by decide +kernel⟩, List.mem_of_getElem? (i := 26) (by decide +kernel), List.mem_of_getElem? (i := 562) (by decide +kernel), List.mem_of_getElem? (i := 563) (by decide +kernel)⟩
theorem lw_p24 : lw_okq (⟨"LampVote$Canal", "living", "(I)I"⟩, 17) := ⟨⟨by decide +kernel, by decide +kernel⟩, List.mem_of_getElem? (i := 26) (by decide +kernel), List.mem_of_getElem? (i := 566) (by decide +kernel), List.mem_of_getElem? (i := 567) (by decide +kernel)⟩
theorem lw_p25 : lw_okq (⟨"LampVote$Night", "lightAll", "()V"⟩, 8) := ⟨⟨by decide +kernel, by decide +kernel⟩, List.mem_of_getElem? (i := 139) (by decide +kernel), List.mem_of_getElem? (i := 611) (by decide +kernel), List.mem_of_getElem? (i := 612) (by decide +kernel)⟩
theorem lw_p26 : lw_okq (⟨"LampVote$Night", "lead", "(I)I"⟩, 8) := ⟨⟨by decide +kernel, by decide +kernel⟩, List.mem_of_getElem? (i := 139) (by decide +kernel), List.mem_of_getElem? (i := 633) (by decide +kernel), List.mem_of_getElem? (i := 634) (by decide +kernel)⟩
theorem lw_p27 : lw_okq (⟨"LampVote$Night", "countLamps", "()V"⟩, 8) := ⟨⟨by decide +kernel, by decide +kernel⟩, List.mem_of_getElem? (i := 139) (by decide +kernel), List.mem_of_getElem? (i := 748) (by decide +kernel), List.mem_of_getElem? (i := 749) (by decide +kernel)⟩
theorem lw_p28 : lw_okq (⟨"LampVote$Night", "isAsSeen", "()Z"⟩, 8) := ⟨⟨by decide +kernel, by decide +kernel⟩, List.mem_of_getElem? (i := 139) (by decide +kernel), List.mem_of_getElem? (i := 753) (by decide +kernel), List.mem_of_getElem? (i := 754) (by decide +kernel)⟩
theorem lw_p29 : lw_okq (⟨"LampVote$Night", "placeAfter", "(II)I"⟩, 8) := ⟨⟨by decide +kernel, by decide +kernel⟩, List.mem_of_getElem? (i := 139) (by decide +kernel), List.mem_of_getElem? (i := 785) (by decide +kernel), List.mem_of_getElem? (i := 786) (by decide +kernel)⟩
theorem lw_p30 : lw_okq (⟨"LampVote$Acts", "begin", "(I)V"⟩, 3) := ⟨⟨by decide +kernel, by decide +kernel⟩, List.mem_of_getElem? (i := 173) (by decide +kernel), List.mem_of_getElem? (i := 808) (by decide +kernel), List.mem_of_getElem? (i := 809) (by decide +kernel)⟩
theorem lw_p31 : lw_okq (⟨"LampVoteModel", "asAtFirst", "(I)V"⟩, 26) := ⟨⟨by decide +kernel, by decide +kernel⟩, List.mem_of_getElem? (i := 853) (by decide +kernel), List.mem_of_getElem? (i := 859) (by decide +kernel), List.mem_of_getElem? (i := 860) (by decide +kernel)⟩
def lw_privs_2 : List (MethodName × Nat) := [(⟨"LampVote$Reader", "takesClosing", "()Z"⟩, 15), (⟨"LampVote$Reader", "endsClause", "()Z"⟩, 15), (⟨"LampVote$Reader", "isWhole", "()Z"⟩, 15), (⟨"LampVote", "mayBecome", "(II)Z"⟩, 6), (⟨"LampVote$Canal", "look", "(II)[I"⟩, 17), (⟨"LampVote$Tide", "holds", "(I[I)Z"⟩, 4), (⟨"LampVote$Canal", "upstream", "(I)I"⟩, 17), (⟨"LampVote$Canal", "crowded", "()I"⟩, 17), (⟨"LampVote$Canal", "living", "(I)I"⟩, 17), (⟨"LampVote$Night", "lightAll", "()V"⟩, 8), (⟨"LampVote$Night", "lead", "(I)I"⟩, 8), (⟨"LampVote$Night", "countLamps", "()V"⟩, 8), (⟨"LampVote$Night", "isAsSeen", "()Z"⟩, 8), (⟨"LampVote$Night", "placeAfter", "(II)I"⟩, 8), (⟨"LampVote$Acts", "begin", "(I)V"⟩, 3), (⟨"LampVoteModel", "asAtFirst", "(I)V"⟩, 26)]
theorem lw_r2 : ∀ q ∈ lw_privs_2, lw_okq q := List.forall_mem_cons.mpr ⟨lw_p16, List.forall_mem_cons.mpr ⟨lw_p17, List.forall_mem_cons.mpr ⟨lw_p18, List.forall_mem_cons.mpr ⟨lw_p19, List.forall_mem_cons.mpr ⟨lw_p20, List.forall_mem_cons.mpr ⟨lw_p21, List.forall_mem_cons.mpr ⟨lw_p22, List.forall_mem_cons.mpr ⟨lw_p23, List.forall_mem_cons.mpr ⟨lw_p24, List.forall_mem_cons.mpr ⟨lw_p25, List.forall_mem_cons.mpr ⟨lw_p26, List.forall_mem_cons.mpr ⟨lw_p27, List.forall_mem_cons.mpr ⟨lw_p28, List.forall_mem_cons.mpr ⟨lw_p29, List.forall_mem_cons.mpr ⟨lw_p30, List.forall_mem_cons.mpr ⟨lw_p31, fun _ h => absurd h List.not_mem_nil⟩⟩⟩⟩⟩⟩⟩⟩⟩⟩⟩⟩⟩⟩⟩⟩
theorem lw_p32 : lw_okq (⟨"LampVoteModel", "clauseHere", "()V"⟩, 26) := ⟨⟨by decide +kernel, by decide +kernel⟩, List.mem_of_getElem? (i := 853) (by decide +kernel), List.mem_of_getElem? (i := 953) (by decide +kernel), List.mem_of_getElem? (i := 954) (by decide +kernel)⟩
theorem lw_p33 : lw_okq (⟨"LampVoteModel", "here", "()I"⟩, 26) := ⟨⟨by decide +kernel, by decide +kernel⟩, List.mem_of_getElem? (i := 853) (by decide +kernel), List.mem_of_getElem? (i := 957) (by decide +kernel), List.mem_of_getElem? (i := 958) (by decide +kernel)⟩
theorem lw_p34 : lw_okq (⟨"LampVoteModel", "plain", "(ILjava/lang/String;)V"⟩, 26) := ⟨⟨by decide +kernel, by decide +kernel⟩, List.mem_of_getElem? (i := 853) (by decide +kernel), List.mem_of_getElem? (i := 962) (by decide +kernel), List.mem_of_getElem? (i := 963) (by decide +kernel)⟩
theorem lw_p35 : lw_okq (⟨"LampVoteModel", "spells", "(Ljava/lang/String;)V"⟩, 26) := ⟨⟨by decide +kernel, by decide +kernel⟩, List.mem_of_getElem? (i := 853) (by decide +kernel), List.mem_of_getElem? (i := 966) (by decide +kernel), List.mem_of_getElem? (i := 967) (by decide +kernel)⟩
theorem lw_p36 : lw_okq (⟨"LampVoteModel", "must", "(I)V"⟩, 26) := ⟨⟨by decide +kernel, by decide +kernel⟩, List.mem_of_getElem? (i := 853) (by decide +kernel), List.mem_of_getElem? (i := 972) (by decide +kernel), List.mem_of_getElem? (i := 973) (by decide +kernel)⟩
theorem lw_p37 : lw_okq (⟨"LampVoteModel", "some", "()V"⟩, 26) := ⟨⟨by decide +kernel, by decide +kernel⟩, List.mem_of_getElem? (i := 853) (by decide +kernel), List.mem_of_getElem? (i := 976) (by decide +kernel), List.mem_of_getElem? (i := 977) (by decide +kernel)⟩
theorem lw_p38 : lw_okq (⟨"LampVoteModel", "every", "()V"⟩, 26) := ⟨⟨by decide +kernel, by decide +kernel⟩, List.mem_of_getElem? (i := 853) (by decide +kernel), List.mem_of_getElem? (i := 980) (by decide +kernel), List.mem_of_getElem? (i := 981) (by decide +kernel)⟩
theorem lw_p39 : lw_okq (⟨"LampVoteModel", "factor", "()V"⟩, 26) := ⟨⟨by decide +kernel, by decide +kernel⟩, List.mem_of_getElem? (i := 853) (by decide +kernel), List.mem_of_getElem? (i := 984) (by decide +kernel), List.mem_of_getElem? (i := 985) (by decide +kernel)⟩
theorem lw_p40 : lw_okq (⟨"LampVoteModel", "emits", "(I)V"⟩, 26) := ⟨⟨by decide +kernel, by decide +kernel⟩, List.mem_of_getElem? (i := 853) (by decide +kernel), List.mem_of_getElem? (i := 988) (by decide +kernel), List.mem_of_getElem? (i := 989) (by decide +kernel)⟩
theorem lw_p41 : lw_okq (⟨"LampVoteModel", "among", "(Ljava/lang/String;)I"⟩, 26) := ⟨⟨by decide +kernel, by decide +kernel⟩, List.mem_of_getElem? (i := 853) (by decide +kernel), List.mem_of_getElem? (i := 993) (by decide +kernel), List.mem_of_getElem? (i := 994) (by decide +kernel)⟩
theorem lw_p42 : lw_okq (⟨"LampVoteModel", "figures", "()I"⟩, 26) := ⟨⟨by decide +kernel, by decide +kernel⟩, List.mem_of_getElem? (i := 853) (by decide +kernel), List.mem_of_getElem? (i := 998) (by decide +kernel), List.mem_of_getElem? (i := 999) (by decide +kernel)⟩
theorem lw_p43 : lw_okq (⟨"LampVoteModel", "much", "(ILjava/lang/String;)V"⟩, 26) := ⟨⟨by decide +kernel, by decide +kernel⟩, List.mem_of_getElem? (i := 853) (by decide +kernel), List.mem_of_getElem? (i := 1004) (by decide +kernel), List.mem_of_getElem? (i := 1005) (by decide +kernel)⟩
theorem lw_p44 : lw_okq (⟨"LampVoteModel", "isPlace", "(I)Z"⟩, 26) := ⟨⟨by decide +kernel, by decide +kernel⟩, List.mem_of_getElem? (i := 853) (by decide +kernel), List.mem_of_getElem? (i := 1017) (by decide +kernel), List.mem_of_getElem? (i := 1018) (by decide +kernel)⟩
theorem lw_p45 : lw_okq (⟨"LampVoteModel", "goesFrom", "(II)I"⟩, 26) := ⟨⟨by decide +kernel, by decide +kernel⟩, List.mem_of_getElem? (i := 853) (by decide +kernel), List.mem_of_getElem? (i := 1025) (by decide +kernel), List.mem_of_getElem? (i := 1026) (by decide +kernel)⟩
theorem lw_p46 : lw_okq (⟨"LampVoteModel", "looks", "(II)V"⟩, 26) := ⟨⟨by decide +kernel, by decide +kernel⟩, List.mem_of_getElem? (i := 853) (by decide +kernel), List.mem_of_getElem? (i := 1029) (by decide +kernel), List.mem_of_getElem? (i := 1030) (by decide +kernel)⟩
theorem lw_p47 : lw_okq (⟨"LampVoteModel", "isVoter", "(I)Z"⟩, 26) := ⟨⟨by decide +kernel, by decide +kernel⟩, List.mem_of_getElem? (i := 853) (by decide +kernel), List.mem_of_getElem? (i := 1041) (by decide +kernel), List.mem_of_getElem? (i := 1042) (by decide +kernel)⟩
def lw_privs_3 : List (MethodName × Nat) := [(⟨"LampVoteModel", "clauseHere", "()V"⟩, 26), (⟨"LampVoteModel", "here", "()I"⟩, 26), (⟨"LampVoteModel", "plain", "(ILjava/lang/String;)V"⟩, 26), (⟨"LampVoteModel", "spells", "(Ljava/lang/String;)V"⟩, 26), (⟨"LampVoteModel", "must", "(I)V"⟩, 26), (⟨"LampVoteModel", "some", "()V"⟩, 26), (⟨"LampVoteModel", "every", "()V"⟩, 26), (⟨"LampVoteModel", "factor", "()V"⟩, 26), (⟨"LampVoteModel", "emits", "(I)V"⟩, 26), (⟨"LampVoteModel", "among", "(Ljava/lang/String;)I"⟩, 26), (⟨"LampVoteModel", "figures", "()I"⟩, 26), (⟨"LampVoteModel", "much", "(ILjava/lang/String;)V"⟩, 26), (⟨"LampVoteModel", "isPlace", "(I)Z"⟩, 26), (⟨"LampVoteModel", "goesFrom", "(II)I"⟩, 26), (⟨"LampVoteModel", "looks", "(II)V"⟩, 26), (⟨"LampVoteModel", "isVoter", "(I)Z"⟩, 26)]
theorem lw_r3 : ∀ q ∈ lw_privs_3, lw_okq q := List.forall_mem_cons.mpr ⟨lw_p32, List.forall_mem_cons.mpr ⟨lw_p33, List.forall_mem_cons.mpr ⟨lw_p34, List.forall_mem_cons.mpr ⟨lw_p35, List.forall_mem_cons.mpr ⟨lw_p36, List.forall_mem_cons.mpr ⟨lw_p37, List.forall_mem_cons.mpr ⟨lw_p38, List.forall_mem_cons.mpr ⟨lw_p39, List.forall_mem_cons.mpr ⟨lw_p40, List.forall_mem_cons.mpr ⟨lw_p41, List.forall_mem_cons.mpr ⟨lw_p42, List.forall_mem_cons.mpr ⟨lw_p43, List.forall_mem_cons.mpr ⟨lw_p44, List.forall_mem_cons.mpr ⟨lw_p45, List.forall_mem_cons.mpr ⟨lw_p46, List.forall_mem_cons.mpr ⟨lw_p47, fun _ h => absurd h List.not_mem_nil⟩⟩⟩⟩⟩⟩⟩⟩⟩⟩⟩⟩⟩⟩⟩⟩
theorem lw_p48 : lw_okq (⟨"LampVoteModel", "setsOf", "(I)I"⟩, 26) := ⟨⟨by decide +kernel, by decide +kernel⟩, List.mem_of_getElem? (i := 853) (by decide +kernel), List.mem_of_getElem? (i := 1045) (by decide +kernel), List.mem_of_getElem? (i := 1046) (by decide +kernel)⟩
theorem lw_p49 : lw_okq (⟨"LampVoteModel", "upperOf", "(I)I"⟩, 26) := ⟨⟨by decide +kernel, by decide +kernel⟩, List.mem_of_getElem? (i := 853) (by decide +kernel), List.mem_of_getElem? (i := 1049) (by decide +kernel), List.mem_of_getElem? (i := 1050) (by decide +kernel)⟩
theorem lw_p50 : lw_okq (⟨"LampVoteModel", "crowded", "()I"⟩, 26) := ⟨⟨by decide +kernel, by decide +kernel⟩, List.mem_of_getElem? (i := 853) (by decide +kernel), List.mem_of_getElem? (i := 1053) (by decide +kernel), List.mem_of_getElem? (i := 1054) (by decide +kernel)⟩
theorem lw_p51 : lw_okq (⟨"LampVoteModel", "delayOf", "(I)I"⟩, 26) := ⟨⟨by decide +kernel, by decide +kernel⟩, List.mem_of_getElem? (i := 853) (by decide +kernel), List.mem_of_getElem? (i := 1057) (by decide +kernel), List.mem_of_getElem? (i := 1058) (by decide +kernel)⟩
theorem lw_p52 : lw_okq (⟨"LampVoteModel", "burnsAt", "(II)I"⟩, 26) := ⟨⟨by decide +kernel, by decide +kernel⟩, List.mem_of_getElem? (i := 853) (by decide +kernel), List.mem_of_getElem? (i := 1061) (by decide +kernel), List.mem_of_getElem? (i := 1062) (by decide +kernel)⟩
theorem lw_p53 : lw_okq (⟨"LampVoteModel", "looksForNight", "()V"⟩, 26) := ⟨⟨by decide +kernel, by decide +kernel⟩, List.mem_of_getElem? (i := 853) (by decide +kernel), List.mem_of_getElem? (i := 1081) (by decide +kernel), List.mem_of_getElem? (i := 1082) (by decide +kernel)⟩
theorem lw_p54 : lw_okq (⟨"LampVoteModel", "laysAll", "()V"⟩, 26) := ⟨⟨by decide +kernel, by decide +kernel⟩, List.mem_of_getElem? (i := 853) (by decide +kernel), List.mem_of_getElem? (i := 1085) (by decide +kernel), List.mem_of_getElem? (i := 1086) (by decide +kernel)⟩
theorem lw_p55 : lw_okq (⟨"LampVoteModel", "lays", "(II)V"⟩, 26) := ⟨⟨by decide +kernel, by decide +kernel⟩, List.mem_of_getElem? (i := 853) (by decide +kernel), List.mem_of_getElem? (i := 1089) (by decide +kernel), List.mem_of_getElem? (i := 1090) (by decide +kernel)⟩
theorem lw_p56 : lw_okq (⟨"LampVoteModel", "lampAt", "(III)I"⟩, 26) := ⟨⟨by decide +kernel, by decide +kernel⟩, List.mem_of_getElem? (i := 853) (by decide +kernel), List.mem_of_getElem? (i := 1093) (by decide +kernel), List.mem_of_getElem? (i := 1094) (by decide +kernel)⟩
theorem lw_p57 : lw_okq (⟨"LampVoteModel", "mayor", "()I"⟩, 26) := ⟨⟨by decide +kernel, by decide +kernel⟩, List.mem_of_getElem? (i := 853) (by decide +kernel), List.mem_of_getElem? (i := 1097) (by decide +kernel), List.mem_of_getElem? (i := 1098) (by decide +kernel)⟩
theorem lw_p58 : lw_okq (⟨"LampVoteModel", "votesFor", "(I)I"⟩, 26) := ⟨⟨by decide +kernel, by decide +kernel⟩, List.mem_of_getElem? (i := 853) (by decide +kernel), List.mem_of_getElem? (i := 1101) (by decide +kernel), List.mem_of_getElem? (i := 1102) (by decide +kernel)⟩
theorem lw_p59 : lw_okq (⟨"LampVoteModel", "driftOf", "(II)I"⟩, 26) := ⟨⟨by decide +kernel, by decide +kernel⟩, List.mem_of_getElem? (i := 853) (by decide +kernel), List.mem_of_getElem? (i := 1120) (by decide +kernel), List.mem_of_getElem? (i := 1121) (by decide +kernel)⟩
theorem lw_p60 : lw_okq (⟨"LampVoteModel", "mayorBy", "(I)I"⟩, 26) := ⟨⟨by decide +kernel, by decide +kernel⟩, List.mem_of_getElem? (i := 853) (by decide +kernel), List.mem_of_getElem? (i := 1132) (by decide +kernel), List.mem_of_getElem? (i := 1133) (by decide +kernel)⟩
theorem lw_p61 : lw_okq (⟨"LampVoteModel", "turnsWishes", "(I)V"⟩, 26) := ⟨⟨by decide +kernel, by decide +kernel⟩, List.mem_of_getElem? (i := 853) (by decide +kernel), List.mem_of_getElem? (i := 1136) (by decide +kernel), List.mem_of_getElem? (i := 1137) (by decide +kernel)⟩
theorem lw_p62 : lw_okq (⟨"LampVoteModel", "looksForBest", "(I)V"⟩, 26) := ⟨⟨by decide +kernel, by decide +kernel⟩, List.mem_of_getElem? (i := 853) (by decide +kernel), List.mem_of_getElem? (i := 1159) (by decide +kernel), List.mem_of_getElem? (i := 1160) (by decide +kernel)⟩
theorem lw_p63 : lw_okq (⟨"LampVoteModel", "moreOf", "(I)I"⟩, 26) := ⟨⟨by decide +kernel, by decide +kernel⟩, List.mem_of_getElem? (i := 853) (by decide +kernel), List.mem_of_getElem? (i := 1163) (by decide +kernel), List.mem_of_getElem? (i := 1164) (by decide +kernel)⟩
def lw_privs_4 : List (MethodName × Nat) := [(⟨"LampVoteModel", "setsOf", "(I)I"⟩, 26), (⟨"LampVoteModel", "upperOf", "(I)I"⟩, 26), (⟨"LampVoteModel", "crowded", "()I"⟩, 26), (⟨"LampVoteModel", "delayOf", "(I)I"⟩, 26), (⟨"LampVoteModel", "burnsAt", "(II)I"⟩, 26), (⟨"LampVoteModel", "looksForNight", "()V"⟩, 26), (⟨"LampVoteModel", "laysAll", "()V"⟩, 26), (⟨"LampVoteModel", "lays", "(II)V"⟩, 26), (⟨"LampVoteModel", "lampAt", "(III)I"⟩, 26), (⟨"LampVoteModel", "mayor", "()I"⟩, 26), (⟨"LampVoteModel", "votesFor", "(I)I"⟩, 26), (⟨"LampVoteModel", "driftOf", "(II)I"⟩, 26), (⟨"LampVoteModel", "mayorBy", "(I)I"⟩, 26), (⟨"LampVoteModel", "turnsWishes", "(I)V"⟩, 26), (⟨"LampVoteModel", "looksForBest", "(I)V"⟩, 26), (⟨"LampVoteModel", "moreOf", "(I)I"⟩, 26)]
theorem lw_r4 : ∀ q ∈ lw_privs_4, lw_okq q := List.forall_mem_cons.mpr ⟨lw_p48, List.forall_mem_cons.mpr ⟨lw_p49, List.forall_mem_cons.mpr ⟨lw_p50, List.forall_mem_cons.mpr ⟨lw_p51, List.forall_mem_cons.mpr ⟨lw_p52, List.forall_mem_cons.mpr ⟨lw_p53, List.forall_mem_cons.mpr ⟨lw_p54, List.forall_mem_cons.mpr ⟨lw_p55, List.forall_mem_cons.mpr ⟨lw_p56, List.forall_mem_cons.mpr ⟨lw_p57, List.forall_mem_cons.mpr ⟨lw_p58, List.forall_mem_cons.mpr ⟨lw_p59, List.forall_mem_cons.mpr ⟨lw_p60, List.forall_mem_cons.mpr ⟨lw_p61, List.forall_mem_cons.mpr ⟨lw_p62, List.forall_mem_cons.mpr ⟨lw_p63, fun _ h => absurd h List.not_mem_nil⟩⟩⟩⟩⟩⟩⟩⟩⟩⟩⟩⟩⟩⟩⟩⟩
theorem lw_p64 : lw_okq (⟨"LampVoteModel", "lampsAt", "(I)I"⟩, 26) := ⟨⟨by decide +kernel, by decide +kernel⟩, List.mem_of_getElem? (i := 853) (by decide +kernel), List.mem_of_getElem? (i := 1179) (by decide +kernel), List.mem_of_getElem? (i := 1180) (by decide +kernel)⟩
theorem lw_p65 : lw_okq (⟨"LampVoteModel", "setsActs", "(I)I"⟩, 26) := ⟨⟨by decide +kernel, by decide +kernel⟩, List.mem_of_getElem? (i := 853) (by decide +kernel), List.mem_of_getElem? (i := 1199) (by decide +kernel), List.mem_of_getElem? (i := 1200) (by decide +kernel)⟩
theorem lw_p66 : lw_okq (⟨"LampVoteModel", "ranBody", "(I)V"⟩, 26) := ⟨⟨by decide +kernel, by decide +kernel⟩, List.mem_of_getElem? (i := 853) (by decide +kernel), List.mem_of_getElem? (i := 1206) (by decide +kernel), List.mem_of_getElem? (i := 1207) (by decide +kernel)⟩
theorem lw_p67 : lw_okq (⟨"LampVoteModel", "plainSets", "(I)I"⟩, 26) := ⟨⟨by decide +kernel, by decide +kernel⟩, List.mem_of_getElem? (i := 853) (by decide +kernel), List.mem_of_getElem? (i := 1210) (by decide +kernel), List.mem_of_getElem? (i := 1211) (by decide +kernel)⟩
theorem lw_p68 : lw_okq (⟨"LampVoteModel", "burnsActs", "(I)I"⟩, 26) := ⟨⟨by decide +kernel, by decide +kernel⟩, List.mem_of_getElem? (i := 853) (by decide +kernel), List.mem_of_getElem? (i := 1214) (by decide +kernel), List.mem_of_getElem? (i := 1215) (by decide +kernel)⟩
theorem lw_p69 : lw_okq (⟨"LampVoteModel", "plainBurns", "(I)I"⟩, 26) := ⟨⟨by decide +kernel, by decide +kernel⟩, List.mem_of_getElem? (i := 853) (by decide +kernel), List.mem_of_getElem? (i := 1218) (by decide +kernel), List.mem_of_getElem? (i := 1219) (by decide +kernel)⟩
theorem lw_p70 : lw_okq (⟨"LampVoteModel", "tellsActs", "(I)I"⟩, 26) := ⟨⟨by decide +kernel, by decide +kernel⟩, List.mem_of_getElem? (i := 853) (by decide +kernel), List.mem_of_getElem? (i := 1222) (by decide +kernel), List.mem_of_getElem? (i := 1223) (by decide +kernel)⟩
theorem lw_p71 : lw_okq (⟨"LampVoteModel", "plainTells", "(I)I"⟩, 26) := ⟨⟨by decide +kernel, by decide +kernel⟩, List.mem_of_getElem? (i := 853) (by decide +kernel), List.mem_of_getElem? (i := 1226) (by decide +kernel), List.mem_of_getElem? (i := 1227) (by decide +kernel)⟩
def lw_privs_5 : List (MethodName × Nat) := [(⟨"LampVoteModel", "lampsAt", "(I)I"⟩, 26), (⟨"LampVoteModel", "setsActs", "(I)I"⟩, 26), (⟨"LampVoteModel", "ranBody", "(I)V"⟩, 26), (⟨"LampVoteModel", "plainSets", "(I)I"⟩, 26), (⟨"LampVoteModel", "burnsActs", "(I)I"⟩, 26), (⟨"LampVoteModel", "plainBurns", "(I)I"⟩, 26), (⟨"LampVoteModel", "tellsActs", "(I)I"⟩, 26), (⟨"LampVoteModel", "plainTells", "(I)I"⟩, 26)]
theorem lw_r5 : ∀ q ∈ lw_privs_5, lw_okq q := List.forall_mem_cons.mpr ⟨lw_p64, List.forall_mem_cons.mpr ⟨lw_p65, List.forall_mem_cons.mpr ⟨lw_p66, List.forall_mem_cons.mpr ⟨lw_p67, List.forall_mem_cons.mpr ⟨lw_p68, List.forall_mem_cons.mpr ⟨lw_p69, List.forall_mem_cons.mpr ⟨lw_p70, List.forall_mem_cons.mpr ⟨lw_p71, fun _ h => absurd h List.not_mem_nil⟩⟩⟩⟩⟩⟩⟩⟩
def lw_privs : List (MethodName × Nat) := lw_privs_1 ++ (lw_privs_2 ++ (lw_privs_3 ++ (lw_privs_4 ++ (lw_privs_5))))
def lw_tbl : List Cond := k2_sels lw_privs ++ tables_1
theorem lw_privs_ok : ∀ q ∈ lw_privs, lw_okq q := by
  show ∀ q ∈ lw_privs_1 ++ (lw_privs_2 ++ (lw_privs_3 ++ (lw_privs_4 ++ (lw_privs_5)))), lw_okq q
  exact List.forall_mem_append.mpr ⟨lw_r1, List.forall_mem_append.mpr ⟨lw_r2, List.forall_mem_append.mpr ⟨lw_r3, List.forall_mem_append.mpr ⟨lw_r4, lw_r5⟩⟩⟩⟩
-- ===== end of PART A; then your names; then what follows =====
end
section
/-! ===== BEGIN words of one list among another's, by their places ===== -/
theorem goodIn_r {big : List Cond} (ws : List Cond) (ps : List Nat) (hp : ws = ps.filterMap (fun i => big[i]?)) (h : ws.all goodWord = true) : GoodIn big ws := by
  intro w hw
  have h1 := List.all_eq_true.mp h w hw
  rw [hp] at hw
  obtain ⟨i, -, hi⟩ := List.mem_filterMap.mp hw
  have hm : w ∈ big := by first | exact List.mem_of_getElem? hi | exact List.getElem?_mem hi
  exact ⟨hm, good_of_word h1⟩
theorem goodIn_app {big a b : List Cond} (ha : GoodIn big a) (hb : GoodIn big b) : GoodIn big (a ++ b) := fun w h => (List.mem_append.mp h).elim (ha w) (hb w)
theorem goodIn_ca {big a b : List Cond} {c : Cond} (ha : GoodIn big (c :: a)) (hb : GoodIn big b) : GoodIn big (c :: (a ++ b)) := fun w h => (List.mem_cons.mp h).elim (fun e => ha w (List.mem_cons.mpr (Or.inl e))) (fun h => (List.mem_append.mp h).elim (fun h => ha w (List.mem_cons.mpr (Or.inr h))) (hb w))
theorem goodIn_sub {big ws : List Cond} (hm : ∀ w ∈ ws, w ∈ big) (h : ws.all goodWord = true) : GoodIn big ws := fun w hw => ⟨hm w hw, good_of_word (List.all_eq_true.mp h w hw)⟩
/-! ===== END ===== -/
/-! ===== BEGIN printed: names, fields, word lists, decode rows ===== -/
def RX0 : String := "LampVote$Acts"
def TX0 : u_T := fun k => match k with
  | 0 => ("LampVote$Acts", "canal", "LLampVote$Canal;", true)
  | 1 => ("LampVote$Acts", "bodies", "[I", true)
  | _ => ("LampVote$Acts", "ran", "I", false)
def tyX0 : Nat → FieldType := fun k => match k with
  | 0 => .object "LampVote$Canal"
  | 1 => .array .int
  | _ => .int
abbrev wsX00 : List Cond := u_ws RX0 TX0 3
theorem nmX0 : ∀ a, a < 3 → ∀ b, b < 3 → a ≠ b → (TX0 a).2.1 ≠ (TX0 b).2.1 := by decide +kernel
theorem tyX0_ok : ∀ k, k < 3 → parseFieldDescriptor (TX0 k).2.2.1 = some (tyX0 k) := by decide +kernel
abbrev cX0_init : ByteArray := prog_2_method_1_code
def yX0_init : MethodName := ⟨RX0, "<init>", "(LLampVote$Canal;)V"⟩
abbrev cX0_forget : ByteArray := prog_2_method_2_code
def yX0_forget : MethodName := ⟨RX0, "forget", "()V"⟩
abbrev cX0_kept : ByteArray := prog_2_method_3_code
def yX0_kept : MethodName := ⟨RX0, "kept", "()I"⟩
abbrev cX0_isUnder : ByteArray := prog_2_method_4_code
def yX0_isUnder : MethodName := ⟨RX0, "isUnder", "(II)Z"⟩
abbrev cX0_doerOf : ByteArray := prog_2_method_5_code
def yX0_doerOf : MethodName := ⟨RX0, "doerOf", "(II)I"⟩
abbrev cX0_run : ByteArray := prog_2_method_6_code
def yX0_run : MethodName := ⟨RX0, "run", "(IIIII)I"⟩
abbrev cX0_begin : ByteArray := prog_2_method_7_code
def yX0_begin : MethodName := ⟨RX0, "begin", "(I)V"⟩
def RX1 : String := "LampVote$Canal"
def TX1 : u_T := fun k => match k with
  | 0 => ("LampVote$Canal", "places", "I", false)
  | 1 => ("LampVote$Canal", "place", "[[I", true)
  | 2 => ("LampVote$Canal", "minute", "I", false)
  | 3 => ("LampVote$Canal", "voters", "I", false)
  | 4 => ("LampVote$Canal", "voter", "[[I", true)
  | 5 => ("LampVote$Canal", "signs", "I", false)
  | 6 => ("LampVote$Canal", "tape", "[I", true)
  | 7 => ("LampVote$Canal", "tides", "I", false)
  | 8 => ("LampVote$Canal", "newest", "LLampVote$Tide;", false)
  | 9 => ("LampVote$Canal", "seen", "I", false)
  | 10 => ("LampVote$Canal", "seenPlace", "[I", true)
  | 11 => ("LampVote$Canal", "seenLamps", "[I", true)
  | 12 => ("LampVote$Canal", "tales", "I", false)
  | 13 => ("LampVote$Canal", "taleVoter", "[I", true)
  | 14 => ("LampVote$Canal", "taleMinute", "[I", true)
  | 15 => ("LampVote$Canal", "talePlace", "[I", true)
  | _ => ("LampVote$Canal", "here", "[I", true)
def tyX1 : Nat → FieldType := fun k => match k with
  | 0 => .int
  | 1 => .array (.array .int)
  | 2 => .int
  | 3 => .int
  | 4 => .array (.array .int)
  | 5 => .int
  | 6 => .array .int
  | 7 => .int
  | 8 => .object "LampVote$Tide"
  | 9 => .int
  | 10 => .array .int
  | 11 => .array .int
  | 12 => .int
  | 13 => .array .int
  | 14 => .array .int
  | 15 => .array .int
  | _ => .array .int
abbrev wsX10 : List Cond := u_ws RX1 TX1 17
theorem nmX1 : ∀ a, a < 17 → ∀ b, b < 17 → a ≠ b → (TX1 a).2.1 ≠ (TX1 b).2.1 := by decide +kernel
theorem tyX1_ok : ∀ k, k < 17 → parseFieldDescriptor (TX1 k).2.2.1 = some (tyX1 k) := by decide +kernel
abbrev cX1_init : ByteArray := prog_3_method_1_code
def yX1_init : MethodName := ⟨RX1, "<init>", "()V"⟩
abbrev cX1_dig : ByteArray := prog_3_method_2_code
def yX1_dig : MethodName := ⟨RX1, "dig", "(I)V"⟩
abbrev cX1_copy : ByteArray := prog_3_method_3_code
def yX1_copy : MethodName := ⟨RX1, "copy", "(LLampVote$Canal;)V"⟩
abbrev cX1_copyRows : ByteArray := prog_3_method_4_code
def yX1_copyRows : MethodName := ⟨RX1, "copyRows", "([[I[[I)V"⟩
abbrev cX1_copyRow : ByteArray := prog_3_method_5_code
def yX1_copyRow : MethodName := ⟨RX1, "copyRow", "([I[I)V"⟩
abbrev cX1_hasPlace : ByteArray := prog_3_method_6_code
def yX1_hasPlace : MethodName := ⟨RX1, "hasPlace", "(I)Z"⟩
abbrev cX1_hasVoter : ByteArray := prog_3_method_7_code
def yX1_hasVoter : MethodName := ⟨RX1, "hasVoter", "(I)Z"⟩
abbrev cX1_look : ByteArray := prog_3_method_8_code
def yX1_look : MethodName := ⟨RX1, "look", "(II)[I"⟩
abbrev cX1_holdsBack : ByteArray := prog_3_method_9_code
def yX1_holdsBack : MethodName := ⟨RX1, "holdsBack", "(II)Z"⟩
abbrev cX1_goal : ByteArray := prog_3_method_10_code
def yX1_goal : MethodName := ⟨RX1, "goal", "(II)I"⟩
abbrev cX1_weight : ByteArray := prog_3_method_11_code
def yX1_weight : MethodName := ⟨RX1, "weight", "(II)I"⟩
abbrev cX1_filled : ByteArray := prog_3_method_12_code
def yX1_filled : MethodName := ⟨RX1, "filled", "(II)I"⟩
abbrev cX1_delay : ByteArray := prog_3_method_13_code
def yX1_delay : MethodName := ⟨RX1, "delay", "(I)I"⟩
abbrev cX1_wishes : ByteArray := prog_3_method_14_code
def yX1_wishes : MethodName := ⟨RX1, "wishes", "()I"⟩
abbrev cX1_setsAt : ByteArray := prog_3_method_15_code
def yX1_setsAt : MethodName := ⟨RX1, "setsAt", "(I)I"⟩
abbrev cX1_upstream : ByteArray := prog_3_method_16_code
def yX1_upstream : MethodName := ⟨RX1, "upstream", "(I)I"⟩
abbrev cX1_crowded : ByteArray := prog_3_method_17_code
def yX1_crowded : MethodName := ⟨RX1, "crowded", "()I"⟩
abbrev cX1_living : ByteArray := prog_3_method_18_code
def yX1_living : MethodName := ⟨RX1, "living", "(I)I"⟩
def RX2 : String := "LampVote$Night"
def TX2 : u_T := fun k => match k with
  | 0 => ("LampVote$Night", "canal", "LLampVote$Canal;", true)
  | 1 => ("LampVote$Night", "goal", "[[I", true)
  | 2 => ("LampVote$Night", "filled", "[[I", true)
  | 3 => ("LampVote$Night", "weight", "[I", true)
  | 4 => ("LampVote$Night", "lamps", "[I", true)
  | 5 => ("LampVote$Night", "stick", "I", false)
  | 6 => ("LampVote$Night", "lie", "[I", true)
  | _ => ("LampVote$Night", "worth", "[I", true)
def tyX2 : Nat → FieldType := fun k => match k with
  | 0 => .object "LampVote$Canal"
  | 1 => .array (.array .int)
  | 2 => .array (.array .int)
  | 3 => .array .int
  | 4 => .array .int
  | 5 => .int
  | 6 => .array .int
  | _ => .array .int
abbrev wsX20 : List Cond := u_ws RX2 TX2 8
theorem nmX2 : ∀ a, a < 8 → ∀ b, b < 8 → a ≠ b → (TX2 a).2.1 ≠ (TX2 b).2.1 := by decide +kernel
theorem tyX2_ok : ∀ k, k < 8 → parseFieldDescriptor (TX2 k).2.2.1 = some (tyX2 k) := by decide +kernel
abbrev cX2_init : ByteArray := prog_4_method_1_code
def yX2_init : MethodName := ⟨RX2, "<init>", "(LLampVote$Canal;)V"⟩
abbrev cX2_chart : ByteArray := prog_4_method_2_code
def yX2_chart : MethodName := ⟨RX2, "chart", "()V"⟩
abbrev cX2_afloat : ByteArray := prog_4_method_3_code
def yX2_afloat : MethodName := ⟨RX2, "afloat", "(III)I"⟩
abbrev cX2_burns : ByteArray := prog_4_method_4_code
def yX2_burns : MethodName := ⟨RX2, "burns", "(II)I"⟩
abbrev cX2_light : ByteArray := prog_4_method_5_code
def yX2_light : MethodName := ⟨RX2, "light", "(II)V"⟩
abbrev cX2_lightAll : ByteArray := prog_4_method_6_code
def yX2_lightAll : MethodName := ⟨RX2, "lightAll", "()V"⟩
abbrev cX2_pass : ByteArray := prog_4_method_7_code
def yX2_pass : MethodName := ⟨RX2, "pass", "()V"⟩
abbrev cX2_votes : ByteArray := prog_4_method_8_code
def yX2_votes : MethodName := ⟨RX2, "votes", "(I)I"⟩
abbrev cX2_lead : ByteArray := prog_4_method_9_code
def yX2_lead : MethodName := ⟨RX2, "lead", "(I)I"⟩
abbrev cX2_winnerBy : ByteArray := prog_4_method_10_code
def yX2_winnerBy : MethodName := ⟨RX2, "winnerBy", "(I)I"⟩
abbrev cX2_mayor : ByteArray := prog_4_method_11_code
def yX2_mayor : MethodName := ⟨RX2, "mayor", "(I)I"⟩
abbrev cX2_leadOf : ByteArray := prog_4_method_12_code
def yX2_leadOf : MethodName := ⟨RX2, "leadOf", "(I)I"⟩
abbrev cX2_winner : ByteArray := prog_4_method_13_code
def yX2_winner : MethodName := ⟨RX2, "winner", "(I)I"⟩
abbrev cX2_startsTo : ByteArray := prog_4_method_14_code
def yX2_startsTo : MethodName := ⟨RX2, "startsTo", "(II)I"⟩
abbrev cX2_turning : ByteArray := prog_4_method_15_code
def yX2_turning : MethodName := ⟨RX2, "turning", "()I"⟩
abbrev cX2_swayed : ByteArray := prog_4_method_16_code
def yX2_swayed : MethodName := ⟨RX2, "swayed", "(I)I"⟩
abbrev cX2_stickFor : ByteArray := prog_4_method_17_code
def yX2_stickFor : MethodName := ⟨RX2, "stickFor", "(I)I"⟩
abbrev cX2_bestFor : ByteArray := prog_4_method_18_code
def yX2_bestFor : MethodName := ⟨RX2, "bestFor", "(I)I"⟩
abbrev cX2_leadBehind : ByteArray := prog_4_method_19_code
def yX2_leadBehind : MethodName := ⟨RX2, "leadBehind", "(III)I"⟩
abbrev cX2_firstOf : ByteArray := prog_4_method_20_code
def yX2_firstOf : MethodName := ⟨RX2, "firstOf", "(II)I"⟩
abbrev cX2_countLamps : ByteArray := prog_4_method_21_code
def yX2_countLamps : MethodName := ⟨RX2, "countLamps", "()V"⟩
abbrev cX2_fitting : ByteArray := prog_4_method_22_code
def yX2_fitting : MethodName := ⟨RX2, "fitting", "(I)I"⟩
abbrev cX2_isAsSeen : ByteArray := prog_4_method_23_code
def yX2_isAsSeen : MethodName := ⟨RX2, "isAsSeen", "()Z"⟩
abbrev cX2_fairest : ByteArray := prog_4_method_24_code
def yX2_fairest : MethodName := ⟨RX2, "fairest", "()I"⟩
abbrev cX2_unfairness : ByteArray := prog_4_method_25_code
def yX2_unfairness : MethodName := ⟨RX2, "unfairness", "(I)I"⟩
abbrev cX2_firstUntrue : ByteArray := prog_4_method_26_code
def yX2_firstUntrue : MethodName := ⟨RX2, "firstUntrue", "()I"⟩
abbrev cX2_placeAfter : ByteArray := prog_4_method_27_code
def yX2_placeAfter : MethodName := ⟨RX2, "placeAfter", "(II)I"⟩
def RX3 : String := "LampVote$Reader"
def TX3 : u_T := fun k => match k with
  | 0 => ("LampVote$Reader", "words", "[I", true)
  | 1 => ("LampVote$Reader", "amounts", "[I", true)
  | 2 => ("LampVote$Reader", "ends", "[I", true)
  | 3 => ("LampVote$Reader", "code", "[I", true)
  | 4 => ("LampVote$Reader", "pending", "[I", true)
  | 5 => ("LampVote$Reader", "clauses", "I", false)
  | 6 => ("LampVote$Reader", "codes", "I", false)
  | 7 => ("LampVote$Reader", "pended", "I", false)
  | 8 => ("LampVote$Reader", "open", "I", false)
  | 9 => ("LampVote$Reader", "due", "I", false)
  | 10 => ("LampVote$Reader", "word", "I", false)
  | 11 => ("LampVote$Reader", "letter", "I", false)
  | 12 => ("LampVote$Reader", "subject", "I", false)
  | 13 => ("LampVote$Reader", "relation", "I", false)
  | _ => ("LampVote$Reader", "number", "I", false)
def tyX3 : Nat → FieldType := fun k => match k with
  | 0 => .array .int
  | 1 => .array .int
  | 2 => .array .int
  | 3 => .array .int
  | 4 => .array .int
  | 5 => .int
  | 6 => .int
  | 7 => .int
  | 8 => .int
  | 9 => .int
  | 10 => .int
  | 11 => .int
  | 12 => .int
  | 13 => .int
  | _ => .int
abbrev wsX30 : List Cond := u_ws RX3 TX3 15
theorem nmX3 : ∀ a, a < 15 → ∀ b, b < 15 → a ≠ b → (TX3 a).2.1 ≠ (TX3 b).2.1 := by decide +kernel
theorem tyX3_ok : ∀ k, k < 15 → parseFieldDescriptor (TX3 k).2.2.1 = some (tyX3 k) := by decide +kernel
abbrev cX3_init : ByteArray := prog_5_method_1_code
def yX3_init : MethodName := ⟨RX3, "<init>", "()V"⟩
abbrev cX3_faultOf : ByteArray := prog_5_method_2_code
def yX3_faultOf : MethodName := ⟨RX3, "faultOf", "([II)I"⟩
abbrev cX3_written : ByteArray := prog_5_method_3_code
def yX3_written : MethodName := ⟨RX3, "written", "()LLampVote$Tide;"⟩
abbrev cX3_takes : ByteArray := prog_5_method_4_code
def yX3_takes : MethodName := ⟨RX3, "takes", "(I)Z"⟩
abbrev cX3_takesWord : ByteArray := prog_5_method_5_code
def yX3_takesWord : MethodName := ⟨RX3, "takesWord", "(I)Z"⟩
abbrev cX3_takesLetter : ByteArray := prog_5_method_6_code
def yX3_takesLetter : MethodName := ⟨RX3, "takesLetter", "(I)Z"⟩
abbrev cX3_opensClause : ByteArray := prog_5_method_7_code
def yX3_opensClause : MethodName := ⟨RX3, "opensClause", "()Z"⟩
abbrev cX3_takesDigit : ByteArray := prog_5_method_8_code
def yX3_takesDigit : MethodName := ⟨RX3, "takesDigit", "(II)Z"⟩
abbrev cX3_takesSecondDigit : ByteArray := prog_5_method_9_code
def yX3_takesSecondDigit : MethodName := ⟨RX3, "takesSecondDigit", "(I)Z"⟩
abbrev cX3_takesBlank : ByteArray := prog_5_method_10_code
def yX3_takesBlank : MethodName := ⟨RX3, "takesBlank", "()Z"⟩
abbrev cX3_takesFactor : ByteArray := prog_5_method_11_code
def yX3_takesFactor : MethodName := ⟨RX3, "takesFactor", "(I)Z"⟩
abbrev cX3_takesRelation : ByteArray := prog_5_method_12_code
def yX3_takesRelation : MethodName := ⟨RX3, "takesRelation", "(I)Z"⟩
abbrev cX3_isSo : ByteArray := prog_5_method_13_code
def yX3_isSo : MethodName := ⟨RX3, "isSo", "(I)Z"⟩
abbrev cX3_endTest : ByteArray := prog_5_method_14_code
def yX3_endTest : MethodName := ⟨RX3, "endTest", "()V"⟩
abbrev cX3_takesJoint : ByteArray := prog_5_method_15_code
def yX3_takesJoint : MethodName := ⟨RX3, "takesJoint", "(I)Z"⟩
abbrev cX3_takesOperator : ByteArray := prog_5_method_16_code
def yX3_takesOperator : MethodName := ⟨RX3, "takesOperator", "(I)Z"⟩
abbrev cX3_takesClosing : ByteArray := prog_5_method_17_code
def yX3_takesClosing : MethodName := ⟨RX3, "takesClosing", "()Z"⟩
abbrev cX3_isWhole : ByteArray := prog_5_method_18_code
def yX3_isWhole : MethodName := ⟨RX3, "isWhole", "()Z"⟩
abbrev cX3_endsClause : ByteArray := prog_5_method_19_code
def yX3_endsClause : MethodName := ⟨RX3, "endsClause", "()Z"⟩
abbrev cX3_pend : ByteArray := prog_5_method_20_code
def yX3_pend : MethodName := ⟨RX3, "pend", "(I)V"⟩
abbrev cX3_writePending : ByteArray := prog_5_method_21_code
def yX3_writePending : MethodName := ⟨RX3, "writePending", "(I)V"⟩
abbrev cX3_write : ByteArray := prog_5_method_22_code
def yX3_write : MethodName := ⟨RX3, "write", "(I)V"⟩
def RX4 : String := "LampVote$Tide"
def TX4 : u_T := fun k => match k with
  | 0 => ("LampVote$Tide", "words", "[I", true)
  | 1 => ("LampVote$Tide", "amounts", "[I", true)
  | 2 => ("LampVote$Tide", "ends", "[I", true)
  | _ => ("LampVote$Tide", "code", "[I", true)
def tyX4 : Nat → FieldType := fun k => match k with
  | 0 => .array .int
  | 1 => .array .int
  | 2 => .array .int
  | _ => .array .int
abbrev wsX40 : List Cond := u_ws RX4 TX4 4
theorem nmX4 : ∀ a, a < 4 → ∀ b, b < 4 → a ≠ b → (TX4 a).2.1 ≠ (TX4 b).2.1 := by decide +kernel
theorem tyX4_ok : ∀ k, k < 4 → parseFieldDescriptor (TX4 k).2.2.1 = some (tyX4 k) := by decide +kernel
abbrev cX4_init : ByteArray := prog_6_method_1_code
def yX4_init : MethodName := ⟨RX4, "<init>", "()V"⟩
abbrev cX4_init_ : ByteArray := prog_6_method_2_code
def yX4_init_ : MethodName := ⟨RX4, "<init>", "([I[I[I[I)V"⟩
abbrev cX4_any : ByteArray := prog_6_method_3_code
def yX4_any : MethodName := ⟨RX4, "any", "(I[I)Z"⟩
abbrev cX4_sum : ByteArray := prog_6_method_4_code
def yX4_sum : MethodName := ⟨RX4, "sum", "(I[I)I"⟩
abbrev cX4_holds : ByteArray := prog_6_method_5_code
def yX4_holds : MethodName := ⟨RX4, "holds", "(I[I)Z"⟩
def RX5 : String := "LampVote"
def TX5 : u_T := fun k => match k with
  | 0 => ("LampVote", "now", "LLampVote$Canal;", true)
  | 1 => ("LampVote", "image", "LLampVote$Canal;", true)
  | 2 => ("LampVote", "night", "LLampVote$Night;", true)
  | 3 => ("LampVote", "acts", "LLampVote$Acts;", true)
  | 4 => ("LampVote", "reader", "LLampVote$Reader;", true)
  | _ => ("LampVote", "imaged", "Z", false)
def tyX5 : Nat → FieldType := fun k => match k with
  | 0 => .object "LampVote$Canal"
  | 1 => .object "LampVote$Canal"
  | 2 => .object "LampVote$Night"
  | 3 => .object "LampVote$Acts"
  | 4 => .object "LampVote$Reader"
  | _ => .boolean
abbrev wsX50 : List Cond := u_ws RX5 TX5 6
theorem nmX5 : ∀ a, a < 6 → ∀ b, b < 6 → a ≠ b → (TX5 a).2.1 ≠ (TX5 b).2.1 := by decide +kernel
theorem tyX5_ok : ∀ k, k < 6 → parseFieldDescriptor (TX5 k).2.2.1 = some (tyX5 k) := by decide +kernel
abbrev cX5_init : ByteArray := prog_1_method_1_code
def yX5_init : MethodName := ⟨RX5, "<init>", "()V"⟩
abbrev cX5_feed : ByteArray := prog_1_method_2_code
def yX5_feed : MethodName := ⟨RX5, "feed", "(I)I"⟩
abbrev cX5_tide : ByteArray := prog_1_method_3_code
def yX5_tide : MethodName := ⟨RX5, "tide", "()I"⟩
abbrev cX5_places : ByteArray := prog_1_method_4_code
def yX5_places : MethodName := ⟨RX5, "places", "(I)I"⟩
abbrev cX5_place : ByteArray := prog_1_method_5_code
def yX5_place : MethodName := ⟨RX5, "place", "(III)I"⟩
abbrev cX5_mayBecome : ByteArray := prog_1_method_6_code
def yX5_mayBecome : MethodName := ⟨RX5, "mayBecome", "(II)Z"⟩
abbrev cX5_at : ByteArray := prog_1_method_7_code
def yX5_at : MethodName := ⟨RX5, "at", "(II)I"⟩
abbrev cX5_voter : ByteArray := prog_1_method_8_code
def yX5_voter : MethodName := ⟨RX5, "voter", "(IIIII)I"⟩
abbrev cX5_of : ByteArray := prog_1_method_9_code
def yX5_of : MethodName := ⟨RX5, "of", "(II)I"⟩
abbrev cX5_wish : ByteArray := prog_1_method_10_code
def yX5_wish : MethodName := ⟨RX5, "wish", "(II)I"⟩
abbrev cX5_row : ByteArray := prog_1_method_11_code
def yX5_row : MethodName := ⟨RX5, "row", "(III)I"⟩
abbrev cX5_minutes : ByteArray := prog_1_method_12_code
def yX5_minutes : MethodName := ⟨RX5, "minutes", "(I)I"⟩
abbrev cX5_vote : ByteArray := prog_1_method_13_code
def yX5_vote : MethodName := ⟨RX5, "vote", "(I)I"⟩
abbrev cX5_lies : ByteArray := prog_1_method_14_code
def yX5_lies : MethodName := ⟨RX5, "lies", "(II)I"⟩
abbrev cX5_ward : ByteArray := prog_1_method_15_code
def yX5_ward : MethodName := ⟨RX5, "ward", "(I)I"⟩
abbrev cX5_drifts : ByteArray := prog_1_method_16_code
def yX5_drifts : MethodName := ⟨RX5, "drifts", "(II)I"⟩
abbrev cX5_from : ByteArray := prog_1_method_17_code
def yX5_from : MethodName := ⟨RX5, "from", "(III)I"⟩
abbrev cX5_leastOf : ByteArray := prog_1_method_18_code
def yX5_leastOf : MethodName := ⟨RX5, "leastOf", "(I)I"⟩
abbrev cX5_turns : ByteArray := prog_1_method_19_code
def yX5_turns : MethodName := ⟨RX5, "turns", "(I)I"⟩
abbrev cX5_sways : ByteArray := prog_1_method_20_code
def yX5_sways : MethodName := ⟨RX5, "sways", "(II)J"⟩
abbrev cX5_stick : ByteArray := prog_1_method_21_code
def yX5_stick : MethodName := ⟨RX5, "stick", "(I)I"⟩
abbrev cX5_set : ByteArray := prog_1_method_22_code
def yX5_set : MethodName := ⟨RX5, "set", "(II)I"⟩
abbrev cX5_game : ByteArray := prog_1_method_23_code
def yX5_game : MethodName := ⟨RX5, "game", "(III)I"⟩
abbrev cX5_see : ByteArray := prog_1_method_24_code
def yX5_see : MethodName := ⟨RX5, "see", "(II)I"⟩
abbrev cX5_fits : ByteArray := prog_1_method_25_code
def yX5_fits : MethodName := ⟨RX5, "fits", "(I)I"⟩
abbrev cX5_fair : ByteArray := prog_1_method_26_code
def yX5_fair : MethodName := ⟨RX5, "fair", "(I)I"⟩
abbrev cX5_tale : ByteArray := prog_1_method_27_code
def yX5_tale : MethodName := ⟨RX5, "tale", "(III)I"⟩
abbrev cX5_looked : ByteArray := prog_1_method_28_code
def yX5_looked : MethodName := ⟨RX5, "looked", "()I"⟩
abbrev cX5_act : ByteArray := prog_1_method_29_code
def yX5_act : MethodName := ⟨RX5, "act", "(III)I"⟩
abbrev cX5_trace : ByteArray := prog_1_method_30_code
def yX5_trace : MethodName := ⟨RX5, "trace", "(I)I"⟩
abbrev cX5_as : ByteArray := prog_1_method_31_code
def yX5_as : MethodName := ⟨RX5, "as", "(II)I"⟩
abbrev cX5_image : ByteArray := prog_1_method_32_code
def yX5_image : MethodName := ⟨RX5, "image", "()I"⟩
abbrev cX5_undo : ByteArray := prog_1_method_33_code
def yX5_undo : MethodName := ⟨RX5, "undo", "()I"⟩
abbrev cX5_count : ByteArray := prog_1_method_34_code
def yX5_count : MethodName := ⟨RX5, "count", "(I)I"⟩
abbrev cX5_within : ByteArray := prog_1_method_35_code
def yX5_within : MethodName := ⟨RX5, "within", "(III)Z"⟩
def RX6 : String := "LampVoteModel"
def TX6 : u_T := fun k => match k with
  | 0 => ("LampVoteModel", "thrown", "I", false)
  | 1 => ("LampVoteModel", "s", "[I", true)
  | 2 => ("LampVoteModel", "image", "[I", true)
  | 3 => ("LampVoteModel", "hasImage", "Z", false)
  | 4 => ("LampVoteModel", "act", "I", false)
  | 5 => ("LampVoteModel", "spot", "I", false)
  | 6 => ("LampVoteModel", "end", "I", false)
  | 7 => ("LampVoteModel", "isWrong", "Z", false)
  | 8 => ("LampVoteModel", "open", "I", false)
  | 9 => ("LampVoteModel", "by", "[I", true)
  | 10 => ("LampVoteModel", "truths", "[Z", true)
  | 11 => ("LampVoteModel", "isSide", "Z", false)
  | 12 => ("LampVoteModel", "isHeld", "Z", false)
  | 13 => ("LampVoteModel", "oiled", "I", false)
  | 14 => ("LampVoteModel", "weighed", "I", false)
  | 15 => ("LampVoteModel", "going", "[I", true)
  | 16 => ("LampVoteModel", "weights", "[I", true)
  | 17 => ("LampVoteModel", "lying", "[I", true)
  | 18 => ("LampVoteModel", "counts", "[Z", true)
  | 19 => ("LampVoteModel", "bestPlace", "I", false)
  | 20 => ("LampVoteModel", "bestMore", "I", false)
  | 21 => ("LampVoteModel", "bodies", "[I", true)
  | 22 => ("LampVoteModel", "ran", "I", false)
  | 23 => ("LampVoteModel", "kind", "I", false)
  | 24 => ("LampVoteModel", "number", "I", false)
  | _ => ("LampVoteModel", "tellsV", "I", false)
def tyX6 : Nat → FieldType := fun k => match k with
  | 0 => .int
  | 1 => .array .int
  | 2 => .array .int
  | 3 => .boolean
  | 4 => .int
  | 5 => .int
  | 6 => .int
  | 7 => .boolean
  | 8 => .int
  | 9 => .array .int
  | 10 => .array .boolean
  | 11 => .boolean
  | 12 => .boolean
  | 13 => .int
  | 14 => .int
  | 15 => .array .int
  | 16 => .array .int
  | 17 => .array .int
  | 18 => .array .boolean
  | 19 => .int
  | 20 => .int
  | 21 => .array .int
  | 22 => .int
  | 23 => .int
  | 24 => .int
  | _ => .int
abbrev wsX60 : List Cond := u_ws RX6 TX6 26
theorem nmX6 : ∀ a, a < 26 → ∀ b, b < 26 → a ≠ b → (TX6 a).2.1 ≠ (TX6 b).2.1 := by decide +kernel
theorem tyX6_ok : ∀ k, k < 26 → parseFieldDescriptor (TX6 k).2.2.1 = some (tyX6 k) := by decide +kernel
abbrev cX6_init : ByteArray := prog_8_method_1_code
def yX6_init : MethodName := ⟨RX6, "<init>", "()V"⟩
abbrev cX6_in : ByteArray := prog_8_method_3_code
def yX6_in : MethodName := ⟨RX6, "in", "(III)Z"⟩
abbrev cX6_isPlace : ByteArray := prog_8_method_4_code
def yX6_isPlace : MethodName := ⟨RX6, "isPlace", "(I)Z"⟩
abbrev cX6_isVoter : ByteArray := prog_8_method_5_code
def yX6_isVoter : MethodName := ⟨RX6, "isVoter", "(I)Z"⟩
abbrev cX6_asAtFirst : ByteArray := prog_8_method_6_code
def yX6_asAtFirst : MethodName := ⟨RX6, "asAtFirst", "(I)V"⟩
abbrev cX6_feed : ByteArray := prog_8_method_7_code
def yX6_feed : MethodName := ⟨RX6, "feed", "(I)I"⟩
abbrev cX6_here : ByteArray := prog_8_method_8_code
def yX6_here : MethodName := ⟨RX6, "here", "()I"⟩
abbrev cX6_must : ByteArray := prog_8_method_9_code
def yX6_must : MethodName := ⟨RX6, "must", "(I)V"⟩
abbrev cX6_spells : ByteArray := prog_8_method_10_code
def yX6_spells : MethodName := ⟨RX6, "spells", "(Ljava/lang/String;)V"⟩
abbrev cX6_figures : ByteArray := prog_8_method_11_code
def yX6_figures : MethodName := ⟨RX6, "figures", "()I"⟩
abbrev cX6_among : ByteArray := prog_8_method_12_code
def yX6_among : MethodName := ⟨RX6, "among", "(Ljava/lang/String;)I"⟩
abbrev cX6_emits : ByteArray := prog_8_method_13_code
def yX6_emits : MethodName := ⟨RX6, "emits", "(I)V"⟩
abbrev cX6_factor : ByteArray := prog_8_method_14_code
def yX6_factor : MethodName := ⟨RX6, "factor", "()V"⟩
abbrev cX6_every : ByteArray := prog_8_method_15_code
def yX6_every : MethodName := ⟨RX6, "every", "()V"⟩
abbrev cX6_some : ByteArray := prog_8_method_16_code
def yX6_some : MethodName := ⟨RX6, "some", "()V"⟩
abbrev cX6_plain : ByteArray := prog_8_method_17_code
def yX6_plain : MethodName := ⟨RX6, "plain", "(ILjava/lang/String;)V"⟩
abbrev cX6_much : ByteArray := prog_8_method_18_code
def yX6_much : MethodName := ⟨RX6, "much", "(ILjava/lang/String;)V"⟩
abbrev cX6_clauseHere : ByteArray := prog_8_method_19_code
def yX6_clauseHere : MethodName := ⟨RX6, "clauseHere", "()V"⟩
abbrev cX6_tide : ByteArray := prog_8_method_20_code
def yX6_tide : MethodName := ⟨RX6, "tide", "()I"⟩
abbrev cX6_looks : ByteArray := prog_8_method_21_code
def yX6_looks : MethodName := ⟨RX6, "looks", "(II)V"⟩
abbrev cX6_goesFrom : ByteArray := prog_8_method_22_code
def yX6_goesFrom : MethodName := ⟨RX6, "goesFrom", "(II)I"⟩
abbrev cX6_places : ByteArray := prog_8_method_23_code
def yX6_places : MethodName := ⟨RX6, "places", "(I)I"⟩
abbrev cX6_place : ByteArray := prog_8_method_24_code
def yX6_place : MethodName := ⟨RX6, "place", "(III)I"⟩
abbrev cX6_at : ByteArray := prog_8_method_25_code
def yX6_at : MethodName := ⟨RX6, "at", "(II)I"⟩
abbrev cX6_voter : ByteArray := prog_8_method_26_code
def yX6_voter : MethodName := ⟨RX6, "voter", "(IIIII)I"⟩
abbrev cX6_upperOf : ByteArray := prog_8_method_27_code
def yX6_upperOf : MethodName := ⟨RX6, "upperOf", "(I)I"⟩
abbrev cX6_crowded : ByteArray := prog_8_method_28_code
def yX6_crowded : MethodName := ⟨RX6, "crowded", "()I"⟩
abbrev cX6_setsOf : ByteArray := prog_8_method_29_code
def yX6_setsOf : MethodName := ⟨RX6, "setsOf", "(I)I"⟩
abbrev cX6_delayOf : ByteArray := prog_8_method_30_code
def yX6_delayOf : MethodName := ⟨RX6, "delayOf", "(I)I"⟩
abbrev cX6_burnsAt : ByteArray := prog_8_method_31_code
def yX6_burnsAt : MethodName := ⟨RX6, "burnsAt", "(II)I"⟩
abbrev cX6_of : ByteArray := prog_8_method_32_code
def yX6_of : MethodName := ⟨RX6, "of", "(II)I"⟩
abbrev cX6_wish : ByteArray := prog_8_method_33_code
def yX6_wish : MethodName := ⟨RX6, "wish", "(II)I"⟩
abbrev cX6_row : ByteArray := prog_8_method_34_code
def yX6_row : MethodName := ⟨RX6, "row", "(III)I"⟩
abbrev cX6_minutes : ByteArray := prog_8_method_35_code
def yX6_minutes : MethodName := ⟨RX6, "minutes", "(I)I"⟩
abbrev cX6_looksForNight : ByteArray := prog_8_method_36_code
def yX6_looksForNight : MethodName := ⟨RX6, "looksForNight", "()V"⟩
abbrev cX6_lampAt : ByteArray := prog_8_method_37_code
def yX6_lampAt : MethodName := ⟨RX6, "lampAt", "(III)I"⟩
abbrev cX6_lays : ByteArray := prog_8_method_38_code
def yX6_lays : MethodName := ⟨RX6, "lays", "(II)V"⟩
abbrev cX6_laysAll : ByteArray := prog_8_method_39_code
def yX6_laysAll : MethodName := ⟨RX6, "laysAll", "()V"⟩
abbrev cX6_votesFor : ByteArray := prog_8_method_40_code
def yX6_votesFor : MethodName := ⟨RX6, "votesFor", "(I)I"⟩
abbrev cX6_greater : ByteArray := prog_8_method_41_code
def yX6_greater : MethodName := ⟨RX6, "greater", "(II)I"⟩
abbrev cX6_mayor : ByteArray := prog_8_method_42_code
def yX6_mayor : MethodName := ⟨RX6, "mayor", "()I"⟩
abbrev cX6_vote : ByteArray := prog_8_method_43_code
def yX6_vote : MethodName := ⟨RX6, "vote", "(I)I"⟩
abbrev cX6_lies : ByteArray := prog_8_method_44_code
def yX6_lies : MethodName := ⟨RX6, "lies", "(II)I"⟩
abbrev cX6_ward : ByteArray := prog_8_method_45_code
def yX6_ward : MethodName := ⟨RX6, "ward", "(I)I"⟩
abbrev cX6_driftOf : ByteArray := prog_8_method_46_code
def yX6_driftOf : MethodName := ⟨RX6, "driftOf", "(II)I"⟩
abbrev cX6_drifts : ByteArray := prog_8_method_47_code
def yX6_drifts : MethodName := ⟨RX6, "drifts", "(II)I"⟩
abbrev cX6_from : ByteArray := prog_8_method_48_code
def yX6_from : MethodName := ⟨RX6, "from", "(III)I"⟩
abbrev cX6_turnsWishes : ByteArray := prog_8_method_49_code
def yX6_turnsWishes : MethodName := ⟨RX6, "turnsWishes", "(I)V"⟩
abbrev cX6_count1 : ByteArray := prog_8_method_50_code
def yX6_count1 : MethodName := ⟨RX6, "count1", "(I)I"⟩
abbrev cX6_mayorBy : ByteArray := prog_8_method_51_code
def yX6_mayorBy : MethodName := ⟨RX6, "mayorBy", "(I)I"⟩
abbrev cX6_turns : ByteArray := prog_8_method_52_code
def yX6_turns : MethodName := ⟨RX6, "turns", "(I)I"⟩
abbrev cX6_lowest : ByteArray := prog_8_method_53_code
def yX6_lowest : MethodName := ⟨RX6, "lowest", "(JJI)J"⟩
abbrev cX6_sways : ByteArray := prog_8_method_54_code
def yX6_sways : MethodName := ⟨RX6, "sways", "(II)J"⟩
abbrev cX6_stick : ByteArray := prog_8_method_55_code
def yX6_stick : MethodName := ⟨RX6, "stick", "(I)I"⟩
abbrev cX6_moreOf : ByteArray := prog_8_method_56_code
def yX6_moreOf : MethodName := ⟨RX6, "moreOf", "(I)I"⟩
abbrev cX6_looksForBest : ByteArray := prog_8_method_57_code
def yX6_looksForBest : MethodName := ⟨RX6, "looksForBest", "(I)V"⟩
abbrev cX6_set : ByteArray := prog_8_method_58_code
def yX6_set : MethodName := ⟨RX6, "set", "(II)I"⟩
abbrev cX6_game : ByteArray := prog_8_method_59_code
def yX6_game : MethodName := ⟨RX6, "game", "(III)I"⟩
abbrev cX6_see : ByteArray := prog_8_method_60_code
def yX6_see : MethodName := ⟨RX6, "see", "(II)I"⟩
abbrev cX6_lampsAt : ByteArray := prog_8_method_61_code
def yX6_lampsAt : MethodName := ⟨RX6, "lampsAt", "(I)I"⟩
abbrev cX6_fits : ByteArray := prog_8_method_62_code
def yX6_fits : MethodName := ⟨RX6, "fits", "(I)I"⟩
abbrev cX6_fair : ByteArray := prog_8_method_63_code
def yX6_fair : MethodName := ⟨RX6, "fair", "(I)I"⟩
abbrev cX6_tale : ByteArray := prog_8_method_64_code
def yX6_tale : MethodName := ⟨RX6, "tale", "(III)I"⟩
abbrev cX6_looked : ByteArray := prog_8_method_65_code
def yX6_looked : MethodName := ⟨RX6, "looked", "()I"⟩
abbrev cX6_ranBody : ByteArray := prog_8_method_66_code
def yX6_ranBody : MethodName := ⟨RX6, "ranBody", "(I)V"⟩
abbrev cX6_isUnder : ByteArray := prog_8_method_67_code
def yX6_isUnder : MethodName := ⟨RX6, "isUnder", "(II)Z"⟩
abbrev cX6_plainSets : ByteArray := prog_8_method_68_code
def yX6_plainSets : MethodName := ⟨RX6, "plainSets", "(I)I"⟩
abbrev cX6_setsActs : ByteArray := prog_8_method_69_code
def yX6_setsActs : MethodName := ⟨RX6, "setsActs", "(I)I"⟩
abbrev cX6_plainBurns : ByteArray := prog_8_method_70_code
def yX6_plainBurns : MethodName := ⟨RX6, "plainBurns", "(I)I"⟩
abbrev cX6_burnsActs : ByteArray := prog_8_method_71_code
def yX6_burnsActs : MethodName := ⟨RX6, "burnsActs", "(I)I"⟩
abbrev cX6_plainTells : ByteArray := prog_8_method_72_code
def yX6_plainTells : MethodName := ⟨RX6, "plainTells", "(I)I"⟩
abbrev cX6_tellsActs : ByteArray := prog_8_method_73_code
def yX6_tellsActs : MethodName := ⟨RX6, "tellsActs", "(I)I"⟩
abbrev cX6_act : ByteArray := prog_8_method_74_code
def yX6_act : MethodName := ⟨RX6, "act", "(III)I"⟩
abbrev cX6_trace : ByteArray := prog_8_method_75_code
def yX6_trace : MethodName := ⟨RX6, "trace", "(I)I"⟩
abbrev cX6_as : ByteArray := prog_8_method_76_code
def yX6_as : MethodName := ⟨RX6, "as", "(II)I"⟩
abbrev cX6_image : ByteArray := prog_8_method_77_code
def yX6_image : MethodName := ⟨RX6, "image", "()I"⟩
abbrev cX6_undo : ByteArray := prog_8_method_78_code
def yX6_undo : MethodName := ⟨RX6, "undo", "()I"⟩
abbrev cX6_count : ByteArray := prog_8_method_79_code
def yX6_count : MethodName := ⟨RX6, "count", "(I)I"⟩
def RJx145de : String := "java/io/Serializable"
def TJx145de : u_T := fun k => match k with
  | _ => ("", "", "", false)
def tyJx145de : Nat → FieldType := fun k => match k with
  | _ => .int
abbrev wsJx145de0 : List Cond := u_ws RJx145de TJx145de 0
theorem nmJx145de : ∀ a, a < 0 → ∀ b, b < 0 → a ≠ b → (TJx145de a).2.1 ≠ (TJx145de b).2.1 := by decide +kernel
theorem tyJx145de_ok : ∀ k, k < 0 → parseFieldDescriptor (TJx145de k).2.2.1 = some (tyJx145de k) := by decide +kernel
def RJx9f9b0 : String := "java/lang/CharSequence"
def TJx9f9b0 : u_T := fun k => match k with
  | _ => ("", "", "", false)
def tyJx9f9b0 : Nat → FieldType := fun k => match k with
  | _ => .int
abbrev wsJx9f9b00 : List Cond := u_ws RJx9f9b0 TJx9f9b0 0
theorem nmJx9f9b0 : ∀ a, a < 0 → ∀ b, b < 0 → a ≠ b → (TJx9f9b0 a).2.1 ≠ (TJx9f9b0 b).2.1 := by decide +kernel
theorem tyJx9f9b0_ok : ∀ k, k < 0 → parseFieldDescriptor (TJx9f9b0 k).2.2.1 = some (tyJx9f9b0 k) := by decide +kernel
def RJ11 : String := "java/lang/Character"
def TJ11 : u_T := fun k => match k with
  | _ => ("", "", "", false)
def tyJ11 : Nat → FieldType := fun k => match k with
  | _ => .int
abbrev wsJ110 : List Cond := u_ws RJ11 TJ11 0
theorem nmJ11 : ∀ a, a < 0 → ∀ b, b < 0 → a ≠ b → (TJ11 a).2.1 ≠ (TJ11 b).2.1 := by decide +kernel
theorem tyJ11_ok : ∀ k, k < 0 → parseFieldDescriptor (TJ11 k).2.2.1 = some (tyJ11 k) := by decide +kernel
abbrev cJ11_isValidCodePoint_9a6ad : ByteArray := prog_9_method_11_code
def yJ11_isValidCodePoint_9a6ad : MethodName := ⟨RJ11, "isValidCodePoint", "(I)Z"⟩
abbrev cJ11_highSurrogate_5068e : ByteArray := prog_9_method_28_code
def yJ11_highSurrogate_5068e : MethodName := ⟨RJ11, "highSurrogate", "(I)C"⟩
abbrev cJ11_lowSurrogate_5068e : ByteArray := prog_9_method_29_code
def yJ11_lowSurrogate_5068e : MethodName := ⟨RJ11, "lowSurrogate", "(I)C"⟩
def RJx8e188 : String := "java/lang/Cloneable"
def TJx8e188 : u_T := fun k => match k with
  | _ => ("", "", "", false)
def tyJx8e188 : Nat → FieldType := fun k => match k with
  | _ => .int
abbrev wsJx8e1880 : List Cond := u_ws RJx8e188 TJx8e188 0
theorem nmJx8e188 : ∀ a, a < 0 → ∀ b, b < 0 → a ≠ b → (TJx8e188 a).2.1 ≠ (TJx8e188 b).2.1 := by decide +kernel
theorem tyJx8e188_ok : ∀ k, k < 0 → parseFieldDescriptor (TJx8e188 k).2.2.1 = some (tyJx8e188 k) := by decide +kernel
def RJxb160c : String := "java/lang/Comparable"
def TJxb160c : u_T := fun k => match k with
  | _ => ("", "", "", false)
def tyJxb160c : Nat → FieldType := fun k => match k with
  | _ => .int
abbrev wsJxb160c0 : List Cond := u_ws RJxb160c TJxb160c 0
theorem nmJxb160c : ∀ a, a < 0 → ∀ b, b < 0 → a ≠ b → (TJxb160c a).2.1 ≠ (TJxb160c b).2.1 := by decide +kernel
theorem tyJxb160c_ok : ∀ k, k < 0 → parseFieldDescriptor (TJxb160c k).2.2.1 = some (tyJxb160c k) := by decide +kernel
def RJ6 : String := "java/lang/Integer"
def TJ6 : u_T := fun k => match k with
  | _ => ("", "", "", false)
def tyJ6 : Nat → FieldType := fun k => match k with
  | _ => .int
abbrev wsJ60 : List Cond := u_ws RJ6 TJ6 0
theorem nmJ6 : ∀ a, a < 0 → ∀ b, b < 0 → a ≠ b → (TJ6 a).2.1 ≠ (TJ6 b).2.1 := by decide +kernel
theorem tyJ6_ok : ∀ k, k < 0 → parseFieldDescriptor (TJ6 k).2.2.1 = some (tyJ6 k) := by decide +kernel
abbrev cJ6_bitCount_0f7a4 : ByteArray := prog_11_method_49_code
def yJ6_bitCount_0f7a4 : MethodName := ⟨RJ6, "bitCount", "(I)I"⟩
def RJ9 : String := "java/lang/Math"
def TJ9 : u_T := fun k => match k with
  | _ => ("", "", "", false)
def tyJ9 : Nat → FieldType := fun k => match k with
  | _ => .int
abbrev wsJ90 : List Cond := u_ws RJ9 TJ9 0
theorem nmJ9 : ∀ a, a < 0 → ∀ b, b < 0 → a ≠ b → (TJ9 a).2.1 ≠ (TJ9 b).2.1 := by decide +kernel
theorem tyJ9_ok : ∀ k, k < 0 → parseFieldDescriptor (TJ9 k).2.2.1 = some (tyJ9 k) := by decide +kernel
abbrev cJ9_abs_0f7a4 : ByteArray := prog_12_method_59_code
def yJ9_abs_0f7a4 : MethodName := ⟨RJ9, "abs", "(I)I"⟩
abbrev cJ9_max_7cf53 : ByteArray := prog_12_method_65_code
def yJ9_max_7cf53 : MethodName := ⟨RJ9, "max", "(II)I"⟩
abbrev cJ9_min_7cf53 : ByteArray := prog_12_method_69_code
def yJ9_min_7cf53 : MethodName := ⟨RJ9, "min", "(II)I"⟩
def RJ0 : String := "java/lang/String"
def TJ0 : u_T := fun k => match k with
  | _ => ("", "", "", false)
def tyJ0 : Nat → FieldType := fun k => match k with
  | _ => .int
abbrev wsJ00 : List Cond := u_ws RJ0 TJ0 0
theorem nmJ0 : ∀ a, a < 0 → ∀ b, b < 0 → a ≠ b → (TJ0 a).2.1 ≠ (TJ0 b).2.1 := by decide +kernel
theorem tyJ0_ok : ∀ k, k < 0 → parseFieldDescriptor (TJ0 k).2.2.1 = some (tyJ0 k) := by decide +kernel
abbrev cJ0_length_8abf5 : ByteArray := prog_13_method_54_code
def yJ0_length_8abf5 : MethodName := ⟨RJ0, "length", "()I"⟩
abbrev cJ0_charAt_5068e : ByteArray := prog_13_method_56_code
def yJ0_charAt_5068e : MethodName := ⟨RJ0, "charAt", "(I)C"⟩
abbrev cJ0_indexOf_0f7a4 : ByteArray := prog_13_method_79_code
def yJ0_indexOf_0f7a4 : MethodName := ⟨RJ0, "indexOf", "(I)I"⟩
abbrev cJ0_indexOf_7cf53 : ByteArray := prog_13_method_80_code
def yJ0_indexOf_7cf53 : MethodName := ⟨RJ0, "indexOf", "(II)I"⟩
abbrev cJ0_coder_7d493 : ByteArray := prog_13_method_152_code
def yJ0_coder_7d493 : MethodName := ⟨RJ0, "coder", "()B"⟩
abbrev cJ0_isLatin1_aae02 : ByteArray := prog_13_method_154_code
def yJ0_isLatin1_aae02 : MethodName := ⟨RJ0, "isLatin1", "()Z"⟩
abbrev cJ0_checkIndex_df160 : ByteArray := prog_13_method_155_code
def yJ0_checkIndex_df160 : MethodName := ⟨RJ0, "checkIndex", "(II)V"⟩
abbrev cJ0_checkBoundsBeginEnd_23922 : ByteArray := prog_13_method_158_code
def yJ0_checkBoundsBeginEnd_23922 : MethodName := ⟨RJ0, "checkBoundsBeginEnd", "(III)V"⟩
def RJ1 : String := "java/lang/StringLatin1"
def TJ1 : u_T := fun k => match k with
  | _ => ("", "", "", false)
def tyJ1 : Nat → FieldType := fun k => match k with
  | _ => .int
abbrev wsJ10 : List Cond := u_ws RJ1 TJ1 0
theorem nmJ1 : ∀ a, a < 0 → ∀ b, b < 0 → a ≠ b → (TJ1 a).2.1 ≠ (TJ1 b).2.1 := by decide +kernel
theorem tyJ1_ok : ∀ k, k < 0 → parseFieldDescriptor (TJ1 k).2.2.1 = some (tyJ1 k) := by decide +kernel
abbrev cJ1_charAt_3b067 : ByteArray := prog_14_method_2_code
def yJ1_charAt_3b067 : MethodName := ⟨RJ1, "charAt", "([BI)C"⟩
abbrev cJ1_canEncode_9a6ad : ByteArray := prog_14_method_4_code
def yJ1_canEncode_9a6ad : MethodName := ⟨RJ1, "canEncode", "(I)Z"⟩
abbrev cJ1_indexOf_4cfef : ByteArray := prog_14_method_22_code
def yJ1_indexOf_4cfef : MethodName := ⟨RJ1, "indexOf", "([BIII)I"⟩
abbrev cJ1_indexOfChar_4cfef : ByteArray := prog_14_method_23_code
def yJ1_indexOfChar_4cfef : MethodName := ⟨RJ1, "indexOfChar", "([BIII)I"⟩
def RJ2 : String := "java/lang/StringUTF16"
def TJ2 : u_T := fun k => match k with
  | _ => ("", "", "", false)
def tyJ2 : Nat → FieldType := fun k => match k with
  | _ => .int
abbrev wsJ20 : List Cond := u_ws RJ2 TJ2 0
theorem nmJ2 : ∀ a, a < 0 → ∀ b, b < 0 → a ≠ b → (TJ2 a).2.1 ≠ (TJ2 b).2.1 := by decide +kernel
theorem tyJ2_ok : ∀ k, k < 0 → parseFieldDescriptor (TJ2 k).2.2.1 = some (tyJ2 k) := by decide +kernel
abbrev cJ2_getChar_3b067 : ByteArray := prog_15_method_5_code
def yJ2_getChar_3b067 : MethodName := ⟨RJ2, "getChar", "([BI)C"⟩
abbrev cJ2_length_9d52b : ByteArray := prog_15_method_6_code
def yJ2_length_9d52b : MethodName := ⟨RJ2, "length", "([B)I"⟩
abbrev cJ2_indexOf_4cfef : ByteArray := prog_15_method_40_code
def yJ2_indexOf_4cfef : MethodName := ⟨RJ2, "indexOf", "([BIII)I"⟩
abbrev cJ2_indexOfChar_4cfef : ByteArray := prog_15_method_47_code
def yJ2_indexOfChar_4cfef : MethodName := ⟨RJ2, "indexOfChar", "([BIII)I"⟩
abbrev cJ2_indexOfCharUnsafe_4cfef : ByteArray := prog_15_method_48_code
def yJ2_indexOfCharUnsafe_4cfef : MethodName := ⟨RJ2, "indexOfCharUnsafe", "([BIII)I"⟩
abbrev cJ2_indexOfSupplementary_4cfef : ByteArray := prog_15_method_49_code
def yJ2_indexOfSupplementary_4cfef : MethodName := ⟨RJ2, "indexOfSupplementary", "([BIII)I"⟩
abbrev cJ2_charAt_3b067 : ByteArray := prog_15_method_83_code
def yJ2_charAt_3b067 : MethodName := ⟨RJ2, "charAt", "([BI)C"⟩
abbrev cJ2_checkIndex_2214a : ByteArray := prog_15_method_91_code
def yJ2_checkIndex_2214a : MethodName := ⟨RJ2, "checkIndex", "(I[B)V"⟩
abbrev cJ2_checkBoundsBeginEnd_d044e : ByteArray := prog_15_method_93_code
def yJ2_checkBoundsBeginEnd_d044e : MethodName := ⟨RJ2, "checkBoundsBeginEnd", "(II[B)V"⟩
def RJ10 : String := "java/lang/System"
def TJ10 : u_T := fun k => match k with
  | _ => ("", "", "", false)
def tyJ10 : Nat → FieldType := fun k => match k with
  | _ => .int
abbrev wsJ100 : List Cond := u_ws RJ10 TJ10 0
theorem nmJ10 : ∀ a, a < 0 → ∀ b, b < 0 → a ≠ b → (TJ10 a).2.1 ≠ (TJ10 b).2.1 := by decide +kernel
theorem tyJ10_ok : ∀ k, k < 0 → parseFieldDescriptor (TJ10 k).2.2.1 = some (tyJ10 k) := by decide +kernel
def RJxfd54e : String := "java/lang/constant/Constable"
def TJxfd54e : u_T := fun k => match k with
  | _ => ("", "", "", false)
def tyJxfd54e : Nat → FieldType := fun k => match k with
  | _ => .int
abbrev wsJxfd54e0 : List Cond := u_ws RJxfd54e TJxfd54e 0
theorem nmJxfd54e : ∀ a, a < 0 → ∀ b, b < 0 → a ≠ b → (TJxfd54e a).2.1 ≠ (TJxfd54e b).2.1 := by decide +kernel
theorem tyJxfd54e_ok : ∀ k, k < 0 → parseFieldDescriptor (TJxfd54e k).2.2.1 = some (tyJxfd54e k) := by decide +kernel
def RJx3cf43 : String := "java/lang/constant/ConstantDesc"
def TJx3cf43 : u_T := fun k => match k with
  | _ => ("", "", "", false)
def tyJx3cf43 : Nat → FieldType := fun k => match k with
  | _ => .int
abbrev wsJx3cf430 : List Cond := u_ws RJx3cf43 TJx3cf43 0
theorem nmJx3cf43 : ∀ a, a < 0 → ∀ b, b < 0 → a ≠ b → (TJx3cf43 a).2.1 ≠ (TJx3cf43 b).2.1 := by decide +kernel
theorem tyJx3cf43_ok : ∀ k, k < 0 → parseFieldDescriptor (TJx3cf43 k).2.2.1 = some (tyJx3cf43 k) := by decide +kernel
def RJ7 : String := "java/util/Arrays"
def TJ7 : u_T := fun k => match k with
  | _ => ("", "", "", false)
def tyJ7 : Nat → FieldType := fun k => match k with
  | _ => .int
abbrev wsJ70 : List Cond := u_ws RJ7 TJ7 0
theorem nmJ7 : ∀ a, a < 0 → ∀ b, b < 0 → a ≠ b → (TJ7 a).2.1 ≠ (TJ7 b).2.1 := by decide +kernel
theorem tyJ7_ok : ∀ k, k < 0 → parseFieldDescriptor (TJ7 k).2.2.1 = some (tyJ7 k) := by decide +kernel
abbrev cJ7_fill_53178 : ByteArray := prog_17_method_103_code
def yJ7_fill_53178 : MethodName := ⟨RJ7, "fill", "([II)V"⟩
abbrev cJ7_copyOf_59c91 : ByteArray := prog_17_method_123_code
def yJ7_copyOf_59c91 : MethodName := ⟨RJ7, "copyOf", "([II)[I"⟩
def RJ3 : String := "jdk/internal/util/Preconditions"
def TJ3 : u_T := fun k => match k with
  | _ => ("", "", "", false)
def tyJ3 : Nat → FieldType := fun k => match k with
  | _ => .int
abbrev wsJ30 : List Cond := u_ws RJ3 TJ3 0
theorem nmJ3 : ∀ a, a < 0 → ∀ b, b < 0 → a ≠ b → (TJ3 a).2.1 ≠ (TJ3 b).2.1 := by decide +kernel
theorem tyJ3_ok : ∀ k, k < 0 → parseFieldDescriptor (TJ3 k).2.2.1 = some (tyJ3 k) := by decide +kernel
abbrev cJ3_checkIndex_8e157 : ByteArray := prog_18_method_11_code
def yJ3_checkIndex_8e157 : MethodName := ⟨RJ3, "checkIndex", "(IILjava/util/function/BiFunction;)I"⟩
abbrev cJ3_checkFromToIndex_8c36e : ByteArray := prog_18_method_12_code
def yJ3_checkFromToIndex_8c36e : MethodName := ⟨RJ3, "checkFromToIndex", "(IIILjava/util/function/BiFunction;)I"⟩
def RL : String := "LampVoteLaw"
abbrev cL_law : ByteArray := code
def yL_law : MethodName := ⟨RL, "law", "([I)Z"⟩
abbrev vwCl : List vw_C := [(RX0, TX0, 3), (RX1, TX1, 17), (RX2, TX2, 8), (RX3, TX3, 15), (RX4, TX4, 4), (RX5, TX5, 6), (RX6, TX6, 26)]
end
section
/-! the judgement of a method's body: at pc, with the locals lv, the stack st, the state x of the world -/
/-- all the tables' words that a callee may take over -/
def jx_ws : List Cond := lw_tbl.filter goodWord
theorem jx_good : ∀ w ∈ jx_ws, goodWord w = true := fun _ h => (List.mem_filter.mp h).2
theorem jx_tt {w : Cond} (h : w ∈ tables_1) (hg : goodWord w = true) : w ∈ jx_ws := List.mem_filter.mpr ⟨List.mem_append_right _ h, hg⟩
theorem jx_t1 {w : Cond} (h : w ∈ tables_1_1) (hg : goodWord w = true) : w ∈ jx_ws := jx_tt (List.mem_append_left _ h) hg
theorem jx_t2 {w : Cond} (h : w ∈ tables_1_2) (hg : goodWord w = true) : w ∈ jx_ws := jx_tt (List.mem_append_right _ (List.mem_append_left _ h)) hg
theorem jx_t3 {w : Cond} (h : w ∈ tables_1_3) (hg : goodWord w = true) : w ∈ jx_ws := jx_tt (List.mem_append_right _ (List.mem_append_right _ (List.mem_append_left _ h))) hg
theorem jx_t4 {w : Cond} (h : w ∈ tables_1_4) (hg : goodWord w = true) : w ∈ jx_ws := jx_tt (List.mem_append_right _ (List.mem_append_right _ (List.mem_append_right _ (List.mem_append_left _ h)))) hg
theorem jx_t5 {w : Cond} (h : w ∈ tables_1_5) (hg : goodWord w = true) : w ∈ jx_ws := jx_tt (List.mem_append_right _ (List.mem_append_right _ (List.mem_append_right _ (List.mem_append_right _ (List.mem_append_left _ h))))) hg
theorem jx_t6 {w : Cond} (h : w ∈ tables_1_6) (hg : goodWord w = true) : w ∈ jx_ws := jx_tt (List.mem_append_right _ (List.mem_append_right _ (List.mem_append_right _ (List.mem_append_right _ (List.mem_append_right _ h))))) hg
theorem jx_pv {q : MethodName × Nat} (h : q ∈ lw_privs) : Cond.selects q.1.cls q.1 q.1 ∈ jx_ws := List.mem_filter.mpr ⟨List.mem_append_left _ (List.mem_map.mpr ⟨q, h, rfl⟩), rfl⟩
theorem jx_p1 {q : MethodName × Nat} (h : q ∈ lw_privs_1) : q ∈ lw_privs := List.mem_append_left _ h
theorem jx_p2 {q : MethodName × Nat} (h : q ∈ lw_privs_2) : q ∈ lw_privs := List.mem_append_right _ (List.mem_append_left _ h)
theorem jx_p3 {q : MethodName × Nat} (h : q ∈ lw_privs_3) : q ∈ lw_privs := List.mem_append_right _ (List.mem_append_right _ (List.mem_append_left _ h))
theorem jx_p4 {q : MethodName × Nat} (h : q ∈ lw_privs_4) : q ∈ lw_privs := List.mem_append_right _ (List.mem_append_right _ (List.mem_append_right _ (List.mem_append_left _ h)))
theorem jx_p5 {q : MethodName × Nat} (h : q ∈ lw_privs_5) : q ∈ lw_privs := List.mem_append_right _ (List.mem_append_right _ (List.mem_append_right _ (List.mem_append_right _ h)))
def jx_A (rg : Nat → Prop) (sz : Nat) : Nat → Prop := fun q => rg q ∨ sz ≤ q
def jx_J (l : Launch) {X : Type} (env : (Nat → Prop) → State → Prop) (dyn : X → Heap → Prop) (rg : Nat → Prop) (sz : Nat) (own nm : String) (cc : ByteArray) (nL : Nat) (ret : Option FieldType) (R : Room) (Qf : List Frame → Array Value → State → State → Prop) (ce sl pc : Nat) (lv : List (Nat × Value)) (st : List Value) (x : X) : Prop :=
  ∀ (p : Program) (e : Env) (s : State) (m : MethodId) (args : Array Value) (below : List Frame) (meth : Method) (c : Code), CallFix p m c cc nL s args jx_ws own → meth.sig.returnType = ret → meth.locks = false → meth.name = nm → s.heap.size = sz → env (jx_A rg sz) s → ∀ (H : Heap) (locs : List Loc) (ls : Array Slot), lv_has ls nL lv → dyn x H → va_S (jx_A rg sz) s.heap H locs → W p l e R s m args below meth c H locs ce sl (Qf below args s) (F0 m pc ls st)
def jx_g : List (Nat × Value) → Nat → Option Value
  | [], _ => none
  | q :: r, i => cond (Nat.beq q.1 i) (some q.2) (jx_g r i)
theorem jx_g_has {ls : Array Slot} {n : Nat} {i : Nat} {v : Value} : ∀ {l : List (Nat × Value)}, (∀ q ∈ l, ls[q.1]? = some (.val q.2)) → jx_g l i = some v → ls[i]? = some (.val v)
  | [], _, h => by cases h
  | q :: r, hh, h => by
    unfold jx_g at h
    cases hb : Nat.beq q.1 i with
    | true =>
      rw [hb] at h
      cases h
      have e := Nat.eq_of_beq_eq_true hb
      subst e
      exact hh q List.mem_cons_self
    | false =>
      rw [hb] at h
      exact jx_g_has (n := n) (fun z hz => hh z (List.mem_cons_of_mem _ hz)) h
theorem jx_g_at {v : Value} {i : Nat} : ∀ {l : List (Nat × Value)}, jx_g l i = some v → ∃ k : Nat, l[k]? = some (i, v)
  | [], h => by cases h
  | q :: r, h => by
    unfold jx_g at h
    cases hb : Nat.beq q.1 i with
    | true =>
      rw [hb] at h
      cases h
      have e := Nat.eq_of_beq_eq_true hb
      subst e
      exact ⟨0, rfl⟩
    | false =>
      rw [hb] at h
      obtain ⟨k, hk⟩ := jx_g_at h
      exact ⟨k + 1, hk⟩
def jx_lt {α β : Type} (e : α) (k : α → β) : β := k e
theorem jx_lt_o {α β : Type} {e : α} {k : α → β} {o : β} (h : jx_lt e k = o) : ∃ x, x = e ∧ k x = o := ⟨e, rfl, h⟩
def jx_in (i : Int32) (n : Nat) : Bool := decide (¬ (i < 0 ∨ n ≤ i.toNatClampNeg))
def jx_gd {α : Type} (b : Bool) (k : Option α) : Option α := if b = true then k else none
theorem jx_gd_o {α : Type} {b : Bool} {k : Option α} {o : α} (h : jx_gd b k = some o) : b = true ∧ k = some o := by
  unfold jx_gd at h
  by_cases hb : b = true
  · rw [if_pos hb] at h
    exact ⟨hb, h⟩
  · rw [if_neg hb] at h
    cases h
theorem jx_in_o {i : Int32} {n : Nat} (h : jx_in i n = true) : vp_in i n := (of_decide_eq_true h : ¬ (i < 0 ∨ n ≤ i.toNatClampNeg))
def jx_bd {α β : Type} (a : Option α) (k : α → Option β) : Option β := match a with
  | none => none
  | some x => k x
theorem jx_bd_o {α β : Type} {a : Option α} {k : α → Option β} {o : β} (h : jx_bd a k = some o) : ∃ x, a = some x ∧ k x = some o := by
  cases a with
  | none => cases h
  | some x => exact ⟨x, rfl, h⟩
theorem jx_t {α : Type} {c : Prop} {dc : Decidable c} {a b o : α} (hc : c) (h : @ite α c dc a b = o) : a = o := (if_pos hc).symm.trans h
theorem jx_f {α : Type} {c : Prop} {dc : Decidable c} {a b o : α} (hc : ¬ c) (h : @ite α c dc a b = o) : b = o := (if_neg hc).symm.trans h
abbrev jx_M : Type := Nat → Nat → Int32
def jx_mu (σ : jx_M) (a i : Nat) (v : Int32) : jx_M := fun b => if b = a then upd (σ a) i v else σ b
def jx_fuel : Nat := 1000
def jx_nb (x : Int32) : Int32 := vp_nar .boolean x
def jx_Pc {X : Type} (env : (Nat → Prop) → State → Prop) (dyn : X → Heap → Prop) (rg : Nat → Prop) (sz : Nat) (x : X) (av : List Value) : Array Value → State → Prop := va_Pc av (fun U => U.heap.size = sz ∧ env (jx_A rg sz) U ∧ dyn x U.heap)
def jx_Qi {X : Type} (dyn : X → Heap → Prop) (x : X) (v : Int32) (A : Nat → Prop) : Array Value → State → Outcome → State → Prop := va_Qi (fun r (_ : Unit) => r = v) (fun _ t => dyn x t.heap) A
def jx_Ql {X : Type} (dyn : X → Heap → Prop) (x : X) (v : Int64) (A : Nat → Prop) : Array Value → State → Outcome → State → Prop := va_Ql (fun r (_ : Unit) => r = v) (fun _ t => dyn x t.heap) A
def jx_Qv {X : Type} (dyn : X → Heap → Prop) (x : X) (A : Nat → Prop) : Array Value → State → Outcome → State → Prop := va_Qv (fun (_ : Unit) => True) (fun _ t => dyn x t.heap) A
def jx_Qr {X : Type} (dyn : X → Heap → Prop) (x : X) (v : Nat) (A : Nat → Prop) : Array Value → State → Outcome → State → Prop := va_Qr (fun (_ : Unit) => True) (fun _ a t => a = v ∧ dyn x t.heap) A
def jx_ok (rg : Nat → Prop) (env : (Nat → Prop) → State → Prop) : Prop :=
  (∀ (A : Nat → Prop) (U : State) (g : JFrame) (mk : MethodId) (a : Array Value), env A U → env A (U.calling g mk a)) ∧ ∀ (sz : Nat) (s U : State) (H : Heap) (locs : List Loc), env (jx_A rg sz) s → va_S (jx_A rg sz) s.heap H locs → U.heap = H → s.vm.Alike U.vm → env (jx_A rg H.size) U
theorem jx_nbv {v : Int32} (h : v = 0 ∨ v = 1) : jx_nb v = v := by rcases h with rfl | rfl <;> decide +kernel
theorem jx_nar {v : Int32} (h : v = 0 ∨ v = 1) : narrow .boolean (.int v) = .int v := congrArg Value.int (jx_nbv h)
theorem jx_fit {v : Int32} (h : v = 0 ∨ v = 1) : fits .boolean (.int v) = true := by rcases h with rfl | rfl <;> decide +kernel
abbrev jx_kD (y : MethodName) (n : Nat) : Prop := y.cls ≠ "java/lang/invoke/MethodHandle" ∧ y.cls ≠ "java/lang/invoke/VarHandle" ∧ (parseMethodDescriptor y.desc).map (fun d => d.parameters.length) = some n
def jx_kV (own : String) (index : Nat) (Cn : String) (y : MethodName) (bytes : ByteArray) (maxL : Nat) (ret2 : Option FieldType) (n : Nat) : Prop := Cond.methodLink own index y ∈ jx_ws ∧ Cond.instanceMethod y ∈ jx_ws ∧ Cond.selects Cn y y ∈ jx_ws ∧ Cond.initialized Cn ∈ jx_ws ∧ Cond.code y bytes maxL ret2 ∈ jx_ws ∧ y.cls = Cn ∧ jx_kD y n
def jx_kS (own : String) (index : Nat) (y : MethodName) (bytes : ByteArray) (maxL : Nat) (ret2 : Option FieldType) (n : Nat) : Prop := Cond.methodLink own index y ∈ jx_ws ∧ Cond.static y ∈ jx_ws ∧ Cond.initialized y.cls ∈ jx_ws ∧ Cond.code y bytes maxL ret2 ∈ jx_ws ∧ jx_kD y n
theorem jx_goodV {own Cn : String} {index n maxL : Nat} {y : MethodName} {bytes : ByteArray} {ret2 : Option FieldType} (h : jx_kV own index Cn y bytes maxL ret2 n) : GoodIn jx_ws (wsV own index Cn y (Cond.code y bytes maxL ret2 :: jx_ws)) := by
  intro w hw
  have hm : w ∈ jx_ws := by
    unfold wsV at hw
    obtain ⟨h1, h2, h3, h4, h5, -⟩ := h
    rcases List.mem_append.mp hw with q | q
    · rcases List.mem_cons.mp q with rfl | q
      · exact h1
      rcases List.mem_cons.mp q with rfl | q
      · exact h2
      rcases List.mem_cons.mp q with rfl | q
      · exact h3
      rcases List.mem_cons.mp q with rfl | q
      · exact h4
      · cases q
    · rcases List.mem_cons.mp q with rfl | q
      · exact h5
      · exact q
  exact ⟨hm, good_of_word (jx_good w hm)⟩
theorem jx_goodS {own : String} {index n maxL : Nat} {y : MethodName} {bytes : ByteArray} {ret2 : Option FieldType} (h : jx_kS own index y bytes maxL ret2 n) : GoodIn jx_ws (va_wsS own index y (Cond.code y bytes maxL ret2 :: jx_ws)) := by
  intro w hw
  have hm : w ∈ jx_ws := by
    unfold va_wsS at hw
    obtain ⟨h1, h2, h3, h4, -⟩ := h
    rcases List.mem_append.mp hw with q | q
    · rcases List.mem_cons.mp q with rfl | q
      · exact h1
      rcases List.mem_cons.mp q with rfl | q
      · exact h2
      rcases List.mem_cons.mp q with rfl | q
      · exact h3
      · cases q
    · rcases List.mem_cons.mp q with rfl | q
      · exact h4
      · exact q
  exact ⟨hm, good_of_word (jx_good w hm)⟩
def jx_rc {X : Type} (env : (Nat → Prop) → State → Prop) (dyn : X → Heap → Prop) (b : Nat) (Cn : String) : Prop := ∀ (A : Nat → Prop) (s : State) (x : X) (H : Heap), env A s → dyn x H → ∃ cell : Cell, H[b]? = some cell ∧ cell.vm.isStatics = false ∧ s.vm.findClass Cn = some cell.cls
def jx_rm (rm R : Room) (maxL ce sl : Nat) : Prop := (rm.cells = 0 ∧ rm.slots = 0) ∧ (rm.frames + 1 ≤ R.frames ∧ 8 + (maxL + 11) + rm.locals ≤ R.locals) ∧ ce ≤ R.cells ∧ sl ≤ R.slots
section JX
variable {l : Launch} {X : Type} {env : (Nat → Prop) → State → Prop} {dyn : X → Heap → Prop} {rg : Nat → Prop} {sz : Nat} {own nm : String} {cc : ByteArray} {nL : Nat} {ret : Option FieldType} {R : Room} {Qf : List Frame → Array Value → State → State → Prop} {ce sl pc : Nat} {lv lv' : List (Nat × Value)} {st rest : List Value} {x : X}
theorem jx_met {y : MethodName} {rm : Room} {Qc : Array Value → State → Outcome → State → Prop} {mc ms : Nat} {av : List Value} (hy : plainName y.cls = true) (hn : (lg_sl av).length ≤ nL)
    (body : jx_J l env dyn rg sz y.cls y.name cc nL ret rm (fun below args s => MQ below Qc args s mc ms (jx_A rg sz)) 0 0 0 (lv_args 0 av) [] x) :
    Met l y (Cond.code y cc nL ret :: jx_ws) rm (jx_Pc env dyn rg sz x av) Qc mc ms (jx_A rg sz) := by
  refine Met.ofW (cc := cc) (maxL := nL) (ret := ret) hy rfl ?_
  intro p e s m args below meth c s₁ B hml hv
  obtain ⟨rfl, hsz, hE, hD⟩ := hv
  rw [lg_entry_eq]
  exact body p e s m _ below meth c ⟨B.exec, B.bytes, hml, findClass_of_methodNamed B.named, fun w h => atoms_spec (ws := Cond.code y cc nL ret :: jx_ws) B.pre w (List.mem_cons_of_mem _ h)⟩ B.returns B.notSynchronized (name_of_methodNamed B.named B.method).1 hsz hE s.heap [] _ (lv_entry av hn) hD va_S.rf
theorem jx_sub (ks : List Nat) (hl : lv_pick lv ks = lv') (k : jx_J l env dyn rg sz own nm cc nL ret R Qf ce sl pc lv' st x) : jx_J l env dyn rg sz own nm cc nL ret R Qf ce sl pc lv st x := by
  intro p e s m args below meth c C hr hk hn hs hE H locs ls hl2 hD hS
  exact k p e s m args below meth c C hr hk hn hs hE H locs ls (lv_sub hl2 ks hl) hD hS
theorem jx_iadd {x1 x2 : Int32} (d : decode cc pc = .ok (.iadd, 1)) (k : jx_J l env dyn rg sz own nm cc nL ret R Qf ce sl (pc + 1) lv (.int (x1 + x2) :: rest) x) : jx_J l env dyn rg sz own nm cc nL ret R Qf ce sl pc lv (.int x2 :: .int x1 :: rest) x := by
  intro p e s m args below meth c C hr hk hn hs hE H locs ls hl hD hS
  exact lv_iadd C.1 C.2.1 d (k p e s m args below meth c C hr hk hn hs hE H locs ls hl hD hS)
theorem jx_isub {x1 x2 : Int32} (d : decode cc pc = .ok (.isub, 1)) (k : jx_J l env dyn rg sz own nm cc nL ret R Qf ce sl (pc + 1) lv (.int (x1 - x2) :: rest) x) : jx_J l env dyn rg sz own nm cc nL ret R Qf ce sl pc lv (.int x2 :: .int x1 :: rest) x := by
  intro p e s m args below meth c C hr hk hn hs hE H locs ls hl hD hS
  exact lv_isub C.1 C.2.1 d (k p e s m args below meth c C hr hk hn hs hE H locs ls hl hD hS)
theorem jx_imul {x1 x2 : Int32} (d : decode cc pc = .ok (.imul, 1)) (k : jx_J l env dyn rg sz own nm cc nL ret R Qf ce sl (pc + 1) lv (.int (x1 * x2) :: rest) x) : jx_J l env dyn rg sz own nm cc nL ret R Qf ce sl pc lv (.int x2 :: .int x1 :: rest) x := by
  intro p e s m args below meth c C hr hk hn hs hE H locs ls hl hD hS
  exact lv_imul C.1 C.2.1 d (k p e s m args below meth c C hr hk hn hs hE H locs ls hl hD hS)
theorem jx_iand {x1 x2 : Int32} (d : decode cc pc = .ok (.iand, 1)) (k : jx_J l env dyn rg sz own nm cc nL ret R Qf ce sl (pc + 1) lv (.int (x1 &&& x2) :: rest) x) : jx_J l env dyn rg sz own nm cc nL ret R Qf ce sl pc lv (.int x2 :: .int x1 :: rest) x := by
  intro p e s m args below meth c C hr hk hn hs hE H locs ls hl hD hS
  exact lv_iand C.1 C.2.1 d (k p e s m args below meth c C hr hk hn hs hE H locs ls hl hD hS)
theorem jx_ior {x1 x2 : Int32} (d : decode cc pc = .ok (.ior, 1)) (k : jx_J l env dyn rg sz own nm cc nL ret R Qf ce sl (pc + 1) lv (.int (x1 ||| x2) :: rest) x) : jx_J l env dyn rg sz own nm cc nL ret R Qf ce sl pc lv (.int x2 :: .int x1 :: rest) x := by
  intro p e s m args below meth c C hr hk hn hs hE H locs ls hl hD hS
  exact lv_ior C.1 C.2.1 d (k p e s m args below meth c C hr hk hn hs hE H locs ls hl hD hS)
theorem jx_ixor {x1 x2 : Int32} (d : decode cc pc = .ok (.ixor, 1)) (k : jx_J l env dyn rg sz own nm cc nL ret R Qf ce sl (pc + 1) lv (.int (x1 ^^^ x2) :: rest) x) : jx_J l env dyn rg sz own nm cc nL ret R Qf ce sl pc lv (.int x2 :: .int x1 :: rest) x := by
  intro p e s m args below meth c C hr hk hn hs hE H locs ls hl hD hS
  exact lv_ixor C.1 C.2.1 d (k p e s m args below meth c C hr hk hn hs hE H locs ls hl hD hS)
theorem jx_ishl {x1 x2 : Int32} (d : decode cc pc = .ok (.ishl, 1)) (k : jx_J l env dyn rg sz own nm cc nL ret R Qf ce sl (pc + 1) lv (.int (x1 <<< (x2 &&& 31)) :: rest) x) : jx_J l env dyn rg sz own nm cc nL ret R Qf ce sl pc lv (.int x2 :: .int x1 :: rest) x := by
  intro p e s m args below meth c C hr hk hn hs hE H locs ls hl hD hS
  exact lv_ishl C.1 C.2.1 d (k p e s m args below meth c C hr hk hn hs hE H locs ls hl hD hS)
theorem jx_ishr {x1 x2 : Int32} (d : decode cc pc = .ok (.ishr, 1)) (k : jx_J l env dyn rg sz own nm cc nL ret R Qf ce sl (pc + 1) lv (.int (x1 >>> (x2 &&& 31)) :: rest) x) : jx_J l env dyn rg sz own nm cc nL ret R Qf ce sl pc lv (.int x2 :: .int x1 :: rest) x := by
  intro p e s m args below meth c C hr hk hn hs hE H locs ls hl hD hS
  exact lv_ishr C.1 C.2.1 d (k p e s m args below meth c C hr hk hn hs hE H locs ls hl hD hS)
theorem jx_ineg {x1 : Int32} (d : decode cc pc = .ok (.ineg, 1)) (k : jx_J l env dyn rg sz own nm cc nL ret R Qf ce sl (pc + 1) lv (.int (-x1) :: rest) x) : jx_J l env dyn rg sz own nm cc nL ret R Qf ce sl pc lv (.int x1 :: rest) x := by
  intro p e s m args below meth c C hr hk hn hs hE H locs ls hl hD hS
  exact lv_ineg C.1 C.2.1 d (k p e s m args below meth c C hr hk hn hs hE H locs ls hl hD hS)
theorem jx_idiv {x1 x2 : Int32} (hne : ¬ x2 = 0) (d : decode cc pc = .ok (.idiv, 1)) (k : jx_J l env dyn rg sz own nm cc nL ret R Qf ce sl (pc + 1) lv (.int (x1 / x2) :: rest) x) : jx_J l env dyn rg sz own nm cc nL ret R Qf ce sl pc lv (.int x2 :: .int x1 :: rest) x := by
  intro p e s m args below meth c C hr hk hn hs hE H locs ls hl hD hS
  exact lv_idiv C.1 C.2.1 d hne (k p e s m args below meth c C hr hk hn hs hE H locs ls hl hD hS)
theorem jx_irem {x1 x2 : Int32} (hne : ¬ x2 = 0) (d : decode cc pc = .ok (.irem, 1)) (k : jx_J l env dyn rg sz own nm cc nL ret R Qf ce sl (pc + 1) lv (.int (x1 - x1 / x2 * x2) :: rest) x) : jx_J l env dyn rg sz own nm cc nL ret R Qf ce sl pc lv (.int x2 :: .int x1 :: rest) x := by
  intro p e s m args below meth c C hr hk hn hs hE H locs ls hl hD hS
  exact lv_irem C.1 C.2.1 d hne (k p e s m args below meth c C hr hk hn hs hE H locs ls hl hD hS)
theorem jx_ladd {x1 x2 : Int64} (d : decode cc pc = .ok (.ladd, 1)) (k : jx_J l env dyn rg sz own nm cc nL ret R Qf ce sl (pc + 1) lv (.long (x1 + x2) :: rest) x) : jx_J l env dyn rg sz own nm cc nL ret R Qf ce sl pc lv (.long x2 :: .long x1 :: rest) x := by
  intro p e s m args below meth c C hr hk hn hs hE H locs ls hl hD hS
  exact lv_ladd C.1 C.2.1 d (k p e s m args below meth c C hr hk hn hs hE H locs ls hl hD hS)
theorem jx_land {x1 x2 : Int64} (d : decode cc pc = .ok (.land, 1)) (k : jx_J l env dyn rg sz own nm cc nL ret R Qf ce sl (pc + 1) lv (.long (x1 &&& x2) :: rest) x) : jx_J l env dyn rg sz own nm cc nL ret R Qf ce sl pc lv (.long x2 :: .long x1 :: rest) x := by
  intro p e s m args below meth c C hr hk hn hs hE H locs ls hl hD hS
  exact lv_land C.1 C.2.1 d (k p e s m args below meth c C hr hk hn hs hE H locs ls hl hD hS)
theorem jx_lor {x1 x2 : Int64} (d : decode cc pc = .ok (.lor, 1)) (k : jx_J l env dyn rg sz own nm cc nL ret R Qf ce sl (pc + 1) lv (.long (x1 ||| x2) :: rest) x) : jx_J l env dyn rg sz own nm cc nL ret R Qf ce sl pc lv (.long x2 :: .long x1 :: rest) x := by
  intro p e s m args below meth c C hr hk hn hs hE H locs ls hl hD hS
  exact lv_lor C.1 C.2.1 d (k p e s m args below meth c C hr hk hn hs hE H locs ls hl hD hS)
theorem jx_lxor {x1 x2 : Int64} (d : decode cc pc = .ok (.lxor, 1)) (k : jx_J l env dyn rg sz own nm cc nL ret R Qf ce sl (pc + 1) lv (.long (x1 ^^^ x2) :: rest) x) : jx_J l env dyn rg sz own nm cc nL ret R Qf ce sl pc lv (.long x2 :: .long x1 :: rest) x := by
  intro p e s m args below meth c C hr hk hn hs hE H locs ls hl hD hS
  exact lv_lxor C.1 C.2.1 d (k p e s m args below meth c C hr hk hn hs hE H locs ls hl hD hS)
theorem jx_lsub {x1 x2 : Int64} (d : decode cc pc = .ok (.lsub, 1)) (k : jx_J l env dyn rg sz own nm cc nL ret R Qf ce sl (pc + 1) lv (.long (x1 - x2) :: rest) x) : jx_J l env dyn rg sz own nm cc nL ret R Qf ce sl pc lv (.long x2 :: .long x1 :: rest) x := by
  intro p e s m args below meth c C hr hk hn hs hE H locs ls hl hD hS
  exact lv_lsub C.1 C.2.1 d (k p e s m args below meth c C hr hk hn hs hE H locs ls hl hD hS)
theorem jx_lrem {x1 x2 : Int64} (hne : ¬ x2 = 0) (d : decode cc pc = .ok (.lrem, 1)) (k : jx_J l env dyn rg sz own nm cc nL ret R Qf ce sl (pc + 1) lv (.long (x1 - x1 / x2 * x2) :: rest) x) : jx_J l env dyn rg sz own nm cc nL ret R Qf ce sl pc lv (.long x2 :: .long x1 :: rest) x := by
  intro p e s m args below meth c C hr hk hn hs hE H locs ls hl hD hS
  exact lv_lrem C.1 C.2.1 d hne (k p e s m args below meth c C hr hk hn hs hE H locs ls hl hD hS)
theorem jx_ldiv {x1 x2 : Int64} (hne : ¬ x2 = 0) (d : decode cc pc = .ok (.ldiv, 1)) (k : jx_J l env dyn rg sz own nm cc nL ret R Qf ce sl (pc + 1) lv (.long (x1 / x2) :: rest) x) : jx_J l env dyn rg sz own nm cc nL ret R Qf ce sl pc lv (.long x2 :: .long x1 :: rest) x := by
  intro p e s m args below meth c C hr hk hn hs hE H locs ls hl hD hS
  exact lv_ldiv C.1 C.2.1 d hne (k p e s m args below meth c C hr hk hn hs hE H locs ls hl hD hS)
theorem jx_lcmp {x1 x2 : Int64} (d : decode cc pc = .ok (.lcmp, 1)) (k : jx_J l env dyn rg sz own nm cc nL ret R Qf ce sl (pc + 1) lv (.int (lg_cmp x1 x2) :: rest) x) : jx_J l env dyn rg sz own nm cc nL ret R Qf ce sl pc lv (.long x2 :: .long x1 :: rest) x := by
  intro p e s m args below meth c C hr hk hn hs hE H locs ls hl hD hS
  exact W.lcmp C.1 C.2.1 d (k p e s m args below meth c C hr hk hn hs hE H locs ls hl hD hS)
theorem jx_lshl {x1 : Int64} {x2 : Int32} (d : decode cc pc = .ok (.lshl, 1)) (k : jx_J l env dyn rg sz own nm cc nL ret R Qf ce sl (pc + 1) lv (.long (x1 <<< (x2.toInt64 &&& 63)) :: rest) x) : jx_J l env dyn rg sz own nm cc nL ret R Qf ce sl pc lv (.int x2 :: .long x1 :: rest) x := by
  intro p e s m args below meth c C hr hk hn hs hE H locs ls hl hD hS
  exact lv_lshl C.1 C.2.1 d rfl (k p e s m args below meth c C hr hk hn hs hE H locs ls hl hD hS)
theorem jx_lshr {x1 : Int64} {x2 : Int32} (d : decode cc pc = .ok (.lshr, 1)) (k : jx_J l env dyn rg sz own nm cc nL ret R Qf ce sl (pc + 1) lv (.long (x1 >>> (x2.toInt64 &&& 63)) :: rest) x) : jx_J l env dyn rg sz own nm cc nL ret R Qf ce sl pc lv (.int x2 :: .long x1 :: rest) x := by
  intro p e s m args below meth c C hr hk hn hs hE H locs ls hl hD hS
  exact lv_lshr C.1 C.2.1 d rfl (k p e s m args below meth c C hr hk hn hs hE H locs ls hl hD hS)
theorem jx_i2l {x1 : Int32} (d : decode cc pc = .ok (.i2l, 1)) (k : jx_J l env dyn rg sz own nm cc nL ret R Qf ce sl (pc + 1) lv (.long x1.toInt64 :: rest) x) : jx_J l env dyn rg sz own nm cc nL ret R Qf ce sl pc lv (.int x1 :: rest) x := by
  intro p e s m args below meth c C hr hk hn hs hE H locs ls hl hD hS
  exact lv_i2l C.1 C.2.1 d rfl (k p e s m args below meth c C hr hk hn hs hE H locs ls hl hD hS)
theorem jx_i2c {x1 : Int32} (d : decode cc pc = .ok (.i2c, 1)) (k : jx_J l env dyn rg sz own nm cc nL ret R Qf ce sl (pc + 1) lv (.int (x1.toUInt32 % 65536).toInt32 :: rest) x) : jx_J l env dyn rg sz own nm cc nL ret R Qf ce sl pc lv (.int x1 :: rest) x := by
  intro p e s m args below meth c C hr hk hn hs hE H locs ls hl hD hS
  exact lv_i2c C.1 C.2.1 d rfl (k p e s m args below meth c C hr hk hn hs hE H locs ls hl hD hS)
theorem jx_dup {va : Value} (hva : va.category = 1) (d : decode cc pc = .ok (.dup, 1)) (k : jx_J l env dyn rg sz own nm cc nL ret R Qf ce sl (pc + 1) lv (va :: va :: rest) x) : jx_J l env dyn rg sz own nm cc nL ret R Qf ce sl pc lv (va :: rest) x := by
  intro p e s m args below meth c C hr hk hn hs hE H locs ls hl hD hS
  exact lv_dup C.1 C.2.1 d hva (k p e s m args below meth c C hr hk hn hs hE H locs ls hl hD hS)
theorem jx_dup2 {va vb : Value} (hva : va.category = 1) (hvb : vb.category = 1) (d : decode cc pc = .ok (.dup2, 1)) (k : jx_J l env dyn rg sz own nm cc nL ret R Qf ce sl (pc + 1) lv (va :: vb :: va :: vb :: rest) x) : jx_J l env dyn rg sz own nm cc nL ret R Qf ce sl pc lv (va :: vb :: rest) x := by
  intro p e s m args below meth c C hr hk hn hs hE H locs ls hl hD hS
  exact lv_dup2_11 C.1 C.2.1 d hva hvb (k p e s m args below meth c C hr hk hn hs hE H locs ls hl hD hS)
theorem jx_dup_x1 {va vb : Value} (hva : va.category = 1) (hvb : vb.category = 1) (d : decode cc pc = .ok (.dup_x1, 1)) (k : jx_J l env dyn rg sz own nm cc nL ret R Qf ce sl (pc + 1) lv (va :: vb :: va :: rest) x) : jx_J l env dyn rg sz own nm cc nL ret R Qf ce sl pc lv (va :: vb :: rest) x := by
  intro p e s m args below meth c C hr hk hn hs hE H locs ls hl hD hS
  exact lv_dup_x1 C.1 C.2.1 d hva hvb (k p e s m args below meth c C hr hk hn hs hE H locs ls hl hD hS)
theorem jx_pop {va : Value} (hva : va.category = 1) (d : decode cc pc = .ok (.pop, 1)) (k : jx_J l env dyn rg sz own nm cc nL ret R Qf ce sl (pc + 1) lv (rest) x) : jx_J l env dyn rg sz own nm cc nL ret R Qf ce sl pc lv (va :: rest) x := by
  intro p e s m args below meth c C hr hk hn hs hE H locs ls hl hD hS
  exact lv_pop C.1 C.2.1 d hva (k p e s m args below meth c C hr hk hn hs hE H locs ls hl hD hS)
theorem jx_iconst {n : Int} {v : Int32} (hv : Int32.ofInt n = v) (d : decode cc pc = .ok (.iconst n, 1)) (k : jx_J l env dyn rg sz own nm cc nL ret R Qf ce sl (pc + 1) lv (.int v :: rest) x) : jx_J l env dyn rg sz own nm cc nL ret R Qf ce sl pc lv (rest) x := by
  intro p e s m args below meth c C hr hk hn hs hE H locs ls hl hD hS
  exact lv_iconst C.1 C.2.1 d hv (k p e s m args below meth c C hr hk hn hs hE H locs ls hl hD hS)
theorem jx_bipush {n : Int} {v : Int32} (hv : (Int8.ofInt n).toInt32 = v) (d : decode cc pc = .ok (.bipush n, 2)) (k : jx_J l env dyn rg sz own nm cc nL ret R Qf ce sl (pc + 2) lv (.int v :: rest) x) : jx_J l env dyn rg sz own nm cc nL ret R Qf ce sl pc lv (rest) x := by
  intro p e s m args below meth c C hr hk hn hs hE H locs ls hl hD hS
  exact lv_bipush C.1 C.2.1 d hv (k p e s m args below meth c C hr hk hn hs hE H locs ls hl hD hS)
theorem jx_sipush {n : Int} {v : Int32} (hv : (Int16.ofInt n).toInt32 = v) (d : decode cc pc = .ok (.sipush n, 3)) (k : jx_J l env dyn rg sz own nm cc nL ret R Qf ce sl (pc + 3) lv (.int v :: rest) x) : jx_J l env dyn rg sz own nm cc nL ret R Qf ce sl pc lv (rest) x := by
  intro p e s m args below meth c C hr hk hn hs hE H locs ls hl hD hS
  exact lv_sipush C.1 C.2.1 d hv (k p e s m args below meth c C hr hk hn hs hE H locs ls hl hD hS)
theorem jx_lconst {n : Fin 2} {v : Int64} (hv : Int64.ofNat (n : Nat) = v) (d : decode cc pc = .ok (.lconst n, 1)) (k : jx_J l env dyn rg sz own nm cc nL ret R Qf ce sl (pc + 1) lv (.long v :: rest) x) : jx_J l env dyn rg sz own nm cc nL ret R Qf ce sl pc lv (rest) x := by
  intro p e s m args below meth c C hr hk hn hs hE H locs ls hl hD hS
  exact lv_lconst C.1 C.2.1 d hv (k p e s m args below meth c C hr hk hn hs hE H locs ls hl hD hS)
theorem jx_ldc {index : Nat} {v : Int32} (hw : Cond.constant own index v ∈ jx_ws) (d : decode cc pc = .ok (.ldc index, 2)) (k : jx_J l env dyn rg sz own nm cc nL ret R Qf ce sl (pc + 2) lv (.int v :: rest) x) : jx_J l env dyn rg sz own nm cc nL ret R Qf ce sl pc lv (rest) x := by
  intro p e s m args below meth c C hr hk hn hs hE H locs ls hl hD hS
  exact lv_ldc C.1 C.2.1 C.2.2.2.1 (C.2.2.2.2 _ hw) d (k p e s m args below meth c C hr hk hn hs hE H locs ls hl hD hS)
theorem jx_ldc2 {index : Nat} {v : Int64} (hw : Cond.constantLong own index v ∈ jx_ws) (d : decode cc pc = .ok (.ldc2_w index, 3)) (k : jx_J l env dyn rg sz own nm cc nL ret R Qf ce sl (pc + 3) lv (.long v :: rest) x) : jx_J l env dyn rg sz own nm cc nL ret R Qf ce sl pc lv (rest) x := by
  intro p e s m args below meth c C hr hk hn hs hE H locs ls hl hD hS
  exact lv_ldc2 C.1 C.2.1 C.2.2.2.1 (C.2.2.2.2 _ hw) d (k p e s m args below meth c C hr hk hn hs hE H locs ls hl hD hS)
theorem jx_iload_n {k0 : Fin 4} {v : Int32} (hg : jx_g lv (k0 : Nat) = some (.int v)) (d : decode cc pc = .ok (.iload_n k0, 1)) (k : jx_J l env dyn rg sz own nm cc nL ret R Qf ce sl (pc + 1) lv (.int v :: rest) x) : jx_J l env dyn rg sz own nm cc nL ret R Qf ce sl pc lv (rest) x := by
  intro p e s m args below meth c C hr hk hn hs hE H locs ls hl hD hS
  exact lv_iload_n C.1 C.2.1 d rfl (jx_g_has (n := nL) hl.2.2 hg) (k p e s m args below meth c C hr hk hn hs hE H locs ls hl hD hS)
theorem jx_iload {i : Nat} {v : Int32} (hg : jx_g lv i = some (.int v)) (d : decode cc pc = .ok (.iload i, 2)) (k : jx_J l env dyn rg sz own nm cc nL ret R Qf ce sl (pc + 2) lv (.int v :: rest) x) : jx_J l env dyn rg sz own nm cc nL ret R Qf ce sl pc lv (rest) x := by
  intro p e s m args below meth c C hr hk hn hs hE H locs ls hl hD hS
  exact lv_iload C.1 C.2.1 d (jx_g_has (n := nL) hl.2.2 hg) (k p e s m args below meth c C hr hk hn hs hE H locs ls hl hD hS)
theorem jx_istore_n {k0 : Fin 4} {i : Nat} (hi : (k0 : Nat) = i) {v v2 : Int32} (ev : v2 = v) (hi2 : i < nL) (hl2 : (i, Value.int v2) :: lv.filter (fun q => !(q.1 == i) && !(q.1 + 1 == i && q.2.category == 2)) = lv') (d : decode cc pc = .ok (.istore_n k0, 1)) (k : jx_J l env dyn rg sz own nm cc nL ret R Qf ce sl (pc + 1) lv' rest x) : jx_J l env dyn rg sz own nm cc nL ret R Qf ce sl pc lv (.int v :: rest) x := by
  subst ev
  intro p e s m args below meth c C hr hk hn hs hE H locs ls hl hD hS
  exact lv_istore_n C.1 C.2.1 d hi hl hi2 hl2 (fun ls1 hl1 => k p e s m args below meth c C hr hk hn hs hE H locs ls1 hl1 hD hS)
theorem jx_istore {i : Nat} {v v2 : Int32} (ev : v2 = v) (hi2 : i < nL) (hl2 : (i, Value.int v2) :: lv.filter (fun q => !(q.1 == i) && !(q.1 + 1 == i && q.2.category == 2)) = lv') (d : decode cc pc = .ok (.istore i, 2)) (k : jx_J l env dyn rg sz own nm cc nL ret R Qf ce sl (pc + 2) lv' rest x) : jx_J l env dyn rg sz own nm cc nL ret R Qf ce sl pc lv (.int v :: rest) x := by
  subst ev
  intro p e s m args below meth c C hr hk hn hs hE H locs ls hl hD hS
  exact lv_istore C.1 C.2.1 d hl hi2 hl2 (fun ls1 hl1 => k p e s m args below meth c C hr hk hn hs hE H locs ls1 hl1 hD hS)
theorem jx_lload_n {k0 : Fin 4} {v : Int64} (hg : jx_g lv (k0 : Nat) = some (.long v)) (d : decode cc pc = .ok (.lload_n k0, 1)) (k : jx_J l env dyn rg sz own nm cc nL ret R Qf ce sl (pc + 1) lv (.long v :: rest) x) : jx_J l env dyn rg sz own nm cc nL ret R Qf ce sl pc lv (rest) x := by
  intro p e s m args below meth c C hr hk hn hs hE H locs ls hl hD hS
  exact lv_lload_n C.1 C.2.1 d rfl (jx_g_has (n := nL) hl.2.2 hg) (k p e s m args below meth c C hr hk hn hs hE H locs ls hl hD hS)
theorem jx_lload {i : Nat} {v : Int64} (hg : jx_g lv i = some (.long v)) (d : decode cc pc = .ok (.lload i, 2)) (k : jx_J l env dyn rg sz own nm cc nL ret R Qf ce sl (pc + 2) lv (.long v :: rest) x) : jx_J l env dyn rg sz own nm cc nL ret R Qf ce sl pc lv (rest) x := by
  intro p e s m args below meth c C hr hk hn hs hE H locs ls hl hD hS
  exact lv_lload C.1 C.2.1 d (jx_g_has (n := nL) hl.2.2 hg) (k p e s m args below meth c C hr hk hn hs hE H locs ls hl hD hS)
theorem jx_lstore_n {k0 : Fin 4} {i : Nat} (hi : (k0 : Nat) = i) {v v2 : Int64} (ev : v2 = v) (hi2 : i + 1 < nL) (hl2 : (i, Value.long v2) :: lv.filter (fun q => !(q.1 == i) && (!(q.1 == i + 1) && !(q.1 + 1 == i && q.2.category == 2))) = lv') (d : decode cc pc = .ok (.lstore_n k0, 1)) (k : jx_J l env dyn rg sz own nm cc nL ret R Qf ce sl (pc + 1) lv' rest x) : jx_J l env dyn rg sz own nm cc nL ret R Qf ce sl pc lv (.long v :: rest) x := by
  subst ev
  intro p e s m args below meth c C hr hk hn hs hE H locs ls hl hD hS
  exact lv_lstore_n C.1 C.2.1 d hi hl hi2 hl2 (fun ls1 hl1 => k p e s m args below meth c C hr hk hn hs hE H locs ls1 hl1 hD hS)
theorem jx_lstore {i : Nat} {v v2 : Int64} (ev : v2 = v) (hi2 : i + 1 < nL) (hl2 : (i, Value.long v2) :: lv.filter (fun q => !(q.1 == i) && (!(q.1 == i + 1) && !(q.1 + 1 == i && q.2.category == 2))) = lv') (d : decode cc pc = .ok (.lstore i, 2)) (k : jx_J l env dyn rg sz own nm cc nL ret R Qf ce sl (pc + 2) lv' rest x) : jx_J l env dyn rg sz own nm cc nL ret R Qf ce sl pc lv (.long v :: rest) x := by
  subst ev
  intro p e s m args below meth c C hr hk hn hs hE H locs ls hl hD hS
  exact lv_lstore C.1 C.2.1 d hl hi2 hl2 (fun ls1 hl1 => k p e s m args below meth c C hr hk hn hs hE H locs ls1 hl1 hD hS)
theorem jx_aload_n {k0 : Fin 4} {v : Nat} (hg : jx_g lv (k0 : Nat) = some (.ref v)) (d : decode cc pc = .ok (.aload_n k0, 1)) (k : jx_J l env dyn rg sz own nm cc nL ret R Qf ce sl (pc + 1) lv (.ref v :: rest) x) : jx_J l env dyn rg sz own nm cc nL ret R Qf ce sl pc lv (rest) x := by
  intro p e s m args below meth c C hr hk hn hs hE H locs ls hl hD hS
  exact lv_aload_n C.1 C.2.1 d rfl (jx_g_has (n := nL) hl.2.2 hg) (k p e s m args below meth c C hr hk hn hs hE H locs ls hl hD hS)
theorem jx_aload {i : Nat} {v : Nat} (hg : jx_g lv i = some (.ref v)) (d : decode cc pc = .ok (.aload i, 2)) (k : jx_J l env dyn rg sz own nm cc nL ret R Qf ce sl (pc + 2) lv (.ref v :: rest) x) : jx_J l env dyn rg sz own nm cc nL ret R Qf ce sl pc lv (rest) x := by
  intro p e s m args below meth c C hr hk hn hs hE H locs ls hl hD hS
  exact lv_aload C.1 C.2.1 d (jx_g_has (n := nL) hl.2.2 hg) (k p e s m args below meth c C hr hk hn hs hE H locs ls hl hD hS)
theorem jx_astore_n {k0 : Fin 4} {i : Nat} (hi : (k0 : Nat) = i) {v v2 : Nat} (ev : v2 = v) (hi2 : i < nL) (hl2 : (i, Value.ref v2) :: lv.filter (fun q => !(q.1 == i) && !(q.1 + 1 == i && q.2.category == 2)) = lv') (d : decode cc pc = .ok (.astore_n k0, 1)) (k : jx_J l env dyn rg sz own nm cc nL ret R Qf ce sl (pc + 1) lv' rest x) : jx_J l env dyn rg sz own nm cc nL ret R Qf ce sl pc lv (.ref v :: rest) x := by
  subst ev
  intro p e s m args below meth c C hr hk hn hs hE H locs ls hl hD hS
  exact lv_astore_n C.1 C.2.1 d hi hl hi2 hl2 (fun ls1 hl1 => k p e s m args below meth c C hr hk hn hs hE H locs ls1 hl1 hD hS)
theorem jx_astore {i : Nat} {v v2 : Nat} (ev : v2 = v) (hi2 : i < nL) (hl2 : (i, Value.ref v2) :: lv.filter (fun q => !(q.1 == i) && !(q.1 + 1 == i && q.2.category == 2)) = lv') (d : decode cc pc = .ok (.astore i, 2)) (k : jx_J l env dyn rg sz own nm cc nL ret R Qf ce sl (pc + 2) lv' rest x) : jx_J l env dyn rg sz own nm cc nL ret R Qf ce sl pc lv (.ref v :: rest) x := by
  subst ev
  intro p e s m args below meth c C hr hk hn hs hE H locs ls hl hD hS
  exact lv_astore C.1 C.2.1 d hl hi2 hl2 (fun ls1 hl1 => k p e s m args below meth c C hr hk hn hs hE H locs ls1 hl1 hD hS)
theorem jx_iinc {i : Nat} {n : Int} {v v2 : Int32} (hg : jx_g lv i = some (.int v)) (ev : v2 = v + Int32.ofInt n) (hi2 : i < nL) (hl2 : (i, Value.int v2) :: lv.filter (fun q => !(q.1 == i) && !(q.1 + 1 == i && q.2.category == 2)) = lv') (d : decode cc pc = .ok (.iinc i n, 3)) (k : jx_J l env dyn rg sz own nm cc nL ret R Qf ce sl (pc + 3) lv' rest x) : jx_J l env dyn rg sz own nm cc nL ret R Qf ce sl pc lv rest x := by
  subst ev
  intro p e s m args below meth c C hr hk hn hs hE H locs ls hl hD hS
  obtain ⟨k1, hk1⟩ := jx_g_at hg
  exact lv_iinc C.1 C.2.1 d hl hk1 rfl hi2 hl2 (fun ls1 hl1 => k p e s m args below meth c C hr hk hn hs hE H locs ls1 hl1 hD hS)
theorem jx_goto {off : Int} {tgt : Nat} (d : decode cc pc = .ok (.goto off, 3)) (ht : (pc : Int) + off = (tgt : Int)) (k : jx_J l env dyn rg sz own nm cc nL ret R Qf ce sl tgt lv rest x) : jx_J l env dyn rg sz own nm cc nL ret R Qf ce sl pc lv rest x := by
  intro p e s m args below meth c C hr hk hn hs hE H locs ls hl hD hS
  exact lv_goto C.1 C.2.1 d ht (k p e s m args below meth c C hr hk hn hs hE H locs ls hl hD hS)
theorem jx_if_eq {v : Int32} {off : Int} {tgt : Nat} (d : decode cc pc = .ok (.ifCond .eq off, 3)) (ht : (pc : Int) + off = (tgt : Int)) (kt : v = 0 → jx_J l env dyn rg sz own nm cc nL ret R Qf ce sl tgt lv rest x) (kf : ¬ v = 0 → jx_J l env dyn rg sz own nm cc nL ret R Qf ce sl (pc + 3) lv rest x) : jx_J l env dyn rg sz own nm cc nL ret R Qf ce sl pc lv (.int v :: rest) x := by
  intro p e s m args below meth c C hr hk hn hs hE H locs ls hl hD hS
  exact lv_if_eq C.1 C.2.1 d ht (fun h => kt h p e s m args below meth c C hr hk hn hs hE H locs ls hl hD hS) (fun h => kf h p e s m args below meth c C hr hk hn hs hE H locs ls hl hD hS)
theorem jx_icmp_eq {v v2 : Int32} {off : Int} {tgt : Nat} (d : decode cc pc = .ok (.if_icmp .eq off, 3)) (ht : (pc : Int) + off = (tgt : Int)) (kt : v = v2 → jx_J l env dyn rg sz own nm cc nL ret R Qf ce sl tgt lv rest x) (kf : ¬ v = v2 → jx_J l env dyn rg sz own nm cc nL ret R Qf ce sl (pc + 3) lv rest x) : jx_J l env dyn rg sz own nm cc nL ret R Qf ce sl pc lv (.int v2 :: .int v :: rest) x := by
  intro p e s m args below meth c C hr hk hn hs hE H locs ls hl hD hS
  exact lv_icmp_eq C.1 C.2.1 d ht (fun h => kt h p e s m args below meth c C hr hk hn hs hE H locs ls hl hD hS) (fun h => kf h p e s m args below meth c C hr hk hn hs hE H locs ls hl hD hS)
theorem jx_if_ne {v : Int32} {off : Int} {tgt : Nat} (d : decode cc pc = .ok (.ifCond .ne off, 3)) (ht : (pc : Int) + off = (tgt : Int)) (kt : ¬ v = 0 → jx_J l env dyn rg sz own nm cc nL ret R Qf ce sl tgt lv rest x) (kf : v = 0 → jx_J l env dyn rg sz own nm cc nL ret R Qf ce sl (pc + 3) lv rest x) : jx_J l env dyn rg sz own nm cc nL ret R Qf ce sl pc lv (.int v :: rest) x := by
  intro p e s m args below meth c C hr hk hn hs hE H locs ls hl hD hS
  exact lv_if_ne C.1 C.2.1 d ht (fun h => kt h p e s m args below meth c C hr hk hn hs hE H locs ls hl hD hS) (fun h => kf h p e s m args below meth c C hr hk hn hs hE H locs ls hl hD hS)
theorem jx_icmp_ne {v v2 : Int32} {off : Int} {tgt : Nat} (d : decode cc pc = .ok (.if_icmp .ne off, 3)) (ht : (pc : Int) + off = (tgt : Int)) (kt : ¬ v = v2 → jx_J l env dyn rg sz own nm cc nL ret R Qf ce sl tgt lv rest x) (kf : v = v2 → jx_J l env dyn rg sz own nm cc nL ret R Qf ce sl (pc + 3) lv rest x) : jx_J l env dyn rg sz own nm cc nL ret R Qf ce sl pc lv (.int v2 :: .int v :: rest) x := by
  intro p e s m args below meth c C hr hk hn hs hE H locs ls hl hD hS
  exact lv_icmp_ne C.1 C.2.1 d ht (fun h => kt h p e s m args below meth c C hr hk hn hs hE H locs ls hl hD hS) (fun h => kf h p e s m args below meth c C hr hk hn hs hE H locs ls hl hD hS)
theorem jx_if_lt {v : Int32} {off : Int} {tgt : Nat} (d : decode cc pc = .ok (.ifCond .lt off, 3)) (ht : (pc : Int) + off = (tgt : Int)) (kt : v < 0 → jx_J l env dyn rg sz own nm cc nL ret R Qf ce sl tgt lv rest x) (kf : ¬ v < 0 → jx_J l env dyn rg sz own nm cc nL ret R Qf ce sl (pc + 3) lv rest x) : jx_J l env dyn rg sz own nm cc nL ret R Qf ce sl pc lv (.int v :: rest) x := by
  intro p e s m args below meth c C hr hk hn hs hE H locs ls hl hD hS
  exact lv_if_lt C.1 C.2.1 d ht (fun h => kt h p e s m args below meth c C hr hk hn hs hE H locs ls hl hD hS) (fun h => kf h p e s m args below meth c C hr hk hn hs hE H locs ls hl hD hS)
theorem jx_icmp_lt {v v2 : Int32} {off : Int} {tgt : Nat} (d : decode cc pc = .ok (.if_icmp .lt off, 3)) (ht : (pc : Int) + off = (tgt : Int)) (kt : v < v2 → jx_J l env dyn rg sz own nm cc nL ret R Qf ce sl tgt lv rest x) (kf : ¬ v < v2 → jx_J l env dyn rg sz own nm cc nL ret R Qf ce sl (pc + 3) lv rest x) : jx_J l env dyn rg sz own nm cc nL ret R Qf ce sl pc lv (.int v2 :: .int v :: rest) x := by
  intro p e s m args below meth c C hr hk hn hs hE H locs ls hl hD hS
  exact lv_icmp_lt C.1 C.2.1 d ht (fun h => kt h p e s m args below meth c C hr hk hn hs hE H locs ls hl hD hS) (fun h => kf h p e s m args below meth c C hr hk hn hs hE H locs ls hl hD hS)
theorem jx_if_ge {v : Int32} {off : Int} {tgt : Nat} (d : decode cc pc = .ok (.ifCond .ge off, 3)) (ht : (pc : Int) + off = (tgt : Int)) (kt : 0 ≤ v → jx_J l env dyn rg sz own nm cc nL ret R Qf ce sl tgt lv rest x) (kf : ¬ 0 ≤ v → jx_J l env dyn rg sz own nm cc nL ret R Qf ce sl (pc + 3) lv rest x) : jx_J l env dyn rg sz own nm cc nL ret R Qf ce sl pc lv (.int v :: rest) x := by
  intro p e s m args below meth c C hr hk hn hs hE H locs ls hl hD hS
  exact lv_if_ge C.1 C.2.1 d ht (fun h => kt h p e s m args below meth c C hr hk hn hs hE H locs ls hl hD hS) (fun h => kf h p e s m args below meth c C hr hk hn hs hE H locs ls hl hD hS)
theorem jx_icmp_ge {v v2 : Int32} {off : Int} {tgt : Nat} (d : decode cc pc = .ok (.if_icmp .ge off, 3)) (ht : (pc : Int) + off = (tgt : Int)) (kt : v2 ≤ v → jx_J l env dyn rg sz own nm cc nL ret R Qf ce sl tgt lv rest x) (kf : ¬ v2 ≤ v → jx_J l env dyn rg sz own nm cc nL ret R Qf ce sl (pc + 3) lv rest x) : jx_J l env dyn rg sz own nm cc nL ret R Qf ce sl pc lv (.int v2 :: .int v :: rest) x := by
  intro p e s m args below meth c C hr hk hn hs hE H locs ls hl hD hS
  exact lv_icmp_ge C.1 C.2.1 d ht (fun h => kt h p e s m args below meth c C hr hk hn hs hE H locs ls hl hD hS) (fun h => kf h p e s m args below meth c C hr hk hn hs hE H locs ls hl hD hS)
theorem jx_if_gt {v : Int32} {off : Int} {tgt : Nat} (d : decode cc pc = .ok (.ifCond .gt off, 3)) (ht : (pc : Int) + off = (tgt : Int)) (kt : 0 < v → jx_J l env dyn rg sz own nm cc nL ret R Qf ce sl tgt lv rest x) (kf : ¬ 0 < v → jx_J l env dyn rg sz own nm cc nL ret R Qf ce sl (pc + 3) lv rest x) : jx_J l env dyn rg sz own nm cc nL ret R Qf ce sl pc lv (.int v :: rest) x := by
  intro p e s m args below meth c C hr hk hn hs hE H locs ls hl hD hS
  exact lv_if_gt C.1 C.2.1 d ht (fun h => kt h p e s m args below meth c C hr hk hn hs hE H locs ls hl hD hS) (fun h => kf h p e s m args below meth c C hr hk hn hs hE H locs ls hl hD hS)
theorem jx_icmp_gt {v v2 : Int32} {off : Int} {tgt : Nat} (d : decode cc pc = .ok (.if_icmp .gt off, 3)) (ht : (pc : Int) + off = (tgt : Int)) (kt : v2 < v → jx_J l env dyn rg sz own nm cc nL ret R Qf ce sl tgt lv rest x) (kf : ¬ v2 < v → jx_J l env dyn rg sz own nm cc nL ret R Qf ce sl (pc + 3) lv rest x) : jx_J l env dyn rg sz own nm cc nL ret R Qf ce sl pc lv (.int v2 :: .int v :: rest) x := by
  intro p e s m args below meth c C hr hk hn hs hE H locs ls hl hD hS
  exact lv_icmp_gt C.1 C.2.1 d ht (fun h => kt h p e s m args below meth c C hr hk hn hs hE H locs ls hl hD hS) (fun h => kf h p e s m args below meth c C hr hk hn hs hE H locs ls hl hD hS)
theorem jx_if_le {v : Int32} {off : Int} {tgt : Nat} (d : decode cc pc = .ok (.ifCond .le off, 3)) (ht : (pc : Int) + off = (tgt : Int)) (kt : v ≤ 0 → jx_J l env dyn rg sz own nm cc nL ret R Qf ce sl tgt lv rest x) (kf : ¬ v ≤ 0 → jx_J l env dyn rg sz own nm cc nL ret R Qf ce sl (pc + 3) lv rest x) : jx_J l env dyn rg sz own nm cc nL ret R Qf ce sl pc lv (.int v :: rest) x := by
  intro p e s m args below meth c C hr hk hn hs hE H locs ls hl hD hS
  exact lv_if_le C.1 C.2.1 d ht (fun h => kt h p e s m args below meth c C hr hk hn hs hE H locs ls hl hD hS) (fun h => kf h p e s m args below meth c C hr hk hn hs hE H locs ls hl hD hS)
theorem jx_icmp_le {v v2 : Int32} {off : Int} {tgt : Nat} (d : decode cc pc = .ok (.if_icmp .le off, 3)) (ht : (pc : Int) + off = (tgt : Int)) (kt : v ≤ v2 → jx_J l env dyn rg sz own nm cc nL ret R Qf ce sl tgt lv rest x) (kf : ¬ v ≤ v2 → jx_J l env dyn rg sz own nm cc nL ret R Qf ce sl (pc + 3) lv rest x) : jx_J l env dyn rg sz own nm cc nL ret R Qf ce sl pc lv (.int v2 :: .int v :: rest) x := by
  intro p e s m args below meth c C hr hk hn hs hE H locs ls hl hD hS
  exact lv_icmp_le C.1 C.2.1 d ht (fun h => kt h p e s m args below meth c C hr hk hn hs hE H locs ls hl hD hS) (fun h => kf h p e s m args below meth c C hr hk hn hs hE H locs ls hl hD hS)
theorem jx_tabIn {dflt lo hi : Int} {offs : Array Int} {len : Nat} {v : Int32} {off : Int} {tgt : Nat} (d : decode cc pc = .ok (.tableswitch dflt lo hi offs, len)) (n : Int) (hv : v.toInt = n) (h1 : ¬ n < lo) (h2 : ¬ hi < n) (ho : offs[(n - lo).toNat]? = some off) (ht : (pc : Int) + off = (tgt : Int)) (k : jx_J l env dyn rg sz own nm cc nL ret R Qf ce sl tgt lv rest x) : jx_J l env dyn rg sz own nm cc nL ret R Qf ce sl pc lv (.int v :: rest) x := by
  subst hv
  intro p e s m args below meth c C hr hk hn hs hE H locs ls hl hD hS
  exact lv_tableIn C.1 C.2.1 d h1 h2 ho ht (k p e s m args below meth c C hr hk hn hs hE H locs ls hl hD hS)
theorem jx_tabOut {dflt lo hi : Int} {offs : Array Int} {len : Nat} {v : Int32} {tgt : Nat} (d : decode cc pc = .ok (.tableswitch dflt lo hi offs, len)) (h : v.toInt < lo ∨ hi < v.toInt) (ht : (pc : Int) + dflt = (tgt : Int)) (k : jx_J l env dyn rg sz own nm cc nL ret R Qf ce sl tgt lv rest x) : jx_J l env dyn rg sz own nm cc nL ret R Qf ce sl pc lv (.int v :: rest) x := by
  intro p e s m args below meth c C hr hk hn hs hE H locs ls hl hD hS
  exact lv_tableOut C.1 C.2.1 d h ht (k p e s m args below meth c C hr hk hn hs hE H locs ls hl hD hS)
theorem jx_look {dflt : Int} {ps : Array (Int × Int)} {len : Nat} {v : Int32} {off : Int} {tgt : Nat} (d : decode cc pc = .ok (.lookupswitch dflt ps, len)) (hp : (ps.toList.zip (ps.toList.drop 1)).all (fun (a, next) => a.1 < next.1) = true) (ho : Op.lookupswitch.offset ps.toList dflt v.toInt = off) (ht : (pc : Int) + off = (tgt : Int)) (k : jx_J l env dyn rg sz own nm cc nL ret R Qf ce sl tgt lv rest x) : jx_J l env dyn rg sz own nm cc nL ret R Qf ce sl pc lv (.int v :: rest) x := by
  intro p e s m args below meth c C hr hk hn hs hE H locs ls hl hD hS
  exact lv_lookup C.1 C.2.1 d hp ho ht (k p e s m args below meth c C hr hk hn hs hE H locs ls hl hD hS)
theorem jx_iret {v : Int32} (d : decode cc pc = .ok (.ireturn, 1)) : jx_J l env dyn rg sz own nm cc nL (some .int) R (fun below args s => MQ below (jx_Qi dyn x v (jx_A rg sz)) args s 0 0 (jx_A rg sz)) 0 0 pc lv [.int v] x := by
  intro p e s m args below meth c C hr hk hn hs hE H locs ls hl hD hS
  exact W.iret C.1 C.2.1 hr (fun t ht hW => ⟨⟨v, (), rfl, rfl, (show dyn x t.heap by rw [ht]; exact hD)⟩, hS.F ht⟩) hS.2.2 d hk
theorem jx_zret {v : Int32} (hz : v = 0 ∨ v = 1) (d : decode cc pc = .ok (.ireturn, 1)) : jx_J l env dyn rg sz own nm cc nL (some .boolean) R (fun below args s => MQ below (jx_Qi dyn x v (jx_A rg sz)) args s 0 0 (jx_A rg sz)) 0 0 pc lv [.int v] x := by
  intro p e s m args below meth c C hr hk hn hs hE H locs ls hl hD hS
  exact W.zret C.1 C.2.1 hr (jx_nar hz) (fun t ht hW => ⟨⟨v, (), rfl, rfl, (show dyn x t.heap by rw [ht]; exact hD)⟩, hS.F ht⟩) hS.2.2 d hk
theorem jx_lret {v : Int64} (d : decode cc pc = .ok (.lreturn, 1)) : jx_J l env dyn rg sz own nm cc nL (some .long) R (fun below args s => MQ below (jx_Ql dyn x v (jx_A rg sz)) args s 0 0 (jx_A rg sz)) 0 0 pc lv [.long v] x := by
  intro p e s m args below meth c C hr hk hn hs hE H locs ls hl hD hS
  exact W.lret C.1 C.2.1 hr (fun t ht hW => ⟨⟨v, (), rfl, rfl, (show dyn x t.heap by rw [ht]; exact hD)⟩, hS.F ht⟩) hS.2.2 d hk
theorem jx_vret (d : decode cc pc = .ok (.return_, 1)) : jx_J l env dyn rg sz own nm cc nL none R (fun below args s => MQ below (jx_Qv dyn x (jx_A rg sz)) args s 0 0 (jx_A rg sz)) 0 0 pc lv [] x := by
  intro p e s m args below meth c C hr hk hn hs hE H locs ls hl hD hS
  exact W.vret C.1 C.2.1 hr (fun t ht hW => ⟨⟨(), rfl, trivial, (show dyn x t.heap by rw [ht]; exact hD)⟩, hS.F ht⟩) hS.2.2 d hk
theorem jx_aret {rt : FieldType} {v : Nat} (hrt : (∃ n, rt = .object n) ∨ ∃ t, rt = .array t) (d : decode cc pc = .ok (.areturn, 1)) : jx_J l env dyn rg sz own nm cc nL (some rt) R (fun below args s => MQ below (jx_Qr dyn x v (jx_A rg sz)) args s 0 0 (jx_A rg sz)) 0 0 pc lv [.ref v] x := by
  intro p e s m args below meth c C hr hk hn hs hE H locs ls hl hD hS
  exact W.aret C.1 C.2.1 hr hrt (Or.inr ⟨_, rfl⟩) (fun t ht hW => ⟨⟨(), v, rfl, trivial, rfl, (show dyn x t.heap by rw [ht]; exact hD)⟩, hS.F ht⟩) hS.2.2 d hk
theorem jx_callVi {Cn : String} {y : MethodName} {bytes : ByteArray} {maxL n index : Nat} {ret2 : Option FieldType} {rm : Room} {b : Nat} (As : List Value) {x1 : X} {r : Int32} (hM : ∀ sz' : Nat, Met l y (Cond.code y bytes maxL ret2 :: jx_ws) rm (jx_Pc env dyn rg sz' x (Value.ref b :: As)) (jx_Qi dyn x1 r (jx_A rg sz')) 0 0 (jx_A rg sz')) (hkv : jx_kV own index Cn y bytes maxL ret2 n) (hok : jx_ok rg env) (hrc : jx_rc env dyn b Cn) (hst : st = As.reverse ++ .ref b :: rest) (hn0 : As.length = n) (hcat : (rest.map fun v => v.category).sum ≤ 8) (hroom : jx_rm rm R maxL ce sl) (d : decode cc pc = .ok (.invokevirtual index, 3)) (k : jx_J l env dyn rg sz own nm cc nL ret R Qf ce sl (pc + 3) lv (.int r :: rest) x1) : jx_J l env dyn rg sz own nm cc nL ret R Qf ce sl pc lv st x := by
  intro p e s m args below meth c C hr hk hn hs hE H locs ls hl hD hS
  subst hst
  have hA : ∀ q, jx_A rg H.size q → jx_A rg sz q := fun q h => h.elim Or.inl (fun h => Or.inr (Nat.le_trans (by rw [← hs]; exact hS.1) h))
  refine va_calli (va_runV (As := As) (rest := rest) C (hM H.size) (cwV n C.2.2.2.2 (jx_goodV hkv) rfl hroom.1.1 hroom.1.2 ⟨hkv.2.2.2.2.2.1, hkv.2.2.2.2.2.2⟩ hroom.2.1) ⟨fun a U g mk q => ⟨q.1, q.2.1, hok.1 _ _ _ _ _ q.2.2.1, q.2.2.2⟩, hrc _ _ _ _ hE hD, fun U hU hW => ⟨rfl, by rw [hU], hok.2 sz s U H locs hE hS hU hW.alike, by rw [hU]; exact hD⟩⟩ rfl hn0 hl.1 rfl (lv_room hcat) d ⟨hroom.2.2.1, hroom.2.2.2⟩) hS (fun q _ h => hA q h) hA (fun r1 u t H1 locs1 ht hvm hw hB hz1 hk1 hS1 => ?_)
  have hw : r1 = r := hw
  subst hw
  have hB : dyn x1 t.heap := hB
  exact k p e s m args below meth c C hr hk hn hs hE H1 locs1 ls hl (by rw [← ht]; exact hB) hS1
theorem jx_callSi {y : MethodName} {bytes : ByteArray} {maxL n index : Nat} {ret2 : Option FieldType} {rm : Room} (As : List Value) {x1 : X} {r : Int32} (hM : ∀ sz' : Nat, Met l y (Cond.code y bytes maxL ret2 :: jx_ws) rm (jx_Pc env dyn rg sz' x As) (jx_Qi dyn x1 r (jx_A rg sz')) 0 0 (jx_A rg sz')) (hkv : jx_kS own index y bytes maxL ret2 n) (hok : jx_ok rg env) (hst : st = As.reverse ++ rest) (hn0 : As.length = n) (hcat : (rest.map fun v => v.category).sum ≤ 8) (hroom : jx_rm rm R maxL ce sl) (d : decode cc pc = .ok (.invokestatic index, 3)) (k : jx_J l env dyn rg sz own nm cc nL ret R Qf ce sl (pc + 3) lv (.int r :: rest) x1) : jx_J l env dyn rg sz own nm cc nL ret R Qf ce sl pc lv st x := by
  intro p e s m args below meth c C hr hk hn hs hE H locs ls hl hD hS
  subst hst
  have hA : ∀ q, jx_A rg H.size q → jx_A rg sz q := fun q h => h.elim Or.inl (fun h => Or.inr (Nat.le_trans (by rw [← hs]; exact hS.1) h))
  refine va_calli (va_runS (As := As) (rest := rest) C (hM H.size) (va_cwS n C.2.2.2.2 (jx_goodS hkv) rfl hroom.1.1 hroom.1.2 hkv.2.2.2.2 hroom.2.1) ⟨fun a U g mk q => ⟨q.1, q.2.1, hok.1 _ _ _ _ _ q.2.2.1, q.2.2.2⟩, fun U hU hW => ⟨rfl, by rw [hU], hok.2 sz s U H locs hE hS hU hW.alike, by rw [hU]; exact hD⟩⟩ rfl hn0 hl.1 rfl (lv_room hcat) d ⟨hroom.2.2.1, hroom.2.2.2⟩) hS (fun q _ h => hA q h) hA (fun r1 u t H1 locs1 ht hvm hw hB hz1 hk1 hS1 => ?_)
  have hw : r1 = r := hw
  subst hw
  have hB : dyn x1 t.heap := hB
  exact k p e s m args below meth c C hr hk hn hs hE H1 locs1 ls hl (by rw [← ht]; exact hB) hS1
theorem jx_callVl {Cn : String} {y : MethodName} {bytes : ByteArray} {maxL n index : Nat} {ret2 : Option FieldType} {rm : Room} {b : Nat} (As : List Value) {x1 : X} {r : Int64} (hM : ∀ sz' : Nat, Met l y (Cond.code y bytes maxL ret2 :: jx_ws) rm (jx_Pc env dyn rg sz' x (Value.ref b :: As)) (jx_Ql dyn x1 r (jx_A rg sz')) 0 0 (jx_A rg sz')) (hkv : jx_kV own index Cn y bytes maxL ret2 n) (hok : jx_ok rg env) (hrc : jx_rc env dyn b Cn) (hst : st = As.reverse ++ .ref b :: rest) (hn0 : As.length = n) (hcat : (rest.map fun v => v.category).sum ≤ 8) (hroom : jx_rm rm R maxL ce sl) (d : decode cc pc = .ok (.invokevirtual index, 3)) (k : jx_J l env dyn rg sz own nm cc nL ret R Qf ce sl (pc + 3) lv (.long r :: rest) x1) : jx_J l env dyn rg sz own nm cc nL ret R Qf ce sl pc lv st x := by
  intro p e s m args below meth c C hr hk hn hs hE H locs ls hl hD hS
  subst hst
  have hA : ∀ q, jx_A rg H.size q → jx_A rg sz q := fun q h => h.elim Or.inl (fun h => Or.inr (Nat.le_trans (by rw [← hs]; exact hS.1) h))
  refine va_calll (va_runV (As := As) (rest := rest) C (hM H.size) (cwV n C.2.2.2.2 (jx_goodV hkv) rfl hroom.1.1 hroom.1.2 ⟨hkv.2.2.2.2.2.1, hkv.2.2.2.2.2.2⟩ hroom.2.1) ⟨fun a U g mk q => ⟨q.1, q.2.1, hok.1 _ _ _ _ _ q.2.2.1, q.2.2.2⟩, hrc _ _ _ _ hE hD, fun U hU hW => ⟨rfl, by rw [hU], hok.2 sz s U H locs hE hS hU hW.alike, by rw [hU]; exact hD⟩⟩ rfl hn0 hl.1 rfl (lv_room hcat) d ⟨hroom.2.2.1, hroom.2.2.2⟩) hS (fun q _ h => hA q h) hA (fun r1 u t H1 locs1 ht hvm hw hB hz1 hk1 hS1 => ?_)
  have hw : r1 = r := hw
  subst hw
  have hB : dyn x1 t.heap := hB
  exact k p e s m args below meth c C hr hk hn hs hE H1 locs1 ls hl (by rw [← ht]; exact hB) hS1
theorem jx_callSl {y : MethodName} {bytes : ByteArray} {maxL n index : Nat} {ret2 : Option FieldType} {rm : Room} (As : List Value) {x1 : X} {r : Int64} (hM : ∀ sz' : Nat, Met l y (Cond.code y bytes maxL ret2 :: jx_ws) rm (jx_Pc env dyn rg sz' x As) (jx_Ql dyn x1 r (jx_A rg sz')) 0 0 (jx_A rg sz')) (hkv : jx_kS own index y bytes maxL ret2 n) (hok : jx_ok rg env) (hst : st = As.reverse ++ rest) (hn0 : As.length = n) (hcat : (rest.map fun v => v.category).sum ≤ 8) (hroom : jx_rm rm R maxL ce sl) (d : decode cc pc = .ok (.invokestatic index, 3)) (k : jx_J l env dyn rg sz own nm cc nL ret R Qf ce sl (pc + 3) lv (.long r :: rest) x1) : jx_J l env dyn rg sz own nm cc nL ret R Qf ce sl pc lv st x := by
  intro p e s m args below meth c C hr hk hn hs hE H locs ls hl hD hS
  subst hst
  have hA : ∀ q, jx_A rg H.size q → jx_A rg sz q := fun q h => h.elim Or.inl (fun h => Or.inr (Nat.le_trans (by rw [← hs]; exact hS.1) h))
  refine va_calll (va_runS (As := As) (rest := rest) C (hM H.size) (va_cwS n C.2.2.2.2 (jx_goodS hkv) rfl hroom.1.1 hroom.1.2 hkv.2.2.2.2 hroom.2.1) ⟨fun a U g mk q => ⟨q.1, q.2.1, hok.1 _ _ _ _ _ q.2.2.1, q.2.2.2⟩, fun U hU hW => ⟨rfl, by rw [hU], hok.2 sz s U H locs hE hS hU hW.alike, by rw [hU]; exact hD⟩⟩ rfl hn0 hl.1 rfl (lv_room hcat) d ⟨hroom.2.2.1, hroom.2.2.2⟩) hS (fun q _ h => hA q h) hA (fun r1 u t H1 locs1 ht hvm hw hB hz1 hk1 hS1 => ?_)
  have hw : r1 = r := hw
  subst hw
  have hB : dyn x1 t.heap := hB
  exact k p e s m args below meth c C hr hk hn hs hE H1 locs1 ls hl (by rw [← ht]; exact hB) hS1
theorem jx_callVv {Cn : String} {y : MethodName} {bytes : ByteArray} {maxL n index : Nat} {ret2 : Option FieldType} {rm : Room} {b : Nat} (As : List Value) {x1 : X} (hM : ∀ sz' : Nat, Met l y (Cond.code y bytes maxL ret2 :: jx_ws) rm (jx_Pc env dyn rg sz' x (Value.ref b :: As)) (jx_Qv dyn x1 (jx_A rg sz')) 0 0 (jx_A rg sz')) (hkv : jx_kV own index Cn y bytes maxL ret2 n) (hok : jx_ok rg env) (hrc : jx_rc env dyn b Cn) (hst : st = As.reverse ++ .ref b :: rest) (hn0 : As.length = n) (hcat : (rest.map fun v => v.category).sum ≤ 8) (hroom : jx_rm rm R maxL ce sl) (d : decode cc pc = .ok (.invokevirtual index, 3)) (k : jx_J l env dyn rg sz own nm cc nL ret R Qf ce sl (pc + 3) lv (rest) x1) : jx_J l env dyn rg sz own nm cc nL ret R Qf ce sl pc lv st x := by
  intro p e s m args below meth c C hr hk hn hs hE H locs ls hl hD hS
  subst hst
  have hA : ∀ q, jx_A rg H.size q → jx_A rg sz q := fun q h => h.elim Or.inl (fun h => Or.inr (Nat.le_trans (by rw [← hs]; exact hS.1) h))
  refine va_callv (va_runV (As := As) (rest := rest) C (hM H.size) (cwV n C.2.2.2.2 (jx_goodV hkv) rfl hroom.1.1 hroom.1.2 ⟨hkv.2.2.2.2.2.1, hkv.2.2.2.2.2.2⟩ hroom.2.1) ⟨fun a U g mk q => ⟨q.1, q.2.1, hok.1 _ _ _ _ _ q.2.2.1, q.2.2.2⟩, hrc _ _ _ _ hE hD, fun U hU hW => ⟨rfl, by rw [hU], hok.2 sz s U H locs hE hS hU hW.alike, by rw [hU]; exact hD⟩⟩ rfl hn0 hl.1 rfl (lv_room hcat) d ⟨hroom.2.2.1, hroom.2.2.2⟩) hS (fun q _ h => hA q h) hA (fun u t H1 locs1 ht hvm hw hB hz1 hk1 hS1 => ?_)
  have hB : dyn x1 t.heap := hB
  exact k p e s m args below meth c C hr hk hn hs hE H1 locs1 ls hl (by rw [← ht]; exact hB) hS1
theorem jx_callSv {y : MethodName} {bytes : ByteArray} {maxL n index : Nat} {ret2 : Option FieldType} {rm : Room} (As : List Value) {x1 : X} (hM : ∀ sz' : Nat, Met l y (Cond.code y bytes maxL ret2 :: jx_ws) rm (jx_Pc env dyn rg sz' x As) (jx_Qv dyn x1 (jx_A rg sz')) 0 0 (jx_A rg sz')) (hkv : jx_kS own index y bytes maxL ret2 n) (hok : jx_ok rg env) (hst : st = As.reverse ++ rest) (hn0 : As.length = n) (hcat : (rest.map fun v => v.category).sum ≤ 8) (hroom : jx_rm rm R maxL ce sl) (d : decode cc pc = .ok (.invokestatic index, 3)) (k : jx_J l env dyn rg sz own nm cc nL ret R Qf ce sl (pc + 3) lv (rest) x1) : jx_J l env dyn rg sz own nm cc nL ret R Qf ce sl pc lv st x := by
  intro p e s m args below meth c C hr hk hn hs hE H locs ls hl hD hS
  subst hst
  have hA : ∀ q, jx_A rg H.size q → jx_A rg sz q := fun q h => h.elim Or.inl (fun h => Or.inr (Nat.le_trans (by rw [← hs]; exact hS.1) h))
  refine va_callv (va_runS (As := As) (rest := rest) C (hM H.size) (va_cwS n C.2.2.2.2 (jx_goodS hkv) rfl hroom.1.1 hroom.1.2 hkv.2.2.2.2 hroom.2.1) ⟨fun a U g mk q => ⟨q.1, q.2.1, hok.1 _ _ _ _ _ q.2.2.1, q.2.2.2⟩, fun U hU hW => ⟨rfl, by rw [hU], hok.2 sz s U H locs hE hS hU hW.alike, by rw [hU]; exact hD⟩⟩ rfl hn0 hl.1 rfl (lv_room hcat) d ⟨hroom.2.2.1, hroom.2.2.2⟩) hS (fun q _ h => hA q h) hA (fun u t H1 locs1 ht hvm hw hB hz1 hk1 hS1 => ?_)
  have hB : dyn x1 t.heap := hB
  exact k p e s m args below meth c C hr hk hn hs hE H1 locs1 ls hl (by rw [← ht]; exact hB) hS1
theorem jx_callVr {Cn : String} {y : MethodName} {bytes : ByteArray} {maxL n index : Nat} {ret2 : Option FieldType} {rm : Room} {b : Nat} (As : List Value) {x1 : X} {r : Nat} (hM : ∀ sz' : Nat, Met l y (Cond.code y bytes maxL ret2 :: jx_ws) rm (jx_Pc env dyn rg sz' x (Value.ref b :: As)) (jx_Qr dyn x1 r (jx_A rg sz')) 0 0 (jx_A rg sz')) (hkv : jx_kV own index Cn y bytes maxL ret2 n) (hok : jx_ok rg env) (hrc : jx_rc env dyn b Cn) (hst : st = As.reverse ++ .ref b :: rest) (hn0 : As.length = n) (hcat : (rest.map fun v => v.category).sum ≤ 8) (hroom : jx_rm rm R maxL ce sl) (d : decode cc pc = .ok (.invokevirtual index, 3)) (k : jx_J l env dyn rg sz own nm cc nL ret R Qf ce sl (pc + 3) lv (.ref r :: rest) x1) : jx_J l env dyn rg sz own nm cc nL ret R Qf ce sl pc lv st x := by
  intro p e s m args below meth c C hr hk hn hs hE H locs ls hl hD hS
  subst hst
  have hA : ∀ q, jx_A rg H.size q → jx_A rg sz q := fun q h => h.elim Or.inl (fun h => Or.inr (Nat.le_trans (by rw [← hs]; exact hS.1) h))
  refine va_callr (va_runV (As := As) (rest := rest) C (hM H.size) (cwV n C.2.2.2.2 (jx_goodV hkv) rfl hroom.1.1 hroom.1.2 ⟨hkv.2.2.2.2.2.1, hkv.2.2.2.2.2.2⟩ hroom.2.1) ⟨fun a U g mk q => ⟨q.1, q.2.1, hok.1 _ _ _ _ _ q.2.2.1, q.2.2.2⟩, hrc _ _ _ _ hE hD, fun U hU hW => ⟨rfl, by rw [hU], hok.2 sz s U H locs hE hS hU hW.alike, by rw [hU]; exact hD⟩⟩ rfl hn0 hl.1 rfl (lv_room hcat) d ⟨hroom.2.2.1, hroom.2.2.2⟩) hS (fun q _ h => hA q h) hA (fun u r1 t H1 locs1 ht hvm hw hB hz1 hk1 hS1 => ?_)
  have hw2 : r1 = r := hB.1
  subst hw2
  have hB : dyn x1 t.heap := hB.2
  exact k p e s m args below meth c C hr hk hn hs hE H1 locs1 ls hl (by rw [← ht]; exact hB) hS1
theorem jx_callSr {y : MethodName} {bytes : ByteArray} {maxL n index : Nat} {ret2 : Option FieldType} {rm : Room} (As : List Value) {x1 : X} {r : Nat} (hM : ∀ sz' : Nat, Met l y (Cond.code y bytes maxL ret2 :: jx_ws) rm (jx_Pc env dyn rg sz' x As) (jx_Qr dyn x1 r (jx_A rg sz')) 0 0 (jx_A rg sz')) (hkv : jx_kS own index y bytes maxL ret2 n) (hok : jx_ok rg env) (hst : st = As.reverse ++ rest) (hn0 : As.length = n) (hcat : (rest.map fun v => v.category).sum ≤ 8) (hroom : jx_rm rm R maxL ce sl) (d : decode cc pc = .ok (.invokestatic index, 3)) (k : jx_J l env dyn rg sz own nm cc nL ret R Qf ce sl (pc + 3) lv (.ref r :: rest) x1) : jx_J l env dyn rg sz own nm cc nL ret R Qf ce sl pc lv st x := by
  intro p e s m args below meth c C hr hk hn hs hE H locs ls hl hD hS
  subst hst
  have hA : ∀ q, jx_A rg H.size q → jx_A rg sz q := fun q h => h.elim Or.inl (fun h => Or.inr (Nat.le_trans (by rw [← hs]; exact hS.1) h))
  refine va_callr (va_runS (As := As) (rest := rest) C (hM H.size) (va_cwS n C.2.2.2.2 (jx_goodS hkv) rfl hroom.1.1 hroom.1.2 hkv.2.2.2.2 hroom.2.1) ⟨fun a U g mk q => ⟨q.1, q.2.1, hok.1 _ _ _ _ _ q.2.2.1, q.2.2.2⟩, fun U hU hW => ⟨rfl, by rw [hU], hok.2 sz s U H locs hE hS hU hW.alike, by rw [hU]; exact hD⟩⟩ rfl hn0 hl.1 rfl (lv_room hcat) d ⟨hroom.2.2.1, hroom.2.2.2⟩) hS (fun q _ h => hA q h) hA (fun u r1 t H1 locs1 ht hvm hw hB hz1 hk1 hS1 => ?_)
  have hw2 : r1 = r := hB.1
  subst hw2
  have hB : dyn x1 t.heap := hB.2
  exact k p e s m args below meth c C hr hk hn hs hE H1 locs1 ls hl (by rw [← ht]; exact hB) hS1
end JX
end
section
/-! the words of the tables, one row each that is used -/
theorem fl_X4_9 : Cond.fieldLink RX4 9 "LampVote$Tide" "words" "[I" ∈ jx_ws := (jx_t1 (List.mem_of_getElem? (i := 39) rfl) rfl)
theorem fl_X4_15 : Cond.fieldLink RX4 15 "LampVote$Tide" "amounts" "[I" ∈ jx_ws := (jx_t1 (List.mem_of_getElem? (i := 40) rfl) rfl)
theorem fl_X4_18 : Cond.fieldLink RX4 18 "LampVote$Tide" "ends" "[I" ∈ jx_ws := (jx_t1 (List.mem_of_getElem? (i := 41) rfl) rfl)
theorem fl_X4_21 : Cond.fieldLink RX4 21 "LampVote$Tide" "code" "[I" ∈ jx_ws := (jx_t1 (List.mem_of_getElem? (i := 42) rfl) rfl)
theorem fl_X1_71 : Cond.fieldLink RX1 71 "LampVote$Canal" "places" "I" ∈ jx_ws := (jx_t1 (List.mem_of_getElem? (i := 57) rfl) rfl)
theorem fl_X2_40 : Cond.fieldLink RX2 40 "LampVote$Canal" "places" "I" ∈ jx_ws := (jx_t1 (List.mem_of_getElem? (i := 58) rfl) rfl)
theorem fl_X5_78 : Cond.fieldLink RX5 78 "LampVote$Canal" "places" "I" ∈ jx_ws := (jx_t1 (List.mem_of_getElem? (i := 59) rfl) rfl)
theorem fl_X1_11 : Cond.fieldLink RX1 11 "LampVote$Canal" "place" "[[I" ∈ jx_ws := (jx_t1 (List.mem_of_getElem? (i := 60) rfl) rfl)
theorem fl_X5_93 : Cond.fieldLink RX5 93 "LampVote$Canal" "place" "[[I" ∈ jx_ws := (jx_t1 (List.mem_of_getElem? (i := 61) rfl) rfl)
theorem fl_X2_100 : Cond.fieldLink RX2 100 "LampVote$Canal" "place" "[[I" ∈ jx_ws := (jx_t1 (List.mem_of_getElem? (i := 62) rfl) rfl)
theorem fl_X1_16 : Cond.fieldLink RX1 16 "LampVote$Canal" "minute" "I" ∈ jx_ws := (jx_t1 (List.mem_of_getElem? (i := 63) rfl) rfl)
theorem fl_X2_45 : Cond.fieldLink RX2 45 "LampVote$Canal" "minute" "I" ∈ jx_ws := (jx_t1 (List.mem_of_getElem? (i := 64) rfl) rfl)
theorem fl_X5_97 : Cond.fieldLink RX5 97 "LampVote$Canal" "minute" "I" ∈ jx_ws := (jx_t1 (List.mem_of_getElem? (i := 65) rfl) rfl)
theorem fl_X1_20 : Cond.fieldLink RX1 20 "LampVote$Canal" "voters" "I" ∈ jx_ws := (jx_t1 (List.mem_of_getElem? (i := 66) rfl) rfl)
theorem fl_X5_75 : Cond.fieldLink RX5 75 "LampVote$Canal" "voters" "I" ∈ jx_ws := (jx_t1 (List.mem_of_getElem? (i := 67) rfl) rfl)
theorem fl_X2_74 : Cond.fieldLink RX2 74 "LampVote$Canal" "voters" "I" ∈ jx_ws := (jx_t1 (List.mem_of_getElem? (i := 68) rfl) rfl)
theorem fl_X1_23 : Cond.fieldLink RX1 23 "LampVote$Canal" "voter" "[[I" ∈ jx_ws := (jx_t1 (List.mem_of_getElem? (i := 69) rfl) rfl)
theorem fl_X2_55 : Cond.fieldLink RX2 55 "LampVote$Canal" "voter" "[[I" ∈ jx_ws := (jx_t1 (List.mem_of_getElem? (i := 70) rfl) rfl)
theorem fl_X0_42 : Cond.fieldLink RX0 42 "LampVote$Canal" "voter" "[[I" ∈ jx_ws := (jx_t1 (List.mem_of_getElem? (i := 71) rfl) rfl)
theorem fl_X5_110 : Cond.fieldLink RX5 110 "LampVote$Canal" "voter" "[[I" ∈ jx_ws := (jx_t1 (List.mem_of_getElem? (i := 72) rfl) rfl)
theorem fl_X1_26 : Cond.fieldLink RX1 26 "LampVote$Canal" "signs" "I" ∈ jx_ws := (jx_t1 (List.mem_of_getElem? (i := 73) rfl) rfl)
theorem fl_X5_52 : Cond.fieldLink RX5 52 "LampVote$Canal" "signs" "I" ∈ jx_ws := (jx_t1 (List.mem_of_getElem? (i := 74) rfl) rfl)
theorem fl_X1_29 : Cond.fieldLink RX1 29 "LampVote$Canal" "tape" "[I" ∈ jx_ws := (jx_t1 (List.mem_of_getElem? (i := 75) rfl) rfl)
theorem fl_X5_56 : Cond.fieldLink RX5 56 "LampVote$Canal" "tape" "[I" ∈ jx_ws := (jx_t1 (List.mem_of_getElem? (i := 76) rfl) rfl)
theorem fl_X1_33 : Cond.fieldLink RX1 33 "LampVote$Canal" "tides" "I" ∈ jx_ws := (jx_t1 (List.mem_of_getElem? (i := 77) rfl) rfl)
theorem fl_X5_60 : Cond.fieldLink RX5 60 "LampVote$Canal" "tides" "I" ∈ jx_ws := (jx_t1 (List.mem_of_getElem? (i := 78) rfl) rfl)
theorem fl_X1_39 : Cond.fieldLink RX1 39 "LampVote$Canal" "newest" "LLampVote$Tide;" ∈ jx_ws := (jx_t1 (List.mem_of_getElem? (i := 79) rfl) rfl)
theorem fl_X5_71 : Cond.fieldLink RX5 71 "LampVote$Canal" "newest" "LLampVote$Tide;" ∈ jx_ws := (jx_t1 (List.mem_of_getElem? (i := 80) rfl) rfl)
theorem fl_X1_43 : Cond.fieldLink RX1 43 "LampVote$Canal" "seen" "I" ∈ jx_ws := (jx_t1 (List.mem_of_getElem? (i := 81) rfl) rfl)
theorem fl_X2_137 : Cond.fieldLink RX2 137 "LampVote$Canal" "seen" "I" ∈ jx_ws := (jx_t1 (List.mem_of_getElem? (i := 82) rfl) rfl)
theorem fl_X5_199 : Cond.fieldLink RX5 199 "LampVote$Canal" "seen" "I" ∈ jx_ws := (jx_t1 (List.mem_of_getElem? (i := 83) rfl) rfl)
theorem fl_X1_46 : Cond.fieldLink RX1 46 "LampVote$Canal" "seenPlace" "[I" ∈ jx_ws := (jx_t1 (List.mem_of_getElem? (i := 84) rfl) rfl)
theorem fl_X2_140 : Cond.fieldLink RX2 140 "LampVote$Canal" "seenPlace" "[I" ∈ jx_ws := (jx_t1 (List.mem_of_getElem? (i := 85) rfl) rfl)
theorem fl_X5_202 : Cond.fieldLink RX5 202 "LampVote$Canal" "seenPlace" "[I" ∈ jx_ws := (jx_t1 (List.mem_of_getElem? (i := 86) rfl) rfl)
theorem fl_X1_49 : Cond.fieldLink RX1 49 "LampVote$Canal" "seenLamps" "[I" ∈ jx_ws := (jx_t1 (List.mem_of_getElem? (i := 87) rfl) rfl)
theorem fl_X2_143 : Cond.fieldLink RX2 143 "LampVote$Canal" "seenLamps" "[I" ∈ jx_ws := (jx_t1 (List.mem_of_getElem? (i := 88) rfl) rfl)
theorem fl_X5_205 : Cond.fieldLink RX5 205 "LampVote$Canal" "seenLamps" "[I" ∈ jx_ws := (jx_t1 (List.mem_of_getElem? (i := 89) rfl) rfl)
theorem fl_X1_52 : Cond.fieldLink RX1 52 "LampVote$Canal" "tales" "I" ∈ jx_ws := (jx_t1 (List.mem_of_getElem? (i := 90) rfl) rfl)
theorem fl_X2_152 : Cond.fieldLink RX2 152 "LampVote$Canal" "tales" "I" ∈ jx_ws := (jx_t1 (List.mem_of_getElem? (i := 91) rfl) rfl)
theorem fl_X5_217 : Cond.fieldLink RX5 217 "LampVote$Canal" "tales" "I" ∈ jx_ws := (jx_t1 (List.mem_of_getElem? (i := 92) rfl) rfl)
theorem fl_X1_55 : Cond.fieldLink RX1 55 "LampVote$Canal" "taleVoter" "[I" ∈ jx_ws := (jx_t1 (List.mem_of_getElem? (i := 93) rfl) rfl)
theorem fl_X2_155 : Cond.fieldLink RX2 155 "LampVote$Canal" "taleVoter" "[I" ∈ jx_ws := (jx_t1 (List.mem_of_getElem? (i := 94) rfl) rfl)
theorem fl_X5_220 : Cond.fieldLink RX5 220 "LampVote$Canal" "taleVoter" "[I" ∈ jx_ws := (jx_t1 (List.mem_of_getElem? (i := 95) rfl) rfl)
theorem fl_X1_58 : Cond.fieldLink RX1 58 "LampVote$Canal" "taleMinute" "[I" ∈ jx_ws := (jx_t1 (List.mem_of_getElem? (i := 96) rfl) rfl)
theorem fl_X2_158 : Cond.fieldLink RX2 158 "LampVote$Canal" "taleMinute" "[I" ∈ jx_ws := (jx_t1 (List.mem_of_getElem? (i := 97) rfl) rfl)
theorem fl_X5_223 : Cond.fieldLink RX5 223 "LampVote$Canal" "taleMinute" "[I" ∈ jx_ws := (jx_t1 (List.mem_of_getElem? (i := 98) rfl) rfl)
theorem fl_X1_61 : Cond.fieldLink RX1 61 "LampVote$Canal" "talePlace" "[I" ∈ jx_ws := (jx_t1 (List.mem_of_getElem? (i := 99) rfl) rfl)
theorem fl_X2_164 : Cond.fieldLink RX2 164 "LampVote$Canal" "talePlace" "[I" ∈ jx_ws := (jx_t1 (List.mem_of_getElem? (i := 100) rfl) rfl)
theorem fl_X5_226 : Cond.fieldLink RX5 226 "LampVote$Canal" "talePlace" "[I" ∈ jx_ws := (jx_t1 (List.mem_of_getElem? (i := 101) rfl) rfl)
theorem fl_X1_64 : Cond.fieldLink RX1 64 "LampVote$Canal" "here" "[I" ∈ jx_ws := (jx_t1 (List.mem_of_getElem? (i := 102) rfl) rfl)
theorem fl_X2_36 : Cond.fieldLink RX2 36 "LampVote$Night" "canal" "LLampVote$Canal;" ∈ jx_ws := (jx_t1 (List.mem_of_getElem? (i := 145) rfl) rfl)
theorem fl_X2_11 : Cond.fieldLink RX2 11 "LampVote$Night" "goal" "[[I" ∈ jx_ws := (jx_t1 (List.mem_of_getElem? (i := 146) rfl) rfl)
theorem fl_X2_16 : Cond.fieldLink RX2 16 "LampVote$Night" "filled" "[[I" ∈ jx_ws := (jx_t1 (List.mem_of_getElem? (i := 147) rfl) rfl)
theorem fl_X2_19 : Cond.fieldLink RX2 19 "LampVote$Night" "weight" "[I" ∈ jx_ws := (jx_t1 (List.mem_of_getElem? (i := 148) rfl) rfl)
theorem fl_X2_23 : Cond.fieldLink RX2 23 "LampVote$Night" "lamps" "[I" ∈ jx_ws := (jx_t1 (List.mem_of_getElem? (i := 149) rfl) rfl)
theorem fl_X2_26 : Cond.fieldLink RX2 26 "LampVote$Night" "stick" "I" ∈ jx_ws := (jx_t1 (List.mem_of_getElem? (i := 150) rfl) rfl)
theorem fl_X2_30 : Cond.fieldLink RX2 30 "LampVote$Night" "lie" "[I" ∈ jx_ws := (jx_t1 (List.mem_of_getElem? (i := 151) rfl) rfl)
theorem fl_X5_148 : Cond.fieldLink RX5 148 "LampVote$Night" "lie" "[I" ∈ jx_ws := (jx_t1 (List.mem_of_getElem? (i := 152) rfl) rfl)
theorem fl_X2_33 : Cond.fieldLink RX2 33 "LampVote$Night" "worth" "[I" ∈ jx_ws := (jx_t1 (List.mem_of_getElem? (i := 153) rfl) rfl)
theorem fl_X5_151 : Cond.fieldLink RX5 151 "LampVote$Night" "worth" "[I" ∈ jx_ws := (jx_t1 (List.mem_of_getElem? (i := 154) rfl) rfl)
theorem fl_X0_19 : Cond.fieldLink RX0 19 "LampVote$Acts" "canal" "LLampVote$Canal;" ∈ jx_ws := (jx_t1 (List.mem_of_getElem? (i := 178) rfl) rfl)
theorem fl_X0_11 : Cond.fieldLink RX0 11 "LampVote$Acts" "bodies" "[I" ∈ jx_ws := (jx_t1 (List.mem_of_getElem? (i := 179) rfl) rfl)
theorem fl_X5_242 : Cond.fieldLink RX5 242 "LampVote$Acts" "bodies" "[I" ∈ jx_ws := (jx_t1 (List.mem_of_getElem? (i := 180) rfl) rfl)
theorem fl_X0_15 : Cond.fieldLink RX0 15 "LampVote$Acts" "ran" "I" ∈ jx_ws := (jx_t1 (List.mem_of_getElem? (i := 181) rfl) rfl)
theorem fl_X5_251 : Cond.fieldLink RX5 251 "LampVote$Acts" "ran" "I" ∈ jx_ws := (jx_t1 (List.mem_of_getElem? (i := 182) rfl) rfl)
theorem fl_X3_11 : Cond.fieldLink RX3 11 "LampVote$Reader" "words" "[I" ∈ jx_ws := (jx_t1 (List.mem_of_getElem? (i := 196) rfl) rfl)
theorem fl_X3_15 : Cond.fieldLink RX3 15 "LampVote$Reader" "amounts" "[I" ∈ jx_ws := (jx_t1 (List.mem_of_getElem? (i := 197) rfl) rfl)
theorem fl_X3_18 : Cond.fieldLink RX3 18 "LampVote$Reader" "ends" "[I" ∈ jx_ws := (jx_t1 (List.mem_of_getElem? (i := 198) rfl) rfl)
theorem fl_X3_21 : Cond.fieldLink RX3 21 "LampVote$Reader" "code" "[I" ∈ jx_ws := (jx_t1 (List.mem_of_getElem? (i := 199) rfl) rfl)
theorem fl_X3_24 : Cond.fieldLink RX3 24 "LampVote$Reader" "pending" "[I" ∈ jx_ws := (jx_t1 (List.mem_of_getElem? (i := 200) rfl) rfl)
theorem fl_X3_27 : Cond.fieldLink RX3 27 "LampVote$Reader" "clauses" "I" ∈ jx_ws := (jx_t1 (List.mem_of_getElem? (i := 201) rfl) rfl)
theorem fl_X3_31 : Cond.fieldLink RX3 31 "LampVote$Reader" "codes" "I" ∈ jx_ws := (jx_t1 (List.mem_of_getElem? (i := 202) rfl) rfl)
theorem fl_X3_34 : Cond.fieldLink RX3 34 "LampVote$Reader" "pended" "I" ∈ jx_ws := (jx_t1 (List.mem_of_getElem? (i := 203) rfl) rfl)
theorem fl_X3_37 : Cond.fieldLink RX3 37 "LampVote$Reader" "open" "I" ∈ jx_ws := (jx_t1 (List.mem_of_getElem? (i := 204) rfl) rfl)
theorem fl_X3_40 : Cond.fieldLink RX3 40 "LampVote$Reader" "due" "I" ∈ jx_ws := (jx_t1 (List.mem_of_getElem? (i := 205) rfl) rfl)
theorem fl_X3_101 : Cond.fieldLink RX3 101 "LampVote$Reader" "word" "I" ∈ jx_ws := (jx_t1 (List.mem_of_getElem? (i := 206) rfl) rfl)
theorem fl_X3_104 : Cond.fieldLink RX3 104 "LampVote$Reader" "letter" "I" ∈ jx_ws := (jx_t1 (List.mem_of_getElem? (i := 207) rfl) rfl)
theorem fl_X3_127 : Cond.fieldLink RX3 127 "LampVote$Reader" "subject" "I" ∈ jx_ws := (jx_t1 (List.mem_of_getElem? (i := 208) rfl) rfl)
theorem fl_X3_132 : Cond.fieldLink RX3 132 "LampVote$Reader" "relation" "I" ∈ jx_ws := (jx_t1 (List.mem_of_getElem? (i := 209) rfl) rfl)
theorem fl_X3_114 : Cond.fieldLink RX3 114 "LampVote$Reader" "number" "I" ∈ jx_ws := (jx_t1 (List.mem_of_getElem? (i := 210) rfl) rfl)
theorem fl_X5_12 : Cond.fieldLink RX5 12 "LampVote" "now" "LLampVote$Canal;" ∈ jx_ws := (jx_t2 (List.mem_of_getElem? (i := 2) rfl) rfl)
theorem fl_X5_18 : Cond.fieldLink RX5 18 "LampVote" "image" "LLampVote$Canal;" ∈ jx_ws := (jx_t2 (List.mem_of_getElem? (i := 3) rfl) rfl)
theorem fl_X5_26 : Cond.fieldLink RX5 26 "LampVote" "night" "LLampVote$Night;" ∈ jx_ws := (jx_t2 (List.mem_of_getElem? (i := 4) rfl) rfl)
theorem fl_X5_33 : Cond.fieldLink RX5 33 "LampVote" "acts" "LLampVote$Acts;" ∈ jx_ws := (jx_t2 (List.mem_of_getElem? (i := 5) rfl) rfl)
theorem fl_X5_40 : Cond.fieldLink RX5 40 "LampVote" "reader" "LLampVote$Reader;" ∈ jx_ws := (jx_t2 (List.mem_of_getElem? (i := 6) rfl) rfl)
theorem fl_X5_44 : Cond.fieldLink RX5 44 "LampVote" "imaged" "Z" ∈ jx_ws := (jx_t2 (List.mem_of_getElem? (i := 7) rfl) rfl)
theorem fl_X3_90 : Cond.fieldLink RX3 90 "LampVote$Reader" "STARTS" "[I" ∈ jx_ws := (jx_t2 (List.mem_of_getElem? (i := 44) rfl) rfl)
theorem cn_X4_28 : Cond.constantLong RX4 28 (-2 : Int64) ∈ jx_ws := (jx_t3 (List.mem_of_getElem? (i := 44) rfl) rfl)
theorem cn_X5_175 : Cond.constantLong RX5 175 (-9223372036854775808 : Int64) ∈ jx_ws := (jx_t3 (List.mem_of_getElem? (i := 213) rfl) rfl)
theorem cn_X2_114 : Cond.constant RX2 114 (-2147483648 : Int32) ∈ jx_ws := (jx_t3 (List.mem_of_getElem? (i := 234) rfl) rfl)
theorem fl_X0_32 : Cond.fieldLink RX0 32 "LampVote$Acts" "BODIES" "[I" ∈ jx_ws := (jx_t4 (List.mem_of_getElem? (i := 83) rfl) rfl)
theorem fl_X0_29 : Cond.fieldLink RX0 29 "LampVote$Acts" "ABOVE" "[I" ∈ jx_ws := (jx_t4 (List.mem_of_getElem? (i := 85) rfl) rfl)
theorem fl_X6_9 : Cond.fieldLink RX6 9 "LampVoteModel" "s" "[I" ∈ jx_ws := (jx_t4 (List.mem_of_getElem? (i := 142) rfl) rfl)
theorem fl_X6_15 : Cond.fieldLink RX6 15 "LampVoteModel" "image" "[I" ∈ jx_ws := (jx_t4 (List.mem_of_getElem? (i := 143) rfl) rfl)
theorem fl_X6_264 : Cond.fieldLink RX6 264 "LampVoteModel" "hasImage" "Z" ∈ jx_ws := (jx_t4 (List.mem_of_getElem? (i := 144) rfl) rfl)
theorem fl_X6_78 : Cond.fieldLink RX6 78 "LampVoteModel" "act" "I" ∈ jx_ws := (jx_t4 (List.mem_of_getElem? (i := 145) rfl) rfl)
theorem fl_X6_52 : Cond.fieldLink RX6 52 "LampVoteModel" "spot" "I" ∈ jx_ws := (jx_t4 (List.mem_of_getElem? (i := 146) rfl) rfl)
theorem fl_X6_55 : Cond.fieldLink RX6 55 "LampVoteModel" "end" "I" ∈ jx_ws := (jx_t4 (List.mem_of_getElem? (i := 147) rfl) rfl)
theorem fl_X6_58 : Cond.fieldLink RX6 58 "LampVoteModel" "isWrong" "Z" ∈ jx_ws := (jx_t4 (List.mem_of_getElem? (i := 148) rfl) rfl)
theorem fl_X6_81 : Cond.fieldLink RX6 81 "LampVoteModel" "open" "I" ∈ jx_ws := (jx_t4 (List.mem_of_getElem? (i := 149) rfl) rfl)
theorem fl_X6_18 : Cond.fieldLink RX6 18 "LampVoteModel" "by" "[I" ∈ jx_ws := (jx_t4 (List.mem_of_getElem? (i := 150) rfl) rfl)
theorem fl_X6_21 : Cond.fieldLink RX6 21 "LampVoteModel" "truths" "[Z" ∈ jx_ws := (jx_t4 (List.mem_of_getElem? (i := 151) rfl) rfl)
theorem fl_X6_129 : Cond.fieldLink RX6 129 "LampVoteModel" "isSide" "Z" ∈ jx_ws := (jx_t4 (List.mem_of_getElem? (i := 152) rfl) rfl)
theorem fl_X6_132 : Cond.fieldLink RX6 132 "LampVoteModel" "isHeld" "Z" ∈ jx_ws := (jx_t4 (List.mem_of_getElem? (i := 153) rfl) rfl)
theorem fl_X6_135 : Cond.fieldLink RX6 135 "LampVoteModel" "oiled" "I" ∈ jx_ws := (jx_t4 (List.mem_of_getElem? (i := 154) rfl) rfl)
theorem fl_X6_138 : Cond.fieldLink RX6 138 "LampVoteModel" "weighed" "I" ∈ jx_ws := (jx_t4 (List.mem_of_getElem? (i := 155) rfl) rfl)
theorem fl_X6_25 : Cond.fieldLink RX6 25 "LampVoteModel" "going" "[I" ∈ jx_ws := (jx_t4 (List.mem_of_getElem? (i := 156) rfl) rfl)
theorem fl_X6_28 : Cond.fieldLink RX6 28 "LampVoteModel" "weights" "[I" ∈ jx_ws := (jx_t4 (List.mem_of_getElem? (i := 157) rfl) rfl)
theorem fl_X6_31 : Cond.fieldLink RX6 31 "LampVoteModel" "lying" "[I" ∈ jx_ws := (jx_t4 (List.mem_of_getElem? (i := 158) rfl) rfl)
theorem fl_X6_34 : Cond.fieldLink RX6 34 "LampVoteModel" "counts" "[Z" ∈ jx_ws := (jx_t4 (List.mem_of_getElem? (i := 159) rfl) rfl)
theorem fl_X6_212 : Cond.fieldLink RX6 212 "LampVoteModel" "bestPlace" "I" ∈ jx_ws := (jx_t4 (List.mem_of_getElem? (i := 160) rfl) rfl)
theorem fl_X6_218 : Cond.fieldLink RX6 218 "LampVoteModel" "bestMore" "I" ∈ jx_ws := (jx_t4 (List.mem_of_getElem? (i := 161) rfl) rfl)
theorem fl_X6_37 : Cond.fieldLink RX6 37 "LampVoteModel" "bodies" "[I" ∈ jx_ws := (jx_t4 (List.mem_of_getElem? (i := 162) rfl) rfl)
theorem fl_X6_227 : Cond.fieldLink RX6 227 "LampVoteModel" "ran" "I" ∈ jx_ws := (jx_t4 (List.mem_of_getElem? (i := 163) rfl) rfl)
theorem fl_X6_236 : Cond.fieldLink RX6 236 "LampVoteModel" "kind" "I" ∈ jx_ws := (jx_t4 (List.mem_of_getElem? (i := 164) rfl) rfl)
theorem fl_X6_233 : Cond.fieldLink RX6 233 "LampVoteModel" "number" "I" ∈ jx_ws := (jx_t4 (List.mem_of_getElem? (i := 165) rfl) rfl)
theorem fl_X6_249 : Cond.fieldLink RX6 249 "LampVoteModel" "tellsV" "I" ∈ jx_ws := (jx_t4 (List.mem_of_getElem? (i := 166) rfl) rfl)
theorem cn_X6_206 : Cond.constantLong RX6 206 (-9223372036854775808 : Int64) ∈ jx_ws := (jx_t5 (List.mem_of_getElem? (i := 186) rfl) rfl)
theorem il_X0_k : ∀ k, k < 3 → u_lay RX0 TX0 k ∈ jx_ws := fun k hk => match k, hk with
  | 0, _ => (jx_t1 (List.mem_of_getElem? (i := 183) rfl) rfl)
  | 1, _ => (jx_t1 (List.mem_of_getElem? (i := 185) rfl) rfl)
  | 2, _ => (jx_t1 (List.mem_of_getElem? (i := 187) rfl) rfl)
  | n + 3, h => absurd h (by omega)
theorem il_X0 : ∀ w ∈ u_ws RX0 TX0 3, w ∈ jx_ws := fun w h => by
  obtain ⟨k, hk, rfl⟩ := List.mem_map.mp h
  exact il_X0_k k (List.mem_range.mp hk)
theorem il_X1_k : ∀ k, k < 17 → u_lay RX1 TX1 k ∈ jx_ws := fun k hk => match k, hk with
  | 0, _ => (jx_t1 (List.mem_of_getElem? (i := 103) rfl) rfl)
  | 1, _ => (jx_t1 (List.mem_of_getElem? (i := 105) rfl) rfl)
  | 2, _ => (jx_t1 (List.mem_of_getElem? (i := 107) rfl) rfl)
  | 3, _ => (jx_t1 (List.mem_of_getElem? (i := 109) rfl) rfl)
  | 4, _ => (jx_t1 (List.mem_of_getElem? (i := 111) rfl) rfl)
  | 5, _ => (jx_t1 (List.mem_of_getElem? (i := 113) rfl) rfl)
  | 6, _ => (jx_t1 (List.mem_of_getElem? (i := 115) rfl) rfl)
  | 7, _ => (jx_t1 (List.mem_of_getElem? (i := 117) rfl) rfl)
  | 8, _ => (jx_t1 (List.mem_of_getElem? (i := 119) rfl) rfl)
  | 9, _ => (jx_t1 (List.mem_of_getElem? (i := 121) rfl) rfl)
  | 10, _ => (jx_t1 (List.mem_of_getElem? (i := 123) rfl) rfl)
  | 11, _ => (jx_t1 (List.mem_of_getElem? (i := 125) rfl) rfl)
  | 12, _ => (jx_t1 (List.mem_of_getElem? (i := 127) rfl) rfl)
  | 13, _ => (jx_t1 (List.mem_of_getElem? (i := 129) rfl) rfl)
  | 14, _ => (jx_t1 (List.mem_of_getElem? (i := 131) rfl) rfl)
  | 15, _ => (jx_t1 (List.mem_of_getElem? (i := 133) rfl) rfl)
  | 16, _ => (jx_t1 (List.mem_of_getElem? (i := 135) rfl) rfl)
  | n + 17, h => absurd h (by omega)
theorem il_X1 : ∀ w ∈ u_ws RX1 TX1 17, w ∈ jx_ws := fun w h => by
  obtain ⟨k, hk, rfl⟩ := List.mem_map.mp h
  exact il_X1_k k (List.mem_range.mp hk)
theorem il_X2_k : ∀ k, k < 8 → u_lay RX2 TX2 k ∈ jx_ws := fun k hk => match k, hk with
  | 0, _ => (jx_t1 (List.mem_of_getElem? (i := 155) rfl) rfl)
  | 1, _ => (jx_t1 (List.mem_of_getElem? (i := 157) rfl) rfl)
  | 2, _ => (jx_t1 (List.mem_of_getElem? (i := 159) rfl) rfl)
  | 3, _ => (jx_t1 (List.mem_of_getElem? (i := 161) rfl) rfl)
  | 4, _ => (jx_t1 (List.mem_of_getElem? (i := 163) rfl) rfl)
  | 5, _ => (jx_t1 (List.mem_of_getElem? (i := 165) rfl) rfl)
  | 6, _ => (jx_t1 (List.mem_of_getElem? (i := 167) rfl) rfl)
  | 7, _ => (jx_t1 (List.mem_of_getElem? (i := 169) rfl) rfl)
  | n + 8, h => absurd h (by omega)
theorem il_X2 : ∀ w ∈ u_ws RX2 TX2 8, w ∈ jx_ws := fun w h => by
  obtain ⟨k, hk, rfl⟩ := List.mem_map.mp h
  exact il_X2_k k (List.mem_range.mp hk)
theorem il_X3_k : ∀ k, k < 15 → u_lay RX3 TX3 k ∈ jx_ws := fun k hk => match k, hk with
  | 0, _ => (jx_t1 (List.mem_of_getElem? (i := 211) rfl) rfl)
  | 1, _ => (jx_t1 (List.mem_of_getElem? (i := 213) rfl) rfl)
  | 2, _ => (jx_t1 (List.mem_of_getElem? (i := 215) rfl) rfl)
  | 3, _ => (jx_t1 (List.mem_of_getElem? (i := 217) rfl) rfl)
  | 4, _ => (jx_t1 (List.mem_of_getElem? (i := 219) rfl) rfl)
  | 5, _ => (jx_t1 (List.mem_of_getElem? (i := 221) rfl) rfl)
  | 6, _ => (jx_t1 (List.mem_of_getElem? (i := 223) rfl) rfl)
  | 7, _ => (jx_t1 (List.mem_of_getElem? (i := 225) rfl) rfl)
  | 8, _ => (jx_t1 (List.mem_of_getElem? (i := 227) rfl) rfl)
  | 9, _ => (jx_t1 (List.mem_of_getElem? (i := 229) rfl) rfl)
  | 10, _ => (jx_t1 (List.mem_of_getElem? (i := 231) rfl) rfl)
  | 11, _ => (jx_t1 (List.mem_of_getElem? (i := 233) rfl) rfl)
  | 12, _ => (jx_t1 (List.mem_of_getElem? (i := 235) rfl) rfl)
  | 13, _ => (jx_t1 (List.mem_of_getElem? (i := 237) rfl) rfl)
  | 14, _ => (jx_t1 (List.mem_of_getElem? (i := 239) rfl) rfl)
  | n + 15, h => absurd h (by omega)
theorem il_X3 : ∀ w ∈ u_ws RX3 TX3 15, w ∈ jx_ws := fun w h => by
  obtain ⟨k, hk, rfl⟩ := List.mem_map.mp h
  exact il_X3_k k (List.mem_range.mp hk)
theorem il_X4_k : ∀ k, k < 4 → u_lay RX4 TX4 k ∈ jx_ws := fun k hk => match k, hk with
  | 0, _ => (jx_t1 (List.mem_of_getElem? (i := 43) rfl) rfl)
  | 1, _ => (jx_t1 (List.mem_of_getElem? (i := 45) rfl) rfl)
  | 2, _ => (jx_t1 (List.mem_of_getElem? (i := 47) rfl) rfl)
  | 3, _ => (jx_t1 (List.mem_of_getElem? (i := 49) rfl) rfl)
  | n + 4, h => absurd h (by omega)
theorem il_X4 : ∀ w ∈ u_ws RX4 TX4 4, w ∈ jx_ws := fun w h => by
  obtain ⟨k, hk, rfl⟩ := List.mem_map.mp h
  exact il_X4_k k (List.mem_range.mp hk)
theorem il_X5_k : ∀ k, k < 6 → u_lay RX5 TX5 k ∈ jx_ws := fun k hk => match k, hk with
  | 0, _ => (jx_t2 (List.mem_of_getElem? (i := 8) rfl) rfl)
  | 1, _ => (jx_t2 (List.mem_of_getElem? (i := 10) rfl) rfl)
  | 2, _ => (jx_t2 (List.mem_of_getElem? (i := 12) rfl) rfl)
  | 3, _ => (jx_t2 (List.mem_of_getElem? (i := 14) rfl) rfl)
  | 4, _ => (jx_t2 (List.mem_of_getElem? (i := 16) rfl) rfl)
  | 5, _ => (jx_t2 (List.mem_of_getElem? (i := 18) rfl) rfl)
  | n + 6, h => absurd h (by omega)
theorem il_X5 : ∀ w ∈ u_ws RX5 TX5 6, w ∈ jx_ws := fun w h => by
  obtain ⟨k, hk, rfl⟩ := List.mem_map.mp h
  exact il_X5_k k (List.mem_range.mp hk)
theorem il_X6_k : ∀ k, k < 26 → u_lay RX6 TX6 k ∈ jx_ws := fun k hk => match k, hk with
  | 0, _ => (jx_t4 (List.mem_of_getElem? (i := 167) rfl) rfl)
  | 1, _ => (jx_t4 (List.mem_of_getElem? (i := 169) rfl) rfl)
  | 2, _ => (jx_t4 (List.mem_of_getElem? (i := 171) rfl) rfl)
  | 3, _ => (jx_t4 (List.mem_of_getElem? (i := 173) rfl) rfl)
  | 4, _ => (jx_t4 (List.mem_of_getElem? (i := 175) rfl) rfl)
  | 5, _ => (jx_t4 (List.mem_of_getElem? (i := 177) rfl) rfl)
  | 6, _ => (jx_t4 (List.mem_of_getElem? (i := 179) rfl) rfl)
  | 7, _ => (jx_t4 (List.mem_of_getElem? (i := 181) rfl) rfl)
  | 8, _ => (jx_t4 (List.mem_of_getElem? (i := 183) rfl) rfl)
  | 9, _ => (jx_t4 (List.mem_of_getElem? (i := 185) rfl) rfl)
  | 10, _ => (jx_t4 (List.mem_of_getElem? (i := 187) rfl) rfl)
  | 11, _ => (jx_t4 (List.mem_of_getElem? (i := 189) rfl) rfl)
  | 12, _ => (jx_t4 (List.mem_of_getElem? (i := 191) rfl) rfl)
  | 13, _ => (jx_t4 (List.mem_of_getElem? (i := 193) rfl) rfl)
  | 14, _ => (jx_t4 (List.mem_of_getElem? (i := 195) rfl) rfl)
  | 15, _ => (jx_t4 (List.mem_of_getElem? (i := 197) rfl) rfl)
  | 16, _ => (jx_t4 (List.mem_of_getElem? (i := 199) rfl) rfl)
  | 17, _ => (jx_t4 (List.mem_of_getElem? (i := 201) rfl) rfl)
  | 18, _ => (jx_t4 (List.mem_of_getElem? (i := 203) rfl) rfl)
  | 19, _ => (jx_t4 (List.mem_of_getElem? (i := 205) rfl) rfl)
  | 20, _ => (jx_t4 (List.mem_of_getElem? (i := 207) rfl) rfl)
  | 21, _ => (jx_t4 (List.mem_of_getElem? (i := 209) rfl) rfl)
  | 22, _ => (jx_t4 (List.mem_of_getElem? (i := 211) rfl) rfl)
  | 23, _ => (jx_t4 (List.mem_of_getElem? (i := 213) rfl) rfl)
  | 24, _ => (jx_t4 (List.mem_of_getElem? (i := 215) rfl) rfl)
  | 25, _ => (jx_t4 (List.mem_of_getElem? (i := 217) rfl) rfl)
  | n + 26, h => absurd h (by omega)
theorem il_X6 : ∀ w ∈ u_ws RX6 TX6 26, w ∈ jx_ws := fun w h => by
  obtain ⟨k, hk, rfl⟩ := List.mem_map.mp h
  exact il_X6_k k (List.mem_range.mp hk)
theorem kv_X1_67 : jx_kV RX1 67 RX1 yX1_dig cX1_dig 3 none 1 := ⟨(jx_t1 (List.mem_of_getElem? (i := 53) rfl) rfl), (jx_t1 (List.mem_of_getElem? (i := 54) rfl) rfl), (jx_t1 (List.mem_of_getElem? (i := 55) rfl) rfl), (jx_t1 (List.mem_of_getElem? (i := 2) rfl) rfl), (jx_t1 (List.mem_of_getElem? (i := 56) rfl) rfl), rfl, ⟨by decide +kernel, by decide +kernel, by decide +kernel⟩⟩
theorem kv_L_13 : jx_kV RL 13 RX5 yX5_feed cX5_feed 2 (some .int) 1 := ⟨(jx_t2 (List.mem_of_getElem? (i := 21) rfl) rfl), (jx_t2 (List.mem_of_getElem? (i := 22) rfl) rfl), (jx_t2 (List.mem_of_getElem? (i := 23) rfl) rfl), (jx_t1 (List.mem_of_getElem? (i := 1) rfl) rfl), (jx_t2 (List.mem_of_getElem? (i := 24) rfl) rfl), rfl, ⟨by decide +kernel, by decide +kernel, by decide +kernel⟩⟩
theorem ks_X5_48 : jx_kS RX5 48 yX5_within cX5_within 3 (some .boolean) 3 := ⟨(jx_t2 (List.mem_of_getElem? (i := 25) rfl) rfl), (jx_t2 (List.mem_of_getElem? (i := 26) rfl) rfl), (jx_t1 (List.mem_of_getElem? (i := 1) rfl) rfl), (jx_t2 (List.mem_of_getElem? (i := 27) rfl) rfl), ⟨by decide +kernel, by decide +kernel, by decide +kernel⟩⟩
theorem kv_L_18 : jx_kV RL 18 RX5 yX5_tide cX5_tide 2 (some .int) 0 := ⟨(jx_t2 (List.mem_of_getElem? (i := 28) rfl) rfl), (jx_t2 (List.mem_of_getElem? (i := 29) rfl) rfl), (jx_t2 (List.mem_of_getElem? (i := 30) rfl) rfl), (jx_t1 (List.mem_of_getElem? (i := 1) rfl) rfl), (jx_t2 (List.mem_of_getElem? (i := 31) rfl) rfl), rfl, ⟨by decide +kernel, by decide +kernel, by decide +kernel⟩⟩
theorem kv_X5_63 : jx_kV RX5 63 RX3 yX3_faultOf cX3_faultOf 4 (some .int) 2 := ⟨(jx_t2 (List.mem_of_getElem? (i := 32) rfl) rfl), (jx_t2 (List.mem_of_getElem? (i := 33) rfl) rfl), (jx_t2 (List.mem_of_getElem? (i := 34) rfl) rfl), (jx_t1 (List.mem_of_getElem? (i := 6) rfl) rfl), (jx_t2 (List.mem_of_getElem? (i := 35) rfl) rfl), rfl, ⟨by decide +kernel, by decide +kernel, by decide +kernel⟩⟩
theorem kv_X3_43 : jx_kV RX3 43 RX3 yX3_takes cX3_takes 2 (some .boolean) 1 := ⟨(jx_t2 (List.mem_of_getElem? (i := 36) rfl) rfl), (jx_t2 (List.mem_of_getElem? (i := 38) rfl) rfl), (jx_pv (jx_p1 (List.mem_of_getElem? (i := 0) rfl))), (jx_t1 (List.mem_of_getElem? (i := 6) rfl) rfl), (jx_t2 (List.mem_of_getElem? (i := 39) rfl) rfl), rfl, ⟨by decide +kernel, by decide +kernel, by decide +kernel⟩⟩
theorem kv_X3_62 : jx_kV RX3 62 RX3 yX3_takesWord cX3_takesWord 3 (some .boolean) 1 := ⟨(jx_t2 (List.mem_of_getElem? (i := 40) rfl) rfl), (jx_t2 (List.mem_of_getElem? (i := 42) rfl) rfl), (jx_pv (jx_p1 (List.mem_of_getElem? (i := 1) rfl))), (jx_t1 (List.mem_of_getElem? (i := 6) rfl) rfl), (jx_t2 (List.mem_of_getElem? (i := 43) rfl) rfl), rfl, ⟨by decide +kernel, by decide +kernel, by decide +kernel⟩⟩
theorem kv_X3_65 : jx_kV RX3 65 RX3 yX3_takesLetter cX3_takesLetter 2 (some .boolean) 1 := ⟨(jx_t2 (List.mem_of_getElem? (i := 87) rfl) rfl), (jx_t2 (List.mem_of_getElem? (i := 89) rfl) rfl), (jx_pv (jx_p1 (List.mem_of_getElem? (i := 2) rfl))), (jx_t1 (List.mem_of_getElem? (i := 6) rfl) rfl), (jx_t2 (List.mem_of_getElem? (i := 90) rfl) rfl), rfl, ⟨by decide +kernel, by decide +kernel, by decide +kernel⟩⟩
theorem kv_X3_111 : jx_kV RX3 111 RX3 yX3_opensClause cX3_opensClause 1 (some .boolean) 0 := ⟨(jx_t2 (List.mem_of_getElem? (i := 99) rfl) rfl), (jx_t2 (List.mem_of_getElem? (i := 101) rfl) rfl), (jx_pv (jx_p1 (List.mem_of_getElem? (i := 3) rfl))), (jx_t1 (List.mem_of_getElem? (i := 6) rfl) rfl), (jx_t2 (List.mem_of_getElem? (i := 102) rfl) rfl), rfl, ⟨by decide +kernel, by decide +kernel, by decide +kernel⟩⟩
theorem kv_X3_68 : jx_kV RX3 68 RX3 yX3_takesDigit cX3_takesDigit 3 (some .boolean) 2 := ⟨(jx_t2 (List.mem_of_getElem? (i := 103) rfl) rfl), (jx_t2 (List.mem_of_getElem? (i := 105) rfl) rfl), (jx_pv (jx_p1 (List.mem_of_getElem? (i := 4) rfl))), (jx_t1 (List.mem_of_getElem? (i := 6) rfl) rfl), (jx_t2 (List.mem_of_getElem? (i := 106) rfl) rfl), rfl, ⟨by decide +kernel, by decide +kernel, by decide +kernel⟩⟩
theorem kv_X3_72 : jx_kV RX3 72 RX3 yX3_takesBlank cX3_takesBlank 1 (some .boolean) 0 := ⟨(jx_t2 (List.mem_of_getElem? (i := 107) rfl) rfl), (jx_t2 (List.mem_of_getElem? (i := 109) rfl) rfl), (jx_pv (jx_p1 (List.mem_of_getElem? (i := 5) rfl))), (jx_t1 (List.mem_of_getElem? (i := 6) rfl) rfl), (jx_t2 (List.mem_of_getElem? (i := 110) rfl) rfl), rfl, ⟨by decide +kernel, by decide +kernel, by decide +kernel⟩⟩
theorem kv_X3_75 : jx_kV RX3 75 RX3 yX3_takesSecondDigit cX3_takesSecondDigit 2 (some .boolean) 1 := ⟨(jx_t2 (List.mem_of_getElem? (i := 111) rfl) rfl), (jx_t2 (List.mem_of_getElem? (i := 113) rfl) rfl), (jx_pv (jx_p1 (List.mem_of_getElem? (i := 6) rfl))), (jx_t1 (List.mem_of_getElem? (i := 6) rfl) rfl), (jx_t2 (List.mem_of_getElem? (i := 114) rfl) rfl), rfl, ⟨by decide +kernel, by decide +kernel, by decide +kernel⟩⟩
theorem kv_X3_78 : jx_kV RX3 78 RX3 yX3_takesFactor cX3_takesFactor 2 (some .boolean) 1 := ⟨(jx_t2 (List.mem_of_getElem? (i := 115) rfl) rfl), (jx_t2 (List.mem_of_getElem? (i := 117) rfl) rfl), (jx_pv (jx_p1 (List.mem_of_getElem? (i := 7) rfl))), (jx_t1 (List.mem_of_getElem? (i := 6) rfl) rfl), (jx_t2 (List.mem_of_getElem? (i := 118) rfl) rfl), rfl, ⟨by decide +kernel, by decide +kernel, by decide +kernel⟩⟩
theorem kv_X3_117 : jx_kV RX3 117 RX3 yX3_pend cX3_pend 2 none 1 := ⟨(jx_t2 (List.mem_of_getElem? (i := 119) rfl) rfl), (jx_t2 (List.mem_of_getElem? (i := 121) rfl) rfl), (jx_pv (jx_p1 (List.mem_of_getElem? (i := 8) rfl))), (jx_t1 (List.mem_of_getElem? (i := 6) rfl) rfl), (jx_t2 (List.mem_of_getElem? (i := 122) rfl) rfl), rfl, ⟨by decide +kernel, by decide +kernel, by decide +kernel⟩⟩
theorem kv_X3_81 : jx_kV RX3 81 RX3 yX3_takesRelation cX3_takesRelation 2 (some .boolean) 1 := ⟨(jx_t2 (List.mem_of_getElem? (i := 183) rfl) rfl), (jx_t2 (List.mem_of_getElem? (i := 185) rfl) rfl), (jx_pv (jx_p1 (List.mem_of_getElem? (i := 9) rfl))), (jx_t1 (List.mem_of_getElem? (i := 6) rfl) rfl), (jx_t2 (List.mem_of_getElem? (i := 186) rfl) rfl), rfl, ⟨by decide +kernel, by decide +kernel, by decide +kernel⟩⟩
theorem kv_X3_84 : jx_kV RX3 84 RX3 yX3_endTest cX3_endTest 3 none 0 := ⟨(jx_t2 (List.mem_of_getElem? (i := 188) rfl) rfl), (jx_t2 (List.mem_of_getElem? (i := 190) rfl) rfl), (jx_pv (jx_p1 (List.mem_of_getElem? (i := 10) rfl))), (jx_t1 (List.mem_of_getElem? (i := 6) rfl) rfl), (jx_t2 (List.mem_of_getElem? (i := 191) rfl) rfl), rfl, ⟨by decide +kernel, by decide +kernel, by decide +kernel⟩⟩
theorem kv_X3_135 : jx_kV RX3 135 RX3 yX3_isSo cX3_isSo 2 (some .boolean) 1 := ⟨(jx_t2 (List.mem_of_getElem? (i := 192) rfl) rfl), (jx_t2 (List.mem_of_getElem? (i := 194) rfl) rfl), (jx_pv (jx_p1 (List.mem_of_getElem? (i := 11) rfl))), (jx_t1 (List.mem_of_getElem? (i := 6) rfl) rfl), (jx_t2 (List.mem_of_getElem? (i := 195) rfl) rfl), rfl, ⟨by decide +kernel, by decide +kernel, by decide +kernel⟩⟩
theorem kv_X3_138 : jx_kV RX3 138 RX3 yX3_write cX3_write 2 none 1 := ⟨(jx_t2 (List.mem_of_getElem? (i := 196) rfl) rfl), (jx_t2 (List.mem_of_getElem? (i := 198) rfl) rfl), (jx_pv (jx_p1 (List.mem_of_getElem? (i := 12) rfl))), (jx_t1 (List.mem_of_getElem? (i := 6) rfl) rfl), (jx_t2 (List.mem_of_getElem? (i := 199) rfl) rfl), rfl, ⟨by decide +kernel, by decide +kernel, by decide +kernel⟩⟩
theorem kv_X3_87 : jx_kV RX3 87 RX3 yX3_takesJoint cX3_takesJoint 2 (some .boolean) 1 := ⟨(jx_t2 (List.mem_of_getElem? (i := 200) rfl) rfl), (jx_t2 (List.mem_of_getElem? (i := 202) rfl) rfl), (jx_pv (jx_p1 (List.mem_of_getElem? (i := 13) rfl))), (jx_t1 (List.mem_of_getElem? (i := 6) rfl) rfl), (jx_t2 (List.mem_of_getElem? (i := 203) rfl) rfl), rfl, ⟨by decide +kernel, by decide +kernel, by decide +kernel⟩⟩
theorem kv_X3_141 : jx_kV RX3 141 RX3 yX3_takesOperator cX3_takesOperator 2 (some .boolean) 1 := ⟨(jx_t2 (List.mem_of_getElem? (i := 204) rfl) rfl), (jx_t2 (List.mem_of_getElem? (i := 206) rfl) rfl), (jx_pv (jx_p1 (List.mem_of_getElem? (i := 14) rfl))), (jx_t1 (List.mem_of_getElem? (i := 6) rfl) rfl), (jx_t2 (List.mem_of_getElem? (i := 207) rfl) rfl), rfl, ⟨by decide +kernel, by decide +kernel, by decide +kernel⟩⟩
theorem kv_X3_150 : jx_kV RX3 150 RX3 yX3_writePending cX3_writePending 2 none 1 := ⟨(jx_t2 (List.mem_of_getElem? (i := 208) rfl) rfl), (jx_t2 (List.mem_of_getElem? (i := 210) rfl) rfl), (jx_pv (jx_p1 (List.mem_of_getElem? (i := 15) rfl))), (jx_t1 (List.mem_of_getElem? (i := 6) rfl) rfl), (jx_t2 (List.mem_of_getElem? (i := 211) rfl) rfl), rfl, ⟨by decide +kernel, by decide +kernel, by decide +kernel⟩⟩
theorem kv_X3_144 : jx_kV RX3 144 RX3 yX3_takesClosing cX3_takesClosing 1 (some .boolean) 0 := ⟨(jx_t2 (List.mem_of_getElem? (i := 212) rfl) rfl), (jx_t2 (List.mem_of_getElem? (i := 214) rfl) rfl), (jx_pv (jx_p2 (List.mem_of_getElem? (i := 0) rfl))), (jx_t1 (List.mem_of_getElem? (i := 6) rfl) rfl), (jx_t2 (List.mem_of_getElem? (i := 215) rfl) rfl), rfl, ⟨by decide +kernel, by decide +kernel, by decide +kernel⟩⟩
theorem kv_X3_147 : jx_kV RX3 147 RX3 yX3_endsClause cX3_endsClause 1 (some .boolean) 0 := ⟨(jx_t2 (List.mem_of_getElem? (i := 216) rfl) rfl), (jx_t2 (List.mem_of_getElem? (i := 218) rfl) rfl), (jx_pv (jx_p2 (List.mem_of_getElem? (i := 1) rfl))), (jx_t1 (List.mem_of_getElem? (i := 6) rfl) rfl), (jx_t2 (List.mem_of_getElem? (i := 219) rfl) rfl), rfl, ⟨by decide +kernel, by decide +kernel, by decide +kernel⟩⟩
theorem kv_X3_47 : jx_kV RX3 47 RX3 yX3_isWhole cX3_isWhole 1 (some .boolean) 0 := ⟨(jx_t2 (List.mem_of_getElem? (i := 220) rfl) rfl), (jx_t2 (List.mem_of_getElem? (i := 222) rfl) rfl), (jx_pv (jx_p2 (List.mem_of_getElem? (i := 2) rfl))), (jx_t1 (List.mem_of_getElem? (i := 6) rfl) rfl), (jx_t2 (List.mem_of_getElem? (i := 223) rfl) rfl), rfl, ⟨by decide +kernel, by decide +kernel, by decide +kernel⟩⟩
theorem kv_X5_67 : jx_kV RX5 67 RX3 yX3_written cX3_written 1 (some (.object "LampVote$Tide")) 0 := ⟨(jx_t2 (List.mem_of_getElem? (i := 224) rfl) rfl), (jx_t2 (List.mem_of_getElem? (i := 225) rfl) rfl), (jx_t2 (List.mem_of_getElem? (i := 226) rfl) rfl), (jx_t1 (List.mem_of_getElem? (i := 6) rfl) rfl), (jx_t2 (List.mem_of_getElem? (i := 227) rfl) rfl), rfl, ⟨by decide +kernel, by decide +kernel, by decide +kernel⟩⟩
theorem kv_L_23 : jx_kV RL 23 RX5 yX5_places cX5_places 3 (some .int) 1 := ⟨(jx_t3 (List.mem_of_getElem? (i := 7) rfl) rfl), (jx_t3 (List.mem_of_getElem? (i := 8) rfl) rfl), (jx_t3 (List.mem_of_getElem? (i := 9) rfl) rfl), (jx_t1 (List.mem_of_getElem? (i := 1) rfl) rfl), (jx_t3 (List.mem_of_getElem? (i := 10) rfl) rfl), rfl, ⟨by decide +kernel, by decide +kernel, by decide +kernel⟩⟩
theorem kv_X5_81 : jx_kV RX5 81 RX1 yX1_dig cX1_dig 3 none 1 := ⟨(jx_t3 (List.mem_of_getElem? (i := 11) rfl) rfl), (jx_t1 (List.mem_of_getElem? (i := 54) rfl) rfl), (jx_t1 (List.mem_of_getElem? (i := 55) rfl) rfl), (jx_t1 (List.mem_of_getElem? (i := 2) rfl) rfl), (jx_t1 (List.mem_of_getElem? (i := 56) rfl) rfl), rfl, ⟨by decide +kernel, by decide +kernel, by decide +kernel⟩⟩
theorem kv_L_27 : jx_kV RL 27 RX5 yX5_place cX5_place 5 (some .int) 3 := ⟨(jx_t3 (List.mem_of_getElem? (i := 12) rfl) rfl), (jx_t3 (List.mem_of_getElem? (i := 13) rfl) rfl), (jx_t3 (List.mem_of_getElem? (i := 14) rfl) rfl), (jx_t1 (List.mem_of_getElem? (i := 1) rfl) rfl), (jx_t3 (List.mem_of_getElem? (i := 15) rfl) rfl), rfl, ⟨by decide +kernel, by decide +kernel, by decide +kernel⟩⟩
theorem kv_X5_85 : jx_kV RX5 85 RX1 yX1_hasPlace cX1_hasPlace 2 (some .boolean) 1 := ⟨(jx_t3 (List.mem_of_getElem? (i := 16) rfl) rfl), (jx_t3 (List.mem_of_getElem? (i := 17) rfl) rfl), (jx_t3 (List.mem_of_getElem? (i := 18) rfl) rfl), (jx_t1 (List.mem_of_getElem? (i := 2) rfl) rfl), (jx_t3 (List.mem_of_getElem? (i := 19) rfl) rfl), rfl, ⟨by decide +kernel, by decide +kernel, by decide +kernel⟩⟩
theorem kv_X5_89 : jx_kV RX5 89 RX5 yX5_mayBecome cX5_mayBecome 3 (some .boolean) 2 := ⟨(jx_t3 (List.mem_of_getElem? (i := 20) rfl) rfl), (jx_t3 (List.mem_of_getElem? (i := 22) rfl) rfl), (jx_pv (jx_p2 (List.mem_of_getElem? (i := 3) rfl))), (jx_t1 (List.mem_of_getElem? (i := 1) rfl) rfl), (jx_t3 (List.mem_of_getElem? (i := 23) rfl) rfl), rfl, ⟨by decide +kernel, by decide +kernel, by decide +kernel⟩⟩
theorem kv_L_32 : jx_kV RL 32 RX5 yX5_at cX5_at 3 (some .int) 2 := ⟨(jx_t3 (List.mem_of_getElem? (i := 24) rfl) rfl), (jx_t3 (List.mem_of_getElem? (i := 25) rfl) rfl), (jx_t3 (List.mem_of_getElem? (i := 26) rfl) rfl), (jx_t1 (List.mem_of_getElem? (i := 1) rfl) rfl), (jx_t3 (List.mem_of_getElem? (i := 27) rfl) rfl), rfl, ⟨by decide +kernel, by decide +kernel, by decide +kernel⟩⟩
theorem kv_X5_100 : jx_kV RX5 100 RX1 yX1_holdsBack cX1_holdsBack 3 (some .boolean) 2 := ⟨(jx_t3 (List.mem_of_getElem? (i := 28) rfl) rfl), (jx_t3 (List.mem_of_getElem? (i := 29) rfl) rfl), (jx_t3 (List.mem_of_getElem? (i := 30) rfl) rfl), (jx_t1 (List.mem_of_getElem? (i := 2) rfl) rfl), (jx_t3 (List.mem_of_getElem? (i := 31) rfl) rfl), rfl, ⟨by decide +kernel, by decide +kernel, by decide +kernel⟩⟩
theorem kv_X1_94 : jx_kV RX1 94 RX1 yX1_look cX1_look 3 (some (.array .int)) 2 := ⟨(jx_t3 (List.mem_of_getElem? (i := 32) rfl) rfl), (jx_t3 (List.mem_of_getElem? (i := 34) rfl) rfl), (jx_pv (jx_p2 (List.mem_of_getElem? (i := 4) rfl))), (jx_t1 (List.mem_of_getElem? (i := 2) rfl) rfl), (jx_t3 (List.mem_of_getElem? (i := 35) rfl) rfl), rfl, ⟨by decide +kernel, by decide +kernel, by decide +kernel⟩⟩
theorem kv_X1_98 : jx_kV RX1 98 RX4 yX4_any cX4_any 4 (some .boolean) 2 := ⟨(jx_t3 (List.mem_of_getElem? (i := 36) rfl) rfl), (jx_t3 (List.mem_of_getElem? (i := 37) rfl) rfl), (jx_t3 (List.mem_of_getElem? (i := 38) rfl) rfl), (jx_t1 (List.mem_of_getElem? (i := 3) rfl) rfl), (jx_t3 (List.mem_of_getElem? (i := 39) rfl) rfl), rfl, ⟨by decide +kernel, by decide +kernel, by decide +kernel⟩⟩
theorem kv_X4_24 : jx_kV RX4 24 RX4 yX4_holds cX4_holds 8 (some .boolean) 2 := ⟨(jx_t3 (List.mem_of_getElem? (i := 40) rfl) rfl), (jx_t3 (List.mem_of_getElem? (i := 42) rfl) rfl), (jx_pv (jx_p2 (List.mem_of_getElem? (i := 5) rfl))), (jx_t1 (List.mem_of_getElem? (i := 3) rfl) rfl), (jx_t3 (List.mem_of_getElem? (i := 43) rfl) rfl), rfl, ⟨by decide +kernel, by decide +kernel, by decide +kernel⟩⟩
theorem kv_X5_103 : jx_kV RX5 103 RX1 yX1_goal cX1_goal 5 (some .int) 2 := ⟨(jx_t3 (List.mem_of_getElem? (i := 45) rfl) rfl), (jx_t3 (List.mem_of_getElem? (i := 46) rfl) rfl), (jx_t3 (List.mem_of_getElem? (i := 47) rfl) rfl), (jx_t1 (List.mem_of_getElem? (i := 2) rfl) rfl), (jx_t3 (List.mem_of_getElem? (i := 48) rfl) rfl), rfl, ⟨by decide +kernel, by decide +kernel, by decide +kernel⟩⟩
theorem kv_X1_102 : jx_kV RX1 102 RX1 yX1_hasPlace cX1_hasPlace 2 (some .boolean) 1 := ⟨(jx_t3 (List.mem_of_getElem? (i := 49) rfl) rfl), (jx_t3 (List.mem_of_getElem? (i := 17) rfl) rfl), (jx_t3 (List.mem_of_getElem? (i := 18) rfl) rfl), (jx_t1 (List.mem_of_getElem? (i := 2) rfl) rfl), (jx_t3 (List.mem_of_getElem? (i := 19) rfl) rfl), rfl, ⟨by decide +kernel, by decide +kernel, by decide +kernel⟩⟩
theorem kv_X5_107 : jx_kV RX5 107 RX1 yX1_weight cX1_weight 3 (some .int) 2 := ⟨(jx_t3 (List.mem_of_getElem? (i := 50) rfl) rfl), (jx_t3 (List.mem_of_getElem? (i := 51) rfl) rfl), (jx_t3 (List.mem_of_getElem? (i := 52) rfl) rfl), (jx_t1 (List.mem_of_getElem? (i := 2) rfl) rfl), (jx_t3 (List.mem_of_getElem? (i := 53) rfl) rfl), rfl, ⟨by decide +kernel, by decide +kernel, by decide +kernel⟩⟩
theorem kv_X1_106 : jx_kV RX1 106 RX4 yX4_sum cX4_sum 5 (some .int) 2 := ⟨(jx_t3 (List.mem_of_getElem? (i := 54) rfl) rfl), (jx_t3 (List.mem_of_getElem? (i := 55) rfl) rfl), (jx_t3 (List.mem_of_getElem? (i := 56) rfl) rfl), (jx_t1 (List.mem_of_getElem? (i := 3) rfl) rfl), (jx_t3 (List.mem_of_getElem? (i := 57) rfl) rfl), rfl, ⟨by decide +kernel, by decide +kernel, by decide +kernel⟩⟩
theorem kv_L_37 : jx_kV RL 37 RX5 yX5_voter cX5_voter 7 (some .int) 5 := ⟨(jx_t3 (List.mem_of_getElem? (i := 58) rfl) rfl), (jx_t3 (List.mem_of_getElem? (i := 59) rfl) rfl), (jx_t3 (List.mem_of_getElem? (i := 60) rfl) rfl), (jx_t1 (List.mem_of_getElem? (i := 1) rfl) rfl), (jx_t3 (List.mem_of_getElem? (i := 61) rfl) rfl), rfl, ⟨by decide +kernel, by decide +kernel, by decide +kernel⟩⟩
theorem kv_L_42 : jx_kV RL 42 RX5 yX5_of cX5_of 3 (some .int) 2 := ⟨(jx_t3 (List.mem_of_getElem? (i := 65) rfl) rfl), (jx_t3 (List.mem_of_getElem? (i := 66) rfl) rfl), (jx_t3 (List.mem_of_getElem? (i := 67) rfl) rfl), (jx_t1 (List.mem_of_getElem? (i := 1) rfl) rfl), (jx_t3 (List.mem_of_getElem? (i := 68) rfl) rfl), rfl, ⟨by decide +kernel, by decide +kernel, by decide +kernel⟩⟩
theorem kv_X5_119 : jx_kV RX5 119 RX1 yX1_hasVoter cX1_hasVoter 2 (some .boolean) 1 := ⟨(jx_t3 (List.mem_of_getElem? (i := 69) rfl) rfl), (jx_t3 (List.mem_of_getElem? (i := 70) rfl) rfl), (jx_t3 (List.mem_of_getElem? (i := 71) rfl) rfl), (jx_t1 (List.mem_of_getElem? (i := 2) rfl) rfl), (jx_t3 (List.mem_of_getElem? (i := 72) rfl) rfl), rfl, ⟨by decide +kernel, by decide +kernel, by decide +kernel⟩⟩
theorem kv_X5_122 : jx_kV RX5 122 RX1 yX1_setsAt cX1_setsAt 3 (some .int) 1 := ⟨(jx_t3 (List.mem_of_getElem? (i := 73) rfl) rfl), (jx_t3 (List.mem_of_getElem? (i := 74) rfl) rfl), (jx_t3 (List.mem_of_getElem? (i := 75) rfl) rfl), (jx_t1 (List.mem_of_getElem? (i := 2) rfl) rfl), (jx_t3 (List.mem_of_getElem? (i := 76) rfl) rfl), rfl, ⟨by decide +kernel, by decide +kernel, by decide +kernel⟩⟩
theorem kv_X1_110 : jx_kV RX1 110 RX1 yX1_upstream cX1_upstream 3 (some .int) 1 := ⟨(jx_t3 (List.mem_of_getElem? (i := 77) rfl) rfl), (jx_t3 (List.mem_of_getElem? (i := 79) rfl) rfl), (jx_pv (jx_p2 (List.mem_of_getElem? (i := 6) rfl))), (jx_t1 (List.mem_of_getElem? (i := 2) rfl) rfl), (jx_t3 (List.mem_of_getElem? (i := 80) rfl) rfl), rfl, ⟨by decide +kernel, by decide +kernel, by decide +kernel⟩⟩
theorem kv_X1_114 : jx_kV RX1 114 RX1 yX1_crowded cX1_crowded 3 (some .int) 0 := ⟨(jx_t3 (List.mem_of_getElem? (i := 81) rfl) rfl), (jx_t3 (List.mem_of_getElem? (i := 83) rfl) rfl), (jx_pv (jx_p2 (List.mem_of_getElem? (i := 7) rfl))), (jx_t1 (List.mem_of_getElem? (i := 2) rfl) rfl), (jx_t3 (List.mem_of_getElem? (i := 84) rfl) rfl), rfl, ⟨by decide +kernel, by decide +kernel, by decide +kernel⟩⟩
theorem kv_X1_118 : jx_kV RX1 118 RX1 yX1_living cX1_living 4 (some .int) 1 := ⟨(jx_t3 (List.mem_of_getElem? (i := 85) rfl) rfl), (jx_t3 (List.mem_of_getElem? (i := 87) rfl) rfl), (jx_pv (jx_p2 (List.mem_of_getElem? (i := 8) rfl))), (jx_t1 (List.mem_of_getElem? (i := 2) rfl) rfl), (jx_t3 (List.mem_of_getElem? (i := 88) rfl) rfl), rfl, ⟨by decide +kernel, by decide +kernel, by decide +kernel⟩⟩
theorem kv_X5_126 : jx_kV RX5 126 RX1 yX1_delay cX1_delay 3 (some .int) 1 := ⟨(jx_t3 (List.mem_of_getElem? (i := 89) rfl) rfl), (jx_t3 (List.mem_of_getElem? (i := 90) rfl) rfl), (jx_t3 (List.mem_of_getElem? (i := 91) rfl) rfl), (jx_t1 (List.mem_of_getElem? (i := 2) rfl) rfl), (jx_t3 (List.mem_of_getElem? (i := 92) rfl) rfl), rfl, ⟨by decide +kernel, by decide +kernel, by decide +kernel⟩⟩
theorem kv_X5_129 : jx_kV RX5 129 RX2 yX2_chart cX2_chart 3 none 0 := ⟨(jx_t3 (List.mem_of_getElem? (i := 93) rfl) rfl), (jx_t3 (List.mem_of_getElem? (i := 94) rfl) rfl), (jx_t3 (List.mem_of_getElem? (i := 95) rfl) rfl), (jx_t1 (List.mem_of_getElem? (i := 4) rfl) rfl), (jx_t3 (List.mem_of_getElem? (i := 96) rfl) rfl), rfl, ⟨by decide +kernel, by decide +kernel, by decide +kernel⟩⟩
theorem kv_X2_48 : jx_kV RX2 48 RX1 yX1_goal cX1_goal 5 (some .int) 2 := ⟨(jx_t3 (List.mem_of_getElem? (i := 97) rfl) rfl), (jx_t3 (List.mem_of_getElem? (i := 46) rfl) rfl), (jx_t3 (List.mem_of_getElem? (i := 47) rfl) rfl), (jx_t1 (List.mem_of_getElem? (i := 2) rfl) rfl), (jx_t3 (List.mem_of_getElem? (i := 48) rfl) rfl), rfl, ⟨by decide +kernel, by decide +kernel, by decide +kernel⟩⟩
theorem kv_X2_51 : jx_kV RX2 51 RX1 yX1_filled cX1_filled 3 (some .int) 2 := ⟨(jx_t3 (List.mem_of_getElem? (i := 98) rfl) rfl), (jx_t3 (List.mem_of_getElem? (i := 99) rfl) rfl), (jx_t3 (List.mem_of_getElem? (i := 100) rfl) rfl), (jx_t1 (List.mem_of_getElem? (i := 2) rfl) rfl), (jx_t3 (List.mem_of_getElem? (i := 101) rfl) rfl), rfl, ⟨by decide +kernel, by decide +kernel, by decide +kernel⟩⟩
theorem kv_X2_53 : jx_kV RX2 53 RX1 yX1_weight cX1_weight 3 (some .int) 2 := ⟨(jx_t3 (List.mem_of_getElem? (i := 102) rfl) rfl), (jx_t3 (List.mem_of_getElem? (i := 51) rfl) rfl), (jx_t3 (List.mem_of_getElem? (i := 52) rfl) rfl), (jx_t1 (List.mem_of_getElem? (i := 2) rfl) rfl), (jx_t3 (List.mem_of_getElem? (i := 53) rfl) rfl), rfl, ⟨by decide +kernel, by decide +kernel, by decide +kernel⟩⟩
theorem kv_X5_132 : jx_kV RX5 132 RX2 yX2_burns cX2_burns 4 (some .int) 2 := ⟨(jx_t3 (List.mem_of_getElem? (i := 103) rfl) rfl), (jx_t3 (List.mem_of_getElem? (i := 104) rfl) rfl), (jx_t3 (List.mem_of_getElem? (i := 105) rfl) rfl), (jx_t1 (List.mem_of_getElem? (i := 4) rfl) rfl), (jx_t3 (List.mem_of_getElem? (i := 106) rfl) rfl), rfl, ⟨by decide +kernel, by decide +kernel, by decide +kernel⟩⟩
theorem kv_X2_58 : jx_kV RX2 58 RX1 yX1_delay cX1_delay 3 (some .int) 1 := ⟨(jx_t3 (List.mem_of_getElem? (i := 107) rfl) rfl), (jx_t3 (List.mem_of_getElem? (i := 90) rfl) rfl), (jx_t3 (List.mem_of_getElem? (i := 91) rfl) rfl), (jx_t1 (List.mem_of_getElem? (i := 2) rfl) rfl), (jx_t3 (List.mem_of_getElem? (i := 92) rfl) rfl), rfl, ⟨by decide +kernel, by decide +kernel, by decide +kernel⟩⟩
theorem kv_L_46 : jx_kV RL 46 RX5 yX5_wish cX5_wish 4 (some .int) 2 := ⟨(jx_t3 (List.mem_of_getElem? (i := 109) rfl) rfl), (jx_t3 (List.mem_of_getElem? (i := 110) rfl) rfl), (jx_t3 (List.mem_of_getElem? (i := 111) rfl) rfl), (jx_t1 (List.mem_of_getElem? (i := 1) rfl) rfl), (jx_t3 (List.mem_of_getElem? (i := 112) rfl) rfl), rfl, ⟨by decide +kernel, by decide +kernel, by decide +kernel⟩⟩
theorem kv_L_50 : jx_kV RL 50 RX5 yX5_row cX5_row 6 (some .int) 3 := ⟨(jx_t3 (List.mem_of_getElem? (i := 113) rfl) rfl), (jx_t3 (List.mem_of_getElem? (i := 114) rfl) rfl), (jx_t3 (List.mem_of_getElem? (i := 115) rfl) rfl), (jx_t1 (List.mem_of_getElem? (i := 1) rfl) rfl), (jx_t3 (List.mem_of_getElem? (i := 116) rfl) rfl), rfl, ⟨by decide +kernel, by decide +kernel, by decide +kernel⟩⟩
theorem kv_L_54 : jx_kV RL 54 RX5 yX5_minutes cX5_minutes 2 (some .int) 1 := ⟨(jx_t3 (List.mem_of_getElem? (i := 117) rfl) rfl), (jx_t3 (List.mem_of_getElem? (i := 118) rfl) rfl), (jx_t3 (List.mem_of_getElem? (i := 119) rfl) rfl), (jx_t1 (List.mem_of_getElem? (i := 1) rfl) rfl), (jx_t3 (List.mem_of_getElem? (i := 120) rfl) rfl), rfl, ⟨by decide +kernel, by decide +kernel, by decide +kernel⟩⟩
theorem kv_L_58 : jx_kV RL 58 RX5 yX5_vote cX5_vote 2 (some .int) 1 := ⟨(jx_t3 (List.mem_of_getElem? (i := 121) rfl) rfl), (jx_t3 (List.mem_of_getElem? (i := 122) rfl) rfl), (jx_t3 (List.mem_of_getElem? (i := 123) rfl) rfl), (jx_t1 (List.mem_of_getElem? (i := 1) rfl) rfl), (jx_t3 (List.mem_of_getElem? (i := 124) rfl) rfl), rfl, ⟨by decide +kernel, by decide +kernel, by decide +kernel⟩⟩
theorem kv_X5_135 : jx_kV RX5 135 RX2 yX2_pass cX2_pass 1 none 0 := ⟨(jx_t3 (List.mem_of_getElem? (i := 125) rfl) rfl), (jx_t3 (List.mem_of_getElem? (i := 126) rfl) rfl), (jx_t3 (List.mem_of_getElem? (i := 127) rfl) rfl), (jx_t1 (List.mem_of_getElem? (i := 4) rfl) rfl), (jx_t3 (List.mem_of_getElem? (i := 128) rfl) rfl), rfl, ⟨by decide +kernel, by decide +kernel, by decide +kernel⟩⟩
theorem kv_X2_84 : jx_kV RX2 84 RX2 yX2_chart cX2_chart 3 none 0 := ⟨(jx_t3 (List.mem_of_getElem? (i := 129) rfl) rfl), (jx_t3 (List.mem_of_getElem? (i := 94) rfl) rfl), (jx_t3 (List.mem_of_getElem? (i := 95) rfl) rfl), (jx_t1 (List.mem_of_getElem? (i := 4) rfl) rfl), (jx_t3 (List.mem_of_getElem? (i := 96) rfl) rfl), rfl, ⟨by decide +kernel, by decide +kernel, by decide +kernel⟩⟩
theorem kv_X2_87 : jx_kV RX2 87 RX2 yX2_lightAll cX2_lightAll 2 none 0 := ⟨(jx_t3 (List.mem_of_getElem? (i := 130) rfl) rfl), (jx_t3 (List.mem_of_getElem? (i := 132) rfl) rfl), (jx_pv (jx_p2 (List.mem_of_getElem? (i := 9) rfl))), (jx_t1 (List.mem_of_getElem? (i := 4) rfl) rfl), (jx_t3 (List.mem_of_getElem? (i := 133) rfl) rfl), rfl, ⟨by decide +kernel, by decide +kernel, by decide +kernel⟩⟩
theorem kv_X2_77 : jx_kV RX2 77 RX1 yX1_setsAt cX1_setsAt 3 (some .int) 1 := ⟨(jx_t3 (List.mem_of_getElem? (i := 134) rfl) rfl), (jx_t3 (List.mem_of_getElem? (i := 74) rfl) rfl), (jx_t3 (List.mem_of_getElem? (i := 75) rfl) rfl), (jx_t1 (List.mem_of_getElem? (i := 2) rfl) rfl), (jx_t3 (List.mem_of_getElem? (i := 76) rfl) rfl), rfl, ⟨by decide +kernel, by decide +kernel, by decide +kernel⟩⟩
theorem kv_X2_80 : jx_kV RX2 80 RX2 yX2_light cX2_light 6 none 2 := ⟨(jx_t3 (List.mem_of_getElem? (i := 135) rfl) rfl), (jx_t3 (List.mem_of_getElem? (i := 136) rfl) rfl), (jx_t3 (List.mem_of_getElem? (i := 137) rfl) rfl), (jx_t1 (List.mem_of_getElem? (i := 4) rfl) rfl), (jx_t3 (List.mem_of_getElem? (i := 138) rfl) rfl), rfl, ⟨by decide +kernel, by decide +kernel, by decide +kernel⟩⟩
theorem kv_X2_67 : jx_kV RX2 67 RX2 yX2_burns cX2_burns 4 (some .int) 2 := ⟨(jx_t3 (List.mem_of_getElem? (i := 139) rfl) rfl), (jx_t3 (List.mem_of_getElem? (i := 104) rfl) rfl), (jx_t3 (List.mem_of_getElem? (i := 105) rfl) rfl), (jx_t1 (List.mem_of_getElem? (i := 4) rfl) rfl), (jx_t3 (List.mem_of_getElem? (i := 106) rfl) rfl), rfl, ⟨by decide +kernel, by decide +kernel, by decide +kernel⟩⟩
theorem kv_X2_70 : jx_kV RX2 70 RX2 yX2_afloat cX2_afloat 6 (some .int) 3 := ⟨(jx_t3 (List.mem_of_getElem? (i := 140) rfl) rfl), (jx_t3 (List.mem_of_getElem? (i := 141) rfl) rfl), (jx_t3 (List.mem_of_getElem? (i := 142) rfl) rfl), (jx_t1 (List.mem_of_getElem? (i := 4) rfl) rfl), (jx_t3 (List.mem_of_getElem? (i := 143) rfl) rfl), rfl, ⟨by decide +kernel, by decide +kernel, by decide +kernel⟩⟩
theorem kv_X5_138 : jx_kV RX5 138 RX1 yX1_wishes cX1_wishes 3 (some .int) 0 := ⟨(jx_t3 (List.mem_of_getElem? (i := 144) rfl) rfl), (jx_t3 (List.mem_of_getElem? (i := 145) rfl) rfl), (jx_t3 (List.mem_of_getElem? (i := 146) rfl) rfl), (jx_t1 (List.mem_of_getElem? (i := 2) rfl) rfl), (jx_t3 (List.mem_of_getElem? (i := 147) rfl) rfl), rfl, ⟨by decide +kernel, by decide +kernel, by decide +kernel⟩⟩
theorem kv_X5_142 : jx_kV RX5 142 RX2 yX2_mayor cX2_mayor 2 (some .int) 1 := ⟨(jx_t3 (List.mem_of_getElem? (i := 148) rfl) rfl), (jx_t3 (List.mem_of_getElem? (i := 149) rfl) rfl), (jx_t3 (List.mem_of_getElem? (i := 150) rfl) rfl), (jx_t1 (List.mem_of_getElem? (i := 4) rfl) rfl), (jx_t3 (List.mem_of_getElem? (i := 151) rfl) rfl), rfl, ⟨by decide +kernel, by decide +kernel, by decide +kernel⟩⟩
theorem kv_X2_90 : jx_kV RX2 90 RX2 yX2_lead cX2_lead 4 (some .int) 1 := ⟨(jx_t3 (List.mem_of_getElem? (i := 152) rfl) rfl), (jx_t3 (List.mem_of_getElem? (i := 154) rfl) rfl), (jx_pv (jx_p2 (List.mem_of_getElem? (i := 10) rfl))), (jx_t1 (List.mem_of_getElem? (i := 4) rfl) rfl), (jx_t3 (List.mem_of_getElem? (i := 155) rfl) rfl), rfl, ⟨by decide +kernel, by decide +kernel, by decide +kernel⟩⟩
theorem ks_X2_93 : jx_kS RX2 93 yX2_winnerBy cX2_winnerBy 1 (some .int) 1 := ⟨(jx_t3 (List.mem_of_getElem? (i := 156) rfl) rfl), (jx_t3 (List.mem_of_getElem? (i := 157) rfl) rfl), (jx_t1 (List.mem_of_getElem? (i := 4) rfl) rfl), (jx_t3 (List.mem_of_getElem? (i := 158) rfl) rfl), ⟨by decide +kernel, by decide +kernel, by decide +kernel⟩⟩
theorem kv_X5_145 : jx_kV RX5 145 RX2 yX2_votes cX2_votes 4 (some .int) 1 := ⟨(jx_t3 (List.mem_of_getElem? (i := 159) rfl) rfl), (jx_t3 (List.mem_of_getElem? (i := 160) rfl) rfl), (jx_t3 (List.mem_of_getElem? (i := 161) rfl) rfl), (jx_t1 (List.mem_of_getElem? (i := 4) rfl) rfl), (jx_t3 (List.mem_of_getElem? (i := 162) rfl) rfl), rfl, ⟨by decide +kernel, by decide +kernel, by decide +kernel⟩⟩
theorem kv_L_62 : jx_kV RL 62 RX5 yX5_lies cX5_lies 3 (some .int) 2 := ⟨(jx_t3 (List.mem_of_getElem? (i := 163) rfl) rfl), (jx_t3 (List.mem_of_getElem? (i := 164) rfl) rfl), (jx_t3 (List.mem_of_getElem? (i := 165) rfl) rfl), (jx_t1 (List.mem_of_getElem? (i := 1) rfl) rfl), (jx_t3 (List.mem_of_getElem? (i := 166) rfl) rfl), rfl, ⟨by decide +kernel, by decide +kernel, by decide +kernel⟩⟩
theorem kv_L_66 : jx_kV RL 66 RX5 yX5_ward cX5_ward 2 (some .int) 1 := ⟨(jx_t3 (List.mem_of_getElem? (i := 167) rfl) rfl), (jx_t3 (List.mem_of_getElem? (i := 168) rfl) rfl), (jx_t3 (List.mem_of_getElem? (i := 169) rfl) rfl), (jx_t1 (List.mem_of_getElem? (i := 1) rfl) rfl), (jx_t3 (List.mem_of_getElem? (i := 170) rfl) rfl), rfl, ⟨by decide +kernel, by decide +kernel, by decide +kernel⟩⟩
theorem kv_X5_154 : jx_kV RX5 154 RX2 yX2_winner cX2_winner 4 (some .int) 1 := ⟨(jx_t3 (List.mem_of_getElem? (i := 171) rfl) rfl), (jx_t3 (List.mem_of_getElem? (i := 172) rfl) rfl), (jx_t3 (List.mem_of_getElem? (i := 173) rfl) rfl), (jx_t1 (List.mem_of_getElem? (i := 4) rfl) rfl), (jx_t3 (List.mem_of_getElem? (i := 174) rfl) rfl), rfl, ⟨by decide +kernel, by decide +kernel, by decide +kernel⟩⟩
theorem kv_L_70 : jx_kV RL 70 RX5 yX5_drifts cX5_drifts 3 (some .int) 2 := ⟨(jx_t3 (List.mem_of_getElem? (i := 175) rfl) rfl), (jx_t3 (List.mem_of_getElem? (i := 176) rfl) rfl), (jx_t3 (List.mem_of_getElem? (i := 177) rfl) rfl), (jx_t1 (List.mem_of_getElem? (i := 1) rfl) rfl), (jx_t3 (List.mem_of_getElem? (i := 178) rfl) rfl), rfl, ⟨by decide +kernel, by decide +kernel, by decide +kernel⟩⟩
theorem kv_X5_157 : jx_kV RX5 157 RX2 yX2_afloat cX2_afloat 6 (some .int) 3 := ⟨(jx_t3 (List.mem_of_getElem? (i := 179) rfl) rfl), (jx_t3 (List.mem_of_getElem? (i := 141) rfl) rfl), (jx_t3 (List.mem_of_getElem? (i := 142) rfl) rfl), (jx_t1 (List.mem_of_getElem? (i := 4) rfl) rfl), (jx_t3 (List.mem_of_getElem? (i := 143) rfl) rfl), rfl, ⟨by decide +kernel, by decide +kernel, by decide +kernel⟩⟩
theorem kv_L_74 : jx_kV RL 74 RX5 yX5_from cX5_from 5 (some .int) 3 := ⟨(jx_t3 (List.mem_of_getElem? (i := 180) rfl) rfl), (jx_t3 (List.mem_of_getElem? (i := 181) rfl) rfl), (jx_t3 (List.mem_of_getElem? (i := 182) rfl) rfl), (jx_t1 (List.mem_of_getElem? (i := 1) rfl) rfl), (jx_t3 (List.mem_of_getElem? (i := 183) rfl) rfl), rfl, ⟨by decide +kernel, by decide +kernel, by decide +kernel⟩⟩
theorem kv_X5_161 : jx_kV RX5 161 RX2 yX2_startsTo cX2_startsTo 5 (some .int) 2 := ⟨(jx_t3 (List.mem_of_getElem? (i := 184) rfl) rfl), (jx_t3 (List.mem_of_getElem? (i := 185) rfl) rfl), (jx_t3 (List.mem_of_getElem? (i := 186) rfl) rfl), (jx_t1 (List.mem_of_getElem? (i := 4) rfl) rfl), (jx_t3 (List.mem_of_getElem? (i := 187) rfl) rfl), rfl, ⟨by decide +kernel, by decide +kernel, by decide +kernel⟩⟩
theorem ks_X5_164 : jx_kS RX5 164 yX5_leastOf cX5_leastOf 2 (some .int) 1 := ⟨(jx_t3 (List.mem_of_getElem? (i := 188) rfl) rfl), (jx_t3 (List.mem_of_getElem? (i := 189) rfl) rfl), (jx_t1 (List.mem_of_getElem? (i := 1) rfl) rfl), (jx_t3 (List.mem_of_getElem? (i := 190) rfl) rfl), ⟨by decide +kernel, by decide +kernel, by decide +kernel⟩⟩
theorem kv_L_78 : jx_kV RL 78 RX5 yX5_turns cX5_turns 3 (some .int) 1 := ⟨(jx_t3 (List.mem_of_getElem? (i := 191) rfl) rfl), (jx_t3 (List.mem_of_getElem? (i := 192) rfl) rfl), (jx_t3 (List.mem_of_getElem? (i := 193) rfl) rfl), (jx_t1 (List.mem_of_getElem? (i := 1) rfl) rfl), (jx_t3 (List.mem_of_getElem? (i := 194) rfl) rfl), rfl, ⟨by decide +kernel, by decide +kernel, by decide +kernel⟩⟩
theorem kv_X5_167 : jx_kV RX5 167 RX2 yX2_turning cX2_turning 8 (some .int) 0 := ⟨(jx_t3 (List.mem_of_getElem? (i := 195) rfl) rfl), (jx_t3 (List.mem_of_getElem? (i := 196) rfl) rfl), (jx_t3 (List.mem_of_getElem? (i := 197) rfl) rfl), (jx_t1 (List.mem_of_getElem? (i := 4) rfl) rfl), (jx_t3 (List.mem_of_getElem? (i := 198) rfl) rfl), rfl, ⟨by decide +kernel, by decide +kernel, by decide +kernel⟩⟩
theorem kv_X2_103 : jx_kV RX2 103 RX2 yX2_pass cX2_pass 1 none 0 := ⟨(jx_t3 (List.mem_of_getElem? (i := 199) rfl) rfl), (jx_t3 (List.mem_of_getElem? (i := 126) rfl) rfl), (jx_t3 (List.mem_of_getElem? (i := 127) rfl) rfl), (jx_t1 (List.mem_of_getElem? (i := 4) rfl) rfl), (jx_t3 (List.mem_of_getElem? (i := 128) rfl) rfl), rfl, ⟨by decide +kernel, by decide +kernel, by decide +kernel⟩⟩
theorem kv_X2_96 : jx_kV RX2 96 RX1 yX1_wishes cX1_wishes 3 (some .int) 0 := ⟨(jx_t3 (List.mem_of_getElem? (i := 200) rfl) rfl), (jx_t3 (List.mem_of_getElem? (i := 145) rfl) rfl), (jx_t3 (List.mem_of_getElem? (i := 146) rfl) rfl), (jx_t1 (List.mem_of_getElem? (i := 2) rfl) rfl), (jx_t3 (List.mem_of_getElem? (i := 147) rfl) rfl), rfl, ⟨by decide +kernel, by decide +kernel, by decide +kernel⟩⟩
theorem kv_X2_106 : jx_kV RX2 106 RX2 yX2_mayor cX2_mayor 2 (some .int) 1 := ⟨(jx_t3 (List.mem_of_getElem? (i := 201) rfl) rfl), (jx_t3 (List.mem_of_getElem? (i := 149) rfl) rfl), (jx_t3 (List.mem_of_getElem? (i := 150) rfl) rfl), (jx_t1 (List.mem_of_getElem? (i := 4) rfl) rfl), (jx_t3 (List.mem_of_getElem? (i := 151) rfl) rfl), rfl, ⟨by decide +kernel, by decide +kernel, by decide +kernel⟩⟩
theorem kv_L_82 : jx_kV RL 82 RX5 yX5_sways cX5_sways 5 (some .long) 2 := ⟨(jx_t3 (List.mem_of_getElem? (i := 209) rfl) rfl), (jx_t3 (List.mem_of_getElem? (i := 210) rfl) rfl), (jx_t3 (List.mem_of_getElem? (i := 211) rfl) rfl), (jx_t1 (List.mem_of_getElem? (i := 1) rfl) rfl), (jx_t3 (List.mem_of_getElem? (i := 212) rfl) rfl), rfl, ⟨by decide +kernel, by decide +kernel, by decide +kernel⟩⟩
theorem kv_X5_177 : jx_kV RX5 177 RX2 yX2_swayed cX2_swayed 4 (some .int) 1 := ⟨(jx_t3 (List.mem_of_getElem? (i := 214) rfl) rfl), (jx_t3 (List.mem_of_getElem? (i := 215) rfl) rfl), (jx_t3 (List.mem_of_getElem? (i := 216) rfl) rfl), (jx_t1 (List.mem_of_getElem? (i := 4) rfl) rfl), (jx_t3 (List.mem_of_getElem? (i := 217) rfl) rfl), rfl, ⟨by decide +kernel, by decide +kernel, by decide +kernel⟩⟩
theorem kv_L_87 : jx_kV RL 87 RX5 yX5_stick cX5_stick 2 (some .int) 1 := ⟨(jx_t3 (List.mem_of_getElem? (i := 218) rfl) rfl), (jx_t3 (List.mem_of_getElem? (i := 219) rfl) rfl), (jx_t3 (List.mem_of_getElem? (i := 220) rfl) rfl), (jx_t1 (List.mem_of_getElem? (i := 1) rfl) rfl), (jx_t3 (List.mem_of_getElem? (i := 221) rfl) rfl), rfl, ⟨by decide +kernel, by decide +kernel, by decide +kernel⟩⟩
theorem kv_X5_180 : jx_kV RX5 180 RX2 yX2_stickFor cX2_stickFor 5 (some .int) 1 := ⟨(jx_t3 (List.mem_of_getElem? (i := 222) rfl) rfl), (jx_t3 (List.mem_of_getElem? (i := 223) rfl) rfl), (jx_t3 (List.mem_of_getElem? (i := 224) rfl) rfl), (jx_t1 (List.mem_of_getElem? (i := 4) rfl) rfl), (jx_t3 (List.mem_of_getElem? (i := 225) rfl) rfl), rfl, ⟨by decide +kernel, by decide +kernel, by decide +kernel⟩⟩
theorem kv_L_91 : jx_kV RL 91 RX5 yX5_set cX5_set 4 (some .int) 2 := ⟨(jx_t3 (List.mem_of_getElem? (i := 226) rfl) rfl), (jx_t3 (List.mem_of_getElem? (i := 227) rfl) rfl), (jx_t3 (List.mem_of_getElem? (i := 228) rfl) rfl), (jx_t1 (List.mem_of_getElem? (i := 1) rfl) rfl), (jx_t3 (List.mem_of_getElem? (i := 229) rfl) rfl), rfl, ⟨by decide +kernel, by decide +kernel, by decide +kernel⟩⟩
theorem kv_X5_183 : jx_kV RX5 183 RX2 yX2_bestFor cX2_bestFor 5 (some .int) 1 := ⟨(jx_t3 (List.mem_of_getElem? (i := 230) rfl) rfl), (jx_t3 (List.mem_of_getElem? (i := 231) rfl) rfl), (jx_t3 (List.mem_of_getElem? (i := 232) rfl) rfl), (jx_t1 (List.mem_of_getElem? (i := 4) rfl) rfl), (jx_t3 (List.mem_of_getElem? (i := 233) rfl) rfl), rfl, ⟨by decide +kernel, by decide +kernel, by decide +kernel⟩⟩
theorem kv_X2_115 : jx_kV RX2 115 RX2 yX2_leadOf cX2_leadOf 3 (some .int) 1 := ⟨(jx_t3 (List.mem_of_getElem? (i := 235) rfl) rfl), (jx_t3 (List.mem_of_getElem? (i := 236) rfl) rfl), (jx_t3 (List.mem_of_getElem? (i := 237) rfl) rfl), (jx_t1 (List.mem_of_getElem? (i := 4) rfl) rfl), (jx_t3 (List.mem_of_getElem? (i := 238) rfl) rfl), rfl, ⟨by decide +kernel, by decide +kernel, by decide +kernel⟩⟩
theorem kv_X5_186 : jx_kV RX5 186 RX2 yX2_light cX2_light 6 none 2 := ⟨(jx_t3 (List.mem_of_getElem? (i := 239) rfl) rfl), (jx_t3 (List.mem_of_getElem? (i := 136) rfl) rfl), (jx_t3 (List.mem_of_getElem? (i := 137) rfl) rfl), (jx_t1 (List.mem_of_getElem? (i := 4) rfl) rfl), (jx_t3 (List.mem_of_getElem? (i := 138) rfl) rfl), rfl, ⟨by decide +kernel, by decide +kernel, by decide +kernel⟩⟩
theorem kv_X5_190 : jx_kV RX5 190 RX2 yX2_leadOf cX2_leadOf 3 (some .int) 1 := ⟨(jx_t4 (List.mem_of_getElem? (i := 0) rfl) rfl), (jx_t3 (List.mem_of_getElem? (i := 236) rfl) rfl), (jx_t3 (List.mem_of_getElem? (i := 237) rfl) rfl), (jx_t1 (List.mem_of_getElem? (i := 4) rfl) rfl), (jx_t3 (List.mem_of_getElem? (i := 238) rfl) rfl), rfl, ⟨by decide +kernel, by decide +kernel, by decide +kernel⟩⟩
theorem kv_L_95 : jx_kV RL 95 RX5 yX5_game cX5_game 5 (some .int) 3 := ⟨(jx_t4 (List.mem_of_getElem? (i := 1) rfl) rfl), (jx_t4 (List.mem_of_getElem? (i := 2) rfl) rfl), (jx_t4 (List.mem_of_getElem? (i := 3) rfl) rfl), (jx_t1 (List.mem_of_getElem? (i := 1) rfl) rfl), (jx_t4 (List.mem_of_getElem? (i := 4) rfl) rfl), rfl, ⟨by decide +kernel, by decide +kernel, by decide +kernel⟩⟩
theorem kv_X5_193 : jx_kV RX5 193 RX2 yX2_firstOf cX2_firstOf 7 (some .int) 2 := ⟨(jx_t4 (List.mem_of_getElem? (i := 5) rfl) rfl), (jx_t4 (List.mem_of_getElem? (i := 6) rfl) rfl), (jx_t4 (List.mem_of_getElem? (i := 7) rfl) rfl), (jx_t1 (List.mem_of_getElem? (i := 4) rfl) rfl), (jx_t4 (List.mem_of_getElem? (i := 8) rfl) rfl), rfl, ⟨by decide +kernel, by decide +kernel, by decide +kernel⟩⟩
theorem kv_X2_121 : jx_kV RX2 121 RX2 yX2_leadBehind cX2_leadBehind 4 (some .int) 3 := ⟨(jx_t4 (List.mem_of_getElem? (i := 9) rfl) rfl), (jx_t4 (List.mem_of_getElem? (i := 10) rfl) rfl), (jx_t4 (List.mem_of_getElem? (i := 11) rfl) rfl), (jx_t1 (List.mem_of_getElem? (i := 4) rfl) rfl), (jx_t4 (List.mem_of_getElem? (i := 12) rfl) rfl), rfl, ⟨by decide +kernel, by decide +kernel, by decide +kernel⟩⟩
theorem kv_X2_118 : jx_kV RX2 118 RX2 yX2_bestFor cX2_bestFor 5 (some .int) 1 := ⟨(jx_t4 (List.mem_of_getElem? (i := 13) rfl) rfl), (jx_t3 (List.mem_of_getElem? (i := 231) rfl) rfl), (jx_t3 (List.mem_of_getElem? (i := 232) rfl) rfl), (jx_t1 (List.mem_of_getElem? (i := 4) rfl) rfl), (jx_t3 (List.mem_of_getElem? (i := 233) rfl) rfl), rfl, ⟨by decide +kernel, by decide +kernel, by decide +kernel⟩⟩
theorem kv_X5_196 : jx_kV RX5 196 RX2 yX2_leadBehind cX2_leadBehind 4 (some .int) 3 := ⟨(jx_t4 (List.mem_of_getElem? (i := 14) rfl) rfl), (jx_t4 (List.mem_of_getElem? (i := 10) rfl) rfl), (jx_t4 (List.mem_of_getElem? (i := 11) rfl) rfl), (jx_t1 (List.mem_of_getElem? (i := 4) rfl) rfl), (jx_t4 (List.mem_of_getElem? (i := 12) rfl) rfl), rfl, ⟨by decide +kernel, by decide +kernel, by decide +kernel⟩⟩
theorem kv_L_99 : jx_kV RL 99 RX5 yX5_see cX5_see 3 (some .int) 2 := ⟨(jx_t4 (List.mem_of_getElem? (i := 15) rfl) rfl), (jx_t4 (List.mem_of_getElem? (i := 16) rfl) rfl), (jx_t4 (List.mem_of_getElem? (i := 17) rfl) rfl), (jx_t1 (List.mem_of_getElem? (i := 1) rfl) rfl), (jx_t4 (List.mem_of_getElem? (i := 18) rfl) rfl), rfl, ⟨by decide +kernel, by decide +kernel, by decide +kernel⟩⟩
theorem kv_L_103 : jx_kV RL 103 RX5 yX5_fits cX5_fits 2 (some .int) 1 := ⟨(jx_t4 (List.mem_of_getElem? (i := 19) rfl) rfl), (jx_t4 (List.mem_of_getElem? (i := 20) rfl) rfl), (jx_t4 (List.mem_of_getElem? (i := 21) rfl) rfl), (jx_t1 (List.mem_of_getElem? (i := 1) rfl) rfl), (jx_t4 (List.mem_of_getElem? (i := 22) rfl) rfl), rfl, ⟨by decide +kernel, by decide +kernel, by decide +kernel⟩⟩
theorem kv_X5_208 : jx_kV RX5 208 RX2 yX2_fitting cX2_fitting 4 (some .int) 1 := ⟨(jx_t4 (List.mem_of_getElem? (i := 23) rfl) rfl), (jx_t4 (List.mem_of_getElem? (i := 24) rfl) rfl), (jx_t4 (List.mem_of_getElem? (i := 25) rfl) rfl), (jx_t1 (List.mem_of_getElem? (i := 4) rfl) rfl), (jx_t4 (List.mem_of_getElem? (i := 26) rfl) rfl), rfl, ⟨by decide +kernel, by decide +kernel, by decide +kernel⟩⟩
theorem kv_X2_130 : jx_kV RX2 130 RX2 yX2_countLamps cX2_countLamps 2 none 0 := ⟨(jx_t4 (List.mem_of_getElem? (i := 27) rfl) rfl), (jx_t4 (List.mem_of_getElem? (i := 29) rfl) rfl), (jx_pv (jx_p2 (List.mem_of_getElem? (i := 11) rfl))), (jx_t1 (List.mem_of_getElem? (i := 4) rfl) rfl), (jx_t4 (List.mem_of_getElem? (i := 30) rfl) rfl), rfl, ⟨by decide +kernel, by decide +kernel, by decide +kernel⟩⟩
theorem kv_X2_133 : jx_kV RX2 133 RX2 yX2_isAsSeen cX2_isAsSeen 2 (some .boolean) 0 := ⟨(jx_t4 (List.mem_of_getElem? (i := 32) rfl) rfl), (jx_t4 (List.mem_of_getElem? (i := 34) rfl) rfl), (jx_pv (jx_p2 (List.mem_of_getElem? (i := 12) rfl))), (jx_t1 (List.mem_of_getElem? (i := 4) rfl) rfl), (jx_t4 (List.mem_of_getElem? (i := 35) rfl) rfl), rfl, ⟨by decide +kernel, by decide +kernel, by decide +kernel⟩⟩
theorem kv_L_107 : jx_kV RL 107 RX5 yX5_fair cX5_fair 3 (some .int) 1 := ⟨(jx_t4 (List.mem_of_getElem? (i := 36) rfl) rfl), (jx_t4 (List.mem_of_getElem? (i := 37) rfl) rfl), (jx_t4 (List.mem_of_getElem? (i := 38) rfl) rfl), (jx_t1 (List.mem_of_getElem? (i := 1) rfl) rfl), (jx_t4 (List.mem_of_getElem? (i := 39) rfl) rfl), rfl, ⟨by decide +kernel, by decide +kernel, by decide +kernel⟩⟩
theorem kv_X5_211 : jx_kV RX5 211 RX2 yX2_fairest cX2_fairest 3 (some .int) 0 := ⟨(jx_t4 (List.mem_of_getElem? (i := 40) rfl) rfl), (jx_t4 (List.mem_of_getElem? (i := 41) rfl) rfl), (jx_t4 (List.mem_of_getElem? (i := 42) rfl) rfl), (jx_t1 (List.mem_of_getElem? (i := 4) rfl) rfl), (jx_t4 (List.mem_of_getElem? (i := 43) rfl) rfl), rfl, ⟨by decide +kernel, by decide +kernel, by decide +kernel⟩⟩
theorem kv_X2_146 : jx_kV RX2 146 RX2 yX2_unfairness cX2_unfairness 4 (some .int) 1 := ⟨(jx_t4 (List.mem_of_getElem? (i := 44) rfl) rfl), (jx_t4 (List.mem_of_getElem? (i := 45) rfl) rfl), (jx_t4 (List.mem_of_getElem? (i := 46) rfl) rfl), (jx_t1 (List.mem_of_getElem? (i := 4) rfl) rfl), (jx_t4 (List.mem_of_getElem? (i := 47) rfl) rfl), rfl, ⟨by decide +kernel, by decide +kernel, by decide +kernel⟩⟩
theorem kv_X5_214 : jx_kV RX5 214 RX2 yX2_unfairness cX2_unfairness 4 (some .int) 1 := ⟨(jx_t4 (List.mem_of_getElem? (i := 51) rfl) rfl), (jx_t4 (List.mem_of_getElem? (i := 45) rfl) rfl), (jx_t4 (List.mem_of_getElem? (i := 46) rfl) rfl), (jx_t1 (List.mem_of_getElem? (i := 4) rfl) rfl), (jx_t4 (List.mem_of_getElem? (i := 47) rfl) rfl), rfl, ⟨by decide +kernel, by decide +kernel, by decide +kernel⟩⟩
theorem kv_L_111 : jx_kV RL 111 RX5 yX5_tale cX5_tale 4 (some .int) 3 := ⟨(jx_t4 (List.mem_of_getElem? (i := 52) rfl) rfl), (jx_t4 (List.mem_of_getElem? (i := 53) rfl) rfl), (jx_t4 (List.mem_of_getElem? (i := 54) rfl) rfl), (jx_t1 (List.mem_of_getElem? (i := 1) rfl) rfl), (jx_t4 (List.mem_of_getElem? (i := 55) rfl) rfl), rfl, ⟨by decide +kernel, by decide +kernel, by decide +kernel⟩⟩
theorem kv_L_115 : jx_kV RL 115 RX5 yX5_looked cX5_looked 1 (some .int) 0 := ⟨(jx_t4 (List.mem_of_getElem? (i := 56) rfl) rfl), (jx_t4 (List.mem_of_getElem? (i := 57) rfl) rfl), (jx_t4 (List.mem_of_getElem? (i := 58) rfl) rfl), (jx_t1 (List.mem_of_getElem? (i := 1) rfl) rfl), (jx_t4 (List.mem_of_getElem? (i := 59) rfl) rfl), rfl, ⟨by decide +kernel, by decide +kernel, by decide +kernel⟩⟩
theorem kv_X5_229 : jx_kV RX5 229 RX2 yX2_firstUntrue cX2_firstUntrue 2 (some .int) 0 := ⟨(jx_t4 (List.mem_of_getElem? (i := 60) rfl) rfl), (jx_t4 (List.mem_of_getElem? (i := 61) rfl) rfl), (jx_t4 (List.mem_of_getElem? (i := 62) rfl) rfl), (jx_t1 (List.mem_of_getElem? (i := 4) rfl) rfl), (jx_t4 (List.mem_of_getElem? (i := 63) rfl) rfl), rfl, ⟨by decide +kernel, by decide +kernel, by decide +kernel⟩⟩
theorem kv_X2_161 : jx_kV RX2 161 RX2 yX2_placeAfter cX2_placeAfter 5 (some .int) 2 := ⟨(jx_t4 (List.mem_of_getElem? (i := 64) rfl) rfl), (jx_t4 (List.mem_of_getElem? (i := 66) rfl) rfl), (jx_pv (jx_p2 (List.mem_of_getElem? (i := 13) rfl))), (jx_t1 (List.mem_of_getElem? (i := 4) rfl) rfl), (jx_t4 (List.mem_of_getElem? (i := 67) rfl) rfl), rfl, ⟨by decide +kernel, by decide +kernel, by decide +kernel⟩⟩
theorem kv_L_119 : jx_kV RL 119 RX5 yX5_act cX5_act 4 (some .int) 3 := ⟨(jx_t4 (List.mem_of_getElem? (i := 68) rfl) rfl), (jx_t4 (List.mem_of_getElem? (i := 69) rfl) rfl), (jx_t4 (List.mem_of_getElem? (i := 70) rfl) rfl), (jx_t1 (List.mem_of_getElem? (i := 1) rfl) rfl), (jx_t4 (List.mem_of_getElem? (i := 71) rfl) rfl), rfl, ⟨by decide +kernel, by decide +kernel, by decide +kernel⟩⟩
theorem kv_X5_232 : jx_kV RX5 232 RX0 yX0_forget cX0_forget 1 none 0 := ⟨(jx_t4 (List.mem_of_getElem? (i := 72) rfl) rfl), (jx_t4 (List.mem_of_getElem? (i := 73) rfl) rfl), (jx_t4 (List.mem_of_getElem? (i := 74) rfl) rfl), (jx_t1 (List.mem_of_getElem? (i := 5) rfl) rfl), (jx_t4 (List.mem_of_getElem? (i := 75) rfl) rfl), rfl, ⟨by decide +kernel, by decide +kernel, by decide +kernel⟩⟩
theorem kv_X5_235 : jx_kV RX5 235 RX0 yX0_run cX0_run 11 (some .int) 5 := ⟨(jx_t4 (List.mem_of_getElem? (i := 76) rfl) rfl), (jx_t4 (List.mem_of_getElem? (i := 77) rfl) rfl), (jx_t4 (List.mem_of_getElem? (i := 78) rfl) rfl), (jx_t1 (List.mem_of_getElem? (i := 5) rfl) rfl), (jx_t4 (List.mem_of_getElem? (i := 79) rfl) rfl), rfl, ⟨by decide +kernel, by decide +kernel, by decide +kernel⟩⟩
theorem ks_X0_35 : jx_kS RX0 35 yX0_doerOf cX0_doerOf 4 (some .int) 2 := ⟨(jx_t4 (List.mem_of_getElem? (i := 80) rfl) rfl), (jx_t4 (List.mem_of_getElem? (i := 81) rfl) rfl), (jx_t1 (List.mem_of_getElem? (i := 5) rfl) rfl), (jx_t4 (List.mem_of_getElem? (i := 82) rfl) rfl), ⟨by decide +kernel, by decide +kernel, by decide +kernel⟩⟩
theorem kv_X0_38 : jx_kV RX0 38 RX0 yX0_begin cX0_begin 2 none 1 := ⟨(jx_t4 (List.mem_of_getElem? (i := 87) rfl) rfl), (jx_t4 (List.mem_of_getElem? (i := 89) rfl) rfl), (jx_pv (jx_p2 (List.mem_of_getElem? (i := 14) rfl))), (jx_t1 (List.mem_of_getElem? (i := 5) rfl) rfl), (jx_t4 (List.mem_of_getElem? (i := 90) rfl) rfl), rfl, ⟨by decide +kernel, by decide +kernel, by decide +kernel⟩⟩
theorem kv_X0_48 : jx_kV RX0 48 RX0 yX0_run cX0_run 11 (some .int) 5 := ⟨(jx_t4 (List.mem_of_getElem? (i := 91) rfl) rfl), (jx_t4 (List.mem_of_getElem? (i := 77) rfl) rfl), (jx_t4 (List.mem_of_getElem? (i := 78) rfl) rfl), (jx_t1 (List.mem_of_getElem? (i := 5) rfl) rfl), (jx_t4 (List.mem_of_getElem? (i := 79) rfl) rfl), rfl, ⟨by decide +kernel, by decide +kernel, by decide +kernel⟩⟩
theorem kv_L_123 : jx_kV RL 123 RX5 yX5_trace cX5_trace 2 (some .int) 1 := ⟨(jx_t4 (List.mem_of_getElem? (i := 92) rfl) rfl), (jx_t4 (List.mem_of_getElem? (i := 93) rfl) rfl), (jx_t4 (List.mem_of_getElem? (i := 94) rfl) rfl), (jx_t1 (List.mem_of_getElem? (i := 1) rfl) rfl), (jx_t4 (List.mem_of_getElem? (i := 95) rfl) rfl), rfl, ⟨by decide +kernel, by decide +kernel, by decide +kernel⟩⟩
theorem kv_X5_239 : jx_kV RX5 239 RX0 yX0_kept cX0_kept 1 (some .int) 0 := ⟨(jx_t4 (List.mem_of_getElem? (i := 96) rfl) rfl), (jx_t4 (List.mem_of_getElem? (i := 97) rfl) rfl), (jx_t4 (List.mem_of_getElem? (i := 98) rfl) rfl), (jx_t1 (List.mem_of_getElem? (i := 5) rfl) rfl), (jx_t4 (List.mem_of_getElem? (i := 99) rfl) rfl), rfl, ⟨by decide +kernel, by decide +kernel, by decide +kernel⟩⟩
theorem kv_L_127 : jx_kV RL 127 RX5 yX5_as cX5_as 4 (some .int) 2 := ⟨(jx_t4 (List.mem_of_getElem? (i := 101) rfl) rfl), (jx_t4 (List.mem_of_getElem? (i := 102) rfl) rfl), (jx_t4 (List.mem_of_getElem? (i := 103) rfl) rfl), (jx_t1 (List.mem_of_getElem? (i := 1) rfl) rfl), (jx_t4 (List.mem_of_getElem? (i := 104) rfl) rfl), rfl, ⟨by decide +kernel, by decide +kernel, by decide +kernel⟩⟩
theorem ks_X5_245 : jx_kS RX5 245 yX0_isUnder cX0_isUnder 4 (some .boolean) 2 := ⟨(jx_t4 (List.mem_of_getElem? (i := 105) rfl) rfl), (jx_t4 (List.mem_of_getElem? (i := 106) rfl) rfl), (jx_t1 (List.mem_of_getElem? (i := 5) rfl) rfl), (jx_t4 (List.mem_of_getElem? (i := 107) rfl) rfl), ⟨by decide +kernel, by decide +kernel, by decide +kernel⟩⟩
theorem kv_L_131 : jx_kV RL 131 RX5 yX5_image cX5_image 1 (some .int) 0 := ⟨(jx_t4 (List.mem_of_getElem? (i := 108) rfl) rfl), (jx_t4 (List.mem_of_getElem? (i := 109) rfl) rfl), (jx_t4 (List.mem_of_getElem? (i := 110) rfl) rfl), (jx_t1 (List.mem_of_getElem? (i := 1) rfl) rfl), (jx_t4 (List.mem_of_getElem? (i := 111) rfl) rfl), rfl, ⟨by decide +kernel, by decide +kernel, by decide +kernel⟩⟩
theorem kv_X5_248 : jx_kV RX5 248 RX1 yX1_copy cX1_copy 2 none 1 := ⟨(jx_t4 (List.mem_of_getElem? (i := 112) rfl) rfl), (jx_t4 (List.mem_of_getElem? (i := 113) rfl) rfl), (jx_t4 (List.mem_of_getElem? (i := 114) rfl) rfl), (jx_t1 (List.mem_of_getElem? (i := 2) rfl) rfl), (jx_t4 (List.mem_of_getElem? (i := 115) rfl) rfl), rfl, ⟨by decide +kernel, by decide +kernel, by decide +kernel⟩⟩
theorem ks_X1_74 : jx_kS RX1 74 yX1_copyRows cX1_copyRows 3 none 2 := ⟨(jx_t4 (List.mem_of_getElem? (i := 116) rfl) rfl), (jx_t4 (List.mem_of_getElem? (i := 117) rfl) rfl), (jx_t1 (List.mem_of_getElem? (i := 2) rfl) rfl), (jx_t4 (List.mem_of_getElem? (i := 118) rfl) rfl), ⟨by decide +kernel, by decide +kernel, by decide +kernel⟩⟩
theorem ks_X1_78 : jx_kS RX1 78 yX1_copyRow cX1_copyRow 2 none 2 := ⟨(jx_t4 (List.mem_of_getElem? (i := 119) rfl) rfl), (jx_t4 (List.mem_of_getElem? (i := 120) rfl) rfl), (jx_t1 (List.mem_of_getElem? (i := 2) rfl) rfl), (jx_t4 (List.mem_of_getElem? (i := 121) rfl) rfl), ⟨by decide +kernel, by decide +kernel, by decide +kernel⟩⟩
theorem kv_L_135 : jx_kV RL 135 RX5 yX5_undo cX5_undo 1 (some .int) 0 := ⟨(jx_t4 (List.mem_of_getElem? (i := 124) rfl) rfl), (jx_t4 (List.mem_of_getElem? (i := 125) rfl) rfl), (jx_t4 (List.mem_of_getElem? (i := 126) rfl) rfl), (jx_t1 (List.mem_of_getElem? (i := 1) rfl) rfl), (jx_t4 (List.mem_of_getElem? (i := 127) rfl) rfl), rfl, ⟨by decide +kernel, by decide +kernel, by decide +kernel⟩⟩
theorem kv_L_139 : jx_kV RL 139 RX5 yX5_count cX5_count 2 (some .int) 1 := ⟨(jx_t4 (List.mem_of_getElem? (i := 128) rfl) rfl), (jx_t4 (List.mem_of_getElem? (i := 129) rfl) rfl), (jx_t4 (List.mem_of_getElem? (i := 130) rfl) rfl), (jx_t1 (List.mem_of_getElem? (i := 1) rfl) rfl), (jx_t4 (List.mem_of_getElem? (i := 131) rfl) rfl), rfl, ⟨by decide +kernel, by decide +kernel, by decide +kernel⟩⟩
theorem kv_X6_40 : jx_kV RX6 40 RX6 yX6_asAtFirst cX6_asAtFirst 3 none 1 := ⟨(jx_t4 (List.mem_of_getElem? (i := 138) rfl) rfl), (jx_t4 (List.mem_of_getElem? (i := 140) rfl) rfl), (jx_pv (jx_p2 (List.mem_of_getElem? (i := 15) rfl))), (jx_t1 (List.mem_of_getElem? (i := 7) rfl) rfl), (jx_t4 (List.mem_of_getElem? (i := 141) rfl) rfl), rfl, ⟨by decide +kernel, by decide +kernel, by decide +kernel⟩⟩
theorem kv_L_17 : jx_kV RL 17 RX6 yX6_feed cX6_feed 2 (some .int) 1 := ⟨(jx_t4 (List.mem_of_getElem? (i := 221) rfl) rfl), (jx_t4 (List.mem_of_getElem? (i := 222) rfl) rfl), (jx_t4 (List.mem_of_getElem? (i := 223) rfl) rfl), (jx_t1 (List.mem_of_getElem? (i := 7) rfl) rfl), (jx_t4 (List.mem_of_getElem? (i := 224) rfl) rfl), rfl, ⟨by decide +kernel, by decide +kernel, by decide +kernel⟩⟩
theorem ks_X6_48 : jx_kS RX6 48 yX6_in cX6_in 3 (some .boolean) 3 := ⟨(jx_t4 (List.mem_of_getElem? (i := 225) rfl) rfl), (jx_t4 (List.mem_of_getElem? (i := 226) rfl) rfl), (jx_t1 (List.mem_of_getElem? (i := 7) rfl) rfl), (jx_t4 (List.mem_of_getElem? (i := 227) rfl) rfl), ⟨by decide +kernel, by decide +kernel, by decide +kernel⟩⟩
theorem kv_L_22 : jx_kV RL 22 RX6 yX6_tide cX6_tide 2 (some .int) 0 := ⟨(jx_t4 (List.mem_of_getElem? (i := 228) rfl) rfl), (jx_t4 (List.mem_of_getElem? (i := 229) rfl) rfl), (jx_t4 (List.mem_of_getElem? (i := 230) rfl) rfl), (jx_t1 (List.mem_of_getElem? (i := 7) rfl) rfl), (jx_t4 (List.mem_of_getElem? (i := 231) rfl) rfl), rfl, ⟨by decide +kernel, by decide +kernel, by decide +kernel⟩⟩
theorem kv_X6_126 : jx_kV RX6 126 RX6 yX6_clauseHere cX6_clauseHere 1 none 0 := ⟨(jx_t4 (List.mem_of_getElem? (i := 232) rfl) rfl), (jx_t4 (List.mem_of_getElem? (i := 234) rfl) rfl), (jx_pv (jx_p3 (List.mem_of_getElem? (i := 0) rfl))), (jx_t1 (List.mem_of_getElem? (i := 7) rfl) rfl), (jx_t4 (List.mem_of_getElem? (i := 235) rfl) rfl), rfl, ⟨by decide +kernel, by decide +kernel, by decide +kernel⟩⟩
theorem kv_X6_62 : jx_kV RX6 62 RX6 yX6_here cX6_here 1 (some .int) 0 := ⟨(jx_t4 (List.mem_of_getElem? (i := 236) rfl) rfl), (jx_t4 (List.mem_of_getElem? (i := 238) rfl) rfl), (jx_pv (jx_p3 (List.mem_of_getElem? (i := 1) rfl))), (jx_t1 (List.mem_of_getElem? (i := 7) rfl) rfl), (jx_t4 (List.mem_of_getElem? (i := 239) rfl) rfl), rfl, ⟨by decide +kernel, by decide +kernel, by decide +kernel⟩⟩
theorem kv_X6_113 : jx_kV RX6 113 RX6 yX6_plain cX6_plain 3 none 2 := ⟨(jx_t5 (List.mem_of_getElem? (i := 1) rfl) rfl), (jx_t5 (List.mem_of_getElem? (i := 3) rfl) rfl), (jx_pv (jx_p3 (List.mem_of_getElem? (i := 2) rfl))), (jx_t1 (List.mem_of_getElem? (i := 7) rfl) rfl), (jx_t5 (List.mem_of_getElem? (i := 4) rfl) rfl), rfl, ⟨by decide +kernel, by decide +kernel, by decide +kernel⟩⟩
theorem kv_X6_107 : jx_kV RX6 107 RX6 yX6_spells cX6_spells 3 none 1 := ⟨(jx_t5 (List.mem_of_getElem? (i := 5) rfl) rfl), (jx_t5 (List.mem_of_getElem? (i := 7) rfl) rfl), (jx_pv (jx_p3 (List.mem_of_getElem? (i := 3) rfl))), (jx_t1 (List.mem_of_getElem? (i := 7) rfl) rfl), (jx_t5 (List.mem_of_getElem? (i := 8) rfl) rfl), rfl, ⟨by decide +kernel, by decide +kernel, by decide +kernel⟩⟩
theorem kv_X6_75 : jx_kV RX6 75 RX6 yX6_must cX6_must 2 none 1 := ⟨(jx_t5 (List.mem_of_getElem? (i := 11) rfl) rfl), (jx_t5 (List.mem_of_getElem? (i := 13) rfl) rfl), (jx_pv (jx_p3 (List.mem_of_getElem? (i := 4) rfl))), (jx_t1 (List.mem_of_getElem? (i := 7) rfl) rfl), (jx_t5 (List.mem_of_getElem? (i := 14) rfl) rfl), rfl, ⟨by decide +kernel, by decide +kernel, by decide +kernel⟩⟩
theorem kv_X6_90 : jx_kV RX6 90 RX6 yX6_some cX6_some 1 none 0 := ⟨(jx_t5 (List.mem_of_getElem? (i := 15) rfl) rfl), (jx_t5 (List.mem_of_getElem? (i := 17) rfl) rfl), (jx_pv (jx_p3 (List.mem_of_getElem? (i := 5) rfl))), (jx_t1 (List.mem_of_getElem? (i := 7) rfl) rfl), (jx_t5 (List.mem_of_getElem? (i := 18) rfl) rfl), rfl, ⟨by decide +kernel, by decide +kernel, by decide +kernel⟩⟩
theorem kv_X6_104 : jx_kV RX6 104 RX6 yX6_every cX6_every 1 none 0 := ⟨(jx_t5 (List.mem_of_getElem? (i := 19) rfl) rfl), (jx_t5 (List.mem_of_getElem? (i := 21) rfl) rfl), (jx_pv (jx_p3 (List.mem_of_getElem? (i := 6) rfl))), (jx_t1 (List.mem_of_getElem? (i := 7) rfl) rfl), (jx_t5 (List.mem_of_getElem? (i := 22) rfl) rfl), rfl, ⟨by decide +kernel, by decide +kernel, by decide +kernel⟩⟩
theorem kv_X6_84 : jx_kV RX6 84 RX6 yX6_factor cX6_factor 5 none 0 := ⟨(jx_t5 (List.mem_of_getElem? (i := 23) rfl) rfl), (jx_t5 (List.mem_of_getElem? (i := 25) rfl) rfl), (jx_pv (jx_p3 (List.mem_of_getElem? (i := 7) rfl))), (jx_t1 (List.mem_of_getElem? (i := 7) rfl) rfl), (jx_t5 (List.mem_of_getElem? (i := 26) rfl) rfl), rfl, ⟨by decide +kernel, by decide +kernel, by decide +kernel⟩⟩
theorem kv_X6_87 : jx_kV RX6 87 RX6 yX6_emits cX6_emits 2 none 1 := ⟨(jx_t5 (List.mem_of_getElem? (i := 27) rfl) rfl), (jx_t5 (List.mem_of_getElem? (i := 29) rfl) rfl), (jx_pv (jx_p3 (List.mem_of_getElem? (i := 8) rfl))), (jx_t1 (List.mem_of_getElem? (i := 7) rfl) rfl), (jx_t5 (List.mem_of_getElem? (i := 30) rfl) rfl), rfl, ⟨by decide +kernel, by decide +kernel, by decide +kernel⟩⟩
theorem kv_X6_95 : jx_kV RX6 95 RX6 yX6_among cX6_among 3 (some .int) 1 := ⟨(jx_t5 (List.mem_of_getElem? (i := 32) rfl) rfl), (jx_t5 (List.mem_of_getElem? (i := 34) rfl) rfl), (jx_pv (jx_p3 (List.mem_of_getElem? (i := 9) rfl))), (jx_t1 (List.mem_of_getElem? (i := 7) rfl) rfl), (jx_t5 (List.mem_of_getElem? (i := 35) rfl) rfl), rfl, ⟨by decide +kernel, by decide +kernel, by decide +kernel⟩⟩
theorem kv_X6_101 : jx_kV RX6 101 RX6 yX6_figures cX6_figures 3 (some .int) 0 := ⟨(jx_t5 (List.mem_of_getElem? (i := 37) rfl) rfl), (jx_t5 (List.mem_of_getElem? (i := 39) rfl) rfl), (jx_pv (jx_p3 (List.mem_of_getElem? (i := 10) rfl))), (jx_t1 (List.mem_of_getElem? (i := 7) rfl) rfl), (jx_t5 (List.mem_of_getElem? (i := 40) rfl) rfl), rfl, ⟨by decide +kernel, by decide +kernel, by decide +kernel⟩⟩
theorem kv_X6_121 : jx_kV RX6 121 RX6 yX6_much cX6_much 4 none 2 := ⟨(jx_t5 (List.mem_of_getElem? (i := 43) rfl) rfl), (jx_t5 (List.mem_of_getElem? (i := 45) rfl) rfl), (jx_pv (jx_p3 (List.mem_of_getElem? (i := 11) rfl))), (jx_t1 (List.mem_of_getElem? (i := 7) rfl) rfl), (jx_t5 (List.mem_of_getElem? (i := 46) rfl) rfl), rfl, ⟨by decide +kernel, by decide +kernel, by decide +kernel⟩⟩
theorem kv_L_26 : jx_kV RL 26 RX6 yX6_places cX6_places 3 (some .int) 1 := ⟨(jx_t5 (List.mem_of_getElem? (i := 48) rfl) rfl), (jx_t5 (List.mem_of_getElem? (i := 49) rfl) rfl), (jx_t5 (List.mem_of_getElem? (i := 50) rfl) rfl), (jx_t1 (List.mem_of_getElem? (i := 7) rfl) rfl), (jx_t5 (List.mem_of_getElem? (i := 51) rfl) rfl), rfl, ⟨by decide +kernel, by decide +kernel, by decide +kernel⟩⟩
theorem kv_L_31 : jx_kV RL 31 RX6 yX6_place cX6_place 5 (some .int) 3 := ⟨(jx_t5 (List.mem_of_getElem? (i := 52) rfl) rfl), (jx_t5 (List.mem_of_getElem? (i := 53) rfl) rfl), (jx_t5 (List.mem_of_getElem? (i := 54) rfl) rfl), (jx_t1 (List.mem_of_getElem? (i := 7) rfl) rfl), (jx_t5 (List.mem_of_getElem? (i := 55) rfl) rfl), rfl, ⟨by decide +kernel, by decide +kernel, by decide +kernel⟩⟩
theorem kv_X6_145 : jx_kV RX6 145 RX6 yX6_isPlace cX6_isPlace 2 (some .boolean) 1 := ⟨(jx_t5 (List.mem_of_getElem? (i := 56) rfl) rfl), (jx_t5 (List.mem_of_getElem? (i := 58) rfl) rfl), (jx_pv (jx_p3 (List.mem_of_getElem? (i := 12) rfl))), (jx_t1 (List.mem_of_getElem? (i := 7) rfl) rfl), (jx_t5 (List.mem_of_getElem? (i := 59) rfl) rfl), rfl, ⟨by decide +kernel, by decide +kernel, by decide +kernel⟩⟩
theorem kv_L_36 : jx_kV RL 36 RX6 yX6_at cX6_at 4 (some .int) 2 := ⟨(jx_t5 (List.mem_of_getElem? (i := 60) rfl) rfl), (jx_t5 (List.mem_of_getElem? (i := 61) rfl) rfl), (jx_t5 (List.mem_of_getElem? (i := 62) rfl) rfl), (jx_t1 (List.mem_of_getElem? (i := 7) rfl) rfl), (jx_t5 (List.mem_of_getElem? (i := 63) rfl) rfl), rfl, ⟨by decide +kernel, by decide +kernel, by decide +kernel⟩⟩
theorem kv_X6_149 : jx_kV RX6 149 RX6 yX6_goesFrom cX6_goesFrom 3 (some .int) 2 := ⟨(jx_t5 (List.mem_of_getElem? (i := 64) rfl) rfl), (jx_t5 (List.mem_of_getElem? (i := 66) rfl) rfl), (jx_pv (jx_p3 (List.mem_of_getElem? (i := 13) rfl))), (jx_t1 (List.mem_of_getElem? (i := 7) rfl) rfl), (jx_t5 (List.mem_of_getElem? (i := 67) rfl) rfl), rfl, ⟨by decide +kernel, by decide +kernel, by decide +kernel⟩⟩
theorem kv_X6_141 : jx_kV RX6 141 RX6 yX6_looks cX6_looks 11 none 2 := ⟨(jx_t5 (List.mem_of_getElem? (i := 68) rfl) rfl), (jx_t5 (List.mem_of_getElem? (i := 70) rfl) rfl), (jx_pv (jx_p3 (List.mem_of_getElem? (i := 14) rfl))), (jx_t1 (List.mem_of_getElem? (i := 7) rfl) rfl), (jx_t5 (List.mem_of_getElem? (i := 71) rfl) rfl), rfl, ⟨by decide +kernel, by decide +kernel, by decide +kernel⟩⟩
theorem kv_L_41 : jx_kV RL 41 RX6 yX6_voter cX6_voter 8 (some .int) 5 := ⟨(jx_t5 (List.mem_of_getElem? (i := 72) rfl) rfl), (jx_t5 (List.mem_of_getElem? (i := 73) rfl) rfl), (jx_t5 (List.mem_of_getElem? (i := 74) rfl) rfl), (jx_t1 (List.mem_of_getElem? (i := 7) rfl) rfl), (jx_t5 (List.mem_of_getElem? (i := 75) rfl) rfl), rfl, ⟨by decide +kernel, by decide +kernel, by decide +kernel⟩⟩
theorem kv_L_45 : jx_kV RL 45 RX6 yX6_of cX6_of 3 (some .int) 2 := ⟨(jx_t5 (List.mem_of_getElem? (i := 76) rfl) rfl), (jx_t5 (List.mem_of_getElem? (i := 77) rfl) rfl), (jx_t5 (List.mem_of_getElem? (i := 78) rfl) rfl), (jx_t1 (List.mem_of_getElem? (i := 7) rfl) rfl), (jx_t5 (List.mem_of_getElem? (i := 79) rfl) rfl), rfl, ⟨by decide +kernel, by decide +kernel, by decide +kernel⟩⟩
theorem kv_X6_163 : jx_kV RX6 163 RX6 yX6_isVoter cX6_isVoter 2 (some .boolean) 1 := ⟨(jx_t5 (List.mem_of_getElem? (i := 80) rfl) rfl), (jx_t5 (List.mem_of_getElem? (i := 82) rfl) rfl), (jx_pv (jx_p3 (List.mem_of_getElem? (i := 15) rfl))), (jx_t1 (List.mem_of_getElem? (i := 7) rfl) rfl), (jx_t5 (List.mem_of_getElem? (i := 83) rfl) rfl), rfl, ⟨by decide +kernel, by decide +kernel, by decide +kernel⟩⟩
theorem kv_X6_166 : jx_kV RX6 166 RX6 yX6_setsOf cX6_setsOf 3 (some .int) 1 := ⟨(jx_t5 (List.mem_of_getElem? (i := 84) rfl) rfl), (jx_t5 (List.mem_of_getElem? (i := 86) rfl) rfl), (jx_pv (jx_p4 (List.mem_of_getElem? (i := 0) rfl))), (jx_t1 (List.mem_of_getElem? (i := 7) rfl) rfl), (jx_t5 (List.mem_of_getElem? (i := 87) rfl) rfl), rfl, ⟨by decide +kernel, by decide +kernel, by decide +kernel⟩⟩
theorem kv_X6_153 : jx_kV RX6 153 RX6 yX6_upperOf cX6_upperOf 3 (some .int) 1 := ⟨(jx_t5 (List.mem_of_getElem? (i := 88) rfl) rfl), (jx_t5 (List.mem_of_getElem? (i := 90) rfl) rfl), (jx_pv (jx_p4 (List.mem_of_getElem? (i := 1) rfl))), (jx_t1 (List.mem_of_getElem? (i := 7) rfl) rfl), (jx_t5 (List.mem_of_getElem? (i := 91) rfl) rfl), rfl, ⟨by decide +kernel, by decide +kernel, by decide +kernel⟩⟩
theorem kv_X6_157 : jx_kV RX6 157 RX6 yX6_crowded cX6_crowded 6 (some .int) 0 := ⟨(jx_t5 (List.mem_of_getElem? (i := 92) rfl) rfl), (jx_t5 (List.mem_of_getElem? (i := 94) rfl) rfl), (jx_pv (jx_p4 (List.mem_of_getElem? (i := 2) rfl))), (jx_t1 (List.mem_of_getElem? (i := 7) rfl) rfl), (jx_t5 (List.mem_of_getElem? (i := 95) rfl) rfl), rfl, ⟨by decide +kernel, by decide +kernel, by decide +kernel⟩⟩
theorem kv_X6_160 : jx_kV RX6 160 RX6 yX6_delayOf cX6_delayOf 2 (some .int) 1 := ⟨(jx_t5 (List.mem_of_getElem? (i := 96) rfl) rfl), (jx_t5 (List.mem_of_getElem? (i := 98) rfl) rfl), (jx_pv (jx_p4 (List.mem_of_getElem? (i := 3) rfl))), (jx_t1 (List.mem_of_getElem? (i := 7) rfl) rfl), (jx_t5 (List.mem_of_getElem? (i := 99) rfl) rfl), rfl, ⟨by decide +kernel, by decide +kernel, by decide +kernel⟩⟩
theorem kv_X6_169 : jx_kV RX6 169 RX6 yX6_burnsAt cX6_burnsAt 4 (some .int) 2 := ⟨(jx_t5 (List.mem_of_getElem? (i := 100) rfl) rfl), (jx_t5 (List.mem_of_getElem? (i := 102) rfl) rfl), (jx_pv (jx_p4 (List.mem_of_getElem? (i := 4) rfl))), (jx_t1 (List.mem_of_getElem? (i := 7) rfl) rfl), (jx_t5 (List.mem_of_getElem? (i := 103) rfl) rfl), rfl, ⟨by decide +kernel, by decide +kernel, by decide +kernel⟩⟩
theorem kv_L_49 : jx_kV RL 49 RX6 yX6_wish cX6_wish 4 (some .int) 2 := ⟨(jx_t5 (List.mem_of_getElem? (i := 104) rfl) rfl), (jx_t5 (List.mem_of_getElem? (i := 105) rfl) rfl), (jx_t5 (List.mem_of_getElem? (i := 106) rfl) rfl), (jx_t1 (List.mem_of_getElem? (i := 7) rfl) rfl), (jx_t5 (List.mem_of_getElem? (i := 107) rfl) rfl), rfl, ⟨by decide +kernel, by decide +kernel, by decide +kernel⟩⟩
theorem kv_L_53 : jx_kV RL 53 RX6 yX6_row cX6_row 5 (some .int) 3 := ⟨(jx_t5 (List.mem_of_getElem? (i := 108) rfl) rfl), (jx_t5 (List.mem_of_getElem? (i := 109) rfl) rfl), (jx_t5 (List.mem_of_getElem? (i := 110) rfl) rfl), (jx_t1 (List.mem_of_getElem? (i := 7) rfl) rfl), (jx_t5 (List.mem_of_getElem? (i := 111) rfl) rfl), rfl, ⟨by decide +kernel, by decide +kernel, by decide +kernel⟩⟩
theorem kv_L_57 : jx_kV RL 57 RX6 yX6_minutes cX6_minutes 2 (some .int) 1 := ⟨(jx_t5 (List.mem_of_getElem? (i := 112) rfl) rfl), (jx_t5 (List.mem_of_getElem? (i := 113) rfl) rfl), (jx_t5 (List.mem_of_getElem? (i := 114) rfl) rfl), (jx_t1 (List.mem_of_getElem? (i := 7) rfl) rfl), (jx_t5 (List.mem_of_getElem? (i := 115) rfl) rfl), rfl, ⟨by decide +kernel, by decide +kernel, by decide +kernel⟩⟩
theorem kv_L_61 : jx_kV RL 61 RX6 yX6_vote cX6_vote 2 (some .int) 1 := ⟨(jx_t5 (List.mem_of_getElem? (i := 116) rfl) rfl), (jx_t5 (List.mem_of_getElem? (i := 117) rfl) rfl), (jx_t5 (List.mem_of_getElem? (i := 118) rfl) rfl), (jx_t1 (List.mem_of_getElem? (i := 7) rfl) rfl), (jx_t5 (List.mem_of_getElem? (i := 119) rfl) rfl), rfl, ⟨by decide +kernel, by decide +kernel, by decide +kernel⟩⟩
theorem kv_X6_185 : jx_kV RX6 185 RX6 yX6_looksForNight cX6_looksForNight 3 none 0 := ⟨(jx_t5 (List.mem_of_getElem? (i := 120) rfl) rfl), (jx_t5 (List.mem_of_getElem? (i := 122) rfl) rfl), (jx_pv (jx_p4 (List.mem_of_getElem? (i := 5) rfl))), (jx_t1 (List.mem_of_getElem? (i := 7) rfl) rfl), (jx_t5 (List.mem_of_getElem? (i := 123) rfl) rfl), rfl, ⟨by decide +kernel, by decide +kernel, by decide +kernel⟩⟩
theorem kv_X6_188 : jx_kV RX6 188 RX6 yX6_laysAll cX6_laysAll 2 none 0 := ⟨(jx_t5 (List.mem_of_getElem? (i := 124) rfl) rfl), (jx_t5 (List.mem_of_getElem? (i := 126) rfl) rfl), (jx_pv (jx_p4 (List.mem_of_getElem? (i := 6) rfl))), (jx_t1 (List.mem_of_getElem? (i := 7) rfl) rfl), (jx_t5 (List.mem_of_getElem? (i := 127) rfl) rfl), rfl, ⟨by decide +kernel, by decide +kernel, by decide +kernel⟩⟩
theorem kv_X6_176 : jx_kV RX6 176 RX6 yX6_lays cX6_lays 3 none 2 := ⟨(jx_t5 (List.mem_of_getElem? (i := 128) rfl) rfl), (jx_t5 (List.mem_of_getElem? (i := 130) rfl) rfl), (jx_pv (jx_p4 (List.mem_of_getElem? (i := 7) rfl))), (jx_t1 (List.mem_of_getElem? (i := 7) rfl) rfl), (jx_t5 (List.mem_of_getElem? (i := 131) rfl) rfl), rfl, ⟨by decide +kernel, by decide +kernel, by decide +kernel⟩⟩
theorem kv_X6_172 : jx_kV RX6 172 RX6 yX6_lampAt cX6_lampAt 8 (some .int) 3 := ⟨(jx_t5 (List.mem_of_getElem? (i := 132) rfl) rfl), (jx_t5 (List.mem_of_getElem? (i := 134) rfl) rfl), (jx_pv (jx_p4 (List.mem_of_getElem? (i := 8) rfl))), (jx_t1 (List.mem_of_getElem? (i := 7) rfl) rfl), (jx_t5 (List.mem_of_getElem? (i := 135) rfl) rfl), rfl, ⟨by decide +kernel, by decide +kernel, by decide +kernel⟩⟩
theorem kv_X6_191 : jx_kV RX6 191 RX6 yX6_mayor cX6_mayor 1 (some .int) 0 := ⟨(jx_t5 (List.mem_of_getElem? (i := 136) rfl) rfl), (jx_t5 (List.mem_of_getElem? (i := 138) rfl) rfl), (jx_pv (jx_p4 (List.mem_of_getElem? (i := 9) rfl))), (jx_t1 (List.mem_of_getElem? (i := 7) rfl) rfl), (jx_t5 (List.mem_of_getElem? (i := 139) rfl) rfl), rfl, ⟨by decide +kernel, by decide +kernel, by decide +kernel⟩⟩
theorem kv_X6_179 : jx_kV RX6 179 RX6 yX6_votesFor cX6_votesFor 4 (some .int) 1 := ⟨(jx_t5 (List.mem_of_getElem? (i := 140) rfl) rfl), (jx_t5 (List.mem_of_getElem? (i := 142) rfl) rfl), (jx_pv (jx_p4 (List.mem_of_getElem? (i := 10) rfl))), (jx_t1 (List.mem_of_getElem? (i := 7) rfl) rfl), (jx_t5 (List.mem_of_getElem? (i := 143) rfl) rfl), rfl, ⟨by decide +kernel, by decide +kernel, by decide +kernel⟩⟩
theorem ks_X6_182 : jx_kS RX6 182 yX6_greater cX6_greater 2 (some .int) 2 := ⟨(jx_t5 (List.mem_of_getElem? (i := 144) rfl) rfl), (jx_t5 (List.mem_of_getElem? (i := 145) rfl) rfl), (jx_t1 (List.mem_of_getElem? (i := 7) rfl) rfl), (jx_t5 (List.mem_of_getElem? (i := 146) rfl) rfl), ⟨by decide +kernel, by decide +kernel, by decide +kernel⟩⟩
theorem kv_L_65 : jx_kV RL 65 RX6 yX6_lies cX6_lies 3 (some .int) 2 := ⟨(jx_t5 (List.mem_of_getElem? (i := 147) rfl) rfl), (jx_t5 (List.mem_of_getElem? (i := 148) rfl) rfl), (jx_t5 (List.mem_of_getElem? (i := 149) rfl) rfl), (jx_t1 (List.mem_of_getElem? (i := 7) rfl) rfl), (jx_t5 (List.mem_of_getElem? (i := 150) rfl) rfl), rfl, ⟨by decide +kernel, by decide +kernel, by decide +kernel⟩⟩
theorem kv_L_69 : jx_kV RL 69 RX6 yX6_ward cX6_ward 6 (some .int) 1 := ⟨(jx_t5 (List.mem_of_getElem? (i := 151) rfl) rfl), (jx_t5 (List.mem_of_getElem? (i := 152) rfl) rfl), (jx_t5 (List.mem_of_getElem? (i := 153) rfl) rfl), (jx_t1 (List.mem_of_getElem? (i := 7) rfl) rfl), (jx_t5 (List.mem_of_getElem? (i := 154) rfl) rfl), rfl, ⟨by decide +kernel, by decide +kernel, by decide +kernel⟩⟩
theorem kv_L_73 : jx_kV RL 73 RX6 yX6_drifts cX6_drifts 3 (some .int) 2 := ⟨(jx_t5 (List.mem_of_getElem? (i := 155) rfl) rfl), (jx_t5 (List.mem_of_getElem? (i := 156) rfl) rfl), (jx_t5 (List.mem_of_getElem? (i := 157) rfl) rfl), (jx_t1 (List.mem_of_getElem? (i := 7) rfl) rfl), (jx_t5 (List.mem_of_getElem? (i := 158) rfl) rfl), rfl, ⟨by decide +kernel, by decide +kernel, by decide +kernel⟩⟩
theorem kv_X6_194 : jx_kV RX6 194 RX6 yX6_driftOf cX6_driftOf 5 (some .int) 2 := ⟨(jx_t5 (List.mem_of_getElem? (i := 159) rfl) rfl), (jx_t5 (List.mem_of_getElem? (i := 161) rfl) rfl), (jx_pv (jx_p4 (List.mem_of_getElem? (i := 11) rfl))), (jx_t1 (List.mem_of_getElem? (i := 7) rfl) rfl), (jx_t5 (List.mem_of_getElem? (i := 162) rfl) rfl), rfl, ⟨by decide +kernel, by decide +kernel, by decide +kernel⟩⟩
theorem kv_L_77 : jx_kV RL 77 RX6 yX6_from cX6_from 7 (some .int) 3 := ⟨(jx_t5 (List.mem_of_getElem? (i := 163) rfl) rfl), (jx_t5 (List.mem_of_getElem? (i := 164) rfl) rfl), (jx_t5 (List.mem_of_getElem? (i := 165) rfl) rfl), (jx_t1 (List.mem_of_getElem? (i := 7) rfl) rfl), (jx_t5 (List.mem_of_getElem? (i := 166) rfl) rfl), rfl, ⟨by decide +kernel, by decide +kernel, by decide +kernel⟩⟩
theorem kv_L_81 : jx_kV RL 81 RX6 yX6_turns cX6_turns 8 (some .int) 1 := ⟨(jx_t5 (List.mem_of_getElem? (i := 167) rfl) rfl), (jx_t5 (List.mem_of_getElem? (i := 168) rfl) rfl), (jx_t5 (List.mem_of_getElem? (i := 169) rfl) rfl), (jx_t1 (List.mem_of_getElem? (i := 7) rfl) rfl), (jx_t5 (List.mem_of_getElem? (i := 170) rfl) rfl), rfl, ⟨by decide +kernel, by decide +kernel, by decide +kernel⟩⟩
theorem kv_X6_200 : jx_kV RX6 200 RX6 yX6_mayorBy cX6_mayorBy 3 (some .int) 1 := ⟨(jx_t5 (List.mem_of_getElem? (i := 171) rfl) rfl), (jx_t5 (List.mem_of_getElem? (i := 173) rfl) rfl), (jx_pv (jx_p4 (List.mem_of_getElem? (i := 12) rfl))), (jx_t1 (List.mem_of_getElem? (i := 7) rfl) rfl), (jx_t5 (List.mem_of_getElem? (i := 174) rfl) rfl), rfl, ⟨by decide +kernel, by decide +kernel, by decide +kernel⟩⟩
theorem kv_X6_197 : jx_kV RX6 197 RX6 yX6_turnsWishes cX6_turnsWishes 3 none 1 := ⟨(jx_t5 (List.mem_of_getElem? (i := 175) rfl) rfl), (jx_t5 (List.mem_of_getElem? (i := 177) rfl) rfl), (jx_pv (jx_p4 (List.mem_of_getElem? (i := 13) rfl))), (jx_t1 (List.mem_of_getElem? (i := 7) rfl) rfl), (jx_t5 (List.mem_of_getElem? (i := 178) rfl) rfl), rfl, ⟨by decide +kernel, by decide +kernel, by decide +kernel⟩⟩
theorem ks_X6_203 : jx_kS RX6 203 yX6_count1 cX6_count1 3 (some .int) 1 := ⟨(jx_t5 (List.mem_of_getElem? (i := 179) rfl) rfl), (jx_t5 (List.mem_of_getElem? (i := 180) rfl) rfl), (jx_t1 (List.mem_of_getElem? (i := 7) rfl) rfl), (jx_t5 (List.mem_of_getElem? (i := 181) rfl) rfl), ⟨by decide +kernel, by decide +kernel, by decide +kernel⟩⟩
theorem kv_L_86 : jx_kV RL 86 RX6 yX6_sways cX6_sways 6 (some .long) 2 := ⟨(jx_t5 (List.mem_of_getElem? (i := 182) rfl) rfl), (jx_t5 (List.mem_of_getElem? (i := 183) rfl) rfl), (jx_t5 (List.mem_of_getElem? (i := 184) rfl) rfl), (jx_t1 (List.mem_of_getElem? (i := 7) rfl) rfl), (jx_t5 (List.mem_of_getElem? (i := 185) rfl) rfl), rfl, ⟨by decide +kernel, by decide +kernel, by decide +kernel⟩⟩
theorem ks_X6_208 : jx_kS RX6 208 yX6_lowest cX6_lowest 11 (some .long) 3 := ⟨(jx_t5 (List.mem_of_getElem? (i := 187) rfl) rfl), (jx_t5 (List.mem_of_getElem? (i := 188) rfl) rfl), (jx_t1 (List.mem_of_getElem? (i := 7) rfl) rfl), (jx_t5 (List.mem_of_getElem? (i := 189) rfl) rfl), ⟨by decide +kernel, by decide +kernel, by decide +kernel⟩⟩
theorem kv_L_90 : jx_kV RL 90 RX6 yX6_stick cX6_stick 4 (some .int) 1 := ⟨(jx_t5 (List.mem_of_getElem? (i := 190) rfl) rfl), (jx_t5 (List.mem_of_getElem? (i := 191) rfl) rfl), (jx_t5 (List.mem_of_getElem? (i := 192) rfl) rfl), (jx_t1 (List.mem_of_getElem? (i := 7) rfl) rfl), (jx_t5 (List.mem_of_getElem? (i := 193) rfl) rfl), rfl, ⟨by decide +kernel, by decide +kernel, by decide +kernel⟩⟩
theorem kv_L_94 : jx_kV RL 94 RX6 yX6_set cX6_set 3 (some .int) 2 := ⟨(jx_t5 (List.mem_of_getElem? (i := 194) rfl) rfl), (jx_t5 (List.mem_of_getElem? (i := 195) rfl) rfl), (jx_t5 (List.mem_of_getElem? (i := 196) rfl) rfl), (jx_t1 (List.mem_of_getElem? (i := 7) rfl) rfl), (jx_t5 (List.mem_of_getElem? (i := 197) rfl) rfl), rfl, ⟨by decide +kernel, by decide +kernel, by decide +kernel⟩⟩
theorem kv_X6_221 : jx_kV RX6 221 RX6 yX6_looksForBest cX6_looksForBest 5 none 1 := ⟨(jx_t5 (List.mem_of_getElem? (i := 198) rfl) rfl), (jx_t5 (List.mem_of_getElem? (i := 200) rfl) rfl), (jx_pv (jx_p4 (List.mem_of_getElem? (i := 14) rfl))), (jx_t1 (List.mem_of_getElem? (i := 7) rfl) rfl), (jx_t5 (List.mem_of_getElem? (i := 201) rfl) rfl), rfl, ⟨by decide +kernel, by decide +kernel, by decide +kernel⟩⟩
theorem kv_X6_215 : jx_kV RX6 215 RX6 yX6_moreOf cX6_moreOf 2 (some .int) 1 := ⟨(jx_t5 (List.mem_of_getElem? (i := 202) rfl) rfl), (jx_t5 (List.mem_of_getElem? (i := 204) rfl) rfl), (jx_pv (jx_p4 (List.mem_of_getElem? (i := 15) rfl))), (jx_t1 (List.mem_of_getElem? (i := 7) rfl) rfl), (jx_t5 (List.mem_of_getElem? (i := 205) rfl) rfl), rfl, ⟨by decide +kernel, by decide +kernel, by decide +kernel⟩⟩
theorem kv_L_98 : jx_kV RL 98 RX6 yX6_game cX6_game 9 (some .int) 3 := ⟨(jx_t5 (List.mem_of_getElem? (i := 206) rfl) rfl), (jx_t5 (List.mem_of_getElem? (i := 207) rfl) rfl), (jx_t5 (List.mem_of_getElem? (i := 208) rfl) rfl), (jx_t1 (List.mem_of_getElem? (i := 7) rfl) rfl), (jx_t5 (List.mem_of_getElem? (i := 209) rfl) rfl), rfl, ⟨by decide +kernel, by decide +kernel, by decide +kernel⟩⟩
theorem kv_L_102 : jx_kV RL 102 RX6 yX6_see cX6_see 3 (some .int) 2 := ⟨(jx_t5 (List.mem_of_getElem? (i := 210) rfl) rfl), (jx_t5 (List.mem_of_getElem? (i := 211) rfl) rfl), (jx_t5 (List.mem_of_getElem? (i := 212) rfl) rfl), (jx_t1 (List.mem_of_getElem? (i := 7) rfl) rfl), (jx_t5 (List.mem_of_getElem? (i := 213) rfl) rfl), rfl, ⟨by decide +kernel, by decide +kernel, by decide +kernel⟩⟩
theorem kv_L_106 : jx_kV RL 106 RX6 yX6_fits cX6_fits 6 (some .int) 1 := ⟨(jx_t5 (List.mem_of_getElem? (i := 214) rfl) rfl), (jx_t5 (List.mem_of_getElem? (i := 215) rfl) rfl), (jx_t5 (List.mem_of_getElem? (i := 216) rfl) rfl), (jx_t1 (List.mem_of_getElem? (i := 7) rfl) rfl), (jx_t5 (List.mem_of_getElem? (i := 217) rfl) rfl), rfl, ⟨by decide +kernel, by decide +kernel, by decide +kernel⟩⟩
theorem kv_X6_224 : jx_kV RX6 224 RX6 yX6_lampsAt cX6_lampsAt 4 (some .int) 1 := ⟨(jx_t5 (List.mem_of_getElem? (i := 218) rfl) rfl), (jx_t5 (List.mem_of_getElem? (i := 220) rfl) rfl), (jx_pv (jx_p5 (List.mem_of_getElem? (i := 0) rfl))), (jx_t1 (List.mem_of_getElem? (i := 7) rfl) rfl), (jx_t5 (List.mem_of_getElem? (i := 221) rfl) rfl), rfl, ⟨by decide +kernel, by decide +kernel, by decide +kernel⟩⟩
theorem kv_L_110 : jx_kV RL 110 RX6 yX6_fair cX6_fair 7 (some .int) 1 := ⟨(jx_t5 (List.mem_of_getElem? (i := 222) rfl) rfl), (jx_t5 (List.mem_of_getElem? (i := 223) rfl) rfl), (jx_t5 (List.mem_of_getElem? (i := 224) rfl) rfl), (jx_t1 (List.mem_of_getElem? (i := 7) rfl) rfl), (jx_t5 (List.mem_of_getElem? (i := 225) rfl) rfl), rfl, ⟨by decide +kernel, by decide +kernel, by decide +kernel⟩⟩
theorem kv_L_114 : jx_kV RL 114 RX6 yX6_tale cX6_tale 4 (some .int) 3 := ⟨(jx_t5 (List.mem_of_getElem? (i := 226) rfl) rfl), (jx_t5 (List.mem_of_getElem? (i := 227) rfl) rfl), (jx_t5 (List.mem_of_getElem? (i := 228) rfl) rfl), (jx_t1 (List.mem_of_getElem? (i := 7) rfl) rfl), (jx_t5 (List.mem_of_getElem? (i := 229) rfl) rfl), rfl, ⟨by decide +kernel, by decide +kernel, by decide +kernel⟩⟩
theorem kv_L_118 : jx_kV RL 118 RX6 yX6_looked cX6_looked 3 (some .int) 0 := ⟨(jx_t5 (List.mem_of_getElem? (i := 230) rfl) rfl), (jx_t5 (List.mem_of_getElem? (i := 231) rfl) rfl), (jx_t5 (List.mem_of_getElem? (i := 232) rfl) rfl), (jx_t1 (List.mem_of_getElem? (i := 7) rfl) rfl), (jx_t5 (List.mem_of_getElem? (i := 233) rfl) rfl), rfl, ⟨by decide +kernel, by decide +kernel, by decide +kernel⟩⟩
theorem kv_L_122 : jx_kV RL 122 RX6 yX6_act cX6_act 4 (some .int) 3 := ⟨(jx_t5 (List.mem_of_getElem? (i := 234) rfl) rfl), (jx_t5 (List.mem_of_getElem? (i := 235) rfl) rfl), (jx_t5 (List.mem_of_getElem? (i := 236) rfl) rfl), (jx_t1 (List.mem_of_getElem? (i := 7) rfl) rfl), (jx_t5 (List.mem_of_getElem? (i := 237) rfl) rfl), rfl, ⟨by decide +kernel, by decide +kernel, by decide +kernel⟩⟩
theorem kv_X6_246 : jx_kV RX6 246 RX6 yX6_setsActs cX6_setsActs 2 (some .int) 1 := ⟨(jx_t5 (List.mem_of_getElem? (i := 238) rfl) rfl), (jx_t6 (List.mem_of_getElem? (i := 0) rfl) rfl), (jx_pv (jx_p5 (List.mem_of_getElem? (i := 1) rfl))), (jx_t1 (List.mem_of_getElem? (i := 7) rfl) rfl), (jx_t6 (List.mem_of_getElem? (i := 1) rfl) rfl), rfl, ⟨by decide +kernel, by decide +kernel, by decide +kernel⟩⟩
theorem ks_X6_239 : jx_kS RX6 239 yX6_isUnder cX6_isUnder 2 (some .boolean) 2 := ⟨(jx_t6 (List.mem_of_getElem? (i := 2) rfl) rfl), (jx_t6 (List.mem_of_getElem? (i := 3) rfl) rfl), (jx_t1 (List.mem_of_getElem? (i := 7) rfl) rfl), (jx_t6 (List.mem_of_getElem? (i := 4) rfl) rfl), ⟨by decide +kernel, by decide +kernel, by decide +kernel⟩⟩
theorem kv_X6_230 : jx_kV RX6 230 RX6 yX6_ranBody cX6_ranBody 2 none 1 := ⟨(jx_t6 (List.mem_of_getElem? (i := 5) rfl) rfl), (jx_t6 (List.mem_of_getElem? (i := 7) rfl) rfl), (jx_pv (jx_p5 (List.mem_of_getElem? (i := 2) rfl))), (jx_t1 (List.mem_of_getElem? (i := 7) rfl) rfl), (jx_t6 (List.mem_of_getElem? (i := 8) rfl) rfl), rfl, ⟨by decide +kernel, by decide +kernel, by decide +kernel⟩⟩
theorem kv_X6_243 : jx_kV RX6 243 RX6 yX6_plainSets cX6_plainSets 2 (some .int) 1 := ⟨(jx_t6 (List.mem_of_getElem? (i := 9) rfl) rfl), (jx_t6 (List.mem_of_getElem? (i := 11) rfl) rfl), (jx_pv (jx_p5 (List.mem_of_getElem? (i := 3) rfl))), (jx_t1 (List.mem_of_getElem? (i := 7) rfl) rfl), (jx_t6 (List.mem_of_getElem? (i := 12) rfl) rfl), rfl, ⟨by decide +kernel, by decide +kernel, by decide +kernel⟩⟩
theorem kv_X6_255 : jx_kV RX6 255 RX6 yX6_burnsActs cX6_burnsActs 2 (some .int) 1 := ⟨(jx_t6 (List.mem_of_getElem? (i := 13) rfl) rfl), (jx_t6 (List.mem_of_getElem? (i := 15) rfl) rfl), (jx_pv (jx_p5 (List.mem_of_getElem? (i := 4) rfl))), (jx_t1 (List.mem_of_getElem? (i := 7) rfl) rfl), (jx_t6 (List.mem_of_getElem? (i := 16) rfl) rfl), rfl, ⟨by decide +kernel, by decide +kernel, by decide +kernel⟩⟩
theorem kv_X6_252 : jx_kV RX6 252 RX6 yX6_plainBurns cX6_plainBurns 2 (some .int) 1 := ⟨(jx_t6 (List.mem_of_getElem? (i := 17) rfl) rfl), (jx_t6 (List.mem_of_getElem? (i := 19) rfl) rfl), (jx_pv (jx_p5 (List.mem_of_getElem? (i := 5) rfl))), (jx_t1 (List.mem_of_getElem? (i := 7) rfl) rfl), (jx_t6 (List.mem_of_getElem? (i := 20) rfl) rfl), rfl, ⟨by decide +kernel, by decide +kernel, by decide +kernel⟩⟩
theorem kv_X6_261 : jx_kV RX6 261 RX6 yX6_tellsActs cX6_tellsActs 3 (some .int) 1 := ⟨(jx_t6 (List.mem_of_getElem? (i := 21) rfl) rfl), (jx_t6 (List.mem_of_getElem? (i := 23) rfl) rfl), (jx_pv (jx_p5 (List.mem_of_getElem? (i := 6) rfl))), (jx_t1 (List.mem_of_getElem? (i := 7) rfl) rfl), (jx_t6 (List.mem_of_getElem? (i := 24) rfl) rfl), rfl, ⟨by decide +kernel, by decide +kernel, by decide +kernel⟩⟩
theorem kv_X6_258 : jx_kV RX6 258 RX6 yX6_plainTells cX6_plainTells 2 (some .int) 1 := ⟨(jx_t6 (List.mem_of_getElem? (i := 25) rfl) rfl), (jx_t6 (List.mem_of_getElem? (i := 27) rfl) rfl), (jx_pv (jx_p5 (List.mem_of_getElem? (i := 7) rfl))), (jx_t1 (List.mem_of_getElem? (i := 7) rfl) rfl), (jx_t6 (List.mem_of_getElem? (i := 28) rfl) rfl), rfl, ⟨by decide +kernel, by decide +kernel, by decide +kernel⟩⟩
theorem kv_L_126 : jx_kV RL 126 RX6 yX6_trace cX6_trace 2 (some .int) 1 := ⟨(jx_t6 (List.mem_of_getElem? (i := 29) rfl) rfl), (jx_t6 (List.mem_of_getElem? (i := 30) rfl) rfl), (jx_t6 (List.mem_of_getElem? (i := 31) rfl) rfl), (jx_t1 (List.mem_of_getElem? (i := 7) rfl) rfl), (jx_t6 (List.mem_of_getElem? (i := 32) rfl) rfl), rfl, ⟨by decide +kernel, by decide +kernel, by decide +kernel⟩⟩
theorem kv_L_130 : jx_kV RL 130 RX6 yX6_as cX6_as 3 (some .int) 2 := ⟨(jx_t6 (List.mem_of_getElem? (i := 33) rfl) rfl), (jx_t6 (List.mem_of_getElem? (i := 34) rfl) rfl), (jx_t6 (List.mem_of_getElem? (i := 35) rfl) rfl), (jx_t1 (List.mem_of_getElem? (i := 7) rfl) rfl), (jx_t6 (List.mem_of_getElem? (i := 36) rfl) rfl), rfl, ⟨by decide +kernel, by decide +kernel, by decide +kernel⟩⟩
theorem kv_L_134 : jx_kV RL 134 RX6 yX6_image cX6_image 2 (some .int) 0 := ⟨(jx_t6 (List.mem_of_getElem? (i := 37) rfl) rfl), (jx_t6 (List.mem_of_getElem? (i := 38) rfl) rfl), (jx_t6 (List.mem_of_getElem? (i := 39) rfl) rfl), (jx_t1 (List.mem_of_getElem? (i := 7) rfl) rfl), (jx_t6 (List.mem_of_getElem? (i := 40) rfl) rfl), rfl, ⟨by decide +kernel, by decide +kernel, by decide +kernel⟩⟩
theorem kv_L_138 : jx_kV RL 138 RX6 yX6_undo cX6_undo 2 (some .int) 0 := ⟨(jx_t6 (List.mem_of_getElem? (i := 41) rfl) rfl), (jx_t6 (List.mem_of_getElem? (i := 42) rfl) rfl), (jx_t6 (List.mem_of_getElem? (i := 43) rfl) rfl), (jx_t1 (List.mem_of_getElem? (i := 7) rfl) rfl), (jx_t6 (List.mem_of_getElem? (i := 44) rfl) rfl), rfl, ⟨by decide +kernel, by decide +kernel, by decide +kernel⟩⟩
theorem kv_L_142 : jx_kV RL 142 RX6 yX6_count cX6_count 2 (some .int) 1 := ⟨(jx_t6 (List.mem_of_getElem? (i := 45) rfl) rfl), (jx_t6 (List.mem_of_getElem? (i := 46) rfl) rfl), (jx_t6 (List.mem_of_getElem? (i := 47) rfl) rfl), (jx_t1 (List.mem_of_getElem? (i := 7) rfl) rfl), (jx_t6 (List.mem_of_getElem? (i := 48) rfl) rfl), rfl, ⟨by decide +kernel, by decide +kernel, by decide +kernel⟩⟩
end
section
/-! the reference's world: one object, nine arrays; G.2 names the array classes (0, 1), the object (10), the arrays (101 ..); σ 0 its numbers by the field's place, σ i its arrays -/
abbrev jx_G : Type := va_G × (Nat → Nat)
def mm_F (G : jx_G) (σ : jx_M) : List Value := [.int (σ 0 0), .ref (G.2 101), .ref (G.2 102), .int (σ 0 3), .int (σ 0 4), .int (σ 0 5), .int (σ 0 6), .int (σ 0 7), .int (σ 0 8), .ref (G.2 103), .ref (G.2 104), .int (σ 0 11), .int (σ 0 12), .int (σ 0 13), .int (σ 0 14), .ref (G.2 105), .ref (G.2 106), .ref (G.2 107), .ref (G.2 108), .int (σ 0 19), .int (σ 0 20), .ref (G.2 109), .int (σ 0 22), .int (σ 0 23), .int (σ 0 24), .int (σ 0 25)]
def mm_W (G : jx_G) (σ : jx_M) : va_W := [(G.2 10, .inr (6, mm_F G σ)), (G.2 101, .inl (G.2 0, 920, .inl (σ 1))), (G.2 102, .inl (G.2 0, 920, .inl (σ 2))), (G.2 103, .inl (G.2 0, 4, .inl (σ 3))), (G.2 104, .inl (G.2 1, 64, .inl (σ 4))), (G.2 105, .inl (G.2 0, 84, .inl (σ 5))), (G.2 106, .inl (G.2 0, 7, .inl (σ 6))), (G.2 107, .inl (G.2 0, 6, .inl (σ 7))), (G.2 108, .inl (G.2 1, 6, .inl (σ 8))), (G.2 109, .inl (G.2 0, 20, .inl (σ 9)))]
theorem jx_Dmap {A : Nat → Prop} {w w' : va_W} (h : w'.map Prod.fst = w.map Prod.fst) (hD : va_D A w) : va_D A w' := by
  have hg : ∀ (i : Nat) (p : Nat × va_E), w'[i]? = some p → ∃ p', w[i]? = some p' ∧ p'.1 = p.1 := by
    intro i p hp
    have h1 : (w'.map Prod.fst)[i]? = some p.1 := by rw [List.getElem?_map, hp]; rfl
    rw [h, List.getElem?_map] at h1
    cases hw : w[i]? with
    | none => rw [hw] at h1; cases h1
    | some p' => rw [hw] at h1; exact ⟨p', rfl, Option.some.inj h1⟩
  refine ⟨fun i j p q hp hq he => ?_, fun k q hq => ?_⟩
  · obtain ⟨p', h1, h2⟩ := hg i p hp
    obtain ⟨q', h3, h4⟩ := hg j q hq
    exact hD.1 i j p' q' h1 h3 (by rw [h2, h4]; exact he)
  · obtain ⟨q', h1, h2⟩ := hg k q hq
    rw [← h2]
    exact hD.2 k q' h1
def mm_rg (G : jx_G) : Nat → Prop := fun q => ∃ (k : Nat) (e : va_E), (mm_W G (fun _ _ => 0))[k]? = some (q, e)
def mm_dyn (G : jx_G) (σ : jx_M) (H : Heap) : Prop := va_P G.1 vwCl (mm_W G σ) H
/-- what stands outside the worlds and never changes -/
def jx_ex (A : Nat → Prop) (s : State) : Prop := True
theorem jx_ex_call {A : Nat → Prop} {U : State} {g : JFrame} {mk : MethodId} {a : Array Value} (h : jx_ex A U) : jx_ex A (U.calling g mk a) := trivial
theorem jx_ex_run {rg : Nat → Prop} {sz : Nat} {s U : State} {H : Heap} {locs : List Loc} (hE : jx_ex (jx_A rg sz) s) (hS : va_S (jx_A rg sz) s.heap H locs) (hU : U.heap = H) (hvm : s.vm.Alike U.vm) : jx_ex (jx_A rg H.size) U := trivial
def mm_env (G : jx_G) (A : Nat → Prop) (s : State) : Prop := va_K G.1 vwCl [(G.2 0, .int), (G.2 1, .boolean)] s ∧ jx_ex A s
def mm_ok (G : jx_G) : Prop := va_D (mm_rg G) (mm_W G (fun _ _ => 0))
theorem mm_D {G : jx_G} (h : mm_ok G) (σ : jx_M) (sz : Nat) : va_D (jx_A (mm_rg G) sz) (mm_W G σ) := jx_Dmap (w := mm_W G (fun _ _ => 0)) rfl (va_D.weaken h (fun _ _ _ q => Or.inl q))
theorem mm_jok {G : jx_G} : jx_ok (mm_rg G) (mm_env G) := ⟨fun A U g mk a q => ⟨va_K.moved (u := U) (U := U.calling g mk a) (Vm.Alike.refl U.vm) q.1, jx_ex_call q.2⟩, fun sz s U H locs hE hS hU hvm => ⟨va_K.moved hvm hE.1, jx_ex_run hE.2 hS hU hvm⟩⟩
theorem mm_rc {G : jx_G} : jx_rc (mm_env G) (mm_dyn G) (G.2 10) RX6 := fun _ _ _ _ hE hD => va_recv hE.1 hD (ci := 6) (q0 := 0) rfl rfl
section MM
variable {l : Launch} {G : jx_G} {sz : Nat} {own nm : String} {cc : ByteArray} {nL : Nat} {ret : Option FieldType} {R : Room} {Qf : List Frame → Array Value → State → State → Prop} {ce sl pc : Nat} {lv : List (Nat × Value)} {rest : List Value} {σ : jx_M}
theorem mm_get {index k : Nat} {v : Value} (hk0 : k < 26) (hw : Cond.fieldLink own index (TX6 k).1 (TX6 k).2.1 (TX6 k).2.2.1 ∈ jx_ws) (hv : (mm_F G σ)[k]? = some v) (d : decode cc pc = .ok (.getfield index, 3)) (kk : jx_J l (mm_env G) (mm_dyn G) (mm_rg G) sz own nm cc nL ret R Qf ce sl (pc + 3) lv (v :: rest) σ) : jx_J l (mm_env G) (mm_dyn G) (mm_rg G) sz own nm cc nL ret R Qf ce sl pc lv (.ref (G.2 10) :: rest) σ := by
  intro p e s m args below meth c C hr hk hn hs hE H locs ls hl hD hS
  exact va_get (D := G.1) (ci := 6) (C := RX6) (T := TX6) (N := 26) C.1 C.2.1 C.2.2.2.2 il_X6 C.2.2.2.1 hE.1 hD 0 rfl rfl k hk0 (C.2.2.2.2 _ hw) (fun _ h => h) hv d (kk p e s m args below meth c C hr hk hn hs hE H locs ls hl hD hS)
theorem mm_put {index k : Nat} {v : Value} {ty : FieldType} {σ2 : jx_M} (hG : mm_ok G) (hk0 : k < 26) (hw : Cond.fieldLink own index (TX6 k).1 (TX6 k).2.1 (TX6 k).2.2.1 ∈ jx_ws) (hfin : (TX6 k).2.2.2 = false) (hd : parseFieldDescriptor (TX6 k).2.2.1 = some ty) (hnr : narrow ty v = v) (hfit : fits ty v = true) (hset : (mm_W G σ).set 0 (G.2 10, .inr (6, (mm_F G σ).set k v)) = mm_W G σ2) (d : decode cc pc = .ok (.putfield index, 3)) (kk : jx_J l (mm_env G) (mm_dyn G) (mm_rg G) sz own nm cc nL ret R Qf ce sl (pc + 3) lv rest σ2) : jx_J l (mm_env G) (mm_dyn G) (mm_rg G) sz own nm cc nL ret R Qf ce sl pc lv (v :: .ref (G.2 10) :: rest) σ := by
  intro p e s m args below meth c C hr hk hn hs hE H locs ls hl hD hS
  refine va_put (D := G.1) (ci := 6) (C := RX6) (T := TX6) (N := 26) C.1 C.2.1 C.2.2.2.2 il_X6 tyX6 tyX6_ok nmX6 C.2.2.2.1 hE.1 hD (mm_D hG σ sz) hS 0 rfl rfl k hk0 (C.2.2.2.2 _ hw) (fun _ h => h) hfin hd hnr hfit hk0 d (fun H1 locs1 hP1 _ hS1 => ?_)
  rw [hset] at hP1
  exact kk p e s m args below meth c C hr hk hn hs hE H1 locs1 ls hl hP1 hS1
theorem mm_g_thrown {index : Nat} (hw : Cond.fieldLink own index "LampVoteModel" "thrown" "I" ∈ jx_ws) (d : decode cc pc = .ok (.getfield index, 3)) (kk : jx_J l (mm_env G) (mm_dyn G) (mm_rg G) sz own nm cc nL ret R Qf ce sl (pc + 3) lv (.int (σ 0 0) :: rest) σ) : jx_J l (mm_env G) (mm_dyn G) (mm_rg G) sz own nm cc nL ret R Qf ce sl pc lv (.ref (G.2 10) :: rest) σ := mm_get (k := 0) (by decide) hw rfl d kk
theorem mm_p_thrown {index : Nat} {v : Int32} {σ2 : jx_M} (hG : mm_ok G) (hw : Cond.fieldLink own index "LampVoteModel" "thrown" "I" ∈ jx_ws) (ev : σ2 = jx_mu σ 0 0 v) (d : decode cc pc = .ok (.putfield index, 3)) (kk : jx_J l (mm_env G) (mm_dyn G) (mm_rg G) sz own nm cc nL ret R Qf ce sl (pc + 3) lv rest σ2) : jx_J l (mm_env G) (mm_dyn G) (mm_rg G) sz own nm cc nL ret R Qf ce sl pc lv (.int v :: .ref (G.2 10) :: rest) σ := mm_put (k := 0) (ty := .int) hG (by decide) hw rfl (by decide +kernel) rfl rfl (by subst ev; rfl) d kk
theorem mm_g_s {index : Nat} (hw : Cond.fieldLink own index "LampVoteModel" "s" "[I" ∈ jx_ws) (d : decode cc pc = .ok (.getfield index, 3)) (kk : jx_J l (mm_env G) (mm_dyn G) (mm_rg G) sz own nm cc nL ret R Qf ce sl (pc + 3) lv (.ref (G.2 101) :: rest) σ) : jx_J l (mm_env G) (mm_dyn G) (mm_rg G) sz own nm cc nL ret R Qf ce sl pc lv (.ref (G.2 10) :: rest) σ := mm_get (k := 1) (by decide) hw rfl d kk
theorem mm_g_image {index : Nat} (hw : Cond.fieldLink own index "LampVoteModel" "image" "[I" ∈ jx_ws) (d : decode cc pc = .ok (.getfield index, 3)) (kk : jx_J l (mm_env G) (mm_dyn G) (mm_rg G) sz own nm cc nL ret R Qf ce sl (pc + 3) lv (.ref (G.2 102) :: rest) σ) : jx_J l (mm_env G) (mm_dyn G) (mm_rg G) sz own nm cc nL ret R Qf ce sl pc lv (.ref (G.2 10) :: rest) σ := mm_get (k := 2) (by decide) hw rfl d kk
theorem mm_g_hasImage {index : Nat} (hw : Cond.fieldLink own index "LampVoteModel" "hasImage" "Z" ∈ jx_ws) (d : decode cc pc = .ok (.getfield index, 3)) (kk : jx_J l (mm_env G) (mm_dyn G) (mm_rg G) sz own nm cc nL ret R Qf ce sl (pc + 3) lv (.int (σ 0 3) :: rest) σ) : jx_J l (mm_env G) (mm_dyn G) (mm_rg G) sz own nm cc nL ret R Qf ce sl pc lv (.ref (G.2 10) :: rest) σ := mm_get (k := 3) (by decide) hw rfl d kk
theorem mm_p_hasImage {index : Nat} {v : Int32} {σ2 : jx_M} (hG : mm_ok G) (hz : v = 0 ∨ v = 1) (hw : Cond.fieldLink own index "LampVoteModel" "hasImage" "Z" ∈ jx_ws) (ev : σ2 = jx_mu σ 0 3 v) (d : decode cc pc = .ok (.putfield index, 3)) (kk : jx_J l (mm_env G) (mm_dyn G) (mm_rg G) sz own nm cc nL ret R Qf ce sl (pc + 3) lv rest σ2) : jx_J l (mm_env G) (mm_dyn G) (mm_rg G) sz own nm cc nL ret R Qf ce sl pc lv (.int v :: .ref (G.2 10) :: rest) σ := mm_put (k := 3) (ty := .boolean) hG (by decide) hw rfl (by decide +kernel) (jx_nar hz) (jx_fit hz) (by subst ev; rfl) d kk
theorem mm_g_act {index : Nat} (hw : Cond.fieldLink own index "LampVoteModel" "act" "I" ∈ jx_ws) (d : decode cc pc = .ok (.getfield index, 3)) (kk : jx_J l (mm_env G) (mm_dyn G) (mm_rg G) sz own nm cc nL ret R Qf ce sl (pc + 3) lv (.int (σ 0 4) :: rest) σ) : jx_J l (mm_env G) (mm_dyn G) (mm_rg G) sz own nm cc nL ret R Qf ce sl pc lv (.ref (G.2 10) :: rest) σ := mm_get (k := 4) (by decide) hw rfl d kk
theorem mm_p_act {index : Nat} {v : Int32} {σ2 : jx_M} (hG : mm_ok G) (hw : Cond.fieldLink own index "LampVoteModel" "act" "I" ∈ jx_ws) (ev : σ2 = jx_mu σ 0 4 v) (d : decode cc pc = .ok (.putfield index, 3)) (kk : jx_J l (mm_env G) (mm_dyn G) (mm_rg G) sz own nm cc nL ret R Qf ce sl (pc + 3) lv rest σ2) : jx_J l (mm_env G) (mm_dyn G) (mm_rg G) sz own nm cc nL ret R Qf ce sl pc lv (.int v :: .ref (G.2 10) :: rest) σ := mm_put (k := 4) (ty := .int) hG (by decide) hw rfl (by decide +kernel) rfl rfl (by subst ev; rfl) d kk
theorem mm_g_spot {index : Nat} (hw : Cond.fieldLink own index "LampVoteModel" "spot" "I" ∈ jx_ws) (d : decode cc pc = .ok (.getfield index, 3)) (kk : jx_J l (mm_env G) (mm_dyn G) (mm_rg G) sz own nm cc nL ret R Qf ce sl (pc + 3) lv (.int (σ 0 5) :: rest) σ) : jx_J l (mm_env G) (mm_dyn G) (mm_rg G) sz own nm cc nL ret R Qf ce sl pc lv (.ref (G.2 10) :: rest) σ := mm_get (k := 5) (by decide) hw rfl d kk
theorem mm_p_spot {index : Nat} {v : Int32} {σ2 : jx_M} (hG : mm_ok G) (hw : Cond.fieldLink own index "LampVoteModel" "spot" "I" ∈ jx_ws) (ev : σ2 = jx_mu σ 0 5 v) (d : decode cc pc = .ok (.putfield index, 3)) (kk : jx_J l (mm_env G) (mm_dyn G) (mm_rg G) sz own nm cc nL ret R Qf ce sl (pc + 3) lv rest σ2) : jx_J l (mm_env G) (mm_dyn G) (mm_rg G) sz own nm cc nL ret R Qf ce sl pc lv (.int v :: .ref (G.2 10) :: rest) σ := mm_put (k := 5) (ty := .int) hG (by decide) hw rfl (by decide +kernel) rfl rfl (by subst ev; rfl) d kk
theorem mm_g_end {index : Nat} (hw : Cond.fieldLink own index "LampVoteModel" "end" "I" ∈ jx_ws) (d : decode cc pc = .ok (.getfield index, 3)) (kk : jx_J l (mm_env G) (mm_dyn G) (mm_rg G) sz own nm cc nL ret R Qf ce sl (pc + 3) lv (.int (σ 0 6) :: rest) σ) : jx_J l (mm_env G) (mm_dyn G) (mm_rg G) sz own nm cc nL ret R Qf ce sl pc lv (.ref (G.2 10) :: rest) σ := mm_get (k := 6) (by decide) hw rfl d kk
theorem mm_p_end {index : Nat} {v : Int32} {σ2 : jx_M} (hG : mm_ok G) (hw : Cond.fieldLink own index "LampVoteModel" "end" "I" ∈ jx_ws) (ev : σ2 = jx_mu σ 0 6 v) (d : decode cc pc = .ok (.putfield index, 3)) (kk : jx_J l (mm_env G) (mm_dyn G) (mm_rg G) sz own nm cc nL ret R Qf ce sl (pc + 3) lv rest σ2) : jx_J l (mm_env G) (mm_dyn G) (mm_rg G) sz own nm cc nL ret R Qf ce sl pc lv (.int v :: .ref (G.2 10) :: rest) σ := mm_put (k := 6) (ty := .int) hG (by decide) hw rfl (by decide +kernel) rfl rfl (by subst ev; rfl) d kk
theorem mm_g_isWrong {index : Nat} (hw : Cond.fieldLink own index "LampVoteModel" "isWrong" "Z" ∈ jx_ws) (d : decode cc pc = .ok (.getfield index, 3)) (kk : jx_J l (mm_env G) (mm_dyn G) (mm_rg G) sz own nm cc nL ret R Qf ce sl (pc + 3) lv (.int (σ 0 7) :: rest) σ) : jx_J l (mm_env G) (mm_dyn G) (mm_rg G) sz own nm cc nL ret R Qf ce sl pc lv (.ref (G.2 10) :: rest) σ := mm_get (k := 7) (by decide) hw rfl d kk
theorem mm_p_isWrong {index : Nat} {v : Int32} {σ2 : jx_M} (hG : mm_ok G) (hz : v = 0 ∨ v = 1) (hw : Cond.fieldLink own index "LampVoteModel" "isWrong" "Z" ∈ jx_ws) (ev : σ2 = jx_mu σ 0 7 v) (d : decode cc pc = .ok (.putfield index, 3)) (kk : jx_J l (mm_env G) (mm_dyn G) (mm_rg G) sz own nm cc nL ret R Qf ce sl (pc + 3) lv rest σ2) : jx_J l (mm_env G) (mm_dyn G) (mm_rg G) sz own nm cc nL ret R Qf ce sl pc lv (.int v :: .ref (G.2 10) :: rest) σ := mm_put (k := 7) (ty := .boolean) hG (by decide) hw rfl (by decide +kernel) (jx_nar hz) (jx_fit hz) (by subst ev; rfl) d kk
theorem mm_g_open {index : Nat} (hw : Cond.fieldLink own index "LampVoteModel" "open" "I" ∈ jx_ws) (d : decode cc pc = .ok (.getfield index, 3)) (kk : jx_J l (mm_env G) (mm_dyn G) (mm_rg G) sz own nm cc nL ret R Qf ce sl (pc + 3) lv (.int (σ 0 8) :: rest) σ) : jx_J l (mm_env G) (mm_dyn G) (mm_rg G) sz own nm cc nL ret R Qf ce sl pc lv (.ref (G.2 10) :: rest) σ := mm_get (k := 8) (by decide) hw rfl d kk
theorem mm_p_open {index : Nat} {v : Int32} {σ2 : jx_M} (hG : mm_ok G) (hw : Cond.fieldLink own index "LampVoteModel" "open" "I" ∈ jx_ws) (ev : σ2 = jx_mu σ 0 8 v) (d : decode cc pc = .ok (.putfield index, 3)) (kk : jx_J l (mm_env G) (mm_dyn G) (mm_rg G) sz own nm cc nL ret R Qf ce sl (pc + 3) lv rest σ2) : jx_J l (mm_env G) (mm_dyn G) (mm_rg G) sz own nm cc nL ret R Qf ce sl pc lv (.int v :: .ref (G.2 10) :: rest) σ := mm_put (k := 8) (ty := .int) hG (by decide) hw rfl (by decide +kernel) rfl rfl (by subst ev; rfl) d kk
theorem mm_g_by {index : Nat} (hw : Cond.fieldLink own index "LampVoteModel" "by" "[I" ∈ jx_ws) (d : decode cc pc = .ok (.getfield index, 3)) (kk : jx_J l (mm_env G) (mm_dyn G) (mm_rg G) sz own nm cc nL ret R Qf ce sl (pc + 3) lv (.ref (G.2 103) :: rest) σ) : jx_J l (mm_env G) (mm_dyn G) (mm_rg G) sz own nm cc nL ret R Qf ce sl pc lv (.ref (G.2 10) :: rest) σ := mm_get (k := 9) (by decide) hw rfl d kk
theorem mm_g_truths {index : Nat} (hw : Cond.fieldLink own index "LampVoteModel" "truths" "[Z" ∈ jx_ws) (d : decode cc pc = .ok (.getfield index, 3)) (kk : jx_J l (mm_env G) (mm_dyn G) (mm_rg G) sz own nm cc nL ret R Qf ce sl (pc + 3) lv (.ref (G.2 104) :: rest) σ) : jx_J l (mm_env G) (mm_dyn G) (mm_rg G) sz own nm cc nL ret R Qf ce sl pc lv (.ref (G.2 10) :: rest) σ := mm_get (k := 10) (by decide) hw rfl d kk
theorem mm_g_isSide {index : Nat} (hw : Cond.fieldLink own index "LampVoteModel" "isSide" "Z" ∈ jx_ws) (d : decode cc pc = .ok (.getfield index, 3)) (kk : jx_J l (mm_env G) (mm_dyn G) (mm_rg G) sz own nm cc nL ret R Qf ce sl (pc + 3) lv (.int (σ 0 11) :: rest) σ) : jx_J l (mm_env G) (mm_dyn G) (mm_rg G) sz own nm cc nL ret R Qf ce sl pc lv (.ref (G.2 10) :: rest) σ := mm_get (k := 11) (by decide) hw rfl d kk
theorem mm_p_isSide {index : Nat} {v : Int32} {σ2 : jx_M} (hG : mm_ok G) (hz : v = 0 ∨ v = 1) (hw : Cond.fieldLink own index "LampVoteModel" "isSide" "Z" ∈ jx_ws) (ev : σ2 = jx_mu σ 0 11 v) (d : decode cc pc = .ok (.putfield index, 3)) (kk : jx_J l (mm_env G) (mm_dyn G) (mm_rg G) sz own nm cc nL ret R Qf ce sl (pc + 3) lv rest σ2) : jx_J l (mm_env G) (mm_dyn G) (mm_rg G) sz own nm cc nL ret R Qf ce sl pc lv (.int v :: .ref (G.2 10) :: rest) σ := mm_put (k := 11) (ty := .boolean) hG (by decide) hw rfl (by decide +kernel) (jx_nar hz) (jx_fit hz) (by subst ev; rfl) d kk
theorem mm_g_isHeld {index : Nat} (hw : Cond.fieldLink own index "LampVoteModel" "isHeld" "Z" ∈ jx_ws) (d : decode cc pc = .ok (.getfield index, 3)) (kk : jx_J l (mm_env G) (mm_dyn G) (mm_rg G) sz own nm cc nL ret R Qf ce sl (pc + 3) lv (.int (σ 0 12) :: rest) σ) : jx_J l (mm_env G) (mm_dyn G) (mm_rg G) sz own nm cc nL ret R Qf ce sl pc lv (.ref (G.2 10) :: rest) σ := mm_get (k := 12) (by decide) hw rfl d kk
theorem mm_p_isHeld {index : Nat} {v : Int32} {σ2 : jx_M} (hG : mm_ok G) (hz : v = 0 ∨ v = 1) (hw : Cond.fieldLink own index "LampVoteModel" "isHeld" "Z" ∈ jx_ws) (ev : σ2 = jx_mu σ 0 12 v) (d : decode cc pc = .ok (.putfield index, 3)) (kk : jx_J l (mm_env G) (mm_dyn G) (mm_rg G) sz own nm cc nL ret R Qf ce sl (pc + 3) lv rest σ2) : jx_J l (mm_env G) (mm_dyn G) (mm_rg G) sz own nm cc nL ret R Qf ce sl pc lv (.int v :: .ref (G.2 10) :: rest) σ := mm_put (k := 12) (ty := .boolean) hG (by decide) hw rfl (by decide +kernel) (jx_nar hz) (jx_fit hz) (by subst ev; rfl) d kk
theorem mm_g_oiled {index : Nat} (hw : Cond.fieldLink own index "LampVoteModel" "oiled" "I" ∈ jx_ws) (d : decode cc pc = .ok (.getfield index, 3)) (kk : jx_J l (mm_env G) (mm_dyn G) (mm_rg G) sz own nm cc nL ret R Qf ce sl (pc + 3) lv (.int (σ 0 13) :: rest) σ) : jx_J l (mm_env G) (mm_dyn G) (mm_rg G) sz own nm cc nL ret R Qf ce sl pc lv (.ref (G.2 10) :: rest) σ := mm_get (k := 13) (by decide) hw rfl d kk
theorem mm_p_oiled {index : Nat} {v : Int32} {σ2 : jx_M} (hG : mm_ok G) (hw : Cond.fieldLink own index "LampVoteModel" "oiled" "I" ∈ jx_ws) (ev : σ2 = jx_mu σ 0 13 v) (d : decode cc pc = .ok (.putfield index, 3)) (kk : jx_J l (mm_env G) (mm_dyn G) (mm_rg G) sz own nm cc nL ret R Qf ce sl (pc + 3) lv rest σ2) : jx_J l (mm_env G) (mm_dyn G) (mm_rg G) sz own nm cc nL ret R Qf ce sl pc lv (.int v :: .ref (G.2 10) :: rest) σ := mm_put (k := 13) (ty := .int) hG (by decide) hw rfl (by decide +kernel) rfl rfl (by subst ev; rfl) d kk
theorem mm_g_weighed {index : Nat} (hw : Cond.fieldLink own index "LampVoteModel" "weighed" "I" ∈ jx_ws) (d : decode cc pc = .ok (.getfield index, 3)) (kk : jx_J l (mm_env G) (mm_dyn G) (mm_rg G) sz own nm cc nL ret R Qf ce sl (pc + 3) lv (.int (σ 0 14) :: rest) σ) : jx_J l (mm_env G) (mm_dyn G) (mm_rg G) sz own nm cc nL ret R Qf ce sl pc lv (.ref (G.2 10) :: rest) σ := mm_get (k := 14) (by decide) hw rfl d kk
theorem mm_p_weighed {index : Nat} {v : Int32} {σ2 : jx_M} (hG : mm_ok G) (hw : Cond.fieldLink own index "LampVoteModel" "weighed" "I" ∈ jx_ws) (ev : σ2 = jx_mu σ 0 14 v) (d : decode cc pc = .ok (.putfield index, 3)) (kk : jx_J l (mm_env G) (mm_dyn G) (mm_rg G) sz own nm cc nL ret R Qf ce sl (pc + 3) lv rest σ2) : jx_J l (mm_env G) (mm_dyn G) (mm_rg G) sz own nm cc nL ret R Qf ce sl pc lv (.int v :: .ref (G.2 10) :: rest) σ := mm_put (k := 14) (ty := .int) hG (by decide) hw rfl (by decide +kernel) rfl rfl (by subst ev; rfl) d kk
theorem mm_g_going {index : Nat} (hw : Cond.fieldLink own index "LampVoteModel" "going" "[I" ∈ jx_ws) (d : decode cc pc = .ok (.getfield index, 3)) (kk : jx_J l (mm_env G) (mm_dyn G) (mm_rg G) sz own nm cc nL ret R Qf ce sl (pc + 3) lv (.ref (G.2 105) :: rest) σ) : jx_J l (mm_env G) (mm_dyn G) (mm_rg G) sz own nm cc nL ret R Qf ce sl pc lv (.ref (G.2 10) :: rest) σ := mm_get (k := 15) (by decide) hw rfl d kk
theorem mm_g_weights {index : Nat} (hw : Cond.fieldLink own index "LampVoteModel" "weights" "[I" ∈ jx_ws) (d : decode cc pc = .ok (.getfield index, 3)) (kk : jx_J l (mm_env G) (mm_dyn G) (mm_rg G) sz own nm cc nL ret R Qf ce sl (pc + 3) lv (.ref (G.2 106) :: rest) σ) : jx_J l (mm_env G) (mm_dyn G) (mm_rg G) sz own nm cc nL ret R Qf ce sl pc lv (.ref (G.2 10) :: rest) σ := mm_get (k := 16) (by decide) hw rfl d kk
theorem mm_g_lying {index : Nat} (hw : Cond.fieldLink own index "LampVoteModel" "lying" "[I" ∈ jx_ws) (d : decode cc pc = .ok (.getfield index, 3)) (kk : jx_J l (mm_env G) (mm_dyn G) (mm_rg G) sz own nm cc nL ret R Qf ce sl (pc + 3) lv (.ref (G.2 107) :: rest) σ) : jx_J l (mm_env G) (mm_dyn G) (mm_rg G) sz own nm cc nL ret R Qf ce sl pc lv (.ref (G.2 10) :: rest) σ := mm_get (k := 17) (by decide) hw rfl d kk
theorem mm_g_counts {index : Nat} (hw : Cond.fieldLink own index "LampVoteModel" "counts" "[Z" ∈ jx_ws) (d : decode cc pc = .ok (.getfield index, 3)) (kk : jx_J l (mm_env G) (mm_dyn G) (mm_rg G) sz own nm cc nL ret R Qf ce sl (pc + 3) lv (.ref (G.2 108) :: rest) σ) : jx_J l (mm_env G) (mm_dyn G) (mm_rg G) sz own nm cc nL ret R Qf ce sl pc lv (.ref (G.2 10) :: rest) σ := mm_get (k := 18) (by decide) hw rfl d kk
theorem mm_g_bestPlace {index : Nat} (hw : Cond.fieldLink own index "LampVoteModel" "bestPlace" "I" ∈ jx_ws) (d : decode cc pc = .ok (.getfield index, 3)) (kk : jx_J l (mm_env G) (mm_dyn G) (mm_rg G) sz own nm cc nL ret R Qf ce sl (pc + 3) lv (.int (σ 0 19) :: rest) σ) : jx_J l (mm_env G) (mm_dyn G) (mm_rg G) sz own nm cc nL ret R Qf ce sl pc lv (.ref (G.2 10) :: rest) σ := mm_get (k := 19) (by decide) hw rfl d kk
theorem mm_p_bestPlace {index : Nat} {v : Int32} {σ2 : jx_M} (hG : mm_ok G) (hw : Cond.fieldLink own index "LampVoteModel" "bestPlace" "I" ∈ jx_ws) (ev : σ2 = jx_mu σ 0 19 v) (d : decode cc pc = .ok (.putfield index, 3)) (kk : jx_J l (mm_env G) (mm_dyn G) (mm_rg G) sz own nm cc nL ret R Qf ce sl (pc + 3) lv rest σ2) : jx_J l (mm_env G) (mm_dyn G) (mm_rg G) sz own nm cc nL ret R Qf ce sl pc lv (.int v :: .ref (G.2 10) :: rest) σ := mm_put (k := 19) (ty := .int) hG (by decide) hw rfl (by decide +kernel) rfl rfl (by subst ev; rfl) d kk
theorem mm_g_bestMore {index : Nat} (hw : Cond.fieldLink own index "LampVoteModel" "bestMore" "I" ∈ jx_ws) (d : decode cc pc = .ok (.getfield index, 3)) (kk : jx_J l (mm_env G) (mm_dyn G) (mm_rg G) sz own nm cc nL ret R Qf ce sl (pc + 3) lv (.int (σ 0 20) :: rest) σ) : jx_J l (mm_env G) (mm_dyn G) (mm_rg G) sz own nm cc nL ret R Qf ce sl pc lv (.ref (G.2 10) :: rest) σ := mm_get (k := 20) (by decide) hw rfl d kk
theorem mm_p_bestMore {index : Nat} {v : Int32} {σ2 : jx_M} (hG : mm_ok G) (hw : Cond.fieldLink own index "LampVoteModel" "bestMore" "I" ∈ jx_ws) (ev : σ2 = jx_mu σ 0 20 v) (d : decode cc pc = .ok (.putfield index, 3)) (kk : jx_J l (mm_env G) (mm_dyn G) (mm_rg G) sz own nm cc nL ret R Qf ce sl (pc + 3) lv rest σ2) : jx_J l (mm_env G) (mm_dyn G) (mm_rg G) sz own nm cc nL ret R Qf ce sl pc lv (.int v :: .ref (G.2 10) :: rest) σ := mm_put (k := 20) (ty := .int) hG (by decide) hw rfl (by decide +kernel) rfl rfl (by subst ev; rfl) d kk
theorem mm_g_bodies {index : Nat} (hw : Cond.fieldLink own index "LampVoteModel" "bodies" "[I" ∈ jx_ws) (d : decode cc pc = .ok (.getfield index, 3)) (kk : jx_J l (mm_env G) (mm_dyn G) (mm_rg G) sz own nm cc nL ret R Qf ce sl (pc + 3) lv (.ref (G.2 109) :: rest) σ) : jx_J l (mm_env G) (mm_dyn G) (mm_rg G) sz own nm cc nL ret R Qf ce sl pc lv (.ref (G.2 10) :: rest) σ := mm_get (k := 21) (by decide) hw rfl d kk
theorem mm_g_ran {index : Nat} (hw : Cond.fieldLink own index "LampVoteModel" "ran" "I" ∈ jx_ws) (d : decode cc pc = .ok (.getfield index, 3)) (kk : jx_J l (mm_env G) (mm_dyn G) (mm_rg G) sz own nm cc nL ret R Qf ce sl (pc + 3) lv (.int (σ 0 22) :: rest) σ) : jx_J l (mm_env G) (mm_dyn G) (mm_rg G) sz own nm cc nL ret R Qf ce sl pc lv (.ref (G.2 10) :: rest) σ := mm_get (k := 22) (by decide) hw rfl d kk
theorem mm_p_ran {index : Nat} {v : Int32} {σ2 : jx_M} (hG : mm_ok G) (hw : Cond.fieldLink own index "LampVoteModel" "ran" "I" ∈ jx_ws) (ev : σ2 = jx_mu σ 0 22 v) (d : decode cc pc = .ok (.putfield index, 3)) (kk : jx_J l (mm_env G) (mm_dyn G) (mm_rg G) sz own nm cc nL ret R Qf ce sl (pc + 3) lv rest σ2) : jx_J l (mm_env G) (mm_dyn G) (mm_rg G) sz own nm cc nL ret R Qf ce sl pc lv (.int v :: .ref (G.2 10) :: rest) σ := mm_put (k := 22) (ty := .int) hG (by decide) hw rfl (by decide +kernel) rfl rfl (by subst ev; rfl) d kk
theorem mm_g_kind {index : Nat} (hw : Cond.fieldLink own index "LampVoteModel" "kind" "I" ∈ jx_ws) (d : decode cc pc = .ok (.getfield index, 3)) (kk : jx_J l (mm_env G) (mm_dyn G) (mm_rg G) sz own nm cc nL ret R Qf ce sl (pc + 3) lv (.int (σ 0 23) :: rest) σ) : jx_J l (mm_env G) (mm_dyn G) (mm_rg G) sz own nm cc nL ret R Qf ce sl pc lv (.ref (G.2 10) :: rest) σ := mm_get (k := 23) (by decide) hw rfl d kk
theorem mm_p_kind {index : Nat} {v : Int32} {σ2 : jx_M} (hG : mm_ok G) (hw : Cond.fieldLink own index "LampVoteModel" "kind" "I" ∈ jx_ws) (ev : σ2 = jx_mu σ 0 23 v) (d : decode cc pc = .ok (.putfield index, 3)) (kk : jx_J l (mm_env G) (mm_dyn G) (mm_rg G) sz own nm cc nL ret R Qf ce sl (pc + 3) lv rest σ2) : jx_J l (mm_env G) (mm_dyn G) (mm_rg G) sz own nm cc nL ret R Qf ce sl pc lv (.int v :: .ref (G.2 10) :: rest) σ := mm_put (k := 23) (ty := .int) hG (by decide) hw rfl (by decide +kernel) rfl rfl (by subst ev; rfl) d kk
theorem mm_g_number {index : Nat} (hw : Cond.fieldLink own index "LampVoteModel" "number" "I" ∈ jx_ws) (d : decode cc pc = .ok (.getfield index, 3)) (kk : jx_J l (mm_env G) (mm_dyn G) (mm_rg G) sz own nm cc nL ret R Qf ce sl (pc + 3) lv (.int (σ 0 24) :: rest) σ) : jx_J l (mm_env G) (mm_dyn G) (mm_rg G) sz own nm cc nL ret R Qf ce sl pc lv (.ref (G.2 10) :: rest) σ := mm_get (k := 24) (by decide) hw rfl d kk
theorem mm_p_number {index : Nat} {v : Int32} {σ2 : jx_M} (hG : mm_ok G) (hw : Cond.fieldLink own index "LampVoteModel" "number" "I" ∈ jx_ws) (ev : σ2 = jx_mu σ 0 24 v) (d : decode cc pc = .ok (.putfield index, 3)) (kk : jx_J l (mm_env G) (mm_dyn G) (mm_rg G) sz own nm cc nL ret R Qf ce sl (pc + 3) lv rest σ2) : jx_J l (mm_env G) (mm_dyn G) (mm_rg G) sz own nm cc nL ret R Qf ce sl pc lv (.int v :: .ref (G.2 10) :: rest) σ := mm_put (k := 24) (ty := .int) hG (by decide) hw rfl (by decide +kernel) rfl rfl (by subst ev; rfl) d kk
theorem mm_g_tellsV {index : Nat} (hw : Cond.fieldLink own index "LampVoteModel" "tellsV" "I" ∈ jx_ws) (d : decode cc pc = .ok (.getfield index, 3)) (kk : jx_J l (mm_env G) (mm_dyn G) (mm_rg G) sz own nm cc nL ret R Qf ce sl (pc + 3) lv (.int (σ 0 25) :: rest) σ) : jx_J l (mm_env G) (mm_dyn G) (mm_rg G) sz own nm cc nL ret R Qf ce sl pc lv (.ref (G.2 10) :: rest) σ := mm_get (k := 25) (by decide) hw rfl d kk
theorem mm_p_tellsV {index : Nat} {v : Int32} {σ2 : jx_M} (hG : mm_ok G) (hw : Cond.fieldLink own index "LampVoteModel" "tellsV" "I" ∈ jx_ws) (ev : σ2 = jx_mu σ 0 25 v) (d : decode cc pc = .ok (.putfield index, 3)) (kk : jx_J l (mm_env G) (mm_dyn G) (mm_rg G) sz own nm cc nL ret R Qf ce sl (pc + 3) lv rest σ2) : jx_J l (mm_env G) (mm_dyn G) (mm_rg G) sz own nm cc nL ret R Qf ce sl pc lv (.int v :: .ref (G.2 10) :: rest) σ := mm_put (k := 25) (ty := .int) hG (by decide) hw rfl (by decide +kernel) rfl rfl (by subst ev; rfl) d kk
theorem mm_l_s {i : Int32} {j : Nat} (hin : vp_in i 920) (hj : i.toNatClampNeg = j) (d : decode cc pc = .ok (.iaload, 1)) (kk : jx_J l (mm_env G) (mm_dyn G) (mm_rg G) sz own nm cc nL ret R Qf ce sl (pc + 1) lv (.int (σ 1 j) :: rest) σ) : jx_J l (mm_env G) (mm_dyn G) (mm_rg G) sz own nm cc nL ret R Qf ce sl pc lv (.int i :: .ref (G.2 101) :: rest) σ := by
  subst hj
  intro p e s m args below meth c C hr hk hn hs hE H locs ls hl hD hS
  exact va_iald C.1 C.2.1 hE.1 hD 1 0 rfl rfl hin d (kk p e s m args below meth c C hr hk hn hs hE H locs ls hl hD hS)
theorem mm_s_s {i v : Int32} {j : Nat} {σ2 : jx_M} (hG : mm_ok G) (hin : vp_in i 920) (hj : i.toNatClampNeg = j) (ev : σ2 = jx_mu σ 1 j v) (d : decode cc pc = .ok (.iastore, 1)) (kk : jx_J l (mm_env G) (mm_dyn G) (mm_rg G) sz own nm cc nL ret R Qf ce sl (pc + 1) lv rest σ2) : jx_J l (mm_env G) (mm_dyn G) (mm_rg G) sz own nm cc nL ret R Qf ce sl pc lv (.int v :: .int i :: .ref (G.2 101) :: rest) σ := by
  subst hj
  subst ev
  intro p e s m args below meth c C hr hk hn hs hE H locs ls hl hD hS
  exact va_iast C.1 C.2.1 hE.1 hD (mm_D hG σ sz) hS 1 0 rfl rfl hin d (fun H1 locs1 hP1 _ hS1 => kk p e s m args below meth c C hr hk hn hs hE H1 locs1 ls hl hP1 hS1)
theorem mm_l_image {i : Int32} {j : Nat} (hin : vp_in i 920) (hj : i.toNatClampNeg = j) (d : decode cc pc = .ok (.iaload, 1)) (kk : jx_J l (mm_env G) (mm_dyn G) (mm_rg G) sz own nm cc nL ret R Qf ce sl (pc + 1) lv (.int (σ 2 j) :: rest) σ) : jx_J l (mm_env G) (mm_dyn G) (mm_rg G) sz own nm cc nL ret R Qf ce sl pc lv (.int i :: .ref (G.2 102) :: rest) σ := by
  subst hj
  intro p e s m args below meth c C hr hk hn hs hE H locs ls hl hD hS
  exact va_iald C.1 C.2.1 hE.1 hD 2 0 rfl rfl hin d (kk p e s m args below meth c C hr hk hn hs hE H locs ls hl hD hS)
theorem mm_s_image {i v : Int32} {j : Nat} {σ2 : jx_M} (hG : mm_ok G) (hin : vp_in i 920) (hj : i.toNatClampNeg = j) (ev : σ2 = jx_mu σ 2 j v) (d : decode cc pc = .ok (.iastore, 1)) (kk : jx_J l (mm_env G) (mm_dyn G) (mm_rg G) sz own nm cc nL ret R Qf ce sl (pc + 1) lv rest σ2) : jx_J l (mm_env G) (mm_dyn G) (mm_rg G) sz own nm cc nL ret R Qf ce sl pc lv (.int v :: .int i :: .ref (G.2 102) :: rest) σ := by
  subst hj
  subst ev
  intro p e s m args below meth c C hr hk hn hs hE H locs ls hl hD hS
  exact va_iast C.1 C.2.1 hE.1 hD (mm_D hG σ sz) hS 2 0 rfl rfl hin d (fun H1 locs1 hP1 _ hS1 => kk p e s m args below meth c C hr hk hn hs hE H1 locs1 ls hl hP1 hS1)
theorem mm_l_by {i : Int32} {j : Nat} (hin : vp_in i 4) (hj : i.toNatClampNeg = j) (d : decode cc pc = .ok (.iaload, 1)) (kk : jx_J l (mm_env G) (mm_dyn G) (mm_rg G) sz own nm cc nL ret R Qf ce sl (pc + 1) lv (.int (σ 3 j) :: rest) σ) : jx_J l (mm_env G) (mm_dyn G) (mm_rg G) sz own nm cc nL ret R Qf ce sl pc lv (.int i :: .ref (G.2 103) :: rest) σ := by
  subst hj
  intro p e s m args below meth c C hr hk hn hs hE H locs ls hl hD hS
  exact va_iald C.1 C.2.1 hE.1 hD 3 0 rfl rfl hin d (kk p e s m args below meth c C hr hk hn hs hE H locs ls hl hD hS)
theorem mm_s_by {i v : Int32} {j : Nat} {σ2 : jx_M} (hG : mm_ok G) (hin : vp_in i 4) (hj : i.toNatClampNeg = j) (ev : σ2 = jx_mu σ 3 j v) (d : decode cc pc = .ok (.iastore, 1)) (kk : jx_J l (mm_env G) (mm_dyn G) (mm_rg G) sz own nm cc nL ret R Qf ce sl (pc + 1) lv rest σ2) : jx_J l (mm_env G) (mm_dyn G) (mm_rg G) sz own nm cc nL ret R Qf ce sl pc lv (.int v :: .int i :: .ref (G.2 103) :: rest) σ := by
  subst hj
  subst ev
  intro p e s m args below meth c C hr hk hn hs hE H locs ls hl hD hS
  exact va_iast C.1 C.2.1 hE.1 hD (mm_D hG σ sz) hS 3 0 rfl rfl hin d (fun H1 locs1 hP1 _ hS1 => kk p e s m args below meth c C hr hk hn hs hE H1 locs1 ls hl hP1 hS1)
theorem mm_l_truths {i : Int32} {j : Nat} (hin : vp_in i 64) (hj : i.toNatClampNeg = j) (d : decode cc pc = .ok (.baload, 1)) (kk : jx_J l (mm_env G) (mm_dyn G) (mm_rg G) sz own nm cc nL ret R Qf ce sl (pc + 1) lv (.int (σ 4 j) :: rest) σ) : jx_J l (mm_env G) (mm_dyn G) (mm_rg G) sz own nm cc nL ret R Qf ce sl pc lv (.int i :: .ref (G.2 104) :: rest) σ := by
  subst hj
  intro p e s m args below meth c C hr hk hn hs hE H locs ls hl hD hS
  exact va_zald C.1 C.2.1 hE.1 hD 4 1 rfl rfl hin d (kk p e s m args below meth c C hr hk hn hs hE H locs ls hl hD hS)
theorem mm_s_truths {i v : Int32} {j : Nat} {σ2 : jx_M} (hG : mm_ok G) (hz : v = 0 ∨ v = 1) (hin : vp_in i 64) (hj : i.toNatClampNeg = j) (ev : σ2 = jx_mu σ 4 j v) (d : decode cc pc = .ok (.bastore, 1)) (kk : jx_J l (mm_env G) (mm_dyn G) (mm_rg G) sz own nm cc nL ret R Qf ce sl (pc + 1) lv rest σ2) : jx_J l (mm_env G) (mm_dyn G) (mm_rg G) sz own nm cc nL ret R Qf ce sl pc lv (.int v :: .int i :: .ref (G.2 104) :: rest) σ := by
  subst hj
  subst ev
  intro p e s m args below meth c C hr hk hn hs hE H locs ls hl hD hS
  exact va_zast C.1 C.2.1 hE.1 hD (mm_D hG σ sz) hS 4 1 rfl rfl hin d (fun H1 locs1 hP1 _ hS1 => by rw [show vp_nar .boolean v = v from jx_nbv hz] at hP1; exact kk p e s m args below meth c C hr hk hn hs hE H1 locs1 ls hl hP1 hS1)
theorem mm_l_going {i : Int32} {j : Nat} (hin : vp_in i 84) (hj : i.toNatClampNeg = j) (d : decode cc pc = .ok (.iaload, 1)) (kk : jx_J l (mm_env G) (mm_dyn G) (mm_rg G) sz own nm cc nL ret R Qf ce sl (pc + 1) lv (.int (σ 5 j) :: rest) σ) : jx_J l (mm_env G) (mm_dyn G) (mm_rg G) sz own nm cc nL ret R Qf ce sl pc lv (.int i :: .ref (G.2 105) :: rest) σ := by
  subst hj
  intro p e s m args below meth c C hr hk hn hs hE H locs ls hl hD hS
  exact va_iald C.1 C.2.1 hE.1 hD 5 0 rfl rfl hin d (kk p e s m args below meth c C hr hk hn hs hE H locs ls hl hD hS)
theorem mm_s_going {i v : Int32} {j : Nat} {σ2 : jx_M} (hG : mm_ok G) (hin : vp_in i 84) (hj : i.toNatClampNeg = j) (ev : σ2 = jx_mu σ 5 j v) (d : decode cc pc = .ok (.iastore, 1)) (kk : jx_J l (mm_env G) (mm_dyn G) (mm_rg G) sz own nm cc nL ret R Qf ce sl (pc + 1) lv rest σ2) : jx_J l (mm_env G) (mm_dyn G) (mm_rg G) sz own nm cc nL ret R Qf ce sl pc lv (.int v :: .int i :: .ref (G.2 105) :: rest) σ := by
  subst hj
  subst ev
  intro p e s m args below meth c C hr hk hn hs hE H locs ls hl hD hS
  exact va_iast C.1 C.2.1 hE.1 hD (mm_D hG σ sz) hS 5 0 rfl rfl hin d (fun H1 locs1 hP1 _ hS1 => kk p e s m args below meth c C hr hk hn hs hE H1 locs1 ls hl hP1 hS1)
theorem mm_l_weights {i : Int32} {j : Nat} (hin : vp_in i 7) (hj : i.toNatClampNeg = j) (d : decode cc pc = .ok (.iaload, 1)) (kk : jx_J l (mm_env G) (mm_dyn G) (mm_rg G) sz own nm cc nL ret R Qf ce sl (pc + 1) lv (.int (σ 6 j) :: rest) σ) : jx_J l (mm_env G) (mm_dyn G) (mm_rg G) sz own nm cc nL ret R Qf ce sl pc lv (.int i :: .ref (G.2 106) :: rest) σ := by
  subst hj
  intro p e s m args below meth c C hr hk hn hs hE H locs ls hl hD hS
  exact va_iald C.1 C.2.1 hE.1 hD 6 0 rfl rfl hin d (kk p e s m args below meth c C hr hk hn hs hE H locs ls hl hD hS)
theorem mm_s_weights {i v : Int32} {j : Nat} {σ2 : jx_M} (hG : mm_ok G) (hin : vp_in i 7) (hj : i.toNatClampNeg = j) (ev : σ2 = jx_mu σ 6 j v) (d : decode cc pc = .ok (.iastore, 1)) (kk : jx_J l (mm_env G) (mm_dyn G) (mm_rg G) sz own nm cc nL ret R Qf ce sl (pc + 1) lv rest σ2) : jx_J l (mm_env G) (mm_dyn G) (mm_rg G) sz own nm cc nL ret R Qf ce sl pc lv (.int v :: .int i :: .ref (G.2 106) :: rest) σ := by
  subst hj
  subst ev
  intro p e s m args below meth c C hr hk hn hs hE H locs ls hl hD hS
  exact va_iast C.1 C.2.1 hE.1 hD (mm_D hG σ sz) hS 6 0 rfl rfl hin d (fun H1 locs1 hP1 _ hS1 => kk p e s m args below meth c C hr hk hn hs hE H1 locs1 ls hl hP1 hS1)
theorem mm_l_lying {i : Int32} {j : Nat} (hin : vp_in i 6) (hj : i.toNatClampNeg = j) (d : decode cc pc = .ok (.iaload, 1)) (kk : jx_J l (mm_env G) (mm_dyn G) (mm_rg G) sz own nm cc nL ret R Qf ce sl (pc + 1) lv (.int (σ 7 j) :: rest) σ) : jx_J l (mm_env G) (mm_dyn G) (mm_rg G) sz own nm cc nL ret R Qf ce sl pc lv (.int i :: .ref (G.2 107) :: rest) σ := by
  subst hj
  intro p e s m args below meth c C hr hk hn hs hE H locs ls hl hD hS
  exact va_iald C.1 C.2.1 hE.1 hD 7 0 rfl rfl hin d (kk p e s m args below meth c C hr hk hn hs hE H locs ls hl hD hS)
theorem mm_s_lying {i v : Int32} {j : Nat} {σ2 : jx_M} (hG : mm_ok G) (hin : vp_in i 6) (hj : i.toNatClampNeg = j) (ev : σ2 = jx_mu σ 7 j v) (d : decode cc pc = .ok (.iastore, 1)) (kk : jx_J l (mm_env G) (mm_dyn G) (mm_rg G) sz own nm cc nL ret R Qf ce sl (pc + 1) lv rest σ2) : jx_J l (mm_env G) (mm_dyn G) (mm_rg G) sz own nm cc nL ret R Qf ce sl pc lv (.int v :: .int i :: .ref (G.2 107) :: rest) σ := by
  subst hj
  subst ev
  intro p e s m args below meth c C hr hk hn hs hE H locs ls hl hD hS
  exact va_iast C.1 C.2.1 hE.1 hD (mm_D hG σ sz) hS 7 0 rfl rfl hin d (fun H1 locs1 hP1 _ hS1 => kk p e s m args below meth c C hr hk hn hs hE H1 locs1 ls hl hP1 hS1)
theorem mm_l_counts {i : Int32} {j : Nat} (hin : vp_in i 6) (hj : i.toNatClampNeg = j) (d : decode cc pc = .ok (.baload, 1)) (kk : jx_J l (mm_env G) (mm_dyn G) (mm_rg G) sz own nm cc nL ret R Qf ce sl (pc + 1) lv (.int (σ 8 j) :: rest) σ) : jx_J l (mm_env G) (mm_dyn G) (mm_rg G) sz own nm cc nL ret R Qf ce sl pc lv (.int i :: .ref (G.2 108) :: rest) σ := by
  subst hj
  intro p e s m args below meth c C hr hk hn hs hE H locs ls hl hD hS
  exact va_zald C.1 C.2.1 hE.1 hD 8 1 rfl rfl hin d (kk p e s m args below meth c C hr hk hn hs hE H locs ls hl hD hS)
theorem mm_s_counts {i v : Int32} {j : Nat} {σ2 : jx_M} (hG : mm_ok G) (hz : v = 0 ∨ v = 1) (hin : vp_in i 6) (hj : i.toNatClampNeg = j) (ev : σ2 = jx_mu σ 8 j v) (d : decode cc pc = .ok (.bastore, 1)) (kk : jx_J l (mm_env G) (mm_dyn G) (mm_rg G) sz own nm cc nL ret R Qf ce sl (pc + 1) lv rest σ2) : jx_J l (mm_env G) (mm_dyn G) (mm_rg G) sz own nm cc nL ret R Qf ce sl pc lv (.int v :: .int i :: .ref (G.2 108) :: rest) σ := by
  subst hj
  subst ev
  intro p e s m args below meth c C hr hk hn hs hE H locs ls hl hD hS
  exact va_zast C.1 C.2.1 hE.1 hD (mm_D hG σ sz) hS 8 1 rfl rfl hin d (fun H1 locs1 hP1 _ hS1 => by rw [show vp_nar .boolean v = v from jx_nbv hz] at hP1; exact kk p e s m args below meth c C hr hk hn hs hE H1 locs1 ls hl hP1 hS1)
theorem mm_l_bodies {i : Int32} {j : Nat} (hin : vp_in i 20) (hj : i.toNatClampNeg = j) (d : decode cc pc = .ok (.iaload, 1)) (kk : jx_J l (mm_env G) (mm_dyn G) (mm_rg G) sz own nm cc nL ret R Qf ce sl (pc + 1) lv (.int (σ 9 j) :: rest) σ) : jx_J l (mm_env G) (mm_dyn G) (mm_rg G) sz own nm cc nL ret R Qf ce sl pc lv (.int i :: .ref (G.2 109) :: rest) σ := by
  subst hj
  intro p e s m args below meth c C hr hk hn hs hE H locs ls hl hD hS
  exact va_iald C.1 C.2.1 hE.1 hD 9 0 rfl rfl hin d (kk p e s m args below meth c C hr hk hn hs hE H locs ls hl hD hS)
theorem mm_s_bodies {i v : Int32} {j : Nat} {σ2 : jx_M} (hG : mm_ok G) (hin : vp_in i 20) (hj : i.toNatClampNeg = j) (ev : σ2 = jx_mu σ 9 j v) (d : decode cc pc = .ok (.iastore, 1)) (kk : jx_J l (mm_env G) (mm_dyn G) (mm_rg G) sz own nm cc nL ret R Qf ce sl (pc + 1) lv rest σ2) : jx_J l (mm_env G) (mm_dyn G) (mm_rg G) sz own nm cc nL ret R Qf ce sl pc lv (.int v :: .int i :: .ref (G.2 109) :: rest) σ := by
  subst hj
  subst ev
  intro p e s m args below meth c C hr hk hn hs hE H locs ls hl hD hS
  exact va_iast C.1 C.2.1 hE.1 hD (mm_D hG σ sz) hS 9 0 rfl rfl hin d (fun H1 locs1 hP1 _ hS1 => kk p e s m args below meth c C hr hk hn hs hE H1 locs1 ls hl hP1 hS1)
end MM
end
section
/-! the reference's methods: a function on the memory each, and its contract -/
theorem dX6_in_0 : decode cX6_in 0 = .ok (.iload_n 0, 1) := by decide +kernel
theorem dX6_in_1 : decode cX6_in 1 = .ok (.iload_n 1, 1) := by decide +kernel
theorem dX6_in_2 : decode cX6_in 2 = .ok (.if_icmp .lt 12, 3) := by decide +kernel
theorem dX6_in_5 : decode cX6_in 5 = .ok (.iload_n 0, 1) := by decide +kernel
theorem dX6_in_6 : decode cX6_in 6 = .ok (.iload_n 2, 1) := by decide +kernel
theorem dX6_in_7 : decode cX6_in 7 = .ok (.if_icmp .gt 7, 3) := by decide +kernel
theorem dX6_in_10 : decode cX6_in 10 = .ok (.iconst 1, 1) := by decide +kernel
theorem dX6_in_11 : decode cX6_in 11 = .ok (.goto 4, 3) := by decide +kernel
theorem dX6_in_14 : decode cX6_in 14 = .ok (.iconst 0, 1) := by decide +kernel
theorem dX6_in_15 : decode cX6_in 15 = .ok (.ireturn, 1) := by decide +kernel
abbrev rm_X6_in : Room := { frames := 0, cells := 0, slots := 0, locals := 0 }
abbrev jJ_X6_in (l : Launch) (G : jx_G) (sz : Nat) (σ0 : jx_M) (out : Int32) (pc : Nat) (lv : List (Nat × Value)) (st : List Value) (σ : jx_M) : Prop := jx_J l (mm_env G) (mm_dyn G) (mm_rg G) sz RX6 "in" cX6_in 3 (some .boolean) rm_X6_in (fun below args s => MQ below (jx_Qi (mm_dyn G) σ0 out (jx_A (mm_rg G) sz)) args s 0 0 (jx_A (mm_rg G) sz)) 0 0 pc lv st σ
def f_X6_in (a0 : Int32) (a1 : Int32) (a2 : Int32) : Option Int32 :=
  if a0 < a1 then some (0 : Int32) else if a2 < a0 then some (0 : Int32) else some (1 : Int32)
set_option maxHeartbeats 4000000 in
set_option maxRecDepth 100000 in
theorem k_X6_in (l : Launch) (G : jx_G) (hG : mm_ok G) (sz : Nat) (σ : jx_M) (a0 : Int32) (a1 : Int32) (a2 : Int32) (out : Int32) (h : f_X6_in a0 a1 a2 = some out) : Met l yX6_in (Cond.code yX6_in cX6_in 3 (some .boolean) :: jx_ws) rm_X6_in (jx_Pc (mm_env G) (mm_dyn G) (mm_rg G) sz σ [.int a0, .int a1, .int a2]) (jx_Qi (mm_dyn G) σ out (jx_A (mm_rg G) sz)) 0 0 (jx_A (mm_rg G) sz) := by
  unfold f_X6_in at h
  refine jx_met (by decide) (Nat.le_of_ble_eq_true rfl) ?_
  refine jx_sub (lv' := [(0, .int a0), (1, .int a1), (2, .int a2)]) [0, 1, 2] rfl ?_
  refine jx_iload_n (pc := 0) rfl dX6_in_0 ?_
  refine jx_iload_n (pc := 1) rfl dX6_in_1 ?_
  refine jx_icmp_lt (pc := 2) (tgt := 14) dX6_in_2 (by decide) (fun c1 => ?_) (fun c1 => ?_)
  · have h := jx_t c1 h
    refine jx_iconst (pc := 14) (v := (0 : Int32)) (by decide) dX6_in_14 ?_
    cases h
    exact jx_zret (pc := 15) (by decide) dX6_in_15
  · have h := jx_f c1 h
    refine jx_iload_n (pc := 5) rfl dX6_in_5 ?_
    refine jx_iload_n (pc := 6) rfl dX6_in_6 ?_
    refine jx_icmp_gt (pc := 7) (tgt := 14) dX6_in_7 (by decide) (fun c2 => ?_) (fun c2 => ?_)
    · have h := jx_t c2 h
      refine jx_iconst (pc := 14) (v := (0 : Int32)) (by decide) dX6_in_14 ?_
      cases h
      exact jx_zret (pc := 15) (by decide) dX6_in_15
    · have h := jx_f c2 h
      refine jx_iconst (pc := 10) (v := (1 : Int32)) (by decide) dX6_in_10 ?_
      refine jx_goto (pc := 11) (tgt := 15) dX6_in_11 (by decide) ?_
      cases h
      exact jx_zret (pc := 15) (by decide) dX6_in_15
theorem dX6_asAtFirst_0 : decode cX6_asAtFirst 0 = .ok (.aload_n 0, 1) := by decide +kernel
theorem dX6_asAtFirst_1 : decode cX6_asAtFirst 1 = .ok (.getfield 9, 3) := by decide +kernel
theorem dX6_asAtFirst_4 : decode cX6_asAtFirst 4 = .ok (.bipush 6, 2) := by decide +kernel
theorem dX6_asAtFirst_6 : decode cX6_asAtFirst 6 = .ok (.iload_n 1, 1) := by decide +kernel
theorem dX6_asAtFirst_7 : decode cX6_asAtFirst 7 = .ok (.iastore, 1) := by decide +kernel
theorem dX6_asAtFirst_8 : decode cX6_asAtFirst 8 = .ok (.iconst 0, 1) := by decide +kernel
theorem dX6_asAtFirst_9 : decode cX6_asAtFirst 9 = .ok (.istore_n 2, 1) := by decide +kernel
theorem dX6_asAtFirst_10 : decode cX6_asAtFirst 10 = .ok (.iload_n 2, 1) := by decide +kernel
theorem dX6_asAtFirst_11 : decode cX6_asAtFirst 11 = .ok (.bipush 7, 2) := by decide +kernel
theorem dX6_asAtFirst_13 : decode cX6_asAtFirst 13 = .ok (.if_icmp .ge 52, 3) := by decide +kernel
theorem dX6_asAtFirst_16 : decode cX6_asAtFirst 16 = .ok (.aload_n 0, 1) := by decide +kernel
theorem dX6_asAtFirst_17 : decode cX6_asAtFirst 17 = .ok (.getfield 9, 3) := by decide +kernel
theorem dX6_asAtFirst_20 : decode cX6_asAtFirst 20 = .ok (.bipush 10, 2) := by decide +kernel
theorem dX6_asAtFirst_22 : decode cX6_asAtFirst 22 = .ok (.iload_n 2, 1) := by decide +kernel
theorem dX6_asAtFirst_23 : decode cX6_asAtFirst 23 = .ok (.iadd, 1) := by decide +kernel
theorem dX6_asAtFirst_24 : decode cX6_asAtFirst 24 = .ok (.iload_n 2, 1) := by decide +kernel
theorem dX6_asAtFirst_25 : decode cX6_asAtFirst 25 = .ok (.iload_n 1, 1) := by decide +kernel
theorem dX6_asAtFirst_26 : decode cX6_asAtFirst 26 = .ok (.iconst 1, 1) := by decide +kernel
theorem dX6_asAtFirst_27 : decode cX6_asAtFirst 27 = .ok (.isub, 1) := by decide +kernel
theorem dX6_asAtFirst_28 : decode cX6_asAtFirst 28 = .ok (.if_icmp .ge 9, 3) := by decide +kernel
theorem dX6_asAtFirst_31 : decode cX6_asAtFirst 31 = .ok (.iload_n 2, 1) := by decide +kernel
theorem dX6_asAtFirst_32 : decode cX6_asAtFirst 32 = .ok (.iconst 1, 1) := by decide +kernel
theorem dX6_asAtFirst_33 : decode cX6_asAtFirst 33 = .ok (.iadd, 1) := by decide +kernel
theorem dX6_asAtFirst_34 : decode cX6_asAtFirst 34 = .ok (.goto 4, 3) := by decide +kernel
theorem dX6_asAtFirst_37 : decode cX6_asAtFirst 37 = .ok (.iload_n 2, 1) := by decide +kernel
theorem dX6_asAtFirst_38 : decode cX6_asAtFirst 38 = .ok (.iastore, 1) := by decide +kernel
theorem dX6_asAtFirst_39 : decode cX6_asAtFirst 39 = .ok (.aload_n 0, 1) := by decide +kernel
theorem dX6_asAtFirst_40 : decode cX6_asAtFirst 40 = .ok (.getfield 9, 3) := by decide +kernel
theorem dX6_asAtFirst_43 : decode cX6_asAtFirst 43 = .ok (.bipush 17, 2) := by decide +kernel
theorem dX6_asAtFirst_45 : decode cX6_asAtFirst 45 = .ok (.iload_n 2, 1) := by decide +kernel
theorem dX6_asAtFirst_46 : decode cX6_asAtFirst 46 = .ok (.iadd, 1) := by decide +kernel
theorem dX6_asAtFirst_47 : decode cX6_asAtFirst 47 = .ok (.iconst (-1), 1) := by decide +kernel
theorem dX6_asAtFirst_48 : decode cX6_asAtFirst 48 = .ok (.iastore, 1) := by decide +kernel
theorem dX6_asAtFirst_49 : decode cX6_asAtFirst 49 = .ok (.aload_n 0, 1) := by decide +kernel
theorem dX6_asAtFirst_50 : decode cX6_asAtFirst 50 = .ok (.getfield 9, 3) := by decide +kernel
theorem dX6_asAtFirst_53 : decode cX6_asAtFirst 53 = .ok (.bipush 24, 2) := by decide +kernel
theorem dX6_asAtFirst_55 : decode cX6_asAtFirst 55 = .ok (.iload_n 2, 1) := by decide +kernel
theorem dX6_asAtFirst_56 : decode cX6_asAtFirst 56 = .ok (.iadd, 1) := by decide +kernel
theorem dX6_asAtFirst_57 : decode cX6_asAtFirst 57 = .ok (.iconst 0, 1) := by decide +kernel
theorem dX6_asAtFirst_58 : decode cX6_asAtFirst 58 = .ok (.iastore, 1) := by decide +kernel
theorem dX6_asAtFirst_59 : decode cX6_asAtFirst 59 = .ok (.iinc 2 1, 3) := by decide +kernel
theorem dX6_asAtFirst_62 : decode cX6_asAtFirst 62 = .ok (.goto (-52), 3) := by decide +kernel
theorem dX6_asAtFirst_65 : decode cX6_asAtFirst 65 = .ok (.return_, 1) := by decide +kernel
abbrev rm_X6_asAtFirst : Room := { frames := 0, cells := 0, slots := 0, locals := 0 }
abbrev jJ_X6_asAtFirst (l : Launch) (G : jx_G) (sz : Nat) (out : jx_M) (pc : Nat) (lv : List (Nat × Value)) (st : List Value) (σ : jx_M) : Prop := jx_J l (mm_env G) (mm_dyn G) (mm_rg G) sz RX6 "asAtFirst" cX6_asAtFirst 3 none rm_X6_asAtFirst (fun below args s => MQ below (jx_Qv (mm_dyn G) out (jx_A (mm_rg G) sz)) args s 0 0 (jx_A (mm_rg G) sz)) 0 0 pc lv st σ
def b_X6_asAtFirst_38 (k10 : jx_M → Int32 → Int32 → Option jx_M) (σ : jx_M) (v1 : Int32) (v2 : Int32) (s0 : Int32) (s1 : Int32) : Option jx_M :=
  jx_gd (jx_in s1 920) (jx_lt (jx_mu σ 1 s1.toNatClampNeg s0) (fun σ2 => jx_gd (jx_in ((17 : Int32) + v2) 920) (jx_lt (jx_mu σ2 1 ((17 : Int32) + v2).toNatClampNeg (-1 : Int32)) (fun σ4 => jx_gd (jx_in ((24 : Int32) + v2) 920) (jx_lt (jx_mu σ4 1 ((24 : Int32) + v2).toNatClampNeg (0 : Int32)) (fun σ6 => jx_lt (v2 + (1 : Int32)) (fun x7 => (k10 σ6 v1 x7))))))))
set_option maxHeartbeats 4000000 in
set_option maxRecDepth 100000 in
theorem jb_X6_asAtFirst_38 (l : Launch) (G : jx_G) (hG : mm_ok G) (sz : Nat) (out : jx_M) (k10 : jx_M → Int32 → Int32 → Option jx_M) (h10 : ∀ (σ : jx_M) (v1 : Int32) (v2 : Int32), k10 σ v1 v2 = some out → jJ_X6_asAtFirst l G sz out 10 [(0, .ref (G.2 10)), (1, .int v1), (2, .int v2)] [] σ) (σ : jx_M) (v1 : Int32) (v2 : Int32) (s0 : Int32) (s1 : Int32) (h : b_X6_asAtFirst_38 k10 σ v1 v2 s0 s1 = some out) : jJ_X6_asAtFirst l G sz out 38 [(0, .ref (G.2 10)), (1, .int v1), (2, .int v2)] [.int s0, .int s1, .ref (G.2 101)] σ := by
  unfold b_X6_asAtFirst_38 at h
  obtain ⟨g1, h⟩ := jx_gd_o h
  obtain ⟨σ2, eσ2, h⟩ := jx_lt_o h
  refine mm_s_s (pc := 38) hG (jx_in_o g1) rfl eσ2 dX6_asAtFirst_38 ?_
  refine jx_aload_n (pc := 39) rfl dX6_asAtFirst_39 ?_
  refine mm_g_s (pc := 40) fl_X6_9 dX6_asAtFirst_40 ?_
  refine jx_bipush (pc := 43) (v := (17 : Int32)) (by decide) dX6_asAtFirst_43 ?_
  refine jx_iload_n (pc := 45) rfl dX6_asAtFirst_45 ?_
  refine jx_iadd (pc := 46) dX6_asAtFirst_46 ?_
  refine jx_iconst (pc := 47) (v := (-1 : Int32)) (by decide) dX6_asAtFirst_47 ?_
  obtain ⟨g3, h⟩ := jx_gd_o h
  obtain ⟨σ4, eσ4, h⟩ := jx_lt_o h
  refine mm_s_s (pc := 48) hG (jx_in_o g3) rfl eσ4 dX6_asAtFirst_48 ?_
  refine jx_aload_n (pc := 49) rfl dX6_asAtFirst_49 ?_
  refine mm_g_s (pc := 50) fl_X6_9 dX6_asAtFirst_50 ?_
  refine jx_bipush (pc := 53) (v := (24 : Int32)) (by decide) dX6_asAtFirst_53 ?_
  refine jx_iload_n (pc := 55) rfl dX6_asAtFirst_55 ?_
  refine jx_iadd (pc := 56) dX6_asAtFirst_56 ?_
  refine jx_iconst (pc := 57) (v := (0 : Int32)) (by decide) dX6_asAtFirst_57 ?_
  obtain ⟨g5, h⟩ := jx_gd_o h
  obtain ⟨σ6, eσ6, h⟩ := jx_lt_o h
  refine mm_s_s (pc := 58) hG (jx_in_o g5) rfl eσ6 dX6_asAtFirst_58 ?_
  obtain ⟨x7, ex7, h⟩ := jx_lt_o h
  refine jx_iinc (pc := 59) (v := v2) rfl ex7 (by decide) (lv' := [(2, .int x7), (0, .ref (G.2 10)), (1, .int v1)]) rfl dX6_asAtFirst_59 ?_
  refine jx_goto (pc := 62) (tgt := 10) dX6_asAtFirst_62 (by decide) ?_
  exact jx_sub [1, 2, 0] rfl (h10 σ6 v1 x7 h)
def g_X6_asAtFirst_10 (k10 : jx_M → Int32 → Int32 → Option jx_M) (σ : jx_M) (v1 : Int32) (v2 : Int32) : Option jx_M :=
  if (7 : Int32) ≤ v2 then some σ else if (v1 - (1 : Int32)) ≤ v2 then (b_X6_asAtFirst_38 k10 σ v1 v2 v2 ((10 : Int32) + v2)) else (b_X6_asAtFirst_38 k10 σ v1 v2 (v2 + (1 : Int32)) ((10 : Int32) + v2))
set_option maxHeartbeats 4000000 in
set_option maxRecDepth 100000 in
theorem jg_X6_asAtFirst_10 (l : Launch) (G : jx_G) (hG : mm_ok G) (sz : Nat) (out : jx_M) (k10 : jx_M → Int32 → Int32 → Option jx_M) (h10 : ∀ (σ : jx_M) (v1 : Int32) (v2 : Int32), k10 σ v1 v2 = some out → jJ_X6_asAtFirst l G sz out 10 [(0, .ref (G.2 10)), (1, .int v1), (2, .int v2)] [] σ) (σ : jx_M) (v1 : Int32) (v2 : Int32) (h : g_X6_asAtFirst_10 k10 σ v1 v2 = some out) : jJ_X6_asAtFirst l G sz out 10 [(0, .ref (G.2 10)), (1, .int v1), (2, .int v2)] [] σ := by
  unfold g_X6_asAtFirst_10 at h
  refine jx_iload_n (pc := 10) rfl dX6_asAtFirst_10 ?_
  refine jx_bipush (pc := 11) (v := (7 : Int32)) (by decide) dX6_asAtFirst_11 ?_
  refine jx_icmp_ge (pc := 13) (tgt := 65) dX6_asAtFirst_13 (by decide) (fun c1 => ?_) (fun c1 => ?_)
  · have h := jx_t c1 h
    cases h
    exact jx_vret (pc := 65) dX6_asAtFirst_65
  · have h := jx_f c1 h
    refine jx_aload_n (pc := 16) rfl dX6_asAtFirst_16 ?_
    refine mm_g_s (pc := 17) fl_X6_9 dX6_asAtFirst_17 ?_
    refine jx_bipush (pc := 20) (v := (10 : Int32)) (by decide) dX6_asAtFirst_20 ?_
    refine jx_iload_n (pc := 22) rfl dX6_asAtFirst_22 ?_
    refine jx_iadd (pc := 23) dX6_asAtFirst_23 ?_
    refine jx_iload_n (pc := 24) rfl dX6_asAtFirst_24 ?_
    refine jx_iload_n (pc := 25) rfl dX6_asAtFirst_25 ?_
    refine jx_iconst (pc := 26) (v := (1 : Int32)) (by decide) dX6_asAtFirst_26 ?_
    refine jx_isub (pc := 27) dX6_asAtFirst_27 ?_
    refine jx_icmp_ge (pc := 28) (tgt := 37) dX6_asAtFirst_28 (by decide) (fun c2 => ?_) (fun c2 => ?_)
    · have h := jx_t c2 h
      refine jx_iload_n (pc := 37) rfl dX6_asAtFirst_37 ?_
      exact jx_sub [0, 1, 2] rfl (jb_X6_asAtFirst_38 l G hG sz out k10 h10 σ v1 v2 v2 ((10 : Int32) + v2) h)
    · have h := jx_f c2 h
      refine jx_iload_n (pc := 31) rfl dX6_asAtFirst_31 ?_
      refine jx_iconst (pc := 32) (v := (1 : Int32)) (by decide) dX6_asAtFirst_32 ?_
      refine jx_iadd (pc := 33) dX6_asAtFirst_33 ?_
      refine jx_goto (pc := 34) (tgt := 38) dX6_asAtFirst_34 (by decide) ?_
      exact jx_sub [0, 1, 2] rfl (jb_X6_asAtFirst_38 l G hG sz out k10 h10 σ v1 v2 (v2 + (1 : Int32)) ((10 : Int32) + v2) h)
def b_X6_asAtFirst_10  : Nat → jx_M → Int32 → Int32 → Option jx_M
  | 0, _, _, _ => none
  | n + 1, σ, v1, v2 => g_X6_asAtFirst_10 (b_X6_asAtFirst_10 n) σ v1 v2
theorem jb_X6_asAtFirst_10 (l : Launch) (G : jx_G) (hG : mm_ok G) (sz : Nat) (out : jx_M)  : ∀ (n : Nat) (σ : jx_M) (v1 : Int32) (v2 : Int32), b_X6_asAtFirst_10 n σ v1 v2 = some out → jJ_X6_asAtFirst l G sz out 10 [(0, .ref (G.2 10)), (1, .int v1), (2, .int v2)] [] σ := by
  intro n
  induction n with
  | zero =>
    intro σ v1 v2 h
    cases h
  | succ n ih =>
    intro σ v1 v2 h
    exact jg_X6_asAtFirst_10 l G hG sz out (b_X6_asAtFirst_10 n) ih σ v1 v2 h
def f_X6_asAtFirst (σ : jx_M) (a1 : Int32) : Option jx_M :=
  jx_lt (jx_mu σ 1 6 a1) (fun σ1 => (b_X6_asAtFirst_10 jx_fuel σ1 a1 (0 : Int32)))
set_option maxHeartbeats 4000000 in
set_option maxRecDepth 100000 in
theorem k_X6_asAtFirst (l : Launch) (G : jx_G) (hG : mm_ok G) (sz : Nat) (σ : jx_M) (a1 : Int32) (out : jx_M) (h : f_X6_asAtFirst σ a1 = some out) : Met l yX6_asAtFirst (Cond.code yX6_asAtFirst cX6_asAtFirst 3 none :: jx_ws) rm_X6_asAtFirst (jx_Pc (mm_env G) (mm_dyn G) (mm_rg G) sz σ [.ref (G.2 10), .int a1]) (jx_Qv (mm_dyn G) out (jx_A (mm_rg G) sz)) 0 0 (jx_A (mm_rg G) sz) := by
  unfold f_X6_asAtFirst at h
  refine jx_met (by decide) (Nat.le_of_ble_eq_true rfl) ?_
  refine jx_sub (lv' := [(0, .ref (G.2 10)), (1, .int a1)]) [0, 1] rfl ?_
  refine jx_aload_n (pc := 0) rfl dX6_asAtFirst_0 ?_
  refine mm_g_s (pc := 1) fl_X6_9 dX6_asAtFirst_1 ?_
  refine jx_bipush (pc := 4) (v := (6 : Int32)) (by decide) dX6_asAtFirst_4 ?_
  refine jx_iload_n (pc := 6) rfl dX6_asAtFirst_6 ?_
  obtain ⟨σ1, eσ1, h⟩ := jx_lt_o h
  refine mm_s_s (pc := 7) hG (jx_in_o (by decide)) (by decide) eσ1 dX6_asAtFirst_7 ?_
  refine jx_iconst (pc := 8) (v := (0 : Int32)) (by decide) dX6_asAtFirst_8 ?_
  refine jx_istore_n (pc := 9) (i := 2) rfl rfl (by decide) (lv' := [(2, .int (0 : Int32)), (0, .ref (G.2 10)), (1, .int a1)]) rfl dX6_asAtFirst_9 ?_
  exact jx_sub [1, 2, 0] rfl (jb_X6_asAtFirst_10 l G hG sz out jx_fuel σ1 a1 (0 : Int32) h)
theorem dX6_here_0 : decode cX6_here 0 = .ok (.aload_n 0, 1) := by decide +kernel
theorem dX6_here_1 : decode cX6_here 1 = .ok (.getfield 52, 3) := by decide +kernel
theorem dX6_here_4 : decode cX6_here 4 = .ok (.aload_n 0, 1) := by decide +kernel
theorem dX6_here_5 : decode cX6_here 5 = .ok (.getfield 55, 3) := by decide +kernel
theorem dX6_here_8 : decode cX6_here 8 = .ok (.if_icmp .ge 18, 3) := by decide +kernel
theorem dX6_here_11 : decode cX6_here 11 = .ok (.aload_n 0, 1) := by decide +kernel
theorem dX6_here_12 : decode cX6_here 12 = .ok (.getfield 9, 3) := by decide +kernel
theorem dX6_here_15 : decode cX6_here 15 = .ok (.bipush 115, 2) := by decide +kernel
theorem dX6_here_17 : decode cX6_here 17 = .ok (.aload_n 0, 1) := by decide +kernel
theorem dX6_here_18 : decode cX6_here 18 = .ok (.getfield 52, 3) := by decide +kernel
theorem dX6_here_21 : decode cX6_here 21 = .ok (.iadd, 1) := by decide +kernel
theorem dX6_here_22 : decode cX6_here 22 = .ok (.iaload, 1) := by decide +kernel
theorem dX6_here_23 : decode cX6_here 23 = .ok (.goto 4, 3) := by decide +kernel
theorem dX6_here_26 : decode cX6_here 26 = .ok (.iconst (-1), 1) := by decide +kernel
theorem dX6_here_27 : decode cX6_here 27 = .ok (.ireturn, 1) := by decide +kernel
abbrev rm_X6_here : Room := { frames := 0, cells := 0, slots := 0, locals := 0 }
abbrev jJ_X6_here (l : Launch) (G : jx_G) (sz : Nat) (σ0 : jx_M) (out : Int32) (pc : Nat) (lv : List (Nat × Value)) (st : List Value) (σ : jx_M) : Prop := jx_J l (mm_env G) (mm_dyn G) (mm_rg G) sz RX6 "here" cX6_here 1 (some .int) rm_X6_here (fun below args s => MQ below (jx_Qi (mm_dyn G) σ0 out (jx_A (mm_rg G) sz)) args s 0 0 (jx_A (mm_rg G) sz)) 0 0 pc lv st σ
def f_X6_here (σ : jx_M)  : Option Int32 :=
  if (σ 0 6) ≤ (σ 0 5) then some (-1 : Int32) else jx_gd (jx_in ((115 : Int32) + (σ 0 5)) 920) (some (σ 1 ((115 : Int32) + (σ 0 5)).toNatClampNeg))
set_option maxHeartbeats 4000000 in
set_option maxRecDepth 100000 in
theorem k_X6_here (l : Launch) (G : jx_G) (hG : mm_ok G) (sz : Nat) (σ : jx_M)  (out : Int32) (h : f_X6_here σ = some out) : Met l yX6_here (Cond.code yX6_here cX6_here 1 (some .int) :: jx_ws) rm_X6_here (jx_Pc (mm_env G) (mm_dyn G) (mm_rg G) sz σ [.ref (G.2 10)]) (jx_Qi (mm_dyn G) σ out (jx_A (mm_rg G) sz)) 0 0 (jx_A (mm_rg G) sz) := by
  unfold f_X6_here at h
  refine jx_met (by decide) (Nat.le_of_ble_eq_true rfl) ?_
  refine jx_sub (lv' := [(0, .ref (G.2 10))]) [0] rfl ?_
  refine jx_aload_n (pc := 0) rfl dX6_here_0 ?_
  refine mm_g_spot (pc := 1) fl_X6_52 dX6_here_1 ?_
  refine jx_aload_n (pc := 4) rfl dX6_here_4 ?_
  refine mm_g_end (pc := 5) fl_X6_55 dX6_here_5 ?_
  refine jx_icmp_ge (pc := 8) (tgt := 26) dX6_here_8 (by decide) (fun c1 => ?_) (fun c1 => ?_)
  · have h := jx_t c1 h
    refine jx_iconst (pc := 26) (v := (-1 : Int32)) (by decide) dX6_here_26 ?_
    cases h
    exact jx_iret (pc := 27) dX6_here_27
  · have h := jx_f c1 h
    refine jx_aload_n (pc := 11) rfl dX6_here_11 ?_
    refine mm_g_s (pc := 12) fl_X6_9 dX6_here_12 ?_
    refine jx_bipush (pc := 15) (v := (115 : Int32)) (by decide) dX6_here_15 ?_
    refine jx_aload_n (pc := 17) rfl dX6_here_17 ?_
    refine mm_g_spot (pc := 18) fl_X6_52 dX6_here_18 ?_
    refine jx_iadd (pc := 21) dX6_here_21 ?_
    obtain ⟨g2, h⟩ := jx_gd_o h
    refine mm_l_s (pc := 22) (jx_in_o g2) rfl dX6_here_22 ?_
    refine jx_goto (pc := 23) (tgt := 27) dX6_here_23 (by decide) ?_
    cases h
    exact jx_iret (pc := 27) dX6_here_27
theorem dX6_crowded_0 : decode cX6_crowded 0 = .ok (.iconst 0, 1) := by decide +kernel
theorem dX6_crowded_1 : decode cX6_crowded 1 = .ok (.istore_n 1, 1) := by decide +kernel
theorem dX6_crowded_2 : decode cX6_crowded 2 = .ok (.iconst (-1), 1) := by decide +kernel
theorem dX6_crowded_3 : decode cX6_crowded 3 = .ok (.istore_n 2, 1) := by decide +kernel
theorem dX6_crowded_4 : decode cX6_crowded 4 = .ok (.iconst 0, 1) := by decide +kernel
theorem dX6_crowded_5 : decode cX6_crowded 5 = .ok (.istore_n 3, 1) := by decide +kernel
theorem dX6_crowded_6 : decode cX6_crowded 6 = .ok (.iload_n 3, 1) := by decide +kernel
theorem dX6_crowded_7 : decode cX6_crowded 7 = .ok (.aload_n 0, 1) := by decide +kernel
theorem dX6_crowded_8 : decode cX6_crowded 8 = .ok (.getfield 9, 3) := by decide +kernel
theorem dX6_crowded_11 : decode cX6_crowded 11 = .ok (.bipush 6, 2) := by decide +kernel
theorem dX6_crowded_13 : decode cX6_crowded 13 = .ok (.iaload, 1) := by decide +kernel
theorem dX6_crowded_14 : decode cX6_crowded 14 = .ok (.if_icmp .ge 81, 3) := by decide +kernel
theorem dX6_crowded_17 : decode cX6_crowded 17 = .ok (.iconst 0, 1) := by decide +kernel
theorem dX6_crowded_18 : decode cX6_crowded 18 = .ok (.istore 4, 2) := by decide +kernel
theorem dX6_crowded_20 : decode cX6_crowded 20 = .ok (.iconst 0, 1) := by decide +kernel
theorem dX6_crowded_21 : decode cX6_crowded 21 = .ok (.istore 5, 2) := by decide +kernel
theorem dX6_crowded_23 : decode cX6_crowded 23 = .ok (.iload 5, 2) := by decide +kernel
theorem dX6_crowded_25 : decode cX6_crowded 25 = .ok (.aload_n 0, 1) := by decide +kernel
theorem dX6_crowded_26 : decode cX6_crowded 26 = .ok (.getfield 9, 3) := by decide +kernel
theorem dX6_crowded_29 : decode cX6_crowded 29 = .ok (.iconst 0, 1) := by decide +kernel
theorem dX6_crowded_30 : decode cX6_crowded 30 = .ok (.iaload, 1) := by decide +kernel
theorem dX6_crowded_31 : decode cX6_crowded 31 = .ok (.if_icmp .ge 33, 3) := by decide +kernel
theorem dX6_crowded_34 : decode cX6_crowded 34 = .ok (.iload 4, 2) := by decide +kernel
theorem dX6_crowded_36 : decode cX6_crowded 36 = .ok (.aload_n 0, 1) := by decide +kernel
theorem dX6_crowded_37 : decode cX6_crowded 37 = .ok (.getfield 9, 3) := by decide +kernel
theorem dX6_crowded_40 : decode cX6_crowded 40 = .ok (.bipush 43, 2) := by decide +kernel
theorem dX6_crowded_42 : decode cX6_crowded 42 = .ok (.iload 5, 2) := by decide +kernel
theorem dX6_crowded_44 : decode cX6_crowded 44 = .ok (.iadd, 1) := by decide +kernel
theorem dX6_crowded_45 : decode cX6_crowded 45 = .ok (.iaload, 1) := by decide +kernel
theorem dX6_crowded_46 : decode cX6_crowded 46 = .ok (.iload_n 3, 1) := by decide +kernel
theorem dX6_crowded_47 : decode cX6_crowded 47 = .ok (.if_icmp .ne 7, 3) := by decide +kernel
theorem dX6_crowded_50 : decode cX6_crowded 50 = .ok (.iconst 1, 1) := by decide +kernel
theorem dX6_crowded_51 : decode cX6_crowded 51 = .ok (.goto 4, 3) := by decide +kernel
theorem dX6_crowded_54 : decode cX6_crowded 54 = .ok (.iconst 0, 1) := by decide +kernel
theorem dX6_crowded_55 : decode cX6_crowded 55 = .ok (.iadd, 1) := by decide +kernel
theorem dX6_crowded_56 : decode cX6_crowded 56 = .ok (.istore 4, 2) := by decide +kernel
theorem dX6_crowded_58 : decode cX6_crowded 58 = .ok (.iinc 5 1, 3) := by decide +kernel
theorem dX6_crowded_61 : decode cX6_crowded 61 = .ok (.goto (-38), 3) := by decide +kernel
theorem dX6_crowded_64 : decode cX6_crowded 64 = .ok (.iload 4, 2) := by decide +kernel
theorem dX6_crowded_66 : decode cX6_crowded 66 = .ok (.iload_n 2, 1) := by decide +kernel
theorem dX6_crowded_67 : decode cX6_crowded 67 = .ok (.if_icmp .le 7, 3) := by decide +kernel
theorem dX6_crowded_70 : decode cX6_crowded 70 = .ok (.iload_n 3, 1) := by decide +kernel
theorem dX6_crowded_71 : decode cX6_crowded 71 = .ok (.goto 4, 3) := by decide +kernel
theorem dX6_crowded_74 : decode cX6_crowded 74 = .ok (.iload_n 1, 1) := by decide +kernel
theorem dX6_crowded_75 : decode cX6_crowded 75 = .ok (.istore_n 1, 1) := by decide +kernel
theorem dX6_crowded_76 : decode cX6_crowded 76 = .ok (.iload 4, 2) := by decide +kernel
theorem dX6_crowded_78 : decode cX6_crowded 78 = .ok (.iload_n 2, 1) := by decide +kernel
theorem dX6_crowded_79 : decode cX6_crowded 79 = .ok (.if_icmp .le 8, 3) := by decide +kernel
theorem dX6_crowded_82 : decode cX6_crowded 82 = .ok (.iload 4, 2) := by decide +kernel
theorem dX6_crowded_84 : decode cX6_crowded 84 = .ok (.goto 4, 3) := by decide +kernel
theorem dX6_crowded_87 : decode cX6_crowded 87 = .ok (.iload_n 2, 1) := by decide +kernel
theorem dX6_crowded_88 : decode cX6_crowded 88 = .ok (.istore_n 2, 1) := by decide +kernel
theorem dX6_crowded_89 : decode cX6_crowded 89 = .ok (.iinc 3 1, 3) := by decide +kernel
theorem dX6_crowded_92 : decode cX6_crowded 92 = .ok (.goto (-86), 3) := by decide +kernel
theorem dX6_crowded_95 : decode cX6_crowded 95 = .ok (.iload_n 1, 1) := by decide +kernel
theorem dX6_crowded_96 : decode cX6_crowded 96 = .ok (.ireturn, 1) := by decide +kernel
abbrev rm_X6_crowded : Room := { frames := 0, cells := 0, slots := 0, locals := 0 }
abbrev jJ_X6_crowded (l : Launch) (G : jx_G) (sz : Nat) (σ0 : jx_M) (out : Int32) (pc : Nat) (lv : List (Nat × Value)) (st : List Value) (σ : jx_M) : Prop := jx_J l (mm_env G) (mm_dyn G) (mm_rg G) sz RX6 "crowded" cX6_crowded 6 (some .int) rm_X6_crowded (fun below args s => MQ below (jx_Qi (mm_dyn G) σ0 out (jx_A (mm_rg G) sz)) args s 0 0 (jx_A (mm_rg G) sz)) 0 0 pc lv st σ
def b_X6_crowded_55 (k6 : jx_M → Int32 → Int32 → Int32 → Option Int32) (k23 : jx_M → Int32 → Int32 → Int32 → Int32 → Int32 → Option Int32) (σ : jx_M) (v1 : Int32) (v2 : Int32) (v3 : Int32) (v5 : Int32) (s0 : Int32) (s1 : Int32) : Option Int32 :=
  jx_lt ((s1 + s0)) (fun x1 => jx_lt (v5 + (1 : Int32)) (fun x2 => (k23 σ v1 v2 v3 x1 x2)))
set_option maxHeartbeats 4000000 in
set_option maxRecDepth 100000 in
theorem jb_X6_crowded_55 (l : Launch) (G : jx_G) (hG : mm_ok G) (sz : Nat) (σ0 : jx_M) (out : Int32) (k6 : jx_M → Int32 → Int32 → Int32 → Option Int32) (h6 : ∀ (σ : jx_M) (v1 : Int32) (v2 : Int32) (v3 : Int32), σ = σ0 → k6 σ v1 v2 v3 = some out → jJ_X6_crowded l G sz σ0 out 6 [(0, .ref (G.2 10)), (1, .int v1), (2, .int v2), (3, .int v3)] [] σ) (k23 : jx_M → Int32 → Int32 → Int32 → Int32 → Int32 → Option Int32) (h23 : ∀ (σ : jx_M) (v1 : Int32) (v2 : Int32) (v3 : Int32) (v4 : Int32) (v5 : Int32), σ = σ0 → k23 σ v1 v2 v3 v4 v5 = some out → jJ_X6_crowded l G sz σ0 out 23 [(0, .ref (G.2 10)), (1, .int v1), (2, .int v2), (3, .int v3), (4, .int v4), (5, .int v5)] [] σ) (σ : jx_M) (v1 : Int32) (v2 : Int32) (v3 : Int32) (v5 : Int32) (s0 : Int32) (s1 : Int32) (e0 : σ = σ0) (h : b_X6_crowded_55 k6 k23 σ v1 v2 v3 v5 s0 s1 = some out) : jJ_X6_crowded l G sz σ0 out 55 [(0, .ref (G.2 10)), (1, .int v1), (2, .int v2), (3, .int v3), (5, .int v5)] [.int s0, .int s1] σ := by
  unfold b_X6_crowded_55 at h
  refine jx_iadd (pc := 55) dX6_crowded_55 ?_
  obtain ⟨x1, ex1, h⟩ := jx_lt_o h
  refine jx_istore (pc := 56) (i := 4) ex1 (by decide) (lv' := [(4, .int x1), (0, .ref (G.2 10)), (1, .int v1), (2, .int v2), (3, .int v3), (5, .int v5)]) rfl dX6_crowded_56 ?_
  obtain ⟨x2, ex2, h⟩ := jx_lt_o h
  refine jx_iinc (pc := 58) (v := v5) rfl ex2 (by decide) (lv' := [(5, .int x2), (4, .int x1), (0, .ref (G.2 10)), (1, .int v1), (2, .int v2), (3, .int v3)]) rfl dX6_crowded_58 ?_
  refine jx_goto (pc := 61) (tgt := 23) dX6_crowded_61 (by decide) ?_
  exact jx_sub [2, 3, 4, 5, 1, 0] rfl (h23 σ v1 v2 v3 x1 x2 e0 h)
def b_X6_crowded_88 (k6 : jx_M → Int32 → Int32 → Int32 → Option Int32) (σ : jx_M) (v1 : Int32) (v3 : Int32) (s0 : Int32) : Option Int32 :=
  jx_lt (v3 + (1 : Int32)) (fun x1 => (k6 σ v1 s0 x1))
set_option maxHeartbeats 4000000 in
set_option maxRecDepth 100000 in
theorem jb_X6_crowded_88 (l : Launch) (G : jx_G) (hG : mm_ok G) (sz : Nat) (σ0 : jx_M) (out : Int32) (k6 : jx_M → Int32 → Int32 → Int32 → Option Int32) (h6 : ∀ (σ : jx_M) (v1 : Int32) (v2 : Int32) (v3 : Int32), σ = σ0 → k6 σ v1 v2 v3 = some out → jJ_X6_crowded l G sz σ0 out 6 [(0, .ref (G.2 10)), (1, .int v1), (2, .int v2), (3, .int v3)] [] σ) (σ : jx_M) (v1 : Int32) (v3 : Int32) (s0 : Int32) (e0 : σ = σ0) (h : b_X6_crowded_88 k6 σ v1 v3 s0 = some out) : jJ_X6_crowded l G sz σ0 out 88 [(0, .ref (G.2 10)), (1, .int v1), (3, .int v3)] [.int s0] σ := by
  unfold b_X6_crowded_88 at h
  refine jx_istore_n (pc := 88) (i := 2) rfl rfl (by decide) (lv' := [(2, .int s0), (0, .ref (G.2 10)), (1, .int v1), (3, .int v3)]) rfl dX6_crowded_88 ?_
  obtain ⟨x1, ex1, h⟩ := jx_lt_o h
  refine jx_iinc (pc := 89) (v := v3) rfl ex1 (by decide) (lv' := [(3, .int x1), (2, .int s0), (0, .ref (G.2 10)), (1, .int v1)]) rfl dX6_crowded_89 ?_
  refine jx_goto (pc := 92) (tgt := 6) dX6_crowded_92 (by decide) ?_
  exact jx_sub [2, 3, 1, 0] rfl (h6 σ v1 s0 x1 e0 h)
def b_X6_crowded_75 (k6 : jx_M → Int32 → Int32 → Int32 → Option Int32) (σ : jx_M) (v2 : Int32) (v3 : Int32) (v4 : Int32) (s0 : Int32) : Option Int32 :=
  if v4 ≤ v2 then (b_X6_crowded_88 k6 σ s0 v3 v2) else (b_X6_crowded_88 k6 σ s0 v3 v4)
set_option maxHeartbeats 4000000 in
set_option maxRecDepth 100000 in
theorem jb_X6_crowded_75 (l : Launch) (G : jx_G) (hG : mm_ok G) (sz : Nat) (σ0 : jx_M) (out : Int32) (k6 : jx_M → Int32 → Int32 → Int32 → Option Int32) (h6 : ∀ (σ : jx_M) (v1 : Int32) (v2 : Int32) (v3 : Int32), σ = σ0 → k6 σ v1 v2 v3 = some out → jJ_X6_crowded l G sz σ0 out 6 [(0, .ref (G.2 10)), (1, .int v1), (2, .int v2), (3, .int v3)] [] σ) (σ : jx_M) (v2 : Int32) (v3 : Int32) (v4 : Int32) (s0 : Int32) (e0 : σ = σ0) (h : b_X6_crowded_75 k6 σ v2 v3 v4 s0 = some out) : jJ_X6_crowded l G sz σ0 out 75 [(0, .ref (G.2 10)), (2, .int v2), (3, .int v3), (4, .int v4)] [.int s0] σ := by
  unfold b_X6_crowded_75 at h
  refine jx_istore_n (pc := 75) (i := 1) rfl rfl (by decide) (lv' := [(1, .int s0), (0, .ref (G.2 10)), (2, .int v2), (3, .int v3), (4, .int v4)]) rfl dX6_crowded_75 ?_
  refine jx_iload (pc := 76) rfl dX6_crowded_76 ?_
  refine jx_iload_n (pc := 78) rfl dX6_crowded_78 ?_
  refine jx_icmp_le (pc := 79) (tgt := 87) dX6_crowded_79 (by decide) (fun c1 => ?_) (fun c1 => ?_)
  · have h := jx_t c1 h
    refine jx_iload_n (pc := 87) rfl dX6_crowded_87 ?_
    exact jx_sub [1, 0, 3] rfl (jb_X6_crowded_88 l G hG sz σ0 out k6 h6 σ s0 v3 v2 e0 h)
  · have h := jx_f c1 h
    refine jx_iload (pc := 82) rfl dX6_crowded_82 ?_
    refine jx_goto (pc := 84) (tgt := 88) dX6_crowded_84 (by decide) ?_
    exact jx_sub [1, 0, 3] rfl (jb_X6_crowded_88 l G hG sz σ0 out k6 h6 σ s0 v3 v4 e0 h)
def g_X6_crowded_23 (k6 : jx_M → Int32 → Int32 → Int32 → Option Int32) (k23 : jx_M → Int32 → Int32 → Int32 → Int32 → Int32 → Option Int32) (σ : jx_M) (v1 : Int32) (v2 : Int32) (v3 : Int32) (v4 : Int32) (v5 : Int32) : Option Int32 :=
  if (σ 1 0) ≤ v5 then if v4 ≤ v2 then (b_X6_crowded_75 k6 σ v2 v3 v4 v1) else (b_X6_crowded_75 k6 σ v2 v3 v4 v3) else jx_gd (jx_in ((43 : Int32) + v5) 920) (if (σ 1 ((43 : Int32) + v5).toNatClampNeg) = v3 then (b_X6_crowded_55 k6 k23 σ v1 v2 v3 v5 (1 : Int32) v4) else (b_X6_crowded_55 k6 k23 σ v1 v2 v3 v5 (0 : Int32) v4))
set_option maxHeartbeats 4000000 in
set_option maxRecDepth 100000 in
theorem jg_X6_crowded_23 (l : Launch) (G : jx_G) (hG : mm_ok G) (sz : Nat) (σ0 : jx_M) (out : Int32) (k6 : jx_M → Int32 → Int32 → Int32 → Option Int32) (h6 : ∀ (σ : jx_M) (v1 : Int32) (v2 : Int32) (v3 : Int32), σ = σ0 → k6 σ v1 v2 v3 = some out → jJ_X6_crowded l G sz σ0 out 6 [(0, .ref (G.2 10)), (1, .int v1), (2, .int v2), (3, .int v3)] [] σ) (k23 : jx_M → Int32 → Int32 → Int32 → Int32 → Int32 → Option Int32) (h23 : ∀ (σ : jx_M) (v1 : Int32) (v2 : Int32) (v3 : Int32) (v4 : Int32) (v5 : Int32), σ = σ0 → k23 σ v1 v2 v3 v4 v5 = some out → jJ_X6_crowded l G sz σ0 out 23 [(0, .ref (G.2 10)), (1, .int v1), (2, .int v2), (3, .int v3), (4, .int v4), (5, .int v5)] [] σ) (σ : jx_M) (v1 : Int32) (v2 : Int32) (v3 : Int32) (v4 : Int32) (v5 : Int32) (e0 : σ = σ0) (h : g_X6_crowded_23 k6 k23 σ v1 v2 v3 v4 v5 = some out) : jJ_X6_crowded l G sz σ0 out 23 [(0, .ref (G.2 10)), (1, .int v1), (2, .int v2), (3, .int v3), (4, .int v4), (5, .int v5)] [] σ := by
  unfold g_X6_crowded_23 at h
  refine jx_iload (pc := 23) rfl dX6_crowded_23 ?_
  refine jx_aload_n (pc := 25) rfl dX6_crowded_25 ?_
  refine mm_g_s (pc := 26) fl_X6_9 dX6_crowded_26 ?_
  refine jx_iconst (pc := 29) (v := (0 : Int32)) (by decide) dX6_crowded_29 ?_
  refine mm_l_s (pc := 30) (j := 0) (jx_in_o (by decide)) (by decide) dX6_crowded_30 ?_
  refine jx_icmp_ge (pc := 31) (tgt := 64) dX6_crowded_31 (by decide) (fun c1 => ?_) (fun c1 => ?_)
  · have h := jx_t c1 h
    refine jx_iload (pc := 64) rfl dX6_crowded_64 ?_
    refine jx_iload_n (pc := 66) rfl dX6_crowded_66 ?_
    refine jx_icmp_le (pc := 67) (tgt := 74) dX6_crowded_67 (by decide) (fun c2 => ?_) (fun c2 => ?_)
    · have h := jx_t c2 h
      refine jx_iload_n (pc := 74) rfl dX6_crowded_74 ?_
      exact jx_sub [0, 2, 3, 4] rfl (jb_X6_crowded_75 l G hG sz σ0 out k6 h6 σ v2 v3 v4 v1 e0 h)
    · have h := jx_f c2 h
      refine jx_iload_n (pc := 70) rfl dX6_crowded_70 ?_
      refine jx_goto (pc := 71) (tgt := 75) dX6_crowded_71 (by decide) ?_
      exact jx_sub [0, 2, 3, 4] rfl (jb_X6_crowded_75 l G hG sz σ0 out k6 h6 σ v2 v3 v4 v3 e0 h)
  · have h := jx_f c1 h
    refine jx_iload (pc := 34) rfl dX6_crowded_34 ?_
    refine jx_aload_n (pc := 36) rfl dX6_crowded_36 ?_
    refine mm_g_s (pc := 37) fl_X6_9 dX6_crowded_37 ?_
    refine jx_bipush (pc := 40) (v := (43 : Int32)) (by decide) dX6_crowded_40 ?_
    refine jx_iload (pc := 42) rfl dX6_crowded_42 ?_
    refine jx_iadd (pc := 44) dX6_crowded_44 ?_
    obtain ⟨g3, h⟩ := jx_gd_o h
    refine mm_l_s (pc := 45) (jx_in_o g3) rfl dX6_crowded_45 ?_
    refine jx_iload_n (pc := 46) rfl dX6_crowded_46 ?_
    refine jx_icmp_ne (pc := 47) (tgt := 54) dX6_crowded_47 (by decide) (fun c4 => ?_) (fun c4 => ?_)
    · have h := jx_f c4 h
      refine jx_iconst (pc := 54) (v := (0 : Int32)) (by decide) dX6_crowded_54 ?_
      exact jx_sub [0, 1, 2, 3, 5] rfl (jb_X6_crowded_55 l G hG sz σ0 out k6 h6 k23 h23 σ v1 v2 v3 v5 (0 : Int32) v4 e0 h)
    · have h := jx_t c4 h
      refine jx_iconst (pc := 50) (v := (1 : Int32)) (by decide) dX6_crowded_50 ?_
      refine jx_goto (pc := 51) (tgt := 55) dX6_crowded_51 (by decide) ?_
      exact jx_sub [0, 1, 2, 3, 5] rfl (jb_X6_crowded_55 l G hG sz σ0 out k6 h6 k23 h23 σ v1 v2 v3 v5 (1 : Int32) v4 e0 h)
def b_X6_crowded_23 (k6 : jx_M → Int32 → Int32 → Int32 → Option Int32) : Nat → jx_M → Int32 → Int32 → Int32 → Int32 → Int32 → Option Int32
  | 0, _, _, _, _, _, _ => none
  | n + 1, σ, v1, v2, v3, v4, v5 => g_X6_crowded_23 k6 (b_X6_crowded_23 k6 n) σ v1 v2 v3 v4 v5
theorem jb_X6_crowded_23 (l : Launch) (G : jx_G) (hG : mm_ok G) (sz : Nat) (σ0 : jx_M) (out : Int32) (k6 : jx_M → Int32 → Int32 → Int32 → Option Int32) (h6 : ∀ (σ : jx_M) (v1 : Int32) (v2 : Int32) (v3 : Int32), σ = σ0 → k6 σ v1 v2 v3 = some out → jJ_X6_crowded l G sz σ0 out 6 [(0, .ref (G.2 10)), (1, .int v1), (2, .int v2), (3, .int v3)] [] σ) : ∀ (n : Nat) (σ : jx_M) (v1 : Int32) (v2 : Int32) (v3 : Int32) (v4 : Int32) (v5 : Int32), σ = σ0 → b_X6_crowded_23 k6 n σ v1 v2 v3 v4 v5 = some out → jJ_X6_crowded l G sz σ0 out 23 [(0, .ref (G.2 10)), (1, .int v1), (2, .int v2), (3, .int v3), (4, .int v4), (5, .int v5)] [] σ := by
  intro n
  induction n with
  | zero =>
    intro σ v1 v2 v3 v4 v5 e0 h
    cases h
  | succ n ih =>
    intro σ v1 v2 v3 v4 v5 e0 h
    exact jg_X6_crowded_23 l G hG sz σ0 out k6 h6 (b_X6_crowded_23 k6 n) ih σ v1 v2 v3 v4 v5 e0 h
def g_X6_crowded_6 (k6 : jx_M → Int32 → Int32 → Int32 → Option Int32) (σ : jx_M) (v1 : Int32) (v2 : Int32) (v3 : Int32) : Option Int32 :=
  if (σ 1 6) ≤ v3 then some v1 else (b_X6_crowded_23 k6 jx_fuel σ v1 v2 v3 (0 : Int32) (0 : Int32))
set_option maxHeartbeats 4000000 in
set_option maxRecDepth 100000 in
theorem jg_X6_crowded_6 (l : Launch) (G : jx_G) (hG : mm_ok G) (sz : Nat) (σ0 : jx_M) (out : Int32) (k6 : jx_M → Int32 → Int32 → Int32 → Option Int32) (h6 : ∀ (σ : jx_M) (v1 : Int32) (v2 : Int32) (v3 : Int32), σ = σ0 → k6 σ v1 v2 v3 = some out → jJ_X6_crowded l G sz σ0 out 6 [(0, .ref (G.2 10)), (1, .int v1), (2, .int v2), (3, .int v3)] [] σ) (σ : jx_M) (v1 : Int32) (v2 : Int32) (v3 : Int32) (e0 : σ = σ0) (h : g_X6_crowded_6 k6 σ v1 v2 v3 = some out) : jJ_X6_crowded l G sz σ0 out 6 [(0, .ref (G.2 10)), (1, .int v1), (2, .int v2), (3, .int v3)] [] σ := by
  unfold g_X6_crowded_6 at h
  refine jx_iload_n (pc := 6) rfl dX6_crowded_6 ?_
  refine jx_aload_n (pc := 7) rfl dX6_crowded_7 ?_
  refine mm_g_s (pc := 8) fl_X6_9 dX6_crowded_8 ?_
  refine jx_bipush (pc := 11) (v := (6 : Int32)) (by decide) dX6_crowded_11 ?_
  refine mm_l_s (pc := 13) (j := 6) (jx_in_o (by decide)) (by decide) dX6_crowded_13 ?_
  refine jx_icmp_ge (pc := 14) (tgt := 95) dX6_crowded_14 (by decide) (fun c1 => ?_) (fun c1 => ?_)
  · have h := jx_t c1 h
    refine jx_iload_n (pc := 95) rfl dX6_crowded_95 ?_
    subst e0
    cases h
    exact jx_iret (pc := 96) dX6_crowded_96
  · have h := jx_f c1 h
    refine jx_iconst (pc := 17) (v := (0 : Int32)) (by decide) dX6_crowded_17 ?_
    refine jx_istore (pc := 18) (i := 4) rfl (by decide) (lv' := [(4, .int (0 : Int32)), (0, .ref (G.2 10)), (1, .int v1), (2, .int v2), (3, .int v3)]) rfl dX6_crowded_18 ?_
    refine jx_iconst (pc := 20) (v := (0 : Int32)) (by decide) dX6_crowded_20 ?_
    refine jx_istore (pc := 21) (i := 5) rfl (by decide) (lv' := [(5, .int (0 : Int32)), (4, .int (0 : Int32)), (0, .ref (G.2 10)), (1, .int v1), (2, .int v2), (3, .int v3)]) rfl dX6_crowded_21 ?_
    exact jx_sub [2, 3, 4, 5, 1, 0] rfl (jb_X6_crowded_23 l G hG sz σ0 out k6 h6 jx_fuel σ v1 v2 v3 (0 : Int32) (0 : Int32) e0 h)
def b_X6_crowded_6  : Nat → jx_M → Int32 → Int32 → Int32 → Option Int32
  | 0, _, _, _, _ => none
  | n + 1, σ, v1, v2, v3 => g_X6_crowded_6 (b_X6_crowded_6 n) σ v1 v2 v3
theorem jb_X6_crowded_6 (l : Launch) (G : jx_G) (hG : mm_ok G) (sz : Nat) (σ0 : jx_M) (out : Int32)  : ∀ (n : Nat) (σ : jx_M) (v1 : Int32) (v2 : Int32) (v3 : Int32), σ = σ0 → b_X6_crowded_6 n σ v1 v2 v3 = some out → jJ_X6_crowded l G sz σ0 out 6 [(0, .ref (G.2 10)), (1, .int v1), (2, .int v2), (3, .int v3)] [] σ := by
  intro n
  induction n with
  | zero =>
    intro σ v1 v2 v3 e0 h
    cases h
  | succ n ih =>
    intro σ v1 v2 v3 e0 h
    exact jg_X6_crowded_6 l G hG sz σ0 out (b_X6_crowded_6 n) ih σ v1 v2 v3 e0 h
def f_X6_crowded (σ : jx_M)  : Option Int32 :=
  (b_X6_crowded_6 jx_fuel σ (0 : Int32) (-1 : Int32) (0 : Int32))
set_option maxHeartbeats 4000000 in
set_option maxRecDepth 100000 in
theorem k_X6_crowded (l : Launch) (G : jx_G) (hG : mm_ok G) (sz : Nat) (σ : jx_M)  (out : Int32) (h : f_X6_crowded σ = some out) : Met l yX6_crowded (Cond.code yX6_crowded cX6_crowded 6 (some .int) :: jx_ws) rm_X6_crowded (jx_Pc (mm_env G) (mm_dyn G) (mm_rg G) sz σ [.ref (G.2 10)]) (jx_Qi (mm_dyn G) σ out (jx_A (mm_rg G) sz)) 0 0 (jx_A (mm_rg G) sz) := by
  unfold f_X6_crowded at h
  refine jx_met (by decide) (Nat.le_of_ble_eq_true rfl) ?_
  refine jx_sub (lv' := [(0, .ref (G.2 10))]) [0] rfl ?_
  refine jx_iconst (pc := 0) (v := (0 : Int32)) (by decide) dX6_crowded_0 ?_
  refine jx_istore_n (pc := 1) (i := 1) rfl rfl (by decide) (lv' := [(1, .int (0 : Int32)), (0, .ref (G.2 10))]) rfl dX6_crowded_1 ?_
  refine jx_iconst (pc := 2) (v := (-1 : Int32)) (by decide) dX6_crowded_2 ?_
  refine jx_istore_n (pc := 3) (i := 2) rfl rfl (by decide) (lv' := [(2, .int (-1 : Int32)), (1, .int (0 : Int32)), (0, .ref (G.2 10))]) rfl dX6_crowded_3 ?_
  refine jx_iconst (pc := 4) (v := (0 : Int32)) (by decide) dX6_crowded_4 ?_
  refine jx_istore_n (pc := 5) (i := 3) rfl rfl (by decide) (lv' := [(3, .int (0 : Int32)), (2, .int (-1 : Int32)), (1, .int (0 : Int32)), (0, .ref (G.2 10))]) rfl dX6_crowded_5 ?_
  exact jx_sub [3, 2, 1, 0] rfl (jb_X6_crowded_6 l G hG sz σ out jx_fuel σ (0 : Int32) (-1 : Int32) (0 : Int32) rfl h)
theorem dX6_greater_0 : decode cX6_greater 0 = .ok (.iload_n 0, 1) := by decide +kernel
theorem dX6_greater_1 : decode cX6_greater 1 = .ok (.iload_n 1, 1) := by decide +kernel
theorem dX6_greater_2 : decode cX6_greater 2 = .ok (.if_icmp .ne 8, 3) := by decide +kernel
theorem dX6_greater_5 : decode cX6_greater 5 = .ok (.bipush (-5), 2) := by decide +kernel
theorem dX6_greater_7 : decode cX6_greater 7 = .ok (.goto 13, 3) := by decide +kernel
theorem dX6_greater_10 : decode cX6_greater 10 = .ok (.iload_n 0, 1) := by decide +kernel
theorem dX6_greater_11 : decode cX6_greater 11 = .ok (.iload_n 1, 1) := by decide +kernel
theorem dX6_greater_12 : decode cX6_greater 12 = .ok (.if_icmp .le 7, 3) := by decide +kernel
theorem dX6_greater_15 : decode cX6_greater 15 = .ok (.iconst 0, 1) := by decide +kernel
theorem dX6_greater_16 : decode cX6_greater 16 = .ok (.goto 4, 3) := by decide +kernel
theorem dX6_greater_19 : decode cX6_greater 19 = .ok (.iconst 1, 1) := by decide +kernel
theorem dX6_greater_20 : decode cX6_greater 20 = .ok (.ireturn, 1) := by decide +kernel
abbrev rm_X6_greater : Room := { frames := 0, cells := 0, slots := 0, locals := 0 }
abbrev jJ_X6_greater (l : Launch) (G : jx_G) (sz : Nat) (σ0 : jx_M) (out : Int32) (pc : Nat) (lv : List (Nat × Value)) (st : List Value) (σ : jx_M) : Prop := jx_J l (mm_env G) (mm_dyn G) (mm_rg G) sz RX6 "greater" cX6_greater 2 (some .int) rm_X6_greater (fun below args s => MQ below (jx_Qi (mm_dyn G) σ0 out (jx_A (mm_rg G) sz)) args s 0 0 (jx_A (mm_rg G) sz)) 0 0 pc lv st σ
def f_X6_greater (a0 : Int32) (a1 : Int32) : Option Int32 :=
  if a0 = a1 then some (-5 : Int32) else if a0 ≤ a1 then some (1 : Int32) else some (0 : Int32)
set_option maxHeartbeats 4000000 in
set_option maxRecDepth 100000 in
theorem k_X6_greater (l : Launch) (G : jx_G) (hG : mm_ok G) (sz : Nat) (σ : jx_M) (a0 : Int32) (a1 : Int32) (out : Int32) (h : f_X6_greater a0 a1 = some out) : Met l yX6_greater (Cond.code yX6_greater cX6_greater 2 (some .int) :: jx_ws) rm_X6_greater (jx_Pc (mm_env G) (mm_dyn G) (mm_rg G) sz σ [.int a0, .int a1]) (jx_Qi (mm_dyn G) σ out (jx_A (mm_rg G) sz)) 0 0 (jx_A (mm_rg G) sz) := by
  unfold f_X6_greater at h
  refine jx_met (by decide) (Nat.le_of_ble_eq_true rfl) ?_
  refine jx_sub (lv' := [(0, .int a0), (1, .int a1)]) [0, 1] rfl ?_
  refine jx_iload_n (pc := 0) rfl dX6_greater_0 ?_
  refine jx_iload_n (pc := 1) rfl dX6_greater_1 ?_
  refine jx_icmp_ne (pc := 2) (tgt := 10) dX6_greater_2 (by decide) (fun c1 => ?_) (fun c1 => ?_)
  · have h := jx_f c1 h
    refine jx_iload_n (pc := 10) rfl dX6_greater_10 ?_
    refine jx_iload_n (pc := 11) rfl dX6_greater_11 ?_
    refine jx_icmp_le (pc := 12) (tgt := 19) dX6_greater_12 (by decide) (fun c2 => ?_) (fun c2 => ?_)
    · have h := jx_t c2 h
      refine jx_iconst (pc := 19) (v := (1 : Int32)) (by decide) dX6_greater_19 ?_
      cases h
      exact jx_iret (pc := 20) dX6_greater_20
    · have h := jx_f c2 h
      refine jx_iconst (pc := 15) (v := (0 : Int32)) (by decide) dX6_greater_15 ?_
      refine jx_goto (pc := 16) (tgt := 20) dX6_greater_16 (by decide) ?_
      cases h
      exact jx_iret (pc := 20) dX6_greater_20
  · have h := jx_t c1 h
    refine jx_bipush (pc := 5) (v := (-5 : Int32)) (by decide) dX6_greater_5 ?_
    refine jx_goto (pc := 7) (tgt := 20) dX6_greater_7 (by decide) ?_
    cases h
    exact jx_iret (pc := 20) dX6_greater_20
theorem dX6_isPlace_0 : decode cX6_isPlace 0 = .ok (.iload_n 1, 1) := by decide +kernel
theorem dX6_isPlace_1 : decode cX6_isPlace 1 = .ok (.iconst 0, 1) := by decide +kernel
theorem dX6_isPlace_2 : decode cX6_isPlace 2 = .ok (.aload_n 0, 1) := by decide +kernel
theorem dX6_isPlace_3 : decode cX6_isPlace 3 = .ok (.getfield 9, 3) := by decide +kernel
theorem dX6_isPlace_6 : decode cX6_isPlace 6 = .ok (.bipush 6, 2) := by decide +kernel
theorem dX6_isPlace_8 : decode cX6_isPlace 8 = .ok (.iaload, 1) := by decide +kernel
theorem dX6_isPlace_9 : decode cX6_isPlace 9 = .ok (.iconst 1, 1) := by decide +kernel
theorem dX6_isPlace_10 : decode cX6_isPlace 10 = .ok (.isub, 1) := by decide +kernel
theorem dX6_isPlace_11 : decode cX6_isPlace 11 = .ok (.invokestatic 48, 3) := by decide +kernel
theorem dX6_isPlace_14 : decode cX6_isPlace 14 = .ok (.ireturn, 1) := by decide +kernel
abbrev rm_X6_isPlace : Room := { frames := 1, cells := 0, slots := 0, locals := 22 }
abbrev jJ_X6_isPlace (l : Launch) (G : jx_G) (sz : Nat) (σ0 : jx_M) (out : Int32) (pc : Nat) (lv : List (Nat × Value)) (st : List Value) (σ : jx_M) : Prop := jx_J l (mm_env G) (mm_dyn G) (mm_rg G) sz RX6 "isPlace" cX6_isPlace 2 (some .boolean) rm_X6_isPlace (fun below args s => MQ below (jx_Qi (mm_dyn G) σ0 out (jx_A (mm_rg G) sz)) args s 0 0 (jx_A (mm_rg G) sz)) 0 0 pc lv st σ
def f_X6_isPlace (σ : jx_M) (a1 : Int32) : Option Int32 :=
  jx_bd (f_X6_in a1 (0 : Int32) ((σ 1 6) - (1 : Int32))) (fun q1 => jx_gd (decide (q1 = 0 ∨ q1 = 1)) (some q1))
set_option maxHeartbeats 4000000 in
set_option maxRecDepth 100000 in
theorem k_X6_isPlace (l : Launch) (G : jx_G) (hG : mm_ok G) (sz : Nat) (σ : jx_M) (a1 : Int32) (out : Int32) (h : f_X6_isPlace σ a1 = some out) : Met l yX6_isPlace (Cond.code yX6_isPlace cX6_isPlace 2 (some .boolean) :: jx_ws) rm_X6_isPlace (jx_Pc (mm_env G) (mm_dyn G) (mm_rg G) sz σ [.ref (G.2 10), .int a1]) (jx_Qi (mm_dyn G) σ out (jx_A (mm_rg G) sz)) 0 0 (jx_A (mm_rg G) sz) := by
  unfold f_X6_isPlace at h
  refine jx_met (by decide) (Nat.le_of_ble_eq_true rfl) ?_
  refine jx_sub (lv' := [(0, .ref (G.2 10)), (1, .int a1)]) [0, 1] rfl ?_
  refine jx_iload_n (pc := 0) rfl dX6_isPlace_0 ?_
  refine jx_iconst (pc := 1) (v := (0 : Int32)) (by decide) dX6_isPlace_1 ?_
  refine jx_aload_n (pc := 2) rfl dX6_isPlace_2 ?_
  refine mm_g_s (pc := 3) fl_X6_9 dX6_isPlace_3 ?_
  refine jx_bipush (pc := 6) (v := (6 : Int32)) (by decide) dX6_isPlace_6 ?_
  refine mm_l_s (pc := 8) (j := 6) (jx_in_o (by decide)) (by decide) dX6_isPlace_8 ?_
  refine jx_iconst (pc := 9) (v := (1 : Int32)) (by decide) dX6_isPlace_9 ?_
  refine jx_isub (pc := 10) dX6_isPlace_10 ?_
  obtain ⟨q1, eq1, h⟩ := jx_bd_o h
  refine jx_callSi (pc := 11) [.int a1, .int (0 : Int32), .int ((σ 1 6) - (1 : Int32))] (fun sz' => k_X6_in l G hG sz' σ a1 (0 : Int32) ((σ 1 6) - (1 : Int32)) q1 eq1) ks_X6_48 mm_jok rfl rfl (Nat.le_of_ble_eq_true rfl) ⟨⟨rfl, rfl⟩, ⟨Nat.le_of_ble_eq_true rfl, Nat.le_of_ble_eq_true rfl⟩, Nat.zero_le _, Nat.zero_le _⟩ dX6_isPlace_11 ?_
  obtain ⟨g2, h⟩ := jx_gd_o h
  cases h
  exact jx_zret (pc := 14) (of_decide_eq_true g2) dX6_isPlace_14
theorem dX6_feed_0 : decode cX6_feed 0 = .ok (.iload_n 1, 1) := by decide +kernel
theorem dX6_feed_1 : decode cX6_feed 1 = .ok (.iconst 0, 1) := by decide +kernel
theorem dX6_feed_2 : decode cX6_feed 2 = .ok (.bipush 127, 2) := by decide +kernel
theorem dX6_feed_4 : decode cX6_feed 4 = .ok (.invokestatic 48, 3) := by decide +kernel
theorem dX6_feed_7 : decode cX6_feed 7 = .ok (.ifCond .ne 6, 3) := by decide +kernel
theorem dX6_feed_10 : decode cX6_feed 10 = .ok (.bipush (-2), 2) := by decide +kernel
theorem dX6_feed_12 : decode cX6_feed 12 = .ok (.ireturn, 1) := by decide +kernel
theorem dX6_feed_13 : decode cX6_feed 13 = .ok (.aload_n 0, 1) := by decide +kernel
theorem dX6_feed_14 : decode cX6_feed 14 = .ok (.getfield 9, 3) := by decide +kernel
theorem dX6_feed_17 : decode cX6_feed 17 = .ok (.iconst 4, 1) := by decide +kernel
theorem dX6_feed_18 : decode cX6_feed 18 = .ok (.iaload, 1) := by decide +kernel
theorem dX6_feed_19 : decode cX6_feed 19 = .ok (.bipush 100, 2) := by decide +kernel
theorem dX6_feed_21 : decode cX6_feed 21 = .ok (.if_icmp .ne 6, 3) := by decide +kernel
theorem dX6_feed_24 : decode cX6_feed 24 = .ok (.bipush (-4), 2) := by decide +kernel
theorem dX6_feed_26 : decode cX6_feed 26 = .ok (.ireturn, 1) := by decide +kernel
theorem dX6_feed_27 : decode cX6_feed 27 = .ok (.aload_n 0, 1) := by decide +kernel
theorem dX6_feed_28 : decode cX6_feed 28 = .ok (.getfield 9, 3) := by decide +kernel
theorem dX6_feed_31 : decode cX6_feed 31 = .ok (.bipush 115, 2) := by decide +kernel
theorem dX6_feed_33 : decode cX6_feed 33 = .ok (.aload_n 0, 1) := by decide +kernel
theorem dX6_feed_34 : decode cX6_feed 34 = .ok (.getfield 9, 3) := by decide +kernel
theorem dX6_feed_37 : decode cX6_feed 37 = .ok (.iconst 4, 1) := by decide +kernel
theorem dX6_feed_38 : decode cX6_feed 38 = .ok (.iaload, 1) := by decide +kernel
theorem dX6_feed_39 : decode cX6_feed 39 = .ok (.iadd, 1) := by decide +kernel
theorem dX6_feed_40 : decode cX6_feed 40 = .ok (.iload_n 1, 1) := by decide +kernel
theorem dX6_feed_41 : decode cX6_feed 41 = .ok (.iastore, 1) := by decide +kernel
theorem dX6_feed_42 : decode cX6_feed 42 = .ok (.aload_n 0, 1) := by decide +kernel
theorem dX6_feed_43 : decode cX6_feed 43 = .ok (.getfield 9, 3) := by decide +kernel
theorem dX6_feed_46 : decode cX6_feed 46 = .ok (.iconst 4, 1) := by decide +kernel
theorem dX6_feed_47 : decode cX6_feed 47 = .ok (.dup2, 1) := by decide +kernel
theorem dX6_feed_48 : decode cX6_feed 48 = .ok (.iaload, 1) := by decide +kernel
theorem dX6_feed_49 : decode cX6_feed 49 = .ok (.iconst 1, 1) := by decide +kernel
theorem dX6_feed_50 : decode cX6_feed 50 = .ok (.iadd, 1) := by decide +kernel
theorem dX6_feed_51 : decode cX6_feed 51 = .ok (.iastore, 1) := by decide +kernel
theorem dX6_feed_52 : decode cX6_feed 52 = .ok (.aload_n 0, 1) := by decide +kernel
theorem dX6_feed_53 : decode cX6_feed 53 = .ok (.getfield 9, 3) := by decide +kernel
theorem dX6_feed_56 : decode cX6_feed 56 = .ok (.iconst 4, 1) := by decide +kernel
theorem dX6_feed_57 : decode cX6_feed 57 = .ok (.iaload, 1) := by decide +kernel
theorem dX6_feed_58 : decode cX6_feed 58 = .ok (.ireturn, 1) := by decide +kernel
abbrev rm_X6_feed : Room := { frames := 1, cells := 0, slots := 0, locals := 22 }
abbrev jJ_X6_feed (l : Launch) (G : jx_G) (sz : Nat) (out : (Int32 × jx_M)) (pc : Nat) (lv : List (Nat × Value)) (st : List Value) (σ : jx_M) : Prop := jx_J l (mm_env G) (mm_dyn G) (mm_rg G) sz RX6 "feed" cX6_feed 2 (some .int) rm_X6_feed (fun below args s => MQ below (jx_Qi (mm_dyn G) out.2 out.1 (jx_A (mm_rg G) sz)) args s 0 0 (jx_A (mm_rg G) sz)) 0 0 pc lv st σ
def f_X6_feed (σ : jx_M) (a1 : Int32) : Option (Int32 × jx_M) :=
  jx_bd (f_X6_in a1 (0 : Int32) (127 : Int32)) (fun q1 => if q1 = 0 then some ((-2 : Int32), σ) else if (σ 1 4) = (100 : Int32) then some ((-4 : Int32), σ) else jx_gd (jx_in ((115 : Int32) + (σ 1 4)) 920) (jx_lt (jx_mu σ 1 ((115 : Int32) + (σ 1 4)).toNatClampNeg a1) (fun σ5 => jx_lt (jx_mu σ5 1 4 ((σ5 1 4) + (1 : Int32))) (fun σ6 => some ((σ6 1 4), σ6)))))
set_option maxHeartbeats 4000000 in
set_option maxRecDepth 100000 in
theorem k_X6_feed (l : Launch) (G : jx_G) (hG : mm_ok G) (sz : Nat) (σ : jx_M) (a1 : Int32) (out : (Int32 × jx_M)) (h : f_X6_feed σ a1 = some out) : Met l yX6_feed (Cond.code yX6_feed cX6_feed 2 (some .int) :: jx_ws) rm_X6_feed (jx_Pc (mm_env G) (mm_dyn G) (mm_rg G) sz σ [.ref (G.2 10), .int a1]) (jx_Qi (mm_dyn G) out.2 out.1 (jx_A (mm_rg G) sz)) 0 0 (jx_A (mm_rg G) sz) := by
  unfold f_X6_feed at h
  refine jx_met (by decide) (Nat.le_of_ble_eq_true rfl) ?_
  refine jx_sub (lv' := [(0, .ref (G.2 10)), (1, .int a1)]) [0, 1] rfl ?_
  refine jx_iload_n (pc := 0) rfl dX6_feed_0 ?_
  refine jx_iconst (pc := 1) (v := (0 : Int32)) (by decide) dX6_feed_1 ?_
  refine jx_bipush (pc := 2) (v := (127 : Int32)) (by decide) dX6_feed_2 ?_
  obtain ⟨q1, eq1, h⟩ := jx_bd_o h
  refine jx_callSi (pc := 4) [.int a1, .int (0 : Int32), .int (127 : Int32)] (fun sz' => k_X6_in l G hG sz' σ a1 (0 : Int32) (127 : Int32) q1 eq1) ks_X6_48 mm_jok rfl rfl (Nat.le_of_ble_eq_true rfl) ⟨⟨rfl, rfl⟩, ⟨Nat.le_of_ble_eq_true rfl, Nat.le_of_ble_eq_true rfl⟩, Nat.zero_le _, Nat.zero_le _⟩ dX6_feed_4 ?_
  refine jx_if_ne (pc := 7) (tgt := 13) dX6_feed_7 (by decide) (fun c2 => ?_) (fun c2 => ?_)
  · have h := jx_f c2 h
    refine jx_aload_n (pc := 13) rfl dX6_feed_13 ?_
    refine mm_g_s (pc := 14) fl_X6_9 dX6_feed_14 ?_
    refine jx_iconst (pc := 17) (v := (4 : Int32)) (by decide) dX6_feed_17 ?_
    refine mm_l_s (pc := 18) (j := 4) (jx_in_o (by decide)) (by decide) dX6_feed_18 ?_
    refine jx_bipush (pc := 19) (v := (100 : Int32)) (by decide) dX6_feed_19 ?_
    refine jx_icmp_ne (pc := 21) (tgt := 27) dX6_feed_21 (by decide) (fun c3 => ?_) (fun c3 => ?_)
    · have h := jx_f c3 h
      refine jx_aload_n (pc := 27) rfl dX6_feed_27 ?_
      refine mm_g_s (pc := 28) fl_X6_9 dX6_feed_28 ?_
      refine jx_bipush (pc := 31) (v := (115 : Int32)) (by decide) dX6_feed_31 ?_
      refine jx_aload_n (pc := 33) rfl dX6_feed_33 ?_
      refine mm_g_s (pc := 34) fl_X6_9 dX6_feed_34 ?_
      refine jx_iconst (pc := 37) (v := (4 : Int32)) (by decide) dX6_feed_37 ?_
      refine mm_l_s (pc := 38) (j := 4) (jx_in_o (by decide)) (by decide) dX6_feed_38 ?_
      refine jx_iadd (pc := 39) dX6_feed_39 ?_
      refine jx_iload_n (pc := 40) rfl dX6_feed_40 ?_
      obtain ⟨g4, h⟩ := jx_gd_o h
      obtain ⟨σ5, eσ5, h⟩ := jx_lt_o h
      refine mm_s_s (pc := 41) hG (jx_in_o g4) rfl eσ5 dX6_feed_41 ?_
      refine jx_aload_n (pc := 42) rfl dX6_feed_42 ?_
      refine mm_g_s (pc := 43) fl_X6_9 dX6_feed_43 ?_
      refine jx_iconst (pc := 46) (v := (4 : Int32)) (by decide) dX6_feed_46 ?_
      refine jx_dup2 (pc := 47) rfl rfl dX6_feed_47 ?_
      refine mm_l_s (pc := 48) (j := 4) (jx_in_o (by decide)) (by decide) dX6_feed_48 ?_
      refine jx_iconst (pc := 49) (v := (1 : Int32)) (by decide) dX6_feed_49 ?_
      refine jx_iadd (pc := 50) dX6_feed_50 ?_
      obtain ⟨σ6, eσ6, h⟩ := jx_lt_o h
      refine mm_s_s (pc := 51) hG (jx_in_o (by decide)) (by decide) eσ6 dX6_feed_51 ?_
      refine jx_aload_n (pc := 52) rfl dX6_feed_52 ?_
      refine mm_g_s (pc := 53) fl_X6_9 dX6_feed_53 ?_
      refine jx_iconst (pc := 56) (v := (4 : Int32)) (by decide) dX6_feed_56 ?_
      refine mm_l_s (pc := 57) (j := 4) (jx_in_o (by decide)) (by decide) dX6_feed_57 ?_
      cases h
      exact jx_iret (pc := 58) dX6_feed_58
    · have h := jx_t c3 h
      refine jx_bipush (pc := 24) (v := (-4 : Int32)) (by decide) dX6_feed_24 ?_
      cases h
      exact jx_iret (pc := 26) dX6_feed_26
  · have h := jx_t c2 h
    refine jx_bipush (pc := 10) (v := (-2 : Int32)) (by decide) dX6_feed_10 ?_
    cases h
    exact jx_iret (pc := 12) dX6_feed_12
theorem dX6_must_0 : decode cX6_must 0 = .ok (.aload_n 0, 1) := by decide +kernel
theorem dX6_must_1 : decode cX6_must 1 = .ok (.aload_n 0, 1) := by decide +kernel
theorem dX6_must_2 : decode cX6_must 2 = .ok (.getfield 58, 3) := by decide +kernel
theorem dX6_must_5 : decode cX6_must 5 = .ok (.ifCond .ne 11, 3) := by decide +kernel
theorem dX6_must_8 : decode cX6_must 8 = .ok (.aload_n 0, 1) := by decide +kernel
theorem dX6_must_9 : decode cX6_must 9 = .ok (.invokevirtual 62, 3) := by decide +kernel
theorem dX6_must_12 : decode cX6_must 12 = .ok (.iload_n 1, 1) := by decide +kernel
theorem dX6_must_13 : decode cX6_must 13 = .ok (.if_icmp .eq 7, 3) := by decide +kernel
theorem dX6_must_16 : decode cX6_must 16 = .ok (.iconst 1, 1) := by decide +kernel
theorem dX6_must_17 : decode cX6_must 17 = .ok (.goto 4, 3) := by decide +kernel
theorem dX6_must_20 : decode cX6_must 20 = .ok (.iconst 0, 1) := by decide +kernel
theorem dX6_must_21 : decode cX6_must 21 = .ok (.putfield 58, 3) := by decide +kernel
theorem dX6_must_24 : decode cX6_must 24 = .ok (.aload_n 0, 1) := by decide +kernel
theorem dX6_must_25 : decode cX6_must 25 = .ok (.dup, 1) := by decide +kernel
theorem dX6_must_26 : decode cX6_must 26 = .ok (.getfield 52, 3) := by decide +kernel
theorem dX6_must_29 : decode cX6_must 29 = .ok (.aload_n 0, 1) := by decide +kernel
theorem dX6_must_30 : decode cX6_must 30 = .ok (.getfield 58, 3) := by decide +kernel
theorem dX6_must_33 : decode cX6_must 33 = .ok (.ifCond .eq 7, 3) := by decide +kernel
theorem dX6_must_36 : decode cX6_must 36 = .ok (.iconst 0, 1) := by decide +kernel
theorem dX6_must_37 : decode cX6_must 37 = .ok (.goto 4, 3) := by decide +kernel
theorem dX6_must_40 : decode cX6_must 40 = .ok (.iconst 1, 1) := by decide +kernel
theorem dX6_must_41 : decode cX6_must 41 = .ok (.iadd, 1) := by decide +kernel
theorem dX6_must_42 : decode cX6_must 42 = .ok (.putfield 52, 3) := by decide +kernel
theorem dX6_must_45 : decode cX6_must 45 = .ok (.return_, 1) := by decide +kernel
abbrev rm_X6_must : Room := { frames := 1, cells := 0, slots := 0, locals := 20 }
abbrev jJ_X6_must (l : Launch) (G : jx_G) (sz : Nat) (out : jx_M) (pc : Nat) (lv : List (Nat × Value)) (st : List Value) (σ : jx_M) : Prop := jx_J l (mm_env G) (mm_dyn G) (mm_rg G) sz RX6 "must" cX6_must 2 none rm_X6_must (fun below args s => MQ below (jx_Qv (mm_dyn G) out (jx_A (mm_rg G) sz)) args s 0 0 (jx_A (mm_rg G) sz)) 0 0 pc lv st σ
def b_X6_must_41  (σ : jx_M) (s0 : Int32) (s1 : Int32) : Option jx_M :=
  jx_lt (jx_mu σ 0 5 (s1 + s0)) (fun σ1 => some σ1)
set_option maxHeartbeats 4000000 in
set_option maxRecDepth 100000 in
theorem jb_X6_must_41 (l : Launch) (G : jx_G) (hG : mm_ok G) (sz : Nat) (out : jx_M)  (σ : jx_M) (s0 : Int32) (s1 : Int32) (h : b_X6_must_41 σ s0 s1 = some out) : jJ_X6_must l G sz out 41 [] [.int s0, .int s1, .ref (G.2 10)] σ := by
  unfold b_X6_must_41 at h
  refine jx_iadd (pc := 41) dX6_must_41 ?_
  obtain ⟨σ1, eσ1, h⟩ := jx_lt_o h
  refine mm_p_spot (pc := 42) hG fl_X6_52 eσ1 dX6_must_42 ?_
  cases h
  exact jx_vret (pc := 45) dX6_must_45
def b_X6_must_21  (σ : jx_M) (s0 : Int32) : Option jx_M :=
  jx_gd (decide (s0 = 0 ∨ s0 = 1)) (jx_lt (jx_mu σ 0 7 s0) (fun σ2 => if (σ2 0 7) = 0 then (b_X6_must_41 σ2 (1 : Int32) (σ2 0 5)) else (b_X6_must_41 σ2 (0 : Int32) (σ2 0 5))))
set_option maxHeartbeats 4000000 in
set_option maxRecDepth 100000 in
theorem jb_X6_must_21 (l : Launch) (G : jx_G) (hG : mm_ok G) (sz : Nat) (out : jx_M)  (σ : jx_M) (s0 : Int32) (h : b_X6_must_21 σ s0 = some out) : jJ_X6_must l G sz out 21 [(0, .ref (G.2 10))] [.int s0, .ref (G.2 10)] σ := by
  unfold b_X6_must_21 at h
  obtain ⟨g1, h⟩ := jx_gd_o h
  obtain ⟨σ2, eσ2, h⟩ := jx_lt_o h
  refine mm_p_isWrong (pc := 21) hG (of_decide_eq_true g1) fl_X6_58 eσ2 dX6_must_21 ?_
  refine jx_aload_n (pc := 24) rfl dX6_must_24 ?_
  refine jx_dup (pc := 25) rfl dX6_must_25 ?_
  refine mm_g_spot (pc := 26) fl_X6_52 dX6_must_26 ?_
  refine jx_aload_n (pc := 29) rfl dX6_must_29 ?_
  refine mm_g_isWrong (pc := 30) fl_X6_58 dX6_must_30 ?_
  refine jx_if_eq (pc := 33) (tgt := 40) dX6_must_33 (by decide) (fun c3 => ?_) (fun c3 => ?_)
  · have h := jx_t c3 h
    refine jx_iconst (pc := 40) (v := (1 : Int32)) (by decide) dX6_must_40 ?_
    exact jx_sub [] rfl (jb_X6_must_41 l G hG sz out σ2 (1 : Int32) (σ2 0 5) h)
  · have h := jx_f c3 h
    refine jx_iconst (pc := 36) (v := (0 : Int32)) (by decide) dX6_must_36 ?_
    refine jx_goto (pc := 37) (tgt := 41) dX6_must_37 (by decide) ?_
    exact jx_sub [] rfl (jb_X6_must_41 l G hG sz out σ2 (0 : Int32) (σ2 0 5) h)
def b_X6_must_16  (σ : jx_M)  : Option jx_M :=
  (b_X6_must_21 σ (1 : Int32))
set_option maxHeartbeats 4000000 in
set_option maxRecDepth 100000 in
theorem jb_X6_must_16 (l : Launch) (G : jx_G) (hG : mm_ok G) (sz : Nat) (out : jx_M)  (σ : jx_M)  (h : b_X6_must_16 σ = some out) : jJ_X6_must l G sz out 16 [(0, .ref (G.2 10))] [.ref (G.2 10)] σ := by
  unfold b_X6_must_16 at h
  refine jx_iconst (pc := 16) (v := (1 : Int32)) (by decide) dX6_must_16 ?_
  refine jx_goto (pc := 17) (tgt := 21) dX6_must_17 (by decide) ?_
  exact jx_sub [0] rfl (jb_X6_must_21 l G hG sz out σ (1 : Int32) h)
def f_X6_must (σ : jx_M) (a1 : Int32) : Option jx_M :=
  if (σ 0 7) = 0 then jx_bd (f_X6_here σ) (fun q2 => if q2 = a1 then (b_X6_must_21 σ (0 : Int32)) else (b_X6_must_16 σ)) else (b_X6_must_16 σ)
set_option maxHeartbeats 4000000 in
set_option maxRecDepth 100000 in
theorem k_X6_must (l : Launch) (G : jx_G) (hG : mm_ok G) (sz : Nat) (σ : jx_M) (a1 : Int32) (out : jx_M) (h : f_X6_must σ a1 = some out) : Met l yX6_must (Cond.code yX6_must cX6_must 2 none :: jx_ws) rm_X6_must (jx_Pc (mm_env G) (mm_dyn G) (mm_rg G) sz σ [.ref (G.2 10), .int a1]) (jx_Qv (mm_dyn G) out (jx_A (mm_rg G) sz)) 0 0 (jx_A (mm_rg G) sz) := by
  unfold f_X6_must at h
  refine jx_met (by decide) (Nat.le_of_ble_eq_true rfl) ?_
  refine jx_sub (lv' := [(0, .ref (G.2 10)), (1, .int a1)]) [0, 1] rfl ?_
  refine jx_aload_n (pc := 0) rfl dX6_must_0 ?_
  refine jx_aload_n (pc := 1) rfl dX6_must_1 ?_
  refine mm_g_isWrong (pc := 2) fl_X6_58 dX6_must_2 ?_
  refine jx_if_ne (pc := 5) (tgt := 16) dX6_must_5 (by decide) (fun c1 => ?_) (fun c1 => ?_)
  · have h := jx_f c1 h
    exact jx_sub [0] rfl (jb_X6_must_16 l G hG sz out σ h)
  · have h := jx_t c1 h
    refine jx_aload_n (pc := 8) rfl dX6_must_8 ?_
    obtain ⟨q2, eq2, h⟩ := jx_bd_o h
    refine jx_callVi (pc := 9) [] (fun sz' => k_X6_here l G hG sz' σ q2 eq2) kv_X6_62 mm_jok mm_rc rfl rfl (Nat.le_of_ble_eq_true rfl) ⟨⟨rfl, rfl⟩, ⟨Nat.le_of_ble_eq_true rfl, Nat.le_of_ble_eq_true rfl⟩, Nat.zero_le _, Nat.zero_le _⟩ dX6_must_9 ?_
    refine jx_iload_n (pc := 12) rfl dX6_must_12 ?_
    refine jx_icmp_eq (pc := 13) (tgt := 20) dX6_must_13 (by decide) (fun c3 => ?_) (fun c3 => ?_)
    · have h := jx_t c3 h
      refine jx_iconst (pc := 20) (v := (0 : Int32)) (by decide) dX6_must_20 ?_
      exact jx_sub [0] rfl (jb_X6_must_21 l G hG sz out σ (0 : Int32) h)
    · have h := jx_f c3 h
      exact jx_sub [0] rfl (jb_X6_must_16 l G hG sz out σ h)
end
