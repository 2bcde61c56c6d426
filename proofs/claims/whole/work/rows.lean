section
-- ===== PART A: goes FIRST, ahead of the names: the tables' words, and 'selects' of the private methods out of them =====
/-- a private method of a class that the tables say can be made, by its rows of tables_1 -/
def lw_okq (q : MethodName × Nat) : Prop := (q.1.cls ≠ "java/lang/invoke/MethodHandle" ∧ q.1.cls ≠ "java/lang/invoke/VarHandle") ∧ Cond.instantiable q.1.cls q.2 ∈ tables_1 ∧ Cond.privateMethod q.1 ∈ tables_1 ∧ Cond.instanceMethod q.1 ∈ tables_1
theorem lw_p0 : lw_okq (⟨"java/util/ArrayList", "add", "(Ljava/lang/Object;[Ljava/lang/Object;I)V"⟩, 3) := ⟨⟨by decide +kernel, by decide +kernel⟩, List.mem_of_getElem? (i := 50) (by decide +kernel), List.mem_of_getElem? (i := 294) (by decide +kernel), List.mem_of_getElem? (i := 295) (by decide +kernel)⟩
theorem lw_p1 : lw_okq (⟨"java/util/ArrayList", "grow", "()[Ljava/lang/Object;"⟩, 3) := ⟨⟨by decide +kernel, by decide +kernel⟩, List.mem_of_getElem? (i := 50) (by decide +kernel), List.mem_of_getElem? (i := 298) (by decide +kernel), List.mem_of_getElem? (i := 299) (by decide +kernel)⟩
theorem lw_p2 : lw_okq (⟨"java/util/ArrayList", "grow", "(I)[Ljava/lang/Object;"⟩, 3) := ⟨⟨by decide +kernel, by decide +kernel⟩, List.mem_of_getElem? (i := 50) (by decide +kernel), List.mem_of_getElem? (i := 302) (by decide +kernel), List.mem_of_getElem? (i := 303) (by decide +kernel)⟩
theorem lw_p3 : lw_okq (⟨"RuleBooks", "subjectAt", "(I)LRuleBooks$Subject;"⟩, 15) := ⟨⟨by decide +kernel, by decide +kernel⟩, List.mem_of_getElem? (i := 24) (by decide +kernel), List.mem_of_getElem? (i := 355) (by decide +kernel), List.mem_of_getElem? (i := 356) (by decide +kernel)⟩
theorem lw_p4 : lw_okq (⟨"RuleBooks", "bookAt", "(I)LRuleBooks$Book;"⟩, 15) := ⟨⟨by decide +kernel, by decide +kernel⟩, List.mem_of_getElem? (i := 24) (by decide +kernel), List.mem_of_getElem? (i := 417) (by decide +kernel), List.mem_of_getElem? (i := 418) (by decide +kernel)⟩
theorem lw_p5 : lw_okq (⟨"RuleBooks$Book", "putByRank", "(LRuleBooks$Rule;)V"⟩, 5) := ⟨⟨by decide +kernel, by decide +kernel⟩, List.mem_of_getElem? (i := 384) (by decide +kernel), List.mem_of_getElem? (i := 495) (by decide +kernel), List.mem_of_getElem? (i := 496) (by decide +kernel)⟩
theorem lw_p6 : lw_okq (⟨"java/util/ArrayList", "rangeCheckForAdd", "(I)V"⟩, 3) := ⟨⟨by decide +kernel, by decide +kernel⟩, List.mem_of_getElem? (i := 50) (by decide +kernel), List.mem_of_getElem? (i := 508) (by decide +kernel), List.mem_of_getElem? (i := 509) (by decide +kernel)⟩
theorem lw_p7 : lw_okq (⟨"RuleBooks$Book", "carryOutOrder", "(LRuleBooks$Rule;)V"⟩, 5) := ⟨⟨by decide +kernel, by decide +kernel⟩, List.mem_of_getElem? (i := 384) (by decide +kernel), List.mem_of_getElem? (i := 513) (by decide +kernel), List.mem_of_getElem? (i := 514) (by decide +kernel)⟩
theorem lw_p8 : lw_okq (⟨"java/util/ArrayList", "fastRemove", "([Ljava/lang/Object;I)V"⟩, 3) := ⟨⟨by decide +kernel, by decide +kernel⟩, List.mem_of_getElem? (i := 50) (by decide +kernel), List.mem_of_getElem? (i := 527) (by decide +kernel), List.mem_of_getElem? (i := 528) (by decide +kernel)⟩
theorem lw_p9 : lw_okq (⟨"RuleBooks", "ruleAt", "(I)LRuleBooks$Rule;"⟩, 15) := ⟨⟨by decide +kernel, by decide +kernel⟩, List.mem_of_getElem? (i := 24) (by decide +kernel), List.mem_of_getElem? (i := 539) (by decide +kernel), List.mem_of_getElem? (i := 540) (by decide +kernel)⟩
theorem lw_p10 : lw_okq (⟨"RuleBooks", "isConditionOf", "(LRuleBooks$Rule;II)Z"⟩, 15) := ⟨⟨by decide +kernel, by decide +kernel⟩, List.mem_of_getElem? (i := 24) (by decide +kernel), List.mem_of_getElem? (i := 543) (by decide +kernel), List.mem_of_getElem? (i := 544) (by decide +kernel)⟩
theorem lw_p11 : lw_okq (⟨"RuleBooks", "isDeed", "(III)Z"⟩, 15) := ⟨⟨by decide +kernel, by decide +kernel⟩, List.mem_of_getElem? (i := 24) (by decide +kernel), List.mem_of_getElem? (i := 584) (by decide +kernel), List.mem_of_getElem? (i := 585) (by decide +kernel)⟩
theorem lw_p12 : lw_okq (⟨"RuleBooks$Runner", "startCall", "()V"⟩, 7) := ⟨⟨by decide +kernel, by decide +kernel⟩, List.mem_of_getElem? (i := 129) (by decide +kernel), List.mem_of_getElem? (i := 609) (by decide +kernel), List.mem_of_getElem? (i := 610) (by decide +kernel)⟩
theorem lw_p13 : lw_okq (⟨"RuleBooks$Runner", "outcomeOf", "(LRuleBooks$Book;LRuleBooks$Subject;I)I"⟩, 7) := ⟨⟨by decide +kernel, by decide +kernel⟩, List.mem_of_getElem? (i := 129) (by decide +kernel), List.mem_of_getElem? (i := 613) (by decide +kernel), List.mem_of_getElem? (i := 614) (by decide +kernel)⟩
theorem lw_p14 : lw_okq (⟨"RuleBooks$Runner", "lookAt", "(LRuleBooks$Rule;LRuleBooks$Subject;LRuleBooks$OwnState;I)I"⟩, 7) := ⟨⟨by decide +kernel, by decide +kernel⟩, List.mem_of_getElem? (i := 129) (by decide +kernel), List.mem_of_getElem? (i := 625) (by decide +kernel), List.mem_of_getElem? (i := 626) (by decide +kernel)⟩
theorem lw_p15 : lw_okq (⟨"RuleBooks$Runner", "err", "(ILRuleBooks$Rule;)I"⟩, 7) := ⟨⟨by decide +kernel, by decide +kernel⟩, List.mem_of_getElem? (i := 129) (by decide +kernel), List.mem_of_getElem? (i := 633) (by decide +kernel), List.mem_of_getElem? (i := 634) (by decide +kernel)⟩
def lw_privs_1 : List (MethodName × Nat) := [(⟨"java/util/ArrayList", "add", "(Ljava/lang/Object;[Ljava/lang/Object;I)V"⟩, 3), (⟨"java/util/ArrayList", "grow", "()[Ljava/lang/Object;"⟩, 3), (⟨"java/util/ArrayList", "grow", "(I)[Ljava/lang/Object;"⟩, 3), (⟨"RuleBooks", "subjectAt", "(I)LRuleBooks$Subject;"⟩, 15), (⟨"RuleBooks", "bookAt", "(I)LRuleBooks$Book;"⟩, 15), (⟨"RuleBooks$Book", "putByRank", "(LRuleBooks$Rule;)V"⟩, 5), (⟨"java/util/ArrayList", "rangeCheckForAdd", "(I)V"⟩, 3), (⟨"RuleBooks$Book", "carryOutOrder", "(LRuleBooks$Rule;)V"⟩, 5), (⟨"java/util/ArrayList", "fastRemove", "([Ljava/lang/Object;I)V"⟩, 3), (⟨"RuleBooks", "ruleAt", "(I)LRuleBooks$Rule;"⟩, 15), (⟨"RuleBooks", "isConditionOf", "(LRuleBooks$Rule;II)Z"⟩, 15), (⟨"RuleBooks", "isDeed", "(III)Z"⟩, 15), (⟨"RuleBooks$Runner", "startCall", "()V"⟩, 7), (⟨"RuleBooks$Runner", "outcomeOf", "(LRuleBooks$Book;LRuleBooks$Subject;I)I"⟩, 7), (⟨"RuleBooks$Runner", "lookAt", "(LRuleBooks$Rule;LRuleBooks$Subject;LRuleBooks$OwnState;I)I"⟩, 7), (⟨"RuleBooks$Runner", "err", "(ILRuleBooks$Rule;)I"⟩, 7)]
theorem lw_r1 : ∀ q ∈ lw_privs_1, lw_okq q := List.forall_mem_cons.mpr ⟨lw_p0, List.forall_mem_cons.mpr ⟨lw_p1, List.forall_mem_cons.mpr ⟨lw_p2, List.forall_mem_cons.mpr ⟨lw_p3, List.forall_mem_cons.mpr ⟨lw_p4, List.forall_mem_cons.mpr ⟨lw_p5, List.forall_mem_cons.mpr ⟨lw_p6, List.forall_mem_cons.mpr ⟨lw_p7, List.forall_mem_cons.mpr ⟨lw_p8, List.forall_mem_cons.mpr ⟨lw_p9, List.forall_mem_cons.mpr ⟨lw_p10, List.forall_mem_cons.mpr ⟨lw_p11, List.forall_mem_cons.mpr ⟨lw_p12, List.forall_mem_cons.mpr ⟨lw_p13, List.forall_mem_cons.mpr ⟨lw_p14, List.forall_mem_cons.mpr ⟨lw_p15, fun _ h => absurd h List.not_mem_nil⟩⟩⟩⟩⟩⟩⟩⟩⟩⟩⟩⟩⟩⟩⟩⟩
theorem lw_p16 : lw_okq (⟨"RuleBooks$Runner", "areAllSo", "(Ljava/util/ArrayList;LRuleBooks$Subject;LRuleBooks$OwnState;)Z"⟩, 7) := ⟨⟨by decide +kernel, by decide +kernel⟩, List.mem_of_getElem? (i := 129) (by decide +kernel), List.mem_of_getElem? (i := 637) (by decide +kernel), List.mem_of_getElem? (i := 638) (by decide +kernel)⟩
theorem lw_p17 : lw_okq (⟨"RuleBooks$Runner", "isSo", "(LRuleBooks$Condition;LRuleBooks$Subject;LRuleBooks$OwnState;)Z"⟩, 7) := ⟨⟨by decide +kernel, by decide +kernel⟩, List.mem_of_getElem? (i := 129) (by decide +kernel), List.mem_of_getElem? (i := 642) (by decide +kernel), List.mem_of_getElem? (i := 643) (by decide +kernel)⟩
theorem lw_p18 : lw_okq (⟨"RuleBooks$Runner", "perform", "(LRuleBooks$Rule;LRuleBooks$Subject;LRuleBooks$OwnState;I)I"⟩, 7) := ⟨⟨by decide +kernel, by decide +kernel⟩, List.mem_of_getElem? (i := 129) (by decide +kernel), List.mem_of_getElem? (i := 666) (by decide +kernel), List.mem_of_getElem? (i := 667) (by decide +kernel)⟩
theorem lw_p19 : lw_okq (⟨"RuleBooks$Runner", "goToBook", "(LRuleBooks$Rule;LRuleBooks$Subject;I)I"⟩, 7) := ⟨⟨by decide +kernel, by decide +kernel⟩, List.mem_of_getElem? (i := 129) (by decide +kernel), List.mem_of_getElem? (i := 670) (by decide +kernel), List.mem_of_getElem? (i := 671) (by decide +kernel)⟩
theorem lw_p20 : lw_okq (⟨"RuleBooks$Runner", "hasErred", "()Z"⟩, 7) := ⟨⟨by decide +kernel, by decide +kernel⟩, List.mem_of_getElem? (i := 129) (by decide +kernel), List.mem_of_getElem? (i := 675) (by decide +kernel), List.mem_of_getElem? (i := 676) (by decide +kernel)⟩
theorem lw_p21 : lw_okq (⟨"RuleBooks$Runner", "errAnswer", "()I"⟩, 7) := ⟨⟨by decide +kernel, by decide +kernel⟩, List.mem_of_getElem? (i := 129) (by decide +kernel), List.mem_of_getElem? (i := 679) (by decide +kernel), List.mem_of_getElem? (i := 680) (by decide +kernel)⟩
theorem lw_p22 : lw_okq (⟨"RuleBooks", "areBooksOrNone", "([I)Z"⟩, 15) := ⟨⟨by decide +kernel, by decide +kernel⟩, List.mem_of_getElem? (i := 24) (by decide +kernel), List.mem_of_getElem? (i := 699) (by decide +kernel), List.mem_of_getElem? (i := 700) (by decide +kernel)⟩
theorem lw_p23 : lw_okq (⟨"RuleBooks", "isBookOrNone", "(I)Z"⟩, 15) := ⟨⟨by decide +kernel, by decide +kernel⟩, List.mem_of_getElem? (i := 24) (by decide +kernel), List.mem_of_getElem? (i := 703) (by decide +kernel), List.mem_of_getElem? (i := 704) (by decide +kernel)⟩
theorem lw_p24 : lw_okq (⟨"RuleBooks", "latestPart", "(I)LRuleBooks$Book;"⟩, 15) := ⟨⟨by decide +kernel, by decide +kernel⟩, List.mem_of_getElem? (i := 24) (by decide +kernel), List.mem_of_getElem? (i := 727) (by decide +kernel), List.mem_of_getElem? (i := 728) (by decide +kernel)⟩
theorem lw_p25 : lw_okq (⟨"RuleBooks", "latestSubject", "()LRuleBooks$Subject;"⟩, 15) := ⟨⟨by decide +kernel, by decide +kernel⟩, List.mem_of_getElem? (i := 24) (by decide +kernel), List.mem_of_getElem? (i := 731) (by decide +kernel), List.mem_of_getElem? (i := 732) (by decide +kernel)⟩
theorem lw_p26 : lw_okq (⟨"RuleBooks$Scenes", "goRound", "()V"⟩, 5) := ⟨⟨by decide +kernel, by decide +kernel⟩, List.mem_of_getElem? (i := 78) (by decide +kernel), List.mem_of_getElem? (i := 808) (by decide +kernel), List.mem_of_getElem? (i := 809) (by decide +kernel)⟩
theorem lw_p27 : lw_okq (⟨"RuleBooks$Scenes", "mayChange", "(II)Z"⟩, 5) := ⟨⟨by decide +kernel, by decide +kernel⟩, List.mem_of_getElem? (i := 78) (by decide +kernel), List.mem_of_getElem? (i := 812) (by decide +kernel), List.mem_of_getElem? (i := 813) (by decide +kernel)⟩
theorem lw_p28 : lw_okq (⟨"RuleBooks$Scenes", "wasInTurn", "(I)Z"⟩, 5) := ⟨⟨by decide +kernel, by decide +kernel⟩, List.mem_of_getElem? (i := 78) (by decide +kernel), List.mem_of_getElem? (i := 816) (by decide +kernel), List.mem_of_getElem? (i := 817) (by decide +kernel)⟩
theorem lw_p29 : lw_okq (⟨"RuleBooks$Scenes", "isMet", "(II)Z"⟩, 5) := ⟨⟨by decide +kernel, by decide +kernel⟩, List.mem_of_getElem? (i := 78) (by decide +kernel), List.mem_of_getElem? (i := 820) (by decide +kernel), List.mem_of_getElem? (i := 821) (by decide +kernel)⟩
theorem lw_p30 : lw_okq (⟨"RuleBooks$Scenes", "change", "(II)V"⟩, 5) := ⟨⟨by decide +kernel, by decide +kernel⟩, List.mem_of_getElem? (i := 78) (by decide +kernel), List.mem_of_getElem? (i := 825) (by decide +kernel), List.mem_of_getElem? (i := 826) (by decide +kernel)⟩
theorem lw_p31 : lw_okq (⟨"RuleBooks$Phrases", "isTold", "(III)Z"⟩, 5) := ⟨⟨by decide +kernel, by decide +kernel⟩, List.mem_of_getElem? (i := 106) (by decide +kernel), List.mem_of_getElem? (i := 853) (by decide +kernel), List.mem_of_getElem? (i := 854) (by decide +kernel)⟩
def lw_privs_2 : List (MethodName × Nat) := [(⟨"RuleBooks$Runner", "areAllSo", "(Ljava/util/ArrayList;LRuleBooks$Subject;LRuleBooks$OwnState;)Z"⟩, 7), (⟨"RuleBooks$Runner", "isSo", "(LRuleBooks$Condition;LRuleBooks$Subject;LRuleBooks$OwnState;)Z"⟩, 7), (⟨"RuleBooks$Runner", "perform", "(LRuleBooks$Rule;LRuleBooks$Subject;LRuleBooks$OwnState;I)I"⟩, 7), (⟨"RuleBooks$Runner", "goToBook", "(LRuleBooks$Rule;LRuleBooks$Subject;I)I"⟩, 7), (⟨"RuleBooks$Runner", "hasErred", "()Z"⟩, 7), (⟨"RuleBooks$Runner", "errAnswer", "()I"⟩, 7), (⟨"RuleBooks", "areBooksOrNone", "([I)Z"⟩, 15), (⟨"RuleBooks", "isBookOrNone", "(I)Z"⟩, 15), (⟨"RuleBooks", "latestPart", "(I)LRuleBooks$Book;"⟩, 15), (⟨"RuleBooks", "latestSubject", "()LRuleBooks$Subject;"⟩, 15), (⟨"RuleBooks$Scenes", "goRound", "()V"⟩, 5), (⟨"RuleBooks$Scenes", "mayChange", "(II)Z"⟩, 5), (⟨"RuleBooks$Scenes", "wasInTurn", "(I)Z"⟩, 5), (⟨"RuleBooks$Scenes", "isMet", "(II)Z"⟩, 5), (⟨"RuleBooks$Scenes", "change", "(II)V"⟩, 5), (⟨"RuleBooks$Phrases", "isTold", "(III)Z"⟩, 5)]
theorem lw_r2 : ∀ q ∈ lw_privs_2, lw_okq q := List.forall_mem_cons.mpr ⟨lw_p16, List.forall_mem_cons.mpr ⟨lw_p17, List.forall_mem_cons.mpr ⟨lw_p18, List.forall_mem_cons.mpr ⟨lw_p19, List.forall_mem_cons.mpr ⟨lw_p20, List.forall_mem_cons.mpr ⟨lw_p21, List.forall_mem_cons.mpr ⟨lw_p22, List.forall_mem_cons.mpr ⟨lw_p23, List.forall_mem_cons.mpr ⟨lw_p24, List.forall_mem_cons.mpr ⟨lw_p25, List.forall_mem_cons.mpr ⟨lw_p26, List.forall_mem_cons.mpr ⟨lw_p27, List.forall_mem_cons.mpr ⟨lw_p28, List.forall_mem_cons.mpr ⟨lw_p29, List.forall_mem_cons.mpr ⟨lw_p30, List.forall_mem_cons.mpr ⟨lw_p31, fun _ h => absurd h List.not_mem_nil⟩⟩⟩⟩⟩⟩⟩⟩⟩⟩⟩⟩⟩⟩⟩⟩
theorem lw_p32 : lw_okq (⟨"RuleBooks$Phrases", "isMeant", "(IIII)Z"⟩, 5) := ⟨⟨by decide +kernel, by decide +kernel⟩, List.mem_of_getElem? (i := 106) (by decide +kernel), List.mem_of_getElem? (i := 865) (by decide +kernel), List.mem_of_getElem? (i := 866) (by decide +kernel)⟩
theorem lw_p33 : lw_okq (⟨"RuleBooks$Phrases", "isUnderAllMeant", "(III)Z"⟩, 5) := ⟨⟨by decide +kernel, by decide +kernel⟩, List.mem_of_getElem? (i := 106) (by decide +kernel), List.mem_of_getElem? (i := 870) (by decide +kernel), List.mem_of_getElem? (i := 871) (by decide +kernel)⟩
theorem lw_p34 : lw_okq (⟨"RuleBooksModel", "isUnder", "(II)Z"⟩, 52) := ⟨⟨by decide +kernel, by decide +kernel⟩, List.mem_of_getElem? (i := 878) (by decide +kernel), List.mem_of_getElem? (i := 1053) (by decide +kernel), List.mem_of_getElem? (i := 1054) (by decide +kernel)⟩
theorem lw_p35 : lw_okq (⟨"RuleBooksModel", "isSubject", "(I)Z"⟩, 52) := ⟨⟨by decide +kernel, by decide +kernel⟩, List.mem_of_getElem? (i := 878) (by decide +kernel), List.mem_of_getElem? (i := 1065) (by decide +kernel), List.mem_of_getElem? (i := 1066) (by decide +kernel)⟩
theorem lw_p36 : lw_okq (⟨"RuleBooksModel", "isBook", "(I)Z"⟩, 52) := ⟨⟨by decide +kernel, by decide +kernel⟩, List.mem_of_getElem? (i := 878) (by decide +kernel), List.mem_of_getElem? (i := 1081) (by decide +kernel), List.mem_of_getElem? (i := 1082) (by decide +kernel)⟩
theorem lw_p37 : lw_okq (⟨"RuleBooksModel", "isRule", "(I)Z"⟩, 52) := ⟨⟨by decide +kernel, by decide +kernel⟩, List.mem_of_getElem? (i := 878) (by decide +kernel), List.mem_of_getElem? (i := 1093) (by decide +kernel), List.mem_of_getElem? (i := 1094) (by decide +kernel)⟩
theorem lw_p38 : lw_okq (⟨"RuleBooksModel", "makes", "(I)V"⟩, 52) := ⟨⟨by decide +kernel, by decide +kernel⟩, List.mem_of_getElem? (i := 878) (by decide +kernel), List.mem_of_getElem? (i := 1109) (by decide +kernel), List.mem_of_getElem? (i := 1110) (by decide +kernel)⟩
theorem lw_p39 : lw_okq (⟨"RuleBooksModel", "isAhead", "(II)Z"⟩, 52) := ⟨⟨by decide +kernel, by decide +kernel⟩, List.mem_of_getElem? (i := 878) (by decide +kernel), List.mem_of_getElem? (i := 1113) (by decide +kernel), List.mem_of_getElem? (i := 1114) (by decide +kernel)⟩
theorem lw_p40 : lw_okq (⟨"RuleBooksModel", "deeps", "(I)I"⟩, 52) := ⟨⟨by decide +kernel, by decide +kernel⟩, List.mem_of_getElem? (i := 878) (by decide +kernel), List.mem_of_getElem? (i := 1117) (by decide +kernel), List.mem_of_getElem? (i := 1118) (by decide +kernel)⟩
theorem lw_p41 : lw_okq (⟨"RuleBooksModel", "deep", "(I)I"⟩, 52) := ⟨⟨by decide +kernel, by decide +kernel⟩, List.mem_of_getElem? (i := 878) (by decide +kernel), List.mem_of_getElem? (i := 1121) (by decide +kernel), List.mem_of_getElem? (i := 1122) (by decide +kernel)⟩
theorem lw_p42 : lw_okq (⟨"RuleBooksModel", "comes", "(II)V"⟩, 52) := ⟨⟨by decide +kernel, by decide +kernel⟩, List.mem_of_getElem? (i := 878) (by decide +kernel), List.mem_of_getElem? (i := 1125) (by decide +kernel), List.mem_of_getElem? (i := 1126) (by decide +kernel)⟩
theorem lw_p43 : lw_okq (⟨"RuleBooksModel", "nextOrder", "(II)I"⟩, 52) := ⟨⟨by decide +kernel, by decide +kernel⟩, List.mem_of_getElem? (i := 878) (by decide +kernel), List.mem_of_getElem? (i := 1129) (by decide +kernel), List.mem_of_getElem? (i := 1130) (by decide +kernel)⟩
theorem lw_p44 : lw_okq (⟨"RuleBooksModel", "moves", "(I)V"⟩, 52) := ⟨⟨by decide +kernel, by decide +kernel⟩, List.mem_of_getElem? (i := 878) (by decide +kernel), List.mem_of_getElem? (i := 1133) (by decide +kernel), List.mem_of_getElem? (i := 1134) (by decide +kernel)⟩
theorem lw_p45 : lw_okq (⟨"RuleBooksModel", "placeOf", "(I)I"⟩, 52) := ⟨⟨by decide +kernel, by decide +kernel⟩, List.mem_of_getElem? (i := 878) (by decide +kernel), List.mem_of_getElem? (i := 1137) (by decide +kernel), List.mem_of_getElem? (i := 1138) (by decide +kernel)⟩
theorem lw_p46 : lw_okq (⟨"RuleBooksModel", "goes", "(I)V"⟩, 52) := ⟨⟨by decide +kernel, by decide +kernel⟩, List.mem_of_getElem? (i := 878) (by decide +kernel), List.mem_of_getElem? (i := 1141) (by decide +kernel), List.mem_of_getElem? (i := 1142) (by decide +kernel)⟩
theorem lw_p47 : lw_okq (⟨"RuleBooksModel", "answer", "(II)I"⟩, 52) := ⟨⟨by decide +kernel, by decide +kernel⟩, List.mem_of_getElem? (i := 878) (by decide +kernel), List.mem_of_getElem? (i := 1149) (by decide +kernel), List.mem_of_getElem? (i := 1150) (by decide +kernel)⟩
def lw_privs_3 : List (MethodName × Nat) := [(⟨"RuleBooks$Phrases", "isMeant", "(IIII)Z"⟩, 5), (⟨"RuleBooks$Phrases", "isUnderAllMeant", "(III)Z"⟩, 5), (⟨"RuleBooksModel", "isUnder", "(II)Z"⟩, 52), (⟨"RuleBooksModel", "isSubject", "(I)Z"⟩, 52), (⟨"RuleBooksModel", "isBook", "(I)Z"⟩, 52), (⟨"RuleBooksModel", "isRule", "(I)Z"⟩, 52), (⟨"RuleBooksModel", "makes", "(I)V"⟩, 52), (⟨"RuleBooksModel", "isAhead", "(II)Z"⟩, 52), (⟨"RuleBooksModel", "deeps", "(I)I"⟩, 52), (⟨"RuleBooksModel", "deep", "(I)I"⟩, 52), (⟨"RuleBooksModel", "comes", "(II)V"⟩, 52), (⟨"RuleBooksModel", "nextOrder", "(II)I"⟩, 52), (⟨"RuleBooksModel", "moves", "(I)V"⟩, 52), (⟨"RuleBooksModel", "placeOf", "(I)I"⟩, 52), (⟨"RuleBooksModel", "goes", "(I)V"⟩, 52), (⟨"RuleBooksModel", "answer", "(II)I"⟩, 52)]
theorem lw_r3 : ∀ q ∈ lw_privs_3, lw_okq q := List.forall_mem_cons.mpr ⟨lw_p32, List.forall_mem_cons.mpr ⟨lw_p33, List.forall_mem_cons.mpr ⟨lw_p34, List.forall_mem_cons.mpr ⟨lw_p35, List.forall_mem_cons.mpr ⟨lw_p36, List.forall_mem_cons.mpr ⟨lw_p37, List.forall_mem_cons.mpr ⟨lw_p38, List.forall_mem_cons.mpr ⟨lw_p39, List.forall_mem_cons.mpr ⟨lw_p40, List.forall_mem_cons.mpr ⟨lw_p41, List.forall_mem_cons.mpr ⟨lw_p42, List.forall_mem_cons.mpr ⟨lw_p43, List.forall_mem_cons.mpr ⟨lw_p44, List.forall_mem_cons.mpr ⟨lw_p45, List.forall_mem_cons.mpr ⟨lw_p46, List.forall_mem_cons.mpr ⟨lw_p47, fun _ h => absurd h List.not_mem_nil⟩⟩⟩⟩⟩⟩⟩⟩⟩⟩⟩⟩⟩⟩⟩⟩
theorem lw_p48 : lw_okq (⟨"RuleBooksModel", "runs", "(II)I"⟩, 52) := ⟨⟨by decide +kernel, by decide +kernel⟩, List.mem_of_getElem? (i := 878) (by decide +kernel), List.mem_of_getElem? (i := 1153) (by decide +kernel), List.mem_of_getElem? (i := 1154) (by decide +kernel)⟩
theorem lw_p49 : lw_okq (⟨"RuleBooksModel", "pushes", "(IZ)V"⟩, 52) := ⟨⟨by decide +kernel, by decide +kernel⟩, List.mem_of_getElem? (i := 878) (by decide +kernel), List.mem_of_getElem? (i := 1157) (by decide +kernel), List.mem_of_getElem? (i := 1158) (by decide +kernel)⟩
theorem lw_p50 : lw_okq (⟨"RuleBooksModel", "fails", "(II)I"⟩, 52) := ⟨⟨by decide +kernel, by decide +kernel⟩, List.mem_of_getElem? (i := 878) (by decide +kernel), List.mem_of_getElem? (i := 1161) (by decide +kernel), List.mem_of_getElem? (i := 1162) (by decide +kernel)⟩
theorem lw_p51 : lw_okq (⟨"RuleBooksModel", "applies", "(III)Z"⟩, 52) := ⟨⟨by decide +kernel, by decide +kernel⟩, List.mem_of_getElem? (i := 878) (by decide +kernel), List.mem_of_getElem? (i := 1165) (by decide +kernel), List.mem_of_getElem? (i := 1166) (by decide +kernel)⟩
theorem lw_p52 : lw_okq (⟨"RuleBooksModel", "isSo", "(IIIII)Z"⟩, 52) := ⟨⟨by decide +kernel, by decide +kernel⟩, List.mem_of_getElem? (i := 878) (by decide +kernel), List.mem_of_getElem? (i := 1169) (by decide +kernel), List.mem_of_getElem? (i := 1170) (by decide +kernel)⟩
theorem lw_p53 : lw_okq (⟨"RuleBooksModel", "works", "(III)I"⟩, 52) := ⟨⟨by decide +kernel, by decide +kernel⟩, List.mem_of_getElem? (i := 878) (by decide +kernel), List.mem_of_getElem? (i := 1173) (by decide +kernel), List.mem_of_getElem? (i := 1174) (by decide +kernel)⟩
theorem lw_p54 : lw_okq (⟨"RuleBooksModel", "isBookOrNone", "(I)Z"⟩, 52) := ⟨⟨by decide +kernel, by decide +kernel⟩, List.mem_of_getElem? (i := 878) (by decide +kernel), List.mem_of_getElem? (i := 1189) (by decide +kernel), List.mem_of_getElem? (i := 1190) (by decide +kernel)⟩
theorem lw_p55 : lw_okq (⟨"RuleBooksModel", "part", "(III)I"⟩, 52) := ⟨⟨by decide +kernel, by decide +kernel⟩, List.mem_of_getElem? (i := 878) (by decide +kernel), List.mem_of_getElem? (i := 1205) (by decide +kernel), List.mem_of_getElem? (i := 1206) (by decide +kernel)⟩
theorem lw_p56 : lw_okq (⟨"RuleBooksModel", "isEvent", "(I)Z"⟩, 52) := ⟨⟨by decide +kernel, by decide +kernel⟩, List.mem_of_getElem? (i := 878) (by decide +kernel), List.mem_of_getElem? (i := 1237) (by decide +kernel), List.mem_of_getElem? (i := 1238) (by decide +kernel)⟩
theorem lw_p57 : lw_okq (⟨"RuleBooksModel", "isMet", "(I)Z"⟩, 52) := ⟨⟨by decide +kernel, by decide +kernel⟩, List.mem_of_getElem? (i := 878) (by decide +kernel), List.mem_of_getElem? (i := 1241) (by decide +kernel), List.mem_of_getElem? (i := 1242) (by decide +kernel)⟩
theorem lw_p58 : lw_okq (⟨"RuleBooksModel", "isMeant", "(IIII)Z"⟩, 52) := ⟨⟨by decide +kernel, by decide +kernel⟩, List.mem_of_getElem? (i := 878) (by decide +kernel), List.mem_of_getElem? (i := 1261) (by decide +kernel), List.mem_of_getElem? (i := 1262) (by decide +kernel)⟩
def lw_privs_4 : List (MethodName × Nat) := [(⟨"RuleBooksModel", "runs", "(II)I"⟩, 52), (⟨"RuleBooksModel", "pushes", "(IZ)V"⟩, 52), (⟨"RuleBooksModel", "fails", "(II)I"⟩, 52), (⟨"RuleBooksModel", "applies", "(III)Z"⟩, 52), (⟨"RuleBooksModel", "isSo", "(IIIII)Z"⟩, 52), (⟨"RuleBooksModel", "works", "(III)I"⟩, 52), (⟨"RuleBooksModel", "isBookOrNone", "(I)Z"⟩, 52), (⟨"RuleBooksModel", "part", "(III)I"⟩, 52), (⟨"RuleBooksModel", "isEvent", "(I)Z"⟩, 52), (⟨"RuleBooksModel", "isMet", "(I)Z"⟩, 52), (⟨"RuleBooksModel", "isMeant", "(IIII)Z"⟩, 52)]
theorem lw_r4 : ∀ q ∈ lw_privs_4, lw_okq q := List.forall_mem_cons.mpr ⟨lw_p48, List.forall_mem_cons.mpr ⟨lw_p49, List.forall_mem_cons.mpr ⟨lw_p50, List.forall_mem_cons.mpr ⟨lw_p51, List.forall_mem_cons.mpr ⟨lw_p52, List.forall_mem_cons.mpr ⟨lw_p53, List.forall_mem_cons.mpr ⟨lw_p54, List.forall_mem_cons.mpr ⟨lw_p55, List.forall_mem_cons.mpr ⟨lw_p56, List.forall_mem_cons.mpr ⟨lw_p57, List.forall_mem_cons.mpr ⟨lw_p58, fun _ h => absurd h List.not_mem_nil⟩⟩⟩⟩⟩⟩⟩⟩⟩⟩⟩
def lw_privs : List (MethodName × Nat) := lw_privs_1 ++ (lw_privs_2 ++ (lw_privs_3 ++ (lw_privs_4)))
def lw_tbl : List Cond := k2_sels lw_privs ++ tables_1
theorem lw_privs_ok : ∀ q ∈ lw_privs, lw_okq q := by
  show ∀ q ∈ lw_privs_1 ++ (lw_privs_2 ++ (lw_privs_3 ++ (lw_privs_4))), lw_okq q
  exact List.forall_mem_append.mpr ⟨lw_r1, List.forall_mem_append.mpr ⟨lw_r2, List.forall_mem_append.mpr ⟨lw_r3, lw_r4⟩⟩⟩
end
section
def cT0 : u_T := fun k => match k with
  | 0 => ("RuleBooks$Book", "otherwise", "I", true)
  | 1 => ("RuleBooks$Book", "firstNumbers", "[I", true)
  | 2 => ("RuleBooks$Book", "own", "Ljava/util/ArrayList;", true)
  | 3 => ("RuleBooks$Book", "ordered", "Ljava/util/ArrayList;", true)
  | _ => ("RuleBooks$Book", "row", "Ljava/util/ArrayList;", true)
def cY0 : Nat → FieldType := fun k => match k with
  | 0 => .int
  | 1 => .array (.int)
  | 2 => .object "java/util/ArrayList"
  | 3 => .object "java/util/ArrayList"
  | _ => .object "java/util/ArrayList"
def cT1 : u_T := fun k => match k with
  | 0 => ("RuleBooks$Condition", "code", "I", true)
  | 1 => ("RuleBooks$Condition", "contrary", "Z", true)
  | 2 => ("RuleBooks$Condition", "x", "I", true)
  | _ => ("RuleBooks$Condition", "y", "I", true)
def cY1 : Nat → FieldType := fun k => match k with
  | 0 => .int
  | 1 => .boolean
  | 2 => .int
  | _ => .int
def cT2 : u_T := fun k => match k with
  | 0 => ("RuleBooks$Kinds", "parents", "[I", true)
  | 1 => ("RuleBooks$Kinds", "deeps", "[I", true)
  | _ => ("RuleBooks$Kinds", "told", "I", false)
def cY2 : Nat → FieldType := fun k => match k with
  | 0 => .array (.int)
  | 1 => .array (.int)
  | _ => .int
def cT3 : u_T := fun k => match k with
  | 0 => ("RuleBooks$OwnState", "variables", "[I", true)
  | _ => ("RuleBooks$OwnState", "applied", "J", false)
def cY3 : Nat → FieldType := fun k => match k with
  | 0 => .array (.int)
  | _ => .long
def cT4 : u_T := fun k => match k with
  | 0 => ("RuleBooks$Phrases", "kinds", "LRuleBooks$Kinds;", true)
  | 1 => ("RuleBooks$Phrases", "names", "[I", true)
  | 2 => ("RuleBooks$Phrases", "firsts", "[I", true)
  | 3 => ("RuleBooks$Phrases", "seconds", "[I", true)
  | _ => ("RuleBooks$Phrases", "told", "I", false)
def cY4 : Nat → FieldType := fun k => match k with
  | 0 => .object "RuleBooks$Kinds"
  | 1 => .array (.int)
  | 2 => .array (.int)
  | 3 => .array (.int)
  | _ => .int
def cT5 : u_T := fun k => match k with
  | 0 => ("RuleBooks$Rule", "number", "I", true)
  | 1 => ("RuleBooks$Rule", "owner", "LRuleBooks$Book;", true)
  | 2 => ("RuleBooks$Rule", "section", "I", true)
  | 3 => ("RuleBooks$Rule", "special", "I", true)
  | 4 => ("RuleBooks$Rule", "conditions", "Ljava/util/ArrayList;", true)
  | 5 => ("RuleBooks$Rule", "deepSum", "I", false)
  | 6 => ("RuleBooks$Rule", "deed", "I", false)
  | 7 => ("RuleBooks$Rule", "deedX", "I", false)
  | 8 => ("RuleBooks$Rule", "deedY", "I", false)
  | 9 => ("RuleBooks$Rule", "how", "I", false)
  | _ => ("RuleBooks$Rule", "mark", "LRuleBooks$Rule;", false)
def cY5 : Nat → FieldType := fun k => match k with
  | 0 => .int
  | 1 => .object "RuleBooks$Book"
  | 2 => .int
  | 3 => .int
  | 4 => .object "java/util/ArrayList"
  | 5 => .int
  | 6 => .int
  | 7 => .int
  | 8 => .int
  | 9 => .int
  | _ => .object "RuleBooks$Rule"
def cT6 : u_T := fun k => match k with
  | 0 => ("RuleBooks$Runner", "kinds", "LRuleBooks$Kinds;", true)
  | 1 => ("RuleBooks$Runner", "books", "Ljava/util/ArrayList;", true)
  | 2 => ("RuleBooks$Runner", "scenes", "LRuleBooks$Scenes;", true)
  | 3 => ("RuleBooks$Runner", "states", "[LRuleBooks$OwnState;", true)
  | 4 => ("RuleBooks$Runner", "trace", "LRuleBooks$Trace;", true)
  | 5 => ("RuleBooks$Runner", "errCode", "I", false)
  | _ => ("RuleBooks$Runner", "errRule", "I", false)
def cY6 : Nat → FieldType := fun k => match k with
  | 0 => .object "RuleBooks$Kinds"
  | 1 => .object "java/util/ArrayList"
  | 2 => .object "RuleBooks$Scenes"
  | 3 => .array (.object "RuleBooks$OwnState")
  | 4 => .object "RuleBooks$Trace"
  | 5 => .int
  | _ => .int
def cT7 : u_T := fun k => match k with
  | 0 => ("RuleBooks$Scene", "again", "Z", true)
  | 1 => ("RuleBooks$Scene", "on", "Z", false)
  | 2 => ("RuleBooks$Scene", "began", "I", false)
  | 3 => ("RuleBooks$Scene", "codes", "[I", true)
  | _ => ("RuleBooks$Scene", "xs", "[I", true)
def cY7 : Nat → FieldType := fun k => match k with
  | 0 => .boolean
  | 1 => .boolean
  | 2 => .int
  | 3 => .array (.int)
  | _ => .array (.int)
def cT8 : u_T := fun k => match k with
  | 0 => ("RuleBooks$Scenes", "subjects", "Ljava/util/ArrayList;", true)
  | 1 => ("RuleBooks$Scenes", "told", "Ljava/util/ArrayList;", true)
  | 2 => ("RuleBooks$Scenes", "events", "[I", true)
  | 3 => ("RuleBooks$Scenes", "eventCount", "I", false)
  | _ => ("RuleBooks$Scenes", "clock", "I", false)
def cY8 : Nat → FieldType := fun k => match k with
  | 0 => .object "java/util/ArrayList"
  | 1 => .object "java/util/ArrayList"
  | 2 => .array (.int)
  | 3 => .int
  | _ => .int
def cT9 : u_T := fun k => match k with
  | 0 => ("RuleBooks$Subject", "kind", "I", true)
  | _ => ("RuleBooks$Subject", "values", "[I", true)
def cY9 : Nat → FieldType := fun k => match k with
  | 0 => .int
  | _ => .array (.int)
def cT10 : u_T := fun k => match k with
  | 0 => ("RuleBooks$Trace", "looked", "[I", true)
  | 1 => ("RuleBooks$Trace", "applied", "[I", true)
  | 2 => ("RuleBooks$Trace", "depths", "[I", true)
  | _ => ("RuleBooks$Trace", "length", "I", false)
def cY10 : Nat → FieldType := fun k => match k with
  | 0 => .array (.int)
  | 1 => .array (.int)
  | 2 => .array (.int)
  | _ => .int
def cT11 : u_T := fun k => match k with
  | 0 => ("RuleBooks", "kinds", "LRuleBooks$Kinds;", true)
  | 1 => ("RuleBooks", "subjects", "Ljava/util/ArrayList;", true)
  | 2 => ("RuleBooks", "books", "Ljava/util/ArrayList;", true)
  | 3 => ("RuleBooks", "rules", "Ljava/util/ArrayList;", true)
  | 4 => ("RuleBooks", "actions", "[[I", true)
  | 5 => ("RuleBooks", "actionCount", "I", false)
  | 6 => ("RuleBooks", "activities", "[[I", true)
  | 7 => ("RuleBooks", "activityCount", "I", false)
  | 8 => ("RuleBooks", "openActivities", "[I", true)
  | 9 => ("RuleBooks", "openSubjects", "[I", true)
  | 10 => ("RuleBooks", "openCount", "I", false)
  | 11 => ("RuleBooks", "scenes", "LRuleBooks$Scenes;", true)
  | 12 => ("RuleBooks", "turnBook", "I", false)
  | 13 => ("RuleBooks", "phrases", "LRuleBooks$Phrases;", true)
  | _ => ("RuleBooks", "runner", "LRuleBooks$Runner;", true)
def cY11 : Nat → FieldType := fun k => match k with
  | 0 => .object "RuleBooks$Kinds"
  | 1 => .object "java/util/ArrayList"
  | 2 => .object "java/util/ArrayList"
  | 3 => .object "java/util/ArrayList"
  | 4 => .array (.array (.int))
  | 5 => .int
  | 6 => .array (.array (.int))
  | 7 => .int
  | 8 => .array (.int)
  | 9 => .array (.int)
  | 10 => .int
  | 11 => .object "RuleBooks$Scenes"
  | 12 => .int
  | 13 => .object "RuleBooks$Phrases"
  | _ => .object "RuleBooks$Runner"
def cT12 : u_T := fun k => match k with
  | 0 => ("RuleBooksModel", "kinds", "I", false)
  | 1 => ("RuleBooksModel", "parents", "[I", true)
  | 2 => ("RuleBooksModel", "subjects", "I", false)
  | 3 => ("RuleBooksModel", "subjectKinds", "[I", true)
  | 4 => ("RuleBooksModel", "values", "[I", true)
  | 5 => ("RuleBooksModel", "books", "I", false)
  | 6 => ("RuleBooksModel", "defaults", "[I", true)
  | 7 => ("RuleBooksModel", "firsts", "[I", true)
  | 8 => ("RuleBooksModel", "rules", "I", false)
  | 9 => ("RuleBooksModel", "bookOf", "[I", true)
  | 10 => ("RuleBooksModel", "sections", "[I", true)
  | 11 => ("RuleBooksModel", "specials", "[I", true)
  | 12 => ("RuleBooksModel", "conditions", "[I", true)
  | 13 => ("RuleBooksModel", "conditionMany", "[I", true)
  | 14 => ("RuleBooksModel", "doings", "[I", true)
  | 15 => ("RuleBooksModel", "hows", "[I", true)
  | 16 => ("RuleBooksModel", "others", "[I", true)
  | 17 => ("RuleBooksModel", "toldAt", "[I", true)
  | 18 => ("RuleBooksModel", "told", "I", false)
  | 19 => ("RuleBooksModel", "made", "[I", true)
  | 20 => ("RuleBooksModel", "madeMany", "I", false)
  | 21 => ("RuleBooksModel", "depth", "I", false)
  | 22 => ("RuleBooksModel", "rows", "[I", true)
  | 23 => ("RuleBooksModel", "rowSizes", "[I", true)
  | 24 => ("RuleBooksModel", "places", "[I", true)
  | 25 => ("RuleBooksModel", "variables", "[I", true)
  | 26 => ("RuleBooksModel", "applied", "[Z", true)
  | 27 => ("RuleBooksModel", "abides", "[Z", true)
  | 28 => ("RuleBooksModel", "trace", "[I", true)
  | 29 => ("RuleBooksModel", "traced", "I", false)
  | 30 => ("RuleBooksModel", "error", "I", false)
  | 31 => ("RuleBooksModel", "errs", "I", false)
  | 32 => ("RuleBooksModel", "isFresh", "Z", false)
  | 33 => ("RuleBooksModel", "actions", "I", false)
  | 34 => ("RuleBooksModel", "stages", "[I", true)
  | 35 => ("RuleBooksModel", "activities", "I", false)
  | 36 => ("RuleBooksModel", "parts", "[I", true)
  | 37 => ("RuleBooksModel", "open", "I", false)
  | 38 => ("RuleBooksModel", "openOnes", "[I", true)
  | 39 => ("RuleBooksModel", "openFor", "[I", true)
  | 40 => ("RuleBooksModel", "scenes", "I", false)
  | 41 => ("RuleBooksModel", "again", "[I", true)
  | 42 => ("RuleBooksModel", "happens", "[Z", true)
  | 43 => ("RuleBooksModel", "began", "[I", true)
  | 44 => ("RuleBooksModel", "codes", "[I", true)
  | 45 => ("RuleBooksModel", "anchors", "[I", true)
  | 46 => ("RuleBooksModel", "everyTurn", "I", false)
  | 47 => ("RuleBooksModel", "clock", "I", false)
  | 48 => ("RuleBooksModel", "events", "[I", true)
  | 49 => ("RuleBooksModel", "eventMany", "I", false)
  | 50 => ("RuleBooksModel", "phrases", "I", false)
  | _ => ("RuleBooksModel", "phrase", "[I", true)
def cY12 : Nat → FieldType := fun k => match k with
  | 0 => .int
  | 1 => .array (.int)
  | 2 => .int
  | 3 => .array (.int)
  | 4 => .array (.int)
  | 5 => .int
  | 6 => .array (.int)
  | 7 => .array (.int)
  | 8 => .int
  | 9 => .array (.int)
  | 10 => .array (.int)
  | 11 => .array (.int)
  | 12 => .array (.int)
  | 13 => .array (.int)
  | 14 => .array (.int)
  | 15 => .array (.int)
  | 16 => .array (.int)
  | 17 => .array (.int)
  | 18 => .int
  | 19 => .array (.int)
  | 20 => .int
  | 21 => .int
  | 22 => .array (.int)
  | 23 => .array (.int)
  | 24 => .array (.int)
  | 25 => .array (.int)
  | 26 => .array (.boolean)
  | 27 => .array (.boolean)
  | 28 => .array (.int)
  | 29 => .int
  | 30 => .int
  | 31 => .int
  | 32 => .boolean
  | 33 => .int
  | 34 => .array (.int)
  | 35 => .int
  | 36 => .array (.int)
  | 37 => .int
  | 38 => .array (.int)
  | 39 => .array (.int)
  | 40 => .int
  | 41 => .array (.int)
  | 42 => .array (.boolean)
  | 43 => .array (.int)
  | 44 => .array (.int)
  | 45 => .array (.int)
  | 46 => .int
  | 47 => .int
  | 48 => .array (.int)
  | 49 => .int
  | 50 => .int
  | _ => .array (.int)
def cT13 : u_T := fun k => match k with
  | 0 => ("java/util/ArrayList", "elementData", "[Ljava/lang/Object;", false)
  | 1 => ("java/util/ArrayList", "size", "I", false)
  | _ => ("java/util/AbstractList", "modCount", "I", false)
def cY13 : Nat → FieldType := fun k => match k with
  | 0 => .array (.object "java/lang/Object")
  | 1 => .int
  | _ => .int
def cS : Nat → String := fun k => match k with
  | 0 => "RuleBooks$Book"
  | 1 => "RuleBooks$Condition"
  | 2 => "RuleBooks$Kinds"
  | 3 => "RuleBooks$OwnState"
  | 4 => "RuleBooks$Phrases"
  | 5 => "RuleBooks$Rule"
  | 6 => "RuleBooks$Runner"
  | 7 => "RuleBooks$Scene"
  | 8 => "RuleBooks$Scenes"
  | 9 => "RuleBooks$Subject"
  | 10 => "RuleBooks$Trace"
  | 11 => "RuleBooks"
  | 12 => "RuleBooksModel"
  | _ => "java/util/ArrayList"
def cN : Nat → Nat := fun k => match k with
  | 0 => 5
  | 1 => 4
  | 2 => 3
  | 3 => 2
  | 4 => 5
  | 5 => 11
  | 6 => 7
  | 7 => 5
  | 8 => 5
  | 9 => 2
  | 10 => 4
  | 11 => 15
  | 12 => 52
  | _ => 3
def cT : Nat → u_T := fun k => match k with
  | 0 => cT0
  | 1 => cT1
  | 2 => cT2
  | 3 => cT3
  | 4 => cT4
  | 5 => cT5
  | 6 => cT6
  | 7 => cT7
  | 8 => cT8
  | 9 => cT9
  | 10 => cT10
  | 11 => cT11
  | 12 => cT12
  | _ => cT13
def cY : Nat → (Nat → FieldType) := fun k => match k with
  | 0 => cY0
  | 1 => cY1
  | 2 => cY2
  | 3 => cY3
  | 4 => cY4
  | 5 => cY5
  | 6 => cY6
  | 7 => cY7
  | 8 => cY8
  | 9 => cY9
  | 10 => cY10
  | 11 => cY11
  | 12 => cY12
  | _ => cY13
/-- the words that go along with every call -/
def TB : List Cond := lw_tbl.filter goodWord
/-- the words of the nest, of casts, of declared methods: moved by hand -/
def isMv : Cond → Bool
  | .fieldLinkNest .. => true
  | .methodLinkNest .. => true
  | .castable .. => true
  | .declares .. => true
  | _ => false
def NT : List Cond := tables_1.filter isMv
theorem tb_at {w : Cond} (i : Nat) (h : lw_tbl[i]? = some w) (g : goodWord w = true) : w ∈ TB := List.mem_filter.mpr ⟨List.mem_of_getElem? h, g⟩
theorem nt_at {w : Cond} (i : Nat) (h : tables_1[i]? = some w) (g : isMv w = true) : w ∈ NT := List.mem_filter.mpr ⟨List.mem_of_getElem? h, g⟩
theorem nt_mv {w : Cond} (h : isMv w = true) {s U : State} (hW : s.WarmedH U.vm) (hz : va_Nw w s) : va_Nw w U := by
  cases w <;> first | exact va_Nw.warmF hW hz | exact va_Nw.warmM hW hz | exact va_Nw.warmC hW hz | exact va_Nw.warmD hW hz | (simp [isMv] at h)
theorem nt_tab {w : Cond} (h : isMv w = true) : w.onTables = true := by
  cases w <;> first | rfl | (simp [isMv] at h)
/-- names of cells, values, cells, heaps -/
abbrev Nm : Type := Nat × Nat × Nat
abbrev PV : Type := Int32 ⊕ (Int64 ⊕ Option Nm)
abbrev vI (x : Int32) : PV := .inl x
abbrev vL (x : Int64) : PV := .inr (.inl x)
abbrev vN : PV := .inr (.inr none)
abbrev vR (n : Nm) : PV := .inr (.inr (some n))
abbrev vO (o : Option Nm) : PV := .inr (.inr o)
abbrev PC : Type := Nat × Nat × (Nat → PV)
abbrev Hp : Type := Nm → Option PC
def tr (ρ : Nm → Nat) : PV → Value
  | .inl x => .int x
  | .inr (.inl x) => .long x
  | .inr (.inr none) => .null
  | .inr (.inr (some n)) => .ref (ρ n)
def wfv (h : Hp) : PV → Prop
  | .inr (.inr (some n)) => h n ≠ none
  | _ => True
def Ws (h : Hp) (st : List PV) : Prop := ∀ v ∈ st, wfv h v
def up (h : Hp) (n : Nm) (c : PC) : Hp := fun m => if m = n then some c else h m
def upr (ρ : Nm → Nat) (n : Nm) (a : Nat) : Nm → Nat := fun m => if m = n then a else ρ m
def upf (f : Nat → PV) (k : Nat) (v : PV) : Nat → PV := fun j => if j = k then v else f j
def fl (l : List PV) : Nat → PV := fun k => l.getD k vN
/-- the launch's numbers: heap at the start, mirror, classes, slots, array classes -/
abbrev Gl : Type := Nat × Nat × (Nat → ClassId) × (Nat → Nat → Nat) × (Nat → ClassId)
abbrev gz (g : Gl) : Nat := g.1
abbrev gm (g : Gl) : Nat := g.2.1
abbrev gC (g : Gl) : Nat → ClassId := g.2.2.1
abbrev gI (g : Gl) : Nat → Nat → Nat := g.2.2.2.1
abbrev gA (g : Gl) : Nat → ClassId := g.2.2.2.2
/-- types of the components of arrays, by their kinds -/
def aY : Nat → FieldType := fun k => match k with
  | 20 => .int
  | 21 => .boolean
  | 22 => .object "java/lang/Object"
  | 23 => .array .int
  | 24 => .object "RuleBooks$OwnState"
  | 28 => .object "java/lang/Object"
  | _ => .int
def cOK (g : Gl) (ρ : Nm → Nat) (H : Heap) (a : Nat) (c : PC) : Prop :=
  if c.1 < 14 then t_OB a (gC g c.1) (cN c.1) (gI g c.1) H (fun j => tr ρ (c.2.2 j))
  else if c.1 < 25 then H[a]? = some (arrV (gA g c.1) c.2.1 (fun j => tr ρ (c.2.2 j)))
  else ∃ cell : Cell, H[a]? = some cell ∧ cell.cls = gA g c.1 ∧ cell.vm ≠ .unknown ∧ (∀ q, cell.vm ≠ .statics q) ∧ cell.slots.size = c.2.1 ∧ ∀ j : Nat, j < c.2.1 → cell.slots[j]? = some (tr ρ (c.2.2 j))
def eZ (g : Gl) (ρ : Nm → Nat) (U : State) (H : Heap) : Prop := va_Z "java/util/ArrayList" "DEFAULTCAPACITY_EMPTY_ELEMENTDATA" "[Ljava/lang/Object;" (.ref (ρ (1, 0, 0))) (fun q => gz g ≤ q) U H
def Wd (g : Gl) (ρ : Nm → Nat) (h : Hp) (U : State) (H : Heap) : Prop :=
  (∀ n c, h n = some c → cOK g ρ H (ρ n) c ∧ ∀ j, wfv h (c.2.2 j)) ∧
  (∀ n n', h n ≠ none → h n' ≠ none → ρ n = ρ n' → n = n') ∧
  (∀ n, h n ≠ none → 2 ≤ n.1 → gz g ≤ ρ n) ∧
  gz g ≤ H.size ∧ h (1, 0, 0) = some (28, 0, fun _ => vN) ∧ eZ g ρ U H
/-- what the tables say of an array class -/
def aK (U : State) (cA : ClassId) (ty : FieldType) : Prop := ∃ (kA : Class) (comp : ClassId), U.vm.classes[cA]? = some kA ∧ kA.kind = .array comp ty ∧ U.vm.findClass ("[" ++ ty.toString) = some cA ∧ (∀ C, ty = .object C → U.vm.findClass C = some comp) ∧ (∀ t, ty = .array t → U.vm.findClass ("[" ++ t.toString) = some comp)
def aX (U : State) (cA : ClassId) : Prop := ∃ (kA : Class) (comp : ClassId), U.vm.classes[cA]? = some kA ∧ kA.kind = .array comp .int
def KB (g : Gl) (U : State) : Prop :=
  (∀ k, k < 14 → u_Kn U (cS k) (cT k) (cN k) (gC g k) (gI g k)) ∧ (∀ k, 20 ≤ k → k < 25 → aK U (gA g k) (aY k)) ∧ gA g 28 = gA g 22 ∧ aX U (gA g 29) ∧ (∀ w ∈ NT, va_Nw w U) ∧ va_AO "java/lang/Object" U ∧ va_AO "RuleBooks$OwnState" U ∧ va_Mi "[Ljava/lang/Object;" (gm g) U
theorem aK.moved {u U : State} (hvm : u.vm.Alike U.vm) {cA : ClassId} {ty : FieldType} (h : aK u cA ty) : aK U cA ty := by
  obtain ⟨kA, comp, h1, h2, h3, h4, h5⟩ := h
  obtain ⟨k', hk', he⟩ := hvm.2.2 _ _ h1
  exact ⟨k', comp, hk', by rw [he]; exact h2, by rw [hvm.findClass]; exact h3, fun C hC => by rw [hvm.findClass]; exact h4 C hC, fun t ht => by rw [hvm.findClass]; exact h5 t ht⟩
theorem aX.moved {u U : State} (hvm : u.vm.Alike U.vm) {cA : ClassId} (h : aX u cA) : aX U cA := by
  obtain ⟨kA, comp, h1, h2⟩ := h
  obtain ⟨k', hk', he⟩ := hvm.2.2 _ _ h1
  exact ⟨k', comp, hk', by rw [he]; exact h2⟩
theorem KB.moved {g : Gl} {s U : State} (hW : s.WarmedH U.vm) (h : KB g s) : KB g U := by
  obtain ⟨h1, h2, h3, h4, h5, h6, h7, h8⟩ := h
  exact ⟨fun k hk => u_Kn_moved hW.alike (h1 k hk), fun k a b => (h2 k a b).moved hW.alike, h3, h4.moved hW.alike, fun w hw => nt_mv (List.mem_filter.mp hw).2 hW (h5 w hw), h6.moved hW.alike, h7.moved hW.alike, h8.moved hW.alike⟩
theorem KB.same {g : Gl} {s U : State} (e : s.vm = U.vm) (h : KB g s) : KB g U := by
  have ha : s.vm.Alike U.vm := by rw [e]; exact Vm.Alike.refl _
  obtain ⟨h1, h2, h3, h4, h5, h6, h7, h8⟩ := h
  exact ⟨fun k hk => u_Kn_moved ha (h1 k hk), fun k a b => (h2 k a b).moved ha, h3, h4.moved ha, fun w hw => va_Nw.same (nt_tab (List.mem_filter.mp hw).2) e (h5 w hw), h6.moved ha, h7.moved ha, h8.moved ha⟩
theorem Wd.moved {g : Gl} {ρ : Nm → Nat} {h : Hp} {u U : State} {H : Heap} (hvm : u.vm.Alike U.vm) (w : Wd g ρ h u H) : Wd g ρ h U H :=
  ⟨w.1, w.2.1, w.2.2.1, w.2.2.2.1, w.2.2.2.2.1, w.2.2.2.2.2.moved hvm⟩
theorem up_self {h : Hp} {n : Nm} {c : PC} : up h n c n = some c := if_pos rfl
theorem up_ne {h : Hp} {n m : Nm} {c : PC} (e : m ≠ n) : up h n c m = h m := if_neg e
theorem up_dom {h : Hp} {n m : Nm} {c : PC} (e : h m ≠ none) : up h n c m ≠ none := by
  unfold up
  split
  · exact fun q => by cases q
  · exact e
theorem wfv.up {h : Hp} {n : Nm} {c : PC} {v : PV} (w : wfv h v) : wfv (up h n c) v := by
  match v, w with
  | .inl _, _ => trivial
  | .inr (.inl _), _ => trivial
  | .inr (.inr none), _ => trivial
  | .inr (.inr (some m)), w => exact up_dom w
theorem wfv.mono {h h' : Hp} {v : PV} (w : wfv h v) (e : ∀ n, h n ≠ none → h' n ≠ none) : wfv h' v := by
  match v, w with
  | .inl _, _ => trivial
  | .inr (.inl _), _ => trivial
  | .inr (.inr none), _ => trivial
  | .inr (.inr (some m)), w => exact e m w
theorem trx {h : Hp} {ρ ρ' : Nm → Nat} {v : PV} (w : wfv h v) (e : ∀ n, h n ≠ none → ρ' n = ρ n) : tr ρ' v = tr ρ v := by
  match v, w with
  | .inl _, _ => rfl
  | .inr (.inl _), _ => rfl
  | .inr (.inr none), _ => rfl
  | .inr (.inr (some m)), w => exact congrArg Value.ref (e m w)
theorem Ws.trs {h : Hp} {ρ ρ' : Nm → Nat} {st : List PV} (w : Ws h st) (e : ∀ n, h n ≠ none → ρ' n = ρ n) : st.map (tr ρ') = st.map (tr ρ) :=
  List.map_congr_left fun v hv => trx (w v hv) e
theorem Ws.mono {h h' : Hp} {st : List PV} (w : Ws h st) (e : ∀ n, h n ≠ none → h' n ≠ none) : Ws h' st := fun v hv => (w v hv).mono e
theorem Ws.nil {h : Hp} : Ws h [] := fun v hv => by cases hv
theorem Ws.cons {h : Hp} {v : PV} {st : List PV} (a : wfv h v) (w : Ws h st) : Ws h (v :: st) := fun x hx => by
  rcases List.mem_cons.mp hx with rfl | hx
  · exact a
  · exact w x hx
theorem Ws.hd {h : Hp} {v : PV} {st : List PV} (w : Ws h (v :: st)) : wfv h v := w v List.mem_cons_self
theorem Ws.tl {h : Hp} {v : PV} {st : List PV} (w : Ws h (v :: st)) : Ws h st := fun x hx => w x (List.mem_cons_of_mem _ hx)
theorem Ws.app {h : Hp} {a b : List PV} (wa : Ws h a) (wb : Ws h b) : Ws h (a ++ b) := fun x hx => by
  rcases List.mem_append.mp hx with q | q
  · exact wa x q
  · exact wb x q
theorem Ws.left {h : Hp} {a b : List PV} (w : Ws h (a ++ b)) : Ws h a := fun x hx => w x (List.mem_append_left _ hx)
theorem Ws.right {h : Hp} {a b : List PV} (w : Ws h (a ++ b)) : Ws h b := fun x hx => w x (List.mem_append_right _ hx)
theorem Ws.rev {h : Hp} {a : List PV} (w : Ws h a.reverse) : Ws h a := fun x hx => w x (List.mem_reverse.mpr hx)
end
section
/-- a method: its name, its bytes, its locals, its answer's type -/
abbrev MD : Type := MethodName × ByteArray × Nat × Option FieldType
def Dc (M : MD) (pc : Nat) (i : Instr) (len pc' : Nat) : Prop := decode M.2.1 pc = .ok (i, len) ∧ pc + len = pc'
def Db (M : MD) (pc : Nat) (i : Int → Instr) (tgt pc' : Nat) : Prop := ∃ off : Int, decode M.2.1 pc = .ok (i off, 3) ∧ (pc : Int) + off = (tgt : Int) ∧ pc + 3 = pc'
def isL : PV → Bool
  | .inr (.inl _) => true
  | _ => false
theorem cat1 {ρ : Nm → Nat} {v : PV} (h : isL v = false) : (tr ρ v).category = 1 := by
  match v, h with
  | .inl _, _ => rfl
  | .inr (.inr none), _ => rfl
  | .inr (.inr (some _)), _ => rfl
/-- the locals -/
def Lo (nL : Nat) (ρ : Nm → Nat) (h : Hp) (ls : Array Slot) (lv : List (Option PV)) : Prop :=
  ls.size = nL ∧ lv_wf ls ∧ ∀ (k : Nat) (v : PV), lv[k]? = some (some v) → ls[k]? = some (.val (tr ρ v)) ∧ wfv h v ∧ isL v = false
def lset : List (Option PV) → Nat → PV → List (Option PV)
  | [], _, _ => []
  | _ :: l, 0, v => some v :: l
  | a :: l, k + 1, v => a :: lset l k v
theorem lset_get (l : List (Option PV)) (k j : Nat) (v : PV) : (lset l k v)[j]? = if j = k then (l[j]?).map (fun _ => some v) else l[j]? := by
  induction l generalizing k j with
  | nil => simp [lset]
  | cons a l ih =>
    cases k with
    | zero =>
      cases j with
      | zero => simp [lset]
      | succ j => simp [lset]
    | succ k =>
      cases j with
      | zero => simp [lset]
      | succ j => simp [lset, ih]
def loL (ρ : Nm → Nat) (lv : List (Option PV)) : List (Nat × Value) := (List.range lv.length).filterMap fun k => match lv[k]? with
  | some (some v) => some (k, tr ρ v)
  | _ => none
theorem Lo.has {nL : Nat} {ρ : Nm → Nat} {h : Hp} {ls : Array Slot} {lv : List (Option PV)} (H : Lo nL ρ h ls lv) : lv_has ls nL (loL ρ lv) := by
  refine ⟨H.1, H.2.1, fun q hq => ?_⟩
  obtain ⟨k, -, hk⟩ := List.mem_filterMap.mp hq
  cases hv : lv[k]? with
  | none => rw [hv] at hk; cases hk
  | some o =>
    cases o with
    | none => rw [hv] at hk; cases hk
    | some v =>
      rw [hv] at hk
      cases hk
      exact (H.2.2 k v hv).1
theorem loL_mem {ρ : Nm → Nat} {lv : List (Option PV)} {k : Nat} {v : PV} (h : lv[k]? = some (some v)) : (k, tr ρ v) ∈ loL ρ lv := by
  refine List.mem_filterMap.mpr ⟨k, List.mem_range.mpr (List.getElem?_eq_some_iff.mp h).1, ?_⟩
  rw [h]
theorem Lo.st {nL : Nat} {ρ : Nm → Nat} {h : Hp} {ls ls' : Array Slot} {lv : List (Option PV)} {i : Nat} {x : PV} (H : Lo nL ρ h ls lv) (hx : wfv h x) (hl : isL x = false)
    (H' : lv_has ls' nL ((i, tr ρ x) :: (loL ρ lv).filter (fun q => !(q.1 == i) && !(q.1 + 1 == i && q.2.category == 2)))) : Lo nL ρ h ls' (lset lv i x) := by
  refine ⟨H'.1, H'.2.1, fun k v hk => ?_⟩
  rw [lset_get] at hk
  by_cases e : k = i
  · subst e
    rw [if_pos rfl] at hk
    cases hv : lv[k]? with
    | none => rw [hv] at hk; cases hk
    | some o =>
      rw [hv] at hk
      cases hk
      exact ⟨H'.2.2 (k, tr ρ x) List.mem_cons_self, hx, hl⟩
  · rw [if_neg e] at hk
    obtain ⟨-, h2, h3⟩ := H.2.2 k v hk
    refine ⟨H'.2.2 (k, tr ρ v) (List.mem_cons_of_mem _ (List.mem_filter.mpr ⟨loL_mem hk, ?_⟩)), h2, h3⟩
    have hc : (tr ρ v).category = 1 := cat1 h3
    simp [e, hc]
theorem Lo.mono {nL : Nat} {ρ ρ' : Nm → Nat} {h h' : Hp} {ls : Array Slot} {lv : List (Option PV)} (H : Lo nL ρ h ls lv) (e : ∀ n, h n ≠ none → h' n ≠ none ∧ ρ' n = ρ n) : Lo nL ρ' h' ls lv := by
  refine ⟨H.1, H.2.1, fun k v hk => ?_⟩
  obtain ⟨h1, h2, h3⟩ := H.2.2 k v hk
  exact ⟨by rw [trx h2 fun n hn => (e n hn).2]; exact h1, h2.mono fun n hn => (e n hn).1, h3⟩
/-- what is known while a method runs -/
def Cx (M : MD) (lvl mc ms : Nat) (p : Program) (R : Room) (s : State) (m : MethodId) (args : Array Value) (meth : Method) (c : Code) (g : Gl) : Prop :=
  p.tables.exec = Jvm.exec ∧ c.code = M.2.1 ∧ c.maxLocals = M.2.2.1 ∧ s.vm.findClass M.1.cls = some m.cls ∧ (∀ w ∈ TB, w.before args s = true) ∧ KB g s ∧ meth.name = M.1.name ∧ (lvl ≤ R.frames ∧ 40 * lvl ≤ R.locals) ∧ mc ≤ R.cells ∧ ms ≤ R.slots
def rOK (ty : Option FieldType) (i : Instr) (v : Option PV) : Prop :=
  (i = .ireturn ∧ ∃ x, v = some (vI x) ∧ (ty = some .int ∨ (ty = some .boolean ∧ (x = 0 ∨ x = 1)))) ∨
  (i = .areturn ∧ ∃ o, v = some (vO o) ∧ ∃ rt, ty = some rt ∧ ((∃ n, rt = .object n) ∨ ∃ t, rt = .array t)) ∨ (i = .return_ ∧ v = none ∧ ty = none)
def Kp (D0 : Nm → Prop) (ρ0 : Nm → Nat) (h : Hp) (ρ : Nm → Nat) : Prop := ∀ n, D0 n → h n ≠ none ∧ ρ n = ρ0 n
def RetOK (M : MD) (mc ms : Nat) (Q : Option PV → Hp → Prop) (p : Program) (l : Launch) (e : Env) (R : Room) (s : State) (m : MethodId) (args : Array Value) (below : List Frame) (meth : Method) (c : Code) (g : Gl) (Qf : State → Prop) (D0 : Nm → Prop) (ρ0 : Nm → Nat) : Prop :=
  ∀ (ri : Instr) (v : Option PV) (ρ : Nm → Nat) (h : Hp) (H : Heap) (locs : List Loc) (pc : Nat) (ls : Array Slot), rOK M.2.2.2 ri v → decode M.2.1 pc = .ok (ri, 1) → Kp D0 ρ0 h ρ → Wd g ρ h s H → (∀ w, v = some w → wfv h w) → (∀ q ∈ locs, gz g ≤ q.base) → Q v h →
    W p l e R s m args below meth c H locs mc ms Qf (F0 m pc ls (v.map (tr ρ)).toList)
/-- from here the method comes to its end, with Q of its answer and the heap -/
def S (M : MD) (lvl mc ms : Nat) (Q : Option PV → Hp → Prop) (pc : Nat) (lv : List (Option PV)) (st : List PV) (h : Hp) (k n : Nat) : Prop :=
  ∀ (p : Program) (l : Launch) (e : Env) (R : Room) (s : State) (m : MethodId) (args : Array Value) (below : List Frame) (meth : Method) (c : Code) (g : Gl) (Qf : State → Prop) (D0 : Nm → Prop) (ρ0 : Nm → Nat),
    Cx M lvl mc ms p R s m args meth c g → RetOK M mc ms Q p l e R s m args below meth c g Qf D0 ρ0 →
    ∀ (ρ : Nm → Nat) (ls : Array Slot) (H : Heap) (locs : List Loc), Kp D0 ρ0 h ρ → Lo M.2.2.1 ρ h ls lv → Ws h st → Wd g ρ h s H → (∀ q ∈ locs, gz g ≤ q.base) →
    W p l e R s m args below meth c H locs k n Qf (F0 m pc ls (st.map (tr ρ)))
section SR
variable {M : MD} {lvl mc ms : Nat} {Q : Option PV → Hp → Prop} {pc pc' tgt : Nat} {lv : List (Option PV)} {st : List PV} {h : Hp} {k n : Nat}
theorem s_iload {i : Nat} {x : Int32} (d : Dc M pc (.iload i) 2 pc') (hl : lv[i]? = some (some (vI x))) (kk : S M lvl mc ms Q pc' lv (vI x :: st) h k n) : S M lvl mc ms Q pc lv st h k n := by
  intro p l e R s m args below meth c g Qf D0 ρ0 C hR ρ ls H locs hK hL hW hw hlo
  obtain ⟨d, rfl⟩ := d
  exact lv_iload C.1 C.2.1 d (hL.2.2 _ _ hl).1 (kk p l e R s m args below meth c g Qf D0 ρ0 C hR ρ ls H locs hK hL (hW.cons trivial) hw hlo)
theorem s_iload_n {j : Fin 4} {i : Nat} {x : Int32} (d : Dc M pc (.iload_n j) 1 pc') (hi : (j : Nat) = i) (hl : lv[i]? = some (some (vI x))) (kk : S M lvl mc ms Q pc' lv (vI x :: st) h k n) : S M lvl mc ms Q pc lv st h k n := by
  intro p l e R s m args below meth c g Qf D0 ρ0 C hR ρ ls H locs hK hL hW hw hlo
  obtain ⟨d, rfl⟩ := d
  exact lv_iload_n C.1 C.2.1 d hi (hL.2.2 _ _ hl).1 (kk p l e R s m args below meth c g Qf D0 ρ0 C hR ρ ls H locs hK hL (hW.cons trivial) hw hlo)
theorem s_aload {i : Nat} {o : Option Nm} (d : Dc M pc (.aload i) 2 pc') (hl : lv[i]? = some (some (vO o))) (kk : S M lvl mc ms Q pc' lv (vO o :: st) h k n) : S M lvl mc ms Q pc lv st h k n := by
  intro p l e R s m args below meth c g Qf D0 ρ0 C hR ρ ls H locs hK hL hW hw hlo
  obtain ⟨d, rfl⟩ := d
  obtain ⟨h1, h2, -⟩ := hL.2.2 _ _ hl
  have k1 := kk p l e R s m args below meth c g Qf D0 ρ0 C hR ρ ls H locs hK hL (hW.cons h2) hw hlo
  cases o with
  | none => exact lv_aloadN C.1 C.2.1 d h1 k1
  | some a => exact lv_aload C.1 C.2.1 d h1 k1
theorem s_aload_n {j : Fin 4} {i : Nat} {o : Option Nm} (d : Dc M pc (.aload_n j) 1 pc') (hi : (j : Nat) = i) (hl : lv[i]? = some (some (vO o))) (kk : S M lvl mc ms Q pc' lv (vO o :: st) h k n) : S M lvl mc ms Q pc lv st h k n := by
  intro p l e R s m args below meth c g Qf D0 ρ0 C hR ρ ls H locs hK hL hW hw hlo
  obtain ⟨d, rfl⟩ := d
  obtain ⟨h1, h2, -⟩ := hL.2.2 _ _ hl
  have k1 := kk p l e R s m args below meth c g Qf D0 ρ0 C hR ρ ls H locs hK hL (hW.cons h2) hw hlo
  cases o with
  | none => exact lv_aload_nN C.1 C.2.1 d hi h1 k1
  | some a => exact lv_aload_n C.1 C.2.1 d hi h1 k1
theorem s_istore {i : Nat} {x : Int32} (d : Dc M pc (.istore i) 2 pc') (hi : Nat.blt i M.2.2.1 = true) (kk : S M lvl mc ms Q pc' (lset lv i (vI x)) st h k n) : S M lvl mc ms Q pc lv (vI x :: st) h k n := by
  intro p l e R s m args below meth c g Qf D0 ρ0 C hR ρ ls H locs hK hL hW hw hlo
  obtain ⟨d, rfl⟩ := d
  exact lv_istore C.1 C.2.1 d hL.has (Nat.le_of_ble_eq_true hi) rfl (fun ls' hl' => kk p l e R s m args below meth c g Qf D0 ρ0 C hR ρ ls' H locs hK (hL.st (x := vI x) trivial rfl hl') hW.tl hw hlo)
theorem s_istore_n {j : Fin 4} {i : Nat} {x : Int32} (d : Dc M pc (.istore_n j) 1 pc') (hj : (j : Nat) = i) (hi : Nat.blt i M.2.2.1 = true) (kk : S M lvl mc ms Q pc' (lset lv i (vI x)) st h k n) : S M lvl mc ms Q pc lv (vI x :: st) h k n := by
  intro p l e R s m args below meth c g Qf D0 ρ0 C hR ρ ls H locs hK hL hW hw hlo
  obtain ⟨d, rfl⟩ := d
  exact lv_istore_n C.1 C.2.1 d hj hL.has (Nat.le_of_ble_eq_true hi) rfl (fun ls' hl' => kk p l e R s m args below meth c g Qf D0 ρ0 C hR ρ ls' H locs hK (hL.st (x := vI x) trivial rfl hl') hW.tl hw hlo)
theorem s_astore {i : Nat} {o : Option Nm} (d : Dc M pc (.astore i) 2 pc') (hi : Nat.blt i M.2.2.1 = true) (kk : S M lvl mc ms Q pc' (lset lv i (vO o)) st h k n) : S M lvl mc ms Q pc lv (vO o :: st) h k n := by
  intro p l e R s m args below meth c g Qf D0 ρ0 C hR ρ ls H locs hK hL hW hw hlo
  obtain ⟨d, rfl⟩ := d
  cases o with
  | none => exact lv_astoreN C.1 C.2.1 d hL.has (Nat.le_of_ble_eq_true hi) rfl (fun ls' hl' => kk p l e R s m args below meth c g Qf D0 ρ0 C hR ρ ls' H locs hK (hL.st (x := vO none) hW.hd rfl hl') hW.tl hw hlo)
  | some a => exact lv_astore C.1 C.2.1 d hL.has (Nat.le_of_ble_eq_true hi) rfl (fun ls' hl' => kk p l e R s m args below meth c g Qf D0 ρ0 C hR ρ ls' H locs hK (hL.st (x := vO (some a)) hW.hd rfl hl') hW.tl hw hlo)
theorem s_astore_n {j : Fin 4} {i : Nat} {o : Option Nm} (d : Dc M pc (.astore_n j) 1 pc') (hj : (j : Nat) = i) (hi : Nat.blt i M.2.2.1 = true) (kk : S M lvl mc ms Q pc' (lset lv i (vO o)) st h k n) : S M lvl mc ms Q pc lv (vO o :: st) h k n := by
  intro p l e R s m args below meth c g Qf D0 ρ0 C hR ρ ls H locs hK hL hW hw hlo
  obtain ⟨d, rfl⟩ := d
  cases o with
  | none => exact lv_astore_nN C.1 C.2.1 d hj hL.has (Nat.le_of_ble_eq_true hi) rfl (fun ls' hl' => kk p l e R s m args below meth c g Qf D0 ρ0 C hR ρ ls' H locs hK (hL.st (x := vO none) hW.hd rfl hl') hW.tl hw hlo)
  | some a => exact lv_astore_n C.1 C.2.1 d hj hL.has (Nat.le_of_ble_eq_true hi) rfl (fun ls' hl' => kk p l e R s m args below meth c g Qf D0 ρ0 C hR ρ ls' H locs hK (hL.st (x := vO (some a)) hW.hd rfl hl') hW.tl hw hlo)
theorem s_iinc {i : Nat} {z : Int} {x : Int32} (d : Dc M pc (.iinc i z) 3 pc') (hl : lv[i]? = some (some (vI x))) (hi : Nat.blt i M.2.2.1 = true) (kk : S M lvl mc ms Q pc' (lset lv i (vI (x + Int32.ofInt z))) st h k n) : S M lvl mc ms Q pc lv st h k n := by
  intro p l e R s m args below meth c g Qf D0 ρ0 C hR ρ ls H locs hK hL hW hw hlo
  obtain ⟨d, rfl⟩ := d
  obtain ⟨q, hq⟩ := List.getElem?_of_mem (loL_mem (ρ := ρ) hl)
  exact lv_iinc C.1 C.2.1 d hL.has hq rfl (Nat.le_of_ble_eq_true hi) rfl (fun ls' hl' => kk p l e R s m args below meth c g Qf D0 ρ0 C hR ρ ls' H locs hK (hL.st (x := vI (x + Int32.ofInt z)) trivial rfl hl') hW hw hlo)
theorem s_iconst {z : Int} {v : Int32} (d : Dc M pc (.iconst z) 1 pc') (hv : Int32.ofInt z = v) (kk : S M lvl mc ms Q pc' lv (vI v :: st) h k n) : S M lvl mc ms Q pc lv st h k n := by
  intro p l e R s m args below meth c g Qf D0 ρ0 C hR ρ ls H locs hK hL hW hw hlo
  obtain ⟨d, rfl⟩ := d
  exact lv_iconst C.1 C.2.1 d hv (kk p l e R s m args below meth c g Qf D0 ρ0 C hR ρ ls H locs hK hL (hW.cons trivial) hw hlo)
theorem s_bipush {z : Int} {v : Int32} (d : Dc M pc (.bipush z) 2 pc') (hv : (Int8.ofInt z).toInt32 = v) (kk : S M lvl mc ms Q pc' lv (vI v :: st) h k n) : S M lvl mc ms Q pc lv st h k n := by
  intro p l e R s m args below meth c g Qf D0 ρ0 C hR ρ ls H locs hK hL hW hw hlo
  obtain ⟨d, rfl⟩ := d
  exact lv_bipush C.1 C.2.1 d hv (kk p l e R s m args below meth c g Qf D0 ρ0 C hR ρ ls H locs hK hL (hW.cons trivial) hw hlo)
theorem s_sipush {z : Int} {v : Int32} (d : Dc M pc (.sipush z) 3 pc') (hv : (Int16.ofInt z).toInt32 = v) (kk : S M lvl mc ms Q pc' lv (vI v :: st) h k n) : S M lvl mc ms Q pc lv st h k n := by
  intro p l e R s m args below meth c g Qf D0 ρ0 C hR ρ ls H locs hK hL hW hw hlo
  obtain ⟨d, rfl⟩ := d
  exact lv_sipush C.1 C.2.1 d hv (kk p l e R s m args below meth c g Qf D0 ρ0 C hR ρ ls H locs hK hL (hW.cons trivial) hw hlo)
theorem s_lconst {z : Fin 2} {v : Int64} (d : Dc M pc (.lconst z) 1 pc') (hv : Int64.ofNat (z : Nat) = v) (kk : S M lvl mc ms Q pc' lv (vL v :: st) h k n) : S M lvl mc ms Q pc lv st h k n := by
  intro p l e R s m args below meth c g Qf D0 ρ0 C hR ρ ls H locs hK hL hW hw hlo
  obtain ⟨d, rfl⟩ := d
  exact lv_lconst C.1 C.2.1 d hv (kk p l e R s m args below meth c g Qf D0 ρ0 C hR ρ ls H locs hK hL (hW.cons trivial) hw hlo)
theorem s_null (d : Dc M pc .aconst_null 1 pc') (kk : S M lvl mc ms Q pc' lv (vN :: st) h k n) : S M lvl mc ms Q pc lv st h k n := by
  intro p l e R s m args below meth c g Qf D0 ρ0 C hR ρ ls H locs hK hL hW hw hlo
  obtain ⟨d, rfl⟩ := d
  exact lv_null C.1 C.2.1 d (kk p l e R s m args below meth c g Qf D0 ρ0 C hR ρ ls H locs hK hL (hW.cons trivial) hw hlo)
theorem s_iadd {x y : Int32} (d : Dc M pc .iadd 1 pc')  (kk : S M lvl mc ms Q pc' lv (vI (x + y) :: st) h k n) : S M lvl mc ms Q pc lv (vI y :: vI x :: st) h k n := by
  intro p l e R s m args below meth c g Qf D0 ρ0 C hR ρ ls H locs hK hL hW hw hlo
  obtain ⟨d, rfl⟩ := d
  exact lv_iadd C.1 C.2.1 d  (kk p l e R s m args below meth c g Qf D0 ρ0 C hR ρ ls H locs hK hL (hW.tl.tl.cons trivial) hw hlo)
theorem s_isub {x y : Int32} (d : Dc M pc .isub 1 pc')  (kk : S M lvl mc ms Q pc' lv (vI (x - y) :: st) h k n) : S M lvl mc ms Q pc lv (vI y :: vI x :: st) h k n := by
  intro p l e R s m args below meth c g Qf D0 ρ0 C hR ρ ls H locs hK hL hW hw hlo
  obtain ⟨d, rfl⟩ := d
  exact lv_isub C.1 C.2.1 d  (kk p l e R s m args below meth c g Qf D0 ρ0 C hR ρ ls H locs hK hL (hW.tl.tl.cons trivial) hw hlo)
theorem s_imul {x y : Int32} (d : Dc M pc .imul 1 pc')  (kk : S M lvl mc ms Q pc' lv (vI (x * y) :: st) h k n) : S M lvl mc ms Q pc lv (vI y :: vI x :: st) h k n := by
  intro p l e R s m args below meth c g Qf D0 ρ0 C hR ρ ls H locs hK hL hW hw hlo
  obtain ⟨d, rfl⟩ := d
  exact lv_imul C.1 C.2.1 d  (kk p l e R s m args below meth c g Qf D0 ρ0 C hR ρ ls H locs hK hL (hW.tl.tl.cons trivial) hw hlo)
theorem s_iand {x y : Int32} (d : Dc M pc .iand 1 pc')  (kk : S M lvl mc ms Q pc' lv (vI (x &&& y) :: st) h k n) : S M lvl mc ms Q pc lv (vI y :: vI x :: st) h k n := by
  intro p l e R s m args below meth c g Qf D0 ρ0 C hR ρ ls H locs hK hL hW hw hlo
  obtain ⟨d, rfl⟩ := d
  exact lv_iand C.1 C.2.1 d  (kk p l e R s m args below meth c g Qf D0 ρ0 C hR ρ ls H locs hK hL (hW.tl.tl.cons trivial) hw hlo)
theorem s_ishr {x y : Int32} (d : Dc M pc .ishr 1 pc')  (kk : S M lvl mc ms Q pc' lv (vI (x >>> (y &&& 31)) :: st) h k n) : S M lvl mc ms Q pc lv (vI y :: vI x :: st) h k n := by
  intro p l e R s m args below meth c g Qf D0 ρ0 C hR ρ ls H locs hK hL hW hw hlo
  obtain ⟨d, rfl⟩ := d
  exact lv_ishr C.1 C.2.1 d  (kk p l e R s m args below meth c g Qf D0 ρ0 C hR ρ ls H locs hK hL (hW.tl.tl.cons trivial) hw hlo)
theorem s_idiv {x y : Int32} (d : Dc M pc .idiv 1 pc') (hy : ¬ y = 0) (kk : S M lvl mc ms Q pc' lv (vI (x / y) :: st) h k n) : S M lvl mc ms Q pc lv (vI y :: vI x :: st) h k n := by
  intro p l e R s m args below meth c g Qf D0 ρ0 C hR ρ ls H locs hK hL hW hw hlo
  obtain ⟨d, rfl⟩ := d
  exact lv_idiv C.1 C.2.1 d hy (kk p l e R s m args below meth c g Qf D0 ρ0 C hR ρ ls H locs hK hL (hW.tl.tl.cons trivial) hw hlo)
theorem s_irem {x y : Int32} (d : Dc M pc .irem 1 pc') (hy : ¬ y = 0) (kk : S M lvl mc ms Q pc' lv (vI (x - x / y * y) :: st) h k n) : S M lvl mc ms Q pc lv (vI y :: vI x :: st) h k n := by
  intro p l e R s m args below meth c g Qf D0 ρ0 C hR ρ ls H locs hK hL hW hw hlo
  obtain ⟨d, rfl⟩ := d
  exact lv_irem C.1 C.2.1 d hy (kk p l e R s m args below meth c g Qf D0 ρ0 C hR ρ ls H locs hK hL (hW.tl.tl.cons trivial) hw hlo)
theorem s_lor {x y : Int64} (d : Dc M pc .lor 1 pc')  (kk : S M lvl mc ms Q pc' lv (vL (x ||| y) :: st) h k n) : S M lvl mc ms Q pc lv (vL y :: vL x :: st) h k n := by
  intro p l e R s m args below meth c g Qf D0 ρ0 C hR ρ ls H locs hK hL hW hw hlo
  obtain ⟨d, rfl⟩ := d
  exact lv_lor C.1 C.2.1 d  (kk p l e R s m args below meth c g Qf D0 ρ0 C hR ρ ls H locs hK hL (hW.tl.tl.cons trivial) hw hlo)
theorem s_land {x y : Int64} (d : Dc M pc .land 1 pc')  (kk : S M lvl mc ms Q pc' lv (vL (x &&& y) :: st) h k n) : S M lvl mc ms Q pc lv (vL y :: vL x :: st) h k n := by
  intro p l e R s m args below meth c g Qf D0 ρ0 C hR ρ ls H locs hK hL hW hw hlo
  obtain ⟨d, rfl⟩ := d
  exact lv_land C.1 C.2.1 d  (kk p l e R s m args below meth c g Qf D0 ρ0 C hR ρ ls H locs hK hL (hW.tl.tl.cons trivial) hw hlo)
theorem s_lshl {x : Int64} {y : Int32} (d : Dc M pc .lshl 1 pc') (kk : S M lvl mc ms Q pc' lv (vL (x <<< (y.toInt64 &&& 63)) :: st) h k n) : S M lvl mc ms Q pc lv (vI y :: vL x :: st) h k n := by
  intro p l e R s m args below meth c g Qf D0 ρ0 C hR ρ ls H locs hK hL hW hw hlo
  obtain ⟨d, rfl⟩ := d
  exact lv_lshl C.1 C.2.1 d rfl (kk p l e R s m args below meth c g Qf D0 ρ0 C hR ρ ls H locs hK hL (hW.tl.tl.cons trivial) hw hlo)
theorem s_lshr {x : Int64} {y : Int32} (d : Dc M pc .lshr 1 pc') (kk : S M lvl mc ms Q pc' lv (vL (x >>> (y.toInt64 &&& 63)) :: st) h k n) : S M lvl mc ms Q pc lv (vI y :: vL x :: st) h k n := by
  intro p l e R s m args below meth c g Qf D0 ρ0 C hR ρ ls H locs hK hL hW hw hlo
  obtain ⟨d, rfl⟩ := d
  exact lv_lshr C.1 C.2.1 d rfl (kk p l e R s m args below meth c g Qf D0 ρ0 C hR ρ ls H locs hK hL (hW.tl.tl.cons trivial) hw hlo)
theorem s_lcmp {x y : Int64} (d : Dc M pc .lcmp 1 pc') (kk : S M lvl mc ms Q pc' lv (vI (lg_cmp x y) :: st) h k n) : S M lvl mc ms Q pc lv (vL y :: vL x :: st) h k n := by
  intro p l e R s m args below meth c g Qf D0 ρ0 C hR ρ ls H locs hK hL hW hw hlo
  obtain ⟨d, rfl⟩ := d
  exact W.lcmp C.1 C.2.1 d (kk p l e R s m args below meth c g Qf D0 ρ0 C hR ρ ls H locs hK hL (hW.tl.tl.cons trivial) hw hlo)
theorem s_dup {v : PV} (d : Dc M pc .dup 1 pc') (hv : isL v = false) (kk : S M lvl mc ms Q pc' lv (v :: v :: st) h k n) : S M lvl mc ms Q pc lv (v :: st) h k n := by
  intro p l e R s m args below meth c g Qf D0 ρ0 C hR ρ ls H locs hK hL hW hw hlo
  obtain ⟨d, rfl⟩ := d
  exact lv_dup C.1 C.2.1 d (cat1 hv) (kk p l e R s m args below meth c g Qf D0 ρ0 C hR ρ ls H locs hK hL (hW.cons hW.hd) hw hlo)
theorem s_pop {v : PV} (d : Dc M pc .pop 1 pc') (hv : isL v = false) (kk : S M lvl mc ms Q pc' lv st h k n) : S M lvl mc ms Q pc lv (v :: st) h k n := by
  intro p l e R s m args below meth c g Qf D0 ρ0 C hR ρ ls H locs hK hL hW hw hlo
  obtain ⟨d, rfl⟩ := d
  exact lv_pop C.1 C.2.1 d (cat1 hv) (kk p l e R s m args below meth c g Qf D0 ρ0 C hR ρ ls H locs hK hL hW.tl hw hlo)
theorem s_dup_x1 {v w : PV} (d : Dc M pc .dup_x1 1 pc') (hv : isL v = false) (hu : isL w = false) (kk : S M lvl mc ms Q pc' lv (v :: w :: v :: st) h k n) : S M lvl mc ms Q pc lv (v :: w :: st) h k n := by
  intro p l e R s m args below meth c g Qf D0 ρ0 C hR ρ ls H locs hK hL hW hw hlo
  obtain ⟨d, rfl⟩ := d
  exact lv_dup_x1 C.1 C.2.1 d (cat1 hv) (cat1 hu) (kk p l e R s m args below meth c g Qf D0 ρ0 C hR ρ ls H locs hK hL (((hW.tl.tl.cons hW.hd).cons hW.tl.hd).cons hW.hd) hw hlo)
theorem s_dup2 {v w : PV} (d : Dc M pc .dup2 1 pc') (hv : isL v = false) (hu : isL w = false) (kk : S M lvl mc ms Q pc' lv (v :: w :: v :: w :: st) h k n) : S M lvl mc ms Q pc lv (v :: w :: st) h k n := by
  intro p l e R s m args below meth c g Qf D0 ρ0 C hR ρ ls H locs hK hL hW hw hlo
  obtain ⟨d, rfl⟩ := d
  exact lv_dup2_11 C.1 C.2.1 d (cat1 hv) (cat1 hu) (kk p l e R s m args below meth c g Qf D0 ρ0 C hR ρ ls H locs hK hL ((hW.cons hW.tl.hd).cons hW.hd) hw hlo)
theorem s_icmp_eq {x y : Int32} (d : Db M pc (.if_icmp .eq) tgt pc') (kt : x = y → S M lvl mc ms Q tgt lv st h k n) (kf : ¬ x = y → S M lvl mc ms Q pc' lv st h k n) : S M lvl mc ms Q pc lv (vI y :: vI x :: st) h k n := by
  intro p l e R s m args below meth c g Qf D0 ρ0 C hR ρ ls H locs hK hL hW hw hlo
  obtain ⟨off, d, ht, rfl⟩ := d
  exact lv_icmp_eq C.1 C.2.1 d ht (fun q => kt q p l e R s m args below meth c g Qf D0 ρ0 C hR ρ ls H locs hK hL hW.tl.tl hw hlo) (fun q => kf q p l e R s m args below meth c g Qf D0 ρ0 C hR ρ ls H locs hK hL hW.tl.tl hw hlo)
theorem s_if_eq {x : Int32} (d : Db M pc (.ifCond .eq) tgt pc') (kt : x = 0 → S M lvl mc ms Q tgt lv st h k n) (kf : ¬ x = 0 → S M lvl mc ms Q pc' lv st h k n) : S M lvl mc ms Q pc lv (vI x :: st) h k n := by
  intro p l e R s m args below meth c g Qf D0 ρ0 C hR ρ ls H locs hK hL hW hw hlo
  obtain ⟨off, d, ht, rfl⟩ := d
  exact lv_if_eq C.1 C.2.1 d ht (fun q => kt q p l e R s m args below meth c g Qf D0 ρ0 C hR ρ ls H locs hK hL hW.tl hw hlo) (fun q => kf q p l e R s m args below meth c g Qf D0 ρ0 C hR ρ ls H locs hK hL hW.tl hw hlo)
theorem s_icmp_ne {x y : Int32} (d : Db M pc (.if_icmp .ne) tgt pc') (kt : ¬ x = y → S M lvl mc ms Q tgt lv st h k n) (kf : x = y → S M lvl mc ms Q pc' lv st h k n) : S M lvl mc ms Q pc lv (vI y :: vI x :: st) h k n := by
  intro p l e R s m args below meth c g Qf D0 ρ0 C hR ρ ls H locs hK hL hW hw hlo
  obtain ⟨off, d, ht, rfl⟩ := d
  exact lv_icmp_ne C.1 C.2.1 d ht (fun q => kt q p l e R s m args below meth c g Qf D0 ρ0 C hR ρ ls H locs hK hL hW.tl.tl hw hlo) (fun q => kf q p l e R s m args below meth c g Qf D0 ρ0 C hR ρ ls H locs hK hL hW.tl.tl hw hlo)
theorem s_if_ne {x : Int32} (d : Db M pc (.ifCond .ne) tgt pc') (kt : ¬ x = 0 → S M lvl mc ms Q tgt lv st h k n) (kf : x = 0 → S M lvl mc ms Q pc' lv st h k n) : S M lvl mc ms Q pc lv (vI x :: st) h k n := by
  intro p l e R s m args below meth c g Qf D0 ρ0 C hR ρ ls H locs hK hL hW hw hlo
  obtain ⟨off, d, ht, rfl⟩ := d
  exact lv_if_ne C.1 C.2.1 d ht (fun q => kt q p l e R s m args below meth c g Qf D0 ρ0 C hR ρ ls H locs hK hL hW.tl hw hlo) (fun q => kf q p l e R s m args below meth c g Qf D0 ρ0 C hR ρ ls H locs hK hL hW.tl hw hlo)
theorem s_icmp_lt {x y : Int32} (d : Db M pc (.if_icmp .lt) tgt pc') (kt : x < y → S M lvl mc ms Q tgt lv st h k n) (kf : ¬ x < y → S M lvl mc ms Q pc' lv st h k n) : S M lvl mc ms Q pc lv (vI y :: vI x :: st) h k n := by
  intro p l e R s m args below meth c g Qf D0 ρ0 C hR ρ ls H locs hK hL hW hw hlo
  obtain ⟨off, d, ht, rfl⟩ := d
  exact lv_icmp_lt C.1 C.2.1 d ht (fun q => kt q p l e R s m args below meth c g Qf D0 ρ0 C hR ρ ls H locs hK hL hW.tl.tl hw hlo) (fun q => kf q p l e R s m args below meth c g Qf D0 ρ0 C hR ρ ls H locs hK hL hW.tl.tl hw hlo)
theorem s_if_lt {x : Int32} (d : Db M pc (.ifCond .lt) tgt pc') (kt : x < 0 → S M lvl mc ms Q tgt lv st h k n) (kf : ¬ x < 0 → S M lvl mc ms Q pc' lv st h k n) : S M lvl mc ms Q pc lv (vI x :: st) h k n := by
  intro p l e R s m args below meth c g Qf D0 ρ0 C hR ρ ls H locs hK hL hW hw hlo
  obtain ⟨off, d, ht, rfl⟩ := d
  exact lv_if_lt C.1 C.2.1 d ht (fun q => kt q p l e R s m args below meth c g Qf D0 ρ0 C hR ρ ls H locs hK hL hW.tl hw hlo) (fun q => kf q p l e R s m args below meth c g Qf D0 ρ0 C hR ρ ls H locs hK hL hW.tl hw hlo)
theorem s_icmp_ge {x y : Int32} (d : Db M pc (.if_icmp .ge) tgt pc') (kt : y ≤ x → S M lvl mc ms Q tgt lv st h k n) (kf : ¬ y ≤ x → S M lvl mc ms Q pc' lv st h k n) : S M lvl mc ms Q pc lv (vI y :: vI x :: st) h k n := by
  intro p l e R s m args below meth c g Qf D0 ρ0 C hR ρ ls H locs hK hL hW hw hlo
  obtain ⟨off, d, ht, rfl⟩ := d
  exact lv_icmp_ge C.1 C.2.1 d ht (fun q => kt q p l e R s m args below meth c g Qf D0 ρ0 C hR ρ ls H locs hK hL hW.tl.tl hw hlo) (fun q => kf q p l e R s m args below meth c g Qf D0 ρ0 C hR ρ ls H locs hK hL hW.tl.tl hw hlo)
theorem s_if_ge {x : Int32} (d : Db M pc (.ifCond .ge) tgt pc') (kt : 0 ≤ x → S M lvl mc ms Q tgt lv st h k n) (kf : ¬ 0 ≤ x → S M lvl mc ms Q pc' lv st h k n) : S M lvl mc ms Q pc lv (vI x :: st) h k n := by
  intro p l e R s m args below meth c g Qf D0 ρ0 C hR ρ ls H locs hK hL hW hw hlo
  obtain ⟨off, d, ht, rfl⟩ := d
  exact lv_if_ge C.1 C.2.1 d ht (fun q => kt q p l e R s m args below meth c g Qf D0 ρ0 C hR ρ ls H locs hK hL hW.tl hw hlo) (fun q => kf q p l e R s m args below meth c g Qf D0 ρ0 C hR ρ ls H locs hK hL hW.tl hw hlo)
theorem s_icmp_gt {x y : Int32} (d : Db M pc (.if_icmp .gt) tgt pc') (kt : y < x → S M lvl mc ms Q tgt lv st h k n) (kf : ¬ y < x → S M lvl mc ms Q pc' lv st h k n) : S M lvl mc ms Q pc lv (vI y :: vI x :: st) h k n := by
  intro p l e R s m args below meth c g Qf D0 ρ0 C hR ρ ls H locs hK hL hW hw hlo
  obtain ⟨off, d, ht, rfl⟩ := d
  exact lv_icmp_gt C.1 C.2.1 d ht (fun q => kt q p l e R s m args below meth c g Qf D0 ρ0 C hR ρ ls H locs hK hL hW.tl.tl hw hlo) (fun q => kf q p l e R s m args below meth c g Qf D0 ρ0 C hR ρ ls H locs hK hL hW.tl.tl hw hlo)
theorem s_if_gt {x : Int32} (d : Db M pc (.ifCond .gt) tgt pc') (kt : 0 < x → S M lvl mc ms Q tgt lv st h k n) (kf : ¬ 0 < x → S M lvl mc ms Q pc' lv st h k n) : S M lvl mc ms Q pc lv (vI x :: st) h k n := by
  intro p l e R s m args below meth c g Qf D0 ρ0 C hR ρ ls H locs hK hL hW hw hlo
  obtain ⟨off, d, ht, rfl⟩ := d
  exact lv_if_gt C.1 C.2.1 d ht (fun q => kt q p l e R s m args below meth c g Qf D0 ρ0 C hR ρ ls H locs hK hL hW.tl hw hlo) (fun q => kf q p l e R s m args below meth c g Qf D0 ρ0 C hR ρ ls H locs hK hL hW.tl hw hlo)
theorem s_icmp_le {x y : Int32} (d : Db M pc (.if_icmp .le) tgt pc') (kt : x ≤ y → S M lvl mc ms Q tgt lv st h k n) (kf : ¬ x ≤ y → S M lvl mc ms Q pc' lv st h k n) : S M lvl mc ms Q pc lv (vI y :: vI x :: st) h k n := by
  intro p l e R s m args below meth c g Qf D0 ρ0 C hR ρ ls H locs hK hL hW hw hlo
  obtain ⟨off, d, ht, rfl⟩ := d
  exact lv_icmp_le C.1 C.2.1 d ht (fun q => kt q p l e R s m args below meth c g Qf D0 ρ0 C hR ρ ls H locs hK hL hW.tl.tl hw hlo) (fun q => kf q p l e R s m args below meth c g Qf D0 ρ0 C hR ρ ls H locs hK hL hW.tl.tl hw hlo)
theorem s_if_le {x : Int32} (d : Db M pc (.ifCond .le) tgt pc') (kt : x ≤ 0 → S M lvl mc ms Q tgt lv st h k n) (kf : ¬ x ≤ 0 → S M lvl mc ms Q pc' lv st h k n) : S M lvl mc ms Q pc lv (vI x :: st) h k n := by
  intro p l e R s m args below meth c g Qf D0 ρ0 C hR ρ ls H locs hK hL hW hw hlo
  obtain ⟨off, d, ht, rfl⟩ := d
  exact lv_if_le C.1 C.2.1 d ht (fun q => kt q p l e R s m args below meth c g Qf D0 ρ0 C hR ρ ls H locs hK hL hW.tl hw hlo) (fun q => kf q p l e R s m args below meth c g Qf D0 ρ0 C hR ρ ls H locs hK hL hW.tl hw hlo)
theorem s_goto (d : Db M pc .goto tgt pc') (kk : S M lvl mc ms Q tgt lv st h k n) : S M lvl mc ms Q pc lv st h k n := by
  intro p l e R s m args below meth c g Qf D0 ρ0 C hR ρ ls H locs hK hL hW hw hlo
  obtain ⟨off, d, ht, -⟩ := d
  exact lv_goto C.1 C.2.1 d ht (kk p l e R s m args below meth c g Qf D0 ρ0 C hR ρ ls H locs hK hL hW hw hlo)
theorem s_ifnull {o : Option Nm} (d : Db M pc .ifnull tgt pc') (kt : o = none → S M lvl mc ms Q tgt lv st h k n) (kf : (∃ a, o = some a) → S M lvl mc ms Q pc' lv st h k n) : S M lvl mc ms Q pc lv (vO o :: st) h k n := by
  intro p l e R s m args below meth c g Qf D0 ρ0 C hR ρ ls H locs hK hL hW hw hlo
  obtain ⟨off, d, ht, rfl⟩ := d
  cases o with
  | none => exact lv_ifnullN C.1 C.2.1 d ht (kt rfl p l e R s m args below meth c g Qf D0 ρ0 C hR ρ ls H locs hK hL hW.tl hw hlo)
  | some a => exact lv_ifnull C.1 C.2.1 d (kf ⟨a, rfl⟩ p l e R s m args below meth c g Qf D0 ρ0 C hR ρ ls H locs hK hL hW.tl hw hlo)
theorem s_ifnonnull {o : Option Nm} (d : Db M pc .ifnonnull tgt pc') (kt : (∃ a, o = some a) → S M lvl mc ms Q tgt lv st h k n) (kf : o = none → S M lvl mc ms Q pc' lv st h k n) : S M lvl mc ms Q pc lv (vO o :: st) h k n := by
  intro p l e R s m args below meth c g Qf D0 ρ0 C hR ρ ls H locs hK hL hW hw hlo
  obtain ⟨off, d, ht, rfl⟩ := d
  cases o with
  | none => exact lv_ifnonnullN C.1 C.2.1 d (kf rfl p l e R s m args below meth c g Qf D0 ρ0 C hR ρ ls H locs hK hL hW.tl hw hlo)
  | some a => exact lv_ifnonnull C.1 C.2.1 d ht (kt ⟨a, rfl⟩ p l e R s m args below meth c g Qf D0 ρ0 C hR ρ ls H locs hK hL hW.tl hw hlo)
theorem oinj {g : Gl} {ρ : Nm → Nat} {h : Hp} {U : State} {H : Heap} (w : Wd g ρ h U H) {a b : Option Nm} (ha : wfv h (vO a)) (hb : wfv h (vO b)) : a.map ρ = b.map ρ ↔ a = b := by
  cases a with
  | none => cases b <;> simp
  | some a =>
    cases b with
    | none => simp
    | some b =>
      simp only [Option.map_some, Option.some.injEq]
      exact ⟨fun e => w.2.1 a b ha hb e, fun e => by rw [e]⟩
theorem tr_o (ρ : Nm → Nat) (o : Option Nm) : tr ρ (vO o) = va_rf (o.map ρ) := by cases o <;> rfl
theorem s_acmp_eq {a b : Option Nm} (d : Db M pc (.if_acmp .eq) tgt pc') (kt : a = b → S M lvl mc ms Q tgt lv st h k n) (kf : ¬ a = b → S M lvl mc ms Q pc' lv st h k n) : S M lvl mc ms Q pc lv (vO b :: vO a :: st) h k n := by
  intro p l e R s m args below meth c g Qf D0 ρ0 C hR ρ ls H locs hK hL hW hw hlo
  obtain ⟨off, d, ht, rfl⟩ := d
  have ee := oinj hw hW.tl.hd hW.hd
  show W p l e R s m args below meth c H locs k n Qf (F0 m pc ls (tr ρ (vO b) :: tr ρ (vO a) :: st.map (tr ρ)))
  rw [tr_o, tr_o]
  exact lv_acmp_eq C.1 C.2.1 d ht (fun q => kt (ee.mp q) p l e R s m args below meth c g Qf D0 ρ0 C hR ρ ls H locs hK hL hW.tl.tl hw hlo) (fun q => kf (fun z => q (ee.mpr z)) p l e R s m args below meth c g Qf D0 ρ0 C hR ρ ls H locs hK hL hW.tl.tl hw hlo)
theorem s_acmp_ne {a b : Option Nm} (d : Db M pc (.if_acmp .ne) tgt pc') (kt : ¬ a = b → S M lvl mc ms Q tgt lv st h k n) (kf : a = b → S M lvl mc ms Q pc' lv st h k n) : S M lvl mc ms Q pc lv (vO b :: vO a :: st) h k n := by
  intro p l e R s m args below meth c g Qf D0 ρ0 C hR ρ ls H locs hK hL hW hw hlo
  obtain ⟨off, d, ht, rfl⟩ := d
  have ee := oinj hw hW.tl.hd hW.hd
  show W p l e R s m args below meth c H locs k n Qf (F0 m pc ls (tr ρ (vO b) :: tr ρ (vO a) :: st.map (tr ρ)))
  rw [tr_o, tr_o]
  exact lv_acmp_ne C.1 C.2.1 d ht (fun q => kt (fun z => q (ee.mpr z)) p l e R s m args below meth c g Qf D0 ρ0 C hR ρ ls H locs hK hL hW.tl.tl hw hlo) (fun q => kf (ee.mp q) p l e R s m args below meth c g Qf D0 ρ0 C hR ρ ls H locs hK hL hW.tl.tl hw hlo)
theorem s_tabIn {dflt lo hi : Int} {offs : Array Int} {len : Nat} {x : Int32} {off : Int} (d : Dc M pc (.tableswitch dflt lo hi offs) len pc') (h1 : ¬ x.toInt < lo) (h2 : ¬ hi < x.toInt) (ho : offs[(x.toInt - lo).toNat]? = some off) (ht : (pc : Int) + off = (tgt : Int)) (kk : S M lvl mc ms Q tgt lv st h k n) : S M lvl mc ms Q pc lv (vI x :: st) h k n := by
  intro p l e R s m args below meth c g Qf D0 ρ0 C hR ρ ls H locs hK hL hW hw hlo
  exact lv_tableIn C.1 C.2.1 d.1 h1 h2 ho ht (kk p l e R s m args below meth c g Qf D0 ρ0 C hR ρ ls H locs hK hL hW.tl hw hlo)
theorem s_tabOut {dflt lo hi : Int} {offs : Array Int} {len : Nat} {x : Int32} (d : Dc M pc (.tableswitch dflt lo hi offs) len pc') (h1 : x.toInt < lo ∨ hi < x.toInt) (ht : (pc : Int) + dflt = (tgt : Int)) (kk : S M lvl mc ms Q tgt lv st h k n) : S M lvl mc ms Q pc lv (vI x :: st) h k n := by
  intro p l e R s m args below meth c g Qf D0 ρ0 C hR ρ ls H locs hK hL hW hw hlo
  exact lv_tableOut C.1 C.2.1 d.1 h1 ht (kk p l e R s m args below meth c g Qf D0 ρ0 C hR ρ ls H locs hK hL hW.tl hw hlo)
theorem s_lookup {dflt : Int} {ps : Array (Int × Int)} {len : Nat} {x : Int32} {off : Int} (d : Dc M pc (.lookupswitch dflt ps) len pc') (hp : (ps.toList.zip (ps.toList.drop 1)).all (fun (a, next) => a.1 < next.1) = true) (ho : Op.lookupswitch.offset ps.toList dflt x.toInt = off) (ht : (pc : Int) + off = (tgt : Int)) (kk : S M lvl mc ms Q tgt lv st h k n) : S M lvl mc ms Q pc lv (vI x :: st) h k n := by
  intro p l e R s m args below meth c g Qf D0 ρ0 C hR ρ ls H locs hK hL hW hw hlo
  exact lv_lookup C.1 C.2.1 d.1 hp ho ht (kk p l e R s m args below meth c g Qf D0 ρ0 C hR ρ ls H locs hK hL hW.tl hw hlo)
theorem s_widen {k' n' : Nat} (h1 : k ≤ k') (h2 : n ≤ n') (kk : S M lvl mc ms Q pc lv st h k' n') : S M lvl mc ms Q pc lv st h k n := by
  intro p l e R s m args below meth c g Qf D0 ρ0 C hR ρ ls H locs hK hL hW hw hlo
  exact W.widen h1 h2 (kk p l e R s m args below meth c g Qf D0 ρ0 C hR ρ ls H locs hK hL hW hw hlo)
theorem s_iret {x : Int32} (d : Dc M pc .ireturn 1 pc') (hr : M.2.2.2 = some .int) (h1 : k ≤ mc) (h2 : n ≤ ms) (hq : Q (some (vI x)) h) : S M lvl mc ms Q pc lv [vI x] h k n := by
  intro p l e R s m args below meth c g Qf D0 ρ0 C hR ρ ls H locs hK hL hW hw hlo
  exact W.widen h1 h2 (hR .ireturn (some (vI x)) ρ h H locs pc ls (Or.inl ⟨rfl, x, rfl, Or.inl hr⟩) d.1 hK hw (fun w e => by cases e; trivial) hlo hq)
theorem s_zret {x : Int32} (d : Dc M pc .ireturn 1 pc') (hr : M.2.2.2 = some .boolean) (hx : x = 0 ∨ x = 1) (h1 : k ≤ mc) (h2 : n ≤ ms) (hq : Q (some (vI x)) h) : S M lvl mc ms Q pc lv [vI x] h k n := by
  intro p l e R s m args below meth c g Qf D0 ρ0 C hR ρ ls H locs hK hL hW hw hlo
  exact W.widen h1 h2 (hR .ireturn (some (vI x)) ρ h H locs pc ls (Or.inl ⟨rfl, x, rfl, Or.inr ⟨hr, hx⟩⟩) d.1 hK hw (fun w e => by cases e; trivial) hlo hq)
theorem s_aret {o : Option Nm} {rt : FieldType} (d : Dc M pc .areturn 1 pc') (hr : M.2.2.2 = some rt) (hrt : (∃ n, rt = .object n) ∨ ∃ t, rt = .array t) (h1 : k ≤ mc) (h2 : n ≤ ms) (hq : Q (some (vO o)) h) : S M lvl mc ms Q pc lv [vO o] h k n := by
  intro p l e R s m args below meth c g Qf D0 ρ0 C hR ρ ls H locs hK hL hW hw hlo
  exact W.widen h1 h2 (hR .areturn (some (vO o)) ρ h H locs pc ls (Or.inr (Or.inl ⟨rfl, o, rfl, rt, hr, hrt⟩)) d.1 hK hw (fun w e => by cases e; exact hW.hd) hlo hq)
theorem s_vret (d : Dc M pc .return_ 1 pc') (hr : M.2.2.2 = none) (h1 : k ≤ mc) (h2 : n ≤ ms) (hq : Q none h) : S M lvl mc ms Q pc lv [] h k n := by
  intro p l e R s m args below meth c g Qf D0 ρ0 C hR ρ ls H locs hK hL hW hw hlo
  exact W.widen h1 h2 (hR .return_ none ρ h H locs pc ls (Or.inr (Or.inr ⟨rfl, rfl, hr⟩)) d.1 hK hw (fun w e => by cases e) hlo hq)
end SR
end
section
theorem cOK.eq {g : Gl} {ρ ρ' : Nm → Nat} {H H' : Heap} {a : Nat} {c : PC} (hc : cOK g ρ H a c) (hH : H'[a]? = H[a]?) (hv : ∀ j, tr ρ' (c.2.2 j) = tr ρ (c.2.2 j)) : cOK g ρ' H' a c := by
  have e : (fun j => tr ρ' (c.2.2 j)) = (fun j => tr ρ (c.2.2 j)) := funext hv
  unfold cOK at hc ⊢
  rw [e]
  split at hc
  · rename_i h1
    rw [if_pos h1]
    exact hc.kept hH
  · rename_i h1
    rw [if_neg h1]
    split at hc
    · rename_i h2
      rw [if_pos h2, hH]
      exact hc
    · rename_i h2
      rw [if_neg h2]
      obtain ⟨cell, q1, q2, q3, q4, q5, q6⟩ := hc
      exact ⟨cell, by rw [hH]; exact q1, q2, q3, q4, q5, fun j hj => by rw [hv]; exact q6 j hj⟩
theorem cOK.lt {g : Gl} {ρ : Nm → Nat} {H : Heap} {a : Nat} {c : PC} (hc : cOK g ρ H a c) : a < H.size := by
  unfold cOK at hc
  split at hc
  · obtain ⟨cell, q, -⟩ := hc
    exact (Array.getElem?_eq_some_iff.mp q).1
  · split at hc
    · exact (Array.getElem?_eq_some_iff.mp hc).1
    · obtain ⟨cell, q, -⟩ := hc
      exact (Array.getElem?_eq_some_iff.mp q).1
/-- one cell is written -/
theorem Wd.put {g : Gl} {ρ : Nm → Nat} {h : Hp} {U : State} {H H' : Heap} {n : Nm} {c' : PC} (w : Wd g ρ h U H) (hn : h n ≠ none) (h2 : 2 ≤ n.1) (hc : cOK g ρ H' (ρ n) c') (hv : ∀ j, wfv h (c'.2.2 j)) (hz : H'.size = H.size) (ho : ∀ q, q ≠ ρ n → H'[q]? = H[q]?) : Wd g ρ (up h n c') U H' := by
  obtain ⟨w1, w2, w3, w4, w5, w6⟩ := w
  have dm : ∀ m, up h n c' m ≠ none → h m ≠ none := fun m hm => by
    by_cases e : m = n
    · rw [e]; exact hn
    · rw [up_ne e] at hm; exact hm
  have n1 : ((1, 0, 0) : Nm) ≠ n := fun e => by rw [← e] at h2; exact absurd h2 (by decide)
  refine ⟨fun m c hm => ?_, fun m m' hm hm' e => w2 m m' (dm m hm) (dm m' hm') e, fun m hm hm2 => w3 m (dm m hm) hm2, by rw [hz]; exact w4, by rw [up_ne n1]; exact w5, w6.kept fun a _ ha => ho a fun e => ha (by rw [e]; exact w3 n hn h2)⟩
  by_cases e : m = n
  · subst e
    rw [up_self] at hm
    cases hm
    exact ⟨hc, fun j => (hv j).up⟩
  · rw [up_ne e] at hm
    obtain ⟨q1, q2⟩ := w1 m c hm
    exact ⟨q1.eq (ho _ fun z => e (w2 m n (by rw [hm]; exact fun q => by cases q) hn z)) (fun _ => rfl), fun j => (q2 j).up⟩
/-- a cell is made -/
theorem Wd.mk {g : Gl} {ρ : Nm → Nat} {h : Hp} {U : State} {H H' : Heap} {n : Nm} {c' : PC} (w : Wd g ρ h U H) (hn : h n = none) (hc : cOK g (upr ρ n H.size) H' H.size c') (hv : ∀ j, wfv h (c'.2.2 j)) (hz : H.size ≤ H'.size) (ho : ∀ q, q < H.size → H'[q]? = H[q]?) : Wd g (upr ρ n H.size) (up h n c') U H' := by
  obtain ⟨w1, w2, w3, w4, w5, w6⟩ := w
  have ne : ∀ m, h m ≠ none → m ≠ n := fun m hm e => hm (by rw [e]; exact hn)
  have re : ∀ m, h m ≠ none → upr ρ n H.size m = ρ m := fun m hm => if_neg (ne m hm)
  have rn : upr ρ n H.size n = H.size := if_pos rfl
  have lt : ∀ m, h m ≠ none → ρ m < H.size := fun m hm => by
    obtain ⟨c, hc⟩ := Option.ne_none_iff_exists'.mp hm
    exact (w1 m c hc).1.lt
  have dm : ∀ m, up h n c' m ≠ none → m = n ∨ h m ≠ none := fun m hm => by
    by_cases e : m = n
    · exact Or.inl e
    · rw [up_ne e] at hm; exact Or.inr hm
  have i1 : h (1, 0, 0) ≠ none := by rw [w5]; exact fun q => by cases q
  refine ⟨fun m c hm => ?_, fun m m' hm hm' e => ?_, fun m hm hm2 => ?_, Nat.le_trans w4 hz, by rw [up_ne (ne _ i1)]; exact w5, ?_⟩
  · by_cases e : m = n
    · subst e
      rw [up_self] at hm
      cases hm
      rw [rn]
      exact ⟨hc, fun j => (hv j).up⟩
    · rw [up_ne e] at hm
      have hm' : h m ≠ none := by rw [hm]; exact fun q => by cases q
      obtain ⟨q1, q2⟩ := w1 m c hm
      rw [re m hm']
      exact ⟨q1.eq (ho _ (lt m hm')) (fun j => trx (q2 j) re), fun j => (q2 j).up⟩
  · rcases dm m hm with a | a <;> rcases dm m' hm' with b | b
    · rw [a, b]
    · rw [a, rn, re m' b] at e
      exact absurd e (Nat.ne_of_gt (lt m' b))
    · rw [b, rn, re m a] at e
      exact absurd e (Nat.ne_of_lt (lt m a))
    · rw [re m a, re m' b] at e
      exact w2 m m' a b e
  · rcases dm m hm with a | a
    · rw [a, rn]; exact w4
    · rw [re m a]; exact w3 m a hm2
  · unfold eZ
    rw [re _ i1]
    exact w6.kept fun a ha _ => ho a ha
/-- a field by its table: link, class, place -/
def GF (own : String) (idx ci kf : Nat) : Prop := ci < 14 ∧ kf < cN ci ∧
  ((∃ ref, Cond.fieldLink own idx ref (cT ci kf).2.1 (cT ci kf).2.2.1 ∈ TB ∧ (ref = (cT ci kf).1 ∨ Cond.sameField ref (cT ci kf).1 (cT ci kf).2.1 (cT ci kf).2.2.1 ∈ TB)) ∨
   ∃ host, Cond.fieldLinkNest own idx (cT ci kf).1 (cT ci kf).2.1 (cT ci kf).2.2.1 host ∈ NT)
theorem cls_in : ∀ k, k < 14 → ∀ w ∈ u_ws (cS k) (cT k) (cN k), w ∈ TB := by decide +kernel
theorem cls_ty : ∀ k, k < 14 → ∀ j, j < cN k → parseFieldDescriptor (cT k j).2.2.1 = some (cY k j) := by decide +kernel
theorem cls_nm : ∀ k, k < 14 → ∀ a, a < cN k → ∀ b, b < cN k → a ≠ b → (cT k a).2.1 ≠ (cT k b).2.1 := by decide +kernel
end
section
theorem cOK.ob {g : Gl} {ρ : Nm → Nat} {H : Heap} {a : Nat} {c : PC} (hc : cOK g ρ H a c) (h : c.1 < 14) : t_OB a (gC g c.1) (cN c.1) (gI g c.1) H (fun j => tr ρ (c.2.2 j)) := by
  unfold cOK at hc
  rw [if_pos h] at hc
  exact hc
theorem cOK.mkOb {g : Gl} {ρ : Nm → Nat} {H : Heap} {a : Nat} {c : PC} (h : c.1 < 14) (hc : t_OB a (gC g c.1) (cN c.1) (gI g c.1) H (fun j => tr ρ (c.2.2 j))) : cOK g ρ H a c := by
  unfold cOK
  rw [if_pos h]
  exact hc
theorem cOK.ar {g : Gl} {ρ : Nm → Nat} {H : Heap} {a : Nat} {c : PC} (hc : cOK g ρ H a c) (h : ¬ c.1 < 14) (h' : c.1 < 25) : H[a]? = some (arrV (gA g c.1) c.2.1 (fun j => tr ρ (c.2.2 j))) := by
  unfold cOK at hc
  rw [if_neg h, if_pos h'] at hc
  exact hc
theorem cOK.mkAr {g : Gl} {ρ : Nm → Nat} {H : Heap} {a : Nat} {c : PC} (h : ¬ c.1 < 14) (h' : c.1 < 25) (hc : H[a]? = some (arrV (gA g c.1) c.2.1 (fun j => tr ρ (c.2.2 j)))) : cOK g ρ H a c := by
  unfold cOK
  rw [if_neg h, if_pos h']
  exact hc
theorem nw_use {g : Gl} {s : State} {args : Array Value} (hk : KB g s) {w : Cond} (hw : w ∈ NT) : w.before args s = true := va_Nw.use (nt_tab (List.mem_filter.mp hw).2) (hk.2.2.2.2.1 w hw)
section FR
variable {M : MD} {lvl mc ms : Nat} {Q : Option PV → Hp → Prop} {pc pc' tgt : Nat} {lv : List (Option PV)} {st : List PV} {h : Hp} {k n : Nat}
theorem s_get {idx ci kf : Nat} {nm : Nm} {len : Nat} {f : Nat → PV} (d : Dc M pc (.getfield idx) 3 pc') (G : GF M.1.cls idx ci kf) (hc : h nm = some (ci, len, f)) (kk : S M lvl mc ms Q pc' lv (f kf :: st) h k n) : S M lvl mc ms Q pc lv (vR nm :: st) h k n := by
  intro p l e R s m args below meth c g Qf D0 ρ0 C hR ρ ls H locs hK hL hW hw hlo
  obtain ⟨d, rfl⟩ := d
  obtain ⟨c1, c2, c3⟩ := G
  have k1 := kk p l e R s m args below meth c g Qf D0 ρ0 C hR ρ ls H locs hK hL (hW.tl.cons ((hw.1 nm _ hc).2 kf)) hw hlo
  obtain ⟨hx, hb, -, hown, hts, hkb, -⟩ := C
  obtain ⟨cell, q1, q2, q3, q4⟩ := (hw.1 nm _ hc).1.ob c1
  obtain ⟨hS, hfc, kC, hkC, hkind⟩ := hkb.1 ci c1
  obtain ⟨cf, kf', fi, fd, hi, hsl⟩ := hS kf c2
  have hst := (u_facts hfc hkC (u_lays hts (cls_in ci c1) c2) hi).1
  have hsl' : cell.slots[fd.slot]? = some (tr ρ (f kf)) := by rw [hsl]; exact q4 kf c2
  have hvm : cell.vm ≠ .unknown := by rw [q3]; exact fun h => by cases h
  rcases c3 with ⟨ref, l1, l2⟩ | ⟨host, l1⟩
  · refine W.getf hx hb hown (hts _ l1) (cf := cf) (k := kf') (i := fi) (f := fd) ?_ hst q1 hvm hsl' rfl rfl d k1
    rcases l2 with rfl | l2
    · exact hi
    · exact u_same (hts _ l2) _ hi
  · exact va_Wgetf hx hb hown (nw_use hkb l1) hi hst q1 hvm hsl' rfl rfl d k1
/-- which values a field takes -/
def fitV (ty : FieldType) (v : PV) : Prop := match ty with
  | .int => ∃ x, v = vI x
  | .boolean => v = vI 0 ∨ v = vI 1
  | .long => ∃ x, v = vL x
  | .object _ => ∃ o, v = vO o
  | .array _ => ∃ o, v = vO o
  | _ => False
theorem fitV.narrow {ty : FieldType} {v : PV} {ρ : Nm → Nat} (h : fitV ty v) : Jvm.narrow ty (tr ρ v) = tr ρ v ∧ fits ty (tr ρ v) = true := by
  cases ty with
  | int => obtain ⟨x, rfl⟩ := h; exact ⟨rfl, rfl⟩
  | boolean => 
    rcases h with rfl | rfl
    · exact ⟨(show Jvm.narrow .boolean (.int 0) = .int 0 by decide +kernel), (show fits .boolean (.int 0) = true by decide +kernel)⟩
    · exact ⟨(show Jvm.narrow .boolean (.int 1) = .int 1 by decide +kernel), (show fits .boolean (.int 1) = true by decide +kernel)⟩
  | long => obtain ⟨x, rfl⟩ := h; exact ⟨rfl, rfl⟩
  | object C => obtain ⟨o, rfl⟩ := h; cases o <;> exact ⟨rfl, rfl⟩
  | array t => obtain ⟨o, rfl⟩ := h; cases o <;> exact ⟨rfl, rfl⟩
  | _ => exact h.elim
theorem s_put {idx ci kf : Nat} {nm : Nm} {len : Nat} {f : Nat → PV} {v : PV} (d : Dc M pc (.putfield idx) 3 pc') (G : GF M.1.cls idx ci kf) (hc : h nm = some (ci, len, f)) (h2 : Nat.ble 2 nm.1 = true) (hf : (cT ci kf).2.2.2 = false ∨ (M.1.name = "<init>" ∧ (cT ci kf).1 = M.1.cls)) (hv : fitV (cY ci kf) v)
    (kk : S M lvl mc ms Q pc' lv st (up h nm (ci, len, upf f kf v)) k n) : S M lvl mc ms Q pc lv (v :: vR nm :: st) h k n := by
  intro p l e R s m args below meth c g Qf D0 ρ0 C hR ρ ls H locs hK hL hW hw hlo
  obtain ⟨d, rfl⟩ := d
  obtain ⟨c1, c2, c3⟩ := G
  have hn : h nm ≠ none := by rw [hc]; exact fun q => by cases q
  have h2 : 2 ≤ nm.1 := Nat.le_of_ble_eq_true h2
  have k1 : ∀ (H' : Heap) (i : Nat), cOK g ρ H' (ρ nm) (ci, len, upf f kf v) → H'.size = H.size → (∀ q, q ≠ ρ nm → H'[q]? = H[q]?) → W p l e R s m args below meth c H' (locs ++ [⟨ρ nm, i⟩]) k n Qf (F0 m (pc + 3) ls (st.map (tr ρ))) := fun H' i o1 o2 o3 =>
    kk p l e R s m args below meth c g Qf D0 ρ0 C hR ρ ls H' _ (fun x hx => ⟨up_dom (hK x hx).1, (hK x hx).2⟩) (hL.mono fun x hx => ⟨up_dom hx, rfl⟩) (hW.tl.tl.mono fun x hx => up_dom hx)
      (hw.put hn h2 o1 (fun j => by
        show wfv h (upf f kf v j)
        unfold upf
        split
        · exact hW.hd
        · exact (hw.1 nm _ hc).2 j) o2 o3) (t_lc hlo (hw.2.2.1 nm hn h2))
  obtain ⟨hx, hb, -, hown, hts, hkb, hnm, -⟩ := C
  obtain ⟨cell, q1, q2, q3, q4⟩ := (hw.1 nm _ hc).1.ob c1
  have hkb1 := hkb.1 ci c1
  obtain ⟨hS, hfc, kC, hkC, hkind⟩ := id hkb1
  obtain ⟨cf, kf', fi, fd, hi, hsl⟩ := hS kf c2
  have hla := u_lays hts (cls_in ci c1) c2
  have hst := (u_facts hfc hkC hla hi).1
  have hap : ∀ x y, x < cN ci → y < cN ci → x ≠ y → gI g ci x ≠ gI g ci y := by
    intro x y hx' hy hne
    obtain ⟨_, _, _, fa, hia, ea⟩ := hS x hx'
    obtain ⟨_, _, _, fb, hib, eb⟩ := hS y hy
    rw [← ea, ← eb]
    refine u_apart (u_lays hts (cls_in ci c1) hx') (u_lays hts (cls_in ci c1) hy) hia hib ?_
    rw [(State.fieldFound?_type hia (cls_ty ci c1 x hx')).1, (State.fieldFound?_type hib (cls_ty ci c1 y hy)).1]
    exact cls_nm ci c1 x hx' y hy hne
  have h6 := u_fits hfc hkC hkind hla hi (cls_ty ci c1 kf c2) (hv.narrow (ρ := ρ)).1 (hv.narrow (ρ := ρ)).2
  have hlay := hts _ (cls_in ci c1 _ (u_in_lay c2))
  unfold u_lay at hlay
  have hfin : hasFlag fd.accessFlags Acc.final = false ∨ (m.cls = cf ∧ meth.name = "<init>") := by
    rcases hf with hf | ⟨hf1, hf2⟩
    · rw [if_neg (by rw [hf]; decide)] at hlay
      exact Or.inl (u_store hfc hkC hkind hlay hi (cls_ty ci c1 kf c2) (hv.narrow (ρ := ρ)).1 (hv.narrow (ρ := ρ)).2).1
    · cases hb2 : (cT ci kf).2.2.2 with
      | false =>
        rw [if_neg (by rw [hb2]; decide)] at hlay
        exact Or.inl (u_store hfc hkC hkind hlay hi (cls_ty ci c1 kf c2) (hv.narrow (ρ := ρ)).1 (hv.narrow (ρ := ρ)).2).1
      | true =>
        rw [if_pos hb2] at hlay
        refine Or.inr ⟨?_, hnm.trans hf1⟩
        obtain ⟨_, _, c', _, _, _, -, -, hf', -, -, -, hown2, -⟩ := Cond.laysFinal_spec hlay
        have e1 : c' = cf := by have := hi.symm.trans hf'; simp at this; exact this.1.symm
        rw [hf2] at hown2
        rw [← e1]; exact Option.some.inj (hown.symm.trans hown2)
  have hvm : cell.vm ≠ .unknown := by rw [q3]; exact fun h => by cases h
  have hlt : fd.slot < cell.slots.size := by rw [hsl]; exact k2_hasslot (q4 kf c2)
  have ha : ρ nm < H.size := (Array.getElem?_eq_some_iff.mp q1).1
  have fin : W p l e R s m args below meth c (H.setIfInBounds (ρ nm) (cell.setSlot fd.slot (tr ρ v))) (locs ++ [⟨ρ nm, fd.slot⟩]) k n Qf (F0 m (pc + 3) ls (st.map (tr ρ))) := by
    refine k1 _ fd.slot (cOK.mkOb c1 ?_) (by simp) (fun q hq => by simp [Array.getElem?_setIfInBounds, Ne.symm hq])
    refine t_OB.to (V := updV (fun j => tr ρ (f j)) kf (tr ρ v)) ⟨cell.setSlot fd.slot (tr ρ v), by simp [Array.getElem?_setIfInBounds, ha], q2, q3, ?_⟩ (fun j _ => ?_)
    · rw [hsl]; exact t_set q4 hap c2 (tr ρ v)
    · show (if j = kf then tr ρ v else tr ρ (f j)) = tr ρ (upf f kf v j)
      unfold upf
      split <;> rfl
  rcases c3 with ⟨ref, l1, l2⟩ | ⟨host, l1⟩
  · refine W.putf hx hb hown (hts _ l1) (cf := cf) (k := kf') (i := fi) (f := fd) ?_ hst hfin q1 hvm hlt h6.1 (by rw [q2, q3]; exact h6.2) rfl rfl d fin
    rcases l2 with rfl | l2
    · exact hi
    · exact u_same (hts _ l2) _ hi
  · exact va_Wputf hx hb hown (nw_use hkb l1) hi hst hfin q1 hvm hlt h6.1 (by rw [q2, q3]; exact h6.2) rfl rfl d fin
/-- the empty row of ArrayList -/
theorem s_gets {idx : Nat} (d : Dc M pc (.getstatic idx) 3 pc') (G : Cond.fieldLink M.1.cls idx "java/util/ArrayList" "DEFAULTCAPACITY_EMPTY_ELEMENTDATA" "[Ljava/lang/Object;" ∈ TB) (kk : S M lvl mc ms Q pc' lv (vR (1, 0, 0) :: st) h k n) : S M lvl mc ms Q pc lv st h k n := by
  intro p l e R s m args below meth c g Qf D0 ρ0 C hR ρ ls H locs hK hL hW hw hlo
  obtain ⟨d, rfl⟩ := d
  have k1 := kk p l e R s m args below meth c g Qf D0 ρ0 C hR ρ ls H locs hK hL (hW.cons (show h (1, 0, 0) ≠ none by rw [hw.2.2.2.2.1]; exact fun q => by cases q)) hw hlo
  obtain ⟨hx, hb, -, hown, hts, hkb, -⟩ := C
  obtain ⟨cf, kf, fi, f, a, cell, h1, h2, h3, h4, h5, h6, h7, h8⟩ := hw.2.2.2.2.2
  exact W.gets hx hb hown (hts _ G) h1 h2 h3 h4 h5 (fun e => by rw [e] at h6; cases h6) h7 rfl d k1
end FR
end
section
theorem aK.of {g : Gl} {s : State} (hk : KB g s) {a : Nat} (h1 : Nat.ble 20 a = true) (h2 : Nat.ble a 24 = true) : aK s (gA g a) (aY a) := hk.2.1 a (Nat.le_of_ble_eq_true h1) (Nat.lt_succ_of_le (Nat.le_of_ble_eq_true h2))
theorem aK.is {s : State} {cA : ClassId} {ty : FieldType} (h : aK s cA ty) (n : Nat) (z : Nat → Value) : s.isArrayOf (arrV cA n z) ty := by
  obtain ⟨kA, comp, h1, h2, -⟩ := h
  exact ⟨fun q h => (by cases h), kA, h1, comp, h2⟩
theorem arr_in {cA : ClassId} {n : Nat} {z : Nat → Value} {i : Int32} (h : vp_in i n) : ¬ (i < 0 ∨ (arrV cA n z).slots.size ≤ i.toNatClampNeg) := by rw [arrV_size]; exact h
theorem vp_lt {i : Int32} {n : Nat} (h : vp_in i n) : i.toNatClampNeg < n := Nat.not_le.mp fun q => h (Or.inr q)
theorem upf_tr (ρ : Nm → Nat) (f : Nat → PV) (j : Nat) (v : PV) : (fun q => tr ρ (upf f j v q)) = updV (fun q => tr ρ (f q)) j (tr ρ v) := by
  funext q
  unfold upf updV
  split <;> rfl
section AR
variable {M : MD} {lvl mc ms : Nat} {Q : Option PV → Hp → Prop} {pc pc' tgt : Nat} {lv : List (Option PV)} {st : List PV} {h : Hp} {k n : Nat}
theorem s_ald0 {a len : Nat} {f : Nat → PV} {nm : Nm} {i : Int32} {ins : Instr} (hc : h nm = some (a, len, f)) (h1 : Nat.ble 20 a = true) (h2 : Nat.ble a 24 = true)
    (step : ∀ {p : Program} {l : Launch} {e : Env} {R : Room} {s : State} {m : MethodId} {args : Array Value} {below : List Frame} {meth : Method} {c : Code} {H : Heap} {locs : List Loc} {Qf : State → Prop} {ls : Array Slot} {rest : List Value} {x : Nat} {cell : Cell} {v : Value}, p.tables.exec = Jvm.exec → c.code = M.2.1 → H[x]? = some cell → s.isArrayOf cell (aY a) → cell.vm ≠ .unknown → ¬ (i < 0 ∨ cell.slots.size ≤ i.toNatClampNeg) → cell.slots[i.toNatClampNeg]? = some v → W p l e R s m args below meth c H locs k n Qf (F0 m (pc + 1) ls (v :: rest)) → W p l e R s m args below meth c H locs k n Qf (F0 m pc ls (.int i :: .ref x :: rest)))
    (hi : vp_in i len) (kk : S M lvl mc ms Q (pc + 1) lv (f i.toNatClampNeg :: st) h k n) : S M lvl mc ms Q pc lv (vI i :: vR nm :: st) h k n := by
  intro p l e R s m args below meth c g Qf D0 ρ0 C hR ρ ls H locs hK hL hW hw hlo
  have k1 := kk p l e R s m args below meth c g Qf D0 ρ0 C hR ρ ls H locs hK hL (hW.tl.tl.cons ((hw.1 nm _ hc).2 _)) hw hlo
  have hcell := (hw.1 nm _ hc).1.ar (Nat.not_lt.mpr (Nat.le_trans (by decide) (Nat.le_of_ble_eq_true h1))) (Nat.lt_succ_of_le (Nat.le_of_ble_eq_true h2))
  exact step C.1 C.2.1 hcell ((aK.of C.2.2.2.2.2.1 h1 h2).is _ _) (fun q => by cases q) (arr_in hi) (by rw [arrV_read _ _ (vp_lt hi)]) k1
theorem s_iald {len : Nat} {f : Nat → PV} {nm : Nm} {i : Int32} (d : Dc M pc .iaload 1 pc') (hc : h nm = some (20, len, f)) (hi : vp_in i len) (kk : S M lvl mc ms Q pc' lv (f i.toNatClampNeg :: st) h k n) : S M lvl mc ms Q pc lv (vI i :: vR nm :: st) h k n := by
  obtain ⟨d, rfl⟩ := d
  exact s_ald0 (ins := .iaload) hc rfl rfl (fun a1 a2 a3 a4 a5 a6 a7 a8 => W.iald a1 a2 a3 a4 a5 a6 a7 rfl rfl d a8) hi kk
theorem s_zald {len : Nat} {f : Nat → PV} {nm : Nm} {i : Int32} (d : Dc M pc .baload 1 pc') (hc : h nm = some (21, len, f)) (hi : vp_in i len) (kk : S M lvl mc ms Q pc' lv (f i.toNatClampNeg :: st) h k n) : S M lvl mc ms Q pc lv (vI i :: vR nm :: st) h k n := by
  obtain ⟨d, rfl⟩ := d
  exact s_ald0 (ins := .baload) hc rfl rfl (fun a1 a2 a3 a4 a5 a6 a7 a8 => W.zald a1 a2 a3 a4 a5 a6 a7 rfl rfl d a8) hi kk
theorem s_aald {a len : Nat} {f : Nat → PV} {nm : Nm} {i : Int32} (d : Dc M pc .aaload 1 pc') (hc : h nm = some (a, len, f)) (h1 : Nat.ble 22 a = true) (h2 : Nat.ble a 24 = true) (hi : vp_in i len) (kk : S M lvl mc ms Q pc' lv (f i.toNatClampNeg :: st) h k n) : S M lvl mc ms Q pc lv (vI i :: vR nm :: st) h k n := by
  obtain ⟨d, rfl⟩ := d
  have hy : (aY a).isReference = true := by
    have h3 := Nat.le_of_ble_eq_true h1
    have h4 := Nat.le_of_ble_eq_true h2
    rcases (show a = 22 ∨ a = 23 ∨ a = 24 by omega) with rfl | rfl | rfl <;> rfl
  exact s_ald0 (ins := .aaload) hc (Nat.ble_eq.mpr (Nat.le_trans (by decide) (Nat.le_of_ble_eq_true h1))) h2 (fun a1 a2 a3 a4 a5 a6 a7 a8 => W.aald a1 a2 a3 a4 hy a5 a6 a7 rfl rfl d a8) hi kk
/-- the script -/
theorem s_sald {len : Nat} {f : Nat → PV} {nm : Nm} {i : Int32} (d : Dc M pc .iaload 1 pc') (hc : h nm = some (29, len, f)) (hi : vp_in i len) (kk : S M lvl mc ms Q pc' lv (f i.toNatClampNeg :: st) h k n) : S M lvl mc ms Q pc lv (vI i :: vR nm :: st) h k n := by
  intro p l e R s m args below meth c g Qf D0 ρ0 C hR ρ ls H locs hK hL hW hw hlo
  obtain ⟨d, rfl⟩ := d
  have k1 := kk p l e R s m args below meth c g Qf D0 ρ0 C hR ρ ls H locs hK hL (hW.tl.tl.cons ((hw.1 nm _ hc).2 _)) hw hlo
  have hcell := (hw.1 nm _ hc).1
  unfold cOK at hcell
  rw [if_neg (show ¬ (29 < 14) by decide), if_neg (show ¬ (29 < 25) by decide)] at hcell
  obtain ⟨cell, q1, q2, q3, q4, q5, q6⟩ := hcell
  obtain ⟨kA, comp, r1, r2⟩ := C.2.2.2.2.2.1.2.2.2.1
  exact W.iald C.1 C.2.1 q1 ⟨q4, kA, by rw [q2]; exact r1, comp, r2⟩ q3 (by rw [q5]; exact hi) (q6 _ (vp_lt hi)) rfl rfl d k1
theorem s_alen {a len : Nat} {f : Nat → PV} {nm : Nm} (d : Dc M pc .arraylength 1 pc') (hc : h nm = some (a, len, f)) (h1 : Nat.ble 20 a = true) (h2 : Nat.ble a 24 = true ∨ a = 28 ∨ a = 29) (kk : S M lvl mc ms Q pc' lv (vI (nI len) :: st) h k n) : S M lvl mc ms Q pc lv (vR nm :: st) h k n := by
  intro p l e R s m args below meth c g Qf D0 ρ0 C hR ρ ls H locs hK hL hW hw hlo
  obtain ⟨d, rfl⟩ := d
  have k1 := kk p l e R s m args below meth c g Qf D0 ρ0 C hR ρ ls H locs hK hL (hW.tl.cons trivial) hw hlo
  have hcell := (hw.1 nm _ hc).1
  rcases h2 with h2 | h2
  · exact W.alen C.1 C.2.1 (hcell.ar (Nat.not_lt.mpr (Nat.le_trans (by decide) (Nat.le_of_ble_eq_true h1))) (Nat.lt_succ_of_le (Nat.le_of_ble_eq_true h2))) ((aK.of C.2.2.2.2.2.1 h1 h2).is _ _) (by rw [arrV_size]; rfl) rfl rfl d k1
  · unfold cOK at hcell
    rw [if_neg (show ¬ a < 14 by omega), if_neg (show ¬ a < 25 by omega)] at hcell
    obtain ⟨cell, q1, q2, q3, q4, q5, q6⟩ := hcell
    rcases h2 with rfl | rfl
    · obtain ⟨kA, comp, r1, r2, -⟩ := aK.of (a := 22) C.2.2.2.2.2.1 rfl rfl
      exact W.alen (ty := aY 22) C.1 C.2.1 q1 ⟨q4, kA, by rw [q2]; show s.vm.classes[gA g 28]? = _; rw [C.2.2.2.2.2.1.2.2.1]; exact r1, comp, r2⟩ (by rw [q5]; rfl) rfl rfl d k1
    · obtain ⟨kA, comp, r1, r2⟩ := C.2.2.2.2.2.1.2.2.2.1
      exact W.alen (ty := .int) C.1 C.2.1 q1 ⟨q4, kA, by rw [q2]; exact r1, comp, r2⟩ (by rw [q5]; rfl) rfl rfl d k1
theorem s_ast0 {a len : Nat} {f : Nat → PV} {nm : Nm} {i : Int32} {v w : PV} (hc : h nm = some (a, len, f)) (h1 : Nat.ble 20 a = true) (h2 : Nat.ble a 24 = true) (h3 : Nat.ble 2 nm.1 = true)
    (step : ∀ {p : Program} {l : Launch} {e : Env} {R : Room} {s : State} {m : MethodId} {args : Array Value} {below : List Frame} {meth : Method} {c : Code} {g : Gl} {ρ : Nm → Nat} {H : Heap} {locs : List Loc} {Qf : State → Prop} {ls : Array Slot} {rest : List Value} {x : Nat} {cell : Cell}, Cx M lvl mc ms p R s m args meth c g → Wd g ρ h s H → wfv h v → H[x]? = some cell → cell.cls = gA g a → cell.vm = .none → s.isArrayOf cell (aY a) → ¬ (i < 0 ∨ cell.slots.size ≤ i.toNatClampNeg) → (∀ H' : Heap, H'[x]? = some (cell.setSlot i.toNatClampNeg (tr ρ w)) → H'.size = H.size → (∀ q, q ≠ x → H'[q]? = H[q]?) → W p l e R s m args below meth c H' (locs ++ [⟨x, i.toNatClampNeg⟩]) k n Qf (F0 m (pc + 1) ls rest)) → W p l e R s m args below meth c H locs k n Qf (F0 m pc ls (tr ρ v :: .int i :: .ref x :: rest)))
    (hww : wfv h v → wfv h w) (hi : vp_in i len) (kk : S M lvl mc ms Q (pc + 1) lv st (up h nm (a, len, upf f i.toNatClampNeg w)) k n) : S M lvl mc ms Q pc lv (v :: vI i :: vR nm :: st) h k n := by
  intro p l e R s m args below meth c g Qf D0 ρ0 C hR ρ ls H locs hK hL hW hw hlo
  have hn : h nm ≠ none := by rw [hc]; exact fun q => by cases q
  have h3 : 2 ≤ nm.1 := Nat.le_of_ble_eq_true h3
  have a1 : ¬ a < 14 := Nat.not_lt.mpr (Nat.le_trans (by decide) (Nat.le_of_ble_eq_true h1))
  have a2 : a < 25 := Nat.lt_succ_of_le (Nat.le_of_ble_eq_true h2)
  have hcell := (hw.1 nm _ hc).1.ar a1 a2
  refine step (x := ρ nm) C hw hW.hd hcell rfl rfl ((aK.of C.2.2.2.2.2.1 h1 h2).is _ _) (arr_in hi) fun H' e1 e2 e3 => ?_
  refine kk p l e R s m args below meth c g Qf D0 ρ0 C hR ρ ls H' _ (fun x hx => ⟨up_dom (hK x hx).1, (hK x hx).2⟩) (hL.mono fun x hx => ⟨up_dom hx, rfl⟩) (hW.tl.tl.tl.mono fun x hx => up_dom hx) (hw.put hn h3 (cOK.mkAr a1 a2 ?_) (fun j => ?_) e2 e3) (t_lc hlo (hw.2.2.1 nm hn h3))
  · rw [e1, arrV_store]
    show some _ = some (arrV (gA g a) len (fun q => tr ρ (upf f i.toNatClampNeg w q)))
    rw [upf_tr]
  · show wfv h (upf f _ w j)
    unfold upf
    split
    · exact hww hW.hd
    · exact (hw.1 nm _ hc).2 j
theorem s_iast {len : Nat} {f : Nat → PV} {nm : Nm} {i x : Int32} (d : Dc M pc .iastore 1 pc') (hc : h nm = some (20, len, f)) (h3 : Nat.ble 2 nm.1 = true) (hi : vp_in i len) (kk : S M lvl mc ms Q pc' lv st (up h nm (20, len, upf f i.toNatClampNeg (vI x))) k n) : S M lvl mc ms Q pc lv (vI x :: vI i :: vR nm :: st) h k n := by
  obtain ⟨d, rfl⟩ := d
  exact s_ast0 (v := vI x) (w := vI x) hc rfl rfl h3 (fun C _ _ a3 _ a5 a6 a7 a8 => W.iast C.1 C.2.1 a3 a6 (by rw [a5]; exact fun q => by cases q) a7 rfl rfl d a8) id hi kk
theorem s_zast {len : Nat} {f : Nat → PV} {nm : Nm} {i x : Int32} (d : Dc M pc .bastore 1 pc') (hc : h nm = some (21, len, f)) (h3 : Nat.ble 2 nm.1 = true) (hx : x = 0 ∨ x = 1) (hi : vp_in i len) (kk : S M lvl mc ms Q pc' lv st (up h nm (21, len, upf f i.toNatClampNeg (vI x))) k n) : S M lvl mc ms Q pc lv (vI x :: vI i :: vR nm :: st) h k n := by
  obtain ⟨d, rfl⟩ := d
  have hb : narrow .boolean (.int x) = .int x := by rcases hx with rfl | rfl <;> decide +kernel
  exact s_ast0 (v := vI x) (w := vI x) hc rfl rfl h3 (fun C _ _ a3 _ a5 a6 a7 a8 => W.zast C.1 C.2.1 a3 a6 (by rw [a5]; exact fun q => by cases q) a7 rfl rfl d (fun H' q1 q2 q3 => a8 H' (by rw [q1]; show some (Cell.setSlot _ _ _) = some (Cell.setSlot _ _ (.int x)); first | rw [hb] | (congr 2)) q2 q3)) id hi kk
end AR
end
section
section MK
variable {M : MD} {lvl mc ms : Nat} {Q : Option PV → Hp → Prop} {pc pc' tgt : Nat} {lv : List (Option PV)} {st : List PV} {h : Hp} {k n : Nat}
/-- an object of class ci may lie in a row of kind a -/
def asT (a ci : Nat) : Prop := (a = 22 ∧ Cond.castable (cS ci) "java/lang/Object" ∈ NT) ∨ (a = 24 ∧ ci = 3)
theorem s_aast {a len : Nat} {f : Nat → PV} {nm vn : Nm} {ci ln : Nat} {fv : Nat → PV} {i : Int32} (d : Dc M pc .aastore 1 pc') (hc : h nm = some (a, len, f)) (h3 : Nat.ble 2 nm.1 = true) (hv : h vn = some (ci, ln, fv)) (hci : ci < 14) (ha : asT a ci) (hi : vp_in i len) (kk : S M lvl mc ms Q pc' lv st (up h nm (a, len, upf f i.toNatClampNeg (vR vn))) k n) : S M lvl mc ms Q pc lv (vR vn :: vI i :: vR nm :: st) h k n := by
  obtain ⟨d, rfl⟩ := d
  have h1 : Nat.ble 20 a = true := by rcases ha with ⟨rfl, -⟩ | ⟨rfl, -⟩ <;> rfl
  have h2 : Nat.ble a 24 = true := by rcases ha with ⟨rfl, -⟩ | ⟨rfl, -⟩ <;> rfl
  refine s_ast0 (v := vR vn) (w := vR vn) hc h1 h2 h3 (fun {p l e R s m args below meth c g ρ H locs Qf ls rest x cell} C hw _ a3 a4 a5 a6 a7 a8 => ?_) id hi kk
  obtain ⟨cv, q1, q2, q3, -⟩ := (hw.1 vn _ hv).1.ob hci
  obtain ⟨-, hfc, kC, hkC, hkind⟩ := C.2.2.2.2.2.1.1 ci hci
  obtain ⟨kA, comp, r1, r2, r3, r4, r5⟩ := aK.of C.2.2.2.2.2.1 h1 h2
  have hcls : s.vm.findClass (cS ci) = some cv.cls := by rw [q2]; exact hfc
  have key : ∃ E kE, aY a = .object E ∧ s.vm.findClass E = some comp ∧ s.vm.classes[comp]? = some kE ∧ s.vm.assignable cv.cls comp = true := by
    rcases ha with ⟨rfl, hca⟩ | ⟨rfl, rfl⟩
    · have f0 := r4 _ rfl
      obtain ⟨kE, hkE, -⟩ := Vm.findClass_spec f0
      obtain ⟨c0, t0, f1, f2, f3⟩ := Cond.castable_spec (nw_use (args := args) C.2.2.2.2.2.1 hca)
      cases hcls.symm.trans f1
      cases f0.symm.trans f2
      exact ⟨_, kE, rfl, f0, hkE, f3⟩
    · have f0 := r4 _ rfl
      have e0 : comp = cv.cls := Option.some.inj (f0.symm.trans hcls)
      subst e0
      refine ⟨_, kC, rfl, f0, by rw [q2]; exact hkC, ?_⟩
      exact va_assign (C := cS 3) ⟨hcls, kC, by rw [q2]; exact hkC, hkind⟩
  obtain ⟨E, kE, hE, f0, hkE, hasg⟩ := key
  exact W.aast C.1 C.2.1 a3 (by rw [a5]; exact fun q h => by cases h) (by rw [a5]; exact fun h => by cases h) (by rw [a4]; exact r1) r2 (by rw [hE]; rfl) hkE ⟨fun q => a7 (Or.inl q), Nat.not_le.mp fun q => a7 (Or.inr q)⟩ q1 (fun q h => by rw [q3] at h; cases h) (by rw [q2]; exact hkC) hasg rfl rfl d a8
theorem s_aastN {len : Nat} {f : Nat → PV} {nm : Nm} {i : Int32} (d : Dc M pc .aastore 1 pc') (hc : h nm = some (22, len, f)) (h3 : Nat.ble 2 nm.1 = true) (hi : vp_in i len) (kk : S M lvl mc ms Q pc' lv st (up h nm (22, len, upf f i.toNatClampNeg vN)) k n) : S M lvl mc ms Q pc lv (vN :: vI i :: vR nm :: st) h k n := by
  obtain ⟨d, rfl⟩ := d
  exact s_ast0 (v := vN) (w := vN) hc rfl rfl h3 (fun C hw _ a3 a4 a5 a6 a7 a8 => va_WaastN (C := "java/lang/Object") C.1 C.2.1 a3 a6 (by rw [a5]; exact fun q => by cases q) a7 rfl rfl d a8) id hi kk
/-- a row of ints into a row of rows of ints -/
theorem s_aastA {len ln : Nat} {f fv : Nat → PV} {nm vn : Nm} {i : Int32} (d : Dc M pc .aastore 1 pc') (hc : h nm = some (23, len, f)) (h3 : Nat.ble 2 nm.1 = true) (hv : h vn = some (20, ln, fv)) (hi : vp_in i len) (kk : S M lvl mc ms Q pc' lv st (up h nm (23, len, upf f i.toNatClampNeg (vR vn))) k n) : S M lvl mc ms Q pc lv (vR vn :: vI i :: vR nm :: st) h k n := by
  obtain ⟨d, rfl⟩ := d
  refine s_ast0 (v := vR vn) (w := vR vn) hc rfl rfl h3 (fun {p l e R s m args below meth c g ρ H locs Qf ls rest x cell} C hw _ a3 a4 a5 a6 a7 a8 => ?_) id hi kk
  have q1 := (hw.1 vn _ hv).1.ar (show ¬ (20 : Nat) < 14 by decide) (show (20 : Nat) < 25 by decide)
  obtain ⟨kA, comp, r1, r2, r3, r4, r5⟩ := aK.of (a := 23) C.2.2.2.2.2.1 rfl rfl
  obtain ⟨kB, comB, t1, t2, t3, -⟩ := aK.of (a := 20) C.2.2.2.2.2.1 rfl rfl
  have f0 := r5 _ rfl
  have e0 : gA g 20 = comp := Option.some.inj (t3.symm.trans f0)
  subst e0
  exact W.aast C.1 C.2.1 a3 (by rw [a5]; exact fun q h => by cases h) (by rw [a5]; exact fun h => by cases h) (by rw [a4]; exact r1) r2 rfl t1 ⟨fun q => a7 (Or.inl q), Nat.not_le.mp fun q => a7 (Or.inr q)⟩ q1 (fun q h => by cases h) t1 (show s.vm.assignable (gA g 20) (gA g 20) = true by show s.vm.assignableAux (255 + 1) _ _ = true; rw [Vm.assignableAux, beq_self_eq_true, Bool.true_or]) rfl rfl d a8
/-- new: a name is chosen -/
def dfl (ci : Nat) : Nat → PV := fun j => match cY ci j with
  | .int => vI 0
  | .boolean => vI 0
  | .long => vL 0
  | _ => vN
theorem cls_df : ∀ ci, ci < 14 → ∀ j, j < cN ci → ∀ ρ : Nm → Nat, tr ρ (dfl ci j) = defaultValue (cY ci j) := by
  have h : ∀ ci, ci < 14 → ∀ j, j < cN ci → (cY ci j = .int ∨ cY ci j = .boolean ∨ cY ci j = .long ∨ (∃ C, cY ci j = .object C) ∨ ∃ t, cY ci j = .array t) := by
    have h0 : ∀ ci, ci < 14 → ∀ j, j < cN ci → (match cY ci j with | .int => true | .boolean => true | .long => true | .object _ => true | .array _ => true | _ => false) = true := by decide +kernel
    intro ci hc j hj
    have h1 := h0 ci hc j hj
    cases hy : cY ci j <;> simp [hy] at h1 ⊢
  intro ci hc j hj ρ
  unfold dfl
  rcases h ci hc j hj with e | e | e | ⟨C, e⟩ | ⟨t, e⟩ <;> rw [e] <;> rfl
theorem dfl_wf (ci j : Nat) (h : Hp) : wfv h (dfl ci j) := by
  unfold dfl
  split <;> trivial
def NW (own : String) (idx ci : Nat) : Prop := ci < 14 ∧ Cond.classLink own idx (cS ci) ∈ TB ∧ Cond.instantiable (cS ci) (cN ci) ∈ TB ∧ Cond.initialized (cS ci) ∈ TB
theorem s_new {idx ci : Nat} (nm : Nm) (d : Dc M pc (.new idx) 3 pc') (N : NW M.1.cls idx ci) (hn : h nm = none) (h1 : Nat.ble (k + 1) mc = true) (h2 : Nat.ble (n + cN ci) ms = true) (kk : S M lvl mc ms Q pc' lv (vR nm :: st) (up h nm (ci, 0, dfl ci)) (k + 1) (n + cN ci)) : S M lvl mc ms Q pc lv st h k n := by
  intro p l e R s m args below meth c g Qf D0 ρ0 C hR ρ ls H locs hK hL hW hw hlo
  obtain ⟨d, rfl⟩ := d
  obtain ⟨n1, n2, n3, n4⟩ := N
  have re : ∀ m, h m ≠ none → upr ρ nm H.size m = ρ m := fun m hm => if_neg fun q => hm (by rw [q]; exact hn)
  obtain ⟨hx, hb, -, hown, hts, hkb, -, -, h9, h10⟩ := id C
  have hKn := hkb.1 ci n1
  refine W.newcK hx hb hown (hts _ n2) (hts _ n3) (hts _ n4) rfl d (Nat.le_trans (Nat.le_of_ble_eq_true h1) h9) (Nat.le_trans (Nat.le_of_ble_eq_true h2) h10) hKn.2.1 rfl fun H1 kC hkC e1 z1 o1 => ?_
  have hw' : Wd g (upr ρ nm H.size) (up h nm (ci, 0, dfl ci)) s H1 := hw.mk hn (cOK.mkOb n1 ((u_born (cY ci) hts (cls_in ci n1) hKn hkC e1 (cls_ty ci n1)).to fun j hj => (cls_df ci n1 j hj _).symm)) (fun j => dfl_wf ci j h) (by omega) o1
  have k1 := kk p l e R s m args below meth c g Qf D0 ρ0 C hR (upr ρ nm H.size) ls H1 locs (fun x hx => ⟨up_dom (hK x hx).1, by rw [re x (hK x hx).1]; exact (hK x hx).2⟩) (hL.mono fun x hx => ⟨up_dom hx, re x hx⟩) ((hW.mono fun x hx => up_dom hx).cons (show up h nm _ nm ≠ none by rw [up_self]; exact fun q => by cases q)) hw' hlo
  have e2 : (vR nm :: st).map (tr (upr ρ nm H.size)) = .ref H.size :: st.map (tr ρ) := by
    show tr _ (vR nm) :: _ = _
    rw [hW.trs re]
    show Value.ref (upr ρ nm H.size nm) :: _ = _
    unfold upr
    rw [if_pos rfl]
  rw [e2] at k1
  exact k1
theorem s_newa {a : Nat} {at0 : ArrayType} {x : Int32} (nm : Nm) (N : Nat) (d : Dc M pc (.newarray at0) 2 pc') (hy : newarray.typeOf at0 = aY a) (ha : (a = 20 ∨ a = 21) ∧ Cond.arrayClass (aY a) ∈ TB) (hx0 : x = nI N) (hN : Nat.ble N 10000 = true) (hn : h nm = none) (h1 : Nat.ble (k + 1) mc = true) (h2 : Nat.ble (n + N) ms = true) (kk : S M lvl mc ms Q pc' lv (vR nm :: st) (up h nm (a, N, fun _ => vI 0)) (k + 1) (n + N)) : S M lvl mc ms Q pc lv (vI x :: st) h k n := by
  intro p l e R s m args below meth c g Qf D0 ρ0 C hR ρ ls H locs hK hL hW hw hlo
  obtain ⟨d, rfl⟩ := d
  obtain ⟨a1, a2⟩ := ha
  have re : ∀ m, h m ≠ none → upr ρ nm H.size m = ρ m := fun m hm => if_neg fun q => hm (by rw [q]; exact hn)
  obtain ⟨hx, hb, -, hown, hts, hkb, -, -, h9, h10⟩ := id C
  have hN' : N ≤ 10000 := Nat.le_of_ble_eq_true hN
  have hcl : x.toNatClampNeg = N := by rw [hx0]; exact nI_clamp (by omega)
  have hcb : N * componentBytes (newarray.typeOf at0) ≤ 536870912 := by
    rw [hy]
    rcases a1 with rfl | rfl
    · show N * componentBytes .int ≤ _
      rw [show componentBytes .int = 4 by decide]
      omega
    · show N * componentBytes .boolean ≤ _
      rw [show componentBytes .boolean = 1 by decide]
      omega
  have h20 : Nat.ble 20 a = true := by rcases a1 with rfl | rfl <;> rfl
  have h24 : Nat.ble a 24 = true := by rcases a1 with rfl | rfl <;> rfl
  obtain ⟨kA, comp, r1, r2, r3, -⟩ := aK.of hkb h20 h24
  refine va_newaK hx hb (by rw [hy]; exact hts _ a2) rfl d rfl (by rw [hx0]; exact nI_pos (by omega)) hcl hcb (Nat.le_trans (Nat.le_of_ble_eq_true h1) h9) (Nat.le_trans (Nat.le_of_ble_eq_true h2) h10) rfl fun H1 cA e1 z1 o1 _ hNm => ?_
  rw [hy] at hNm e1
  have ecA : cA = gA g a := Option.some.inj (hNm.symm.trans r3)
  subst ecA
  have hdv : defaultValue (aY a) = .int 0 := by rcases a1 with rfl | rfl <;> rfl
  rw [hdv] at e1
  have hw' : Wd g (upr ρ nm H.size) (up h nm (a, N, fun _ => vI 0)) s H1 := hw.mk hn (cOK.mkAr (by show ¬ a < 14; omega) (by show a < 25; omega) e1) (fun j => trivial) (by omega) o1
  have k1 := kk p l e R s m args below meth c g Qf D0 ρ0 C hR (upr ρ nm H.size) ls H1 locs (fun x hx => ⟨up_dom (hK x hx).1, by rw [re x (hK x hx).1]; exact (hK x hx).2⟩) (hL.mono fun x hx => ⟨up_dom hx, re x hx⟩) ((hW.tl.mono fun x hx => up_dom hx).cons (show up h nm _ nm ≠ none by rw [up_self]; exact fun q => by cases q)) hw' hlo
  have e2 : (vR nm :: st).map (tr (upr ρ nm H.size)) = .ref H.size :: st.map (tr ρ) := by
    show tr _ (vR nm) :: _ = _
    rw [hW.tl.trs re]
    show Value.ref (upr ρ nm H.size nm) :: _ = _
    unfold upr
    rw [if_pos rfl]
  rw [e2] at k1
  exact k1
theorem s_anew {a idx : Nat} {C0 : String} {x : Int32} (nm : Nm) (N : Nat) (d : Dc M pc (.anewarray idx) 3 pc') (ha : (a = 22 ∨ a = 24) ∧ aY a = .object C0 ∧ Cond.classLink M.1.cls idx C0 ∈ TB) (hx0 : x = nI N) (hN : N ≤ 10000) (hn : h nm = none) (h1 : k + 1 ≤ mc) (h2 : n + N ≤ ms) (kk : S M lvl mc ms Q pc' lv (vR nm :: st) (up h nm (a, N, fun _ => vN)) (k + 1) (n + N)) : S M lvl mc ms Q pc lv (vI x :: st) h k n := by
  intro p l e R s m args below meth c g Qf D0 ρ0 C hR ρ ls H locs hK hL hW hw hlo
  obtain ⟨d, rfl⟩ := d
  obtain ⟨a1, a2, a3⟩ := ha
  have re : ∀ m, h m ≠ none → upr ρ nm H.size m = ρ m := fun m hm => if_neg fun q => hm (by rw [q]; exact hn)
  obtain ⟨hx, hb, -, hown, hts, hkb, -, -, h9, h10⟩ := id C
  have hcl : x.toNatClampNeg = N := by rw [hx0]; exact nI_clamp (by omega)
  have h20 : Nat.ble 20 a = true := by rcases a1 with rfl | rfl <;> rfl
  have h24 : Nat.ble a 24 = true := by rcases a1 with rfl | rfl <;> rfl
  obtain ⟨kA, comp, r1, r2, r3, -⟩ := aK.of hkb h20 h24
  have hov : va_AO C0 s := by
    rcases a1 with rfl | rfl
    · have e0 : FieldType.object "java/lang/Object" = .object C0 := a2
      cases e0
      exact hkb.2.2.2.2.2.1
    · have e0 : FieldType.object "RuleBooks$OwnState" = .object C0 := a2
      cases e0
      exact hkb.2.2.2.2.2.2.1
  refine W.anew hx hb hown (hts _ a3) (va_AO.use hov) rfl d rfl (by rw [hx0]; exact nI_pos (by omega)) (by rw [hcl]; omega) (Nat.le_trans h1 h9) (by rw [hcl]; exact Nat.le_trans h2 h10) fun cA kA' comp' f1 f2 f3 f4 => ?_
  rw [hcl]
  rw [← a2] at f1
  have ecA : cA = gA g a := Option.some.inj (f1.symm.trans r3)
  subst ecA
  generalize hH1 : H.push ({ cls := gA g a, slots := Array.replicate N .null, vm := .none } : Cell) = H1
  have z1 : H1.size = H.size + 1 := by rw [← hH1, Array.size_push]
  have e1 : H1[H.size]? = some (arrV (gA g a) N (fun _ => .null)) := by rw [← hH1, Array.getElem?_push_size, ← arrV_new]
  have o1 : ∀ q : Nat, q < H.size → H1[q]? = H[q]? := fun q hq => by rw [← hH1, Array.getElem?_push, if_neg (Nat.ne_of_lt hq)]
  have hw' : Wd g (upr ρ nm H.size) (up h nm (a, N, fun _ => vN)) s H1 := hw.mk hn (cOK.mkAr (by show ¬ a < 14; omega) (by show a < 25; omega) e1) (fun j => trivial) (by omega) o1
  have k1 := kk p l e R s m args below meth c g Qf D0 ρ0 C hR (upr ρ nm H.size) ls H1 locs (fun x hx => ⟨up_dom (hK x hx).1, by rw [re x (hK x hx).1]; exact (hK x hx).2⟩) (hL.mono fun x hx => ⟨up_dom hx, re x hx⟩) ((hW.tl.mono fun x hx => up_dom hx).cons (show up h nm _ nm ≠ none by rw [up_self]; exact fun q => by cases q)) hw' hlo
  have e2 : (vR nm :: st).map (tr (upr ρ nm H.size)) = .ref H.size :: st.map (tr ρ) := by
    show tr _ (vR nm) :: _ = _
    rw [hW.tl.trs re]
    show Value.ref (upr ρ nm H.size nm) :: _ = _
    unfold upr
    rw [if_pos rfl]
  rw [e2] at k1
  exact k1
/-- a cast of an object to its own class, or of null -/
theorem s_cast {idx ci ln : Nat} {nm : Nm} {f : Nat → PV} (d : Dc M pc (.checkcast idx) 3 pc') (hci : ci < 14) (hl : Cond.classLink M.1.cls idx (cS ci) ∈ TB) (hc : h nm = some (ci, ln, f)) (kk : S M lvl mc ms Q pc' lv (vR nm :: st) h k n) : S M lvl mc ms Q pc lv (vR nm :: st) h k n := by
  intro p l e R s m args below meth c g Qf D0 ρ0 C hR ρ ls H locs hK hL hW hw hlo
  obtain ⟨d, rfl⟩ := d
  obtain ⟨cv, q1, q2, q3, -⟩ := (hw.1 nm _ hc).1.ob hci
  obtain ⟨-, hfc⟩ := C.2.2.2.2.2.1.1 ci hci
  exact va_castS C.1 C.2.1 C.2.2.2.1 (C.2.2.2.2.1 _ hl) hfc ⟨cv, q1, by rw [q3]; rfl, by rw [q2]; exact hfc.1⟩ d (kk p l e R s m args below meth c g Qf D0 ρ0 C hR ρ ls H locs hK hL hW hw hlo)
end MK
end
section
/-- the room of a method -/
abbrev rmL (lvl mc ms : Nat) : Room := { frames := lvl, cells := mc, slots := ms, locals := 40 * lvl }
def PcL (g : Gl) (ρ : Nm → Nat) (h : Hp) (as : List PV) : Array Value → State → Prop := fun a U => a = (as.map (tr ρ)).toArray ∧ Wd g ρ h U U.heap ∧ KB g U
def QcL (g : Gl) (ρ : Nm → Nat) (h : Hp) (Q : Option PV → Hp → Prop) : Array Value → State → Outcome → State → Prop := fun _ _ o t => ∃ (ρ' : Nm → Nat) (v : Option PV) (h' : Hp), (∀ n, h n ≠ none → h' n ≠ none ∧ ρ' n = ρ n) ∧ o = .returned (v.map (tr ρ')) ∧ Wd g ρ' h' t t.heap ∧ (∀ w, v = some w → wfv h' w) ∧ Q v h'
/-- A CONTRACT: from the heap h, with these arguments, the method comes back, with Q of its answer and the heap -/
def Con (M : MD) (lvl mc ms : Nat) (as : List PV) (h : Hp) (Q : Option PV → Hp → Prop) : Prop :=
  ∀ (l : Launch) (g : Gl) (ρ : Nm → Nat), Ws h as → Met l M.1 (Cond.code M.1 M.2.1 M.2.2.1 M.2.2.2 :: TB) (rmL lvl mc ms) (PcL g ρ h as) (QcL g ρ h Q) mc ms (fun q => gz g ≤ q)
theorem Con.mono {M : MD} {lvl mc ms : Nat} {as : List PV} {h : Hp} {Q Q' : Option PV → Hp → Prop} (H : Con M lvl mc ms as h Q) (hq : ∀ v h', Q v h' → Q' v h') : Con M lvl mc ms as h Q' := by
  intro l g ρ hw
  have H1 := H l g ρ hw
  unfold Met at H1 ⊢
  intro p e ha hc hk s m args below hf happ hpre hK
  obtain ⟨k, o, h1, h2, h3, ⟨⟨ρ', v, h', q1, q2, q3, q4, q5⟩, hL⟩⟩ := H1 p e ha hc hk s m args below hf happ hpre hK
  exact ⟨k, o, h1, h2, h3, ⟨ρ', v, h', q1, q2, q3, q4, hq v h' q5⟩, hL⟩
theorem ret_narrow {x : Int32} (h : x = 0 ∨ x = 1) : narrow .boolean (.int x) = .int x := by rcases h with rfl | rfl <;> decide +kernel
theorem argsLo {ρ : Nm → Nat} {h : Hp} : ∀ (as : List PV) (i : Nat), (∀ v ∈ as, isL v = false) → ∀ (k : Nat) (v : PV), as[k]? = some v → (i + k, tr ρ v) ∈ lv_args i (as.map (tr ρ))
  | [], i, _, k, v, hk => by simp at hk
  | a :: as, i, ha, k, v, hk => by
    have hc : (tr ρ a).category = 1 := cat1 (ha a List.mem_cons_self)
    show (i + k, tr ρ v) ∈ (i, tr ρ a) :: lv_args (if (tr ρ a).category = 2 then i + 2 else i + 1) (as.map (tr ρ))
    rw [hc, if_neg (by decide)]
    cases k with
    | zero =>
      simp at hk
      subst hk
      exact List.mem_cons_self
    | succ k =>
      refine List.mem_cons_of_mem _ ?_
      have := argsLo (ρ := ρ) (h := h) as (i + 1) (fun v hv => ha v (List.mem_cons_of_mem _ hv)) k v (by simpa using hk)
      rw [show i + (k + 1) = i + 1 + k by omega]
      exact this
theorem argsLen {ρ : Nm → Nat} : ∀ (as : List PV), (∀ v ∈ as, isL v = false) → (lg_sl (as.map (tr ρ))).length = as.length
  | [], _ => rfl
  | a :: as, ha => by
    have hc : (tr ρ a).category = 1 := cat1 (ha a List.mem_cons_self)
    have ih := argsLen (ρ := ρ) as (fun v hv => ha v (List.mem_cons_of_mem _ hv))
    unfold lg_sl at ih ⊢
    simp [hc, ih]
def noL (as : List PV) : Bool := as.all fun v => !isL v
/-- the locals at the start -/
def lv0 (as : List PV) (nL : Nat) : List (Option PV) := as.map some ++ List.replicate (nL - as.length) none
theorem c_enter {M : MD} {lvl mc ms : Nat} {as : List PV} {h : Hp} {Q : Option PV → Hp → Prop} (hp : plainName M.1.cls = true) (hn : noL as = true) (hl : Nat.ble as.length M.2.2.1 = true) (kk : S M lvl mc ms Q 0 (lv0 as M.2.2.1) [] h 0 0) : Con M lvl mc ms as h Q := by
  intro l g ρ hws
  have hn' : ∀ v ∈ as, isL v = false := fun v hv => by
    have := List.all_eq_true.mp hn v hv
    simpa using this
  have hl' := Nat.le_of_ble_eq_true hl
  refine Met.ofW (cc := M.2.1) (maxL := M.2.2.1) (ret := M.2.2.2) hp rfl ?_
  intro p e s m args below meth c s₁ B hml hv
  obtain ⟨rfl, hw, hkb⟩ := hv
  have hts0 := atoms_spec (ws := Cond.code M.1 M.2.1 M.2.2.1 M.2.2.2 :: TB) B.pre
  have C : Cx M lvl mc ms p (headSpec (Cond.code M.1 M.2.1 M.2.2.1 M.2.2.2 :: TB) (rmL lvl mc ms)).room s m (as.map (tr ρ)).toArray meth c g :=
    ⟨B.exec, B.bytes, hml, findClass_of_methodNamed B.named, fun w hw => hts0 w (List.mem_cons_of_mem _ hw), hkb, (name_of_methodNamed B.named B.method).1, ⟨Nat.le_refl _, Nat.le_refl _⟩, Nat.le_refl _, Nat.le_refl _⟩
  have hlen := argsLen (ρ := ρ) as hn'
  have hent := lv_entry (as.map (tr ρ)) (n := M.2.2.1) (by rw [hlen]; exact hl')
  rw [lg_entry_eq]
  refine kk p l e _ s m _ below meth c g _ (fun n => h n ≠ none) ρ C ?_ ρ _ s.heap [] (fun n hn => ⟨hn, rfl⟩) ⟨hent.1, hent.2.1, fun k v hk => ?_⟩ Ws.nil hw (fun q hq => by cases hq)
  · intro ri v ρ' h' H locs pc ls hro hd hK hw' hwf hlo hq
    have hQ : ∀ t : State, t.heap = H → s.WarmedH t.vm → QcL g ρ h Q (as.map (tr ρ)).toArray s (.returned (v.map (tr ρ'))) t := fun t ht hW => ⟨ρ', v, h', hK, rfl, by rw [ht]; exact hw'.moved hW.alike, hwf, hq⟩
    rcases hro with ⟨rfl, x, rfl, hr | ⟨hr, hx⟩⟩ | ⟨rfl, o, rfl, rt, hr, hrt⟩ | ⟨rfl, rfl, hr⟩
    · exact W.iret B.exec B.bytes (B.returns.trans hr) hQ hlo hd B.notSynchronized
    · exact W.zret B.exec B.bytes (B.returns.trans hr) (ret_narrow hx) hQ hlo hd B.notSynchronized
    · exact W.aret B.exec B.bytes (B.returns.trans hr) hrt (by cases o with | none => exact Or.inl rfl | some a => exact Or.inr ⟨_, rfl⟩) hQ hlo hd B.notSynchronized
    · exact W.vret B.exec B.bytes (B.returns.trans hr) hQ hlo hd B.notSynchronized
  · have hka : as[k]? = some v := by
      unfold lv0 at hk
      by_cases hkl : k < as.length
      · rw [List.getElem?_append_left (by simpa using hkl), List.getElem?_map] at hk
        cases hv : as[k]? with
        | none => rw [hv] at hk; cases hk
        | some w => rw [hv] at hk; simp at hk; rw [hk]
      · rw [List.getElem?_append_right (by simpa using Nat.not_lt.mp hkl), List.getElem?_replicate] at hk
        split at hk <;> cases hk
    have hm := List.mem_of_getElem? hka
    refine ⟨?_, hws v hm, hn' v hm⟩
    have := hent.2.2 _ (argsLo (ρ := ρ) (h := h) as 0 hn' k v hka)
    simpa using this
/-- what a call needs of the tables -/
def CB (M' : MD) (na : Nat) : Prop := Cond.code M'.1 M'.2.1 M'.2.2.1 M'.2.2.2 ∈ TB ∧ Cond.initialized M'.1.cls ∈ TB ∧ (M'.1.cls ≠ "java/lang/invoke/MethodHandle" ∧ M'.1.cls ≠ "java/lang/invoke/VarHandle" ∧ (parseMethodDescriptor M'.1.desc).map (fun d => d.parameters.length) = some na) ∧ Nat.ble M'.2.2.1 21 = true
theorem tb_good : ∀ w ∈ TB, goodWord w = true := fun w hw => (List.mem_filter.mp hw).2
theorem cb_good {M' : MD} {na : Nat} (B : CB M' na) : GoodIn TB (Cond.code M'.1 M'.2.1 M'.2.2.1 M'.2.2.2 :: TB) := fun w hw => by
  have hm : w ∈ TB := by
    rcases List.mem_cons.mp hw with rfl | h
    · exact B.1
    · exact h
  exact ⟨hm, good_of_word (tb_good w hm)⟩
section CL
variable {M M' : MD} {lvl lvl' mc ms mc' ms' : Nat} {Q P : Option PV → Hp → Prop} {pc pc' tgt : Nat} {lv : List (Option PV)} {st : List PV} {h : Hp} {k n : Nat}
theorem pcL_blind {g : Gl} {ρ : Nm → Nat} {h : Hp} {as : List PV} : FrameBlind (PcL g ρ h as) := fun a U gg mk q => ⟨q.1, Wd.moved (u := U) (U := U.calling gg mk a) (Vm.Alike.refl U.vm) q.2.1, KB.same (s := U) (U := U.calling gg mk a) rfl q.2.2⟩
theorem pcL_pre {g : Gl} {ρ : Nm → Nat} {h : Hp} {as : List PV} {s : State} {H : Heap} (hw : Wd g ρ h s H) (hkb : KB g s) : ∀ U : State, U.heap = H → s.WarmedH U.vm → PcL g ρ h as (as.map (tr ρ)).toArray U := fun U hU hW => ⟨rfl, by rw [hU]; exact hw.moved hW.alike, hkb.moved hW⟩
/-- behind a call -/
theorem s_back {p : Program} {l : Launch} {e : Env} {R : Room} {s : State} {m : MethodId} {args : Array Value} {below : List Frame} {meth : Method} {c : Code} {g : Gl} {Qf : State → Prop} {D0 : Nm → Prop} {ρ0 ρ : Nm → Nat} {ls : Array Slot} {H : Heap} {locs : List Loc} {st0 : List Value} {a : Array Value}
    (C : Cx M lvl mc ms p R s m args meth c g) (hR : RetOK M mc ms Q p l e R s m args below meth c g Qf D0 ρ0) (hK : Kp D0 ρ0 h ρ) (hL : Lo M.2.2.1 ρ h ls lv) (hW : Ws h st) (hlo : ∀ q ∈ locs, gz g ≤ q.base)
    (hr : va_Run p l e R s m args below meth c H locs k n mc' ms' (F0 m pc ls st0) (st.map (tr ρ)) (QcL g ρ h P a) (fun q => gz g ≤ q)) (kk : ∀ v h', P v h' → S M lvl mc ms Q (pc + 3) lv (v.toList ++ st) h' (k + mc') (n + ms')) :
    W p l e R s m args below meth c H locs k n Qf (F0 m pc ls st0) := by
  intro T hT X
  obtain ⟨v, st₀, t, T', L, h0, X', hLq, e1, e2, ⟨ρ', v', h', q1, q2, q3, q4, q5⟩, go⟩ := hr T hT X
  cases q2
  have hvm : s.vm.Alike t.vm := by rw [← e2]; exact X'.warmed.alike
  have k1 := kk v' h' q5 p l e R s m args below meth c g Qf D0 ρ0 C hR ρ' ls T'.heap (locs ++ L) (fun x hx => ⟨(q1 x (hK x hx).1).1, by rw [(q1 x (hK x hx).1).2]; exact (hK x hx).2⟩) (hL.mono q1)
    (Ws.app (fun x hx => by cases v' with | none => cases hx | some w => rw [List.mem_singleton.mp hx]; exact q4 w rfl) (hW.mono fun x hx => (q1 x hx).1)) (by rw [e1]; exact q3.moved hvm.symm) (fun q hq => by
      rcases List.mem_append.mp hq with a | a
      · exact hlo q a
      · exact hLq q a)
  have e3 : (v'.toList ++ st).map (tr ρ') = (v'.map (tr ρ')).toList ++ st.map (tr ρ) := by
    rw [List.map_append, hW.trs fun x hx => (q1 x hx).2]
    cases v' <;> rfl
  rw [e3] at k1
  obtain ⟨t2, a1, b1⟩ := k1 T' rfl X'
  exact ⟨t2, go t2 a1, b1⟩
def rest8 (st : List PV) : Bool := Nat.ble ((st.map fun v => if isL v then 2 else 1).sum) 8
theorem rest_ok {ρ : Nm → Nat} {st : List PV} (h : rest8 st = true) {m : MethodId} {pc : Nat} {ls : Array Slot} {r0 : List Value} : 2 * (F0 m pc ls r0).monitorRoom + ((st.map (tr ρ)).map fun v => v.category).sum ≤ 8 := by
  refine lv_room ?_
  have e : (st.map (tr ρ)).map (fun v => v.category) = st.map fun v => if isL v then 2 else 1 := by
    rw [List.map_map]
    refine List.map_congr_left fun v _ => ?_
    match v with
    | .inl _ => rfl
    | .inr (.inl _) => rfl
    | .inr (.inr none) => rfl
    | .inr (.inr (some _)) => rfl
  rw [e]
  exact Nat.le_of_ble_eq_true h
def CV (own : String) (idx ci : Nat) (M' : MD) (na : Nat) : Prop := CB M' na ∧ ci < 14 ∧ M'.1.cls = cS ci ∧ Cond.instanceMethod M'.1 ∈ TB ∧ Cond.selects (cS ci) M'.1 M'.1 ∈ TB ∧ (Cond.methodLink own idx M'.1 ∈ TB ∨ ∃ host, Cond.methodLinkNest own idx M'.1 host ∈ NT)
def CS (own : String) (idx : Nat) (M' : MD) (na : Nat) : Prop := CB M' na ∧ Cond.static M'.1 ∈ TB ∧ (Cond.methodLink own idx M'.1 ∈ TB ∨ ∃ host, Cond.methodLinkNest own idx M'.1 host ∈ NT)
def CI (own : String) (idx : Nat) (M' : MD) (na : Nat) : Prop := CB M' na ∧ M'.1.name = "<init>" ∧ M'.2.2.2 = none ∧ Cond.instanceMethod M'.1 ∈ TB ∧ (Cond.methodLink own idx M'.1 ∈ TB ∨ ∃ host, Cond.methodLinkNest own idx M'.1 host ∈ NT)
theorem lvl_room {R : Room} {mL : Nat} (h : lvl ≤ R.frames ∧ 40 * lvl ≤ R.locals) (hl : lvl' < lvl) (hm : Nat.ble mL 21 = true) : (rmL lvl' mc' ms').frames + 1 ≤ R.frames ∧ 8 + (mL + 11) + (rmL lvl' mc' ms').locals ≤ R.locals := by
  have := Nat.le_of_ble_eq_true hm
  constructor
  · show lvl' + 1 ≤ _
    omega
  · show 8 + (mL + 11) + 40 * lvl' ≤ _
    omega
theorem s_callV {idx ci len : Nat} {As : List PV} {nm : Nm} {f : Nat → PV} (d : Dc M pc (.invokevirtual idx) 3 pc') (V : CV M.1.cls idx ci M' As.length) (hc : h nm = some (ci, len, f)) (K : Con M' lvl' mc' ms' (vR nm :: As) h P) (hl : Nat.blt lvl' lvl = true) (h1 : Nat.ble (k + mc') mc = true) (h2 : Nat.ble (n + ms') ms = true) (h8 : rest8 st = true)
    (kk : ∀ v h', P v h' → S M lvl mc ms Q pc' lv (v.toList ++ st) h' (k + mc') (n + ms')) : S M lvl mc ms Q pc lv (As.reverse ++ vR nm :: st) h k n := by
  intro p l e R s m args below meth c g Qf D0 ρ0 C hR ρ ls H locs hK hL hW hw hlo
  obtain ⟨d, rfl⟩ := d
  obtain ⟨vB, v1, v2, v3, v4, v5⟩ := V
  have hWa : Ws h As := (Ws.left hW).rev
  have hWr := (Ws.right hW)
  have hM := K l g ρ (hWa.cons hWr.hd)
  obtain ⟨hx, hb, hml, hown, hts, hkb, -, hlv, h9, h10⟩ := id C
  obtain ⟨cv, q1, q2, q3, -⟩ := (hw.1 nm _ hc).1.ob v1
  have hrec : ∃ cellB : Cell, H[ρ nm]? = some cellB ∧ cellB.vm.isStatics = false ∧ s.vm.findClass (cS ci) = some cellB.cls := ⟨cv, q1, by rw [q3]; rfl, by rw [q2]; exact (hkb.1 ci v1).2.1⟩
  have hpre : PreV s H (cS ci) (ρ nm) (PcL g ρ h (vR nm :: As)) (As.map (tr ρ)) := ⟨pcL_blind, hrec, fun U a b => pcL_pre hw hkb U a b⟩
  have hst : (As.reverse ++ vR nm :: st).map (tr ρ) = (As.map (tr ρ)).reverse ++ .ref (ρ nm) :: st.map (tr ρ) := by simp [List.map_reverse]; rfl
  rw [hst]
  have hrm := lvl_room (mc' := mc') (ms' := ms') hlv (Nat.le_of_ble_eq_true hl) vB.2.2.2
  have hf : k + mc' ≤ R.cells ∧ n + ms' ≤ R.slots := ⟨Nat.le_trans (Nat.le_of_ble_eq_true h1) h9, Nat.le_trans (Nat.le_of_ble_eq_true h2) h10⟩
  refine s_back (P := P) C hR hK hL hWr.tl hlo (a := (Value.ref (ρ nm) :: As.map (tr ρ)).toArray) ?_ kk
  rcases v5 with v5 | ⟨host, v5⟩
  · refine va_runV (Ts := TB) (own := M.1.cls) (n := As.length) ⟨hx, hb, hml, hown, hts⟩ hM ⟨callB_of _ hts (cb_good vB) rfl rfl rfl (hts _ vB.2.1) (hts _ v5) vB.2.2.1 hrm, hts _ v3, hts _ v4⟩ hpre rfl (by simp) hL.1 rfl (rest_ok h8) d hf
  · refine va_runVN (Ts := TB) (own := M.1.cls) (n := As.length) ⟨hx, hb, hml, hown, hts⟩ hM ⟨va_cnB _ hts (cb_good vB) rfl rfl rfl (hkb.2.2.2.2.1 _ v5) (hts _ vB.2.1) vB.2.2.1 hrm, hts _ v3, hts _ v4⟩ hpre rfl (by simp) hL.1 rfl (rest_ok h8) d hf
theorem s_callS {idx : Nat} {As : List PV} (d : Dc M pc (.invokestatic idx) 3 pc') (V : CS M.1.cls idx M' As.length) (K : Con M' lvl' mc' ms' As h P) (hl : Nat.blt lvl' lvl = true) (h1 : Nat.ble (k + mc') mc = true) (h2 : Nat.ble (n + ms') ms = true) (h8 : rest8 st = true)
    (kk : ∀ v h', P v h' → S M lvl mc ms Q pc' lv (v.toList ++ st) h' (k + mc') (n + ms')) : S M lvl mc ms Q pc lv (As.reverse ++ st) h k n := by
  intro p l e R s m args below meth c g Qf D0 ρ0 C hR ρ ls H locs hK hL hW hw hlo
  obtain ⟨d, rfl⟩ := d
  obtain ⟨vB, v3, v5⟩ := V
  have hWa : Ws h As := (Ws.left hW).rev
  have hWr := (Ws.right hW)
  have hM := K l g ρ hWa
  obtain ⟨hx, hb, hml, hown, hts, hkb, -, hlv, h9, h10⟩ := id C
  have hpre : PreS s H (PcL g ρ h As) (As.map (tr ρ)) := ⟨pcL_blind, fun U a b => pcL_pre hw hkb U a b⟩
  have hst : (As.reverse ++ st).map (tr ρ) = (As.map (tr ρ)).reverse ++ st.map (tr ρ) := by simp [List.map_reverse]
  rw [hst]
  have hrm := lvl_room (mc' := mc') (ms' := ms') hlv (Nat.le_of_ble_eq_true hl) vB.2.2.2
  have hf : k + mc' ≤ R.cells ∧ n + ms' ≤ R.slots := ⟨Nat.le_trans (Nat.le_of_ble_eq_true h1) h9, Nat.le_trans (Nat.le_of_ble_eq_true h2) h10⟩
  refine s_back (P := P) C hR hK hL hWr hlo (a := (As.map (tr ρ)).toArray) ?_ kk
  rcases v5 with v5 | ⟨host, v5⟩
  · refine va_runS (Ts := TB) (own := M.1.cls) (n := As.length) ⟨hx, hb, hml, hown, hts⟩ hM ⟨callB_of _ hts (cb_good vB) rfl rfl rfl (hts _ vB.2.1) (hts _ v5) vB.2.2.1 hrm, hts _ v3⟩ hpre rfl (by simp) hL.1 rfl (rest_ok h8) d hf
  · refine va_runSN (Ts := TB) (own := M.1.cls) (n := As.length) ⟨hx, hb, hml, hown, hts⟩ hM ⟨va_cnB _ hts (cb_good vB) rfl rfl rfl (hkb.2.2.2.2.1 _ v5) (hts _ vB.2.1) vB.2.2.1 hrm, hts _ v3, trivial⟩ hpre rfl (by simp) hL.1 rfl (rest_ok h8) d hf
theorem s_callI {idx : Nat} {As : List PV} {nm : Nm} (d : Dc M pc (.invokespecial idx) 3 pc') (V : CI M.1.cls idx M' As.length) (K : Con M' lvl' mc' ms' (vR nm :: As) h P) (hl : Nat.blt lvl' lvl = true) (h1 : Nat.ble (k + mc') mc = true) (h2 : Nat.ble (n + ms') ms = true) (h8 : rest8 st = true)
    (kk : ∀ v h', P v h' → S M lvl mc ms Q pc' lv (v.toList ++ st) h' (k + mc') (n + ms')) : S M lvl mc ms Q pc lv (As.reverse ++ vR nm :: st) h k n := by
  intro p l e R s m args below meth c g Qf D0 ρ0 C hR ρ ls H locs hK hL hW hw hlo
  obtain ⟨d, rfl⟩ := d
  obtain ⟨vB, v1, v2, v3, v5⟩ := V
  have hWa : Ws h As := (Ws.left hW).rev
  have hWr := (Ws.right hW)
  have hM := K l g ρ (hWa.cons hWr.hd)
  obtain ⟨hx, hb, hml, hown, hts, hkb, -, hlv, h9, h10⟩ := id C
  have hpre : PreS s H (PcL g ρ h (vR nm :: As)) (.ref (ρ nm) :: As.map (tr ρ)) := ⟨pcL_blind, fun U a b => pcL_pre hw hkb U a b⟩
  have hst : (As.reverse ++ vR nm :: st).map (tr ρ) = (As.map (tr ρ)).reverse ++ .ref (ρ nm) :: st.map (tr ρ) := by simp [List.map_reverse]; rfl
  rw [hst]
  have hrm := lvl_room (mc' := mc') (ms' := ms') hlv (Nat.le_of_ble_eq_true hl) vB.2.2.2
  have hf : k + mc' ≤ R.cells ∧ n + ms' ≤ R.slots := ⟨Nat.le_trans (Nat.le_of_ble_eq_true h1) h9, Nat.le_trans (Nat.le_of_ble_eq_true h2) h10⟩
  have hG := cb_good vB
  obtain ⟨vB1, vB2, vB3, vB4⟩ := vB
  rw [v2] at hM hG
  refine s_back (P := P) C hR hK hL hWr.tl hlo (a := (Value.ref (ρ nm) :: As.map (tr ρ)).toArray) ?_ kk
  rcases v5 with v5 | ⟨host, v5⟩
  · refine va_runI (Ts := TB) (own := M.1.cls) (n := As.length) ⟨hx, hb, hml, hown, hts⟩ hM ⟨callB_of _ hts hG rfl rfl rfl (hts _ vB2) (hts _ v5) vB3 hrm, v1, hts _ v3⟩ hpre rfl (by simp) hL.1 rfl (rest_ok h8) d hf
  · refine va_runIN (Ts := TB) (own := M.1.cls) (n := As.length) ⟨hx, hb, hml, hown, hts⟩ hM ⟨va_cnB _ hts hG rfl rfl rfl (hkb.2.2.2.2.1 _ v5) (hts _ vB2) vB3 hrm, v1, hts _ v3⟩ hpre rfl (by simp) hL.1 rfl (rest_ok h8) d hf
/-- Object's own constructor -/
theorem s_objInit {idx : Nat} {nm : Nm} (d : Dc M pc (.invokespecial idx) 3 pc') (V : Cond.methodLink M.1.cls idx objectInit ∈ TB ∧ Cond.instanceMethod objectInit ∈ TB ∧ Cond.code objectInit ⟨#[0xb1]⟩ 1 none ∈ TB) (hl : Nat.ble 1 lvl = true) (h8 : rest8 st = true) (kk : S M lvl mc ms Q pc' lv st h k n) : S M lvl mc ms Q pc lv (vR nm :: st) h k n := by
  intro p l e R s m args below meth c g Qf D0 ρ0 C hR ρ ls H locs hK hL hW hw hlo
  obtain ⟨d, rfl⟩ := d
  obtain ⟨hx, hb, hml, hown, hts, hkb, -, hlv, h9, h10⟩ := id C
  have hl' := Nat.le_of_ble_eq_true hl
  have h8' := rest_ok (ρ := ρ) h8 (m := m) (pc := pc) (ls := ls) (r0 := st.map (tr ρ))
  refine W.objInit hx hb hown (hts _ V.1) (hts _ V.2.1) (hts _ V.2.2) rfl (by rw [hml]; exact hL.1) rfl d (Nat.le_trans hl' hlv.1) ?_ (kk p l e R s m args below meth c g Qf D0 ρ0 C hR ρ ls H locs hK hL hW.tl hw hlo)
  have h9' : (F0 m pc ls (st.map (tr ρ))).monitorRoom = 0 := rfl
  show 2 * 0 + _ + 12 ≤ _
  rw [h9'] at h8'
  omega
end CL
end
section
/-- a run of a row copied into a row -/
def cpy (f g : Nat → PV) (sp dp n : Nat) : Nat → PV := fun j => if dp ≤ j ∧ j < dp + n then f (sp + (j - dp)) else g j
theorem cpy_tr (ρ : Nm → Nat) (f g : Nat → PV) (sp dp n : Nat) : (fun j => tr ρ (cpy f g sp dp n j)) = va_cpy (fun j => tr ρ (f j)) (fun j => tr ρ (g j)) sp dp n := by
  funext j
  unfold cpy va_cpy
  split <;> rfl
theorem cl_int (z : Int32) (hz : ¬ z < 0) : z.toInt = (z.toNatClampNeg : Int) := by
  have hz0 : (0 : Int) ≤ z.toInt := by
    have := Int32.not_lt.mp hz
    simpa using Int32.le_iff_toInt_le.mp this
  show z.toInt = ((z.toInt.toNat : Nat) : Int)
  omega
/-- an element of a row of objects -/
def isOb (h : Hp) (v : PV) : Prop := v = vN ∨ ∃ (y : Nm) (ci ln : Nat) (fv : Nat → PV), v = vR y ∧ h y = some (ci, ln, fv) ∧ ci < 14 ∧ Cond.castable (cS ci) "java/lang/Object" ∈ NT
section CP
variable {M : MD} {lvl mc ms : Nat} {Q : Option PV → Hp → Prop} {pc pc' tgt : Nat} {lv : List (Option PV)} {st : List PV} {h : Hp} {k n : Nat}
def CY (own : String) (idx : Nat) : Prop := Cond.methodLink own idx arraycopyName ∈ TB ∧ Cond.native arraycopyName ∈ TB ∧ Cond.static arraycopyName ∈ TB ∧ Cond.initialized "java/lang/System" ∈ TB
theorem s_copy0 {idx a ns nd : Nat} {f g0 : Nat → PV} {src dst : Nm} {sp dp m0 : Int32} (d : Dc M pc (.invokestatic idx) 3 pc') (Y : CY M.1.cls idx) (hs : h src = some (a, ns, f)) (hd : h dst = some (a, nd, g0)) (ha : a = 20 ∨ a = 22) (h3 : Nat.ble 2 dst.1 = true)
    (b1 : ¬ sp < 0) (b2 : ¬ dp < 0) (b3 : ¬ m0 < 0) (b4 : sp.toNatClampNeg + m0.toNatClampNeg ≤ ns) (b5 : dp.toNatClampNeg + m0.toNatClampNeg ≤ nd) (hel : ∀ i, i < m0.toNatClampNeg → (a = 20 → ∃ x, f (sp.toNatClampNeg + i) = vI x) ∧ (a = 22 → isOb h (f (sp.toNatClampNeg + i)))) (hl : Nat.ble 1 lvl = true) (h8 : rest8 st = true)
    (kk : S M lvl mc ms Q pc' lv st (up h dst (a, nd, cpy f g0 sp.toNatClampNeg dp.toNatClampNeg m0.toNatClampNeg)) k n) : S M lvl mc ms Q pc lv (vI m0 :: vI dp :: vR dst :: vI sp :: vR src :: st) h k n := by
  intro p l e R s m args below meth c g Qf D0 ρ0 C hR ρ ls H locs hK hL hW hw hlo
  obtain ⟨d, rfl⟩ := d
  have hn : h dst ≠ none := by rw [hd]; exact fun q => by cases q
  have h3 : 2 ≤ dst.1 := Nat.le_of_ble_eq_true h3
  have a1 : ¬ a < 14 := by omega
  have a2 : a < 25 := by omega
  have h20 : Nat.ble 20 a = true := by rcases ha with rfl | rfl <;> rfl
  have h24 : Nat.ble a 24 = true := by rcases ha with rfl | rfl <;> rfl
  obtain ⟨hx, hb, hml, hown, hts, hkb, -, hlv, h9, h10⟩ := id C
  obtain ⟨kA, comp, r1, r2, r3, r4, -⟩ := aK.of hkb h20 h24
  have hc0 := (hw.1 src _ hs).1.ar a1 a2
  have hc1 := (hw.1 dst _ hd).1.ar a1 a2
  have hl' := Nat.le_of_ble_eq_true hl
  have h8' := rest_ok (ρ := ρ) h8 (m := m) (pc := pc) (ls := ls) (r0 := st.map (tr ρ))
  have h9' : (F0 m pc ls (st.map (tr ρ))).monitorRoom = 0 := rfl
  rw [h9'] at h8'
  have hnf : nativeFrameWords "java/lang/System" "arraycopy" 5 ≤ 20 := by decide +kernel
  intro T hT X
  obtain ⟨vm', X', step⟩ := X.arraycopy hx hown (hts _ Y.1) (hts _ Y.2.1) (hts _ Y.2.2.1) (hts _ Y.2.2.2) (src := ρ src) (dst := ρ dst) (srcPos := sp) (destPos := dp) (n := m0) (by rw [hT]; exact hc0) (by rw [hT]; exact hc1)
    (fun _ h => by cases h) (fun _ h => by cases h) (fun h => by cases h) (fun h => by cases h) r1 r1 r2 r2 (by rcases ha with rfl | rfl <;> rfl) b1 b2 b3
    (by rw [cl_int sp b1, cl_int m0 b3, arrV_size]; show ¬ _ > (ns : Int); omega)
    (by rw [cl_int dp b2, cl_int m0 b3, arrV_size]; show ¬ _ > (nd : Int); omega)
    (fun vm₁ hal i hi => by
      have e0 : (arrV (gA g a) ns (fun j => tr ρ (f j))).slots.getD (sp.toNatClampNeg + i) .null = tr ρ (f (sp.toNatClampNeg + i)) := by
        rw [Array.getD_eq_getD_getElem?, arrV_read _ _ (by omega)]
        rfl
      rw [e0]
      rcases ha with rfl | rfl
      · obtain ⟨x, hx0⟩ := (hel i hi).1 rfl
        rw [hx0]
        exact ⟨rfl, trivial⟩
      · rcases (hel i hi).2 rfl with hv | ⟨y, ci, ln, fv, hv, hy, hci, hca⟩
        · rw [hv]
          exact ⟨rfl, trivial⟩
        · rw [hv]
          obtain ⟨cv, q1, q2, q3, -⟩ := (hw.1 y _ hy).1.ob hci
          obtain ⟨-, hfc, kC, hkC, hkind⟩ := hkb.1 ci hci
          have f0 := r4 _ rfl
          obtain ⟨kE, hkE, -⟩ := Vm.findClass_spec f0
          obtain ⟨c0, t0, f1, f2, f3⟩ := Cond.castable_spec (nw_use (args := args) hkb hca)
          cases hfc.symm.trans f1
          cases f0.symm.trans f2
          obtain ⟨kC', hkC', -⟩ := hal.2.2 _ _ hkC
          obtain ⟨kE', hkE', -⟩ := hal.2.2 _ _ hkE
          refine ⟨rfl, cv, (show T.heap[ρ y]? = some cv by rw [hT]; exact q1), (fun q h => by rw [q3] at h; cases h), ⟨kC', by rw [q2]; exact hkC'⟩, ⟨kE', hkE'⟩, ?_⟩
          show vm₁.assignable _ _ = true
          rw [hal.assignable, q2]
          exact f3)
    (g := F0 m pc ls (.int m0 :: .int dp :: .ref (ρ dst) :: .int sp :: .ref (ρ src) :: st.map (tr ρ))) rfl (by rw [hml]; exact hL.1) (rest := st.map (tr ρ)) rfl (by rw [hb]; exact d) (Nat.le_trans hl' hlv.1) (by show 2 * 0 + _ + _ ≤ _; omega)
  have e1 : copied (arrV (gA g a) ns (fun j => tr ρ (f j))) (arrV (gA g a) nd (fun j => tr ρ (g0 j))) sp dp m0 = arrV (gA g a) nd (fun j => tr ρ (cpy f g0 sp.toNatClampNeg dp.toNatClampNeg m0.toNatClampNeg j)) := by
    rw [cpy_tr]
    exact va_copied (fun z => z) (gA g a) (gA g a) (fun j => tr ρ (f j)) (fun j => tr ρ (g0 j)) b4
  have e1' : copied (arrV (gA g ((a, ns, f) : PC).1) ((a, ns, f) : PC).2.1 (fun j => tr ρ (((a, ns, f) : PC).2.2 j))) (arrV (gA g ((a, nd, g0) : PC).1) ((a, nd, g0) : PC).2.1 (fun j => tr ρ (((a, nd, g0) : PC).2.2 j))) sp dp m0 = _ := e1
  rw [e1'] at X' step
  have hlt : ρ dst < H.size := (Array.getElem?_eq_some_iff.mp hc1).1
  generalize hN : arrV (gA g a) nd (fun j => tr ρ (cpy f g0 sp.toNatClampNeg dp.toNatClampNeg m0.toNatClampNeg j)) = N0 at X' step
  have hheap : ((T.setVm vm').setCell (ρ dst) N0).heap = H.setIfInBounds (ρ dst) N0 := by rw [← hT]; rfl
  have oq : ∀ q : Nat, q ≠ ρ dst → (H.setIfInBounds (ρ dst) N0)[q]? = H[q]? := fun q hq => by simp [Array.getElem?_setIfInBounds, Ne.symm hq]
  have hw' : Wd g ρ (up h dst (a, nd, cpy f g0 sp.toNatClampNeg dp.toNatClampNeg m0.toNatClampNeg)) s (H.setIfInBounds (ρ dst) N0) := hw.put hn h3 (cOK.mkAr a1 a2 (by rw [← hN]; simp [Array.getElem?_setIfInBounds, hlt])) (fun j => by
      show wfv h (cpy _ _ _ _ _ j)
      unfold cpy
      split
      · exact (hw.1 src _ hs).2 _
      · exact (hw.1 dst _ hd).2 _) (by simp) oq
  obtain ⟨t, t1, t2⟩ := kk p l e R s m args below meth c g Qf D0 ρ0 C hR ρ ls _ _ (fun x hx => ⟨up_dom (hK x hx).1, (hK x hx).2⟩) (hL.mono fun x hx => ⟨up_dom hx, rfl⟩) (hW.tl.tl.tl.tl.tl.mono fun x hx => up_dom hx) hw' (fun q hq => by
      rcases List.mem_append.mp hq with h | h
      · exact hlo q h
      · obtain ⟨z, -, hz⟩ := List.mem_map.mp h
        rw [← hz]
        exact hw.2.2.1 dst hn h3) _ hheap X'
  exact ⟨t, step t t1, t2⟩
theorem s_ldcI {idx : Nat} {v : Int32} (d : Dc M pc (.ldc idx) 2 pc') (hc : Cond.constant M.1.cls idx v ∈ TB) (kk : S M lvl mc ms Q pc' lv (vI v :: st) h k n) : S M lvl mc ms Q pc lv st h k n := by
  intro p l e R s m args below meth c g Qf D0 ρ0 C hR ρ ls H locs hK hL hW hw hlo
  obtain ⟨d, rfl⟩ := d
  exact lv_ldc C.1 C.2.1 C.2.2.2.1 (C.2.2.2.2.1 _ hc) d (kk p l e R s m args below meth c g Qf D0 ρ0 C hR ρ ls H locs hK hL (hW.cons trivial) hw hlo)
end CP
end
section
def mAL_init : MD := (⟨"java/util/ArrayList", "<init>", "()V"⟩, prog_22_method_2_code, 1, none)
def mAbL_init : MD := (⟨"java/util/AbstractList", "<init>", "()V"⟩, prog_21_method_1_code, 1, none)
def mAbC_init : MD := (⟨"java/util/AbstractCollection", "<init>", "()V"⟩, prog_20_method_1_code, 1, none)
def mAL_size : MD := (⟨"java/util/ArrayList", "size", "()I"⟩, prog_22_method_8_code, 1, (some (.int)))
def mAL_add : MD := (⟨"java/util/ArrayList", "add", "(Ljava/lang/Object;)Z"⟩, prog_22_method_25_code, 2, (some (.boolean)))
def mAL_add1 : MD := (⟨"java/util/ArrayList", "add", "(Ljava/lang/Object;[Ljava/lang/Object;I)V"⟩, prog_22_method_24_code, 4, none)
def mAL_grow : MD := (⟨"java/util/ArrayList", "grow", "()[Ljava/lang/Object;"⟩, prog_22_method_7_code, 1, (some (.array (.object "java/lang/Object"))))
def mAL_grow1 : MD := (⟨"java/util/ArrayList", "grow", "(I)[Ljava/lang/Object;"⟩, prog_22_method_6_code, 4, (some (.array (.object "java/lang/Object"))))
def mASup_newLength : MD := (⟨"jdk/internal/util/ArraysSupport", "newLength", "(III)I"⟩, prog_29_method_27_code, 4, (some (.int)))
def mMth_max : MD := (⟨"java/lang/Math", "max", "(II)I"⟩, prog_18_method_65_code, 2, (some (.int)))
def mASup_hugeLength : MD := (⟨"jdk/internal/util/ArraysSupport", "hugeLength", "(II)I"⟩, prog_29_method_28_code, 3, (some (.int)))
def mArrs_copyOf : MD := (⟨"java/util/Arrays", "copyOf", "([Ljava/lang/Object;I)[Ljava/lang/Object;"⟩, prog_23_method_119_code, 2, (some (.array (.object "java/lang/Object"))))
def mArrs_copyOf1 : MD := (⟨"java/util/Arrays", "copyOf", "([Ljava/lang/Object;ILjava/lang/Class;)[Ljava/lang/Object;"⟩, prog_23_method_120_code, 4, (some (.array (.object "java/lang/Object"))))
def mMth_min : MD := (⟨"java/lang/Math", "min", "(II)I"⟩, prog_18_method_69_code, 2, (some (.int)))
def mAL_get : MD := (⟨"java/util/ArrayList", "get", "(I)Ljava/lang/Object;"⟩, prog_22_method_20_code, 2, (some (.object "java/lang/Object")))
def mObjs_checkIndex : MD := (⟨"java/util/Objects", "checkIndex", "(II)I"⟩, prog_26_method_17_code, 2, (some (.int)))
def mPrec_checkIndex : MD := (⟨"jdk/internal/util/Preconditions", "checkIndex", "(IILjava/util/function/BiFunction;)I"⟩, prog_30_method_11_code, 3, (some (.int)))
def mAL_elementData : MD := (⟨"java/util/ArrayList", "elementData", "(I)Ljava/lang/Object;"⟩, prog_22_method_18_code, 2, (some (.object "java/lang/Object")))
def mAL_clear : MD := (⟨"java/util/ArrayList", "clear", "()V"⟩, prog_22_method_40_code, 4, none)
def mAL_add2 : MD := (⟨"java/util/ArrayList", "add", "(ILjava/lang/Object;)V"⟩, prog_22_method_26_code, 5, none)
def mAL_rangeCheckForAdd : MD := (⟨"java/util/ArrayList", "rangeCheckForAdd", "(I)V"⟩, prog_22_method_45_code, 2, none)
def mAL_remove : MD := (⟨"java/util/ArrayList", "remove", "(I)Ljava/lang/Object;"⟩, prog_22_method_29_code, 4, (some (.object "java/lang/Object")))
def mAL_fastRemove : MD := (⟨"java/util/ArrayList", "fastRemove", "([Ljava/lang/Object;I)V"⟩, prog_22_method_39_code, 4, none)
def mAL_set : MD := (⟨"java/util/ArrayList", "set", "(ILjava/lang/Object;)Ljava/lang/Object;"⟩, prog_22_method_23_code, 4, (some (.object "java/lang/Object")))
theorem cb_AL_init : CB mAL_init 0 := ⟨tb_at 112 (by decide +kernel) (by decide +kernel), tb_at 64 (by decide +kernel) (by decide +kernel), by decide +kernel, by decide +kernel⟩
theorem cb_AbL_init : CB mAbL_init 0 := ⟨tb_at 115 (by decide +kernel) (by decide +kernel), tb_at 63 (by decide +kernel) (by decide +kernel), by decide +kernel, by decide +kernel⟩
theorem cb_AbC_init : CB mAbC_init 0 := ⟨tb_at 118 (by decide +kernel) (by decide +kernel), tb_at 62 (by decide +kernel) (by decide +kernel), by decide +kernel, by decide +kernel⟩
theorem cb_AL_size : CB mAL_size 0 := ⟨tb_at 329 (by decide +kernel) (by decide +kernel), tb_at 64 (by decide +kernel) (by decide +kernel), by decide +kernel, by decide +kernel⟩
theorem cb_AL_add : CB mAL_add 1 := ⟨tb_at 351 (by decide +kernel) (by decide +kernel), tb_at 64 (by decide +kernel) (by decide +kernel), by decide +kernel, by decide +kernel⟩
theorem cb_AL_add1 : CB mAL_add1 3 := ⟨tb_at 355 (by decide +kernel) (by decide +kernel), tb_at 64 (by decide +kernel) (by decide +kernel), by decide +kernel, by decide +kernel⟩
theorem cb_AL_grow : CB mAL_grow 0 := ⟨tb_at 359 (by decide +kernel) (by decide +kernel), tb_at 64 (by decide +kernel) (by decide +kernel), by decide +kernel, by decide +kernel⟩
theorem cb_AL_grow1 : CB mAL_grow1 1 := ⟨tb_at 363 (by decide +kernel) (by decide +kernel), tb_at 64 (by decide +kernel) (by decide +kernel), by decide +kernel, by decide +kernel⟩
theorem cb_ASup_newLength : CB mASup_newLength 3 := ⟨tb_at 366 (by decide +kernel) (by decide +kernel), tb_at 72 (by decide +kernel) (by decide +kernel), by decide +kernel, by decide +kernel⟩
theorem cb_Mth_max : CB mMth_max 2 := ⟨tb_at 369 (by decide +kernel) (by decide +kernel), tb_at 73 (by decide +kernel) (by decide +kernel), by decide +kernel, by decide +kernel⟩
theorem cb_ASup_hugeLength : CB mASup_hugeLength 2 := ⟨tb_at 373 (by decide +kernel) (by decide +kernel), tb_at 72 (by decide +kernel) (by decide +kernel), by decide +kernel, by decide +kernel⟩
theorem cb_Arrs_copyOf : CB mArrs_copyOf 2 := ⟨tb_at 376 (by decide +kernel) (by decide +kernel), tb_at 74 (by decide +kernel) (by decide +kernel), by decide +kernel, by decide +kernel⟩
theorem cb_Arrs_copyOf1 : CB mArrs_copyOf1 3 := ⟨tb_at 397 (by decide +kernel) (by decide +kernel), tb_at 74 (by decide +kernel) (by decide +kernel), by decide +kernel, by decide +kernel⟩
theorem cb_Mth_min : CB mMth_min 2 := ⟨tb_at 403 (by decide +kernel) (by decide +kernel), tb_at 73 (by decide +kernel) (by decide +kernel), by decide +kernel, by decide +kernel⟩
theorem cb_AL_get : CB mAL_get 1 := ⟨tb_at 420 (by decide +kernel) (by decide +kernel), tb_at 64 (by decide +kernel) (by decide +kernel), by decide +kernel, by decide +kernel⟩
theorem cb_Objs_checkIndex : CB mObjs_checkIndex 2 := ⟨tb_at 423 (by decide +kernel) (by decide +kernel), tb_at 76 (by decide +kernel) (by decide +kernel), by decide +kernel, by decide +kernel⟩
theorem cb_Prec_checkIndex : CB mPrec_checkIndex 3 := ⟨tb_at 426 (by decide +kernel) (by decide +kernel), tb_at 77 (by decide +kernel) (by decide +kernel), by decide +kernel, by decide +kernel⟩
theorem cb_AL_elementData : CB mAL_elementData 1 := ⟨tb_at 430 (by decide +kernel) (by decide +kernel), tb_at 64 (by decide +kernel) (by decide +kernel), by decide +kernel, by decide +kernel⟩
theorem cb_AL_clear : CB mAL_clear 0 := ⟨tb_at 549 (by decide +kernel) (by decide +kernel), tb_at 64 (by decide +kernel) (by decide +kernel), by decide +kernel, by decide +kernel⟩
theorem cb_AL_add2 : CB mAL_add2 2 := ⟨tb_at 565 (by decide +kernel) (by decide +kernel), tb_at 64 (by decide +kernel) (by decide +kernel), by decide +kernel, by decide +kernel⟩
theorem cb_AL_rangeCheckForAdd : CB mAL_rangeCheckForAdd 1 := ⟨tb_at 569 (by decide +kernel) (by decide +kernel), tb_at 64 (by decide +kernel) (by decide +kernel), by decide +kernel, by decide +kernel⟩
theorem cb_AL_remove : CB mAL_remove 1 := ⟨tb_at 584 (by decide +kernel) (by decide +kernel), tb_at 64 (by decide +kernel) (by decide +kernel), by decide +kernel, by decide +kernel⟩
theorem cb_AL_fastRemove : CB mAL_fastRemove 2 := ⟨tb_at 588 (by decide +kernel) (by decide +kernel), tb_at 64 (by decide +kernel) (by decide +kernel), by decide +kernel, by decide +kernel⟩
theorem cb_AL_set : CB mAL_set 2 := ⟨tb_at 592 (by decide +kernel) (by decide +kernel), tb_at 64 (by decide +kernel) (by decide +kernel), by decide +kernel, by decide +kernel⟩
def mM_init : MD := (⟨"RuleBooksModel", "<init>", "()V"⟩, prog_14_method_1_code, 1, none)
def mM_kind : MD := (⟨"RuleBooksModel", "kind", "(I)I"⟩, prog_14_method_3_code, 2, (some (.int)))
def mM_isIn : MD := (⟨"RuleBooksModel", "isIn", "(III)Z"⟩, prog_14_method_2_code, 3, (some (.boolean)))
def mM_under : MD := (⟨"RuleBooksModel", "under", "(II)I"⟩, prog_14_method_6_code, 3, (some (.int)))
def mM_isUnder : MD := (⟨"RuleBooksModel", "isUnder", "(II)Z"⟩, prog_14_method_4_code, 4, (some (.boolean)))
def mM_subject : MD := (⟨"RuleBooksModel", "subject", "(I)I"⟩, prog_14_method_7_code, 2, (some (.int)))
def mM_set : MD := (⟨"RuleBooksModel", "set", "(III)I"⟩, prog_14_method_9_code, 5, (some (.int)))
def mM_isSubject : MD := (⟨"RuleBooksModel", "isSubject", "(I)Z"⟩, prog_14_method_8_code, 2, (some (.boolean)))
def mM_value : MD := (⟨"RuleBooksModel", "value", "(II)I"⟩, prog_14_method_10_code, 3, (some (.int)))
def mM_book : MD := (⟨"RuleBooksModel", "book", "(I)I"⟩, prog_14_method_12_code, 2, (some (.int)))
def mM_variable : MD := (⟨"RuleBooksModel", "variable", "(III)I"⟩, prog_14_method_13_code, 4, (some (.int)))
def mM_isBook : MD := (⟨"RuleBooksModel", "isBook", "(I)Z"⟩, prog_14_method_11_code, 2, (some (.boolean)))
def mM_rule : MD := (⟨"RuleBooksModel", "rule", "(III)I"⟩, prog_14_method_14_code, 4, (some (.int)))
def mM_condition : MD := (⟨"RuleBooksModel", "condition", "(IIII)I"⟩, prog_14_method_16_code, 8, (some (.int)))
def mM_isRule : MD := (⟨"RuleBooksModel", "isRule", "(I)Z"⟩, prog_14_method_15_code, 2, (some (.boolean)))
def mM_does : MD := (⟨"RuleBooksModel", "does", "(IIII)I"⟩, prog_14_method_17_code, 6, (some (.int)))
def mM_order : MD := (⟨"RuleBooksModel", "order", "(III)I"⟩, prog_14_method_18_code, 4, (some (.int)))
def mM_row : MD := (⟨"RuleBooksModel", "row", "(II)I"⟩, prog_14_method_27_code, 3, (some (.int)))
def mM_makes : MD := (⟨"RuleBooksModel", "makes", "(I)V"⟩, prog_14_method_24_code, 4, none)
def mM_isAhead : MD := (⟨"RuleBooksModel", "isAhead", "(II)Z"⟩, prog_14_method_20_code, 5, (some (.boolean)))
def mM_deeps : MD := (⟨"RuleBooksModel", "deeps", "(I)I"⟩, prog_14_method_19_code, 5, (some (.int)))
def mM_deep : MD := (⟨"RuleBooksModel", "deep", "(I)I"⟩, prog_14_method_5_code, 4, (some (.int)))
def mM_comes : MD := (⟨"RuleBooksModel", "comes", "(II)V"⟩, prog_14_method_23_code, 4, none)
def mM_nextOrder : MD := (⟨"RuleBooksModel", "nextOrder", "(II)I"⟩, prog_14_method_25_code, 5, (some (.int)))
def mM_moves : MD := (⟨"RuleBooksModel", "moves", "(I)V"⟩, prog_14_method_26_code, 6, none)
def mM_placeOf : MD := (⟨"RuleBooksModel", "placeOf", "(I)I"⟩, prog_14_method_21_code, 3, (some (.int)))
def mM_goes : MD := (⟨"RuleBooksModel", "goes", "(I)V"⟩, prog_14_method_22_code, 3, none)
def mM_run : MD := (⟨"RuleBooksModel", "run", "(II)I"⟩, prog_14_method_34_code, 3, (some (.int)))
def mM_answer : MD := (⟨"RuleBooksModel", "answer", "(II)I"⟩, prog_14_method_35_code, 4, (some (.int)))
def mM_runs : MD := (⟨"RuleBooksModel", "runs", "(II)I"⟩, prog_14_method_29_code, 7, (some (.int)))
def mM_pushes : MD := (⟨"RuleBooksModel", "pushes", "(IZ)V"⟩, prog_14_method_28_code, 4, none)
def mM_fails : MD := (⟨"RuleBooksModel", "fails", "(II)I"⟩, prog_14_method_30_code, 3, (some (.int)))
def mM_applies : MD := (⟨"RuleBooksModel", "applies", "(III)Z"⟩, prog_14_method_31_code, 7, (some (.boolean)))
def mM_isSo : MD := (⟨"RuleBooksModel", "isSo", "(IIIII)Z"⟩, prog_14_method_32_code, 6, (some (.boolean)))
def mM_works : MD := (⟨"RuleBooksModel", "works", "(III)I"⟩, prog_14_method_33_code, 6, (some (.int)))
def mM_trace : MD := (⟨"RuleBooksModel", "trace", "(II)I"⟩, prog_14_method_36_code, 3, (some (.int)))
def mM_erred : MD := (⟨"RuleBooksModel", "erred", "()I"⟩, prog_14_method_37_code, 1, (some (.int)))
def mM_action : MD := (⟨"RuleBooksModel", "action", "(IIIIII)I"⟩, prog_14_method_39_code, 8, (some (.int)))
def mM_isBookOrNone : MD := (⟨"RuleBooksModel", "isBookOrNone", "(I)Z"⟩, prog_14_method_38_code, 2, (some (.boolean)))
def mM_act : MD := (⟨"RuleBooksModel", "act", "(II)I"⟩, prog_14_method_40_code, 6, (some (.int)))
def mM_activity : MD := (⟨"RuleBooksModel", "activity", "(III)I"⟩, prog_14_method_41_code, 4, (some (.int)))
def mM_begin : MD := (⟨"RuleBooksModel", "begin", "(II)I"⟩, prog_14_method_43_code, 4, (some (.int)))
def mM_part : MD := (⟨"RuleBooksModel", "part", "(III)I"⟩, prog_14_method_42_code, 5, (some (.int)))
def mM_middle : MD := (⟨"RuleBooksModel", "middle", "()I"⟩, prog_14_method_44_code, 1, (some (.int)))
def mM_finish : MD := (⟨"RuleBooksModel", "finish", "()I"⟩, prog_14_method_45_code, 1, (some (.int)))
def mM_abandon : MD := (⟨"RuleBooksModel", "abandon", "()I"⟩, prog_14_method_46_code, 1, (some (.int)))
def mM_scene : MD := (⟨"RuleBooksModel", "scene", "(I)I"⟩, prog_14_method_47_code, 2, (some (.int)))
def mM_anchor : MD := (⟨"RuleBooksModel", "anchor", "(IIII)I"⟩, prog_14_method_48_code, 7, (some (.int)))
def mM_everyTurn : MD := (⟨"RuleBooksModel", "everyTurn", "(I)I"⟩, prog_14_method_51_code, 2, (some (.int)))
def mM_turn : MD := (⟨"RuleBooksModel", "turn", "()I"⟩, prog_14_method_52_code, 5, (some (.int)))
def mM_isEvent : MD := (⟨"RuleBooksModel", "isEvent", "(I)Z"⟩, prog_14_method_49_code, 3, (some (.boolean)))
def mM_isMet : MD := (⟨"RuleBooksModel", "isMet", "(I)Z"⟩, prog_14_method_50_code, 3, (some (.boolean)))
def mM_event : MD := (⟨"RuleBooksModel", "event", "(I)I"⟩, prog_14_method_53_code, 2, (some (.int)))
def mM_happens : MD := (⟨"RuleBooksModel", "happens", "(II)I"⟩, prog_14_method_54_code, 3, (some (.int)))
def mM_phrase : MD := (⟨"RuleBooksModel", "phrase", "(III)I"⟩, prog_14_method_55_code, 5, (some (.int)))
def mM_choose : MD := (⟨"RuleBooksModel", "choose", "(III)I"⟩, prog_14_method_57_code, 8, (some (.int)))
def mM_isMeant : MD := (⟨"RuleBooksModel", "isMeant", "(IIII)Z"⟩, prog_14_method_56_code, 5, (some (.boolean)))
def mM_count : MD := (⟨"RuleBooksModel", "count", "(I)I"⟩, prog_14_method_58_code, 2, (some (.int)))
theorem cb_M_init : CB mM_init 0 := ⟨tb_at 940 (by decide +kernel) (by decide +kernel), tb_at 70 (by decide +kernel) (by decide +kernel), by decide +kernel, by decide +kernel⟩
theorem cb_M_kind : CB mM_kind 1 := ⟨tb_at 1103 (by decide +kernel) (by decide +kernel), tb_at 70 (by decide +kernel) (by decide +kernel), by decide +kernel, by decide +kernel⟩
theorem cb_M_isIn : CB mM_isIn 3 := ⟨tb_at 1106 (by decide +kernel) (by decide +kernel), tb_at 70 (by decide +kernel) (by decide +kernel), by decide +kernel, by decide +kernel⟩
theorem cb_M_under : CB mM_under 2 := ⟨tb_at 1110 (by decide +kernel) (by decide +kernel), tb_at 70 (by decide +kernel) (by decide +kernel), by decide +kernel, by decide +kernel⟩
theorem cb_M_isUnder : CB mM_isUnder 2 := ⟨tb_at 1114 (by decide +kernel) (by decide +kernel), tb_at 70 (by decide +kernel) (by decide +kernel), by decide +kernel, by decide +kernel⟩
theorem cb_M_subject : CB mM_subject 1 := ⟨tb_at 1118 (by decide +kernel) (by decide +kernel), tb_at 70 (by decide +kernel) (by decide +kernel), by decide +kernel, by decide +kernel⟩
theorem cb_M_set : CB mM_set 3 := ⟨tb_at 1122 (by decide +kernel) (by decide +kernel), tb_at 70 (by decide +kernel) (by decide +kernel), by decide +kernel, by decide +kernel⟩
theorem cb_M_isSubject : CB mM_isSubject 1 := ⟨tb_at 1126 (by decide +kernel) (by decide +kernel), tb_at 70 (by decide +kernel) (by decide +kernel), by decide +kernel, by decide +kernel⟩
theorem cb_M_value : CB mM_value 2 := ⟨tb_at 1130 (by decide +kernel) (by decide +kernel), tb_at 70 (by decide +kernel) (by decide +kernel), by decide +kernel, by decide +kernel⟩
theorem cb_M_book : CB mM_book 1 := ⟨tb_at 1134 (by decide +kernel) (by decide +kernel), tb_at 70 (by decide +kernel) (by decide +kernel), by decide +kernel, by decide +kernel⟩
theorem cb_M_variable : CB mM_variable 3 := ⟨tb_at 1138 (by decide +kernel) (by decide +kernel), tb_at 70 (by decide +kernel) (by decide +kernel), by decide +kernel, by decide +kernel⟩
theorem cb_M_isBook : CB mM_isBook 1 := ⟨tb_at 1142 (by decide +kernel) (by decide +kernel), tb_at 70 (by decide +kernel) (by decide +kernel), by decide +kernel, by decide +kernel⟩
theorem cb_M_rule : CB mM_rule 3 := ⟨tb_at 1146 (by decide +kernel) (by decide +kernel), tb_at 70 (by decide +kernel) (by decide +kernel), by decide +kernel, by decide +kernel⟩
theorem cb_M_condition : CB mM_condition 4 := ⟨tb_at 1150 (by decide +kernel) (by decide +kernel), tb_at 70 (by decide +kernel) (by decide +kernel), by decide +kernel, by decide +kernel⟩
theorem cb_M_isRule : CB mM_isRule 1 := ⟨tb_at 1154 (by decide +kernel) (by decide +kernel), tb_at 70 (by decide +kernel) (by decide +kernel), by decide +kernel, by decide +kernel⟩
theorem cb_M_does : CB mM_does 4 := ⟨tb_at 1158 (by decide +kernel) (by decide +kernel), tb_at 70 (by decide +kernel) (by decide +kernel), by decide +kernel, by decide +kernel⟩
theorem cb_M_order : CB mM_order 3 := ⟨tb_at 1162 (by decide +kernel) (by decide +kernel), tb_at 70 (by decide +kernel) (by decide +kernel), by decide +kernel, by decide +kernel⟩
theorem cb_M_row : CB mM_row 2 := ⟨tb_at 1166 (by decide +kernel) (by decide +kernel), tb_at 70 (by decide +kernel) (by decide +kernel), by decide +kernel, by decide +kernel⟩
theorem cb_M_makes : CB mM_makes 1 := ⟨tb_at 1170 (by decide +kernel) (by decide +kernel), tb_at 70 (by decide +kernel) (by decide +kernel), by decide +kernel, by decide +kernel⟩
theorem cb_M_isAhead : CB mM_isAhead 2 := ⟨tb_at 1174 (by decide +kernel) (by decide +kernel), tb_at 70 (by decide +kernel) (by decide +kernel), by decide +kernel, by decide +kernel⟩
theorem cb_M_deeps : CB mM_deeps 1 := ⟨tb_at 1178 (by decide +kernel) (by decide +kernel), tb_at 70 (by decide +kernel) (by decide +kernel), by decide +kernel, by decide +kernel⟩
theorem cb_M_deep : CB mM_deep 1 := ⟨tb_at 1182 (by decide +kernel) (by decide +kernel), tb_at 70 (by decide +kernel) (by decide +kernel), by decide +kernel, by decide +kernel⟩
theorem cb_M_comes : CB mM_comes 2 := ⟨tb_at 1186 (by decide +kernel) (by decide +kernel), tb_at 70 (by decide +kernel) (by decide +kernel), by decide +kernel, by decide +kernel⟩
theorem cb_M_nextOrder : CB mM_nextOrder 2 := ⟨tb_at 1190 (by decide +kernel) (by decide +kernel), tb_at 70 (by decide +kernel) (by decide +kernel), by decide +kernel, by decide +kernel⟩
theorem cb_M_moves : CB mM_moves 1 := ⟨tb_at 1194 (by decide +kernel) (by decide +kernel), tb_at 70 (by decide +kernel) (by decide +kernel), by decide +kernel, by decide +kernel⟩
theorem cb_M_placeOf : CB mM_placeOf 1 := ⟨tb_at 1198 (by decide +kernel) (by decide +kernel), tb_at 70 (by decide +kernel) (by decide +kernel), by decide +kernel, by decide +kernel⟩
theorem cb_M_goes : CB mM_goes 1 := ⟨tb_at 1202 (by decide +kernel) (by decide +kernel), tb_at 70 (by decide +kernel) (by decide +kernel), by decide +kernel, by decide +kernel⟩
theorem cb_M_run : CB mM_run 2 := ⟨tb_at 1206 (by decide +kernel) (by decide +kernel), tb_at 70 (by decide +kernel) (by decide +kernel), by decide +kernel, by decide +kernel⟩
theorem cb_M_answer : CB mM_answer 2 := ⟨tb_at 1210 (by decide +kernel) (by decide +kernel), tb_at 70 (by decide +kernel) (by decide +kernel), by decide +kernel, by decide +kernel⟩
theorem cb_M_runs : CB mM_runs 2 := ⟨tb_at 1214 (by decide +kernel) (by decide +kernel), tb_at 70 (by decide +kernel) (by decide +kernel), by decide +kernel, by decide +kernel⟩
theorem cb_M_pushes : CB mM_pushes 2 := ⟨tb_at 1218 (by decide +kernel) (by decide +kernel), tb_at 70 (by decide +kernel) (by decide +kernel), by decide +kernel, by decide +kernel⟩
theorem cb_M_fails : CB mM_fails 2 := ⟨tb_at 1222 (by decide +kernel) (by decide +kernel), tb_at 70 (by decide +kernel) (by decide +kernel), by decide +kernel, by decide +kernel⟩
theorem cb_M_applies : CB mM_applies 3 := ⟨tb_at 1226 (by decide +kernel) (by decide +kernel), tb_at 70 (by decide +kernel) (by decide +kernel), by decide +kernel, by decide +kernel⟩
theorem cb_M_isSo : CB mM_isSo 5 := ⟨tb_at 1230 (by decide +kernel) (by decide +kernel), tb_at 70 (by decide +kernel) (by decide +kernel), by decide +kernel, by decide +kernel⟩
theorem cb_M_works : CB mM_works 3 := ⟨tb_at 1234 (by decide +kernel) (by decide +kernel), tb_at 70 (by decide +kernel) (by decide +kernel), by decide +kernel, by decide +kernel⟩
theorem cb_M_trace : CB mM_trace 2 := ⟨tb_at 1238 (by decide +kernel) (by decide +kernel), tb_at 70 (by decide +kernel) (by decide +kernel), by decide +kernel, by decide +kernel⟩
theorem cb_M_erred : CB mM_erred 0 := ⟨tb_at 1242 (by decide +kernel) (by decide +kernel), tb_at 70 (by decide +kernel) (by decide +kernel), by decide +kernel, by decide +kernel⟩
theorem cb_M_action : CB mM_action 6 := ⟨tb_at 1246 (by decide +kernel) (by decide +kernel), tb_at 70 (by decide +kernel) (by decide +kernel), by decide +kernel, by decide +kernel⟩
theorem cb_M_isBookOrNone : CB mM_isBookOrNone 1 := ⟨tb_at 1250 (by decide +kernel) (by decide +kernel), tb_at 70 (by decide +kernel) (by decide +kernel), by decide +kernel, by decide +kernel⟩
theorem cb_M_act : CB mM_act 2 := ⟨tb_at 1254 (by decide +kernel) (by decide +kernel), tb_at 70 (by decide +kernel) (by decide +kernel), by decide +kernel, by decide +kernel⟩
theorem cb_M_activity : CB mM_activity 3 := ⟨tb_at 1258 (by decide +kernel) (by decide +kernel), tb_at 70 (by decide +kernel) (by decide +kernel), by decide +kernel, by decide +kernel⟩
theorem cb_M_begin : CB mM_begin 2 := ⟨tb_at 1262 (by decide +kernel) (by decide +kernel), tb_at 70 (by decide +kernel) (by decide +kernel), by decide +kernel, by decide +kernel⟩
theorem cb_M_part : CB mM_part 3 := ⟨tb_at 1266 (by decide +kernel) (by decide +kernel), tb_at 70 (by decide +kernel) (by decide +kernel), by decide +kernel, by decide +kernel⟩
theorem cb_M_middle : CB mM_middle 0 := ⟨tb_at 1270 (by decide +kernel) (by decide +kernel), tb_at 70 (by decide +kernel) (by decide +kernel), by decide +kernel, by decide +kernel⟩
theorem cb_M_finish : CB mM_finish 0 := ⟨tb_at 1274 (by decide +kernel) (by decide +kernel), tb_at 70 (by decide +kernel) (by decide +kernel), by decide +kernel, by decide +kernel⟩
theorem cb_M_abandon : CB mM_abandon 0 := ⟨tb_at 1278 (by decide +kernel) (by decide +kernel), tb_at 70 (by decide +kernel) (by decide +kernel), by decide +kernel, by decide +kernel⟩
theorem cb_M_scene : CB mM_scene 1 := ⟨tb_at 1282 (by decide +kernel) (by decide +kernel), tb_at 70 (by decide +kernel) (by decide +kernel), by decide +kernel, by decide +kernel⟩
theorem cb_M_anchor : CB mM_anchor 4 := ⟨tb_at 1286 (by decide +kernel) (by decide +kernel), tb_at 70 (by decide +kernel) (by decide +kernel), by decide +kernel, by decide +kernel⟩
theorem cb_M_everyTurn : CB mM_everyTurn 1 := ⟨tb_at 1290 (by decide +kernel) (by decide +kernel), tb_at 70 (by decide +kernel) (by decide +kernel), by decide +kernel, by decide +kernel⟩
theorem cb_M_turn : CB mM_turn 0 := ⟨tb_at 1294 (by decide +kernel) (by decide +kernel), tb_at 70 (by decide +kernel) (by decide +kernel), by decide +kernel, by decide +kernel⟩
theorem cb_M_isEvent : CB mM_isEvent 1 := ⟨tb_at 1298 (by decide +kernel) (by decide +kernel), tb_at 70 (by decide +kernel) (by decide +kernel), by decide +kernel, by decide +kernel⟩
theorem cb_M_isMet : CB mM_isMet 1 := ⟨tb_at 1302 (by decide +kernel) (by decide +kernel), tb_at 70 (by decide +kernel) (by decide +kernel), by decide +kernel, by decide +kernel⟩
theorem cb_M_event : CB mM_event 1 := ⟨tb_at 1306 (by decide +kernel) (by decide +kernel), tb_at 70 (by decide +kernel) (by decide +kernel), by decide +kernel, by decide +kernel⟩
theorem cb_M_happens : CB mM_happens 2 := ⟨tb_at 1310 (by decide +kernel) (by decide +kernel), tb_at 70 (by decide +kernel) (by decide +kernel), by decide +kernel, by decide +kernel⟩
theorem cb_M_phrase : CB mM_phrase 3 := ⟨tb_at 1314 (by decide +kernel) (by decide +kernel), tb_at 70 (by decide +kernel) (by decide +kernel), by decide +kernel, by decide +kernel⟩
theorem cb_M_choose : CB mM_choose 3 := ⟨tb_at 1318 (by decide +kernel) (by decide +kernel), tb_at 70 (by decide +kernel) (by decide +kernel), by decide +kernel, by decide +kernel⟩
theorem cb_M_isMeant : CB mM_isMeant 4 := ⟨tb_at 1322 (by decide +kernel) (by decide +kernel), tb_at 70 (by decide +kernel) (by decide +kernel), by decide +kernel, by decide +kernel⟩
theorem cb_M_count : CB mM_count 1 := ⟨tb_at 1326 (by decide +kernel) (by decide +kernel), tb_at 70 (by decide +kernel) (by decide +kernel), by decide +kernel, by decide +kernel⟩
def mX_init : MD := (⟨"RuleBooks", "<init>", "()V"⟩, prog_1_method_1_code, 1, none)
def mKinds_init : MD := (⟨"RuleBooks$Kinds", "<init>", "()V"⟩, prog_4_method_1_code, 1, none)
def mScs_init : MD := (⟨"RuleBooks$Scenes", "<init>", "(Ljava/util/ArrayList;)V"⟩, prog_10_method_1_code, 2, none)
def mPhr_init : MD := (⟨"RuleBooks$Phrases", "<init>", "(LRuleBooks$Kinds;)V"⟩, prog_6_method_1_code, 2, none)
def mRun_init : MD := (⟨"RuleBooks$Runner", "<init>", "(LRuleBooks$Kinds;Ljava/util/ArrayList;LRuleBooks$Scenes;)V"⟩, prog_8_method_1_code, 5, none)
def mTrc_init : MD := (⟨"RuleBooks$Trace", "<init>", "()V"⟩, prog_12_method_1_code, 1, none)
def mOwn_init : MD := (⟨"RuleBooks$OwnState", "<init>", "()V"⟩, prog_5_method_1_code, 1, none)
def mX_kind : MD := (⟨"RuleBooks", "kind", "(I)I"⟩, prog_1_method_2_code, 2, (some (.int)))
def mKinds_has : MD := (⟨"RuleBooks$Kinds", "has", "(I)Z"⟩, prog_4_method_2_code, 2, (some (.boolean)))
def mKinds_add : MD := (⟨"RuleBooks$Kinds", "add", "(I)I"⟩, prog_4_method_3_code, 2, (some (.int)))
def mX_under : MD := (⟨"RuleBooks", "under", "(II)I"⟩, prog_1_method_3_code, 3, (some (.int)))
def mKinds_isUnder : MD := (⟨"RuleBooks$Kinds", "isUnder", "(II)Z"⟩, prog_4_method_5_code, 5, (some (.boolean)))
def mX_asNumber : MD := (⟨"RuleBooks", "asNumber", "(Z)I"⟩, prog_1_method_45_code, 1, (some (.int)))
def mX_subject : MD := (⟨"RuleBooks", "subject", "(I)I"⟩, prog_1_method_4_code, 2, (some (.int)))
def mSubj_init : MD := (⟨"RuleBooks$Subject", "<init>", "(I)V"⟩, prog_11_method_1_code, 2, none)
def mX_set : MD := (⟨"RuleBooks", "set", "(III)I"⟩, prog_1_method_5_code, 6, (some (.int)))
def mX_subjectAt : MD := (⟨"RuleBooks", "subjectAt", "(I)LRuleBooks$Subject;"⟩, prog_1_method_37_code, 2, (some (.object "RuleBooks$Subject")))
def mX_isSlot : MD := (⟨"RuleBooks", "isSlot", "(I)Z"⟩, prog_1_method_42_code, 1, (some (.boolean)))
def mX_value : MD := (⟨"RuleBooks", "value", "(II)I"⟩, prog_1_method_6_code, 4, (some (.int)))
def mX_book : MD := (⟨"RuleBooks", "book", "(I)I"⟩, prog_1_method_7_code, 2, (some (.int)))
def mBook_init : MD := (⟨"RuleBooks$Book", "<init>", "(I)V"⟩, prog_2_method_1_code, 2, none)
def mX_variable : MD := (⟨"RuleBooks", "variable", "(III)I"⟩, prog_1_method_8_code, 5, (some (.int)))
def mX_bookAt : MD := (⟨"RuleBooks", "bookAt", "(I)LRuleBooks$Book;"⟩, prog_1_method_38_code, 2, (some (.object "RuleBooks$Book")))
def mX_rule : MD := (⟨"RuleBooks", "rule", "(III)I"⟩, prog_1_method_9_code, 6, (some (.int)))
def mRule_init : MD := (⟨"RuleBooks$Rule", "<init>", "(ILRuleBooks$Book;II)V"⟩, prog_7_method_1_code, 5, none)
def mBook_takeRule : MD := (⟨"RuleBooks$Book", "takeRule", "(LRuleBooks$Rule;)V"⟩, prog_2_method_2_code, 2, none)
def mBook_arrangeRow : MD := (⟨"RuleBooks$Book", "arrangeRow", "()V"⟩, prog_2_method_4_code, 2, none)
def mBook_putByRank : MD := (⟨"RuleBooks$Book", "putByRank", "(LRuleBooks$Rule;)V"⟩, prog_2_method_5_code, 3, none)
def mRule_outranks : MD := (⟨"RuleBooks$Rule", "outranks", "(LRuleBooks$Rule;)Z"⟩, prog_7_method_2_code, 2, (some (.boolean)))
def mBook_carryOutOrder : MD := (⟨"RuleBooks$Book", "carryOutOrder", "(LRuleBooks$Rule;)V"⟩, prog_2_method_6_code, 3, none)
def mBook_placeIn : MD := (⟨"RuleBooks$Book", "placeIn", "(Ljava/util/ArrayList;LRuleBooks$Rule;)I"⟩, prog_2_method_7_code, 3, (some (.int)))
def mX_isAboutAnother : MD := (⟨"RuleBooks", "isAboutAnother", "(I)Z"⟩, prog_1_method_44_code, 1, (some (.boolean)))
def mX_condition : MD := (⟨"RuleBooks", "condition", "(IIII)I"⟩, prog_1_method_10_code, 6, (some (.int)))
def mX_ruleAt : MD := (⟨"RuleBooks", "ruleAt", "(I)LRuleBooks$Rule;"⟩, prog_1_method_39_code, 2, (some (.object "RuleBooks$Rule")))
def mX_isConditionOf : MD := (⟨"RuleBooks", "isConditionOf", "(LRuleBooks$Rule;II)Z"⟩, prog_1_method_11_code, 5, (some (.boolean)))
def mScs_has : MD := (⟨"RuleBooks$Scenes", "has", "(I)Z"⟩, prog_10_method_2_code, 2, (some (.boolean)))
def mCond_init : MD := (⟨"RuleBooks$Condition", "<init>", "(III)V"⟩, prog_3_method_1_code, 4, none)
def mKinds_deepOf : MD := (⟨"RuleBooks$Kinds", "deepOf", "(I)I"⟩, prog_4_method_4_code, 2, (some (.int)))
def mX_does : MD := (⟨"RuleBooks", "does", "(IIII)I"⟩, prog_1_method_12_code, 6, (some (.int)))
def mX_isDeed : MD := (⟨"RuleBooks", "isDeed", "(III)Z"⟩, prog_1_method_13_code, 4, (some (.boolean)))
def mX_order : MD := (⟨"RuleBooks", "order", "(III)I"⟩, prog_1_method_14_code, 6, (some (.int)))
def mBook_takeOrder : MD := (⟨"RuleBooks$Book", "takeOrder", "(LRuleBooks$Rule;)V"⟩, prog_2_method_3_code, 3, none)
def mX_row : MD := (⟨"RuleBooks", "row", "(II)I"⟩, prog_1_method_15_code, 4, (some (.int)))
def mX_run : MD := (⟨"RuleBooks", "run", "(II)I"⟩, prog_1_method_16_code, 5, (some (.int)))
def mRun_answerOf : MD := (⟨"RuleBooks$Runner", "answerOf", "(LRuleBooks$Book;LRuleBooks$Subject;)I"⟩, prog_8_method_2_code, 4, (some (.int)))
def mRun_startCall : MD := (⟨"RuleBooks$Runner", "startCall", "()V"⟩, prog_8_method_4_code, 1, none)
def mRun_outcomeOf : MD := (⟨"RuleBooks$Runner", "outcomeOf", "(LRuleBooks$Book;LRuleBooks$Subject;I)I"⟩, prog_8_method_7_code, 7, (some (.int)))
def mOwn_startWith : MD := (⟨"RuleBooks$OwnState", "startWith", "([I)V"⟩, prog_5_method_2_code, 2, none)
def mRun_lookAt : MD := (⟨"RuleBooks$Runner", "lookAt", "(LRuleBooks$Rule;LRuleBooks$Subject;LRuleBooks$OwnState;I)I"⟩, prog_8_method_8_code, 6, (some (.int)))
def mTrc_isFull : MD := (⟨"RuleBooks$Trace", "isFull", "()Z"⟩, prog_12_method_2_code, 1, (some (.boolean)))
def mRun_err : MD := (⟨"RuleBooks$Runner", "err", "(ILRuleBooks$Rule;)I"⟩, prog_8_method_13_code, 3, (some (.int)))
def mRun_areAllSo : MD := (⟨"RuleBooks$Runner", "areAllSo", "(Ljava/util/ArrayList;LRuleBooks$Subject;LRuleBooks$OwnState;)Z"⟩, prog_8_method_9_code, 6, (some (.boolean)))
def mRun_isSo : MD := (⟨"RuleBooks$Runner", "isSo", "(LRuleBooks$Condition;LRuleBooks$Subject;LRuleBooks$OwnState;)Z"⟩, prog_8_method_10_code, 5, (some (.boolean)))
def mScs_isOn : MD := (⟨"RuleBooks$Scenes", "isOn", "(I)Z"⟩, prog_10_method_4_code, 2, (some (.boolean)))
def mOwn_hasApplied : MD := (⟨"RuleBooks$OwnState", "hasApplied", "(I)Z"⟩, prog_5_method_4_code, 2, (some (.boolean)))
def mTrc_add : MD := (⟨"RuleBooks$Trace", "add", "(IZI)V"⟩, prog_12_method_3_code, 4, none)
def mOwn_noteApplied : MD := (⟨"RuleBooks$OwnState", "noteApplied", "(I)V"⟩, prog_5_method_3_code, 2, none)
def mRun_perform : MD := (⟨"RuleBooks$Runner", "perform", "(LRuleBooks$Rule;LRuleBooks$Subject;LRuleBooks$OwnState;I)I"⟩, prog_8_method_11_code, 7, (some (.int)))
def mRun_goToBook : MD := (⟨"RuleBooks$Runner", "goToBook", "(LRuleBooks$Rule;LRuleBooks$Subject;I)I"⟩, prog_8_method_12_code, 5, (some (.int)))
def mRun_hasErred : MD := (⟨"RuleBooks$Runner", "hasErred", "()Z"⟩, prog_8_method_5_code, 1, (some (.boolean)))
def mRun_errAnswer : MD := (⟨"RuleBooks$Runner", "errAnswer", "()I"⟩, prog_8_method_6_code, 1, (some (.int)))
def mX_trace : MD := (⟨"RuleBooks", "trace", "(II)I"⟩, prog_1_method_17_code, 3, (some (.int)))
def mTrc_at : MD := (⟨"RuleBooks$Trace", "at", "(II)I"⟩, prog_12_method_4_code, 3, (some (.int)))
def mX_erred : MD := (⟨"RuleBooks", "erred", "()I"⟩, prog_1_method_18_code, 1, (some (.int)))
def mX_action : MD := (⟨"RuleBooks", "action", "(IIIIII)I"⟩, prog_1_method_19_code, 8, (some (.int)))
def mX_areBooksOrNone : MD := (⟨"RuleBooks", "areBooksOrNone", "([I)Z"⟩, prog_1_method_41_code, 3, (some (.boolean)))
def mX_isBookOrNone : MD := (⟨"RuleBooks", "isBookOrNone", "(I)Z"⟩, prog_1_method_40_code, 2, (some (.boolean)))
def mX_act : MD := (⟨"RuleBooks", "act", "(II)I"⟩, prog_1_method_20_code, 4, (some (.int)))
def mRun_answerOfStages : MD := (⟨"RuleBooks$Runner", "answerOfStages", "([ILRuleBooks$Subject;)I"⟩, prog_8_method_3_code, 7, (some (.int)))
def mX_activity : MD := (⟨"RuleBooks", "activity", "(III)I"⟩, prog_1_method_21_code, 5, (some (.int)))
def mX_begin : MD := (⟨"RuleBooks", "begin", "(II)I"⟩, prog_1_method_22_code, 4, (some (.int)))
def mX_middle : MD := (⟨"RuleBooks", "middle", "()I"⟩, prog_1_method_23_code, 1, (some (.int)))
def mX_latestPart : MD := (⟨"RuleBooks", "latestPart", "(I)LRuleBooks$Book;"⟩, prog_1_method_26_code, 2, (some (.object "RuleBooks$Book")))
def mX_latestSubject : MD := (⟨"RuleBooks", "latestSubject", "()LRuleBooks$Subject;"⟩, prog_1_method_27_code, 1, (some (.object "RuleBooks$Subject")))
def mX_finish : MD := (⟨"RuleBooks", "finish", "()I"⟩, prog_1_method_24_code, 2, (some (.int)))
def mX_abandon : MD := (⟨"RuleBooks", "abandon", "()I"⟩, prog_1_method_25_code, 1, (some (.int)))
def mX_scene : MD := (⟨"RuleBooks", "scene", "(I)I"⟩, prog_1_method_28_code, 2, (some (.int)))
def mScs_add : MD := (⟨"RuleBooks$Scenes", "add", "(Z)I"⟩, prog_10_method_3_code, 2, (some (.int)))
def mScene_init : MD := (⟨"RuleBooks$Scene", "<init>", "(Z)V"⟩, prog_9_method_1_code, 2, none)
def mX_anchor : MD := (⟨"RuleBooks", "anchor", "(IIII)I"⟩, prog_1_method_29_code, 5, (some (.int)))
def mScs_isAnchor : MD := (⟨"RuleBooks$Scenes", "isAnchor", "(II)Z"⟩, prog_10_method_6_code, 3, (some (.boolean)))
def mScs_wouldRing : MD := (⟨"RuleBooks$Scenes", "wouldRing", "(III)Z"⟩, prog_10_method_8_code, 7, (some (.boolean)))
def mScs_eventOf : MD := (⟨"RuleBooks$Scenes", "eventOf", "(II)I"⟩, prog_10_method_9_code, 2, (some (.int)))
def mScs_setAnchor : MD := (⟨"RuleBooks$Scenes", "setAnchor", "(III)V"⟩, prog_10_method_7_code, 5, none)
def mX_everyTurn : MD := (⟨"RuleBooks", "everyTurn", "(I)I"⟩, prog_1_method_30_code, 2, (some (.int)))
def mX_turn : MD := (⟨"RuleBooks", "turn", "()I"⟩, prog_1_method_31_code, 2, (some (.int)))
def mScs_takeTurn : MD := (⟨"RuleBooks$Scenes", "takeTurn", "()V"⟩, prog_10_method_10_code, 3, none)
def mScs_goRound : MD := (⟨"RuleBooks$Scenes", "goRound", "()V"⟩, prog_10_method_11_code, 4, none)
def mScs_mayChange : MD := (⟨"RuleBooks$Scenes", "mayChange", "(II)Z"⟩, prog_10_method_12_code, 4, (some (.boolean)))
def mScs_wasInTurn : MD := (⟨"RuleBooks$Scenes", "wasInTurn", "(I)Z"⟩, prog_10_method_15_code, 3, (some (.boolean)))
def mScs_isMet : MD := (⟨"RuleBooks$Scenes", "isMet", "(II)Z"⟩, prog_10_method_14_code, 3, (some (.boolean)))
def mScs_change : MD := (⟨"RuleBooks$Scenes", "change", "(II)V"⟩, prog_10_method_13_code, 4, none)
def mX_event : MD := (⟨"RuleBooks", "event", "(I)I"⟩, prog_1_method_32_code, 2, (some (.int)))
def mX_happens : MD := (⟨"RuleBooks", "happens", "(II)I"⟩, prog_1_method_33_code, 3, (some (.int)))
def mScs_beganOften : MD := (⟨"RuleBooks$Scenes", "beganOften", "(I)I"⟩, prog_10_method_5_code, 2, (some (.int)))
def mX_phrase : MD := (⟨"RuleBooks", "phrase", "(III)I"⟩, prog_1_method_34_code, 4, (some (.int)))
def mX_isName : MD := (⟨"RuleBooks", "isName", "(I)Z"⟩, prog_1_method_43_code, 1, (some (.boolean)))
def mPhr_add : MD := (⟨"RuleBooks$Phrases", "add", "(III)I"⟩, prog_6_method_2_code, 4, (some (.int)))
def mPhr_isTold : MD := (⟨"RuleBooks$Phrases", "isTold", "(III)Z"⟩, prog_6_method_3_code, 5, (some (.boolean)))
def mX_choose : MD := (⟨"RuleBooks", "choose", "(III)I"⟩, prog_1_method_35_code, 6, (some (.int)))
def mPhr_mostSpecial : MD := (⟨"RuleBooks$Phrases", "mostSpecial", "(III)I"⟩, prog_6_method_4_code, 6, (some (.int)))
def mPhr_isMeant : MD := (⟨"RuleBooks$Phrases", "isMeant", "(IIII)Z"⟩, prog_6_method_5_code, 5, (some (.boolean)))
def mPhr_isUnderAllMeant : MD := (⟨"RuleBooks$Phrases", "isUnderAllMeant", "(III)Z"⟩, prog_6_method_6_code, 5, (some (.boolean)))
def mX_count : MD := (⟨"RuleBooks", "count", "(I)I"⟩, prog_1_method_36_code, 2, (some (.int)))
theorem cb_X_init : CB mX_init 0 := ⟨tb_at 86 (by decide +kernel) (by decide +kernel), tb_at 60 (by decide +kernel) (by decide +kernel), by decide +kernel, by decide +kernel⟩
theorem cb_Kinds_init : CB mKinds_init 0 := ⟨tb_at 94 (by decide +kernel) (by decide +kernel), tb_at 61 (by decide +kernel) (by decide +kernel), by decide +kernel, by decide +kernel⟩
theorem cb_Scs_init : CB mScs_init 1 := ⟨tb_at 140 (by decide +kernel) (by decide +kernel), tb_at 65 (by decide +kernel) (by decide +kernel), by decide +kernel, by decide +kernel⟩
theorem cb_Phr_init : CB mPhr_init 1 := ⟨tb_at 168 (by decide +kernel) (by decide +kernel), tb_at 66 (by decide +kernel) (by decide +kernel), by decide +kernel, by decide +kernel⟩
theorem cb_Run_init : CB mRun_init 3 := ⟨tb_at 191 (by decide +kernel) (by decide +kernel), tb_at 67 (by decide +kernel) (by decide +kernel), by decide +kernel, by decide +kernel⟩
theorem cb_Trc_init : CB mTrc_init 0 := ⟨tb_at 199 (by decide +kernel) (by decide +kernel), tb_at 68 (by decide +kernel) (by decide +kernel), by decide +kernel, by decide +kernel⟩
theorem cb_Own_init : CB mOwn_init 0 := ⟨tb_at 219 (by decide +kernel) (by decide +kernel), tb_at 69 (by decide +kernel) (by decide +kernel), by decide +kernel, by decide +kernel⟩
theorem cb_X_kind : CB mX_kind 1 := ⟨tb_at 302 (by decide +kernel) (by decide +kernel), tb_at 60 (by decide +kernel) (by decide +kernel), by decide +kernel, by decide +kernel⟩
theorem cb_Kinds_has : CB mKinds_has 1 := ⟨tb_at 306 (by decide +kernel) (by decide +kernel), tb_at 61 (by decide +kernel) (by decide +kernel), by decide +kernel, by decide +kernel⟩
theorem cb_Kinds_add : CB mKinds_add 1 := ⟨tb_at 310 (by decide +kernel) (by decide +kernel), tb_at 61 (by decide +kernel) (by decide +kernel), by decide +kernel, by decide +kernel⟩
theorem cb_X_under : CB mX_under 2 := ⟨tb_at 314 (by decide +kernel) (by decide +kernel), tb_at 60 (by decide +kernel) (by decide +kernel), by decide +kernel, by decide +kernel⟩
theorem cb_Kinds_isUnder : CB mKinds_isUnder 2 := ⟨tb_at 318 (by decide +kernel) (by decide +kernel), tb_at 61 (by decide +kernel) (by decide +kernel), by decide +kernel, by decide +kernel⟩
theorem cb_X_asNumber : CB mX_asNumber 1 := ⟨tb_at 321 (by decide +kernel) (by decide +kernel), tb_at 60 (by decide +kernel) (by decide +kernel), by decide +kernel, by decide +kernel⟩
theorem cb_X_subject : CB mX_subject 1 := ⟨tb_at 325 (by decide +kernel) (by decide +kernel), tb_at 60 (by decide +kernel) (by decide +kernel), by decide +kernel, by decide +kernel⟩
theorem cb_Subj_init : CB mSubj_init 1 := ⟨tb_at 334 (by decide +kernel) (by decide +kernel), tb_at 71 (by decide +kernel) (by decide +kernel), by decide +kernel, by decide +kernel⟩
theorem cb_X_set : CB mX_set 3 := ⟨tb_at 412 (by decide +kernel) (by decide +kernel), tb_at 60 (by decide +kernel) (by decide +kernel), by decide +kernel, by decide +kernel⟩
theorem cb_X_subjectAt : CB mX_subjectAt 1 := ⟨tb_at 416 (by decide +kernel) (by decide +kernel), tb_at 60 (by decide +kernel) (by decide +kernel), by decide +kernel, by decide +kernel⟩
theorem cb_X_isSlot : CB mX_isSlot 1 := ⟨tb_at 433 (by decide +kernel) (by decide +kernel), tb_at 60 (by decide +kernel) (by decide +kernel), by decide +kernel, by decide +kernel⟩
theorem cb_X_value : CB mX_value 2 := ⟨tb_at 437 (by decide +kernel) (by decide +kernel), tb_at 60 (by decide +kernel) (by decide +kernel), by decide +kernel, by decide +kernel⟩
theorem cb_X_book : CB mX_book 1 := ⟨tb_at 441 (by decide +kernel) (by decide +kernel), tb_at 60 (by decide +kernel) (by decide +kernel), by decide +kernel, by decide +kernel⟩
theorem cb_Book_init : CB mBook_init 1 := ⟨tb_at 446 (by decide +kernel) (by decide +kernel), tb_at 78 (by decide +kernel) (by decide +kernel), by decide +kernel, by decide +kernel⟩
theorem cb_X_variable : CB mX_variable 3 := ⟨tb_at 474 (by decide +kernel) (by decide +kernel), tb_at 60 (by decide +kernel) (by decide +kernel), by decide +kernel, by decide +kernel⟩
theorem cb_X_bookAt : CB mX_bookAt 1 := ⟨tb_at 478 (by decide +kernel) (by decide +kernel), tb_at 60 (by decide +kernel) (by decide +kernel), by decide +kernel, by decide +kernel⟩
theorem cb_X_rule : CB mX_rule 3 := ⟨tb_at 482 (by decide +kernel) (by decide +kernel), tb_at 60 (by decide +kernel) (by decide +kernel), by decide +kernel, by decide +kernel⟩
theorem cb_Rule_init : CB mRule_init 4 := ⟨tb_at 487 (by decide +kernel) (by decide +kernel), tb_at 79 (by decide +kernel) (by decide +kernel), by decide +kernel, by decide +kernel⟩
theorem cb_Book_takeRule : CB mBook_takeRule 1 := ⟨tb_at 540 (by decide +kernel) (by decide +kernel), tb_at 78 (by decide +kernel) (by decide +kernel), by decide +kernel, by decide +kernel⟩
theorem cb_Book_arrangeRow : CB mBook_arrangeRow 0 := ⟨tb_at 545 (by decide +kernel) (by decide +kernel), tb_at 78 (by decide +kernel) (by decide +kernel), by decide +kernel, by decide +kernel⟩
theorem cb_Book_putByRank : CB mBook_putByRank 1 := ⟨tb_at 556 (by decide +kernel) (by decide +kernel), tb_at 78 (by decide +kernel) (by decide +kernel), by decide +kernel, by decide +kernel⟩
theorem cb_Rule_outranks : CB mRule_outranks 1 := ⟨tb_at 560 (by decide +kernel) (by decide +kernel), tb_at 79 (by decide +kernel) (by decide +kernel), by decide +kernel, by decide +kernel⟩
theorem cb_Book_carryOutOrder : CB mBook_carryOutOrder 1 := ⟨tb_at 574 (by decide +kernel) (by decide +kernel), tb_at 78 (by decide +kernel) (by decide +kernel), by decide +kernel, by decide +kernel⟩
theorem cb_Book_placeIn : CB mBook_placeIn 2 := ⟨tb_at 577 (by decide +kernel) (by decide +kernel), tb_at 78 (by decide +kernel) (by decide +kernel), by decide +kernel, by decide +kernel⟩
theorem cb_X_isAboutAnother : CB mX_isAboutAnother 1 := ⟨tb_at 580 (by decide +kernel) (by decide +kernel), tb_at 60 (by decide +kernel) (by decide +kernel), by decide +kernel, by decide +kernel⟩
theorem cb_X_condition : CB mX_condition 4 := ⟨tb_at 596 (by decide +kernel) (by decide +kernel), tb_at 60 (by decide +kernel) (by decide +kernel), by decide +kernel, by decide +kernel⟩
theorem cb_X_ruleAt : CB mX_ruleAt 1 := ⟨tb_at 600 (by decide +kernel) (by decide +kernel), tb_at 60 (by decide +kernel) (by decide +kernel), by decide +kernel, by decide +kernel⟩
theorem cb_X_isConditionOf : CB mX_isConditionOf 3 := ⟨tb_at 604 (by decide +kernel) (by decide +kernel), tb_at 60 (by decide +kernel) (by decide +kernel), by decide +kernel, by decide +kernel⟩
theorem cb_Scs_has : CB mScs_has 1 := ⟨tb_at 608 (by decide +kernel) (by decide +kernel), tb_at 65 (by decide +kernel) (by decide +kernel), by decide +kernel, by decide +kernel⟩
theorem cb_Cond_init : CB mCond_init 3 := ⟨tb_at 614 (by decide +kernel) (by decide +kernel), tb_at 80 (by decide +kernel) (by decide +kernel), by decide +kernel, by decide +kernel⟩
theorem cb_Kinds_deepOf : CB mKinds_deepOf 1 := ⟨tb_at 636 (by decide +kernel) (by decide +kernel), tb_at 61 (by decide +kernel) (by decide +kernel), by decide +kernel, by decide +kernel⟩
theorem cb_X_does : CB mX_does 4 := ⟨tb_at 641 (by decide +kernel) (by decide +kernel), tb_at 60 (by decide +kernel) (by decide +kernel), by decide +kernel, by decide +kernel⟩
theorem cb_X_isDeed : CB mX_isDeed 3 := ⟨tb_at 645 (by decide +kernel) (by decide +kernel), tb_at 60 (by decide +kernel) (by decide +kernel), by decide +kernel, by decide +kernel⟩
theorem cb_X_order : CB mX_order 3 := ⟨tb_at 649 (by decide +kernel) (by decide +kernel), tb_at 60 (by decide +kernel) (by decide +kernel), by decide +kernel, by decide +kernel⟩
theorem cb_Book_takeOrder : CB mBook_takeOrder 1 := ⟨tb_at 654 (by decide +kernel) (by decide +kernel), tb_at 78 (by decide +kernel) (by decide +kernel), by decide +kernel, by decide +kernel⟩
theorem cb_X_row : CB mX_row 2 := ⟨tb_at 658 (by decide +kernel) (by decide +kernel), tb_at 60 (by decide +kernel) (by decide +kernel), by decide +kernel, by decide +kernel⟩
theorem cb_X_run : CB mX_run 2 := ⟨tb_at 662 (by decide +kernel) (by decide +kernel), tb_at 60 (by decide +kernel) (by decide +kernel), by decide +kernel, by decide +kernel⟩
theorem cb_Run_answerOf : CB mRun_answerOf 2 := ⟨tb_at 666 (by decide +kernel) (by decide +kernel), tb_at 67 (by decide +kernel) (by decide +kernel), by decide +kernel, by decide +kernel⟩
theorem cb_Run_startCall : CB mRun_startCall 0 := ⟨tb_at 670 (by decide +kernel) (by decide +kernel), tb_at 67 (by decide +kernel) (by decide +kernel), by decide +kernel, by decide +kernel⟩
theorem cb_Run_outcomeOf : CB mRun_outcomeOf 3 := ⟨tb_at 674 (by decide +kernel) (by decide +kernel), tb_at 67 (by decide +kernel) (by decide +kernel), by decide +kernel, by decide +kernel⟩
theorem cb_Own_startWith : CB mOwn_startWith 1 := ⟨tb_at 678 (by decide +kernel) (by decide +kernel), tb_at 69 (by decide +kernel) (by decide +kernel), by decide +kernel, by decide +kernel⟩
theorem cb_Run_lookAt : CB mRun_lookAt 4 := ⟨tb_at 686 (by decide +kernel) (by decide +kernel), tb_at 67 (by decide +kernel) (by decide +kernel), by decide +kernel, by decide +kernel⟩
theorem cb_Trc_isFull : CB mTrc_isFull 0 := ⟨tb_at 690 (by decide +kernel) (by decide +kernel), tb_at 68 (by decide +kernel) (by decide +kernel), by decide +kernel, by decide +kernel⟩
theorem cb_Run_err : CB mRun_err 2 := ⟨tb_at 694 (by decide +kernel) (by decide +kernel), tb_at 67 (by decide +kernel) (by decide +kernel), by decide +kernel, by decide +kernel⟩
theorem cb_Run_areAllSo : CB mRun_areAllSo 3 := ⟨tb_at 698 (by decide +kernel) (by decide +kernel), tb_at 67 (by decide +kernel) (by decide +kernel), by decide +kernel, by decide +kernel⟩
theorem cb_Run_isSo : CB mRun_isSo 3 := ⟨tb_at 703 (by decide +kernel) (by decide +kernel), tb_at 67 (by decide +kernel) (by decide +kernel), by decide +kernel, by decide +kernel⟩
theorem cb_Scs_isOn : CB mScs_isOn 1 := ⟨tb_at 708 (by decide +kernel) (by decide +kernel), tb_at 65 (by decide +kernel) (by decide +kernel), by decide +kernel, by decide +kernel⟩
theorem cb_Own_hasApplied : CB mOwn_hasApplied 1 := ⟨tb_at 714 (by decide +kernel) (by decide +kernel), tb_at 69 (by decide +kernel) (by decide +kernel), by decide +kernel, by decide +kernel⟩
theorem cb_Trc_add : CB mTrc_add 3 := ⟨tb_at 718 (by decide +kernel) (by decide +kernel), tb_at 68 (by decide +kernel) (by decide +kernel), by decide +kernel, by decide +kernel⟩
theorem cb_Own_noteApplied : CB mOwn_noteApplied 1 := ⟨tb_at 723 (by decide +kernel) (by decide +kernel), tb_at 69 (by decide +kernel) (by decide +kernel), by decide +kernel, by decide +kernel⟩
theorem cb_Run_perform : CB mRun_perform 4 := ⟨tb_at 727 (by decide +kernel) (by decide +kernel), tb_at 67 (by decide +kernel) (by decide +kernel), by decide +kernel, by decide +kernel⟩
theorem cb_Run_goToBook : CB mRun_goToBook 3 := ⟨tb_at 731 (by decide +kernel) (by decide +kernel), tb_at 67 (by decide +kernel) (by decide +kernel), by decide +kernel, by decide +kernel⟩
theorem cb_Run_hasErred : CB mRun_hasErred 0 := ⟨tb_at 736 (by decide +kernel) (by decide +kernel), tb_at 67 (by decide +kernel) (by decide +kernel), by decide +kernel, by decide +kernel⟩
theorem cb_Run_errAnswer : CB mRun_errAnswer 0 := ⟨tb_at 740 (by decide +kernel) (by decide +kernel), tb_at 67 (by decide +kernel) (by decide +kernel), by decide +kernel, by decide +kernel⟩
theorem cb_X_trace : CB mX_trace 2 := ⟨tb_at 744 (by decide +kernel) (by decide +kernel), tb_at 60 (by decide +kernel) (by decide +kernel), by decide +kernel, by decide +kernel⟩
theorem cb_Trc_at : CB mTrc_at 2 := ⟨tb_at 748 (by decide +kernel) (by decide +kernel), tb_at 68 (by decide +kernel) (by decide +kernel), by decide +kernel, by decide +kernel⟩
theorem cb_X_erred : CB mX_erred 0 := ⟨tb_at 752 (by decide +kernel) (by decide +kernel), tb_at 60 (by decide +kernel) (by decide +kernel), by decide +kernel, by decide +kernel⟩
theorem cb_X_action : CB mX_action 6 := ⟨tb_at 756 (by decide +kernel) (by decide +kernel), tb_at 60 (by decide +kernel) (by decide +kernel), by decide +kernel, by decide +kernel⟩
theorem cb_X_areBooksOrNone : CB mX_areBooksOrNone 1 := ⟨tb_at 760 (by decide +kernel) (by decide +kernel), tb_at 60 (by decide +kernel) (by decide +kernel), by decide +kernel, by decide +kernel⟩
theorem cb_X_isBookOrNone : CB mX_isBookOrNone 1 := ⟨tb_at 764 (by decide +kernel) (by decide +kernel), tb_at 60 (by decide +kernel) (by decide +kernel), by decide +kernel, by decide +kernel⟩
theorem cb_X_act : CB mX_act 2 := ⟨tb_at 768 (by decide +kernel) (by decide +kernel), tb_at 60 (by decide +kernel) (by decide +kernel), by decide +kernel, by decide +kernel⟩
theorem cb_Run_answerOfStages : CB mRun_answerOfStages 2 := ⟨tb_at 772 (by decide +kernel) (by decide +kernel), tb_at 67 (by decide +kernel) (by decide +kernel), by decide +kernel, by decide +kernel⟩
theorem cb_X_activity : CB mX_activity 3 := ⟨tb_at 776 (by decide +kernel) (by decide +kernel), tb_at 60 (by decide +kernel) (by decide +kernel), by decide +kernel, by decide +kernel⟩
theorem cb_X_begin : CB mX_begin 2 := ⟨tb_at 780 (by decide +kernel) (by decide +kernel), tb_at 60 (by decide +kernel) (by decide +kernel), by decide +kernel, by decide +kernel⟩
theorem cb_X_middle : CB mX_middle 0 := ⟨tb_at 784 (by decide +kernel) (by decide +kernel), tb_at 60 (by decide +kernel) (by decide +kernel), by decide +kernel, by decide +kernel⟩
theorem cb_X_latestPart : CB mX_latestPart 1 := ⟨tb_at 788 (by decide +kernel) (by decide +kernel), tb_at 60 (by decide +kernel) (by decide +kernel), by decide +kernel, by decide +kernel⟩
theorem cb_X_latestSubject : CB mX_latestSubject 0 := ⟨tb_at 792 (by decide +kernel) (by decide +kernel), tb_at 60 (by decide +kernel) (by decide +kernel), by decide +kernel, by decide +kernel⟩
theorem cb_X_finish : CB mX_finish 0 := ⟨tb_at 796 (by decide +kernel) (by decide +kernel), tb_at 60 (by decide +kernel) (by decide +kernel), by decide +kernel, by decide +kernel⟩
theorem cb_X_abandon : CB mX_abandon 0 := ⟨tb_at 800 (by decide +kernel) (by decide +kernel), tb_at 60 (by decide +kernel) (by decide +kernel), by decide +kernel, by decide +kernel⟩
theorem cb_X_scene : CB mX_scene 1 := ⟨tb_at 804 (by decide +kernel) (by decide +kernel), tb_at 60 (by decide +kernel) (by decide +kernel), by decide +kernel, by decide +kernel⟩
theorem cb_Scs_add : CB mScs_add 1 := ⟨tb_at 808 (by decide +kernel) (by decide +kernel), tb_at 65 (by decide +kernel) (by decide +kernel), by decide +kernel, by decide +kernel⟩
theorem cb_Scene_init : CB mScene_init 1 := ⟨tb_at 812 (by decide +kernel) (by decide +kernel), tb_at 81 (by decide +kernel) (by decide +kernel), by decide +kernel, by decide +kernel⟩
theorem cb_X_anchor : CB mX_anchor 4 := ⟨tb_at 837 (by decide +kernel) (by decide +kernel), tb_at 60 (by decide +kernel) (by decide +kernel), by decide +kernel, by decide +kernel⟩
theorem cb_Scs_isAnchor : CB mScs_isAnchor 2 := ⟨tb_at 841 (by decide +kernel) (by decide +kernel), tb_at 65 (by decide +kernel) (by decide +kernel), by decide +kernel, by decide +kernel⟩
theorem cb_Scs_wouldRing : CB mScs_wouldRing 3 := ⟨tb_at 846 (by decide +kernel) (by decide +kernel), tb_at 65 (by decide +kernel) (by decide +kernel), by decide +kernel, by decide +kernel⟩
theorem cb_Scs_eventOf : CB mScs_eventOf 2 := ⟨tb_at 849 (by decide +kernel) (by decide +kernel), tb_at 65 (by decide +kernel) (by decide +kernel), by decide +kernel, by decide +kernel⟩
theorem cb_Scs_setAnchor : CB mScs_setAnchor 3 := ⟨tb_at 853 (by decide +kernel) (by decide +kernel), tb_at 65 (by decide +kernel) (by decide +kernel), by decide +kernel, by decide +kernel⟩
theorem cb_X_everyTurn : CB mX_everyTurn 1 := ⟨tb_at 857 (by decide +kernel) (by decide +kernel), tb_at 60 (by decide +kernel) (by decide +kernel), by decide +kernel, by decide +kernel⟩
theorem cb_X_turn : CB mX_turn 0 := ⟨tb_at 861 (by decide +kernel) (by decide +kernel), tb_at 60 (by decide +kernel) (by decide +kernel), by decide +kernel, by decide +kernel⟩
theorem cb_Scs_takeTurn : CB mScs_takeTurn 0 := ⟨tb_at 865 (by decide +kernel) (by decide +kernel), tb_at 65 (by decide +kernel) (by decide +kernel), by decide +kernel, by decide +kernel⟩
theorem cb_Scs_goRound : CB mScs_goRound 0 := ⟨tb_at 869 (by decide +kernel) (by decide +kernel), tb_at 65 (by decide +kernel) (by decide +kernel), by decide +kernel, by decide +kernel⟩
theorem cb_Scs_mayChange : CB mScs_mayChange 2 := ⟨tb_at 873 (by decide +kernel) (by decide +kernel), tb_at 65 (by decide +kernel) (by decide +kernel), by decide +kernel, by decide +kernel⟩
theorem cb_Scs_wasInTurn : CB mScs_wasInTurn 1 := ⟨tb_at 877 (by decide +kernel) (by decide +kernel), tb_at 65 (by decide +kernel) (by decide +kernel), by decide +kernel, by decide +kernel⟩
theorem cb_Scs_isMet : CB mScs_isMet 2 := ⟨tb_at 881 (by decide +kernel) (by decide +kernel), tb_at 65 (by decide +kernel) (by decide +kernel), by decide +kernel, by decide +kernel⟩
theorem cb_Scs_change : CB mScs_change 2 := ⟨tb_at 886 (by decide +kernel) (by decide +kernel), tb_at 65 (by decide +kernel) (by decide +kernel), by decide +kernel, by decide +kernel⟩
theorem cb_X_event : CB mX_event 1 := ⟨tb_at 890 (by decide +kernel) (by decide +kernel), tb_at 60 (by decide +kernel) (by decide +kernel), by decide +kernel, by decide +kernel⟩
theorem cb_X_happens : CB mX_happens 2 := ⟨tb_at 894 (by decide +kernel) (by decide +kernel), tb_at 60 (by decide +kernel) (by decide +kernel), by decide +kernel, by decide +kernel⟩
theorem cb_Scs_beganOften : CB mScs_beganOften 1 := ⟨tb_at 899 (by decide +kernel) (by decide +kernel), tb_at 65 (by decide +kernel) (by decide +kernel), by decide +kernel, by decide +kernel⟩
theorem cb_X_phrase : CB mX_phrase 3 := ⟨tb_at 903 (by decide +kernel) (by decide +kernel), tb_at 60 (by decide +kernel) (by decide +kernel), by decide +kernel, by decide +kernel⟩
theorem cb_X_isName : CB mX_isName 1 := ⟨tb_at 906 (by decide +kernel) (by decide +kernel), tb_at 60 (by decide +kernel) (by decide +kernel), by decide +kernel, by decide +kernel⟩
theorem cb_Phr_add : CB mPhr_add 3 := ⟨tb_at 910 (by decide +kernel) (by decide +kernel), tb_at 66 (by decide +kernel) (by decide +kernel), by decide +kernel, by decide +kernel⟩
theorem cb_Phr_isTold : CB mPhr_isTold 3 := ⟨tb_at 914 (by decide +kernel) (by decide +kernel), tb_at 66 (by decide +kernel) (by decide +kernel), by decide +kernel, by decide +kernel⟩
theorem cb_X_choose : CB mX_choose 3 := ⟨tb_at 918 (by decide +kernel) (by decide +kernel), tb_at 60 (by decide +kernel) (by decide +kernel), by decide +kernel, by decide +kernel⟩
theorem cb_Phr_mostSpecial : CB mPhr_mostSpecial 3 := ⟨tb_at 922 (by decide +kernel) (by decide +kernel), tb_at 66 (by decide +kernel) (by decide +kernel), by decide +kernel, by decide +kernel⟩
theorem cb_Phr_isMeant : CB mPhr_isMeant 4 := ⟨tb_at 926 (by decide +kernel) (by decide +kernel), tb_at 66 (by decide +kernel) (by decide +kernel), by decide +kernel, by decide +kernel⟩
theorem cb_Phr_isUnderAllMeant : CB mPhr_isUnderAllMeant 3 := ⟨tb_at 931 (by decide +kernel) (by decide +kernel), tb_at 66 (by decide +kernel) (by decide +kernel), by decide +kernel, by decide +kernel⟩
theorem cb_X_count : CB mX_count 1 := ⟨tb_at 935 (by decide +kernel) (by decide +kernel), tb_at 60 (by decide +kernel) (by decide +kernel), by decide +kernel, by decide +kernel⟩
def mL_law : MD := (⟨"RuleBooksLaw", "law", "([I)Z"⟩, code, 4, (some (.boolean)))
end
section
theorem gs_AL_39 : Cond.fieldLink "java/util/ArrayList" 39 "java/util/ArrayList" "DEFAULTCAPACITY_EMPTY_ELEMENTDATA" "[Ljava/lang/Object;" ∈ TB := tb_at 120 (by decide +kernel) (by decide +kernel)
theorem gf_AL_9 : GF "java/util/ArrayList" 9 13 0 := ⟨by decide, by decide, Or.inl ⟨"java/util/ArrayList", tb_at 122 (by decide +kernel) (by decide +kernel), Or.inl rfl⟩⟩
theorem gf_AL_48 : GF "java/util/ArrayList" 48 13 1 := ⟨by decide, by decide, Or.inl ⟨"java/util/ArrayList", tb_at 123 (by decide +kernel) (by decide +kernel), Or.inl rfl⟩⟩
theorem gf_AL_63 : GF "java/util/ArrayList" 63 13 2 := ⟨by decide, by decide, Or.inl ⟨"java/util/ArrayList", tb_at 125 (by decide +kernel) (by decide +kernel), Or.inr (tb_at 126 (by decide +kernel) (by decide +kernel))⟩⟩
theorem ci_AL_1 : CI "java/util/ArrayList" 1 mAbL_init 0 := ⟨cb_AbL_init, rfl, rfl, tb_at 114 (by decide +kernel) (by decide +kernel), Or.inl (tb_at 113 (by decide +kernel) (by decide +kernel))⟩
theorem cv_AL_131 : CV "java/util/ArrayList" 131 13 mAL_add1 3 := ⟨cb_AL_add1, by decide, rfl, tb_at 354 (by decide +kernel) (by decide +kernel), tb_at 0 (by decide +kernel) (by decide +kernel), Or.inl (tb_at 352 (by decide +kernel) (by decide +kernel))⟩
theorem cv_AL_129 : CV "java/util/ArrayList" 129 13 mAL_grow 0 := ⟨cb_AL_grow, by decide, rfl, tb_at 358 (by decide +kernel) (by decide +kernel), tb_at 1 (by decide +kernel) (by decide +kernel), Or.inl (tb_at 356 (by decide +kernel) (by decide +kernel))⟩
theorem cv_AL_69 : CV "java/util/ArrayList" 69 13 mAL_grow1 1 := ⟨cb_AL_grow1, by decide, rfl, tb_at 362 (by decide +kernel) (by decide +kernel), tb_at 2 (by decide +kernel) (by decide +kernel), Or.inl (tb_at 360 (by decide +kernel) (by decide +kernel))⟩
theorem cs_AL_73 : CS "java/util/ArrayList" 73 mASup_newLength 3 := ⟨cb_ASup_newLength, tb_at 365 (by decide +kernel) (by decide +kernel), Or.inl (tb_at 364 (by decide +kernel) (by decide +kernel))⟩
theorem cs_AL_66 : CS "java/util/ArrayList" 66 mArrs_copyOf 2 := ⟨cb_Arrs_copyOf, tb_at 375 (by decide +kernel) (by decide +kernel), Or.inl (tb_at 374 (by decide +kernel) (by decide +kernel))⟩
theorem cs_AL_79 : CS "java/util/ArrayList" 79 mMth_max 2 := ⟨cb_Mth_max, tb_at 368 (by decide +kernel) (by decide +kernel), Or.inl (tb_at 407 (by decide +kernel) (by decide +kernel))⟩
theorem cs_AL_118 : CS "java/util/ArrayList" 118 mObjs_checkIndex 2 := ⟨cb_Objs_checkIndex, tb_at 422 (by decide +kernel) (by decide +kernel), Or.inl (tb_at 421 (by decide +kernel) (by decide +kernel))⟩
theorem cv_AL_123 : CV "java/util/ArrayList" 123 13 mAL_elementData 1 := ⟨cb_AL_elementData, by decide, rfl, tb_at 428 (by decide +kernel) (by decide +kernel), tb_at 429 (by decide +kernel) (by decide +kernel), Or.inl (tb_at 427 (by decide +kernel) (by decide +kernel))⟩
theorem cv_AL_135 : CV "java/util/ArrayList" 135 13 mAL_rangeCheckForAdd 1 := ⟨cb_AL_rangeCheckForAdd, by decide, rfl, tb_at 568 (by decide +kernel) (by decide +kernel), tb_at 6 (by decide +kernel) (by decide +kernel), Or.inl (tb_at 566 (by decide +kernel) (by decide +kernel))⟩
theorem cy_AL_112 : CY "java/util/ArrayList" 112 := ⟨tb_at 570 (by decide +kernel) (by decide +kernel), tb_at 406 (by decide +kernel) (by decide +kernel), tb_at 405 (by decide +kernel) (by decide +kernel), tb_at 75 (by decide +kernel) (by decide +kernel)⟩
theorem cv_AL_144 : CV "java/util/ArrayList" 144 13 mAL_fastRemove 2 := ⟨cb_AL_fastRemove, by decide, rfl, tb_at 587 (by decide +kernel) (by decide +kernel), tb_at 8 (by decide +kernel) (by decide +kernel), Or.inl (tb_at 585 (by decide +kernel) (by decide +kernel))⟩
theorem cl_AL_7 : Cond.classLink "java/util/ArrayList" 7 "java/lang/Object" ∈ TB := tb_at 408 (by decide +kernel) (by decide +kernel)
theorem gf_AbL_7 : GF "java/util/AbstractList" 7 13 2 := ⟨by decide, by decide, Or.inl ⟨"java/util/AbstractList", tb_at 124 (by decide +kernel) (by decide +kernel), Or.inl rfl⟩⟩
theorem ci_AbL_1 : CI "java/util/AbstractList" 1 mAbC_init 0 := ⟨cb_AbC_init, rfl, rfl, tb_at 117 (by decide +kernel) (by decide +kernel), Or.inl (tb_at 116 (by decide +kernel) (by decide +kernel))⟩
theorem ob_AbC_1 : Cond.methodLink "java/util/AbstractCollection" 1 objectInit ∈ TB ∧ Cond.instanceMethod objectInit ∈ TB ∧ Cond.code objectInit ⟨#[0xb1]⟩ 1 none ∈ TB := ⟨tb_at 119 (by decide +kernel) (by decide +kernel), tb_at 88 (by decide +kernel) (by decide +kernel), tb_at 89 (by decide +kernel) (by decide +kernel)⟩
theorem cs_ASup_194 : CS "jdk/internal/util/ArraysSupport" 194 mMth_max 2 := ⟨cb_Mth_max, tb_at 368 (by decide +kernel) (by decide +kernel), Or.inl (tb_at 367 (by decide +kernel) (by decide +kernel))⟩
theorem cs_ASup_201 : CS "jdk/internal/util/ArraysSupport" 201 mASup_hugeLength 2 := ⟨cb_ASup_hugeLength, tb_at 372 (by decide +kernel) (by decide +kernel), Or.inl (tb_at 371 (by decide +kernel) (by decide +kernel))⟩
theorem cs_Arrs_300 : CS "java/util/Arrays" 300 mArrs_copyOf1 3 := ⟨cb_Arrs_copyOf1, tb_at 396 (by decide +kernel) (by decide +kernel), Or.inl (tb_at 395 (by decide +kernel) (by decide +kernel))⟩
theorem cs_Arrs_304 : CS "java/util/Arrays" 304 mMth_min 2 := ⟨cb_Mth_min, tb_at 402 (by decide +kernel) (by decide +kernel), Or.inl (tb_at 401 (by decide +kernel) (by decide +kernel))⟩
theorem cy_Arrs_150 : CY "java/util/Arrays" 150 := ⟨tb_at 404 (by decide +kernel) (by decide +kernel), tb_at 406 (by decide +kernel) (by decide +kernel), tb_at 405 (by decide +kernel) (by decide +kernel), tb_at 75 (by decide +kernel) (by decide +kernel)⟩
theorem cl_Arrs_110 : Cond.classLink "java/util/Arrays" 110 "[Ljava/lang/Object;" ∈ TB := tb_at 398 (by decide +kernel) (by decide +kernel)
theorem cl_Arrs_2 : Cond.classLink "java/util/Arrays" 2 "java/lang/Object" ∈ TB := tb_at 400 (by decide +kernel) (by decide +kernel)
theorem cs_Objs_105 : CS "java/util/Objects" 105 mPrec_checkIndex 3 := ⟨cb_Prec_checkIndex, tb_at 425 (by decide +kernel) (by decide +kernel), Or.inl (tb_at 424 (by decide +kernel) (by decide +kernel))⟩
theorem gf_M_110 : GF "RuleBooksModel" 110 12 0 := ⟨by decide, by decide, Or.inl ⟨"RuleBooksModel", tb_at 942 (by decide +kernel) (by decide +kernel), Or.inl rfl⟩⟩
theorem gf_M_7 : GF "RuleBooksModel" 7 12 1 := ⟨by decide, by decide, Or.inl ⟨"RuleBooksModel", tb_at 943 (by decide +kernel) (by decide +kernel), Or.inl rfl⟩⟩
theorem gf_M_125 : GF "RuleBooksModel" 125 12 2 := ⟨by decide, by decide, Or.inl ⟨"RuleBooksModel", tb_at 944 (by decide +kernel) (by decide +kernel), Or.inl rfl⟩⟩
theorem gf_M_13 : GF "RuleBooksModel" 13 12 3 := ⟨by decide, by decide, Or.inl ⟨"RuleBooksModel", tb_at 945 (by decide +kernel) (by decide +kernel), Or.inl rfl⟩⟩
theorem gf_M_16 : GF "RuleBooksModel" 16 12 4 := ⟨by decide, by decide, Or.inl ⟨"RuleBooksModel", tb_at 946 (by decide +kernel) (by decide +kernel), Or.inl rfl⟩⟩
theorem gf_M_132 : GF "RuleBooksModel" 132 12 5 := ⟨by decide, by decide, Or.inl ⟨"RuleBooksModel", tb_at 947 (by decide +kernel) (by decide +kernel), Or.inl rfl⟩⟩
theorem gf_M_19 : GF "RuleBooksModel" 19 12 6 := ⟨by decide, by decide, Or.inl ⟨"RuleBooksModel", tb_at 948 (by decide +kernel) (by decide +kernel), Or.inl rfl⟩⟩
theorem gf_M_22 : GF "RuleBooksModel" 22 12 7 := ⟨by decide, by decide, Or.inl ⟨"RuleBooksModel", tb_at 949 (by decide +kernel) (by decide +kernel), Or.inl rfl⟩⟩
theorem gf_M_138 : GF "RuleBooksModel" 138 12 8 := ⟨by decide, by decide, Or.inl ⟨"RuleBooksModel", tb_at 950 (by decide +kernel) (by decide +kernel), Or.inl rfl⟩⟩
theorem gf_M_25 : GF "RuleBooksModel" 25 12 9 := ⟨by decide, by decide, Or.inl ⟨"RuleBooksModel", tb_at 951 (by decide +kernel) (by decide +kernel), Or.inl rfl⟩⟩
theorem gf_M_28 : GF "RuleBooksModel" 28 12 10 := ⟨by decide, by decide, Or.inl ⟨"RuleBooksModel", tb_at 952 (by decide +kernel) (by decide +kernel), Or.inl rfl⟩⟩
theorem gf_M_31 : GF "RuleBooksModel" 31 12 11 := ⟨by decide, by decide, Or.inl ⟨"RuleBooksModel", tb_at 953 (by decide +kernel) (by decide +kernel), Or.inl rfl⟩⟩
theorem gf_M_34 : GF "RuleBooksModel" 34 12 12 := ⟨by decide, by decide, Or.inl ⟨"RuleBooksModel", tb_at 954 (by decide +kernel) (by decide +kernel), Or.inl rfl⟩⟩
theorem gf_M_37 : GF "RuleBooksModel" 37 12 13 := ⟨by decide, by decide, Or.inl ⟨"RuleBooksModel", tb_at 955 (by decide +kernel) (by decide +kernel), Or.inl rfl⟩⟩
theorem gf_M_40 : GF "RuleBooksModel" 40 12 14 := ⟨by decide, by decide, Or.inl ⟨"RuleBooksModel", tb_at 956 (by decide +kernel) (by decide +kernel), Or.inl rfl⟩⟩
theorem gf_M_43 : GF "RuleBooksModel" 43 12 15 := ⟨by decide, by decide, Or.inl ⟨"RuleBooksModel", tb_at 957 (by decide +kernel) (by decide +kernel), Or.inl rfl⟩⟩
theorem gf_M_46 : GF "RuleBooksModel" 46 12 16 := ⟨by decide, by decide, Or.inl ⟨"RuleBooksModel", tb_at 958 (by decide +kernel) (by decide +kernel), Or.inl rfl⟩⟩
theorem gf_M_49 : GF "RuleBooksModel" 49 12 17 := ⟨by decide, by decide, Or.inl ⟨"RuleBooksModel", tb_at 959 (by decide +kernel) (by decide +kernel), Or.inl rfl⟩⟩
theorem gf_M_147 : GF "RuleBooksModel" 147 12 18 := ⟨by decide, by decide, Or.inl ⟨"RuleBooksModel", tb_at 960 (by decide +kernel) (by decide +kernel), Or.inl rfl⟩⟩
theorem gf_M_52 : GF "RuleBooksModel" 52 12 19 := ⟨by decide, by decide, Or.inl ⟨"RuleBooksModel", tb_at 961 (by decide +kernel) (by decide +kernel), Or.inl rfl⟩⟩
theorem gf_M_157 : GF "RuleBooksModel" 157 12 20 := ⟨by decide, by decide, Or.inl ⟨"RuleBooksModel", tb_at 962 (by decide +kernel) (by decide +kernel), Or.inl rfl⟩⟩
theorem gf_M_184 : GF "RuleBooksModel" 184 12 21 := ⟨by decide, by decide, Or.inl ⟨"RuleBooksModel", tb_at 963 (by decide +kernel) (by decide +kernel), Or.inl rfl⟩⟩
theorem gf_M_55 : GF "RuleBooksModel" 55 12 22 := ⟨by decide, by decide, Or.inl ⟨"RuleBooksModel", tb_at 964 (by decide +kernel) (by decide +kernel), Or.inl rfl⟩⟩
theorem gf_M_58 : GF "RuleBooksModel" 58 12 23 := ⟨by decide, by decide, Or.inl ⟨"RuleBooksModel", tb_at 965 (by decide +kernel) (by decide +kernel), Or.inl rfl⟩⟩
theorem gf_M_61 : GF "RuleBooksModel" 61 12 24 := ⟨by decide, by decide, Or.inl ⟨"RuleBooksModel", tb_at 966 (by decide +kernel) (by decide +kernel), Or.inl rfl⟩⟩
theorem gf_M_64 : GF "RuleBooksModel" 64 12 25 := ⟨by decide, by decide, Or.inl ⟨"RuleBooksModel", tb_at 967 (by decide +kernel) (by decide +kernel), Or.inl rfl⟩⟩
theorem gf_M_67 : GF "RuleBooksModel" 67 12 26 := ⟨by decide, by decide, Or.inl ⟨"RuleBooksModel", tb_at 968 (by decide +kernel) (by decide +kernel), Or.inl rfl⟩⟩
theorem gf_M_71 : GF "RuleBooksModel" 71 12 27 := ⟨by decide, by decide, Or.inl ⟨"RuleBooksModel", tb_at 969 (by decide +kernel) (by decide +kernel), Or.inl rfl⟩⟩
theorem gf_M_74 : GF "RuleBooksModel" 74 12 28 := ⟨by decide, by decide, Or.inl ⟨"RuleBooksModel", tb_at 970 (by decide +kernel) (by decide +kernel), Or.inl rfl⟩⟩
theorem gf_M_191 : GF "RuleBooksModel" 191 12 29 := ⟨by decide, by decide, Or.inl ⟨"RuleBooksModel", tb_at 971 (by decide +kernel) (by decide +kernel), Or.inl rfl⟩⟩
theorem gf_M_194 : GF "RuleBooksModel" 194 12 30 := ⟨by decide, by decide, Or.inl ⟨"RuleBooksModel", tb_at 972 (by decide +kernel) (by decide +kernel), Or.inl rfl⟩⟩
theorem gf_M_211 : GF "RuleBooksModel" 211 12 31 := ⟨by decide, by decide, Or.inl ⟨"RuleBooksModel", tb_at 973 (by decide +kernel) (by decide +kernel), Or.inl rfl⟩⟩
theorem gf_M_187 : GF "RuleBooksModel" 187 12 32 := ⟨by decide, by decide, Or.inl ⟨"RuleBooksModel", tb_at 974 (by decide +kernel) (by decide +kernel), Or.inl rfl⟩⟩
theorem gf_M_227 : GF "RuleBooksModel" 227 12 33 := ⟨by decide, by decide, Or.inl ⟨"RuleBooksModel", tb_at 975 (by decide +kernel) (by decide +kernel), Or.inl rfl⟩⟩
theorem gf_M_77 : GF "RuleBooksModel" 77 12 34 := ⟨by decide, by decide, Or.inl ⟨"RuleBooksModel", tb_at 976 (by decide +kernel) (by decide +kernel), Or.inl rfl⟩⟩
theorem gf_M_230 : GF "RuleBooksModel" 230 12 35 := ⟨by decide, by decide, Or.inl ⟨"RuleBooksModel", tb_at 977 (by decide +kernel) (by decide +kernel), Or.inl rfl⟩⟩
theorem gf_M_80 : GF "RuleBooksModel" 80 12 36 := ⟨by decide, by decide, Or.inl ⟨"RuleBooksModel", tb_at 978 (by decide +kernel) (by decide +kernel), Or.inl rfl⟩⟩
theorem gf_M_233 : GF "RuleBooksModel" 233 12 37 := ⟨by decide, by decide, Or.inl ⟨"RuleBooksModel", tb_at 979 (by decide +kernel) (by decide +kernel), Or.inl rfl⟩⟩
theorem gf_M_83 : GF "RuleBooksModel" 83 12 38 := ⟨by decide, by decide, Or.inl ⟨"RuleBooksModel", tb_at 980 (by decide +kernel) (by decide +kernel), Or.inl rfl⟩⟩
theorem gf_M_86 : GF "RuleBooksModel" 86 12 39 := ⟨by decide, by decide, Or.inl ⟨"RuleBooksModel", tb_at 981 (by decide +kernel) (by decide +kernel), Or.inl rfl⟩⟩
theorem gf_M_144 : GF "RuleBooksModel" 144 12 40 := ⟨by decide, by decide, Or.inl ⟨"RuleBooksModel", tb_at 982 (by decide +kernel) (by decide +kernel), Or.inl rfl⟩⟩
theorem gf_M_89 : GF "RuleBooksModel" 89 12 41 := ⟨by decide, by decide, Or.inl ⟨"RuleBooksModel", tb_at 983 (by decide +kernel) (by decide +kernel), Or.inl rfl⟩⟩
theorem gf_M_92 : GF "RuleBooksModel" 92 12 42 := ⟨by decide, by decide, Or.inl ⟨"RuleBooksModel", tb_at 984 (by decide +kernel) (by decide +kernel), Or.inl rfl⟩⟩
theorem gf_M_95 : GF "RuleBooksModel" 95 12 43 := ⟨by decide, by decide, Or.inl ⟨"RuleBooksModel", tb_at 985 (by decide +kernel) (by decide +kernel), Or.inl rfl⟩⟩
theorem gf_M_98 : GF "RuleBooksModel" 98 12 44 := ⟨by decide, by decide, Or.inl ⟨"RuleBooksModel", tb_at 986 (by decide +kernel) (by decide +kernel), Or.inl rfl⟩⟩
theorem gf_M_101 : GF "RuleBooksModel" 101 12 45 := ⟨by decide, by decide, Or.inl ⟨"RuleBooksModel", tb_at 987 (by decide +kernel) (by decide +kernel), Or.inl rfl⟩⟩
theorem gf_M_114 : GF "RuleBooksModel" 114 12 46 := ⟨by decide, by decide, Or.inl ⟨"RuleBooksModel", tb_at 988 (by decide +kernel) (by decide +kernel), Or.inl rfl⟩⟩
theorem gf_M_242 : GF "RuleBooksModel" 242 12 47 := ⟨by decide, by decide, Or.inl ⟨"RuleBooksModel", tb_at 989 (by decide +kernel) (by decide +kernel), Or.inl rfl⟩⟩
theorem gf_M_104 : GF "RuleBooksModel" 104 12 48 := ⟨by decide, by decide, Or.inl ⟨"RuleBooksModel", tb_at 990 (by decide +kernel) (by decide +kernel), Or.inl rfl⟩⟩
theorem gf_M_239 : GF "RuleBooksModel" 239 12 49 := ⟨by decide, by decide, Or.inl ⟨"RuleBooksModel", tb_at 991 (by decide +kernel) (by decide +kernel), Or.inl rfl⟩⟩
theorem gf_M_251 : GF "RuleBooksModel" 251 12 50 := ⟨by decide, by decide, Or.inl ⟨"RuleBooksModel", tb_at 992 (by decide +kernel) (by decide +kernel), Or.inl rfl⟩⟩
theorem gf_M_107 : GF "RuleBooksModel" 107 12 51 := ⟨by decide, by decide, Or.inl ⟨"RuleBooksModel", tb_at 993 (by decide +kernel) (by decide +kernel), Or.inl rfl⟩⟩
theorem ob_M_1 : Cond.methodLink "RuleBooksModel" 1 objectInit ∈ TB ∧ Cond.instanceMethod objectInit ∈ TB ∧ Cond.code objectInit ⟨#[0xb1]⟩ 1 none ∈ TB := ⟨tb_at 941 (by decide +kernel) (by decide +kernel), tb_at 88 (by decide +kernel) (by decide +kernel), tb_at 89 (by decide +kernel) (by decide +kernel)⟩
theorem cs_M_117 : CS "RuleBooksModel" 117 mM_isIn 3 := ⟨cb_M_isIn, tb_at 1105 (by decide +kernel) (by decide +kernel), Or.inl (tb_at 1104 (by decide +kernel) (by decide +kernel))⟩
theorem cv_M_121 : CV "RuleBooksModel" 121 12 mM_isUnder 2 := ⟨cb_M_isUnder, by decide, rfl, tb_at 1113 (by decide +kernel) (by decide +kernel), tb_at 34 (by decide +kernel) (by decide +kernel), Or.inl (tb_at 1111 (by decide +kernel) (by decide +kernel))⟩
theorem cv_M_128 : CV "RuleBooksModel" 128 12 mM_isSubject 1 := ⟨cb_M_isSubject, by decide, rfl, tb_at 1125 (by decide +kernel) (by decide +kernel), tb_at 35 (by decide +kernel) (by decide +kernel), Or.inl (tb_at 1123 (by decide +kernel) (by decide +kernel))⟩
theorem cv_M_135 : CV "RuleBooksModel" 135 12 mM_isBook 1 := ⟨cb_M_isBook, by decide, rfl, tb_at 1141 (by decide +kernel) (by decide +kernel), tb_at 36 (by decide +kernel) (by decide +kernel), Or.inl (tb_at 1139 (by decide +kernel) (by decide +kernel))⟩
theorem cv_M_141 : CV "RuleBooksModel" 141 12 mM_isRule 1 := ⟨cb_M_isRule, by decide, rfl, tb_at 1153 (by decide +kernel) (by decide +kernel), tb_at 37 (by decide +kernel) (by decide +kernel), Or.inl (tb_at 1151 (by decide +kernel) (by decide +kernel))⟩
theorem cv_M_181 : CV "RuleBooksModel" 181 12 mM_makes 1 := ⟨cb_M_makes, by decide, rfl, tb_at 1169 (by decide +kernel) (by decide +kernel), tb_at 38 (by decide +kernel) (by decide +kernel), Or.inl (tb_at 1167 (by decide +kernel) (by decide +kernel))⟩
theorem cv_M_160 : CV "RuleBooksModel" 160 12 mM_isAhead 2 := ⟨cb_M_isAhead, by decide, rfl, tb_at 1173 (by decide +kernel) (by decide +kernel), tb_at 39 (by decide +kernel) (by decide +kernel), Or.inl (tb_at 1171 (by decide +kernel) (by decide +kernel))⟩
theorem cv_M_154 : CV "RuleBooksModel" 154 12 mM_deeps 1 := ⟨cb_M_deeps, by decide, rfl, tb_at 1177 (by decide +kernel) (by decide +kernel), tb_at 40 (by decide +kernel) (by decide +kernel), Or.inl (tb_at 1175 (by decide +kernel) (by decide +kernel))⟩
theorem cv_M_150 : CV "RuleBooksModel" 150 12 mM_deep 1 := ⟨cb_M_deep, by decide, rfl, tb_at 1181 (by decide +kernel) (by decide +kernel), tb_at 41 (by decide +kernel) (by decide +kernel), Or.inl (tb_at 1179 (by decide +kernel) (by decide +kernel))⟩
theorem cv_M_163 : CV "RuleBooksModel" 163 12 mM_comes 2 := ⟨cb_M_comes, by decide, rfl, tb_at 1185 (by decide +kernel) (by decide +kernel), tb_at 42 (by decide +kernel) (by decide +kernel), Or.inl (tb_at 1183 (by decide +kernel) (by decide +kernel))⟩
theorem cv_M_167 : CV "RuleBooksModel" 167 12 mM_nextOrder 2 := ⟨cb_M_nextOrder, by decide, rfl, tb_at 1189 (by decide +kernel) (by decide +kernel), tb_at 43 (by decide +kernel) (by decide +kernel), Or.inl (tb_at 1187 (by decide +kernel) (by decide +kernel))⟩
theorem cv_M_171 : CV "RuleBooksModel" 171 12 mM_moves 1 := ⟨cb_M_moves, by decide, rfl, tb_at 1193 (by decide +kernel) (by decide +kernel), tb_at 44 (by decide +kernel) (by decide +kernel), Or.inl (tb_at 1191 (by decide +kernel) (by decide +kernel))⟩
theorem cv_M_175 : CV "RuleBooksModel" 175 12 mM_placeOf 1 := ⟨cb_M_placeOf, by decide, rfl, tb_at 1197 (by decide +kernel) (by decide +kernel), tb_at 45 (by decide +kernel) (by decide +kernel), Or.inl (tb_at 1195 (by decide +kernel) (by decide +kernel))⟩
theorem cv_M_178 : CV "RuleBooksModel" 178 12 mM_goes 1 := ⟨cb_M_goes, by decide, rfl, tb_at 1201 (by decide +kernel) (by decide +kernel), tb_at 46 (by decide +kernel) (by decide +kernel), Or.inl (tb_at 1199 (by decide +kernel) (by decide +kernel))⟩
theorem cv_M_218 : CV "RuleBooksModel" 218 12 mM_answer 2 := ⟨cb_M_answer, by decide, rfl, tb_at 1209 (by decide +kernel) (by decide +kernel), tb_at 47 (by decide +kernel) (by decide +kernel), Or.inl (tb_at 1207 (by decide +kernel) (by decide +kernel))⟩
theorem cv_M_221 : CV "RuleBooksModel" 221 12 mM_runs 2 := ⟨cb_M_runs, by decide, rfl, tb_at 1213 (by decide +kernel) (by decide +kernel), tb_at 48 (by decide +kernel) (by decide +kernel), Or.inl (tb_at 1211 (by decide +kernel) (by decide +kernel))⟩
theorem cv_M_197 : CV "RuleBooksModel" 197 12 mM_pushes 2 := ⟨cb_M_pushes, by decide, rfl, tb_at 1217 (by decide +kernel) (by decide +kernel), tb_at 49 (by decide +kernel) (by decide +kernel), Or.inl (tb_at 1215 (by decide +kernel) (by decide +kernel))⟩
theorem cv_M_201 : CV "RuleBooksModel" 201 12 mM_fails 2 := ⟨cb_M_fails, by decide, rfl, tb_at 1221 (by decide +kernel) (by decide +kernel), tb_at 50 (by decide +kernel) (by decide +kernel), Or.inl (tb_at 1219 (by decide +kernel) (by decide +kernel))⟩
theorem cv_M_204 : CV "RuleBooksModel" 204 12 mM_applies 3 := ⟨cb_M_applies, by decide, rfl, tb_at 1225 (by decide +kernel) (by decide +kernel), tb_at 51 (by decide +kernel) (by decide +kernel), Or.inl (tb_at 1223 (by decide +kernel) (by decide +kernel))⟩
theorem cv_M_214 : CV "RuleBooksModel" 214 12 mM_isSo 5 := ⟨cb_M_isSo, by decide, rfl, tb_at 1229 (by decide +kernel) (by decide +kernel), tb_at 52 (by decide +kernel) (by decide +kernel), Or.inl (tb_at 1227 (by decide +kernel) (by decide +kernel))⟩
theorem cv_M_207 : CV "RuleBooksModel" 207 12 mM_works 3 := ⟨cb_M_works, by decide, rfl, tb_at 1233 (by decide +kernel) (by decide +kernel), tb_at 53 (by decide +kernel) (by decide +kernel), Or.inl (tb_at 1231 (by decide +kernel) (by decide +kernel))⟩
theorem cv_M_224 : CV "RuleBooksModel" 224 12 mM_isBookOrNone 1 := ⟨cb_M_isBookOrNone, by decide, rfl, tb_at 1249 (by decide +kernel) (by decide +kernel), tb_at 54 (by decide +kernel) (by decide +kernel), Or.inl (tb_at 1247 (by decide +kernel) (by decide +kernel))⟩
theorem cv_M_236 : CV "RuleBooksModel" 236 12 mM_part 3 := ⟨cb_M_part, by decide, rfl, tb_at 1265 (by decide +kernel) (by decide +kernel), tb_at 55 (by decide +kernel) (by decide +kernel), Or.inl (tb_at 1263 (by decide +kernel) (by decide +kernel))⟩
theorem cv_M_245 : CV "RuleBooksModel" 245 12 mM_isEvent 1 := ⟨cb_M_isEvent, by decide, rfl, tb_at 1297 (by decide +kernel) (by decide +kernel), tb_at 56 (by decide +kernel) (by decide +kernel), Or.inl (tb_at 1295 (by decide +kernel) (by decide +kernel))⟩
theorem cv_M_248 : CV "RuleBooksModel" 248 12 mM_isMet 1 := ⟨cb_M_isMet, by decide, rfl, tb_at 1301 (by decide +kernel) (by decide +kernel), tb_at 57 (by decide +kernel) (by decide +kernel), Or.inl (tb_at 1299 (by decide +kernel) (by decide +kernel))⟩
theorem cv_M_254 : CV "RuleBooksModel" 254 12 mM_isMeant 4 := ⟨cb_M_isMeant, by decide, rfl, tb_at 1321 (by decide +kernel) (by decide +kernel), tb_at 58 (by decide +kernel) (by decide +kernel), Or.inl (tb_at 1319 (by decide +kernel) (by decide +kernel))⟩
theorem gf_Book_28 : GF "RuleBooks$Book" 28 0 0 := ⟨by decide, by decide, Or.inl ⟨"RuleBooks$Book", tb_at 450 (by decide +kernel) (by decide +kernel), Or.inl rfl⟩⟩
theorem gf_Book_9 : GF "RuleBooks$Book" 9 0 1 := ⟨by decide, by decide, Or.inl ⟨"RuleBooks$Book", tb_at 452 (by decide +kernel) (by decide +kernel), Or.inl rfl⟩⟩
theorem gf_Book_18 : GF "RuleBooks$Book" 18 0 2 := ⟨by decide, by decide, Or.inl ⟨"RuleBooks$Book", tb_at 455 (by decide +kernel) (by decide +kernel), Or.inl rfl⟩⟩
theorem gf_Book_22 : GF "RuleBooks$Book" 22 0 3 := ⟨by decide, by decide, Or.inl ⟨"RuleBooks$Book", tb_at 456 (by decide +kernel) (by decide +kernel), Or.inl rfl⟩⟩
theorem gf_Book_25 : GF "RuleBooks$Book" 25 0 4 := ⟨by decide, by decide, Or.inl ⟨"RuleBooks$Book", tb_at 457 (by decide +kernel) (by decide +kernel), Or.inl rfl⟩⟩
theorem gf_Book_73 : GF "RuleBooks$Book" 73 5 9 := ⟨by decide, by decide, Or.inr ⟨"RuleBooks", nt_at 451 (by decide +kernel) (by decide +kernel)⟩⟩
theorem gf_Book_80 : GF "RuleBooks$Book" 80 5 10 := ⟨by decide, by decide, Or.inr ⟨"RuleBooks", nt_at 453 (by decide +kernel) (by decide +kernel)⟩⟩
theorem ob_Book_3 : Cond.methodLink "RuleBooks$Book" 3 objectInit ∈ TB ∧ Cond.instanceMethod objectInit ∈ TB ∧ Cond.code objectInit ⟨#[0xb1]⟩ 1 none ∈ TB := ⟨tb_at 447 (by decide +kernel) (by decide +kernel), tb_at 88 (by decide +kernel) (by decide +kernel), tb_at 89 (by decide +kernel) (by decide +kernel)⟩
theorem ci_Book_17 : CI "RuleBooks$Book" 17 mAL_init 0 := ⟨cb_AL_init, rfl, rfl, tb_at 111 (by decide +kernel) (by decide +kernel), Or.inl (tb_at 449 (by decide +kernel) (by decide +kernel))⟩
theorem cv_Book_32 : CV "RuleBooks$Book" 32 13 mAL_add 1 := ⟨cb_AL_add, by decide, rfl, tb_at 349 (by decide +kernel) (by decide +kernel), tb_at 350 (by decide +kernel) (by decide +kernel), Or.inl (tb_at 541 (by decide +kernel) (by decide +kernel))⟩
theorem cv_Book_36 : CV "RuleBooks$Book" 36 0 mBook_arrangeRow 0 := ⟨cb_Book_arrangeRow, by decide, rfl, tb_at 543 (by decide +kernel) (by decide +kernel), tb_at 544 (by decide +kernel) (by decide +kernel), Or.inl (tb_at 542 (by decide +kernel) (by decide +kernel))⟩
theorem cv_Book_47 : CV "RuleBooks$Book" 47 13 mAL_clear 0 := ⟨cb_AL_clear, by decide, rfl, tb_at 547 (by decide +kernel) (by decide +kernel), tb_at 548 (by decide +kernel) (by decide +kernel), Or.inl (tb_at 546 (by decide +kernel) (by decide +kernel))⟩
theorem cv_Book_50 : CV "RuleBooks$Book" 50 13 mAL_size 0 := ⟨cb_AL_size, by decide, rfl, tb_at 327 (by decide +kernel) (by decide +kernel), tb_at 328 (by decide +kernel) (by decide +kernel), Or.inl (tb_at 550 (by decide +kernel) (by decide +kernel))⟩
theorem cv_Book_54 : CV "RuleBooks$Book" 54 13 mAL_get 1 := ⟨cb_AL_get, by decide, rfl, tb_at 418 (by decide +kernel) (by decide +kernel), tb_at 419 (by decide +kernel) (by decide +kernel), Or.inl (tb_at 551 (by decide +kernel) (by decide +kernel))⟩
theorem cv_Book_59 : CV "RuleBooks$Book" 59 0 mBook_putByRank 1 := ⟨cb_Book_putByRank, by decide, rfl, tb_at 555 (by decide +kernel) (by decide +kernel), tb_at 5 (by decide +kernel) (by decide +kernel), Or.inl (tb_at 553 (by decide +kernel) (by decide +kernel))⟩
theorem cv_Book_66 : CV "RuleBooks$Book" 66 5 mRule_outranks 1 := ⟨cb_Rule_outranks, by decide, rfl, tb_at 558 (by decide +kernel) (by decide +kernel), tb_at 559 (by decide +kernel) (by decide +kernel), Or.inl (tb_at 557 (by decide +kernel) (by decide +kernel))⟩
theorem cv_Book_70 : CV "RuleBooks$Book" 70 13 mAL_add2 2 := ⟨cb_AL_add2, by decide, rfl, tb_at 563 (by decide +kernel) (by decide +kernel), tb_at 564 (by decide +kernel) (by decide +kernel), Or.inl (tb_at 562 (by decide +kernel) (by decide +kernel))⟩
theorem cv_Book_63 : CV "RuleBooks$Book" 63 0 mBook_carryOutOrder 1 := ⟨cb_Book_carryOutOrder, by decide, rfl, tb_at 573 (by decide +kernel) (by decide +kernel), tb_at 7 (by decide +kernel) (by decide +kernel), Or.inl (tb_at 571 (by decide +kernel) (by decide +kernel))⟩
theorem cs_Book_39 : CS "RuleBooks$Book" 39 mBook_placeIn 2 := ⟨cb_Book_placeIn, tb_at 576 (by decide +kernel) (by decide +kernel), Or.inl (tb_at 575 (by decide +kernel) (by decide +kernel))⟩
theorem cs_Book_76 : CS "RuleBooks$Book" 76 mX_isAboutAnother 1 := ⟨cb_X_isAboutAnother, tb_at 579 (by decide +kernel) (by decide +kernel), Or.inr ⟨"RuleBooks", nt_at 519 (by decide +kernel) (by decide +kernel)⟩⟩
theorem cv_Book_43 : CV "RuleBooks$Book" 43 13 mAL_remove 1 := ⟨cb_AL_remove, by decide, rfl, tb_at 582 (by decide +kernel) (by decide +kernel), tb_at 583 (by decide +kernel) (by decide +kernel), Or.inl (tb_at 581 (by decide +kernel) (by decide +kernel))⟩
theorem cv_Book_84 : CV "RuleBooks$Book" 84 13 mAL_set 2 := ⟨cb_AL_set, by decide, rfl, tb_at 590 (by decide +kernel) (by decide +kernel), tb_at 591 (by decide +kernel) (by decide +kernel), Or.inl (tb_at 589 (by decide +kernel) (by decide +kernel))⟩
theorem nw_Book_15 : NW "RuleBooks$Book" 15 13 := ⟨by decide, tb_at 448 (by decide +kernel) (by decide +kernel), tb_at 109 (by decide +kernel) (by decide +kernel), tb_at 64 (by decide +kernel) (by decide +kernel)⟩
theorem nw_Book_57 : NW "RuleBooks$Book" 57 5 := ⟨by decide, tb_at 552 (by decide +kernel) (by decide +kernel), tb_at 484 (by decide +kernel) (by decide +kernel), tb_at 79 (by decide +kernel) (by decide +kernel)⟩
theorem gf_Cond_15 : GF "RuleBooks$Condition" 15 1 0 := ⟨by decide, by decide, Or.inl ⟨"RuleBooks$Condition", tb_at 616 (by decide +kernel) (by decide +kernel), Or.inl rfl⟩⟩
theorem gf_Cond_9 : GF "RuleBooks$Condition" 9 1 1 := ⟨by decide, by decide, Or.inl ⟨"RuleBooks$Condition", tb_at 618 (by decide +kernel) (by decide +kernel), Or.inl rfl⟩⟩
theorem gf_Cond_19 : GF "RuleBooks$Condition" 19 1 2 := ⟨by decide, by decide, Or.inl ⟨"RuleBooks$Condition", tb_at 620 (by decide +kernel) (by decide +kernel), Or.inl rfl⟩⟩
theorem gf_Cond_22 : GF "RuleBooks$Condition" 22 1 3 := ⟨by decide, by decide, Or.inl ⟨"RuleBooks$Condition", tb_at 622 (by decide +kernel) (by decide +kernel), Or.inl rfl⟩⟩
theorem ob_Cond_3 : Cond.methodLink "RuleBooks$Condition" 3 objectInit ∈ TB ∧ Cond.instanceMethod objectInit ∈ TB ∧ Cond.code objectInit ⟨#[0xb1]⟩ 1 none ∈ TB := ⟨tb_at 615 (by decide +kernel) (by decide +kernel), tb_at 88 (by decide +kernel) (by decide +kernel), tb_at 89 (by decide +kernel) (by decide +kernel)⟩
theorem gf_Kinds_9 : GF "RuleBooks$Kinds" 9 2 0 := ⟨by decide, by decide, Or.inl ⟨"RuleBooks$Kinds", tb_at 96 (by decide +kernel) (by decide +kernel), Or.inl rfl⟩⟩
theorem gf_Kinds_15 : GF "RuleBooks$Kinds" 15 2 1 := ⟨by decide, by decide, Or.inl ⟨"RuleBooks$Kinds", tb_at 97 (by decide +kernel) (by decide +kernel), Or.inl rfl⟩⟩
theorem gf_Kinds_18 : GF "RuleBooks$Kinds" 18 2 2 := ⟨by decide, by decide, Or.inl ⟨"RuleBooks$Kinds", tb_at 98 (by decide +kernel) (by decide +kernel), Or.inl rfl⟩⟩
theorem ob_Kinds_3 : Cond.methodLink "RuleBooks$Kinds" 3 objectInit ∈ TB ∧ Cond.instanceMethod objectInit ∈ TB ∧ Cond.code objectInit ⟨#[0xb1]⟩ 1 none ∈ TB := ⟨tb_at 95 (by decide +kernel) (by decide +kernel), tb_at 88 (by decide +kernel) (by decide +kernel), tb_at 89 (by decide +kernel) (by decide +kernel)⟩
theorem gf_Own_9 : GF "RuleBooks$OwnState" 9 3 0 := ⟨by decide, by decide, Or.inl ⟨"RuleBooks$OwnState", tb_at 221 (by decide +kernel) (by decide +kernel), Or.inl rfl⟩⟩
theorem gf_Own_21 : GF "RuleBooks$OwnState" 21 3 1 := ⟨by decide, by decide, Or.inl ⟨"RuleBooks$OwnState", tb_at 223 (by decide +kernel) (by decide +kernel), Or.inl rfl⟩⟩
theorem ob_Own_3 : Cond.methodLink "RuleBooks$OwnState" 3 objectInit ∈ TB ∧ Cond.instanceMethod objectInit ∈ TB ∧ Cond.code objectInit ⟨#[0xb1]⟩ 1 none ∈ TB := ⟨tb_at 220 (by decide +kernel) (by decide +kernel), tb_at 88 (by decide +kernel) (by decide +kernel), tb_at 89 (by decide +kernel) (by decide +kernel)⟩
theorem cy_Own_15 : CY "RuleBooks$OwnState" 15 := ⟨tb_at 679 (by decide +kernel) (by decide +kernel), tb_at 406 (by decide +kernel) (by decide +kernel), tb_at 405 (by decide +kernel) (by decide +kernel), tb_at 75 (by decide +kernel) (by decide +kernel)⟩
theorem gf_Phr_21 : GF "RuleBooks$Phrases" 21 4 0 := ⟨by decide, by decide, Or.inl ⟨"RuleBooks$Phrases", tb_at 170 (by decide +kernel) (by decide +kernel), Or.inl rfl⟩⟩
theorem gf_Phr_9 : GF "RuleBooks$Phrases" 9 4 1 := ⟨by decide, by decide, Or.inl ⟨"RuleBooks$Phrases", tb_at 171 (by decide +kernel) (by decide +kernel), Or.inl rfl⟩⟩
theorem gf_Phr_15 : GF "RuleBooks$Phrases" 15 4 2 := ⟨by decide, by decide, Or.inl ⟨"RuleBooks$Phrases", tb_at 172 (by decide +kernel) (by decide +kernel), Or.inl rfl⟩⟩
theorem gf_Phr_18 : GF "RuleBooks$Phrases" 18 4 3 := ⟨by decide, by decide, Or.inl ⟨"RuleBooks$Phrases", tb_at 173 (by decide +kernel) (by decide +kernel), Or.inl rfl⟩⟩
theorem gf_Phr_29 : GF "RuleBooks$Phrases" 29 4 4 := ⟨by decide, by decide, Or.inl ⟨"RuleBooks$Phrases", tb_at 174 (by decide +kernel) (by decide +kernel), Or.inl rfl⟩⟩
theorem ob_Phr_3 : Cond.methodLink "RuleBooks$Phrases" 3 objectInit ∈ TB ∧ Cond.instanceMethod objectInit ∈ TB ∧ Cond.code objectInit ⟨#[0xb1]⟩ 1 none ∈ TB := ⟨tb_at 169 (by decide +kernel) (by decide +kernel), tb_at 88 (by decide +kernel) (by decide +kernel), tb_at 89 (by decide +kernel) (by decide +kernel)⟩
theorem cv_Phr_25 : CV "RuleBooks$Phrases" 25 4 mPhr_isTold 3 := ⟨cb_Phr_isTold, by decide, rfl, tb_at 913 (by decide +kernel) (by decide +kernel), tb_at 31 (by decide +kernel) (by decide +kernel), Or.inl (tb_at 911 (by decide +kernel) (by decide +kernel))⟩
theorem cv_Phr_33 : CV "RuleBooks$Phrases" 33 4 mPhr_isMeant 4 := ⟨cb_Phr_isMeant, by decide, rfl, tb_at 925 (by decide +kernel) (by decide +kernel), tb_at 32 (by decide +kernel) (by decide +kernel), Or.inl (tb_at 923 (by decide +kernel) (by decide +kernel))⟩
theorem cv_Phr_40 : CV "RuleBooks$Phrases" 40 2 mKinds_isUnder 2 := ⟨cb_Kinds_isUnder, by decide, rfl, tb_at 316 (by decide +kernel) (by decide +kernel), tb_at 317 (by decide +kernel) (by decide +kernel), Or.inl (tb_at 927 (by decide +kernel) (by decide +kernel))⟩
theorem cv_Phr_37 : CV "RuleBooks$Phrases" 37 4 mPhr_isUnderAllMeant 3 := ⟨cb_Phr_isUnderAllMeant, by decide, rfl, tb_at 930 (by decide +kernel) (by decide +kernel), tb_at 33 (by decide +kernel) (by decide +kernel), Or.inl (tb_at 928 (by decide +kernel) (by decide +kernel))⟩
theorem gf_Rule_22 : GF "RuleBooks$Rule" 22 5 0 := ⟨by decide, by decide, Or.inl ⟨"RuleBooks$Rule", tb_at 491 (by decide +kernel) (by decide +kernel), Or.inl rfl⟩⟩
theorem gf_Rule_25 : GF "RuleBooks$Rule" 25 5 1 := ⟨by decide, by decide, Or.inl ⟨"RuleBooks$Rule", tb_at 494 (by decide +kernel) (by decide +kernel), Or.inl rfl⟩⟩
theorem gf_Rule_29 : GF "RuleBooks$Rule" 29 5 2 := ⟨by decide, by decide, Or.inl ⟨"RuleBooks$Rule", tb_at 496 (by decide +kernel) (by decide +kernel), Or.inl rfl⟩⟩
theorem gf_Rule_32 : GF "RuleBooks$Rule" 32 5 3 := ⟨by decide, by decide, Or.inl ⟨"RuleBooks$Rule", tb_at 497 (by decide +kernel) (by decide +kernel), Or.inl rfl⟩⟩
theorem gf_Rule_12 : GF "RuleBooks$Rule" 12 5 4 := ⟨by decide, by decide, Or.inl ⟨"RuleBooks$Rule", tb_at 498 (by decide +kernel) (by decide +kernel), Or.inl rfl⟩⟩
theorem gf_Rule_39 : GF "RuleBooks$Rule" 39 5 5 := ⟨by decide, by decide, Or.inl ⟨"RuleBooks$Rule", tb_at 501 (by decide +kernel) (by decide +kernel), Or.inl rfl⟩⟩
theorem gf_Rule_18 : GF "RuleBooks$Rule" 18 5 6 := ⟨by decide, by decide, Or.inl ⟨"RuleBooks$Rule", tb_at 503 (by decide +kernel) (by decide +kernel), Or.inl rfl⟩⟩
theorem ob_Rule_3 : Cond.methodLink "RuleBooks$Rule" 3 objectInit ∈ TB ∧ Cond.instanceMethod objectInit ∈ TB ∧ Cond.code objectInit ⟨#[0xb1]⟩ 1 none ∈ TB := ⟨tb_at 488 (by decide +kernel) (by decide +kernel), tb_at 88 (by decide +kernel) (by decide +kernel), tb_at 89 (by decide +kernel) (by decide +kernel)⟩
theorem ci_Rule_11 : CI "RuleBooks$Rule" 11 mAL_init 0 := ⟨cb_AL_init, rfl, rfl, tb_at 111 (by decide +kernel) (by decide +kernel), Or.inl (tb_at 490 (by decide +kernel) (by decide +kernel))⟩
theorem cv_Rule_35 : CV "RuleBooks$Rule" 35 13 mAL_size 0 := ⟨cb_AL_size, by decide, rfl, tb_at 327 (by decide +kernel) (by decide +kernel), tb_at 328 (by decide +kernel) (by decide +kernel), Or.inl (tb_at 561 (by decide +kernel) (by decide +kernel))⟩
theorem nw_Rule_9 : NW "RuleBooks$Rule" 9 13 := ⟨by decide, tb_at 489 (by decide +kernel) (by decide +kernel), tb_at 109 (by decide +kernel) (by decide +kernel), tb_at 64 (by decide +kernel) (by decide +kernel)⟩
theorem gf_Run_67 : GF "RuleBooks$Runner" 67 10 3 := ⟨by decide, by decide, Or.inr ⟨"RuleBooks", nt_at 146 (by decide +kernel) (by decide +kernel)⟩⟩
theorem gf_Run_154 : GF "RuleBooks$Runner" 154 3 0 := ⟨by decide, by decide, Or.inr ⟨"RuleBooks", nt_at 163 (by decide +kernel) (by decide +kernel)⟩⟩
theorem gf_Run_24 : GF "RuleBooks$Runner" 24 6 0 := ⟨by decide, by decide, Or.inl ⟨"RuleBooks$Runner", tb_at 229 (by decide +kernel) (by decide +kernel), Or.inl rfl⟩⟩
theorem gf_Run_28 : GF "RuleBooks$Runner" 28 6 1 := ⟨by decide, by decide, Or.inl ⟨"RuleBooks$Runner", tb_at 230 (by decide +kernel) (by decide +kernel), Or.inl rfl⟩⟩
theorem gf_Run_32 : GF "RuleBooks$Runner" 32 6 2 := ⟨by decide, by decide, Or.inl ⟨"RuleBooks$Runner", tb_at 231 (by decide +kernel) (by decide +kernel), Or.inl rfl⟩⟩
theorem gf_Run_11 : GF "RuleBooks$Runner" 11 6 3 := ⟨by decide, by decide, Or.inl ⟨"RuleBooks$Runner", tb_at 232 (by decide +kernel) (by decide +kernel), Or.inl rfl⟩⟩
theorem gf_Run_20 : GF "RuleBooks$Runner" 20 6 4 := ⟨by decide, by decide, Or.inl ⟨"RuleBooks$Runner", tb_at 233 (by decide +kernel) (by decide +kernel), Or.inl rfl⟩⟩
theorem gf_Run_70 : GF "RuleBooks$Runner" 70 6 5 := ⟨by decide, by decide, Or.inl ⟨"RuleBooks$Runner", tb_at 235 (by decide +kernel) (by decide +kernel), Or.inl rfl⟩⟩
theorem gf_Run_73 : GF "RuleBooks$Runner" 73 6 6 := ⟨by decide, by decide, Or.inl ⟨"RuleBooks$Runner", tb_at 237 (by decide +kernel) (by decide +kernel), Or.inl rfl⟩⟩
theorem gf_Run_137 : GF "RuleBooks$Runner" 137 9 0 := ⟨by decide, by decide, Or.inr ⟨"RuleBooks", nt_at 278 (by decide +kernel) (by decide +kernel)⟩⟩
theorem gf_Run_148 : GF "RuleBooks$Runner" 148 9 1 := ⟨by decide, by decide, Or.inr ⟨"RuleBooks", nt_at 282 (by decide +kernel) (by decide +kernel)⟩⟩
theorem gf_Run_52 : GF "RuleBooks$Runner" 52 0 0 := ⟨by decide, by decide, Or.inr ⟨"RuleBooks", nt_at 392 (by decide +kernel) (by decide +kernel)⟩⟩
theorem gf_Run_76 : GF "RuleBooks$Runner" 76 0 1 := ⟨by decide, by decide, Or.inr ⟨"RuleBooks", nt_at 394 (by decide +kernel) (by decide +kernel)⟩⟩
theorem gf_Run_84 : GF "RuleBooks$Runner" 84 0 4 := ⟨by decide, by decide, Or.inr ⟨"RuleBooks", nt_at 399 (by decide +kernel) (by decide +kernel)⟩⟩
theorem gf_Run_107 : GF "RuleBooks$Runner" 107 5 0 := ⟨by decide, by decide, Or.inr ⟨"RuleBooks", nt_at 433 (by decide +kernel) (by decide +kernel)⟩⟩
theorem gf_Run_100 : GF "RuleBooks$Runner" 100 5 4 := ⟨by decide, by decide, Or.inr ⟨"RuleBooks", nt_at 440 (by decide +kernel) (by decide +kernel)⟩⟩
theorem gf_Run_172 : GF "RuleBooks$Runner" 172 5 6 := ⟨by decide, by decide, Or.inr ⟨"RuleBooks", nt_at 445 (by decide +kernel) (by decide +kernel)⟩⟩
theorem gf_Run_166 : GF "RuleBooks$Runner" 166 5 7 := ⟨by decide, by decide, Or.inr ⟨"RuleBooks", nt_at 447 (by decide +kernel) (by decide +kernel)⟩⟩
theorem gf_Run_169 : GF "RuleBooks$Runner" 169 5 8 := ⟨by decide, by decide, Or.inr ⟨"RuleBooks", nt_at 449 (by decide +kernel) (by decide +kernel)⟩⟩
theorem gf_Run_134 : GF "RuleBooks$Runner" 134 1 0 := ⟨by decide, by decide, Or.inr ⟨"RuleBooks", nt_at 558 (by decide +kernel) (by decide +kernel)⟩⟩
theorem gf_Run_127 : GF "RuleBooks$Runner" 127 1 1 := ⟨by decide, by decide, Or.inr ⟨"RuleBooks", nt_at 560 (by decide +kernel) (by decide +kernel)⟩⟩
theorem gf_Run_131 : GF "RuleBooks$Runner" 131 1 2 := ⟨by decide, by decide, Or.inr ⟨"RuleBooks", nt_at 562 (by decide +kernel) (by decide +kernel)⟩⟩
theorem gf_Run_151 : GF "RuleBooks$Runner" 151 1 3 := ⟨by decide, by decide, Or.inr ⟨"RuleBooks", nt_at 564 (by decide +kernel) (by decide +kernel)⟩⟩
theorem ob_Run_3 : Cond.methodLink "RuleBooks$Runner" 3 objectInit ∈ TB ∧ Cond.instanceMethod objectInit ∈ TB ∧ Cond.code objectInit ⟨#[0xb1]⟩ 1 none ∈ TB := ⟨tb_at 192 (by decide +kernel) (by decide +kernel), tb_at 88 (by decide +kernel) (by decide +kernel), tb_at 89 (by decide +kernel) (by decide +kernel)⟩
theorem ci_Run_19 : CI "RuleBooks$Runner" 19 mTrc_init 0 := ⟨cb_Trc_init, rfl, rfl, tb_at 198 (by decide +kernel) (by decide +kernel), Or.inr ⟨"RuleBooks", nt_at 138 (by decide +kernel) (by decide +kernel)⟩⟩
theorem ci_Run_36 : CI "RuleBooks$Runner" 36 mOwn_init 0 := ⟨cb_Own_init, rfl, rfl, tb_at 218 (by decide +kernel) (by decide +kernel), Or.inr ⟨"RuleBooks", nt_at 158 (by decide +kernel) (by decide +kernel)⟩⟩
theorem cv_Run_37 : CV "RuleBooks$Runner" 37 6 mRun_startCall 0 := ⟨cb_Run_startCall, by decide, rfl, tb_at 669 (by decide +kernel) (by decide +kernel), tb_at 12 (by decide +kernel) (by decide +kernel), Or.inl (tb_at 667 (by decide +kernel) (by decide +kernel))⟩
theorem cv_Run_40 : CV "RuleBooks$Runner" 40 6 mRun_outcomeOf 3 := ⟨cb_Run_outcomeOf, by decide, rfl, tb_at 673 (by decide +kernel) (by decide +kernel), tb_at 13 (by decide +kernel) (by decide +kernel), Or.inl (tb_at 671 (by decide +kernel) (by decide +kernel))⟩
theorem cv_Run_80 : CV "RuleBooks$Runner" 80 3 mOwn_startWith 1 := ⟨cb_Own_startWith, by decide, rfl, tb_at 676 (by decide +kernel) (by decide +kernel), tb_at 677 (by decide +kernel) (by decide +kernel), Or.inl (tb_at 675 (by decide +kernel) (by decide +kernel))⟩
theorem cv_Run_58 : CV "RuleBooks$Runner" 58 13 mAL_size 0 := ⟨cb_AL_size, by decide, rfl, tb_at 327 (by decide +kernel) (by decide +kernel), tb_at 328 (by decide +kernel) (by decide +kernel), Or.inl (tb_at 680 (by decide +kernel) (by decide +kernel))⟩
theorem cv_Run_63 : CV "RuleBooks$Runner" 63 13 mAL_get 1 := ⟨cb_AL_get, by decide, rfl, tb_at 418 (by decide +kernel) (by decide +kernel), tb_at 419 (by decide +kernel) (by decide +kernel), Or.inl (tb_at 681 (by decide +kernel) (by decide +kernel))⟩
theorem cv_Run_89 : CV "RuleBooks$Runner" 89 6 mRun_lookAt 4 := ⟨cb_Run_lookAt, by decide, rfl, tb_at 685 (by decide +kernel) (by decide +kernel), tb_at 14 (by decide +kernel) (by decide +kernel), Or.inl (tb_at 683 (by decide +kernel) (by decide +kernel))⟩
theorem cv_Run_93 : CV "RuleBooks$Runner" 93 10 mTrc_isFull 0 := ⟨cb_Trc_isFull, by decide, rfl, tb_at 688 (by decide +kernel) (by decide +kernel), tb_at 689 (by decide +kernel) (by decide +kernel), Or.inl (tb_at 687 (by decide +kernel) (by decide +kernel))⟩
theorem cv_Run_96 : CV "RuleBooks$Runner" 96 6 mRun_err 2 := ⟨cb_Run_err, by decide, rfl, tb_at 693 (by decide +kernel) (by decide +kernel), tb_at 15 (by decide +kernel) (by decide +kernel), Or.inl (tb_at 691 (by decide +kernel) (by decide +kernel))⟩
theorem cv_Run_103 : CV "RuleBooks$Runner" 103 6 mRun_areAllSo 3 := ⟨cb_Run_areAllSo, by decide, rfl, tb_at 697 (by decide +kernel) (by decide +kernel), tb_at 16 (by decide +kernel) (by decide +kernel), Or.inl (tb_at 695 (by decide +kernel) (by decide +kernel))⟩
theorem cv_Run_123 : CV "RuleBooks$Runner" 123 6 mRun_isSo 3 := ⟨cb_Run_isSo, by decide, rfl, tb_at 702 (by decide +kernel) (by decide +kernel), tb_at 17 (by decide +kernel) (by decide +kernel), Or.inl (tb_at 700 (by decide +kernel) (by decide +kernel))⟩
theorem cv_Run_142 : CV "RuleBooks$Runner" 142 2 mKinds_isUnder 2 := ⟨cb_Kinds_isUnder, by decide, rfl, tb_at 316 (by decide +kernel) (by decide +kernel), tb_at 317 (by decide +kernel) (by decide +kernel), Or.inl (tb_at 704 (by decide +kernel) (by decide +kernel))⟩
theorem cv_Run_157 : CV "RuleBooks$Runner" 157 8 mScs_isOn 1 := ⟨cb_Scs_isOn, by decide, rfl, tb_at 706 (by decide +kernel) (by decide +kernel), tb_at 707 (by decide +kernel) (by decide +kernel), Or.inl (tb_at 705 (by decide +kernel) (by decide +kernel))⟩
theorem cv_Run_163 : CV "RuleBooks$Runner" 163 3 mOwn_hasApplied 1 := ⟨cb_Own_hasApplied, by decide, rfl, tb_at 712 (by decide +kernel) (by decide +kernel), tb_at 713 (by decide +kernel) (by decide +kernel), Or.inl (tb_at 711 (by decide +kernel) (by decide +kernel))⟩
theorem cv_Run_110 : CV "RuleBooks$Runner" 110 10 mTrc_add 3 := ⟨cb_Trc_add, by decide, rfl, tb_at 716 (by decide +kernel) (by decide +kernel), tb_at 717 (by decide +kernel) (by decide +kernel), Or.inl (tb_at 715 (by decide +kernel) (by decide +kernel))⟩
theorem cv_Run_114 : CV "RuleBooks$Runner" 114 3 mOwn_noteApplied 1 := ⟨cb_Own_noteApplied, by decide, rfl, tb_at 721 (by decide +kernel) (by decide +kernel), tb_at 722 (by decide +kernel) (by decide +kernel), Or.inl (tb_at 720 (by decide +kernel) (by decide +kernel))⟩
theorem cv_Run_118 : CV "RuleBooks$Runner" 118 6 mRun_perform 4 := ⟨cb_Run_perform, by decide, rfl, tb_at 726 (by decide +kernel) (by decide +kernel), tb_at 18 (by decide +kernel) (by decide +kernel), Or.inl (tb_at 724 (by decide +kernel) (by decide +kernel))⟩
theorem cv_Run_175 : CV "RuleBooks$Runner" 175 6 mRun_goToBook 3 := ⟨cb_Run_goToBook, by decide, rfl, tb_at 730 (by decide +kernel) (by decide +kernel), tb_at 19 (by decide +kernel) (by decide +kernel), Or.inl (tb_at 728 (by decide +kernel) (by decide +kernel))⟩
theorem cv_Run_44 : CV "RuleBooks$Runner" 44 6 mRun_hasErred 0 := ⟨cb_Run_hasErred, by decide, rfl, tb_at 735 (by decide +kernel) (by decide +kernel), tb_at 20 (by decide +kernel) (by decide +kernel), Or.inl (tb_at 733 (by decide +kernel) (by decide +kernel))⟩
theorem cv_Run_48 : CV "RuleBooks$Runner" 48 6 mRun_errAnswer 0 := ⟨cb_Run_errAnswer, by decide, rfl, tb_at 739 (by decide +kernel) (by decide +kernel), tb_at 21 (by decide +kernel) (by decide +kernel), Or.inl (tb_at 737 (by decide +kernel) (by decide +kernel))⟩
theorem nw_Run_9 : NW "RuleBooks$Runner" 9 3 := ⟨by decide, tb_at 193 (by decide +kernel) (by decide +kernel), tb_at 216 (by decide +kernel) (by decide +kernel), tb_at 69 (by decide +kernel) (by decide +kernel)⟩
theorem nw_Run_17 : NW "RuleBooks$Runner" 17 10 := ⟨by decide, tb_at 195 (by decide +kernel) (by decide +kernel), tb_at 196 (by decide +kernel) (by decide +kernel), tb_at 68 (by decide +kernel) (by decide +kernel)⟩
theorem nw_Run_87 : NW "RuleBooks$Runner" 87 5 := ⟨by decide, tb_at 682 (by decide +kernel) (by decide +kernel), tb_at 484 (by decide +kernel) (by decide +kernel), tb_at 79 (by decide +kernel) (by decide +kernel)⟩
theorem nw_Run_121 : NW "RuleBooks$Runner" 121 1 := ⟨by decide, tb_at 699 (by decide +kernel) (by decide +kernel), tb_at 611 (by decide +kernel) (by decide +kernel), tb_at 80 (by decide +kernel) (by decide +kernel)⟩
theorem nw_Run_53 : NW "RuleBooks$Runner" 53 0 := ⟨by decide, tb_at 732 (by decide +kernel) (by decide +kernel), tb_at 443 (by decide +kernel) (by decide +kernel), tb_at 78 (by decide +kernel) (by decide +kernel)⟩
theorem gf_Scene_18 : GF "RuleBooks$Scene" 18 7 0 := ⟨by decide, by decide, Or.inl ⟨"RuleBooks$Scene", tb_at 814 (by decide +kernel) (by decide +kernel), Or.inl rfl⟩⟩
theorem gf_Scene_9 : GF "RuleBooks$Scene" 9 7 3 := ⟨by decide, by decide, Or.inl ⟨"RuleBooks$Scene", tb_at 818 (by decide +kernel) (by decide +kernel), Or.inl rfl⟩⟩
theorem gf_Scene_15 : GF "RuleBooks$Scene" 15 7 4 := ⟨by decide, by decide, Or.inl ⟨"RuleBooks$Scene", tb_at 820 (by decide +kernel) (by decide +kernel), Or.inl rfl⟩⟩
theorem ob_Scene_3 : Cond.methodLink "RuleBooks$Scene" 3 objectInit ∈ TB ∧ Cond.instanceMethod objectInit ∈ TB ∧ Cond.code objectInit ⟨#[0xb1]⟩ 1 none ∈ TB := ⟨tb_at 813 (by decide +kernel) (by decide +kernel), tb_at 88 (by decide +kernel) (by decide +kernel), tb_at 89 (by decide +kernel) (by decide +kernel)⟩
theorem gf_Scs_22 : GF "RuleBooks$Scenes" 22 8 0 := ⟨by decide, by decide, Or.inl ⟨"RuleBooks$Scenes", tb_at 144 (by decide +kernel) (by decide +kernel), Or.inl rfl⟩⟩
theorem gf_Scs_12 : GF "RuleBooks$Scenes" 12 8 1 := ⟨by decide, by decide, Or.inl ⟨"RuleBooks$Scenes", tb_at 145 (by decide +kernel) (by decide +kernel), Or.inl rfl⟩⟩
theorem gf_Scs_18 : GF "RuleBooks$Scenes" 18 8 2 := ⟨by decide, by decide, Or.inl ⟨"RuleBooks$Scenes", tb_at 147 (by decide +kernel) (by decide +kernel), Or.inl rfl⟩⟩
theorem gf_Scs_67 : GF "RuleBooks$Scenes" 67 8 3 := ⟨by decide, by decide, Or.inl ⟨"RuleBooks$Scenes", tb_at 149 (by decide +kernel) (by decide +kernel), Or.inl rfl⟩⟩
theorem gf_Scs_64 : GF "RuleBooks$Scenes" 64 8 4 := ⟨by decide, by decide, Or.inl ⟨"RuleBooks$Scenes", tb_at 151 (by decide +kernel) (by decide +kernel), Or.inl rfl⟩⟩
theorem gf_Scs_92 : GF "RuleBooks$Scenes" 92 9 1 := ⟨by decide, by decide, Or.inr ⟨"RuleBooks", nt_at 283 (by decide +kernel) (by decide +kernel)⟩⟩
theorem gf_Scs_87 : GF "RuleBooks$Scenes" 87 7 0 := ⟨by decide, by decide, Or.inr ⟨"RuleBooks", nt_at 756 (by decide +kernel) (by decide +kernel)⟩⟩
theorem gf_Scs_42 : GF "RuleBooks$Scenes" 42 7 1 := ⟨by decide, by decide, Or.inr ⟨"RuleBooks", nt_at 757 (by decide +kernel) (by decide +kernel)⟩⟩
theorem gf_Scs_46 : GF "RuleBooks$Scenes" 46 7 2 := ⟨by decide, by decide, Or.inr ⟨"RuleBooks", nt_at 758 (by decide +kernel) (by decide +kernel)⟩⟩
theorem gf_Scs_54 : GF "RuleBooks$Scenes" 54 7 3 := ⟨by decide, by decide, Or.inr ⟨"RuleBooks", nt_at 760 (by decide +kernel) (by decide +kernel)⟩⟩
theorem gf_Scs_57 : GF "RuleBooks$Scenes" 57 7 4 := ⟨by decide, by decide, Or.inr ⟨"RuleBooks", nt_at 762 (by decide +kernel) (by decide +kernel)⟩⟩
theorem ob_Scs_3 : Cond.methodLink "RuleBooks$Scenes" 3 objectInit ∈ TB ∧ Cond.instanceMethod objectInit ∈ TB ∧ Cond.code objectInit ⟨#[0xb1]⟩ 1 none ∈ TB := ⟨tb_at 141 (by decide +kernel) (by decide +kernel), tb_at 88 (by decide +kernel) (by decide +kernel), tb_at 89 (by decide +kernel) (by decide +kernel)⟩
theorem ci_Scs_11 : CI "RuleBooks$Scenes" 11 mAL_init 0 := ⟨cb_AL_init, rfl, rfl, tb_at 111 (by decide +kernel) (by decide +kernel), Or.inl (tb_at 143 (by decide +kernel) (by decide +kernel))⟩
theorem cv_Scs_25 : CV "RuleBooks$Scenes" 25 13 mAL_size 0 := ⟨cb_AL_size, by decide, rfl, tb_at 327 (by decide +kernel) (by decide +kernel), tb_at 328 (by decide +kernel) (by decide +kernel), Or.inl (tb_at 609 (by decide +kernel) (by decide +kernel))⟩
theorem cv_Scs_38 : CV "RuleBooks$Scenes" 38 13 mAL_get 1 := ⟨cb_AL_get, by decide, rfl, tb_at 418 (by decide +kernel) (by decide +kernel), tb_at 419 (by decide +kernel) (by decide +kernel), Or.inl (tb_at 709 (by decide +kernel) (by decide +kernel))⟩
theorem ci_Scs_31 : CI "RuleBooks$Scenes" 31 mScene_init 1 := ⟨cb_Scene_init, rfl, rfl, tb_at 811 (by decide +kernel) (by decide +kernel), Or.inl (tb_at 810 (by decide +kernel) (by decide +kernel))⟩
theorem cv_Scs_34 : CV "RuleBooks$Scenes" 34 13 mAL_add 1 := ⟨cb_AL_add, by decide, rfl, tb_at 349 (by decide +kernel) (by decide +kernel), tb_at 350 (by decide +kernel) (by decide +kernel), Or.inl (tb_at 833 (by decide +kernel) (by decide +kernel))⟩
theorem cv_Scs_50 : CV "RuleBooks$Scenes" 50 8 mScs_has 1 := ⟨cb_Scs_has, by decide, rfl, tb_at 606 (by decide +kernel) (by decide +kernel), tb_at 607 (by decide +kernel) (by decide +kernel), Or.inl (tb_at 842 (by decide +kernel) (by decide +kernel))⟩
theorem cs_Scs_60 : CS "RuleBooks$Scenes" 60 mScs_eventOf 2 := ⟨cb_Scs_eventOf, tb_at 848 (by decide +kernel) (by decide +kernel), Or.inl (tb_at 847 (by decide +kernel) (by decide +kernel))⟩
theorem cv_Scs_70 : CV "RuleBooks$Scenes" 70 8 mScs_goRound 0 := ⟨cb_Scs_goRound, by decide, rfl, tb_at 868 (by decide +kernel) (by decide +kernel), tb_at 26 (by decide +kernel) (by decide +kernel), Or.inl (tb_at 866 (by decide +kernel) (by decide +kernel))⟩
theorem cv_Scs_73 : CV "RuleBooks$Scenes" 73 8 mScs_mayChange 2 := ⟨cb_Scs_mayChange, by decide, rfl, tb_at 872 (by decide +kernel) (by decide +kernel), tb_at 27 (by decide +kernel) (by decide +kernel), Or.inl (tb_at 870 (by decide +kernel) (by decide +kernel))⟩
theorem cv_Scs_84 : CV "RuleBooks$Scenes" 84 8 mScs_wasInTurn 1 := ⟨cb_Scs_wasInTurn, by decide, rfl, tb_at 876 (by decide +kernel) (by decide +kernel), tb_at 28 (by decide +kernel) (by decide +kernel), Or.inl (tb_at 874 (by decide +kernel) (by decide +kernel))⟩
theorem cv_Scs_77 : CV "RuleBooks$Scenes" 77 8 mScs_isMet 2 := ⟨cb_Scs_isMet, by decide, rfl, tb_at 880 (by decide +kernel) (by decide +kernel), tb_at 29 (by decide +kernel) (by decide +kernel), Or.inl (tb_at 878 (by decide +kernel) (by decide +kernel))⟩
theorem cv_Scs_80 : CV "RuleBooks$Scenes" 80 8 mScs_change 2 := ⟨cb_Scs_change, by decide, rfl, tb_at 885 (by decide +kernel) (by decide +kernel), tb_at 30 (by decide +kernel) (by decide +kernel), Or.inl (tb_at 883 (by decide +kernel) (by decide +kernel))⟩
theorem nw_Scs_9 : NW "RuleBooks$Scenes" 9 13 := ⟨by decide, tb_at 142 (by decide +kernel) (by decide +kernel), tb_at 109 (by decide +kernel) (by decide +kernel), tb_at 64 (by decide +kernel) (by decide +kernel)⟩
theorem nw_Scs_29 : NW "RuleBooks$Scenes" 29 7 := ⟨by decide, tb_at 710 (by decide +kernel) (by decide +kernel), tb_at 809 (by decide +kernel) (by decide +kernel), tb_at 81 (by decide +kernel) (by decide +kernel)⟩
theorem nw_Scs_90 : NW "RuleBooks$Scenes" 90 9 := ⟨by decide, tb_at 882 (by decide +kernel) (by decide +kernel), tb_at 331 (by decide +kernel) (by decide +kernel), tb_at 71 (by decide +kernel) (by decide +kernel)⟩
theorem gf_Subj_15 : GF "RuleBooks$Subject" 15 9 0 := ⟨by decide, by decide, Or.inl ⟨"RuleBooks$Subject", tb_at 336 (by decide +kernel) (by decide +kernel), Or.inl rfl⟩⟩
theorem gf_Subj_9 : GF "RuleBooks$Subject" 9 9 1 := ⟨by decide, by decide, Or.inl ⟨"RuleBooks$Subject", tb_at 339 (by decide +kernel) (by decide +kernel), Or.inl rfl⟩⟩
theorem ob_Subj_3 : Cond.methodLink "RuleBooks$Subject" 3 objectInit ∈ TB ∧ Cond.instanceMethod objectInit ∈ TB ∧ Cond.code objectInit ⟨#[0xb1]⟩ 1 none ∈ TB := ⟨tb_at 335 (by decide +kernel) (by decide +kernel), tb_at 88 (by decide +kernel) (by decide +kernel), tb_at 89 (by decide +kernel) (by decide +kernel)⟩
theorem gf_Trc_9 : GF "RuleBooks$Trace" 9 10 0 := ⟨by decide, by decide, Or.inl ⟨"RuleBooks$Trace", tb_at 201 (by decide +kernel) (by decide +kernel), Or.inl rfl⟩⟩
theorem gf_Trc_15 : GF "RuleBooks$Trace" 15 10 1 := ⟨by decide, by decide, Or.inl ⟨"RuleBooks$Trace", tb_at 202 (by decide +kernel) (by decide +kernel), Or.inl rfl⟩⟩
theorem gf_Trc_18 : GF "RuleBooks$Trace" 18 10 2 := ⟨by decide, by decide, Or.inl ⟨"RuleBooks$Trace", tb_at 203 (by decide +kernel) (by decide +kernel), Or.inl rfl⟩⟩
theorem gf_Trc_21 : GF "RuleBooks$Trace" 21 10 3 := ⟨by decide, by decide, Or.inl ⟨"RuleBooks$Trace", tb_at 204 (by decide +kernel) (by decide +kernel), Or.inl rfl⟩⟩
theorem ob_Trc_3 : Cond.methodLink "RuleBooks$Trace" 3 objectInit ∈ TB ∧ Cond.instanceMethod objectInit ∈ TB ∧ Cond.code objectInit ⟨#[0xb1]⟩ 1 none ∈ TB := ⟨tb_at 200 (by decide +kernel) (by decide +kernel), tb_at 88 (by decide +kernel) (by decide +kernel), tb_at 89 (by decide +kernel) (by decide +kernel)⟩
theorem cs_Trc_25 : CS "RuleBooks$Trace" 25 mX_asNumber 1 := ⟨cb_X_asNumber, tb_at 320 (by decide +kernel) (by decide +kernel), Or.inr ⟨"RuleBooks", nt_at 660 (by decide +kernel) (by decide +kernel)⟩⟩
theorem gf_X_280 : GF "RuleBooks" 280 2 2 := ⟨by decide, by decide, Or.inr ⟨"RuleBooks", nt_at 40 (by decide +kernel) (by decide +kernel)⟩⟩
theorem gf_X_283 : GF "RuleBooks" 283 8 1 := ⟨by decide, by decide, Or.inr ⟨"RuleBooks", nt_at 87 (by decide +kernel) (by decide +kernel)⟩⟩
theorem gf_X_259 : GF "RuleBooks" 259 8 2 := ⟨by decide, by decide, Or.inr ⟨"RuleBooks", nt_at 89 (by decide +kernel) (by decide +kernel)⟩⟩
theorem gf_X_256 : GF "RuleBooks" 256 8 3 := ⟨by decide, by decide, Or.inr ⟨"RuleBooks", nt_at 91 (by decide +kernel) (by decide +kernel)⟩⟩
theorem gf_X_289 : GF "RuleBooks" 289 8 4 := ⟨by decide, by decide, Or.inr ⟨"RuleBooks", nt_at 93 (by decide +kernel) (by decide +kernel)⟩⟩
theorem gf_X_285 : GF "RuleBooks" 285 4 4 := ⟨by decide, by decide, Or.inr ⟨"RuleBooks", nt_at 116 (by decide +kernel) (by decide +kernel)⟩⟩
theorem gf_X_286 : GF "RuleBooks" 286 10 3 := ⟨by decide, by decide, Or.inr ⟨"RuleBooks", nt_at 147 (by decide +kernel) (by decide +kernel)⟩⟩
theorem gf_X_202 : GF "RuleBooks" 202 6 4 := ⟨by decide, by decide, Or.inr ⟨"RuleBooks", nt_at 175 (by decide +kernel) (by decide +kernel)⟩⟩
theorem gf_X_212 : GF "RuleBooks" 212 6 5 := ⟨by decide, by decide, Or.inr ⟨"RuleBooks", nt_at 177 (by decide +kernel) (by decide +kernel)⟩⟩
theorem gf_X_10 : GF "RuleBooks" 10 11 0 := ⟨by decide, by decide, Or.inl ⟨"RuleBooks", tb_at 253 (by decide +kernel) (by decide +kernel), Or.inl rfl⟩⟩
theorem gf_X_19 : GF "RuleBooks" 19 11 1 := ⟨by decide, by decide, Or.inl ⟨"RuleBooks", tb_at 254 (by decide +kernel) (by decide +kernel), Or.inl rfl⟩⟩
theorem gf_X_23 : GF "RuleBooks" 23 11 2 := ⟨by decide, by decide, Or.inl ⟨"RuleBooks", tb_at 255 (by decide +kernel) (by decide +kernel), Or.inl rfl⟩⟩
theorem gf_X_26 : GF "RuleBooks" 26 11 3 := ⟨by decide, by decide, Or.inl ⟨"RuleBooks", tb_at 256 (by decide +kernel) (by decide +kernel), Or.inl rfl⟩⟩
theorem gf_X_31 : GF "RuleBooks" 31 11 4 := ⟨by decide, by decide, Or.inl ⟨"RuleBooks", tb_at 257 (by decide +kernel) (by decide +kernel), Or.inl rfl⟩⟩
theorem gf_X_219 : GF "RuleBooks" 219 11 5 := ⟨by decide, by decide, Or.inl ⟨"RuleBooks", tb_at 258 (by decide +kernel) (by decide +kernel), Or.inl rfl⟩⟩
theorem gf_X_34 : GF "RuleBooks" 34 11 6 := ⟨by decide, by decide, Or.inl ⟨"RuleBooks", tb_at 259 (by decide +kernel) (by decide +kernel), Or.inl rfl⟩⟩
theorem gf_X_226 : GF "RuleBooks" 226 11 7 := ⟨by decide, by decide, Or.inl ⟨"RuleBooks", tb_at 260 (by decide +kernel) (by decide +kernel), Or.inl rfl⟩⟩
theorem gf_X_37 : GF "RuleBooks" 37 11 8 := ⟨by decide, by decide, Or.inl ⟨"RuleBooks", tb_at 261 (by decide +kernel) (by decide +kernel), Or.inl rfl⟩⟩
theorem gf_X_41 : GF "RuleBooks" 41 11 9 := ⟨by decide, by decide, Or.inl ⟨"RuleBooks", tb_at 262 (by decide +kernel) (by decide +kernel), Or.inl rfl⟩⟩
theorem gf_X_229 : GF "RuleBooks" 229 11 10 := ⟨by decide, by decide, Or.inl ⟨"RuleBooks", tb_at 263 (by decide +kernel) (by decide +kernel), Or.inl rfl⟩⟩
theorem gf_X_49 : GF "RuleBooks" 49 11 11 := ⟨by decide, by decide, Or.inl ⟨"RuleBooks", tb_at 264 (by decide +kernel) (by decide +kernel), Or.inl rfl⟩⟩
theorem gf_X_53 : GF "RuleBooks" 53 11 12 := ⟨by decide, by decide, Or.inl ⟨"RuleBooks", tb_at 265 (by decide +kernel) (by decide +kernel), Or.inl rfl⟩⟩
theorem gf_X_62 : GF "RuleBooks" 62 11 13 := ⟨by decide, by decide, Or.inl ⟨"RuleBooks", tb_at 266 (by decide +kernel) (by decide +kernel), Or.inl rfl⟩⟩
theorem gf_X_71 : GF "RuleBooks" 71 11 14 := ⟨by decide, by decide, Or.inl ⟨"RuleBooks", tb_at 267 (by decide +kernel) (by decide +kernel), Or.inl rfl⟩⟩
theorem gf_X_274 : GF "RuleBooks" 274 9 0 := ⟨by decide, by decide, Or.inr ⟨"RuleBooks", nt_at 279 (by decide +kernel) (by decide +kernel)⟩⟩
theorem gf_X_110 : GF "RuleBooks" 110 9 1 := ⟨by decide, by decide, Or.inr ⟨"RuleBooks", nt_at 281 (by decide +kernel) (by decide +kernel)⟩⟩
theorem gf_X_120 : GF "RuleBooks" 120 0 1 := ⟨by decide, by decide, Or.inr ⟨"RuleBooks", nt_at 395 (by decide +kernel) (by decide +kernel)⟩⟩
theorem gf_X_191 : GF "RuleBooks" 191 0 4 := ⟨by decide, by decide, Or.inr ⟨"RuleBooks", nt_at 400 (by decide +kernel) (by decide +kernel)⟩⟩
theorem gf_X_132 : GF "RuleBooks" 132 5 0 := ⟨by decide, by decide, Or.inr ⟨"RuleBooks", nt_at 434 (by decide +kernel) (by decide +kernel)⟩⟩
theorem gf_X_157 : GF "RuleBooks" 157 5 1 := ⟨by decide, by decide, Or.inr ⟨"RuleBooks", nt_at 436 (by decide +kernel) (by decide +kernel)⟩⟩
theorem gf_X_143 : GF "RuleBooks" 143 5 4 := ⟨by decide, by decide, Or.inr ⟨"RuleBooks", nt_at 441 (by decide +kernel) (by decide +kernel)⟩⟩
theorem gf_X_151 : GF "RuleBooks" 151 5 5 := ⟨by decide, by decide, Or.inr ⟨"RuleBooks", nt_at 443 (by decide +kernel) (by decide +kernel)⟩⟩
theorem gf_X_169 : GF "RuleBooks" 169 5 6 := ⟨by decide, by decide, Or.inr ⟨"RuleBooks", nt_at 446 (by decide +kernel) (by decide +kernel)⟩⟩
theorem gf_X_172 : GF "RuleBooks" 172 5 7 := ⟨by decide, by decide, Or.inr ⟨"RuleBooks", nt_at 448 (by decide +kernel) (by decide +kernel)⟩⟩
theorem gf_X_175 : GF "RuleBooks" 175 5 8 := ⟨by decide, by decide, Or.inr ⟨"RuleBooks", nt_at 450 (by decide +kernel) (by decide +kernel)⟩⟩
theorem gf_X_181 : GF "RuleBooks" 181 5 9 := ⟨by decide, by decide, Or.inr ⟨"RuleBooks", nt_at 452 (by decide +kernel) (by decide +kernel)⟩⟩
theorem gf_X_184 : GF "RuleBooks" 184 5 10 := ⟨by decide, by decide, Or.inr ⟨"RuleBooks", nt_at 454 (by decide +kernel) (by decide +kernel)⟩⟩
theorem ob_X_1 : Cond.methodLink "RuleBooks" 1 objectInit ∈ TB ∧ Cond.instanceMethod objectInit ∈ TB ∧ Cond.code objectInit ⟨#[0xb1]⟩ 1 none ∈ TB := ⟨tb_at 87 (by decide +kernel) (by decide +kernel), tb_at 88 (by decide +kernel) (by decide +kernel), tb_at 89 (by decide +kernel) (by decide +kernel)⟩
theorem ci_X_9 : CI "RuleBooks" 9 mKinds_init 0 := ⟨cb_Kinds_init, rfl, rfl, tb_at 93 (by decide +kernel) (by decide +kernel), Or.inr ⟨"RuleBooks", nt_at 33 (by decide +kernel) (by decide +kernel)⟩⟩
theorem ci_X_18 : CI "RuleBooks" 18 mAL_init 0 := ⟨cb_AL_init, rfl, rfl, tb_at 111 (by decide +kernel) (by decide +kernel), Or.inl (tb_at 110 (by decide +kernel) (by decide +kernel))⟩
theorem ci_X_46 : CI "RuleBooks" 46 mScs_init 1 := ⟨cb_Scs_init, rfl, rfl, tb_at 139 (by decide +kernel) (by decide +kernel), Or.inl (tb_at 138 (by decide +kernel) (by decide +kernel))⟩
theorem ci_X_59 : CI "RuleBooks" 59 mPhr_init 1 := ⟨cb_Phr_init, rfl, rfl, tb_at 167 (by decide +kernel) (by decide +kernel), Or.inl (tb_at 166 (by decide +kernel) (by decide +kernel))⟩
theorem ci_X_68 : CI "RuleBooks" 68 mRun_init 3 := ⟨cb_Run_init, rfl, rfl, tb_at 190 (by decide +kernel) (by decide +kernel), Or.inl (tb_at 189 (by decide +kernel) (by decide +kernel))⟩
theorem cv_X_75 : CV "RuleBooks" 75 2 mKinds_has 1 := ⟨cb_Kinds_has, by decide, rfl, tb_at 304 (by decide +kernel) (by decide +kernel), tb_at 305 (by decide +kernel) (by decide +kernel), Or.inl (tb_at 303 (by decide +kernel) (by decide +kernel))⟩
theorem cv_X_79 : CV "RuleBooks" 79 2 mKinds_add 1 := ⟨cb_Kinds_add, by decide, rfl, tb_at 308 (by decide +kernel) (by decide +kernel), tb_at 309 (by decide +kernel) (by decide +kernel), Or.inl (tb_at 307 (by decide +kernel) (by decide +kernel))⟩
theorem cv_X_83 : CV "RuleBooks" 83 2 mKinds_isUnder 2 := ⟨cb_Kinds_isUnder, by decide, rfl, tb_at 316 (by decide +kernel) (by decide +kernel), tb_at 317 (by decide +kernel) (by decide +kernel), Or.inl (tb_at 315 (by decide +kernel) (by decide +kernel))⟩
theorem cs_X_87 : CS "RuleBooks" 87 mX_asNumber 1 := ⟨cb_X_asNumber, tb_at 320 (by decide +kernel) (by decide +kernel), Or.inl (tb_at 319 (by decide +kernel) (by decide +kernel))⟩
theorem cv_X_91 : CV "RuleBooks" 91 13 mAL_size 0 := ⟨cb_AL_size, by decide, rfl, tb_at 327 (by decide +kernel) (by decide +kernel), tb_at 328 (by decide +kernel) (by decide +kernel), Or.inl (tb_at 326 (by decide +kernel) (by decide +kernel))⟩
theorem ci_X_97 : CI "RuleBooks" 97 mSubj_init 1 := ⟨cb_Subj_init, rfl, rfl, tb_at 333 (by decide +kernel) (by decide +kernel), Or.inl (tb_at 332 (by decide +kernel) (by decide +kernel))⟩
theorem cv_X_100 : CV "RuleBooks" 100 13 mAL_add 1 := ⟨cb_AL_add, by decide, rfl, tb_at 349 (by decide +kernel) (by decide +kernel), tb_at 350 (by decide +kernel) (by decide +kernel), Or.inl (tb_at 348 (by decide +kernel) (by decide +kernel))⟩
theorem cv_X_103 : CV "RuleBooks" 103 11 mX_subjectAt 1 := ⟨cb_X_subjectAt, by decide, rfl, tb_at 415 (by decide +kernel) (by decide +kernel), tb_at 3 (by decide +kernel) (by decide +kernel), Or.inl (tb_at 413 (by decide +kernel) (by decide +kernel))⟩
theorem cv_X_194 : CV "RuleBooks" 194 13 mAL_get 1 := ⟨cb_AL_get, by decide, rfl, tb_at 418 (by decide +kernel) (by decide +kernel), tb_at 419 (by decide +kernel) (by decide +kernel), Or.inl (tb_at 417 (by decide +kernel) (by decide +kernel))⟩
theorem cs_X_107 : CS "RuleBooks" 107 mX_isSlot 1 := ⟨cb_X_isSlot, tb_at 432 (by decide +kernel) (by decide +kernel), Or.inl (tb_at 431 (by decide +kernel) (by decide +kernel))⟩
theorem ci_X_115 : CI "RuleBooks" 115 mBook_init 1 := ⟨cb_Book_init, rfl, rfl, tb_at 445 (by decide +kernel) (by decide +kernel), Or.inl (tb_at 444 (by decide +kernel) (by decide +kernel))⟩
theorem cv_X_116 : CV "RuleBooks" 116 11 mX_bookAt 1 := ⟨cb_X_bookAt, by decide, rfl, tb_at 477 (by decide +kernel) (by decide +kernel), tb_at 4 (by decide +kernel) (by decide +kernel), Or.inl (tb_at 475 (by decide +kernel) (by decide +kernel))⟩
theorem ci_X_125 : CI "RuleBooks" 125 mRule_init 4 := ⟨cb_Rule_init, rfl, rfl, tb_at 486 (by decide +kernel) (by decide +kernel), Or.inl (tb_at 485 (by decide +kernel) (by decide +kernel))⟩
theorem cv_X_128 : CV "RuleBooks" 128 0 mBook_takeRule 1 := ⟨cb_Book_takeRule, by decide, rfl, tb_at 538 (by decide +kernel) (by decide +kernel), tb_at 539 (by decide +kernel) (by decide +kernel), Or.inl (tb_at 537 (by decide +kernel) (by decide +kernel))⟩
theorem cv_X_135 : CV "RuleBooks" 135 11 mX_ruleAt 1 := ⟨cb_X_ruleAt, by decide, rfl, tb_at 599 (by decide +kernel) (by decide +kernel), tb_at 9 (by decide +kernel) (by decide +kernel), Or.inl (tb_at 597 (by decide +kernel) (by decide +kernel))⟩
theorem cv_X_139 : CV "RuleBooks" 139 11 mX_isConditionOf 3 := ⟨cb_X_isConditionOf, by decide, rfl, tb_at 603 (by decide +kernel) (by decide +kernel), tb_at 10 (by decide +kernel) (by decide +kernel), Or.inl (tb_at 601 (by decide +kernel) (by decide +kernel))⟩
theorem cv_X_164 : CV "RuleBooks" 164 8 mScs_has 1 := ⟨cb_Scs_has, by decide, rfl, tb_at 606 (by decide +kernel) (by decide +kernel), tb_at 607 (by decide +kernel) (by decide +kernel), Or.inl (tb_at 605 (by decide +kernel) (by decide +kernel))⟩
theorem ci_X_148 : CI "RuleBooks" 148 mCond_init 3 := ⟨cb_Cond_init, rfl, rfl, tb_at 613 (by decide +kernel) (by decide +kernel), Or.inl (tb_at 612 (by decide +kernel) (by decide +kernel))⟩
theorem cv_X_154 : CV "RuleBooks" 154 2 mKinds_deepOf 1 := ⟨cb_Kinds_deepOf, by decide, rfl, tb_at 634 (by decide +kernel) (by decide +kernel), tb_at 635 (by decide +kernel) (by decide +kernel), Or.inl (tb_at 633 (by decide +kernel) (by decide +kernel))⟩
theorem cv_X_161 : CV "RuleBooks" 161 0 mBook_arrangeRow 0 := ⟨cb_Book_arrangeRow, by decide, rfl, tb_at 543 (by decide +kernel) (by decide +kernel), tb_at 544 (by decide +kernel) (by decide +kernel), Or.inl (tb_at 637 (by decide +kernel) (by decide +kernel))⟩
theorem cv_X_165 : CV "RuleBooks" 165 11 mX_isDeed 3 := ⟨cb_X_isDeed, by decide, rfl, tb_at 644 (by decide +kernel) (by decide +kernel), tb_at 11 (by decide +kernel) (by decide +kernel), Or.inl (tb_at 642 (by decide +kernel) (by decide +kernel))⟩
theorem cs_X_178 : CS "RuleBooks" 178 mX_isAboutAnother 1 := ⟨cb_X_isAboutAnother, tb_at 579 (by decide +kernel) (by decide +kernel), Or.inl (tb_at 650 (by decide +kernel) (by decide +kernel))⟩
theorem cv_X_188 : CV "RuleBooks" 188 0 mBook_takeOrder 1 := ⟨cb_Book_takeOrder, by decide, rfl, tb_at 652 (by decide +kernel) (by decide +kernel), tb_at 653 (by decide +kernel) (by decide +kernel), Or.inl (tb_at 651 (by decide +kernel) (by decide +kernel))⟩
theorem cv_X_198 : CV "RuleBooks" 198 6 mRun_answerOf 2 := ⟨cb_Run_answerOf, by decide, rfl, tb_at 664 (by decide +kernel) (by decide +kernel), tb_at 665 (by decide +kernel) (by decide +kernel), Or.inl (tb_at 663 (by decide +kernel) (by decide +kernel))⟩
theorem cv_X_206 : CV "RuleBooks" 206 10 mTrc_at 2 := ⟨cb_Trc_at, by decide, rfl, tb_at 746 (by decide +kernel) (by decide +kernel), tb_at 747 (by decide +kernel) (by decide +kernel), Or.inl (tb_at 745 (by decide +kernel) (by decide +kernel))⟩
theorem cv_X_215 : CV "RuleBooks" 215 11 mX_areBooksOrNone 1 := ⟨cb_X_areBooksOrNone, by decide, rfl, tb_at 759 (by decide +kernel) (by decide +kernel), tb_at 22 (by decide +kernel) (by decide +kernel), Or.inl (tb_at 757 (by decide +kernel) (by decide +kernel))⟩
theorem cv_X_250 : CV "RuleBooks" 250 11 mX_isBookOrNone 1 := ⟨cb_X_isBookOrNone, by decide, rfl, tb_at 763 (by decide +kernel) (by decide +kernel), tb_at 23 (by decide +kernel) (by decide +kernel), Or.inl (tb_at 761 (by decide +kernel) (by decide +kernel))⟩
theorem cv_X_222 : CV "RuleBooks" 222 6 mRun_answerOfStages 2 := ⟨cb_Run_answerOfStages, by decide, rfl, tb_at 770 (by decide +kernel) (by decide +kernel), tb_at 771 (by decide +kernel) (by decide +kernel), Or.inl (tb_at 769 (by decide +kernel) (by decide +kernel))⟩
theorem cv_X_232 : CV "RuleBooks" 232 11 mX_latestPart 1 := ⟨cb_X_latestPart, by decide, rfl, tb_at 787 (by decide +kernel) (by decide +kernel), tb_at 24 (by decide +kernel) (by decide +kernel), Or.inl (tb_at 785 (by decide +kernel) (by decide +kernel))⟩
theorem cv_X_235 : CV "RuleBooks" 235 11 mX_latestSubject 0 := ⟨cb_X_latestSubject, by decide, rfl, tb_at 791 (by decide +kernel) (by decide +kernel), tb_at 25 (by decide +kernel) (by decide +kernel), Or.inl (tb_at 789 (by decide +kernel) (by decide +kernel))⟩
theorem cv_X_239 : CV "RuleBooks" 239 8 mScs_add 1 := ⟨cb_Scs_add, by decide, rfl, tb_at 806 (by decide +kernel) (by decide +kernel), tb_at 807 (by decide +kernel) (by decide +kernel), Or.inl (tb_at 805 (by decide +kernel) (by decide +kernel))⟩
theorem cv_X_241 : CV "RuleBooks" 241 8 mScs_isAnchor 2 := ⟨cb_Scs_isAnchor, by decide, rfl, tb_at 839 (by decide +kernel) (by decide +kernel), tb_at 840 (by decide +kernel) (by decide +kernel), Or.inl (tb_at 838 (by decide +kernel) (by decide +kernel))⟩
theorem cv_X_244 : CV "RuleBooks" 244 8 mScs_wouldRing 3 := ⟨cb_Scs_wouldRing, by decide, rfl, tb_at 844 (by decide +kernel) (by decide +kernel), tb_at 845 (by decide +kernel) (by decide +kernel), Or.inl (tb_at 843 (by decide +kernel) (by decide +kernel))⟩
theorem cv_X_247 : CV "RuleBooks" 247 8 mScs_setAnchor 3 := ⟨cb_Scs_setAnchor, by decide, rfl, tb_at 851 (by decide +kernel) (by decide +kernel), tb_at 852 (by decide +kernel) (by decide +kernel), Or.inl (tb_at 850 (by decide +kernel) (by decide +kernel))⟩
theorem cv_X_253 : CV "RuleBooks" 253 8 mScs_takeTurn 0 := ⟨cb_Scs_takeTurn, by decide, rfl, tb_at 863 (by decide +kernel) (by decide +kernel), tb_at 864 (by decide +kernel) (by decide +kernel), Or.inl (tb_at 862 (by decide +kernel) (by decide +kernel))⟩
theorem cv_X_262 : CV "RuleBooks" 262 8 mScs_isOn 1 := ⟨cb_Scs_isOn, by decide, rfl, tb_at 706 (by decide +kernel) (by decide +kernel), tb_at 707 (by decide +kernel) (by decide +kernel), Or.inl (tb_at 895 (by decide +kernel) (by decide +kernel))⟩
theorem cv_X_265 : CV "RuleBooks" 265 8 mScs_beganOften 1 := ⟨cb_Scs_beganOften, by decide, rfl, tb_at 897 (by decide +kernel) (by decide +kernel), tb_at 898 (by decide +kernel) (by decide +kernel), Or.inl (tb_at 896 (by decide +kernel) (by decide +kernel))⟩
theorem cs_X_268 : CS "RuleBooks" 268 mX_isName 1 := ⟨cb_X_isName, tb_at 905 (by decide +kernel) (by decide +kernel), Or.inl (tb_at 904 (by decide +kernel) (by decide +kernel))⟩
theorem cv_X_271 : CV "RuleBooks" 271 4 mPhr_add 3 := ⟨cb_Phr_add, by decide, rfl, tb_at 908 (by decide +kernel) (by decide +kernel), tb_at 909 (by decide +kernel) (by decide +kernel), Or.inl (tb_at 907 (by decide +kernel) (by decide +kernel))⟩
theorem cv_X_277 : CV "RuleBooks" 277 4 mPhr_mostSpecial 3 := ⟨cb_Phr_mostSpecial, by decide, rfl, tb_at 920 (by decide +kernel) (by decide +kernel), tb_at 921 (by decide +kernel) (by decide +kernel), Or.inl (tb_at 919 (by decide +kernel) (by decide +kernel))⟩
theorem nw_X_7 : NW "RuleBooks" 7 2 := ⟨by decide, tb_at 90 (by decide +kernel) (by decide +kernel), tb_at 91 (by decide +kernel) (by decide +kernel), tb_at 61 (by decide +kernel) (by decide +kernel)⟩
theorem nw_X_16 : NW "RuleBooks" 16 13 := ⟨by decide, tb_at 108 (by decide +kernel) (by decide +kernel), tb_at 109 (by decide +kernel) (by decide +kernel), tb_at 64 (by decide +kernel) (by decide +kernel)⟩
theorem cl_X_29 : Cond.classLink "RuleBooks" 29 "[[I" ∈ TB := tb_at 134 (by decide +kernel) (by decide +kernel)
theorem nw_X_44 : NW "RuleBooks" 44 8 := ⟨by decide, tb_at 136 (by decide +kernel) (by decide +kernel), tb_at 137 (by decide +kernel) (by decide +kernel), tb_at 65 (by decide +kernel) (by decide +kernel)⟩
theorem nw_X_57 : NW "RuleBooks" 57 4 := ⟨by decide, tb_at 164 (by decide +kernel) (by decide +kernel), tb_at 165 (by decide +kernel) (by decide +kernel), tb_at 66 (by decide +kernel) (by decide +kernel)⟩
theorem nw_X_66 : NW "RuleBooks" 66 6 := ⟨by decide, tb_at 187 (by decide +kernel) (by decide +kernel), tb_at 188 (by decide +kernel) (by decide +kernel), tb_at 67 (by decide +kernel) (by decide +kernel)⟩
theorem nw_X_95 : NW "RuleBooks" 95 9 := ⟨by decide, tb_at 330 (by decide +kernel) (by decide +kernel), tb_at 331 (by decide +kernel) (by decide +kernel), tb_at 71 (by decide +kernel) (by decide +kernel)⟩
theorem nw_X_113 : NW "RuleBooks" 113 0 := ⟨by decide, tb_at 442 (by decide +kernel) (by decide +kernel), tb_at 443 (by decide +kernel) (by decide +kernel), tb_at 78 (by decide +kernel) (by decide +kernel)⟩
theorem nw_X_123 : NW "RuleBooks" 123 5 := ⟨by decide, tb_at 483 (by decide +kernel) (by decide +kernel), tb_at 484 (by decide +kernel) (by decide +kernel), tb_at 79 (by decide +kernel) (by decide +kernel)⟩
theorem nw_X_146 : NW "RuleBooks" 146 1 := ⟨by decide, tb_at 610 (by decide +kernel) (by decide +kernel), tb_at 611 (by decide +kernel) (by decide +kernel), tb_at 80 (by decide +kernel) (by decide +kernel)⟩
theorem ci_L_9 : CI "RuleBooksLaw" 9 mX_init 0 := ⟨cb_X_init, rfl, rfl, tb_at 85 (by decide +kernel) (by decide +kernel), Or.inl (tb_at 84 (by decide +kernel) (by decide +kernel))⟩
theorem cv_L_13 : CV "RuleBooksLaw" 13 11 mX_kind 1 := ⟨cb_X_kind, by decide, rfl, tb_at 300 (by decide +kernel) (by decide +kernel), tb_at 301 (by decide +kernel) (by decide +kernel), Or.inl (tb_at 299 (by decide +kernel) (by decide +kernel))⟩
theorem cv_L_18 : CV "RuleBooksLaw" 18 11 mX_under 2 := ⟨cb_X_under, by decide, rfl, tb_at 312 (by decide +kernel) (by decide +kernel), tb_at 313 (by decide +kernel) (by decide +kernel), Or.inl (tb_at 311 (by decide +kernel) (by decide +kernel))⟩
theorem cv_L_23 : CV "RuleBooksLaw" 23 11 mX_subject 1 := ⟨cb_X_subject, by decide, rfl, tb_at 323 (by decide +kernel) (by decide +kernel), tb_at 324 (by decide +kernel) (by decide +kernel), Or.inl (tb_at 322 (by decide +kernel) (by decide +kernel))⟩
theorem cv_L_27 : CV "RuleBooksLaw" 27 11 mX_set 3 := ⟨cb_X_set, by decide, rfl, tb_at 410 (by decide +kernel) (by decide +kernel), tb_at 411 (by decide +kernel) (by decide +kernel), Or.inl (tb_at 409 (by decide +kernel) (by decide +kernel))⟩
theorem cv_L_32 : CV "RuleBooksLaw" 32 11 mX_value 2 := ⟨cb_X_value, by decide, rfl, tb_at 435 (by decide +kernel) (by decide +kernel), tb_at 436 (by decide +kernel) (by decide +kernel), Or.inl (tb_at 434 (by decide +kernel) (by decide +kernel))⟩
theorem cv_L_36 : CV "RuleBooksLaw" 36 11 mX_book 1 := ⟨cb_X_book, by decide, rfl, tb_at 439 (by decide +kernel) (by decide +kernel), tb_at 440 (by decide +kernel) (by decide +kernel), Or.inl (tb_at 438 (by decide +kernel) (by decide +kernel))⟩
theorem cv_L_40 : CV "RuleBooksLaw" 40 11 mX_variable 3 := ⟨cb_X_variable, by decide, rfl, tb_at 472 (by decide +kernel) (by decide +kernel), tb_at 473 (by decide +kernel) (by decide +kernel), Or.inl (tb_at 471 (by decide +kernel) (by decide +kernel))⟩
theorem cv_L_44 : CV "RuleBooksLaw" 44 11 mX_rule 3 := ⟨cb_X_rule, by decide, rfl, tb_at 480 (by decide +kernel) (by decide +kernel), tb_at 481 (by decide +kernel) (by decide +kernel), Or.inl (tb_at 479 (by decide +kernel) (by decide +kernel))⟩
theorem cv_L_48 : CV "RuleBooksLaw" 48 11 mX_condition 4 := ⟨cb_X_condition, by decide, rfl, tb_at 594 (by decide +kernel) (by decide +kernel), tb_at 595 (by decide +kernel) (by decide +kernel), Or.inl (tb_at 593 (by decide +kernel) (by decide +kernel))⟩
theorem cv_L_53 : CV "RuleBooksLaw" 53 11 mX_does 4 := ⟨cb_X_does, by decide, rfl, tb_at 639 (by decide +kernel) (by decide +kernel), tb_at 640 (by decide +kernel) (by decide +kernel), Or.inl (tb_at 638 (by decide +kernel) (by decide +kernel))⟩
theorem cv_L_57 : CV "RuleBooksLaw" 57 11 mX_order 3 := ⟨cb_X_order, by decide, rfl, tb_at 647 (by decide +kernel) (by decide +kernel), tb_at 648 (by decide +kernel) (by decide +kernel), Or.inl (tb_at 646 (by decide +kernel) (by decide +kernel))⟩
theorem cv_L_61 : CV "RuleBooksLaw" 61 11 mX_row 2 := ⟨cb_X_row, by decide, rfl, tb_at 656 (by decide +kernel) (by decide +kernel), tb_at 657 (by decide +kernel) (by decide +kernel), Or.inl (tb_at 655 (by decide +kernel) (by decide +kernel))⟩
theorem cv_L_65 : CV "RuleBooksLaw" 65 11 mX_run 2 := ⟨cb_X_run, by decide, rfl, tb_at 660 (by decide +kernel) (by decide +kernel), tb_at 661 (by decide +kernel) (by decide +kernel), Or.inl (tb_at 659 (by decide +kernel) (by decide +kernel))⟩
theorem cv_L_69 : CV "RuleBooksLaw" 69 11 mX_trace 2 := ⟨cb_X_trace, by decide, rfl, tb_at 742 (by decide +kernel) (by decide +kernel), tb_at 743 (by decide +kernel) (by decide +kernel), Or.inl (tb_at 741 (by decide +kernel) (by decide +kernel))⟩
theorem cv_L_73 : CV "RuleBooksLaw" 73 11 mX_erred 0 := ⟨cb_X_erred, by decide, rfl, tb_at 750 (by decide +kernel) (by decide +kernel), tb_at 751 (by decide +kernel) (by decide +kernel), Or.inl (tb_at 749 (by decide +kernel) (by decide +kernel))⟩
theorem cv_L_78 : CV "RuleBooksLaw" 78 11 mX_action 6 := ⟨cb_X_action, by decide, rfl, tb_at 754 (by decide +kernel) (by decide +kernel), tb_at 755 (by decide +kernel) (by decide +kernel), Or.inl (tb_at 753 (by decide +kernel) (by decide +kernel))⟩
theorem cv_L_83 : CV "RuleBooksLaw" 83 11 mX_act 2 := ⟨cb_X_act, by decide, rfl, tb_at 766 (by decide +kernel) (by decide +kernel), tb_at 767 (by decide +kernel) (by decide +kernel), Or.inl (tb_at 765 (by decide +kernel) (by decide +kernel))⟩
theorem cv_L_87 : CV "RuleBooksLaw" 87 11 mX_activity 3 := ⟨cb_X_activity, by decide, rfl, tb_at 774 (by decide +kernel) (by decide +kernel), tb_at 775 (by decide +kernel) (by decide +kernel), Or.inl (tb_at 773 (by decide +kernel) (by decide +kernel))⟩
theorem cv_L_91 : CV "RuleBooksLaw" 91 11 mX_begin 2 := ⟨cb_X_begin, by decide, rfl, tb_at 778 (by decide +kernel) (by decide +kernel), tb_at 779 (by decide +kernel) (by decide +kernel), Or.inl (tb_at 777 (by decide +kernel) (by decide +kernel))⟩
theorem cv_L_95 : CV "RuleBooksLaw" 95 11 mX_middle 0 := ⟨cb_X_middle, by decide, rfl, tb_at 782 (by decide +kernel) (by decide +kernel), tb_at 783 (by decide +kernel) (by decide +kernel), Or.inl (tb_at 781 (by decide +kernel) (by decide +kernel))⟩
theorem cv_L_99 : CV "RuleBooksLaw" 99 11 mX_finish 0 := ⟨cb_X_finish, by decide, rfl, tb_at 794 (by decide +kernel) (by decide +kernel), tb_at 795 (by decide +kernel) (by decide +kernel), Or.inl (tb_at 793 (by decide +kernel) (by decide +kernel))⟩
theorem cv_L_103 : CV "RuleBooksLaw" 103 11 mX_abandon 0 := ⟨cb_X_abandon, by decide, rfl, tb_at 798 (by decide +kernel) (by decide +kernel), tb_at 799 (by decide +kernel) (by decide +kernel), Or.inl (tb_at 797 (by decide +kernel) (by decide +kernel))⟩
theorem cv_L_107 : CV "RuleBooksLaw" 107 11 mX_scene 1 := ⟨cb_X_scene, by decide, rfl, tb_at 802 (by decide +kernel) (by decide +kernel), tb_at 803 (by decide +kernel) (by decide +kernel), Or.inl (tb_at 801 (by decide +kernel) (by decide +kernel))⟩
theorem cv_L_111 : CV "RuleBooksLaw" 111 11 mX_anchor 4 := ⟨cb_X_anchor, by decide, rfl, tb_at 835 (by decide +kernel) (by decide +kernel), tb_at 836 (by decide +kernel) (by decide +kernel), Or.inl (tb_at 834 (by decide +kernel) (by decide +kernel))⟩
theorem cv_L_115 : CV "RuleBooksLaw" 115 11 mX_everyTurn 1 := ⟨cb_X_everyTurn, by decide, rfl, tb_at 855 (by decide +kernel) (by decide +kernel), tb_at 856 (by decide +kernel) (by decide +kernel), Or.inl (tb_at 854 (by decide +kernel) (by decide +kernel))⟩
theorem cv_L_119 : CV "RuleBooksLaw" 119 11 mX_turn 0 := ⟨cb_X_turn, by decide, rfl, tb_at 859 (by decide +kernel) (by decide +kernel), tb_at 860 (by decide +kernel) (by decide +kernel), Or.inl (tb_at 858 (by decide +kernel) (by decide +kernel))⟩
theorem cv_L_123 : CV "RuleBooksLaw" 123 11 mX_event 1 := ⟨cb_X_event, by decide, rfl, tb_at 888 (by decide +kernel) (by decide +kernel), tb_at 889 (by decide +kernel) (by decide +kernel), Or.inl (tb_at 887 (by decide +kernel) (by decide +kernel))⟩
theorem cv_L_127 : CV "RuleBooksLaw" 127 11 mX_happens 2 := ⟨cb_X_happens, by decide, rfl, tb_at 892 (by decide +kernel) (by decide +kernel), tb_at 893 (by decide +kernel) (by decide +kernel), Or.inl (tb_at 891 (by decide +kernel) (by decide +kernel))⟩
theorem cv_L_131 : CV "RuleBooksLaw" 131 11 mX_phrase 3 := ⟨cb_X_phrase, by decide, rfl, tb_at 901 (by decide +kernel) (by decide +kernel), tb_at 902 (by decide +kernel) (by decide +kernel), Or.inl (tb_at 900 (by decide +kernel) (by decide +kernel))⟩
theorem cv_L_135 : CV "RuleBooksLaw" 135 11 mX_choose 3 := ⟨cb_X_choose, by decide, rfl, tb_at 916 (by decide +kernel) (by decide +kernel), tb_at 917 (by decide +kernel) (by decide +kernel), Or.inl (tb_at 915 (by decide +kernel) (by decide +kernel))⟩
theorem cv_L_139 : CV "RuleBooksLaw" 139 11 mX_count 1 := ⟨cb_X_count, by decide, rfl, tb_at 933 (by decide +kernel) (by decide +kernel), tb_at 934 (by decide +kernel) (by decide +kernel), Or.inl (tb_at 932 (by decide +kernel) (by decide +kernel))⟩
theorem ci_L_12 : CI "RuleBooksLaw" 12 mM_init 0 := ⟨cb_M_init, rfl, rfl, tb_at 939 (by decide +kernel) (by decide +kernel), Or.inl (tb_at 938 (by decide +kernel) (by decide +kernel))⟩
theorem cv_L_17 : CV "RuleBooksLaw" 17 12 mM_kind 1 := ⟨cb_M_kind, by decide, rfl, tb_at 1101 (by decide +kernel) (by decide +kernel), tb_at 1102 (by decide +kernel) (by decide +kernel), Or.inl (tb_at 1100 (by decide +kernel) (by decide +kernel))⟩
theorem cv_L_22 : CV "RuleBooksLaw" 22 12 mM_under 2 := ⟨cb_M_under, by decide, rfl, tb_at 1108 (by decide +kernel) (by decide +kernel), tb_at 1109 (by decide +kernel) (by decide +kernel), Or.inl (tb_at 1107 (by decide +kernel) (by decide +kernel))⟩
theorem cv_L_26 : CV "RuleBooksLaw" 26 12 mM_subject 1 := ⟨cb_M_subject, by decide, rfl, tb_at 1116 (by decide +kernel) (by decide +kernel), tb_at 1117 (by decide +kernel) (by decide +kernel), Or.inl (tb_at 1115 (by decide +kernel) (by decide +kernel))⟩
theorem cv_L_31 : CV "RuleBooksLaw" 31 12 mM_set 3 := ⟨cb_M_set, by decide, rfl, tb_at 1120 (by decide +kernel) (by decide +kernel), tb_at 1121 (by decide +kernel) (by decide +kernel), Or.inl (tb_at 1119 (by decide +kernel) (by decide +kernel))⟩
theorem cv_L_35 : CV "RuleBooksLaw" 35 12 mM_value 2 := ⟨cb_M_value, by decide, rfl, tb_at 1128 (by decide +kernel) (by decide +kernel), tb_at 1129 (by decide +kernel) (by decide +kernel), Or.inl (tb_at 1127 (by decide +kernel) (by decide +kernel))⟩
theorem cv_L_39 : CV "RuleBooksLaw" 39 12 mM_book 1 := ⟨cb_M_book, by decide, rfl, tb_at 1132 (by decide +kernel) (by decide +kernel), tb_at 1133 (by decide +kernel) (by decide +kernel), Or.inl (tb_at 1131 (by decide +kernel) (by decide +kernel))⟩
theorem cv_L_43 : CV "RuleBooksLaw" 43 12 mM_variable 3 := ⟨cb_M_variable, by decide, rfl, tb_at 1136 (by decide +kernel) (by decide +kernel), tb_at 1137 (by decide +kernel) (by decide +kernel), Or.inl (tb_at 1135 (by decide +kernel) (by decide +kernel))⟩
theorem cv_L_47 : CV "RuleBooksLaw" 47 12 mM_rule 3 := ⟨cb_M_rule, by decide, rfl, tb_at 1144 (by decide +kernel) (by decide +kernel), tb_at 1145 (by decide +kernel) (by decide +kernel), Or.inl (tb_at 1143 (by decide +kernel) (by decide +kernel))⟩
theorem cv_L_52 : CV "RuleBooksLaw" 52 12 mM_condition 4 := ⟨cb_M_condition, by decide, rfl, tb_at 1148 (by decide +kernel) (by decide +kernel), tb_at 1149 (by decide +kernel) (by decide +kernel), Or.inl (tb_at 1147 (by decide +kernel) (by decide +kernel))⟩
theorem cv_L_56 : CV "RuleBooksLaw" 56 12 mM_does 4 := ⟨cb_M_does, by decide, rfl, tb_at 1156 (by decide +kernel) (by decide +kernel), tb_at 1157 (by decide +kernel) (by decide +kernel), Or.inl (tb_at 1155 (by decide +kernel) (by decide +kernel))⟩
theorem cv_L_60 : CV "RuleBooksLaw" 60 12 mM_order 3 := ⟨cb_M_order, by decide, rfl, tb_at 1160 (by decide +kernel) (by decide +kernel), tb_at 1161 (by decide +kernel) (by decide +kernel), Or.inl (tb_at 1159 (by decide +kernel) (by decide +kernel))⟩
theorem cv_L_64 : CV "RuleBooksLaw" 64 12 mM_row 2 := ⟨cb_M_row, by decide, rfl, tb_at 1164 (by decide +kernel) (by decide +kernel), tb_at 1165 (by decide +kernel) (by decide +kernel), Or.inl (tb_at 1163 (by decide +kernel) (by decide +kernel))⟩
theorem cv_L_68 : CV "RuleBooksLaw" 68 12 mM_run 2 := ⟨cb_M_run, by decide, rfl, tb_at 1204 (by decide +kernel) (by decide +kernel), tb_at 1205 (by decide +kernel) (by decide +kernel), Or.inl (tb_at 1203 (by decide +kernel) (by decide +kernel))⟩
theorem cv_L_72 : CV "RuleBooksLaw" 72 12 mM_trace 2 := ⟨cb_M_trace, by decide, rfl, tb_at 1236 (by decide +kernel) (by decide +kernel), tb_at 1237 (by decide +kernel) (by decide +kernel), Or.inl (tb_at 1235 (by decide +kernel) (by decide +kernel))⟩
theorem cv_L_77 : CV "RuleBooksLaw" 77 12 mM_erred 0 := ⟨cb_M_erred, by decide, rfl, tb_at 1240 (by decide +kernel) (by decide +kernel), tb_at 1241 (by decide +kernel) (by decide +kernel), Or.inl (tb_at 1239 (by decide +kernel) (by decide +kernel))⟩
theorem cv_L_82 : CV "RuleBooksLaw" 82 12 mM_action 6 := ⟨cb_M_action, by decide, rfl, tb_at 1244 (by decide +kernel) (by decide +kernel), tb_at 1245 (by decide +kernel) (by decide +kernel), Or.inl (tb_at 1243 (by decide +kernel) (by decide +kernel))⟩
theorem cv_L_86 : CV "RuleBooksLaw" 86 12 mM_act 2 := ⟨cb_M_act, by decide, rfl, tb_at 1252 (by decide +kernel) (by decide +kernel), tb_at 1253 (by decide +kernel) (by decide +kernel), Or.inl (tb_at 1251 (by decide +kernel) (by decide +kernel))⟩
theorem cv_L_90 : CV "RuleBooksLaw" 90 12 mM_activity 3 := ⟨cb_M_activity, by decide, rfl, tb_at 1256 (by decide +kernel) (by decide +kernel), tb_at 1257 (by decide +kernel) (by decide +kernel), Or.inl (tb_at 1255 (by decide +kernel) (by decide +kernel))⟩
theorem cv_L_94 : CV "RuleBooksLaw" 94 12 mM_begin 2 := ⟨cb_M_begin, by decide, rfl, tb_at 1260 (by decide +kernel) (by decide +kernel), tb_at 1261 (by decide +kernel) (by decide +kernel), Or.inl (tb_at 1259 (by decide +kernel) (by decide +kernel))⟩
theorem cv_L_98 : CV "RuleBooksLaw" 98 12 mM_middle 0 := ⟨cb_M_middle, by decide, rfl, tb_at 1268 (by decide +kernel) (by decide +kernel), tb_at 1269 (by decide +kernel) (by decide +kernel), Or.inl (tb_at 1267 (by decide +kernel) (by decide +kernel))⟩
theorem cv_L_102 : CV "RuleBooksLaw" 102 12 mM_finish 0 := ⟨cb_M_finish, by decide, rfl, tb_at 1272 (by decide +kernel) (by decide +kernel), tb_at 1273 (by decide +kernel) (by decide +kernel), Or.inl (tb_at 1271 (by decide +kernel) (by decide +kernel))⟩
theorem cv_L_106 : CV "RuleBooksLaw" 106 12 mM_abandon 0 := ⟨cb_M_abandon, by decide, rfl, tb_at 1276 (by decide +kernel) (by decide +kernel), tb_at 1277 (by decide +kernel) (by decide +kernel), Or.inl (tb_at 1275 (by decide +kernel) (by decide +kernel))⟩
theorem cv_L_110 : CV "RuleBooksLaw" 110 12 mM_scene 1 := ⟨cb_M_scene, by decide, rfl, tb_at 1280 (by decide +kernel) (by decide +kernel), tb_at 1281 (by decide +kernel) (by decide +kernel), Or.inl (tb_at 1279 (by decide +kernel) (by decide +kernel))⟩
theorem cv_L_114 : CV "RuleBooksLaw" 114 12 mM_anchor 4 := ⟨cb_M_anchor, by decide, rfl, tb_at 1284 (by decide +kernel) (by decide +kernel), tb_at 1285 (by decide +kernel) (by decide +kernel), Or.inl (tb_at 1283 (by decide +kernel) (by decide +kernel))⟩
theorem cv_L_118 : CV "RuleBooksLaw" 118 12 mM_everyTurn 1 := ⟨cb_M_everyTurn, by decide, rfl, tb_at 1288 (by decide +kernel) (by decide +kernel), tb_at 1289 (by decide +kernel) (by decide +kernel), Or.inl (tb_at 1287 (by decide +kernel) (by decide +kernel))⟩
theorem cv_L_122 : CV "RuleBooksLaw" 122 12 mM_turn 0 := ⟨cb_M_turn, by decide, rfl, tb_at 1292 (by decide +kernel) (by decide +kernel), tb_at 1293 (by decide +kernel) (by decide +kernel), Or.inl (tb_at 1291 (by decide +kernel) (by decide +kernel))⟩
theorem cv_L_126 : CV "RuleBooksLaw" 126 12 mM_event 1 := ⟨cb_M_event, by decide, rfl, tb_at 1304 (by decide +kernel) (by decide +kernel), tb_at 1305 (by decide +kernel) (by decide +kernel), Or.inl (tb_at 1303 (by decide +kernel) (by decide +kernel))⟩
theorem cv_L_130 : CV "RuleBooksLaw" 130 12 mM_happens 2 := ⟨cb_M_happens, by decide, rfl, tb_at 1308 (by decide +kernel) (by decide +kernel), tb_at 1309 (by decide +kernel) (by decide +kernel), Or.inl (tb_at 1307 (by decide +kernel) (by decide +kernel))⟩
theorem cv_L_134 : CV "RuleBooksLaw" 134 12 mM_phrase 3 := ⟨cb_M_phrase, by decide, rfl, tb_at 1312 (by decide +kernel) (by decide +kernel), tb_at 1313 (by decide +kernel) (by decide +kernel), Or.inl (tb_at 1311 (by decide +kernel) (by decide +kernel))⟩
theorem cv_L_138 : CV "RuleBooksLaw" 138 12 mM_choose 3 := ⟨cb_M_choose, by decide, rfl, tb_at 1316 (by decide +kernel) (by decide +kernel), tb_at 1317 (by decide +kernel) (by decide +kernel), Or.inl (tb_at 1315 (by decide +kernel) (by decide +kernel))⟩
theorem cv_L_142 : CV "RuleBooksLaw" 142 12 mM_count 1 := ⟨cb_M_count, by decide, rfl, tb_at 1324 (by decide +kernel) (by decide +kernel), tb_at 1325 (by decide +kernel) (by decide +kernel), Or.inl (tb_at 1323 (by decide +kernel) (by decide +kernel))⟩
theorem nw_L_7 : NW "RuleBooksLaw" 7 11 := ⟨by decide, tb_at 82 (by decide +kernel) (by decide +kernel), tb_at 83 (by decide +kernel) (by decide +kernel), tb_at 60 (by decide +kernel) (by decide +kernel)⟩
theorem nw_L_10 : NW "RuleBooksLaw" 10 12 := ⟨by decide, tb_at 936 (by decide +kernel) (by decide +kernel), tb_at 937 (by decide +kernel) (by decide +kernel), tb_at 70 (by decide +kernel) (by decide +kernel)⟩
end
section
theorem dM_init_0 : Dc mM_init 0 (.aload_n 0) 1 1 := ⟨by decide +kernel, rfl⟩
theorem dM_init_1 : Dc mM_init 1 (.invokespecial 1) 3 4 := ⟨by decide +kernel, rfl⟩
theorem dM_init_4 : Dc mM_init 4 (.aload_n 0) 1 5 := ⟨by decide +kernel, rfl⟩
theorem dM_init_5 : Dc mM_init 5 (.bipush 20) 2 7 := ⟨by decide +kernel, rfl⟩
theorem dM_init_7 : Dc mM_init 7 (.newarray .int) 2 9 := ⟨by decide +kernel, rfl⟩
theorem dM_init_9 : Dc mM_init 9 (.putfield 7) 3 12 := ⟨by decide +kernel, rfl⟩
theorem dM_init_12 : Dc mM_init 12 (.aload_n 0) 1 13 := ⟨by decide +kernel, rfl⟩
theorem dM_init_13 : Dc mM_init 13 (.bipush 20) 2 15 := ⟨by decide +kernel, rfl⟩
theorem dM_init_15 : Dc mM_init 15 (.newarray .int) 2 17 := ⟨by decide +kernel, rfl⟩
theorem dM_init_17 : Dc mM_init 17 (.putfield 13) 3 20 := ⟨by decide +kernel, rfl⟩
theorem dM_init_20 : Dc mM_init 20 (.aload_n 0) 1 21 := ⟨by decide +kernel, rfl⟩
theorem dM_init_21 : Dc mM_init 21 (.bipush 80) 2 23 := ⟨by decide +kernel, rfl⟩
theorem dM_init_23 : Dc mM_init 23 (.newarray .int) 2 25 := ⟨by decide +kernel, rfl⟩
theorem dM_init_25 : Dc mM_init 25 (.putfield 16) 3 28 := ⟨by decide +kernel, rfl⟩
theorem dM_init_28 : Dc mM_init 28 (.aload_n 0) 1 29 := ⟨by decide +kernel, rfl⟩
theorem dM_init_29 : Dc mM_init 29 (.bipush 12) 2 31 := ⟨by decide +kernel, rfl⟩
theorem dM_init_31 : Dc mM_init 31 (.newarray .int) 2 33 := ⟨by decide +kernel, rfl⟩
theorem dM_init_33 : Dc mM_init 33 (.putfield 19) 3 36 := ⟨by decide +kernel, rfl⟩
theorem dM_init_36 : Dc mM_init 36 (.aload_n 0) 1 37 := ⟨by decide +kernel, rfl⟩
theorem dM_init_37 : Dc mM_init 37 (.bipush 48) 2 39 := ⟨by decide +kernel, rfl⟩
theorem dM_init_39 : Dc mM_init 39 (.newarray .int) 2 41 := ⟨by decide +kernel, rfl⟩
theorem dM_init_41 : Dc mM_init 41 (.putfield 22) 3 44 := ⟨by decide +kernel, rfl⟩
theorem dM_init_44 : Dc mM_init 44 (.aload_n 0) 1 45 := ⟨by decide +kernel, rfl⟩
theorem dM_init_45 : Dc mM_init 45 (.bipush 60) 2 47 := ⟨by decide +kernel, rfl⟩
theorem dM_init_47 : Dc mM_init 47 (.newarray .int) 2 49 := ⟨by decide +kernel, rfl⟩
theorem dM_init_49 : Dc mM_init 49 (.putfield 25) 3 52 := ⟨by decide +kernel, rfl⟩
theorem dM_init_52 : Dc mM_init 52 (.aload_n 0) 1 53 := ⟨by decide +kernel, rfl⟩
theorem dM_init_53 : Dc mM_init 53 (.bipush 60) 2 55 := ⟨by decide +kernel, rfl⟩
theorem dM_init_55 : Dc mM_init 55 (.newarray .int) 2 57 := ⟨by decide +kernel, rfl⟩
theorem dM_init_57 : Dc mM_init 57 (.putfield 28) 3 60 := ⟨by decide +kernel, rfl⟩
theorem dM_init_60 : Dc mM_init 60 (.aload_n 0) 1 61 := ⟨by decide +kernel, rfl⟩
theorem dM_init_61 : Dc mM_init 61 (.bipush 60) 2 63 := ⟨by decide +kernel, rfl⟩
theorem dM_init_63 : Dc mM_init 63 (.newarray .int) 2 65 := ⟨by decide +kernel, rfl⟩
theorem dM_init_65 : Dc mM_init 65 (.putfield 31) 3 68 := ⟨by decide +kernel, rfl⟩
theorem dM_init_68 : Dc mM_init 68 (.aload_n 0) 1 69 := ⟨by decide +kernel, rfl⟩
theorem dM_init_69 : Dc mM_init 69 (.sipush 720) 3 72 := ⟨by decide +kernel, rfl⟩
theorem dM_init_72 : Dc mM_init 72 (.newarray .int) 2 74 := ⟨by decide +kernel, rfl⟩
theorem dM_init_74 : Dc mM_init 74 (.putfield 34) 3 77 := ⟨by decide +kernel, rfl⟩
theorem dM_init_77 : Dc mM_init 77 (.aload_n 0) 1 78 := ⟨by decide +kernel, rfl⟩
theorem dM_init_78 : Dc mM_init 78 (.bipush 60) 2 80 := ⟨by decide +kernel, rfl⟩
theorem dM_init_80 : Dc mM_init 80 (.newarray .int) 2 82 := ⟨by decide +kernel, rfl⟩
theorem dM_init_82 : Dc mM_init 82 (.putfield 37) 3 85 := ⟨by decide +kernel, rfl⟩
theorem dM_init_85 : Dc mM_init 85 (.aload_n 0) 1 86 := ⟨by decide +kernel, rfl⟩
theorem dM_init_86 : Dc mM_init 86 (.sipush 180) 3 89 := ⟨by decide +kernel, rfl⟩
theorem dM_init_89 : Dc mM_init 89 (.newarray .int) 2 91 := ⟨by decide +kernel, rfl⟩
theorem dM_init_91 : Dc mM_init 91 (.putfield 40) 3 94 := ⟨by decide +kernel, rfl⟩
theorem dM_init_94 : Dc mM_init 94 (.aload_n 0) 1 95 := ⟨by decide +kernel, rfl⟩
theorem dM_init_95 : Dc mM_init 95 (.bipush 60) 2 97 := ⟨by decide +kernel, rfl⟩
theorem dM_init_97 : Dc mM_init 97 (.newarray .int) 2 99 := ⟨by decide +kernel, rfl⟩
theorem dM_init_99 : Dc mM_init 99 (.putfield 43) 3 102 := ⟨by decide +kernel, rfl⟩
theorem dM_init_102 : Dc mM_init 102 (.aload_n 0) 1 103 := ⟨by decide +kernel, rfl⟩
theorem dM_init_103 : Dc mM_init 103 (.bipush 60) 2 105 := ⟨by decide +kernel, rfl⟩
theorem dM_init_105 : Dc mM_init 105 (.newarray .int) 2 107 := ⟨by decide +kernel, rfl⟩
theorem dM_init_107 : Dc mM_init 107 (.putfield 46) 3 110 := ⟨by decide +kernel, rfl⟩
theorem dM_init_110 : Dc mM_init 110 (.aload_n 0) 1 111 := ⟨by decide +kernel, rfl⟩
theorem dM_init_111 : Dc mM_init 111 (.bipush 60) 2 113 := ⟨by decide +kernel, rfl⟩
theorem dM_init_113 : Dc mM_init 113 (.newarray .int) 2 115 := ⟨by decide +kernel, rfl⟩
theorem dM_init_115 : Dc mM_init 115 (.putfield 49) 3 118 := ⟨by decide +kernel, rfl⟩
theorem dM_init_118 : Dc mM_init 118 (.aload_n 0) 1 119 := ⟨by decide +kernel, rfl⟩
theorem dM_init_119 : Dc mM_init 119 (.bipush 60) 2 121 := ⟨by decide +kernel, rfl⟩
theorem dM_init_121 : Dc mM_init 121 (.newarray .int) 2 123 := ⟨by decide +kernel, rfl⟩
theorem dM_init_123 : Dc mM_init 123 (.putfield 52) 3 126 := ⟨by decide +kernel, rfl⟩
theorem dM_init_126 : Dc mM_init 126 (.aload_n 0) 1 127 := ⟨by decide +kernel, rfl⟩
theorem dM_init_127 : Dc mM_init 127 (.sipush 360) 3 130 := ⟨by decide +kernel, rfl⟩
theorem dM_init_130 : Dc mM_init 130 (.newarray .int) 2 132 := ⟨by decide +kernel, rfl⟩
theorem dM_init_132 : Dc mM_init 132 (.putfield 55) 3 135 := ⟨by decide +kernel, rfl⟩
theorem dM_init_135 : Dc mM_init 135 (.aload_n 0) 1 136 := ⟨by decide +kernel, rfl⟩
theorem dM_init_136 : Dc mM_init 136 (.bipush 6) 2 138 := ⟨by decide +kernel, rfl⟩
theorem dM_init_138 : Dc mM_init 138 (.newarray .int) 2 140 := ⟨by decide +kernel, rfl⟩
theorem dM_init_140 : Dc mM_init 140 (.putfield 58) 3 143 := ⟨by decide +kernel, rfl⟩
theorem dM_init_143 : Dc mM_init 143 (.aload_n 0) 1 144 := ⟨by decide +kernel, rfl⟩
theorem dM_init_144 : Dc mM_init 144 (.bipush 6) 2 146 := ⟨by decide +kernel, rfl⟩
theorem dM_init_146 : Dc mM_init 146 (.newarray .int) 2 148 := ⟨by decide +kernel, rfl⟩
theorem dM_init_148 : Dc mM_init 148 (.putfield 61) 3 151 := ⟨by decide +kernel, rfl⟩
theorem dM_init_151 : Dc mM_init 151 (.aload_n 0) 1 152 := ⟨by decide +kernel, rfl⟩
theorem dM_init_152 : Dc mM_init 152 (.bipush 24) 2 154 := ⟨by decide +kernel, rfl⟩
theorem dM_init_154 : Dc mM_init 154 (.newarray .int) 2 156 := ⟨by decide +kernel, rfl⟩
theorem dM_init_156 : Dc mM_init 156 (.putfield 64) 3 159 := ⟨by decide +kernel, rfl⟩
theorem dM_init_159 : Dc mM_init 159 (.aload_n 0) 1 160 := ⟨by decide +kernel, rfl⟩
theorem dM_init_160 : Dc mM_init 160 (.sipush 360) 3 163 := ⟨by decide +kernel, rfl⟩
theorem dM_init_163 : Dc mM_init 163 (.newarray .boolean) 2 165 := ⟨by decide +kernel, rfl⟩
theorem dM_init_165 : Dc mM_init 165 (.putfield 67) 3 168 := ⟨by decide +kernel, rfl⟩
theorem dM_init_168 : Dc mM_init 168 (.aload_n 0) 1 169 := ⟨by decide +kernel, rfl⟩
theorem dM_init_169 : Dc mM_init 169 (.bipush 6) 2 171 := ⟨by decide +kernel, rfl⟩
theorem dM_init_171 : Dc mM_init 171 (.newarray .boolean) 2 173 := ⟨by decide +kernel, rfl⟩
theorem dM_init_173 : Dc mM_init 173 (.putfield 71) 3 176 := ⟨by decide +kernel, rfl⟩
theorem dM_init_176 : Dc mM_init 176 (.aload_n 0) 1 177 := ⟨by decide +kernel, rfl⟩
theorem dM_init_177 : Dc mM_init 177 (.sipush 900) 3 180 := ⟨by decide +kernel, rfl⟩
theorem dM_init_180 : Dc mM_init 180 (.newarray .int) 2 182 := ⟨by decide +kernel, rfl⟩
theorem dM_init_182 : Dc mM_init 182 (.putfield 74) 3 185 := ⟨by decide +kernel, rfl⟩
theorem dM_init_185 : Dc mM_init 185 (.aload_n 0) 1 186 := ⟨by decide +kernel, rfl⟩
theorem dM_init_186 : Dc mM_init 186 (.bipush 48) 2 188 := ⟨by decide +kernel, rfl⟩
theorem dM_init_188 : Dc mM_init 188 (.newarray .int) 2 190 := ⟨by decide +kernel, rfl⟩
theorem dM_init_190 : Dc mM_init 190 (.putfield 77) 3 193 := ⟨by decide +kernel, rfl⟩
theorem dM_init_193 : Dc mM_init 193 (.aload_n 0) 1 194 := ⟨by decide +kernel, rfl⟩
theorem dM_init_194 : Dc mM_init 194 (.bipush 18) 2 196 := ⟨by decide +kernel, rfl⟩
theorem dM_init_196 : Dc mM_init 196 (.newarray .int) 2 198 := ⟨by decide +kernel, rfl⟩
theorem dM_init_198 : Dc mM_init 198 (.putfield 80) 3 201 := ⟨by decide +kernel, rfl⟩
theorem dM_init_201 : Dc mM_init 201 (.aload_n 0) 1 202 := ⟨by decide +kernel, rfl⟩
theorem dM_init_202 : Dc mM_init 202 (.iconst 4) 1 203 := ⟨by decide +kernel, rfl⟩
theorem dM_init_203 : Dc mM_init 203 (.newarray .int) 2 205 := ⟨by decide +kernel, rfl⟩
theorem dM_init_205 : Dc mM_init 205 (.putfield 83) 3 208 := ⟨by decide +kernel, rfl⟩
theorem dM_init_208 : Dc mM_init 208 (.aload_n 0) 1 209 := ⟨by decide +kernel, rfl⟩
theorem dM_init_209 : Dc mM_init 209 (.iconst 4) 1 210 := ⟨by decide +kernel, rfl⟩
theorem dM_init_210 : Dc mM_init 210 (.newarray .int) 2 212 := ⟨by decide +kernel, rfl⟩
theorem dM_init_212 : Dc mM_init 212 (.putfield 86) 3 215 := ⟨by decide +kernel, rfl⟩
theorem dM_init_215 : Dc mM_init 215 (.aload_n 0) 1 216 := ⟨by decide +kernel, rfl⟩
theorem dM_init_216 : Dc mM_init 216 (.bipush 8) 2 218 := ⟨by decide +kernel, rfl⟩
theorem dM_init_218 : Dc mM_init 218 (.newarray .int) 2 220 := ⟨by decide +kernel, rfl⟩
theorem dM_init_220 : Dc mM_init 220 (.putfield 89) 3 223 := ⟨by decide +kernel, rfl⟩
theorem dM_init_223 : Dc mM_init 223 (.aload_n 0) 1 224 := ⟨by decide +kernel, rfl⟩
theorem dM_init_224 : Dc mM_init 224 (.bipush 8) 2 226 := ⟨by decide +kernel, rfl⟩
theorem dM_init_226 : Dc mM_init 226 (.newarray .boolean) 2 228 := ⟨by decide +kernel, rfl⟩
theorem dM_init_228 : Dc mM_init 228 (.putfield 92) 3 231 := ⟨by decide +kernel, rfl⟩
theorem dM_init_231 : Dc mM_init 231 (.aload_n 0) 1 232 := ⟨by decide +kernel, rfl⟩
theorem dM_init_232 : Dc mM_init 232 (.bipush 8) 2 234 := ⟨by decide +kernel, rfl⟩
theorem dM_init_234 : Dc mM_init 234 (.newarray .int) 2 236 := ⟨by decide +kernel, rfl⟩
theorem dM_init_236 : Dc mM_init 236 (.putfield 95) 3 239 := ⟨by decide +kernel, rfl⟩
theorem dM_init_239 : Dc mM_init 239 (.aload_n 0) 1 240 := ⟨by decide +kernel, rfl⟩
theorem dM_init_240 : Dc mM_init 240 (.bipush 16) 2 242 := ⟨by decide +kernel, rfl⟩
theorem dM_init_242 : Dc mM_init 242 (.newarray .int) 2 244 := ⟨by decide +kernel, rfl⟩
theorem dM_init_244 : Dc mM_init 244 (.putfield 98) 3 247 := ⟨by decide +kernel, rfl⟩
theorem dM_init_247 : Dc mM_init 247 (.aload_n 0) 1 248 := ⟨by decide +kernel, rfl⟩
theorem dM_init_248 : Dc mM_init 248 (.bipush 16) 2 250 := ⟨by decide +kernel, rfl⟩
theorem dM_init_250 : Dc mM_init 250 (.newarray .int) 2 252 := ⟨by decide +kernel, rfl⟩
theorem dM_init_252 : Dc mM_init 252 (.putfield 101) 3 255 := ⟨by decide +kernel, rfl⟩
theorem dM_init_255 : Dc mM_init 255 (.aload_n 0) 1 256 := ⟨by decide +kernel, rfl⟩
theorem dM_init_256 : Dc mM_init 256 (.bipush 16) 2 258 := ⟨by decide +kernel, rfl⟩
theorem dM_init_258 : Dc mM_init 258 (.newarray .int) 2 260 := ⟨by decide +kernel, rfl⟩
theorem dM_init_260 : Dc mM_init 260 (.putfield 104) 3 263 := ⟨by decide +kernel, rfl⟩
theorem dM_init_263 : Dc mM_init 263 (.aload_n 0) 1 264 := ⟨by decide +kernel, rfl⟩
theorem dM_init_264 : Dc mM_init 264 (.bipush 120) 2 266 := ⟨by decide +kernel, rfl⟩
theorem dM_init_266 : Dc mM_init 266 (.newarray .int) 2 268 := ⟨by decide +kernel, rfl⟩
theorem dM_init_268 : Dc mM_init 268 (.putfield 107) 3 271 := ⟨by decide +kernel, rfl⟩
theorem dM_init_271 : Dc mM_init 271 (.aload_n 0) 1 272 := ⟨by decide +kernel, rfl⟩
theorem dM_init_272 : Dc mM_init 272 (.getfield 7) 3 275 := ⟨by decide +kernel, rfl⟩
theorem dM_init_275 : Dc mM_init 275 (.iconst 0) 1 276 := ⟨by decide +kernel, rfl⟩
theorem dM_init_276 : Dc mM_init 276 (.bipush (-4)) 2 278 := ⟨by decide +kernel, rfl⟩
theorem dM_init_278 : Dc mM_init 278 .iastore 1 279 := ⟨by decide +kernel, rfl⟩
theorem dM_init_279 : Dc mM_init 279 (.aload_n 0) 1 280 := ⟨by decide +kernel, rfl⟩
theorem dM_init_280 : Dc mM_init 280 (.iconst 1) 1 281 := ⟨by decide +kernel, rfl⟩
theorem dM_init_281 : Dc mM_init 281 (.putfield 110) 3 284 := ⟨by decide +kernel, rfl⟩
theorem dM_init_284 : Dc mM_init 284 (.aload_n 0) 1 285 := ⟨by decide +kernel, rfl⟩
theorem dM_init_285 : Dc mM_init 285 (.bipush (-4)) 2 287 := ⟨by decide +kernel, rfl⟩
theorem dM_init_287 : Dc mM_init 287 (.putfield 114) 3 290 := ⟨by decide +kernel, rfl⟩
theorem dM_init_290 : Dc mM_init 290 .return_ 1 291 := ⟨by decide +kernel, rfl⟩
theorem dM_kind_0 : Dc mM_kind 0 (.iload_n 1) 1 1 := ⟨by decide +kernel, rfl⟩
theorem dM_kind_1 : Dc mM_kind 1 (.iconst 0) 1 2 := ⟨by decide +kernel, rfl⟩
theorem dM_kind_2 : Dc mM_kind 2 (.aload_n 0) 1 3 := ⟨by decide +kernel, rfl⟩
theorem dM_kind_3 : Dc mM_kind 3 (.getfield 110) 3 6 := ⟨by decide +kernel, rfl⟩
theorem dM_kind_6 : Dc mM_kind 6 (.iconst 1) 1 7 := ⟨by decide +kernel, rfl⟩
theorem dM_kind_7 : Dc mM_kind 7 .isub 1 8 := ⟨by decide +kernel, rfl⟩
theorem dM_kind_8 : Dc mM_kind 8 (.invokestatic 117) 3 11 := ⟨by decide +kernel, rfl⟩
theorem dM_kind_11 : Db mM_kind 11 (.ifCond .ne) 16 14 := ⟨5, by decide +kernel, by decide, rfl⟩
theorem dM_kind_14 : Dc mM_kind 14 (.iconst (-1)) 1 15 := ⟨by decide +kernel, rfl⟩
theorem dM_kind_15 : Dc mM_kind 15 .ireturn 1 16 := ⟨by decide +kernel, rfl⟩
theorem dM_kind_16 : Dc mM_kind 16 (.aload_n 0) 1 17 := ⟨by decide +kernel, rfl⟩
theorem dM_kind_17 : Dc mM_kind 17 (.getfield 110) 3 20 := ⟨by decide +kernel, rfl⟩
theorem dM_kind_20 : Dc mM_kind 20 (.bipush 20) 2 22 := ⟨by decide +kernel, rfl⟩
theorem dM_kind_22 : Db mM_kind 22 (.if_icmp .ne) 28 25 := ⟨6, by decide +kernel, by decide, rfl⟩
theorem dM_kind_25 : Dc mM_kind 25 (.bipush (-3)) 2 27 := ⟨by decide +kernel, rfl⟩
theorem dM_kind_27 : Dc mM_kind 27 .ireturn 1 28 := ⟨by decide +kernel, rfl⟩
theorem dM_kind_28 : Dc mM_kind 28 (.aload_n 0) 1 29 := ⟨by decide +kernel, rfl⟩
theorem dM_kind_29 : Dc mM_kind 29 (.getfield 7) 3 32 := ⟨by decide +kernel, rfl⟩
theorem dM_kind_32 : Dc mM_kind 32 (.aload_n 0) 1 33 := ⟨by decide +kernel, rfl⟩
theorem dM_kind_33 : Dc mM_kind 33 (.getfield 110) 3 36 := ⟨by decide +kernel, rfl⟩
theorem dM_kind_36 : Dc mM_kind 36 (.iload_n 1) 1 37 := ⟨by decide +kernel, rfl⟩
theorem dM_kind_37 : Dc mM_kind 37 .iastore 1 38 := ⟨by decide +kernel, rfl⟩
theorem dM_kind_38 : Dc mM_kind 38 (.aload_n 0) 1 39 := ⟨by decide +kernel, rfl⟩
theorem dM_kind_39 : Dc mM_kind 39 .dup 1 40 := ⟨by decide +kernel, rfl⟩
theorem dM_kind_40 : Dc mM_kind 40 (.getfield 110) 3 43 := ⟨by decide +kernel, rfl⟩
theorem dM_kind_43 : Dc mM_kind 43 (.iconst 1) 1 44 := ⟨by decide +kernel, rfl⟩
theorem dM_kind_44 : Dc mM_kind 44 .iadd 1 45 := ⟨by decide +kernel, rfl⟩
theorem dM_kind_45 : Dc mM_kind 45 (.putfield 110) 3 48 := ⟨by decide +kernel, rfl⟩
theorem dM_kind_48 : Dc mM_kind 48 (.aload_n 0) 1 49 := ⟨by decide +kernel, rfl⟩
theorem dM_kind_49 : Dc mM_kind 49 (.getfield 110) 3 52 := ⟨by decide +kernel, rfl⟩
theorem dM_kind_52 : Dc mM_kind 52 (.iconst 1) 1 53 := ⟨by decide +kernel, rfl⟩
theorem dM_kind_53 : Dc mM_kind 53 .isub 1 54 := ⟨by decide +kernel, rfl⟩
theorem dM_kind_54 : Dc mM_kind 54 .ireturn 1 55 := ⟨by decide +kernel, rfl⟩
theorem dM_isIn_0 : Dc mM_isIn 0 (.iload_n 0) 1 1 := ⟨by decide +kernel, rfl⟩
theorem dM_isIn_1 : Dc mM_isIn 1 (.iload_n 1) 1 2 := ⟨by decide +kernel, rfl⟩
theorem dM_isIn_2 : Db mM_isIn 2 (.if_icmp .lt) 14 5 := ⟨12, by decide +kernel, by decide, rfl⟩
theorem dM_isIn_5 : Dc mM_isIn 5 (.iload_n 0) 1 6 := ⟨by decide +kernel, rfl⟩
theorem dM_isIn_6 : Dc mM_isIn 6 (.iload_n 2) 1 7 := ⟨by decide +kernel, rfl⟩
theorem dM_isIn_7 : Db mM_isIn 7 (.if_icmp .gt) 14 10 := ⟨7, by decide +kernel, by decide, rfl⟩
theorem dM_isIn_10 : Dc mM_isIn 10 (.iconst 1) 1 11 := ⟨by decide +kernel, rfl⟩
theorem dM_isIn_11 : Db mM_isIn 11 .goto 15 14 := ⟨4, by decide +kernel, by decide, rfl⟩
theorem dM_isIn_14 : Dc mM_isIn 14 (.iconst 0) 1 15 := ⟨by decide +kernel, rfl⟩
theorem dM_isIn_15 : Dc mM_isIn 15 .ireturn 1 16 := ⟨by decide +kernel, rfl⟩
theorem dM_under_0 : Dc mM_under 0 (.iload_n 1) 1 1 := ⟨by decide +kernel, rfl⟩
theorem dM_under_1 : Dc mM_under 1 (.iconst 0) 1 2 := ⟨by decide +kernel, rfl⟩
theorem dM_under_2 : Dc mM_under 2 (.aload_n 0) 1 3 := ⟨by decide +kernel, rfl⟩
theorem dM_under_3 : Dc mM_under 3 (.getfield 110) 3 6 := ⟨by decide +kernel, rfl⟩
theorem dM_under_6 : Dc mM_under 6 (.iconst 1) 1 7 := ⟨by decide +kernel, rfl⟩
theorem dM_under_7 : Dc mM_under 7 .isub 1 8 := ⟨by decide +kernel, rfl⟩
theorem dM_under_8 : Dc mM_under 8 (.invokestatic 117) 3 11 := ⟨by decide +kernel, rfl⟩
theorem dM_under_11 : Db mM_under 11 (.ifCond .eq) 28 14 := ⟨17, by decide +kernel, by decide, rfl⟩
theorem dM_under_14 : Dc mM_under 14 (.iload_n 2) 1 15 := ⟨by decide +kernel, rfl⟩
theorem dM_under_15 : Dc mM_under 15 (.iconst 0) 1 16 := ⟨by decide +kernel, rfl⟩
theorem dM_under_16 : Dc mM_under 16 (.aload_n 0) 1 17 := ⟨by decide +kernel, rfl⟩
theorem dM_under_17 : Dc mM_under 17 (.getfield 110) 3 20 := ⟨by decide +kernel, rfl⟩
theorem dM_under_20 : Dc mM_under 20 (.iconst 1) 1 21 := ⟨by decide +kernel, rfl⟩
theorem dM_under_21 : Dc mM_under 21 .isub 1 22 := ⟨by decide +kernel, rfl⟩
theorem dM_under_22 : Dc mM_under 22 (.invokestatic 117) 3 25 := ⟨by decide +kernel, rfl⟩
theorem dM_under_25 : Db mM_under 25 (.ifCond .ne) 30 28 := ⟨5, by decide +kernel, by decide, rfl⟩
theorem dM_under_28 : Dc mM_under 28 (.iconst (-1)) 1 29 := ⟨by decide +kernel, rfl⟩
theorem dM_under_29 : Dc mM_under 29 .ireturn 1 30 := ⟨by decide +kernel, rfl⟩
theorem dM_under_30 : Dc mM_under 30 (.aload_n 0) 1 31 := ⟨by decide +kernel, rfl⟩
theorem dM_under_31 : Dc mM_under 31 (.iload_n 1) 1 32 := ⟨by decide +kernel, rfl⟩
theorem dM_under_32 : Dc mM_under 32 (.iload_n 2) 1 33 := ⟨by decide +kernel, rfl⟩
theorem dM_under_33 : Dc mM_under 33 (.invokevirtual 121) 3 36 := ⟨by decide +kernel, rfl⟩
theorem dM_under_36 : Db mM_under 36 (.ifCond .eq) 43 39 := ⟨7, by decide +kernel, by decide, rfl⟩
theorem dM_under_39 : Dc mM_under 39 (.iconst 1) 1 40 := ⟨by decide +kernel, rfl⟩
theorem dM_under_40 : Db mM_under 40 .goto 44 43 := ⟨4, by decide +kernel, by decide, rfl⟩
theorem dM_under_43 : Dc mM_under 43 (.iconst 0) 1 44 := ⟨by decide +kernel, rfl⟩
theorem dM_under_44 : Dc mM_under 44 .ireturn 1 45 := ⟨by decide +kernel, rfl⟩
theorem dM_isUnder_0 : Dc mM_isUnder 0 (.iload_n 1) 1 1 := ⟨by decide +kernel, rfl⟩
theorem dM_isUnder_1 : Dc mM_isUnder 1 (.istore_n 3) 1 2 := ⟨by decide +kernel, rfl⟩
theorem dM_isUnder_2 : Dc mM_isUnder 2 (.iload_n 3) 1 3 := ⟨by decide +kernel, rfl⟩
theorem dM_isUnder_3 : Dc mM_isUnder 3 (.bipush (-4)) 2 5 := ⟨by decide +kernel, rfl⟩
theorem dM_isUnder_5 : Db mM_isUnder 5 (.if_icmp .eq) 23 8 := ⟨18, by decide +kernel, by decide, rfl⟩
theorem dM_isUnder_8 : Dc mM_isUnder 8 (.iload_n 3) 1 9 := ⟨by decide +kernel, rfl⟩
theorem dM_isUnder_9 : Dc mM_isUnder 9 (.iload_n 2) 1 10 := ⟨by decide +kernel, rfl⟩
theorem dM_isUnder_10 : Db mM_isUnder 10 (.if_icmp .eq) 23 13 := ⟨13, by decide +kernel, by decide, rfl⟩
theorem dM_isUnder_13 : Dc mM_isUnder 13 (.aload_n 0) 1 14 := ⟨by decide +kernel, rfl⟩
theorem dM_isUnder_14 : Dc mM_isUnder 14 (.getfield 7) 3 17 := ⟨by decide +kernel, rfl⟩
theorem dM_isUnder_17 : Dc mM_isUnder 17 (.iload_n 3) 1 18 := ⟨by decide +kernel, rfl⟩
theorem dM_isUnder_18 : Dc mM_isUnder 18 .iaload 1 19 := ⟨by decide +kernel, rfl⟩
theorem dM_isUnder_19 : Dc mM_isUnder 19 (.istore_n 3) 1 20 := ⟨by decide +kernel, rfl⟩
theorem dM_isUnder_20 : Db mM_isUnder 20 .goto 2 23 := ⟨(-18), by decide +kernel, by decide, rfl⟩
theorem dM_isUnder_23 : Dc mM_isUnder 23 (.iload_n 3) 1 24 := ⟨by decide +kernel, rfl⟩
theorem dM_isUnder_24 : Dc mM_isUnder 24 (.iload_n 2) 1 25 := ⟨by decide +kernel, rfl⟩
theorem dM_isUnder_25 : Db mM_isUnder 25 (.if_icmp .ne) 32 28 := ⟨7, by decide +kernel, by decide, rfl⟩
theorem dM_isUnder_28 : Dc mM_isUnder 28 (.iconst 1) 1 29 := ⟨by decide +kernel, rfl⟩
theorem dM_isUnder_29 : Db mM_isUnder 29 .goto 33 32 := ⟨4, by decide +kernel, by decide, rfl⟩
theorem dM_isUnder_32 : Dc mM_isUnder 32 (.iconst 0) 1 33 := ⟨by decide +kernel, rfl⟩
theorem dM_isUnder_33 : Dc mM_isUnder 33 .ireturn 1 34 := ⟨by decide +kernel, rfl⟩
theorem dM_subject_0 : Dc mM_subject 0 (.iload_n 1) 1 1 := ⟨by decide +kernel, rfl⟩
theorem dM_subject_1 : Dc mM_subject 1 (.iconst 0) 1 2 := ⟨by decide +kernel, rfl⟩
theorem dM_subject_2 : Dc mM_subject 2 (.aload_n 0) 1 3 := ⟨by decide +kernel, rfl⟩
theorem dM_subject_3 : Dc mM_subject 3 (.getfield 110) 3 6 := ⟨by decide +kernel, rfl⟩
theorem dM_subject_6 : Dc mM_subject 6 (.iconst 1) 1 7 := ⟨by decide +kernel, rfl⟩
theorem dM_subject_7 : Dc mM_subject 7 .isub 1 8 := ⟨by decide +kernel, rfl⟩
theorem dM_subject_8 : Dc mM_subject 8 (.invokestatic 117) 3 11 := ⟨by decide +kernel, rfl⟩
theorem dM_subject_11 : Db mM_subject 11 (.ifCond .ne) 16 14 := ⟨5, by decide +kernel, by decide, rfl⟩
theorem dM_subject_14 : Dc mM_subject 14 (.iconst (-1)) 1 15 := ⟨by decide +kernel, rfl⟩
theorem dM_subject_15 : Dc mM_subject 15 .ireturn 1 16 := ⟨by decide +kernel, rfl⟩
theorem dM_subject_16 : Dc mM_subject 16 (.aload_n 0) 1 17 := ⟨by decide +kernel, rfl⟩
theorem dM_subject_17 : Dc mM_subject 17 (.getfield 125) 3 20 := ⟨by decide +kernel, rfl⟩
theorem dM_subject_20 : Dc mM_subject 20 (.bipush 20) 2 22 := ⟨by decide +kernel, rfl⟩
theorem dM_subject_22 : Db mM_subject 22 (.if_icmp .ne) 28 25 := ⟨6, by decide +kernel, by decide, rfl⟩
theorem dM_subject_25 : Dc mM_subject 25 (.bipush (-3)) 2 27 := ⟨by decide +kernel, rfl⟩
theorem dM_subject_27 : Dc mM_subject 27 .ireturn 1 28 := ⟨by decide +kernel, rfl⟩
theorem dM_subject_28 : Dc mM_subject 28 (.aload_n 0) 1 29 := ⟨by decide +kernel, rfl⟩
theorem dM_subject_29 : Dc mM_subject 29 (.getfield 13) 3 32 := ⟨by decide +kernel, rfl⟩
theorem dM_subject_32 : Dc mM_subject 32 (.aload_n 0) 1 33 := ⟨by decide +kernel, rfl⟩
theorem dM_subject_33 : Dc mM_subject 33 (.getfield 125) 3 36 := ⟨by decide +kernel, rfl⟩
theorem dM_subject_36 : Dc mM_subject 36 (.iload_n 1) 1 37 := ⟨by decide +kernel, rfl⟩
theorem dM_subject_37 : Dc mM_subject 37 .iastore 1 38 := ⟨by decide +kernel, rfl⟩
theorem dM_subject_38 : Dc mM_subject 38 (.aload_n 0) 1 39 := ⟨by decide +kernel, rfl⟩
theorem dM_subject_39 : Dc mM_subject 39 .dup 1 40 := ⟨by decide +kernel, rfl⟩
theorem dM_subject_40 : Dc mM_subject 40 (.getfield 125) 3 43 := ⟨by decide +kernel, rfl⟩
theorem dM_subject_43 : Dc mM_subject 43 (.iconst 1) 1 44 := ⟨by decide +kernel, rfl⟩
theorem dM_subject_44 : Dc mM_subject 44 .iadd 1 45 := ⟨by decide +kernel, rfl⟩
theorem dM_subject_45 : Dc mM_subject 45 (.putfield 125) 3 48 := ⟨by decide +kernel, rfl⟩
theorem dM_subject_48 : Dc mM_subject 48 (.aload_n 0) 1 49 := ⟨by decide +kernel, rfl⟩
theorem dM_subject_49 : Dc mM_subject 49 (.getfield 125) 3 52 := ⟨by decide +kernel, rfl⟩
theorem dM_subject_52 : Dc mM_subject 52 (.iconst 1) 1 53 := ⟨by decide +kernel, rfl⟩
theorem dM_subject_53 : Dc mM_subject 53 .isub 1 54 := ⟨by decide +kernel, rfl⟩
theorem dM_subject_54 : Dc mM_subject 54 .ireturn 1 55 := ⟨by decide +kernel, rfl⟩
theorem dM_set_0 : Dc mM_set 0 (.aload_n 0) 1 1 := ⟨by decide +kernel, rfl⟩
theorem dM_set_1 : Dc mM_set 1 (.iload_n 1) 1 2 := ⟨by decide +kernel, rfl⟩
theorem dM_set_2 : Dc mM_set 2 (.invokevirtual 128) 3 5 := ⟨by decide +kernel, rfl⟩
theorem dM_set_5 : Db mM_set 5 (.ifCond .eq) 17 8 := ⟨12, by decide +kernel, by decide, rfl⟩
theorem dM_set_8 : Dc mM_set 8 (.iload_n 2) 1 9 := ⟨by decide +kernel, rfl⟩
theorem dM_set_9 : Dc mM_set 9 (.iconst 0) 1 10 := ⟨by decide +kernel, rfl⟩
theorem dM_set_10 : Dc mM_set 10 (.iconst 3) 1 11 := ⟨by decide +kernel, rfl⟩
theorem dM_set_11 : Dc mM_set 11 (.invokestatic 117) 3 14 := ⟨by decide +kernel, rfl⟩
theorem dM_set_14 : Db mM_set 14 (.ifCond .ne) 19 17 := ⟨5, by decide +kernel, by decide, rfl⟩
theorem dM_set_17 : Dc mM_set 17 (.iconst (-1)) 1 18 := ⟨by decide +kernel, rfl⟩
theorem dM_set_18 : Dc mM_set 18 .ireturn 1 19 := ⟨by decide +kernel, rfl⟩
theorem dM_set_19 : Dc mM_set 19 (.aload_n 0) 1 20 := ⟨by decide +kernel, rfl⟩
theorem dM_set_20 : Dc mM_set 20 (.getfield 16) 3 23 := ⟨by decide +kernel, rfl⟩
theorem dM_set_23 : Dc mM_set 23 (.iconst 4) 1 24 := ⟨by decide +kernel, rfl⟩
theorem dM_set_24 : Dc mM_set 24 (.iload_n 1) 1 25 := ⟨by decide +kernel, rfl⟩
theorem dM_set_25 : Dc mM_set 25 .imul 1 26 := ⟨by decide +kernel, rfl⟩
theorem dM_set_26 : Dc mM_set 26 (.iload_n 2) 1 27 := ⟨by decide +kernel, rfl⟩
theorem dM_set_27 : Dc mM_set 27 .iadd 1 28 := ⟨by decide +kernel, rfl⟩
theorem dM_set_28 : Dc mM_set 28 .iaload 1 29 := ⟨by decide +kernel, rfl⟩
theorem dM_set_29 : Dc mM_set 29 (.istore 4) 2 31 := ⟨by decide +kernel, rfl⟩
theorem dM_set_31 : Dc mM_set 31 (.aload_n 0) 1 32 := ⟨by decide +kernel, rfl⟩
theorem dM_set_32 : Dc mM_set 32 (.getfield 16) 3 35 := ⟨by decide +kernel, rfl⟩
theorem dM_set_35 : Dc mM_set 35 (.iconst 4) 1 36 := ⟨by decide +kernel, rfl⟩
theorem dM_set_36 : Dc mM_set 36 (.iload_n 1) 1 37 := ⟨by decide +kernel, rfl⟩
theorem dM_set_37 : Dc mM_set 37 .imul 1 38 := ⟨by decide +kernel, rfl⟩
theorem dM_set_38 : Dc mM_set 38 (.iload_n 2) 1 39 := ⟨by decide +kernel, rfl⟩
theorem dM_set_39 : Dc mM_set 39 .iadd 1 40 := ⟨by decide +kernel, rfl⟩
theorem dM_set_40 : Dc mM_set 40 (.iload_n 3) 1 41 := ⟨by decide +kernel, rfl⟩
theorem dM_set_41 : Dc mM_set 41 .iastore 1 42 := ⟨by decide +kernel, rfl⟩
theorem dM_set_42 : Dc mM_set 42 (.iload 4) 2 44 := ⟨by decide +kernel, rfl⟩
theorem dM_set_44 : Dc mM_set 44 .ireturn 1 45 := ⟨by decide +kernel, rfl⟩
theorem dM_isSubject_0 : Dc mM_isSubject 0 (.iload_n 1) 1 1 := ⟨by decide +kernel, rfl⟩
theorem dM_isSubject_1 : Dc mM_isSubject 1 (.iconst 0) 1 2 := ⟨by decide +kernel, rfl⟩
theorem dM_isSubject_2 : Dc mM_isSubject 2 (.aload_n 0) 1 3 := ⟨by decide +kernel, rfl⟩
theorem dM_isSubject_3 : Dc mM_isSubject 3 (.getfield 125) 3 6 := ⟨by decide +kernel, rfl⟩
theorem dM_isSubject_6 : Dc mM_isSubject 6 (.iconst 1) 1 7 := ⟨by decide +kernel, rfl⟩
theorem dM_isSubject_7 : Dc mM_isSubject 7 .isub 1 8 := ⟨by decide +kernel, rfl⟩
theorem dM_isSubject_8 : Dc mM_isSubject 8 (.invokestatic 117) 3 11 := ⟨by decide +kernel, rfl⟩
theorem dM_isSubject_11 : Dc mM_isSubject 11 .ireturn 1 12 := ⟨by decide +kernel, rfl⟩
theorem dM_value_0 : Dc mM_value 0 (.aload_n 0) 1 1 := ⟨by decide +kernel, rfl⟩
theorem dM_value_1 : Dc mM_value 1 (.iload_n 1) 1 2 := ⟨by decide +kernel, rfl⟩
theorem dM_value_2 : Dc mM_value 2 (.invokevirtual 128) 3 5 := ⟨by decide +kernel, rfl⟩
theorem dM_value_5 : Db mM_value 5 (.ifCond .eq) 30 8 := ⟨25, by decide +kernel, by decide, rfl⟩
theorem dM_value_8 : Dc mM_value 8 (.iload_n 2) 1 9 := ⟨by decide +kernel, rfl⟩
theorem dM_value_9 : Dc mM_value 9 (.iconst 0) 1 10 := ⟨by decide +kernel, rfl⟩
theorem dM_value_10 : Dc mM_value 10 (.iconst 3) 1 11 := ⟨by decide +kernel, rfl⟩
theorem dM_value_11 : Dc mM_value 11 (.invokestatic 117) 3 14 := ⟨by decide +kernel, rfl⟩
theorem dM_value_14 : Db mM_value 14 (.ifCond .eq) 30 17 := ⟨16, by decide +kernel, by decide, rfl⟩
theorem dM_value_17 : Dc mM_value 17 (.aload_n 0) 1 18 := ⟨by decide +kernel, rfl⟩
theorem dM_value_18 : Dc mM_value 18 (.getfield 16) 3 21 := ⟨by decide +kernel, rfl⟩
theorem dM_value_21 : Dc mM_value 21 (.iconst 4) 1 22 := ⟨by decide +kernel, rfl⟩
theorem dM_value_22 : Dc mM_value 22 (.iload_n 1) 1 23 := ⟨by decide +kernel, rfl⟩
theorem dM_value_23 : Dc mM_value 23 .imul 1 24 := ⟨by decide +kernel, rfl⟩
theorem dM_value_24 : Dc mM_value 24 (.iload_n 2) 1 25 := ⟨by decide +kernel, rfl⟩
theorem dM_value_25 : Dc mM_value 25 .iadd 1 26 := ⟨by decide +kernel, rfl⟩
theorem dM_value_26 : Dc mM_value 26 .iaload 1 27 := ⟨by decide +kernel, rfl⟩
theorem dM_value_27 : Db mM_value 27 .goto 31 30 := ⟨4, by decide +kernel, by decide, rfl⟩
theorem dM_value_30 : Dc mM_value 30 (.iconst (-1)) 1 31 := ⟨by decide +kernel, rfl⟩
theorem dM_value_31 : Dc mM_value 31 .ireturn 1 32 := ⟨by decide +kernel, rfl⟩
theorem dM_book_0 : Dc mM_book 0 (.iload_n 1) 1 1 := ⟨by decide +kernel, rfl⟩
theorem dM_book_1 : Dc mM_book 1 (.iconst 0) 1 2 := ⟨by decide +kernel, rfl⟩
theorem dM_book_2 : Dc mM_book 2 (.bipush 99) 2 4 := ⟨by decide +kernel, rfl⟩
theorem dM_book_4 : Dc mM_book 4 (.invokestatic 117) 3 7 := ⟨by decide +kernel, rfl⟩
theorem dM_book_7 : Db mM_book 7 (.ifCond .ne) 12 10 := ⟨5, by decide +kernel, by decide, rfl⟩
theorem dM_book_10 : Dc mM_book 10 (.iconst (-1)) 1 11 := ⟨by decide +kernel, rfl⟩
theorem dM_book_11 : Dc mM_book 11 .ireturn 1 12 := ⟨by decide +kernel, rfl⟩
theorem dM_book_12 : Dc mM_book 12 (.aload_n 0) 1 13 := ⟨by decide +kernel, rfl⟩
theorem dM_book_13 : Dc mM_book 13 (.getfield 132) 3 16 := ⟨by decide +kernel, rfl⟩
theorem dM_book_16 : Dc mM_book 16 (.bipush 12) 2 18 := ⟨by decide +kernel, rfl⟩
theorem dM_book_18 : Db mM_book 18 (.if_icmp .ne) 24 21 := ⟨6, by decide +kernel, by decide, rfl⟩
theorem dM_book_21 : Dc mM_book 21 (.bipush (-3)) 2 23 := ⟨by decide +kernel, rfl⟩
theorem dM_book_23 : Dc mM_book 23 .ireturn 1 24 := ⟨by decide +kernel, rfl⟩
theorem dM_book_24 : Dc mM_book 24 (.aload_n 0) 1 25 := ⟨by decide +kernel, rfl⟩
theorem dM_book_25 : Dc mM_book 25 (.getfield 19) 3 28 := ⟨by decide +kernel, rfl⟩
theorem dM_book_28 : Dc mM_book 28 (.aload_n 0) 1 29 := ⟨by decide +kernel, rfl⟩
theorem dM_book_29 : Dc mM_book 29 (.getfield 132) 3 32 := ⟨by decide +kernel, rfl⟩
theorem dM_book_32 : Dc mM_book 32 (.iload_n 1) 1 33 := ⟨by decide +kernel, rfl⟩
theorem dM_book_33 : Dc mM_book 33 .iastore 1 34 := ⟨by decide +kernel, rfl⟩
theorem dM_book_34 : Dc mM_book 34 (.aload_n 0) 1 35 := ⟨by decide +kernel, rfl⟩
theorem dM_book_35 : Dc mM_book 35 .dup 1 36 := ⟨by decide +kernel, rfl⟩
theorem dM_book_36 : Dc mM_book 36 (.getfield 132) 3 39 := ⟨by decide +kernel, rfl⟩
theorem dM_book_39 : Dc mM_book 39 (.iconst 1) 1 40 := ⟨by decide +kernel, rfl⟩
theorem dM_book_40 : Dc mM_book 40 .iadd 1 41 := ⟨by decide +kernel, rfl⟩
theorem dM_book_41 : Dc mM_book 41 (.putfield 132) 3 44 := ⟨by decide +kernel, rfl⟩
theorem dM_book_44 : Dc mM_book 44 (.aload_n 0) 1 45 := ⟨by decide +kernel, rfl⟩
theorem dM_book_45 : Dc mM_book 45 (.getfield 132) 3 48 := ⟨by decide +kernel, rfl⟩
theorem dM_book_48 : Dc mM_book 48 (.iconst 1) 1 49 := ⟨by decide +kernel, rfl⟩
theorem dM_book_49 : Dc mM_book 49 .isub 1 50 := ⟨by decide +kernel, rfl⟩
theorem dM_book_50 : Dc mM_book 50 .ireturn 1 51 := ⟨by decide +kernel, rfl⟩
theorem dM_variable_0 : Dc mM_variable 0 (.aload_n 0) 1 1 := ⟨by decide +kernel, rfl⟩
theorem dM_variable_1 : Dc mM_variable 1 (.iload_n 1) 1 2 := ⟨by decide +kernel, rfl⟩
theorem dM_variable_2 : Dc mM_variable 2 (.invokevirtual 135) 3 5 := ⟨by decide +kernel, rfl⟩
theorem dM_variable_5 : Db mM_variable 5 (.ifCond .eq) 17 8 := ⟨12, by decide +kernel, by decide, rfl⟩
theorem dM_variable_8 : Dc mM_variable 8 (.iload_n 2) 1 9 := ⟨by decide +kernel, rfl⟩
theorem dM_variable_9 : Dc mM_variable 9 (.iconst 0) 1 10 := ⟨by decide +kernel, rfl⟩
theorem dM_variable_10 : Dc mM_variable 10 (.iconst 3) 1 11 := ⟨by decide +kernel, rfl⟩
theorem dM_variable_11 : Dc mM_variable 11 (.invokestatic 117) 3 14 := ⟨by decide +kernel, rfl⟩
theorem dM_variable_14 : Db mM_variable 14 (.ifCond .ne) 19 17 := ⟨5, by decide +kernel, by decide, rfl⟩
theorem dM_variable_17 : Dc mM_variable 17 (.iconst (-1)) 1 18 := ⟨by decide +kernel, rfl⟩
theorem dM_variable_18 : Dc mM_variable 18 .ireturn 1 19 := ⟨by decide +kernel, rfl⟩
theorem dM_variable_19 : Dc mM_variable 19 (.aload_n 0) 1 20 := ⟨by decide +kernel, rfl⟩
theorem dM_variable_20 : Dc mM_variable 20 (.getfield 22) 3 23 := ⟨by decide +kernel, rfl⟩
theorem dM_variable_23 : Dc mM_variable 23 (.iconst 4) 1 24 := ⟨by decide +kernel, rfl⟩
theorem dM_variable_24 : Dc mM_variable 24 (.iload_n 1) 1 25 := ⟨by decide +kernel, rfl⟩
theorem dM_variable_25 : Dc mM_variable 25 .imul 1 26 := ⟨by decide +kernel, rfl⟩
theorem dM_variable_26 : Dc mM_variable 26 (.iload_n 2) 1 27 := ⟨by decide +kernel, rfl⟩
theorem dM_variable_27 : Dc mM_variable 27 .iadd 1 28 := ⟨by decide +kernel, rfl⟩
theorem dM_variable_28 : Dc mM_variable 28 (.iload_n 3) 1 29 := ⟨by decide +kernel, rfl⟩
theorem dM_variable_29 : Dc mM_variable 29 .iastore 1 30 := ⟨by decide +kernel, rfl⟩
theorem dM_variable_30 : Dc mM_variable 30 (.iconst 0) 1 31 := ⟨by decide +kernel, rfl⟩
theorem dM_variable_31 : Dc mM_variable 31 .ireturn 1 32 := ⟨by decide +kernel, rfl⟩
theorem dM_isBook_0 : Dc mM_isBook 0 (.iload_n 1) 1 1 := ⟨by decide +kernel, rfl⟩
theorem dM_isBook_1 : Dc mM_isBook 1 (.iconst 0) 1 2 := ⟨by decide +kernel, rfl⟩
theorem dM_isBook_2 : Dc mM_isBook 2 (.aload_n 0) 1 3 := ⟨by decide +kernel, rfl⟩
theorem dM_isBook_3 : Dc mM_isBook 3 (.getfield 132) 3 6 := ⟨by decide +kernel, rfl⟩
theorem dM_isBook_6 : Dc mM_isBook 6 (.iconst 1) 1 7 := ⟨by decide +kernel, rfl⟩
theorem dM_isBook_7 : Dc mM_isBook 7 .isub 1 8 := ⟨by decide +kernel, rfl⟩
theorem dM_isBook_8 : Dc mM_isBook 8 (.invokestatic 117) 3 11 := ⟨by decide +kernel, rfl⟩
theorem dM_isBook_11 : Dc mM_isBook 11 .ireturn 1 12 := ⟨by decide +kernel, rfl⟩
theorem dM_rule_0 : Dc mM_rule 0 (.aload_n 0) 1 1 := ⟨by decide +kernel, rfl⟩
theorem dM_rule_1 : Dc mM_rule 1 (.iload_n 1) 1 2 := ⟨by decide +kernel, rfl⟩
theorem dM_rule_2 : Dc mM_rule 2 (.invokevirtual 135) 3 5 := ⟨by decide +kernel, rfl⟩
theorem dM_rule_5 : Db mM_rule 5 (.ifCond .eq) 27 8 := ⟨22, by decide +kernel, by decide, rfl⟩
theorem dM_rule_8 : Dc mM_rule 8 (.iload_n 2) 1 9 := ⟨by decide +kernel, rfl⟩
theorem dM_rule_9 : Dc mM_rule 9 (.iconst 0) 1 10 := ⟨by decide +kernel, rfl⟩
theorem dM_rule_10 : Dc mM_rule 10 (.iconst 2) 1 11 := ⟨by decide +kernel, rfl⟩
theorem dM_rule_11 : Dc mM_rule 11 (.invokestatic 117) 3 14 := ⟨by decide +kernel, rfl⟩
theorem dM_rule_14 : Db mM_rule 14 (.ifCond .eq) 27 17 := ⟨13, by decide +kernel, by decide, rfl⟩
theorem dM_rule_17 : Dc mM_rule 17 (.iload_n 3) 1 18 := ⟨by decide +kernel, rfl⟩
theorem dM_rule_18 : Dc mM_rule 18 (.iconst 0) 1 19 := ⟨by decide +kernel, rfl⟩
theorem dM_rule_19 : Dc mM_rule 19 (.bipush 9) 2 21 := ⟨by decide +kernel, rfl⟩
theorem dM_rule_21 : Dc mM_rule 21 (.invokestatic 117) 3 24 := ⟨by decide +kernel, rfl⟩
theorem dM_rule_24 : Db mM_rule 24 (.ifCond .ne) 29 27 := ⟨5, by decide +kernel, by decide, rfl⟩
theorem dM_rule_27 : Dc mM_rule 27 (.iconst (-1)) 1 28 := ⟨by decide +kernel, rfl⟩
theorem dM_rule_28 : Dc mM_rule 28 .ireturn 1 29 := ⟨by decide +kernel, rfl⟩
theorem dM_rule_29 : Dc mM_rule 29 (.aload_n 0) 1 30 := ⟨by decide +kernel, rfl⟩
theorem dM_rule_30 : Dc mM_rule 30 (.getfield 138) 3 33 := ⟨by decide +kernel, rfl⟩
theorem dM_rule_33 : Dc mM_rule 33 (.bipush 60) 2 35 := ⟨by decide +kernel, rfl⟩
theorem dM_rule_35 : Db mM_rule 35 (.if_icmp .ne) 41 38 := ⟨6, by decide +kernel, by decide, rfl⟩
theorem dM_rule_38 : Dc mM_rule 38 (.bipush (-3)) 2 40 := ⟨by decide +kernel, rfl⟩
theorem dM_rule_40 : Dc mM_rule 40 .ireturn 1 41 := ⟨by decide +kernel, rfl⟩
theorem dM_rule_41 : Dc mM_rule 41 (.aload_n 0) 1 42 := ⟨by decide +kernel, rfl⟩
theorem dM_rule_42 : Dc mM_rule 42 (.getfield 25) 3 45 := ⟨by decide +kernel, rfl⟩
theorem dM_rule_45 : Dc mM_rule 45 (.aload_n 0) 1 46 := ⟨by decide +kernel, rfl⟩
theorem dM_rule_46 : Dc mM_rule 46 (.getfield 138) 3 49 := ⟨by decide +kernel, rfl⟩
theorem dM_rule_49 : Dc mM_rule 49 (.iload_n 1) 1 50 := ⟨by decide +kernel, rfl⟩
theorem dM_rule_50 : Dc mM_rule 50 .iastore 1 51 := ⟨by decide +kernel, rfl⟩
theorem dM_rule_51 : Dc mM_rule 51 (.aload_n 0) 1 52 := ⟨by decide +kernel, rfl⟩
theorem dM_rule_52 : Dc mM_rule 52 (.getfield 28) 3 55 := ⟨by decide +kernel, rfl⟩
theorem dM_rule_55 : Dc mM_rule 55 (.aload_n 0) 1 56 := ⟨by decide +kernel, rfl⟩
theorem dM_rule_56 : Dc mM_rule 56 (.getfield 138) 3 59 := ⟨by decide +kernel, rfl⟩
theorem dM_rule_59 : Dc mM_rule 59 (.iload_n 2) 1 60 := ⟨by decide +kernel, rfl⟩
theorem dM_rule_60 : Dc mM_rule 60 .iastore 1 61 := ⟨by decide +kernel, rfl⟩
theorem dM_rule_61 : Dc mM_rule 61 (.aload_n 0) 1 62 := ⟨by decide +kernel, rfl⟩
theorem dM_rule_62 : Dc mM_rule 62 (.getfield 31) 3 65 := ⟨by decide +kernel, rfl⟩
theorem dM_rule_65 : Dc mM_rule 65 (.aload_n 0) 1 66 := ⟨by decide +kernel, rfl⟩
theorem dM_rule_66 : Dc mM_rule 66 (.getfield 138) 3 69 := ⟨by decide +kernel, rfl⟩
theorem dM_rule_69 : Dc mM_rule 69 (.iload_n 3) 1 70 := ⟨by decide +kernel, rfl⟩
theorem dM_rule_70 : Dc mM_rule 70 .iastore 1 71 := ⟨by decide +kernel, rfl⟩
theorem dM_rule_71 : Dc mM_rule 71 (.aload_n 0) 1 72 := ⟨by decide +kernel, rfl⟩
theorem dM_rule_72 : Dc mM_rule 72 (.getfield 43) 3 75 := ⟨by decide +kernel, rfl⟩
theorem dM_rule_75 : Dc mM_rule 75 (.aload_n 0) 1 76 := ⟨by decide +kernel, rfl⟩
theorem dM_rule_76 : Dc mM_rule 76 (.getfield 138) 3 79 := ⟨by decide +kernel, rfl⟩
theorem dM_rule_79 : Dc mM_rule 79 (.bipush (-4)) 2 81 := ⟨by decide +kernel, rfl⟩
theorem dM_rule_81 : Dc mM_rule 81 .iastore 1 82 := ⟨by decide +kernel, rfl⟩
theorem dM_rule_82 : Dc mM_rule 82 (.aload_n 0) 1 83 := ⟨by decide +kernel, rfl⟩
theorem dM_rule_83 : Dc mM_rule 83 .dup 1 84 := ⟨by decide +kernel, rfl⟩
theorem dM_rule_84 : Dc mM_rule 84 (.getfield 138) 3 87 := ⟨by decide +kernel, rfl⟩
theorem dM_rule_87 : Dc mM_rule 87 (.iconst 1) 1 88 := ⟨by decide +kernel, rfl⟩
theorem dM_rule_88 : Dc mM_rule 88 .iadd 1 89 := ⟨by decide +kernel, rfl⟩
theorem dM_rule_89 : Dc mM_rule 89 (.putfield 138) 3 92 := ⟨by decide +kernel, rfl⟩
theorem dM_rule_92 : Dc mM_rule 92 (.aload_n 0) 1 93 := ⟨by decide +kernel, rfl⟩
theorem dM_rule_93 : Dc mM_rule 93 (.getfield 138) 3 96 := ⟨by decide +kernel, rfl⟩
theorem dM_rule_96 : Dc mM_rule 96 (.iconst 1) 1 97 := ⟨by decide +kernel, rfl⟩
theorem dM_rule_97 : Dc mM_rule 97 .isub 1 98 := ⟨by decide +kernel, rfl⟩
theorem dM_rule_98 : Dc mM_rule 98 .ireturn 1 99 := ⟨by decide +kernel, rfl⟩
theorem dM_condition_0 : Dc mM_condition 0 (.iload_n 2) 1 1 := ⟨by decide +kernel, rfl⟩
theorem dM_condition_1 : Dc mM_condition 1 (.bipush 10) 2 3 := ⟨by decide +kernel, rfl⟩
theorem dM_condition_3 : Db mM_condition 3 (.if_icmp .lt) 13 6 := ⟨10, by decide +kernel, by decide, rfl⟩
theorem dM_condition_6 : Dc mM_condition 6 (.iload_n 2) 1 7 := ⟨by decide +kernel, rfl⟩
theorem dM_condition_7 : Dc mM_condition 7 (.bipush 10) 2 9 := ⟨by decide +kernel, rfl⟩
theorem dM_condition_9 : Dc mM_condition 9 .isub 1 10 := ⟨by decide +kernel, rfl⟩
theorem dM_condition_10 : Db mM_condition 10 .goto 14 13 := ⟨4, by decide +kernel, by decide, rfl⟩
theorem dM_condition_13 : Dc mM_condition 13 (.iload_n 2) 1 14 := ⟨by decide +kernel, rfl⟩
theorem dM_condition_14 : Dc mM_condition 14 (.istore 5) 2 16 := ⟨by decide +kernel, rfl⟩
theorem dM_condition_16 : Dc mM_condition 16 (.aload_n 0) 1 17 := ⟨by decide +kernel, rfl⟩
theorem dM_condition_17 : Dc mM_condition 17 (.iload_n 1) 1 18 := ⟨by decide +kernel, rfl⟩
theorem dM_condition_18 : Dc mM_condition 18 (.invokevirtual 141) 3 21 := ⟨by decide +kernel, rfl⟩
theorem dM_condition_21 : Db mM_condition 21 (.ifCond .eq) 47 24 := ⟨26, by decide +kernel, by decide, rfl⟩
theorem dM_condition_24 : Dc mM_condition 24 (.iload_n 2) 1 25 := ⟨by decide +kernel, rfl⟩
theorem dM_condition_25 : Db mM_condition 25 (.ifCond .lt) 47 28 := ⟨22, by decide +kernel, by decide, rfl⟩
theorem dM_condition_28 : Dc mM_condition 28 (.iload 5) 2 30 := ⟨by decide +kernel, rfl⟩
theorem dM_condition_30 : Dc mM_condition 30 (.bipush 6) 2 32 := ⟨by decide +kernel, rfl⟩
theorem dM_condition_32 : Db mM_condition 32 (.if_icmp .gt) 47 35 := ⟨15, by decide +kernel, by decide, rfl⟩
theorem dM_condition_35 : Dc mM_condition 35 (.iload_n 2) 1 36 := ⟨by decide +kernel, rfl⟩
theorem dM_condition_36 : Dc mM_condition 36 (.bipush 6) 2 38 := ⟨by decide +kernel, rfl⟩
theorem dM_condition_38 : Db mM_condition 38 (.if_icmp .le) 49 41 := ⟨11, by decide +kernel, by decide, rfl⟩
theorem dM_condition_41 : Dc mM_condition 41 (.iload_n 2) 1 42 := ⟨by decide +kernel, rfl⟩
theorem dM_condition_42 : Dc mM_condition 42 (.bipush 10) 2 44 := ⟨by decide +kernel, rfl⟩
theorem dM_condition_44 : Db mM_condition 44 (.if_icmp .ge) 49 47 := ⟨5, by decide +kernel, by decide, rfl⟩
theorem dM_condition_47 : Dc mM_condition 47 (.iconst (-1)) 1 48 := ⟨by decide +kernel, rfl⟩
theorem dM_condition_48 : Dc mM_condition 48 .ireturn 1 49 := ⟨by decide +kernel, rfl⟩
theorem dM_condition_49 : Dc mM_condition 49 (.iload 5) 2 51 := ⟨by decide +kernel, rfl⟩
theorem dM_condition_51 : Db mM_condition 51 (.ifCond .ne) 68 54 := ⟨17, by decide +kernel, by decide, rfl⟩
theorem dM_condition_54 : Dc mM_condition 54 (.iload_n 3) 1 55 := ⟨by decide +kernel, rfl⟩
theorem dM_condition_55 : Dc mM_condition 55 (.iconst 0) 1 56 := ⟨by decide +kernel, rfl⟩
theorem dM_condition_56 : Dc mM_condition 56 (.aload_n 0) 1 57 := ⟨by decide +kernel, rfl⟩
theorem dM_condition_57 : Dc mM_condition 57 (.getfield 110) 3 60 := ⟨by decide +kernel, rfl⟩
theorem dM_condition_60 : Dc mM_condition 60 (.iconst 1) 1 61 := ⟨by decide +kernel, rfl⟩
theorem dM_condition_61 : Dc mM_condition 61 .isub 1 62 := ⟨by decide +kernel, rfl⟩
theorem dM_condition_62 : Dc mM_condition 62 (.invokestatic 117) 3 65 := ⟨by decide +kernel, rfl⟩
theorem dM_condition_65 : Db mM_condition 65 .goto 131 68 := ⟨66, by decide +kernel, by decide, rfl⟩
theorem dM_condition_68 : Dc mM_condition 68 (.iload 5) 2 70 := ⟨by decide +kernel, rfl⟩
theorem dM_condition_70 : Dc mM_condition 70 (.iconst 5) 1 71 := ⟨by decide +kernel, rfl⟩
theorem dM_condition_71 : Db mM_condition 71 (.if_icmp .ge) 83 74 := ⟨12, by decide +kernel, by decide, rfl⟩
theorem dM_condition_74 : Dc mM_condition 74 (.iload_n 3) 1 75 := ⟨by decide +kernel, rfl⟩
theorem dM_condition_75 : Dc mM_condition 75 (.iconst 0) 1 76 := ⟨by decide +kernel, rfl⟩
theorem dM_condition_76 : Dc mM_condition 76 (.iconst 3) 1 77 := ⟨by decide +kernel, rfl⟩
theorem dM_condition_77 : Dc mM_condition 77 (.invokestatic 117) 3 80 := ⟨by decide +kernel, rfl⟩
theorem dM_condition_80 : Db mM_condition 80 .goto 131 83 := ⟨51, by decide +kernel, by decide, rfl⟩
theorem dM_condition_83 : Dc mM_condition 83 (.iload 5) 2 85 := ⟨by decide +kernel, rfl⟩
theorem dM_condition_85 : Dc mM_condition 85 (.iconst 5) 1 86 := ⟨by decide +kernel, rfl⟩
theorem dM_condition_86 : Db mM_condition 86 (.if_icmp .ne) 103 89 := ⟨17, by decide +kernel, by decide, rfl⟩
theorem dM_condition_89 : Dc mM_condition 89 (.iload_n 3) 1 90 := ⟨by decide +kernel, rfl⟩
theorem dM_condition_90 : Dc mM_condition 90 (.iconst 0) 1 91 := ⟨by decide +kernel, rfl⟩
theorem dM_condition_91 : Dc mM_condition 91 (.aload_n 0) 1 92 := ⟨by decide +kernel, rfl⟩
theorem dM_condition_92 : Dc mM_condition 92 (.getfield 144) 3 95 := ⟨by decide +kernel, rfl⟩
theorem dM_condition_95 : Dc mM_condition 95 (.iconst 1) 1 96 := ⟨by decide +kernel, rfl⟩
theorem dM_condition_96 : Dc mM_condition 96 .isub 1 97 := ⟨by decide +kernel, rfl⟩
theorem dM_condition_97 : Dc mM_condition 97 (.invokestatic 117) 3 100 := ⟨by decide +kernel, rfl⟩
theorem dM_condition_100 : Db mM_condition 100 .goto 131 103 := ⟨31, by decide +kernel, by decide, rfl⟩
theorem dM_condition_103 : Dc mM_condition 103 (.aload_n 0) 1 104 := ⟨by decide +kernel, rfl⟩
theorem dM_condition_104 : Dc mM_condition 104 (.iload_n 3) 1 105 := ⟨by decide +kernel, rfl⟩
theorem dM_condition_105 : Dc mM_condition 105 (.invokevirtual 141) 3 108 := ⟨by decide +kernel, rfl⟩
theorem dM_condition_108 : Db mM_condition 108 (.ifCond .eq) 130 111 := ⟨22, by decide +kernel, by decide, rfl⟩
theorem dM_condition_111 : Dc mM_condition 111 (.aload_n 0) 1 112 := ⟨by decide +kernel, rfl⟩
theorem dM_condition_112 : Dc mM_condition 112 (.getfield 25) 3 115 := ⟨by decide +kernel, rfl⟩
theorem dM_condition_115 : Dc mM_condition 115 (.iload_n 3) 1 116 := ⟨by decide +kernel, rfl⟩
theorem dM_condition_116 : Dc mM_condition 116 .iaload 1 117 := ⟨by decide +kernel, rfl⟩
theorem dM_condition_117 : Dc mM_condition 117 (.aload_n 0) 1 118 := ⟨by decide +kernel, rfl⟩
theorem dM_condition_118 : Dc mM_condition 118 (.getfield 25) 3 121 := ⟨by decide +kernel, rfl⟩
theorem dM_condition_121 : Dc mM_condition 121 (.iload_n 1) 1 122 := ⟨by decide +kernel, rfl⟩
theorem dM_condition_122 : Dc mM_condition 122 .iaload 1 123 := ⟨by decide +kernel, rfl⟩
theorem dM_condition_123 : Db mM_condition 123 (.if_icmp .ne) 130 126 := ⟨7, by decide +kernel, by decide, rfl⟩
theorem dM_condition_126 : Dc mM_condition 126 (.iconst 1) 1 127 := ⟨by decide +kernel, rfl⟩
theorem dM_condition_127 : Db mM_condition 127 .goto 131 130 := ⟨4, by decide +kernel, by decide, rfl⟩
theorem dM_condition_130 : Dc mM_condition 130 (.iconst 0) 1 131 := ⟨by decide +kernel, rfl⟩
theorem dM_condition_131 : Dc mM_condition 131 (.istore 6) 2 133 := ⟨by decide +kernel, rfl⟩
theorem dM_condition_133 : Dc mM_condition 133 (.iload 6) 2 135 := ⟨by decide +kernel, rfl⟩
theorem dM_condition_135 : Db mM_condition 135 (.ifCond .ne) 140 138 := ⟨5, by decide +kernel, by decide, rfl⟩
theorem dM_condition_138 : Dc mM_condition 138 (.iconst (-1)) 1 139 := ⟨by decide +kernel, rfl⟩
theorem dM_condition_139 : Dc mM_condition 139 .ireturn 1 140 := ⟨by decide +kernel, rfl⟩
theorem dM_condition_140 : Dc mM_condition 140 (.aload_n 0) 1 141 := ⟨by decide +kernel, rfl⟩
theorem dM_condition_141 : Dc mM_condition 141 (.getfield 37) 3 144 := ⟨by decide +kernel, rfl⟩
theorem dM_condition_144 : Dc mM_condition 144 (.iload_n 1) 1 145 := ⟨by decide +kernel, rfl⟩
theorem dM_condition_145 : Dc mM_condition 145 .iaload 1 146 := ⟨by decide +kernel, rfl⟩
theorem dM_condition_146 : Dc mM_condition 146 (.iconst 4) 1 147 := ⟨by decide +kernel, rfl⟩
theorem dM_condition_147 : Db mM_condition 147 (.if_icmp .ne) 153 150 := ⟨6, by decide +kernel, by decide, rfl⟩
theorem dM_condition_150 : Dc mM_condition 150 (.bipush (-3)) 2 152 := ⟨by decide +kernel, rfl⟩
theorem dM_condition_152 : Dc mM_condition 152 .ireturn 1 153 := ⟨by decide +kernel, rfl⟩
theorem dM_condition_153 : Dc mM_condition 153 (.bipush 12) 2 155 := ⟨by decide +kernel, rfl⟩
theorem dM_condition_155 : Dc mM_condition 155 (.iload_n 1) 1 156 := ⟨by decide +kernel, rfl⟩
theorem dM_condition_156 : Dc mM_condition 156 .imul 1 157 := ⟨by decide +kernel, rfl⟩
theorem dM_condition_157 : Dc mM_condition 157 (.iconst 3) 1 158 := ⟨by decide +kernel, rfl⟩
theorem dM_condition_158 : Dc mM_condition 158 (.aload_n 0) 1 159 := ⟨by decide +kernel, rfl⟩
theorem dM_condition_159 : Dc mM_condition 159 (.getfield 37) 3 162 := ⟨by decide +kernel, rfl⟩
theorem dM_condition_162 : Dc mM_condition 162 (.iload_n 1) 1 163 := ⟨by decide +kernel, rfl⟩
theorem dM_condition_163 : Dc mM_condition 163 .iaload 1 164 := ⟨by decide +kernel, rfl⟩
theorem dM_condition_164 : Dc mM_condition 164 .imul 1 165 := ⟨by decide +kernel, rfl⟩
theorem dM_condition_165 : Dc mM_condition 165 .iadd 1 166 := ⟨by decide +kernel, rfl⟩
theorem dM_condition_166 : Dc mM_condition 166 (.istore 7) 2 168 := ⟨by decide +kernel, rfl⟩
theorem dM_condition_168 : Dc mM_condition 168 (.aload_n 0) 1 169 := ⟨by decide +kernel, rfl⟩
theorem dM_condition_169 : Dc mM_condition 169 (.getfield 34) 3 172 := ⟨by decide +kernel, rfl⟩
theorem dM_condition_172 : Dc mM_condition 172 (.iload 7) 2 174 := ⟨by decide +kernel, rfl⟩
theorem dM_condition_174 : Dc mM_condition 174 (.iload_n 2) 1 175 := ⟨by decide +kernel, rfl⟩
theorem dM_condition_175 : Dc mM_condition 175 .iastore 1 176 := ⟨by decide +kernel, rfl⟩
theorem dM_condition_176 : Dc mM_condition 176 (.aload_n 0) 1 177 := ⟨by decide +kernel, rfl⟩
theorem dM_condition_177 : Dc mM_condition 177 (.getfield 34) 3 180 := ⟨by decide +kernel, rfl⟩
theorem dM_condition_180 : Dc mM_condition 180 (.iload 7) 2 182 := ⟨by decide +kernel, rfl⟩
theorem dM_condition_182 : Dc mM_condition 182 (.iconst 1) 1 183 := ⟨by decide +kernel, rfl⟩
theorem dM_condition_183 : Dc mM_condition 183 .iadd 1 184 := ⟨by decide +kernel, rfl⟩
theorem dM_condition_184 : Dc mM_condition 184 (.iload_n 3) 1 185 := ⟨by decide +kernel, rfl⟩
theorem dM_condition_185 : Dc mM_condition 185 .iastore 1 186 := ⟨by decide +kernel, rfl⟩
theorem dM_condition_186 : Dc mM_condition 186 (.aload_n 0) 1 187 := ⟨by decide +kernel, rfl⟩
theorem dM_condition_187 : Dc mM_condition 187 (.getfield 34) 3 190 := ⟨by decide +kernel, rfl⟩
theorem dM_condition_190 : Dc mM_condition 190 (.iload 7) 2 192 := ⟨by decide +kernel, rfl⟩
theorem dM_condition_192 : Dc mM_condition 192 (.iconst 2) 1 193 := ⟨by decide +kernel, rfl⟩
theorem dM_condition_193 : Dc mM_condition 193 .iadd 1 194 := ⟨by decide +kernel, rfl⟩
theorem dM_condition_194 : Dc mM_condition 194 (.iload 4) 2 196 := ⟨by decide +kernel, rfl⟩
theorem dM_condition_196 : Dc mM_condition 196 .iastore 1 197 := ⟨by decide +kernel, rfl⟩
theorem dM_condition_197 : Dc mM_condition 197 (.aload_n 0) 1 198 := ⟨by decide +kernel, rfl⟩
theorem dM_condition_198 : Dc mM_condition 198 (.getfield 37) 3 201 := ⟨by decide +kernel, rfl⟩
theorem dM_condition_201 : Dc mM_condition 201 (.iload_n 1) 1 202 := ⟨by decide +kernel, rfl⟩
theorem dM_condition_202 : Dc mM_condition 202 .dup2 1 203 := ⟨by decide +kernel, rfl⟩
theorem dM_condition_203 : Dc mM_condition 203 .iaload 1 204 := ⟨by decide +kernel, rfl⟩
theorem dM_condition_204 : Dc mM_condition 204 (.iconst 1) 1 205 := ⟨by decide +kernel, rfl⟩
theorem dM_condition_205 : Dc mM_condition 205 .iadd 1 206 := ⟨by decide +kernel, rfl⟩
theorem dM_condition_206 : Dc mM_condition 206 .iastore 1 207 := ⟨by decide +kernel, rfl⟩
theorem dM_condition_207 : Dc mM_condition 207 (.aload_n 0) 1 208 := ⟨by decide +kernel, rfl⟩
theorem dM_condition_208 : Dc mM_condition 208 (.getfield 37) 3 211 := ⟨by decide +kernel, rfl⟩
theorem dM_condition_211 : Dc mM_condition 211 (.iload_n 1) 1 212 := ⟨by decide +kernel, rfl⟩
theorem dM_condition_212 : Dc mM_condition 212 .iaload 1 213 := ⟨by decide +kernel, rfl⟩
theorem dM_condition_213 : Dc mM_condition 213 .ireturn 1 214 := ⟨by decide +kernel, rfl⟩
theorem dM_isRule_0 : Dc mM_isRule 0 (.iload_n 1) 1 1 := ⟨by decide +kernel, rfl⟩
theorem dM_isRule_1 : Dc mM_isRule 1 (.iconst 0) 1 2 := ⟨by decide +kernel, rfl⟩
theorem dM_isRule_2 : Dc mM_isRule 2 (.aload_n 0) 1 3 := ⟨by decide +kernel, rfl⟩
theorem dM_isRule_3 : Dc mM_isRule 3 (.getfield 138) 3 6 := ⟨by decide +kernel, rfl⟩
theorem dM_isRule_6 : Dc mM_isRule 6 (.iconst 1) 1 7 := ⟨by decide +kernel, rfl⟩
theorem dM_isRule_7 : Dc mM_isRule 7 .isub 1 8 := ⟨by decide +kernel, rfl⟩
theorem dM_isRule_8 : Dc mM_isRule 8 (.invokestatic 117) 3 11 := ⟨by decide +kernel, rfl⟩
theorem dM_isRule_11 : Dc mM_isRule 11 .ireturn 1 12 := ⟨by decide +kernel, rfl⟩
theorem dM_does_0 : Dc mM_does 0 (.aload_n 0) 1 1 := ⟨by decide +kernel, rfl⟩
theorem dM_does_1 : Dc mM_does 1 (.iload_n 1) 1 2 := ⟨by decide +kernel, rfl⟩
theorem dM_does_2 : Dc mM_does 2 (.invokevirtual 141) 3 5 := ⟨by decide +kernel, rfl⟩
theorem dM_does_5 : Db mM_does 5 (.ifCond .eq) 18 8 := ⟨13, by decide +kernel, by decide, rfl⟩
theorem dM_does_8 : Dc mM_does 8 (.iload_n 2) 1 9 := ⟨by decide +kernel, rfl⟩
theorem dM_does_9 : Dc mM_does 9 (.iconst 0) 1 10 := ⟨by decide +kernel, rfl⟩
theorem dM_does_10 : Dc mM_does 10 (.bipush 8) 2 12 := ⟨by decide +kernel, rfl⟩
theorem dM_does_12 : Dc mM_does 12 (.invokestatic 117) 3 15 := ⟨by decide +kernel, rfl⟩
theorem dM_does_15 : Db mM_does 15 (.ifCond .ne) 20 18 := ⟨5, by decide +kernel, by decide, rfl⟩
theorem dM_does_18 : Dc mM_does 18 (.iconst (-1)) 1 19 := ⟨by decide +kernel, rfl⟩
theorem dM_does_19 : Dc mM_does 19 .ireturn 1 20 := ⟨by decide +kernel, rfl⟩
theorem dM_does_20 : Dc mM_does 20 (.iload_n 2) 1 21 := ⟨by decide +kernel, rfl⟩
theorem dM_does_21 : Dc mM_does 21 (.iconst 2) 1 22 := ⟨by decide +kernel, rfl⟩
theorem dM_does_22 : Dc mM_does 22 (.iconst 4) 1 23 := ⟨by decide +kernel, rfl⟩
theorem dM_does_23 : Dc mM_does 23 (.invokestatic 117) 3 26 := ⟨by decide +kernel, rfl⟩
theorem dM_does_26 : Db mM_does 26 (.ifCond .ne) 35 29 := ⟨9, by decide +kernel, by decide, rfl⟩
theorem dM_does_29 : Dc mM_does 29 (.iload_n 2) 1 30 := ⟨by decide +kernel, rfl⟩
theorem dM_does_30 : Dc mM_does 30 (.bipush 8) 2 32 := ⟨by decide +kernel, rfl⟩
theorem dM_does_32 : Db mM_does 32 (.if_icmp .ne) 39 35 := ⟨7, by decide +kernel, by decide, rfl⟩
theorem dM_does_35 : Dc mM_does 35 (.iconst 1) 1 36 := ⟨by decide +kernel, rfl⟩
theorem dM_does_36 : Db mM_does 36 .goto 40 39 := ⟨4, by decide +kernel, by decide, rfl⟩
theorem dM_does_39 : Dc mM_does 39 (.iconst 0) 1 40 := ⟨by decide +kernel, rfl⟩
theorem dM_does_40 : Dc mM_does 40 (.istore 5) 2 42 := ⟨by decide +kernel, rfl⟩
theorem dM_does_42 : Dc mM_does 42 (.iload_n 2) 1 43 := ⟨by decide +kernel, rfl⟩
theorem dM_does_43 : Dc mM_does 43 (.iconst 1) 1 44 := ⟨by decide +kernel, rfl⟩
theorem dM_does_44 : Db mM_does 44 (.if_icmp .ne) 57 47 := ⟨13, by decide +kernel, by decide, rfl⟩
theorem dM_does_47 : Dc mM_does 47 (.iload_n 3) 1 48 := ⟨by decide +kernel, rfl⟩
theorem dM_does_48 : Dc mM_does 48 (.iconst 1) 1 49 := ⟨by decide +kernel, rfl⟩
theorem dM_does_49 : Dc mM_does 49 (.bipush 99) 2 51 := ⟨by decide +kernel, rfl⟩
theorem dM_does_51 : Dc mM_does 51 (.invokestatic 117) 3 54 := ⟨by decide +kernel, rfl⟩
theorem dM_does_54 : Db mM_does 54 (.ifCond .eq) 111 57 := ⟨57, by decide +kernel, by decide, rfl⟩
theorem dM_does_57 : Dc mM_does 57 (.iload 5) 2 59 := ⟨by decide +kernel, rfl⟩
theorem dM_does_59 : Db mM_does 59 (.ifCond .eq) 71 62 := ⟨12, by decide +kernel, by decide, rfl⟩
theorem dM_does_62 : Dc mM_does 62 (.iload_n 3) 1 63 := ⟨by decide +kernel, rfl⟩
theorem dM_does_63 : Dc mM_does 63 (.iconst 0) 1 64 := ⟨by decide +kernel, rfl⟩
theorem dM_does_64 : Dc mM_does 64 (.iconst 3) 1 65 := ⟨by decide +kernel, rfl⟩
theorem dM_does_65 : Dc mM_does 65 (.invokestatic 117) 3 68 := ⟨by decide +kernel, rfl⟩
theorem dM_does_68 : Db mM_does 68 (.ifCond .eq) 111 71 := ⟨43, by decide +kernel, by decide, rfl⟩
theorem dM_does_71 : Dc mM_does 71 (.iload_n 2) 1 72 := ⟨by decide +kernel, rfl⟩
theorem dM_does_72 : Dc mM_does 72 (.iconst 5) 1 73 := ⟨by decide +kernel, rfl⟩
theorem dM_does_73 : Db mM_does 73 (.if_icmp .eq) 82 76 := ⟨9, by decide +kernel, by decide, rfl⟩
theorem dM_does_76 : Dc mM_does 76 (.iload_n 2) 1 77 := ⟨by decide +kernel, rfl⟩
theorem dM_does_77 : Dc mM_does 77 (.bipush 6) 2 79 := ⟨by decide +kernel, rfl⟩
theorem dM_does_79 : Db mM_does 79 (.if_icmp .ne) 90 82 := ⟨11, by decide +kernel, by decide, rfl⟩
theorem dM_does_82 : Dc mM_does 82 (.aload_n 0) 1 83 := ⟨by decide +kernel, rfl⟩
theorem dM_does_83 : Dc mM_does 83 (.iload_n 3) 1 84 := ⟨by decide +kernel, rfl⟩
theorem dM_does_84 : Dc mM_does 84 (.invokevirtual 135) 3 87 := ⟨by decide +kernel, rfl⟩
theorem dM_does_87 : Db mM_does 87 (.ifCond .eq) 111 90 := ⟨24, by decide +kernel, by decide, rfl⟩
theorem dM_does_90 : Dc mM_does 90 (.iload_n 2) 1 91 := ⟨by decide +kernel, rfl⟩
theorem dM_does_91 : Dc mM_does 91 (.iconst 4) 1 92 := ⟨by decide +kernel, rfl⟩
theorem dM_does_92 : Db mM_does 92 (.if_icmp .eq) 101 95 := ⟨9, by decide +kernel, by decide, rfl⟩
theorem dM_does_95 : Dc mM_does 95 (.iload_n 2) 1 96 := ⟨by decide +kernel, rfl⟩
theorem dM_does_96 : Dc mM_does 96 (.bipush 8) 2 98 := ⟨by decide +kernel, rfl⟩
theorem dM_does_98 : Db mM_does 98 (.if_icmp .ne) 113 101 := ⟨15, by decide +kernel, by decide, rfl⟩
theorem dM_does_101 : Dc mM_does 101 (.iload 4) 2 103 := ⟨by decide +kernel, rfl⟩
theorem dM_does_103 : Dc mM_does 103 (.iconst 0) 1 104 := ⟨by decide +kernel, rfl⟩
theorem dM_does_104 : Dc mM_does 104 (.iconst 3) 1 105 := ⟨by decide +kernel, rfl⟩
theorem dM_does_105 : Dc mM_does 105 (.invokestatic 117) 3 108 := ⟨by decide +kernel, rfl⟩
theorem dM_does_108 : Db mM_does 108 (.ifCond .ne) 113 111 := ⟨5, by decide +kernel, by decide, rfl⟩
theorem dM_does_111 : Dc mM_does 111 (.iconst (-1)) 1 112 := ⟨by decide +kernel, rfl⟩
theorem dM_does_112 : Dc mM_does 112 .ireturn 1 113 := ⟨by decide +kernel, rfl⟩
theorem dM_does_113 : Dc mM_does 113 (.aload_n 0) 1 114 := ⟨by decide +kernel, rfl⟩
theorem dM_does_114 : Dc mM_does 114 (.getfield 40) 3 117 := ⟨by decide +kernel, rfl⟩
theorem dM_does_117 : Dc mM_does 117 (.iconst 3) 1 118 := ⟨by decide +kernel, rfl⟩
theorem dM_does_118 : Dc mM_does 118 (.iload_n 1) 1 119 := ⟨by decide +kernel, rfl⟩
theorem dM_does_119 : Dc mM_does 119 .imul 1 120 := ⟨by decide +kernel, rfl⟩
theorem dM_does_120 : Dc mM_does 120 (.iload_n 2) 1 121 := ⟨by decide +kernel, rfl⟩
theorem dM_does_121 : Dc mM_does 121 .iastore 1 122 := ⟨by decide +kernel, rfl⟩
theorem dM_does_122 : Dc mM_does 122 (.aload_n 0) 1 123 := ⟨by decide +kernel, rfl⟩
theorem dM_does_123 : Dc mM_does 123 (.getfield 40) 3 126 := ⟨by decide +kernel, rfl⟩
theorem dM_does_126 : Dc mM_does 126 (.iconst 3) 1 127 := ⟨by decide +kernel, rfl⟩
theorem dM_does_127 : Dc mM_does 127 (.iload_n 1) 1 128 := ⟨by decide +kernel, rfl⟩
theorem dM_does_128 : Dc mM_does 128 .imul 1 129 := ⟨by decide +kernel, rfl⟩
theorem dM_does_129 : Dc mM_does 129 (.iconst 1) 1 130 := ⟨by decide +kernel, rfl⟩
theorem dM_does_130 : Dc mM_does 130 .iadd 1 131 := ⟨by decide +kernel, rfl⟩
theorem dM_does_131 : Dc mM_does 131 (.iload_n 3) 1 132 := ⟨by decide +kernel, rfl⟩
theorem dM_does_132 : Dc mM_does 132 .iastore 1 133 := ⟨by decide +kernel, rfl⟩
theorem dM_does_133 : Dc mM_does 133 (.aload_n 0) 1 134 := ⟨by decide +kernel, rfl⟩
theorem dM_does_134 : Dc mM_does 134 (.getfield 40) 3 137 := ⟨by decide +kernel, rfl⟩
theorem dM_does_137 : Dc mM_does 137 (.iconst 3) 1 138 := ⟨by decide +kernel, rfl⟩
theorem dM_does_138 : Dc mM_does 138 (.iload_n 1) 1 139 := ⟨by decide +kernel, rfl⟩
theorem dM_does_139 : Dc mM_does 139 .imul 1 140 := ⟨by decide +kernel, rfl⟩
theorem dM_does_140 : Dc mM_does 140 (.iconst 2) 1 141 := ⟨by decide +kernel, rfl⟩
theorem dM_does_141 : Dc mM_does 141 .iadd 1 142 := ⟨by decide +kernel, rfl⟩
theorem dM_does_142 : Dc mM_does 142 (.iload 4) 2 144 := ⟨by decide +kernel, rfl⟩
theorem dM_does_144 : Dc mM_does 144 .iastore 1 145 := ⟨by decide +kernel, rfl⟩
theorem dM_does_145 : Dc mM_does 145 (.iconst 0) 1 146 := ⟨by decide +kernel, rfl⟩
theorem dM_does_146 : Dc mM_does 146 .ireturn 1 147 := ⟨by decide +kernel, rfl⟩
theorem dM_order_0 : Dc mM_order 0 (.aload_n 0) 1 1 := ⟨by decide +kernel, rfl⟩
theorem dM_order_1 : Dc mM_order 1 (.iload_n 1) 1 2 := ⟨by decide +kernel, rfl⟩
theorem dM_order_2 : Dc mM_order 2 (.invokevirtual 141) 3 5 := ⟨by decide +kernel, rfl⟩
theorem dM_order_5 : Db mM_order 5 (.ifCond .eq) 17 8 := ⟨12, by decide +kernel, by decide, rfl⟩
theorem dM_order_8 : Dc mM_order 8 (.iload_n 2) 1 9 := ⟨by decide +kernel, rfl⟩
theorem dM_order_9 : Dc mM_order 9 (.iconst 0) 1 10 := ⟨by decide +kernel, rfl⟩
theorem dM_order_10 : Dc mM_order 10 (.iconst 5) 1 11 := ⟨by decide +kernel, rfl⟩
theorem dM_order_11 : Dc mM_order 11 (.invokestatic 117) 3 14 := ⟨by decide +kernel, rfl⟩
theorem dM_order_14 : Db mM_order 14 (.ifCond .ne) 19 17 := ⟨5, by decide +kernel, by decide, rfl⟩
theorem dM_order_17 : Dc mM_order 17 (.iconst (-1)) 1 18 := ⟨by decide +kernel, rfl⟩
theorem dM_order_18 : Dc mM_order 18 .ireturn 1 19 := ⟨by decide +kernel, rfl⟩
theorem dM_order_19 : Dc mM_order 19 (.iload_n 2) 1 20 := ⟨by decide +kernel, rfl⟩
theorem dM_order_20 : Dc mM_order 20 (.iconst 2) 1 21 := ⟨by decide +kernel, rfl⟩
theorem dM_order_21 : Dc mM_order 21 (.iconst 4) 1 22 := ⟨by decide +kernel, rfl⟩
theorem dM_order_22 : Dc mM_order 22 (.invokestatic 117) 3 25 := ⟨by decide +kernel, rfl⟩
theorem dM_order_25 : Db mM_order 25 (.ifCond .eq) 58 28 := ⟨33, by decide +kernel, by decide, rfl⟩
theorem dM_order_28 : Dc mM_order 28 (.aload_n 0) 1 29 := ⟨by decide +kernel, rfl⟩
theorem dM_order_29 : Dc mM_order 29 (.iload_n 3) 1 30 := ⟨by decide +kernel, rfl⟩
theorem dM_order_30 : Dc mM_order 30 (.invokevirtual 141) 3 33 := ⟨by decide +kernel, rfl⟩
theorem dM_order_33 : Db mM_order 33 (.ifCond .eq) 56 36 := ⟨23, by decide +kernel, by decide, rfl⟩
theorem dM_order_36 : Dc mM_order 36 (.iload_n 3) 1 37 := ⟨by decide +kernel, rfl⟩
theorem dM_order_37 : Dc mM_order 37 (.iload_n 1) 1 38 := ⟨by decide +kernel, rfl⟩
theorem dM_order_38 : Db mM_order 38 (.if_icmp .eq) 56 41 := ⟨18, by decide +kernel, by decide, rfl⟩
theorem dM_order_41 : Dc mM_order 41 (.aload_n 0) 1 42 := ⟨by decide +kernel, rfl⟩
theorem dM_order_42 : Dc mM_order 42 (.getfield 25) 3 45 := ⟨by decide +kernel, rfl⟩
theorem dM_order_45 : Dc mM_order 45 (.iload_n 3) 1 46 := ⟨by decide +kernel, rfl⟩
theorem dM_order_46 : Dc mM_order 46 .iaload 1 47 := ⟨by decide +kernel, rfl⟩
theorem dM_order_47 : Dc mM_order 47 (.aload_n 0) 1 48 := ⟨by decide +kernel, rfl⟩
theorem dM_order_48 : Dc mM_order 48 (.getfield 25) 3 51 := ⟨by decide +kernel, rfl⟩
theorem dM_order_51 : Dc mM_order 51 (.iload_n 1) 1 52 := ⟨by decide +kernel, rfl⟩
theorem dM_order_52 : Dc mM_order 52 .iaload 1 53 := ⟨by decide +kernel, rfl⟩
theorem dM_order_53 : Db mM_order 53 (.if_icmp .eq) 58 56 := ⟨5, by decide +kernel, by decide, rfl⟩
theorem dM_order_56 : Dc mM_order 56 (.iconst (-1)) 1 57 := ⟨by decide +kernel, rfl⟩
theorem dM_order_57 : Dc mM_order 57 .ireturn 1 58 := ⟨by decide +kernel, rfl⟩
theorem dM_order_58 : Dc mM_order 58 (.aload_n 0) 1 59 := ⟨by decide +kernel, rfl⟩
theorem dM_order_59 : Dc mM_order 59 (.getfield 43) 3 62 := ⟨by decide +kernel, rfl⟩
theorem dM_order_62 : Dc mM_order 62 (.iload_n 1) 1 63 := ⟨by decide +kernel, rfl⟩
theorem dM_order_63 : Dc mM_order 63 (.iload_n 2) 1 64 := ⟨by decide +kernel, rfl⟩
theorem dM_order_64 : Dc mM_order 64 .iastore 1 65 := ⟨by decide +kernel, rfl⟩
theorem dM_order_65 : Dc mM_order 65 (.aload_n 0) 1 66 := ⟨by decide +kernel, rfl⟩
theorem dM_order_66 : Dc mM_order 66 (.getfield 46) 3 69 := ⟨by decide +kernel, rfl⟩
theorem dM_order_69 : Dc mM_order 69 (.iload_n 1) 1 70 := ⟨by decide +kernel, rfl⟩
theorem dM_order_70 : Dc mM_order 70 (.iload_n 3) 1 71 := ⟨by decide +kernel, rfl⟩
theorem dM_order_71 : Dc mM_order 71 .iastore 1 72 := ⟨by decide +kernel, rfl⟩
theorem dM_order_72 : Dc mM_order 72 (.aload_n 0) 1 73 := ⟨by decide +kernel, rfl⟩
theorem dM_order_73 : Dc mM_order 73 .dup 1 74 := ⟨by decide +kernel, rfl⟩
theorem dM_order_74 : Dc mM_order 74 (.getfield 147) 3 77 := ⟨by decide +kernel, rfl⟩
theorem dM_order_77 : Dc mM_order 77 (.iconst 1) 1 78 := ⟨by decide +kernel, rfl⟩
theorem dM_order_78 : Dc mM_order 78 .iadd 1 79 := ⟨by decide +kernel, rfl⟩
theorem dM_order_79 : Dc mM_order 79 (.putfield 147) 3 82 := ⟨by decide +kernel, rfl⟩
theorem dM_order_82 : Dc mM_order 82 (.aload_n 0) 1 83 := ⟨by decide +kernel, rfl⟩
theorem dM_order_83 : Dc mM_order 83 (.getfield 49) 3 86 := ⟨by decide +kernel, rfl⟩
theorem dM_order_86 : Dc mM_order 86 (.iload_n 1) 1 87 := ⟨by decide +kernel, rfl⟩
theorem dM_order_87 : Dc mM_order 87 (.aload_n 0) 1 88 := ⟨by decide +kernel, rfl⟩
theorem dM_order_88 : Dc mM_order 88 (.getfield 147) 3 91 := ⟨by decide +kernel, rfl⟩
theorem dM_order_91 : Dc mM_order 91 .iastore 1 92 := ⟨by decide +kernel, rfl⟩
theorem dM_order_92 : Dc mM_order 92 (.iconst 0) 1 93 := ⟨by decide +kernel, rfl⟩
theorem dM_order_93 : Dc mM_order 93 .ireturn 1 94 := ⟨by decide +kernel, rfl⟩
theorem dM_row_0 : Dc mM_row 0 (.aload_n 0) 1 1 := ⟨by decide +kernel, rfl⟩
theorem dM_row_1 : Dc mM_row 1 (.iload_n 1) 1 2 := ⟨by decide +kernel, rfl⟩
theorem dM_row_2 : Dc mM_row 2 (.invokevirtual 135) 3 5 := ⟨by decide +kernel, rfl⟩
theorem dM_row_5 : Db mM_row 5 (.ifCond .ne) 10 8 := ⟨5, by decide +kernel, by decide, rfl⟩
theorem dM_row_8 : Dc mM_row 8 (.iconst (-1)) 1 9 := ⟨by decide +kernel, rfl⟩
theorem dM_row_9 : Dc mM_row 9 .ireturn 1 10 := ⟨by decide +kernel, rfl⟩
theorem dM_row_10 : Dc mM_row 10 (.aload_n 0) 1 11 := ⟨by decide +kernel, rfl⟩
theorem dM_row_11 : Dc mM_row 11 (.iload_n 1) 1 12 := ⟨by decide +kernel, rfl⟩
theorem dM_row_12 : Dc mM_row 12 (.invokevirtual 181) 3 15 := ⟨by decide +kernel, rfl⟩
theorem dM_row_15 : Dc mM_row 15 (.iload_n 2) 1 16 := ⟨by decide +kernel, rfl⟩
theorem dM_row_16 : Dc mM_row 16 (.iconst 0) 1 17 := ⟨by decide +kernel, rfl⟩
theorem dM_row_17 : Dc mM_row 17 (.aload_n 0) 1 18 := ⟨by decide +kernel, rfl⟩
theorem dM_row_18 : Dc mM_row 18 (.getfield 157) 3 21 := ⟨by decide +kernel, rfl⟩
theorem dM_row_21 : Dc mM_row 21 (.iconst 1) 1 22 := ⟨by decide +kernel, rfl⟩
theorem dM_row_22 : Dc mM_row 22 .isub 1 23 := ⟨by decide +kernel, rfl⟩
theorem dM_row_23 : Dc mM_row 23 (.invokestatic 117) 3 26 := ⟨by decide +kernel, rfl⟩
theorem dM_row_26 : Db mM_row 26 (.ifCond .eq) 38 29 := ⟨12, by decide +kernel, by decide, rfl⟩
theorem dM_row_29 : Dc mM_row 29 (.aload_n 0) 1 30 := ⟨by decide +kernel, rfl⟩
theorem dM_row_30 : Dc mM_row 30 (.getfield 52) 3 33 := ⟨by decide +kernel, rfl⟩
theorem dM_row_33 : Dc mM_row 33 (.iload_n 2) 1 34 := ⟨by decide +kernel, rfl⟩
theorem dM_row_34 : Dc mM_row 34 .iaload 1 35 := ⟨by decide +kernel, rfl⟩
theorem dM_row_35 : Db mM_row 35 .goto 40 38 := ⟨5, by decide +kernel, by decide, rfl⟩
theorem dM_row_38 : Dc mM_row 38 (.bipush (-4)) 2 40 := ⟨by decide +kernel, rfl⟩
theorem dM_row_40 : Dc mM_row 40 .ireturn 1 41 := ⟨by decide +kernel, rfl⟩
theorem dM_makes_0 : Dc mM_makes 0 (.aload_n 0) 1 1 := ⟨by decide +kernel, rfl⟩
theorem dM_makes_1 : Dc mM_makes 1 (.iconst 0) 1 2 := ⟨by decide +kernel, rfl⟩
theorem dM_makes_2 : Dc mM_makes 2 (.putfield 157) 3 5 := ⟨by decide +kernel, rfl⟩
theorem dM_makes_5 : Dc mM_makes 5 (.iconst 0) 1 6 := ⟨by decide +kernel, rfl⟩
theorem dM_makes_6 : Dc mM_makes 6 (.istore_n 2) 1 7 := ⟨by decide +kernel, rfl⟩
theorem dM_makes_7 : Dc mM_makes 7 (.iload_n 2) 1 8 := ⟨by decide +kernel, rfl⟩
theorem dM_makes_8 : Dc mM_makes 8 (.aload_n 0) 1 9 := ⟨by decide +kernel, rfl⟩
theorem dM_makes_9 : Dc mM_makes 9 (.getfield 138) 3 12 := ⟨by decide +kernel, rfl⟩
theorem dM_makes_12 : Db mM_makes 12 (.if_icmp .ge) 67 15 := ⟨55, by decide +kernel, by decide, rfl⟩
theorem dM_makes_15 : Dc mM_makes 15 (.aload_n 0) 1 16 := ⟨by decide +kernel, rfl⟩
theorem dM_makes_16 : Dc mM_makes 16 (.getfield 25) 3 19 := ⟨by decide +kernel, rfl⟩
theorem dM_makes_19 : Dc mM_makes 19 (.iload_n 2) 1 20 := ⟨by decide +kernel, rfl⟩
theorem dM_makes_20 : Dc mM_makes 20 .iaload 1 21 := ⟨by decide +kernel, rfl⟩
theorem dM_makes_21 : Dc mM_makes 21 (.iload_n 1) 1 22 := ⟨by decide +kernel, rfl⟩
theorem dM_makes_22 : Db mM_makes 22 (.if_icmp .ne) 61 25 := ⟨39, by decide +kernel, by decide, rfl⟩
theorem dM_makes_25 : Dc mM_makes 25 (.iconst 0) 1 26 := ⟨by decide +kernel, rfl⟩
theorem dM_makes_26 : Dc mM_makes 26 (.istore_n 3) 1 27 := ⟨by decide +kernel, rfl⟩
theorem dM_makes_27 : Dc mM_makes 27 (.iload_n 3) 1 28 := ⟨by decide +kernel, rfl⟩
theorem dM_makes_28 : Dc mM_makes 28 (.aload_n 0) 1 29 := ⟨by decide +kernel, rfl⟩
theorem dM_makes_29 : Dc mM_makes 29 (.getfield 157) 3 32 := ⟨by decide +kernel, rfl⟩
theorem dM_makes_32 : Db mM_makes 32 (.if_icmp .ge) 55 35 := ⟨23, by decide +kernel, by decide, rfl⟩
theorem dM_makes_35 : Dc mM_makes 35 (.aload_n 0) 1 36 := ⟨by decide +kernel, rfl⟩
theorem dM_makes_36 : Dc mM_makes 36 (.aload_n 0) 1 37 := ⟨by decide +kernel, rfl⟩
theorem dM_makes_37 : Dc mM_makes 37 (.getfield 52) 3 40 := ⟨by decide +kernel, rfl⟩
theorem dM_makes_40 : Dc mM_makes 40 (.iload_n 3) 1 41 := ⟨by decide +kernel, rfl⟩
theorem dM_makes_41 : Dc mM_makes 41 .iaload 1 42 := ⟨by decide +kernel, rfl⟩
theorem dM_makes_42 : Dc mM_makes 42 (.iload_n 2) 1 43 := ⟨by decide +kernel, rfl⟩
theorem dM_makes_43 : Dc mM_makes 43 (.invokevirtual 160) 3 46 := ⟨by decide +kernel, rfl⟩
theorem dM_makes_46 : Db mM_makes 46 (.ifCond .eq) 55 49 := ⟨9, by decide +kernel, by decide, rfl⟩
theorem dM_makes_49 : Dc mM_makes 49 (.iinc 3 1) 3 52 := ⟨by decide +kernel, rfl⟩
theorem dM_makes_52 : Db mM_makes 52 .goto 27 55 := ⟨(-25), by decide +kernel, by decide, rfl⟩
theorem dM_makes_55 : Dc mM_makes 55 (.aload_n 0) 1 56 := ⟨by decide +kernel, rfl⟩
theorem dM_makes_56 : Dc mM_makes 56 (.iload_n 2) 1 57 := ⟨by decide +kernel, rfl⟩
theorem dM_makes_57 : Dc mM_makes 57 (.iload_n 3) 1 58 := ⟨by decide +kernel, rfl⟩
theorem dM_makes_58 : Dc mM_makes 58 (.invokevirtual 163) 3 61 := ⟨by decide +kernel, rfl⟩
theorem dM_makes_61 : Dc mM_makes 61 (.iinc 2 1) 3 64 := ⟨by decide +kernel, rfl⟩
theorem dM_makes_64 : Db mM_makes 64 .goto 7 67 := ⟨(-57), by decide +kernel, by decide, rfl⟩
theorem dM_makes_67 : Dc mM_makes 67 (.iconst 0) 1 68 := ⟨by decide +kernel, rfl⟩
theorem dM_makes_68 : Dc mM_makes 68 (.istore_n 2) 1 69 := ⟨by decide +kernel, rfl⟩
theorem dM_makes_69 : Dc mM_makes 69 (.aload_n 0) 1 70 := ⟨by decide +kernel, rfl⟩
theorem dM_makes_70 : Dc mM_makes 70 (.iload_n 1) 1 71 := ⟨by decide +kernel, rfl⟩
theorem dM_makes_71 : Dc mM_makes 71 (.iload_n 2) 1 72 := ⟨by decide +kernel, rfl⟩
theorem dM_makes_72 : Dc mM_makes 72 (.invokevirtual 167) 3 75 := ⟨by decide +kernel, rfl⟩
theorem dM_makes_75 : Dc mM_makes 75 (.istore_n 3) 1 76 := ⟨by decide +kernel, rfl⟩
theorem dM_makes_76 : Dc mM_makes 76 (.iload_n 3) 1 77 := ⟨by decide +kernel, rfl⟩
theorem dM_makes_77 : Dc mM_makes 77 (.bipush (-4)) 2 79 := ⟨by decide +kernel, rfl⟩
theorem dM_makes_79 : Db mM_makes 79 (.if_icmp .eq) 104 82 := ⟨25, by decide +kernel, by decide, rfl⟩
theorem dM_makes_82 : Dc mM_makes 82 (.aload_n 0) 1 83 := ⟨by decide +kernel, rfl⟩
theorem dM_makes_83 : Dc mM_makes 83 (.iload_n 3) 1 84 := ⟨by decide +kernel, rfl⟩
theorem dM_makes_84 : Dc mM_makes 84 (.invokevirtual 171) 3 87 := ⟨by decide +kernel, rfl⟩
theorem dM_makes_87 : Dc mM_makes 87 (.aload_n 0) 1 88 := ⟨by decide +kernel, rfl⟩
theorem dM_makes_88 : Dc mM_makes 88 (.getfield 49) 3 91 := ⟨by decide +kernel, rfl⟩
theorem dM_makes_91 : Dc mM_makes 91 (.iload_n 3) 1 92 := ⟨by decide +kernel, rfl⟩
theorem dM_makes_92 : Dc mM_makes 92 .iaload 1 93 := ⟨by decide +kernel, rfl⟩
theorem dM_makes_93 : Dc mM_makes 93 (.istore_n 2) 1 94 := ⟨by decide +kernel, rfl⟩
theorem dM_makes_94 : Dc mM_makes 94 (.aload_n 0) 1 95 := ⟨by decide +kernel, rfl⟩
theorem dM_makes_95 : Dc mM_makes 95 (.iload_n 1) 1 96 := ⟨by decide +kernel, rfl⟩
theorem dM_makes_96 : Dc mM_makes 96 (.iload_n 2) 1 97 := ⟨by decide +kernel, rfl⟩
theorem dM_makes_97 : Dc mM_makes 97 (.invokevirtual 167) 3 100 := ⟨by decide +kernel, rfl⟩
theorem dM_makes_100 : Dc mM_makes 100 (.istore_n 3) 1 101 := ⟨by decide +kernel, rfl⟩
theorem dM_makes_101 : Db mM_makes 101 .goto 76 104 := ⟨(-25), by decide +kernel, by decide, rfl⟩
theorem dM_makes_104 : Dc mM_makes 104 .return_ 1 105 := ⟨by decide +kernel, rfl⟩
theorem dM_isAhead_0 : Dc mM_isAhead 0 (.aload_n 0) 1 1 := ⟨by decide +kernel, rfl⟩
theorem dM_isAhead_1 : Dc mM_isAhead 1 (.getfield 28) 3 4 := ⟨by decide +kernel, rfl⟩
theorem dM_isAhead_4 : Dc mM_isAhead 4 (.iload_n 1) 1 5 := ⟨by decide +kernel, rfl⟩
theorem dM_isAhead_5 : Dc mM_isAhead 5 .iaload 1 6 := ⟨by decide +kernel, rfl⟩
theorem dM_isAhead_6 : Dc mM_isAhead 6 (.aload_n 0) 1 7 := ⟨by decide +kernel, rfl⟩
theorem dM_isAhead_7 : Dc mM_isAhead 7 (.getfield 28) 3 10 := ⟨by decide +kernel, rfl⟩
theorem dM_isAhead_10 : Dc mM_isAhead 10 (.iload_n 2) 1 11 := ⟨by decide +kernel, rfl⟩
theorem dM_isAhead_11 : Dc mM_isAhead 11 .iaload 1 12 := ⟨by decide +kernel, rfl⟩
theorem dM_isAhead_12 : Db mM_isAhead 12 (.if_icmp .eq) 36 15 := ⟨24, by decide +kernel, by decide, rfl⟩
theorem dM_isAhead_15 : Dc mM_isAhead 15 (.aload_n 0) 1 16 := ⟨by decide +kernel, rfl⟩
theorem dM_isAhead_16 : Dc mM_isAhead 16 (.getfield 28) 3 19 := ⟨by decide +kernel, rfl⟩
theorem dM_isAhead_19 : Dc mM_isAhead 19 (.iload_n 1) 1 20 := ⟨by decide +kernel, rfl⟩
theorem dM_isAhead_20 : Dc mM_isAhead 20 .iaload 1 21 := ⟨by decide +kernel, rfl⟩
theorem dM_isAhead_21 : Dc mM_isAhead 21 (.aload_n 0) 1 22 := ⟨by decide +kernel, rfl⟩
theorem dM_isAhead_22 : Dc mM_isAhead 22 (.getfield 28) 3 25 := ⟨by decide +kernel, rfl⟩
theorem dM_isAhead_25 : Dc mM_isAhead 25 (.iload_n 2) 1 26 := ⟨by decide +kernel, rfl⟩
theorem dM_isAhead_26 : Dc mM_isAhead 26 .iaload 1 27 := ⟨by decide +kernel, rfl⟩
theorem dM_isAhead_27 : Db mM_isAhead 27 (.if_icmp .ge) 34 30 := ⟨7, by decide +kernel, by decide, rfl⟩
theorem dM_isAhead_30 : Dc mM_isAhead 30 (.iconst 1) 1 31 := ⟨by decide +kernel, rfl⟩
theorem dM_isAhead_31 : Db mM_isAhead 31 .goto 35 34 := ⟨4, by decide +kernel, by decide, rfl⟩
theorem dM_isAhead_34 : Dc mM_isAhead 34 (.iconst 0) 1 35 := ⟨by decide +kernel, rfl⟩
theorem dM_isAhead_35 : Dc mM_isAhead 35 .ireturn 1 36 := ⟨by decide +kernel, rfl⟩
theorem dM_isAhead_36 : Dc mM_isAhead 36 (.aload_n 0) 1 37 := ⟨by decide +kernel, rfl⟩
theorem dM_isAhead_37 : Dc mM_isAhead 37 (.getfield 31) 3 40 := ⟨by decide +kernel, rfl⟩
theorem dM_isAhead_40 : Dc mM_isAhead 40 (.iload_n 1) 1 41 := ⟨by decide +kernel, rfl⟩
theorem dM_isAhead_41 : Dc mM_isAhead 41 .iaload 1 42 := ⟨by decide +kernel, rfl⟩
theorem dM_isAhead_42 : Dc mM_isAhead 42 (.aload_n 0) 1 43 := ⟨by decide +kernel, rfl⟩
theorem dM_isAhead_43 : Dc mM_isAhead 43 (.getfield 31) 3 46 := ⟨by decide +kernel, rfl⟩
theorem dM_isAhead_46 : Dc mM_isAhead 46 (.iload_n 2) 1 47 := ⟨by decide +kernel, rfl⟩
theorem dM_isAhead_47 : Dc mM_isAhead 47 .iaload 1 48 := ⟨by decide +kernel, rfl⟩
theorem dM_isAhead_48 : Db mM_isAhead 48 (.if_icmp .eq) 72 51 := ⟨24, by decide +kernel, by decide, rfl⟩
theorem dM_isAhead_51 : Dc mM_isAhead 51 (.aload_n 0) 1 52 := ⟨by decide +kernel, rfl⟩
theorem dM_isAhead_52 : Dc mM_isAhead 52 (.getfield 31) 3 55 := ⟨by decide +kernel, rfl⟩
theorem dM_isAhead_55 : Dc mM_isAhead 55 (.iload_n 1) 1 56 := ⟨by decide +kernel, rfl⟩
theorem dM_isAhead_56 : Dc mM_isAhead 56 .iaload 1 57 := ⟨by decide +kernel, rfl⟩
theorem dM_isAhead_57 : Dc mM_isAhead 57 (.aload_n 0) 1 58 := ⟨by decide +kernel, rfl⟩
theorem dM_isAhead_58 : Dc mM_isAhead 58 (.getfield 31) 3 61 := ⟨by decide +kernel, rfl⟩
theorem dM_isAhead_61 : Dc mM_isAhead 61 (.iload_n 2) 1 62 := ⟨by decide +kernel, rfl⟩
theorem dM_isAhead_62 : Dc mM_isAhead 62 .iaload 1 63 := ⟨by decide +kernel, rfl⟩
theorem dM_isAhead_63 : Db mM_isAhead 63 (.if_icmp .le) 70 66 := ⟨7, by decide +kernel, by decide, rfl⟩
theorem dM_isAhead_66 : Dc mM_isAhead 66 (.iconst 1) 1 67 := ⟨by decide +kernel, rfl⟩
theorem dM_isAhead_67 : Db mM_isAhead 67 .goto 71 70 := ⟨4, by decide +kernel, by decide, rfl⟩
theorem dM_isAhead_70 : Dc mM_isAhead 70 (.iconst 0) 1 71 := ⟨by decide +kernel, rfl⟩
theorem dM_isAhead_71 : Dc mM_isAhead 71 .ireturn 1 72 := ⟨by decide +kernel, rfl⟩
theorem dM_isAhead_72 : Dc mM_isAhead 72 (.aload_n 0) 1 73 := ⟨by decide +kernel, rfl⟩
theorem dM_isAhead_73 : Dc mM_isAhead 73 (.getfield 37) 3 76 := ⟨by decide +kernel, rfl⟩
theorem dM_isAhead_76 : Dc mM_isAhead 76 (.iload_n 1) 1 77 := ⟨by decide +kernel, rfl⟩
theorem dM_isAhead_77 : Dc mM_isAhead 77 .iaload 1 78 := ⟨by decide +kernel, rfl⟩
theorem dM_isAhead_78 : Dc mM_isAhead 78 (.aload_n 0) 1 79 := ⟨by decide +kernel, rfl⟩
theorem dM_isAhead_79 : Dc mM_isAhead 79 (.getfield 37) 3 82 := ⟨by decide +kernel, rfl⟩
theorem dM_isAhead_82 : Dc mM_isAhead 82 (.iload_n 2) 1 83 := ⟨by decide +kernel, rfl⟩
theorem dM_isAhead_83 : Dc mM_isAhead 83 .iaload 1 84 := ⟨by decide +kernel, rfl⟩
theorem dM_isAhead_84 : Db mM_isAhead 84 (.if_icmp .eq) 108 87 := ⟨24, by decide +kernel, by decide, rfl⟩
theorem dM_isAhead_87 : Dc mM_isAhead 87 (.aload_n 0) 1 88 := ⟨by decide +kernel, rfl⟩
theorem dM_isAhead_88 : Dc mM_isAhead 88 (.getfield 37) 3 91 := ⟨by decide +kernel, rfl⟩
theorem dM_isAhead_91 : Dc mM_isAhead 91 (.iload_n 1) 1 92 := ⟨by decide +kernel, rfl⟩
theorem dM_isAhead_92 : Dc mM_isAhead 92 .iaload 1 93 := ⟨by decide +kernel, rfl⟩
theorem dM_isAhead_93 : Dc mM_isAhead 93 (.aload_n 0) 1 94 := ⟨by decide +kernel, rfl⟩
theorem dM_isAhead_94 : Dc mM_isAhead 94 (.getfield 37) 3 97 := ⟨by decide +kernel, rfl⟩
theorem dM_isAhead_97 : Dc mM_isAhead 97 (.iload_n 2) 1 98 := ⟨by decide +kernel, rfl⟩
theorem dM_isAhead_98 : Dc mM_isAhead 98 .iaload 1 99 := ⟨by decide +kernel, rfl⟩
theorem dM_isAhead_99 : Db mM_isAhead 99 (.if_icmp .le) 106 102 := ⟨7, by decide +kernel, by decide, rfl⟩
theorem dM_isAhead_102 : Dc mM_isAhead 102 (.iconst 1) 1 103 := ⟨by decide +kernel, rfl⟩
theorem dM_isAhead_103 : Db mM_isAhead 103 .goto 107 106 := ⟨4, by decide +kernel, by decide, rfl⟩
theorem dM_isAhead_106 : Dc mM_isAhead 106 (.iconst 0) 1 107 := ⟨by decide +kernel, rfl⟩
theorem dM_isAhead_107 : Dc mM_isAhead 107 .ireturn 1 108 := ⟨by decide +kernel, rfl⟩
theorem dM_isAhead_108 : Dc mM_isAhead 108 (.aload_n 0) 1 109 := ⟨by decide +kernel, rfl⟩
theorem dM_isAhead_109 : Dc mM_isAhead 109 (.iload_n 1) 1 110 := ⟨by decide +kernel, rfl⟩
theorem dM_isAhead_110 : Dc mM_isAhead 110 (.invokevirtual 154) 3 113 := ⟨by decide +kernel, rfl⟩
theorem dM_isAhead_113 : Dc mM_isAhead 113 (.istore_n 3) 1 114 := ⟨by decide +kernel, rfl⟩
theorem dM_isAhead_114 : Dc mM_isAhead 114 (.aload_n 0) 1 115 := ⟨by decide +kernel, rfl⟩
theorem dM_isAhead_115 : Dc mM_isAhead 115 (.iload_n 2) 1 116 := ⟨by decide +kernel, rfl⟩
theorem dM_isAhead_116 : Dc mM_isAhead 116 (.invokevirtual 154) 3 119 := ⟨by decide +kernel, rfl⟩
theorem dM_isAhead_119 : Dc mM_isAhead 119 (.istore 4) 2 121 := ⟨by decide +kernel, rfl⟩
theorem dM_isAhead_121 : Dc mM_isAhead 121 (.iload_n 3) 1 122 := ⟨by decide +kernel, rfl⟩
theorem dM_isAhead_122 : Dc mM_isAhead 122 (.iload 4) 2 124 := ⟨by decide +kernel, rfl⟩
theorem dM_isAhead_124 : Db mM_isAhead 124 (.if_icmp .eq) 141 127 := ⟨17, by decide +kernel, by decide, rfl⟩
theorem dM_isAhead_127 : Dc mM_isAhead 127 (.iload_n 3) 1 128 := ⟨by decide +kernel, rfl⟩
theorem dM_isAhead_128 : Dc mM_isAhead 128 (.iload 4) 2 130 := ⟨by decide +kernel, rfl⟩
theorem dM_isAhead_130 : Db mM_isAhead 130 (.if_icmp .le) 137 133 := ⟨7, by decide +kernel, by decide, rfl⟩
theorem dM_isAhead_133 : Dc mM_isAhead 133 (.iconst 1) 1 134 := ⟨by decide +kernel, rfl⟩
theorem dM_isAhead_134 : Db mM_isAhead 134 .goto 151 137 := ⟨17, by decide +kernel, by decide, rfl⟩
theorem dM_isAhead_137 : Dc mM_isAhead 137 (.iconst 0) 1 138 := ⟨by decide +kernel, rfl⟩
theorem dM_isAhead_138 : Db mM_isAhead 138 .goto 151 141 := ⟨13, by decide +kernel, by decide, rfl⟩
theorem dM_isAhead_141 : Dc mM_isAhead 141 (.iload_n 1) 1 142 := ⟨by decide +kernel, rfl⟩
theorem dM_isAhead_142 : Dc mM_isAhead 142 (.iload_n 2) 1 143 := ⟨by decide +kernel, rfl⟩
theorem dM_isAhead_143 : Db mM_isAhead 143 (.if_icmp .ge) 150 146 := ⟨7, by decide +kernel, by decide, rfl⟩
theorem dM_isAhead_146 : Dc mM_isAhead 146 (.iconst 1) 1 147 := ⟨by decide +kernel, rfl⟩
theorem dM_isAhead_147 : Db mM_isAhead 147 .goto 151 150 := ⟨4, by decide +kernel, by decide, rfl⟩
theorem dM_isAhead_150 : Dc mM_isAhead 150 (.iconst 0) 1 151 := ⟨by decide +kernel, rfl⟩
theorem dM_isAhead_151 : Dc mM_isAhead 151 .ireturn 1 152 := ⟨by decide +kernel, rfl⟩
theorem dM_deeps_0 : Dc mM_deeps 0 (.iconst 0) 1 1 := ⟨by decide +kernel, rfl⟩
theorem dM_deeps_1 : Dc mM_deeps 1 (.istore_n 2) 1 2 := ⟨by decide +kernel, rfl⟩
theorem dM_deeps_2 : Dc mM_deeps 2 (.iconst 0) 1 3 := ⟨by decide +kernel, rfl⟩
theorem dM_deeps_3 : Dc mM_deeps 3 (.istore_n 3) 1 4 := ⟨by decide +kernel, rfl⟩
theorem dM_deeps_4 : Dc mM_deeps 4 (.iload_n 3) 1 5 := ⟨by decide +kernel, rfl⟩
theorem dM_deeps_5 : Dc mM_deeps 5 (.aload_n 0) 1 6 := ⟨by decide +kernel, rfl⟩
theorem dM_deeps_6 : Dc mM_deeps 6 (.getfield 37) 3 9 := ⟨by decide +kernel, rfl⟩
theorem dM_deeps_9 : Dc mM_deeps 9 (.iload_n 1) 1 10 := ⟨by decide +kernel, rfl⟩
theorem dM_deeps_10 : Dc mM_deeps 10 .iaload 1 11 := ⟨by decide +kernel, rfl⟩
theorem dM_deeps_11 : Db mM_deeps 11 (.if_icmp .ge) 60 14 := ⟨49, by decide +kernel, by decide, rfl⟩
theorem dM_deeps_14 : Dc mM_deeps 14 (.bipush 12) 2 16 := ⟨by decide +kernel, rfl⟩
theorem dM_deeps_16 : Dc mM_deeps 16 (.iload_n 1) 1 17 := ⟨by decide +kernel, rfl⟩
theorem dM_deeps_17 : Dc mM_deeps 17 .imul 1 18 := ⟨by decide +kernel, rfl⟩
theorem dM_deeps_18 : Dc mM_deeps 18 (.iconst 3) 1 19 := ⟨by decide +kernel, rfl⟩
theorem dM_deeps_19 : Dc mM_deeps 19 (.iload_n 3) 1 20 := ⟨by decide +kernel, rfl⟩
theorem dM_deeps_20 : Dc mM_deeps 20 .imul 1 21 := ⟨by decide +kernel, rfl⟩
theorem dM_deeps_21 : Dc mM_deeps 21 .iadd 1 22 := ⟨by decide +kernel, rfl⟩
theorem dM_deeps_22 : Dc mM_deeps 22 (.istore 4) 2 24 := ⟨by decide +kernel, rfl⟩
theorem dM_deeps_24 : Dc mM_deeps 24 (.iload_n 2) 1 25 := ⟨by decide +kernel, rfl⟩
theorem dM_deeps_25 : Dc mM_deeps 25 (.aload_n 0) 1 26 := ⟨by decide +kernel, rfl⟩
theorem dM_deeps_26 : Dc mM_deeps 26 (.getfield 34) 3 29 := ⟨by decide +kernel, rfl⟩
theorem dM_deeps_29 : Dc mM_deeps 29 (.iload 4) 2 31 := ⟨by decide +kernel, rfl⟩
theorem dM_deeps_31 : Dc mM_deeps 31 .iaload 1 32 := ⟨by decide +kernel, rfl⟩
theorem dM_deeps_32 : Db mM_deeps 32 (.ifCond .ne) 51 35 := ⟨19, by decide +kernel, by decide, rfl⟩
theorem dM_deeps_35 : Dc mM_deeps 35 (.aload_n 0) 1 36 := ⟨by decide +kernel, rfl⟩
theorem dM_deeps_36 : Dc mM_deeps 36 (.aload_n 0) 1 37 := ⟨by decide +kernel, rfl⟩
theorem dM_deeps_37 : Dc mM_deeps 37 (.getfield 34) 3 40 := ⟨by decide +kernel, rfl⟩
theorem dM_deeps_40 : Dc mM_deeps 40 (.iload 4) 2 42 := ⟨by decide +kernel, rfl⟩
theorem dM_deeps_42 : Dc mM_deeps 42 (.iconst 1) 1 43 := ⟨by decide +kernel, rfl⟩
theorem dM_deeps_43 : Dc mM_deeps 43 .iadd 1 44 := ⟨by decide +kernel, rfl⟩
theorem dM_deeps_44 : Dc mM_deeps 44 .iaload 1 45 := ⟨by decide +kernel, rfl⟩
theorem dM_deeps_45 : Dc mM_deeps 45 (.invokevirtual 150) 3 48 := ⟨by decide +kernel, rfl⟩
theorem dM_deeps_48 : Db mM_deeps 48 .goto 52 51 := ⟨4, by decide +kernel, by decide, rfl⟩
theorem dM_deeps_51 : Dc mM_deeps 51 (.iconst 0) 1 52 := ⟨by decide +kernel, rfl⟩
theorem dM_deeps_52 : Dc mM_deeps 52 .iadd 1 53 := ⟨by decide +kernel, rfl⟩
theorem dM_deeps_53 : Dc mM_deeps 53 (.istore_n 2) 1 54 := ⟨by decide +kernel, rfl⟩
theorem dM_deeps_54 : Dc mM_deeps 54 (.iinc 3 1) 3 57 := ⟨by decide +kernel, rfl⟩
theorem dM_deeps_57 : Db mM_deeps 57 .goto 4 60 := ⟨(-53), by decide +kernel, by decide, rfl⟩
theorem dM_deeps_60 : Dc mM_deeps 60 (.iload_n 2) 1 61 := ⟨by decide +kernel, rfl⟩
theorem dM_deeps_61 : Dc mM_deeps 61 .ireturn 1 62 := ⟨by decide +kernel, rfl⟩
theorem dM_deep_0 : Dc mM_deep 0 (.iconst 0) 1 1 := ⟨by decide +kernel, rfl⟩
theorem dM_deep_1 : Dc mM_deep 1 (.istore_n 2) 1 2 := ⟨by decide +kernel, rfl⟩
theorem dM_deep_2 : Dc mM_deep 2 (.iload_n 1) 1 3 := ⟨by decide +kernel, rfl⟩
theorem dM_deep_3 : Dc mM_deep 3 (.istore_n 3) 1 4 := ⟨by decide +kernel, rfl⟩
theorem dM_deep_4 : Dc mM_deep 4 (.aload_n 0) 1 5 := ⟨by decide +kernel, rfl⟩
theorem dM_deep_5 : Dc mM_deep 5 (.getfield 7) 3 8 := ⟨by decide +kernel, rfl⟩
theorem dM_deep_8 : Dc mM_deep 8 (.iload_n 3) 1 9 := ⟨by decide +kernel, rfl⟩
theorem dM_deep_9 : Dc mM_deep 9 .iaload 1 10 := ⟨by decide +kernel, rfl⟩
theorem dM_deep_10 : Dc mM_deep 10 (.bipush (-4)) 2 12 := ⟨by decide +kernel, rfl⟩
theorem dM_deep_12 : Db mM_deep 12 (.if_icmp .eq) 28 15 := ⟨16, by decide +kernel, by decide, rfl⟩
theorem dM_deep_15 : Dc mM_deep 15 (.aload_n 0) 1 16 := ⟨by decide +kernel, rfl⟩
theorem dM_deep_16 : Dc mM_deep 16 (.getfield 7) 3 19 := ⟨by decide +kernel, rfl⟩
theorem dM_deep_19 : Dc mM_deep 19 (.iload_n 3) 1 20 := ⟨by decide +kernel, rfl⟩
theorem dM_deep_20 : Dc mM_deep 20 .iaload 1 21 := ⟨by decide +kernel, rfl⟩
theorem dM_deep_21 : Dc mM_deep 21 (.istore_n 3) 1 22 := ⟨by decide +kernel, rfl⟩
theorem dM_deep_22 : Dc mM_deep 22 (.iinc 2 1) 3 25 := ⟨by decide +kernel, rfl⟩
theorem dM_deep_25 : Db mM_deep 25 .goto 4 28 := ⟨(-21), by decide +kernel, by decide, rfl⟩
theorem dM_deep_28 : Dc mM_deep 28 (.iload_n 2) 1 29 := ⟨by decide +kernel, rfl⟩
theorem dM_deep_29 : Dc mM_deep 29 .ireturn 1 30 := ⟨by decide +kernel, rfl⟩
theorem dM_comes_0 : Dc mM_comes 0 (.aload_n 0) 1 1 := ⟨by decide +kernel, rfl⟩
theorem dM_comes_1 : Dc mM_comes 1 (.getfield 157) 3 4 := ⟨by decide +kernel, rfl⟩
theorem dM_comes_4 : Dc mM_comes 4 (.istore_n 3) 1 5 := ⟨by decide +kernel, rfl⟩
theorem dM_comes_5 : Dc mM_comes 5 (.iload_n 3) 1 6 := ⟨by decide +kernel, rfl⟩
theorem dM_comes_6 : Dc mM_comes 6 (.iload_n 2) 1 7 := ⟨by decide +kernel, rfl⟩
theorem dM_comes_7 : Db mM_comes 7 (.if_icmp .le) 30 10 := ⟨23, by decide +kernel, by decide, rfl⟩
theorem dM_comes_10 : Dc mM_comes 10 (.aload_n 0) 1 11 := ⟨by decide +kernel, rfl⟩
theorem dM_comes_11 : Dc mM_comes 11 (.getfield 52) 3 14 := ⟨by decide +kernel, rfl⟩
theorem dM_comes_14 : Dc mM_comes 14 (.iload_n 3) 1 15 := ⟨by decide +kernel, rfl⟩
theorem dM_comes_15 : Dc mM_comes 15 (.aload_n 0) 1 16 := ⟨by decide +kernel, rfl⟩
theorem dM_comes_16 : Dc mM_comes 16 (.getfield 52) 3 19 := ⟨by decide +kernel, rfl⟩
theorem dM_comes_19 : Dc mM_comes 19 (.iload_n 3) 1 20 := ⟨by decide +kernel, rfl⟩
theorem dM_comes_20 : Dc mM_comes 20 (.iconst 1) 1 21 := ⟨by decide +kernel, rfl⟩
theorem dM_comes_21 : Dc mM_comes 21 .isub 1 22 := ⟨by decide +kernel, rfl⟩
theorem dM_comes_22 : Dc mM_comes 22 .iaload 1 23 := ⟨by decide +kernel, rfl⟩
theorem dM_comes_23 : Dc mM_comes 23 .iastore 1 24 := ⟨by decide +kernel, rfl⟩
theorem dM_comes_24 : Dc mM_comes 24 (.iinc 3 (-1)) 3 27 := ⟨by decide +kernel, rfl⟩
theorem dM_comes_27 : Db mM_comes 27 .goto 5 30 := ⟨(-22), by decide +kernel, by decide, rfl⟩
theorem dM_comes_30 : Dc mM_comes 30 (.aload_n 0) 1 31 := ⟨by decide +kernel, rfl⟩
theorem dM_comes_31 : Dc mM_comes 31 (.getfield 52) 3 34 := ⟨by decide +kernel, rfl⟩
theorem dM_comes_34 : Dc mM_comes 34 (.iload_n 2) 1 35 := ⟨by decide +kernel, rfl⟩
theorem dM_comes_35 : Dc mM_comes 35 (.iload_n 1) 1 36 := ⟨by decide +kernel, rfl⟩
theorem dM_comes_36 : Dc mM_comes 36 .iastore 1 37 := ⟨by decide +kernel, rfl⟩
theorem dM_comes_37 : Dc mM_comes 37 (.aload_n 0) 1 38 := ⟨by decide +kernel, rfl⟩
theorem dM_comes_38 : Dc mM_comes 38 .dup 1 39 := ⟨by decide +kernel, rfl⟩
theorem dM_comes_39 : Dc mM_comes 39 (.getfield 157) 3 42 := ⟨by decide +kernel, rfl⟩
theorem dM_comes_42 : Dc mM_comes 42 (.iconst 1) 1 43 := ⟨by decide +kernel, rfl⟩
theorem dM_comes_43 : Dc mM_comes 43 .iadd 1 44 := ⟨by decide +kernel, rfl⟩
theorem dM_comes_44 : Dc mM_comes 44 (.putfield 157) 3 47 := ⟨by decide +kernel, rfl⟩
theorem dM_comes_47 : Dc mM_comes 47 .return_ 1 48 := ⟨by decide +kernel, rfl⟩
theorem dM_nextOrder_0 : Dc mM_nextOrder 0 (.bipush (-4)) 2 2 := ⟨by decide +kernel, rfl⟩
theorem dM_nextOrder_2 : Dc mM_nextOrder 2 (.istore_n 3) 1 3 := ⟨by decide +kernel, rfl⟩
theorem dM_nextOrder_3 : Dc mM_nextOrder 3 (.iconst 0) 1 4 := ⟨by decide +kernel, rfl⟩
theorem dM_nextOrder_4 : Dc mM_nextOrder 4 (.istore 4) 2 6 := ⟨by decide +kernel, rfl⟩
theorem dM_nextOrder_6 : Dc mM_nextOrder 6 (.iload 4) 2 8 := ⟨by decide +kernel, rfl⟩
theorem dM_nextOrder_8 : Dc mM_nextOrder 8 (.aload_n 0) 1 9 := ⟨by decide +kernel, rfl⟩
theorem dM_nextOrder_9 : Dc mM_nextOrder 9 (.getfield 138) 3 12 := ⟨by decide +kernel, rfl⟩
theorem dM_nextOrder_12 : Db mM_nextOrder 12 (.if_icmp .ge) 80 15 := ⟨68, by decide +kernel, by decide, rfl⟩
theorem dM_nextOrder_15 : Dc mM_nextOrder 15 (.aload_n 0) 1 16 := ⟨by decide +kernel, rfl⟩
theorem dM_nextOrder_16 : Dc mM_nextOrder 16 (.getfield 25) 3 19 := ⟨by decide +kernel, rfl⟩
theorem dM_nextOrder_19 : Dc mM_nextOrder 19 (.iload 4) 2 21 := ⟨by decide +kernel, rfl⟩
theorem dM_nextOrder_21 : Dc mM_nextOrder 21 .iaload 1 22 := ⟨by decide +kernel, rfl⟩
theorem dM_nextOrder_22 : Dc mM_nextOrder 22 (.iload_n 1) 1 23 := ⟨by decide +kernel, rfl⟩
theorem dM_nextOrder_23 : Db mM_nextOrder 23 (.if_icmp .ne) 74 26 := ⟨51, by decide +kernel, by decide, rfl⟩
theorem dM_nextOrder_26 : Dc mM_nextOrder 26 (.aload_n 0) 1 27 := ⟨by decide +kernel, rfl⟩
theorem dM_nextOrder_27 : Dc mM_nextOrder 27 (.getfield 43) 3 30 := ⟨by decide +kernel, rfl⟩
theorem dM_nextOrder_30 : Dc mM_nextOrder 30 (.iload 4) 2 32 := ⟨by decide +kernel, rfl⟩
theorem dM_nextOrder_32 : Dc mM_nextOrder 32 .iaload 1 33 := ⟨by decide +kernel, rfl⟩
theorem dM_nextOrder_33 : Dc mM_nextOrder 33 (.bipush (-4)) 2 35 := ⟨by decide +kernel, rfl⟩
theorem dM_nextOrder_35 : Db mM_nextOrder 35 (.if_icmp .eq) 74 38 := ⟨39, by decide +kernel, by decide, rfl⟩
theorem dM_nextOrder_38 : Dc mM_nextOrder 38 (.aload_n 0) 1 39 := ⟨by decide +kernel, rfl⟩
theorem dM_nextOrder_39 : Dc mM_nextOrder 39 (.getfield 49) 3 42 := ⟨by decide +kernel, rfl⟩
theorem dM_nextOrder_42 : Dc mM_nextOrder 42 (.iload 4) 2 44 := ⟨by decide +kernel, rfl⟩
theorem dM_nextOrder_44 : Dc mM_nextOrder 44 .iaload 1 45 := ⟨by decide +kernel, rfl⟩
theorem dM_nextOrder_45 : Dc mM_nextOrder 45 (.iload_n 2) 1 46 := ⟨by decide +kernel, rfl⟩
theorem dM_nextOrder_46 : Db mM_nextOrder 46 (.if_icmp .le) 74 49 := ⟨28, by decide +kernel, by decide, rfl⟩
theorem dM_nextOrder_49 : Dc mM_nextOrder 49 (.iload_n 3) 1 50 := ⟨by decide +kernel, rfl⟩
theorem dM_nextOrder_50 : Dc mM_nextOrder 50 (.bipush (-4)) 2 52 := ⟨by decide +kernel, rfl⟩
theorem dM_nextOrder_52 : Db mM_nextOrder 52 (.if_icmp .eq) 71 55 := ⟨19, by decide +kernel, by decide, rfl⟩
theorem dM_nextOrder_55 : Dc mM_nextOrder 55 (.aload_n 0) 1 56 := ⟨by decide +kernel, rfl⟩
theorem dM_nextOrder_56 : Dc mM_nextOrder 56 (.getfield 49) 3 59 := ⟨by decide +kernel, rfl⟩
theorem dM_nextOrder_59 : Dc mM_nextOrder 59 (.iload 4) 2 61 := ⟨by decide +kernel, rfl⟩
theorem dM_nextOrder_61 : Dc mM_nextOrder 61 .iaload 1 62 := ⟨by decide +kernel, rfl⟩
theorem dM_nextOrder_62 : Dc mM_nextOrder 62 (.aload_n 0) 1 63 := ⟨by decide +kernel, rfl⟩
theorem dM_nextOrder_63 : Dc mM_nextOrder 63 (.getfield 49) 3 66 := ⟨by decide +kernel, rfl⟩
theorem dM_nextOrder_66 : Dc mM_nextOrder 66 (.iload_n 3) 1 67 := ⟨by decide +kernel, rfl⟩
theorem dM_nextOrder_67 : Dc mM_nextOrder 67 .iaload 1 68 := ⟨by decide +kernel, rfl⟩
theorem dM_nextOrder_68 : Db mM_nextOrder 68 (.if_icmp .ge) 74 71 := ⟨6, by decide +kernel, by decide, rfl⟩
theorem dM_nextOrder_71 : Dc mM_nextOrder 71 (.iload 4) 2 73 := ⟨by decide +kernel, rfl⟩
theorem dM_nextOrder_73 : Dc mM_nextOrder 73 (.istore_n 3) 1 74 := ⟨by decide +kernel, rfl⟩
theorem dM_nextOrder_74 : Dc mM_nextOrder 74 (.iinc 4 1) 3 77 := ⟨by decide +kernel, rfl⟩
theorem dM_nextOrder_77 : Db mM_nextOrder 77 .goto 6 80 := ⟨(-71), by decide +kernel, by decide, rfl⟩
theorem dM_nextOrder_80 : Dc mM_nextOrder 80 (.iload_n 3) 1 81 := ⟨by decide +kernel, rfl⟩
theorem dM_nextOrder_81 : Dc mM_nextOrder 81 .ireturn 1 82 := ⟨by decide +kernel, rfl⟩
theorem dM_moves_0 : Dc mM_moves 0 (.aload_n 0) 1 1 := ⟨by decide +kernel, rfl⟩
theorem dM_moves_1 : Dc mM_moves 1 (.iload_n 1) 1 2 := ⟨by decide +kernel, rfl⟩
theorem dM_moves_2 : Dc mM_moves 2 (.invokevirtual 175) 3 5 := ⟨by decide +kernel, rfl⟩
theorem dM_moves_5 : Dc mM_moves 5 (.istore_n 2) 1 6 := ⟨by decide +kernel, rfl⟩
theorem dM_moves_6 : Dc mM_moves 6 (.aload_n 0) 1 7 := ⟨by decide +kernel, rfl⟩
theorem dM_moves_7 : Dc mM_moves 7 (.getfield 43) 3 10 := ⟨by decide +kernel, rfl⟩
theorem dM_moves_10 : Dc mM_moves 10 (.iload_n 1) 1 11 := ⟨by decide +kernel, rfl⟩
theorem dM_moves_11 : Dc mM_moves 11 .iaload 1 12 := ⟨by decide +kernel, rfl⟩
theorem dM_moves_12 : Dc mM_moves 12 (.istore_n 3) 1 13 := ⟨by decide +kernel, rfl⟩
theorem dM_moves_13 : Dc mM_moves 13 (.iload_n 3) 1 14 := ⟨by decide +kernel, rfl⟩
theorem dM_moves_14 : Dc mM_moves 14 (.iconst 2) 1 15 := ⟨by decide +kernel, rfl⟩
theorem dM_moves_15 : Dc mM_moves 15 (.iconst 4) 1 16 := ⟨by decide +kernel, rfl⟩
theorem dM_moves_16 : Dc mM_moves 16 (.invokestatic 117) 3 19 := ⟨by decide +kernel, rfl⟩
theorem dM_moves_19 : Dc mM_moves 19 (.istore 4) 2 21 := ⟨by decide +kernel, rfl⟩
theorem dM_moves_21 : Dc mM_moves 21 (.iload_n 2) 1 22 := ⟨by decide +kernel, rfl⟩
theorem dM_moves_22 : Dc mM_moves 22 (.bipush (-4)) 2 24 := ⟨by decide +kernel, rfl⟩
theorem dM_moves_24 : Db mM_moves 24 (.if_icmp .eq) 47 27 := ⟨23, by decide +kernel, by decide, rfl⟩
theorem dM_moves_27 : Dc mM_moves 27 (.iload 4) 2 29 := ⟨by decide +kernel, rfl⟩
theorem dM_moves_29 : Db mM_moves 29 (.ifCond .eq) 48 32 := ⟨19, by decide +kernel, by decide, rfl⟩
theorem dM_moves_32 : Dc mM_moves 32 (.aload_n 0) 1 33 := ⟨by decide +kernel, rfl⟩
theorem dM_moves_33 : Dc mM_moves 33 (.aload_n 0) 1 34 := ⟨by decide +kernel, rfl⟩
theorem dM_moves_34 : Dc mM_moves 34 (.getfield 46) 3 37 := ⟨by decide +kernel, rfl⟩
theorem dM_moves_37 : Dc mM_moves 37 (.iload_n 1) 1 38 := ⟨by decide +kernel, rfl⟩
theorem dM_moves_38 : Dc mM_moves 38 .iaload 1 39 := ⟨by decide +kernel, rfl⟩
theorem dM_moves_39 : Dc mM_moves 39 (.invokevirtual 175) 3 42 := ⟨by decide +kernel, rfl⟩
theorem dM_moves_42 : Dc mM_moves 42 (.bipush (-4)) 2 44 := ⟨by decide +kernel, rfl⟩
theorem dM_moves_44 : Db mM_moves 44 (.if_icmp .ne) 48 47 := ⟨4, by decide +kernel, by decide, rfl⟩
theorem dM_moves_47 : Dc mM_moves 47 .return_ 1 48 := ⟨by decide +kernel, rfl⟩
theorem dM_moves_48 : Dc mM_moves 48 (.aload_n 0) 1 49 := ⟨by decide +kernel, rfl⟩
theorem dM_moves_49 : Dc mM_moves 49 (.iload_n 2) 1 50 := ⟨by decide +kernel, rfl⟩
theorem dM_moves_50 : Dc mM_moves 50 (.invokevirtual 178) 3 53 := ⟨by decide +kernel, rfl⟩
theorem dM_moves_53 : Dc mM_moves 53 (.iload 4) 2 55 := ⟨by decide +kernel, rfl⟩
theorem dM_moves_55 : Db mM_moves 55 (.ifCond .eq) 71 58 := ⟨16, by decide +kernel, by decide, rfl⟩
theorem dM_moves_58 : Dc mM_moves 58 (.aload_n 0) 1 59 := ⟨by decide +kernel, rfl⟩
theorem dM_moves_59 : Dc mM_moves 59 (.aload_n 0) 1 60 := ⟨by decide +kernel, rfl⟩
theorem dM_moves_60 : Dc mM_moves 60 (.getfield 46) 3 63 := ⟨by decide +kernel, rfl⟩
theorem dM_moves_63 : Dc mM_moves 63 (.iload_n 1) 1 64 := ⟨by decide +kernel, rfl⟩
theorem dM_moves_64 : Dc mM_moves 64 .iaload 1 65 := ⟨by decide +kernel, rfl⟩
theorem dM_moves_65 : Dc mM_moves 65 (.invokevirtual 175) 3 68 := ⟨by decide +kernel, rfl⟩
theorem dM_moves_68 : Db mM_moves 68 .goto 72 71 := ⟨4, by decide +kernel, by decide, rfl⟩
theorem dM_moves_71 : Dc mM_moves 71 (.iconst 0) 1 72 := ⟨by decide +kernel, rfl⟩
theorem dM_moves_72 : Dc mM_moves 72 (.istore 5) 2 74 := ⟨by decide +kernel, rfl⟩
theorem dM_moves_74 : Dc mM_moves 74 (.iload_n 3) 1 75 := ⟨by decide +kernel, rfl⟩
theorem dM_moves_75 : Dc mM_moves 75 (.iconst 4) 1 76 := ⟨by decide +kernel, rfl⟩
theorem dM_moves_76 : Db mM_moves 76 (.if_icmp .ne) 85 79 := ⟨9, by decide +kernel, by decide, rfl⟩
theorem dM_moves_79 : Dc mM_moves 79 (.aload_n 0) 1 80 := ⟨by decide +kernel, rfl⟩
theorem dM_moves_80 : Dc mM_moves 80 (.iload 5) 2 82 := ⟨by decide +kernel, rfl⟩
theorem dM_moves_82 : Dc mM_moves 82 (.invokevirtual 178) 3 85 := ⟨by decide +kernel, rfl⟩
theorem dM_moves_85 : Dc mM_moves 85 (.iload_n 3) 1 86 := ⟨by decide +kernel, rfl⟩
theorem dM_moves_86 : Dc mM_moves 86 (.iconst 5) 1 87 := ⟨by decide +kernel, rfl⟩
theorem dM_moves_87 : Db mM_moves 87 (.if_icmp .eq) 129 90 := ⟨42, by decide +kernel, by decide, rfl⟩
theorem dM_moves_90 : Dc mM_moves 90 (.aload_n 0) 1 91 := ⟨by decide +kernel, rfl⟩
theorem dM_moves_91 : Dc mM_moves 91 (.iload_n 1) 1 92 := ⟨by decide +kernel, rfl⟩
theorem dM_moves_92 : Dc mM_moves 92 (.iload_n 3) 1 93 := ⟨by decide +kernel, rfl⟩
theorem dM_moves_93 : Db mM_moves 93 (.ifCond .ne) 100 96 := ⟨7, by decide +kernel, by decide, rfl⟩
theorem dM_moves_96 : Dc mM_moves 96 (.iconst 0) 1 97 := ⟨by decide +kernel, rfl⟩
theorem dM_moves_97 : Db mM_moves 97 .goto 126 100 := ⟨29, by decide +kernel, by decide, rfl⟩
theorem dM_moves_100 : Dc mM_moves 100 (.iload_n 3) 1 101 := ⟨by decide +kernel, rfl⟩
theorem dM_moves_101 : Dc mM_moves 101 (.iconst 1) 1 102 := ⟨by decide +kernel, rfl⟩
theorem dM_moves_102 : Db mM_moves 102 (.if_icmp .ne) 112 105 := ⟨10, by decide +kernel, by decide, rfl⟩
theorem dM_moves_105 : Dc mM_moves 105 (.aload_n 0) 1 106 := ⟨by decide +kernel, rfl⟩
theorem dM_moves_106 : Dc mM_moves 106 (.getfield 157) 3 109 := ⟨by decide +kernel, rfl⟩
theorem dM_moves_109 : Db mM_moves 109 .goto 126 112 := ⟨17, by decide +kernel, by decide, rfl⟩
theorem dM_moves_112 : Dc mM_moves 112 (.iload_n 3) 1 113 := ⟨by decide +kernel, rfl⟩
theorem dM_moves_113 : Dc mM_moves 113 (.iconst 3) 1 114 := ⟨by decide +kernel, rfl⟩
theorem dM_moves_114 : Db mM_moves 114 (.if_icmp .ne) 124 117 := ⟨10, by decide +kernel, by decide, rfl⟩
theorem dM_moves_117 : Dc mM_moves 117 (.iload 5) 2 119 := ⟨by decide +kernel, rfl⟩
theorem dM_moves_119 : Dc mM_moves 119 (.iconst 1) 1 120 := ⟨by decide +kernel, rfl⟩
theorem dM_moves_120 : Dc mM_moves 120 .iadd 1 121 := ⟨by decide +kernel, rfl⟩
theorem dM_moves_121 : Db mM_moves 121 .goto 126 124 := ⟨5, by decide +kernel, by decide, rfl⟩
theorem dM_moves_124 : Dc mM_moves 124 (.iload 5) 2 126 := ⟨by decide +kernel, rfl⟩
theorem dM_moves_126 : Dc mM_moves 126 (.invokevirtual 163) 3 129 := ⟨by decide +kernel, rfl⟩
theorem dM_moves_129 : Dc mM_moves 129 .return_ 1 130 := ⟨by decide +kernel, rfl⟩
theorem dM_placeOf_0 : Dc mM_placeOf 0 (.iconst 0) 1 1 := ⟨by decide +kernel, rfl⟩
theorem dM_placeOf_1 : Dc mM_placeOf 1 (.istore_n 2) 1 2 := ⟨by decide +kernel, rfl⟩
theorem dM_placeOf_2 : Dc mM_placeOf 2 (.iload_n 2) 1 3 := ⟨by decide +kernel, rfl⟩
theorem dM_placeOf_3 : Dc mM_placeOf 3 (.aload_n 0) 1 4 := ⟨by decide +kernel, rfl⟩
theorem dM_placeOf_4 : Dc mM_placeOf 4 (.getfield 157) 3 7 := ⟨by decide +kernel, rfl⟩
theorem dM_placeOf_7 : Db mM_placeOf 7 (.if_icmp .ge) 28 10 := ⟨21, by decide +kernel, by decide, rfl⟩
theorem dM_placeOf_10 : Dc mM_placeOf 10 (.aload_n 0) 1 11 := ⟨by decide +kernel, rfl⟩
theorem dM_placeOf_11 : Dc mM_placeOf 11 (.getfield 52) 3 14 := ⟨by decide +kernel, rfl⟩
theorem dM_placeOf_14 : Dc mM_placeOf 14 (.iload_n 2) 1 15 := ⟨by decide +kernel, rfl⟩
theorem dM_placeOf_15 : Dc mM_placeOf 15 .iaload 1 16 := ⟨by decide +kernel, rfl⟩
theorem dM_placeOf_16 : Dc mM_placeOf 16 (.iload_n 1) 1 17 := ⟨by decide +kernel, rfl⟩
theorem dM_placeOf_17 : Db mM_placeOf 17 (.if_icmp .ne) 22 20 := ⟨5, by decide +kernel, by decide, rfl⟩
theorem dM_placeOf_20 : Dc mM_placeOf 20 (.iload_n 2) 1 21 := ⟨by decide +kernel, rfl⟩
theorem dM_placeOf_21 : Dc mM_placeOf 21 .ireturn 1 22 := ⟨by decide +kernel, rfl⟩
theorem dM_placeOf_22 : Dc mM_placeOf 22 (.iinc 2 1) 3 25 := ⟨by decide +kernel, rfl⟩
theorem dM_placeOf_25 : Db mM_placeOf 25 .goto 2 28 := ⟨(-23), by decide +kernel, by decide, rfl⟩
theorem dM_placeOf_28 : Dc mM_placeOf 28 (.bipush (-4)) 2 30 := ⟨by decide +kernel, rfl⟩
theorem dM_placeOf_30 : Dc mM_placeOf 30 .ireturn 1 31 := ⟨by decide +kernel, rfl⟩
theorem dM_goes_0 : Dc mM_goes 0 (.aload_n 0) 1 1 := ⟨by decide +kernel, rfl⟩
theorem dM_goes_1 : Dc mM_goes 1 .dup 1 2 := ⟨by decide +kernel, rfl⟩
theorem dM_goes_2 : Dc mM_goes 2 (.getfield 157) 3 5 := ⟨by decide +kernel, rfl⟩
theorem dM_goes_5 : Dc mM_goes 5 (.iconst 1) 1 6 := ⟨by decide +kernel, rfl⟩
theorem dM_goes_6 : Dc mM_goes 6 .isub 1 7 := ⟨by decide +kernel, rfl⟩
theorem dM_goes_7 : Dc mM_goes 7 (.putfield 157) 3 10 := ⟨by decide +kernel, rfl⟩
theorem dM_goes_10 : Dc mM_goes 10 (.iload_n 1) 1 11 := ⟨by decide +kernel, rfl⟩
theorem dM_goes_11 : Dc mM_goes 11 (.istore_n 2) 1 12 := ⟨by decide +kernel, rfl⟩
theorem dM_goes_12 : Dc mM_goes 12 (.iload_n 2) 1 13 := ⟨by decide +kernel, rfl⟩
theorem dM_goes_13 : Dc mM_goes 13 (.aload_n 0) 1 14 := ⟨by decide +kernel, rfl⟩
theorem dM_goes_14 : Dc mM_goes 14 (.getfield 157) 3 17 := ⟨by decide +kernel, rfl⟩
theorem dM_goes_17 : Db mM_goes 17 (.if_icmp .ge) 40 20 := ⟨23, by decide +kernel, by decide, rfl⟩
theorem dM_goes_20 : Dc mM_goes 20 (.aload_n 0) 1 21 := ⟨by decide +kernel, rfl⟩
theorem dM_goes_21 : Dc mM_goes 21 (.getfield 52) 3 24 := ⟨by decide +kernel, rfl⟩
theorem dM_goes_24 : Dc mM_goes 24 (.iload_n 2) 1 25 := ⟨by decide +kernel, rfl⟩
theorem dM_goes_25 : Dc mM_goes 25 (.aload_n 0) 1 26 := ⟨by decide +kernel, rfl⟩
theorem dM_goes_26 : Dc mM_goes 26 (.getfield 52) 3 29 := ⟨by decide +kernel, rfl⟩
theorem dM_goes_29 : Dc mM_goes 29 (.iload_n 2) 1 30 := ⟨by decide +kernel, rfl⟩
theorem dM_goes_30 : Dc mM_goes 30 (.iconst 1) 1 31 := ⟨by decide +kernel, rfl⟩
theorem dM_goes_31 : Dc mM_goes 31 .iadd 1 32 := ⟨by decide +kernel, rfl⟩
theorem dM_goes_32 : Dc mM_goes 32 .iaload 1 33 := ⟨by decide +kernel, rfl⟩
theorem dM_goes_33 : Dc mM_goes 33 .iastore 1 34 := ⟨by decide +kernel, rfl⟩
theorem dM_goes_34 : Dc mM_goes 34 (.iinc 2 1) 3 37 := ⟨by decide +kernel, rfl⟩
theorem dM_goes_37 : Db mM_goes 37 .goto 12 40 := ⟨(-25), by decide +kernel, by decide, rfl⟩
theorem dM_goes_40 : Dc mM_goes 40 .return_ 1 41 := ⟨by decide +kernel, rfl⟩
theorem dM_run_0 : Dc mM_run 0 (.aload_n 0) 1 1 := ⟨by decide +kernel, rfl⟩
theorem dM_run_1 : Dc mM_run 1 (.iload_n 1) 1 2 := ⟨by decide +kernel, rfl⟩
theorem dM_run_2 : Dc mM_run 2 (.invokevirtual 135) 3 5 := ⟨by decide +kernel, rfl⟩
theorem dM_run_5 : Db mM_run 5 (.ifCond .eq) 16 8 := ⟨11, by decide +kernel, by decide, rfl⟩
theorem dM_run_8 : Dc mM_run 8 (.aload_n 0) 1 9 := ⟨by decide +kernel, rfl⟩
theorem dM_run_9 : Dc mM_run 9 (.iload_n 2) 1 10 := ⟨by decide +kernel, rfl⟩
theorem dM_run_10 : Dc mM_run 10 (.invokevirtual 128) 3 13 := ⟨by decide +kernel, rfl⟩
theorem dM_run_13 : Db mM_run 13 (.ifCond .ne) 18 16 := ⟨5, by decide +kernel, by decide, rfl⟩
theorem dM_run_16 : Dc mM_run 16 (.iconst (-1)) 1 17 := ⟨by decide +kernel, rfl⟩
theorem dM_run_17 : Dc mM_run 17 .ireturn 1 18 := ⟨by decide +kernel, rfl⟩
theorem dM_run_18 : Dc mM_run 18 (.aload_n 0) 1 19 := ⟨by decide +kernel, rfl⟩
theorem dM_run_19 : Dc mM_run 19 (.iconst 1) 1 20 := ⟨by decide +kernel, rfl⟩
theorem dM_run_20 : Dc mM_run 20 (.putfield 187) 3 23 := ⟨by decide +kernel, rfl⟩
theorem dM_run_23 : Dc mM_run 23 (.aload_n 0) 1 24 := ⟨by decide +kernel, rfl⟩
theorem dM_run_24 : Dc mM_run 24 (.iload_n 1) 1 25 := ⟨by decide +kernel, rfl⟩
theorem dM_run_25 : Dc mM_run 25 (.iload_n 2) 1 26 := ⟨by decide +kernel, rfl⟩
theorem dM_run_26 : Dc mM_run 26 (.invokevirtual 218) 3 29 := ⟨by decide +kernel, rfl⟩
theorem dM_run_29 : Dc mM_run 29 .ireturn 1 30 := ⟨by decide +kernel, rfl⟩
theorem dM_answer_0 : Dc mM_answer 0 (.aload_n 0) 1 1 := ⟨by decide +kernel, rfl⟩
theorem dM_answer_1 : Dc mM_answer 1 (.iload_n 1) 1 2 := ⟨by decide +kernel, rfl⟩
theorem dM_answer_2 : Dc mM_answer 2 (.iload_n 2) 1 3 := ⟨by decide +kernel, rfl⟩
theorem dM_answer_3 : Dc mM_answer 3 (.invokevirtual 221) 3 6 := ⟨by decide +kernel, rfl⟩
theorem dM_answer_6 : Dc mM_answer 6 (.istore_n 3) 1 7 := ⟨by decide +kernel, rfl⟩
theorem dM_answer_7 : Dc mM_answer 7 (.aload_n 0) 1 8 := ⟨by decide +kernel, rfl⟩
theorem dM_answer_8 : Dc mM_answer 8 (.getfield 194) 3 11 := ⟨by decide +kernel, rfl⟩
theorem dM_answer_11 : Db mM_answer 11 (.ifCond .eq) 24 14 := ⟨13, by decide +kernel, by decide, rfl⟩
theorem dM_answer_14 : Dc mM_answer 14 (.bipush (-10)) 2 16 := ⟨by decide +kernel, rfl⟩
theorem dM_answer_16 : Dc mM_answer 16 (.aload_n 0) 1 17 := ⟨by decide +kernel, rfl⟩
theorem dM_answer_17 : Dc mM_answer 17 (.getfield 211) 3 20 := ⟨by decide +kernel, rfl⟩
theorem dM_answer_20 : Dc mM_answer 20 .isub 1 21 := ⟨by decide +kernel, rfl⟩
theorem dM_answer_21 : Db mM_answer 21 .goto 38 24 := ⟨17, by decide +kernel, by decide, rfl⟩
theorem dM_answer_24 : Dc mM_answer 24 (.iload_n 3) 1 25 := ⟨by decide +kernel, rfl⟩
theorem dM_answer_25 : Db mM_answer 25 (.ifCond .eq) 32 28 := ⟨7, by decide +kernel, by decide, rfl⟩
theorem dM_answer_28 : Dc mM_answer 28 (.iload_n 3) 1 29 := ⟨by decide +kernel, rfl⟩
theorem dM_answer_29 : Db mM_answer 29 .goto 38 32 := ⟨9, by decide +kernel, by decide, rfl⟩
theorem dM_answer_32 : Dc mM_answer 32 (.aload_n 0) 1 33 := ⟨by decide +kernel, rfl⟩
theorem dM_answer_33 : Dc mM_answer 33 (.getfield 19) 3 36 := ⟨by decide +kernel, rfl⟩
theorem dM_answer_36 : Dc mM_answer 36 (.iload_n 1) 1 37 := ⟨by decide +kernel, rfl⟩
theorem dM_answer_37 : Dc mM_answer 37 .iaload 1 38 := ⟨by decide +kernel, rfl⟩
theorem dM_answer_38 : Dc mM_answer 38 .ireturn 1 39 := ⟨by decide +kernel, rfl⟩
theorem dM_runs_0 : Dc mM_runs 0 (.aload_n 0) 1 1 := ⟨by decide +kernel, rfl⟩
theorem dM_runs_1 : Dc mM_runs 1 (.getfield 187) 3 4 := ⟨by decide +kernel, rfl⟩
theorem dM_runs_4 : Db mM_runs 4 (.ifCond .eq) 22 7 := ⟨18, by decide +kernel, by decide, rfl⟩
theorem dM_runs_7 : Dc mM_runs 7 (.aload_n 0) 1 8 := ⟨by decide +kernel, rfl⟩
theorem dM_runs_8 : Dc mM_runs 8 (.iconst 0) 1 9 := ⟨by decide +kernel, rfl⟩
theorem dM_runs_9 : Dc mM_runs 9 (.putfield 191) 3 12 := ⟨by decide +kernel, rfl⟩
theorem dM_runs_12 : Dc mM_runs 12 (.aload_n 0) 1 13 := ⟨by decide +kernel, rfl⟩
theorem dM_runs_13 : Dc mM_runs 13 (.iconst 0) 1 14 := ⟨by decide +kernel, rfl⟩
theorem dM_runs_14 : Dc mM_runs 14 (.putfield 194) 3 17 := ⟨by decide +kernel, rfl⟩
theorem dM_runs_17 : Dc mM_runs 17 (.aload_n 0) 1 18 := ⟨by decide +kernel, rfl⟩
theorem dM_runs_18 : Dc mM_runs 18 (.iconst 0) 1 19 := ⟨by decide +kernel, rfl⟩
theorem dM_runs_19 : Dc mM_runs 19 (.putfield 187) 3 22 := ⟨by decide +kernel, rfl⟩
theorem dM_runs_22 : Dc mM_runs 22 (.aload_n 0) 1 23 := ⟨by decide +kernel, rfl⟩
theorem dM_runs_23 : Dc mM_runs 23 (.iconst 0) 1 24 := ⟨by decide +kernel, rfl⟩
theorem dM_runs_24 : Dc mM_runs 24 (.putfield 184) 3 27 := ⟨by decide +kernel, rfl⟩
theorem dM_runs_27 : Dc mM_runs 27 (.aload_n 0) 1 28 := ⟨by decide +kernel, rfl⟩
theorem dM_runs_28 : Dc mM_runs 28 (.iload_n 1) 1 29 := ⟨by decide +kernel, rfl⟩
theorem dM_runs_29 : Dc mM_runs 29 (.iconst 0) 1 30 := ⟨by decide +kernel, rfl⟩
theorem dM_runs_30 : Dc mM_runs 30 (.invokevirtual 197) 3 33 := ⟨by decide +kernel, rfl⟩
theorem dM_runs_33 : Dc mM_runs 33 (.iconst 0) 1 34 := ⟨by decide +kernel, rfl⟩
theorem dM_runs_34 : Dc mM_runs 34 (.istore_n 3) 1 35 := ⟨by decide +kernel, rfl⟩
theorem dM_runs_35 : Dc mM_runs 35 (.aload_n 0) 1 36 := ⟨by decide +kernel, rfl⟩
theorem dM_runs_36 : Dc mM_runs 36 (.getfield 184) 3 39 := ⟨by decide +kernel, rfl⟩
theorem dM_runs_39 : Db mM_runs 39 (.ifCond .le) 272 42 := ⟨233, by decide +kernel, by decide, rfl⟩
theorem dM_runs_42 : Dc mM_runs 42 (.aload_n 0) 1 43 := ⟨by decide +kernel, rfl⟩
theorem dM_runs_43 : Dc mM_runs 43 (.getfield 184) 3 46 := ⟨by decide +kernel, rfl⟩
theorem dM_runs_46 : Dc mM_runs 46 (.iconst 1) 1 47 := ⟨by decide +kernel, rfl⟩
theorem dM_runs_47 : Dc mM_runs 47 .isub 1 48 := ⟨by decide +kernel, rfl⟩
theorem dM_runs_48 : Dc mM_runs 48 (.istore 4) 2 50 := ⟨by decide +kernel, rfl⟩
theorem dM_runs_50 : Dc mM_runs 50 (.iload_n 3) 1 51 := ⟨by decide +kernel, rfl⟩
theorem dM_runs_51 : Db mM_runs 51 (.ifCond .ne) 71 54 := ⟨20, by decide +kernel, by decide, rfl⟩
theorem dM_runs_54 : Dc mM_runs 54 (.aload_n 0) 1 55 := ⟨by decide +kernel, rfl⟩
theorem dM_runs_55 : Dc mM_runs 55 (.getfield 61) 3 58 := ⟨by decide +kernel, rfl⟩
theorem dM_runs_58 : Dc mM_runs 58 (.iload 4) 2 60 := ⟨by decide +kernel, rfl⟩
theorem dM_runs_60 : Dc mM_runs 60 .iaload 1 61 := ⟨by decide +kernel, rfl⟩
theorem dM_runs_61 : Dc mM_runs 61 (.aload_n 0) 1 62 := ⟨by decide +kernel, rfl⟩
theorem dM_runs_62 : Dc mM_runs 62 (.getfield 58) 3 65 := ⟨by decide +kernel, rfl⟩
theorem dM_runs_65 : Dc mM_runs 65 (.iload 4) 2 67 := ⟨by decide +kernel, rfl⟩
theorem dM_runs_67 : Dc mM_runs 67 .iaload 1 68 := ⟨by decide +kernel, rfl⟩
theorem dM_runs_68 : Db mM_runs 68 (.if_icmp .ne) 108 71 := ⟨40, by decide +kernel, by decide, rfl⟩
theorem dM_runs_71 : Dc mM_runs 71 (.aload_n 0) 1 72 := ⟨by decide +kernel, rfl⟩
theorem dM_runs_72 : Dc mM_runs 72 (.getfield 184) 3 75 := ⟨by decide +kernel, rfl⟩
theorem dM_runs_75 : Dc mM_runs 75 (.iconst 1) 1 76 := ⟨by decide +kernel, rfl⟩
theorem dM_runs_76 : Db mM_runs 76 (.if_icmp .le) 93 79 := ⟨17, by decide +kernel, by decide, rfl⟩
theorem dM_runs_79 : Dc mM_runs 79 (.aload_n 0) 1 80 := ⟨by decide +kernel, rfl⟩
theorem dM_runs_80 : Dc mM_runs 80 (.getfield 71) 3 83 := ⟨by decide +kernel, rfl⟩
theorem dM_runs_83 : Dc mM_runs 83 (.iload 4) 2 85 := ⟨by decide +kernel, rfl⟩
theorem dM_runs_85 : Dc mM_runs 85 .baload 1 86 := ⟨by decide +kernel, rfl⟩
theorem dM_runs_86 : Db mM_runs 86 (.ifCond .ne) 93 89 := ⟨7, by decide +kernel, by decide, rfl⟩
theorem dM_runs_89 : Dc mM_runs 89 (.iconst 0) 1 90 := ⟨by decide +kernel, rfl⟩
theorem dM_runs_90 : Db mM_runs 90 .goto 94 93 := ⟨4, by decide +kernel, by decide, rfl⟩
theorem dM_runs_93 : Dc mM_runs 93 (.iload_n 3) 1 94 := ⟨by decide +kernel, rfl⟩
theorem dM_runs_94 : Dc mM_runs 94 (.istore_n 3) 1 95 := ⟨by decide +kernel, rfl⟩
theorem dM_runs_95 : Dc mM_runs 95 (.aload_n 0) 1 96 := ⟨by decide +kernel, rfl⟩
theorem dM_runs_96 : Dc mM_runs 96 .dup 1 97 := ⟨by decide +kernel, rfl⟩
theorem dM_runs_97 : Dc mM_runs 97 (.getfield 184) 3 100 := ⟨by decide +kernel, rfl⟩
theorem dM_runs_100 : Dc mM_runs 100 (.iconst 1) 1 101 := ⟨by decide +kernel, rfl⟩
theorem dM_runs_101 : Dc mM_runs 101 .isub 1 102 := ⟨by decide +kernel, rfl⟩
theorem dM_runs_102 : Dc mM_runs 102 (.putfield 184) 3 105 := ⟨by decide +kernel, rfl⟩
theorem dM_runs_105 : Db mM_runs 105 .goto 35 108 := ⟨(-70), by decide +kernel, by decide, rfl⟩
theorem dM_runs_108 : Dc mM_runs 108 (.aload_n 0) 1 109 := ⟨by decide +kernel, rfl⟩
theorem dM_runs_109 : Dc mM_runs 109 (.getfield 55) 3 112 := ⟨by decide +kernel, rfl⟩
theorem dM_runs_112 : Dc mM_runs 112 (.bipush 60) 2 114 := ⟨by decide +kernel, rfl⟩
theorem dM_runs_114 : Dc mM_runs 114 (.iload 4) 2 116 := ⟨by decide +kernel, rfl⟩
theorem dM_runs_116 : Dc mM_runs 116 .imul 1 117 := ⟨by decide +kernel, rfl⟩
theorem dM_runs_117 : Dc mM_runs 117 (.aload_n 0) 1 118 := ⟨by decide +kernel, rfl⟩
theorem dM_runs_118 : Dc mM_runs 118 (.getfield 61) 3 121 := ⟨by decide +kernel, rfl⟩
theorem dM_runs_121 : Dc mM_runs 121 (.iload 4) 2 123 := ⟨by decide +kernel, rfl⟩
theorem dM_runs_123 : Dc mM_runs 123 .iaload 1 124 := ⟨by decide +kernel, rfl⟩
theorem dM_runs_124 : Dc mM_runs 124 .iadd 1 125 := ⟨by decide +kernel, rfl⟩
theorem dM_runs_125 : Dc mM_runs 125 .iaload 1 126 := ⟨by decide +kernel, rfl⟩
theorem dM_runs_126 : Dc mM_runs 126 (.istore 5) 2 128 := ⟨by decide +kernel, rfl⟩
theorem dM_runs_128 : Dc mM_runs 128 (.aload_n 0) 1 129 := ⟨by decide +kernel, rfl⟩
theorem dM_runs_129 : Dc mM_runs 129 (.getfield 61) 3 132 := ⟨by decide +kernel, rfl⟩
theorem dM_runs_132 : Dc mM_runs 132 (.iload 4) 2 134 := ⟨by decide +kernel, rfl⟩
theorem dM_runs_134 : Dc mM_runs 134 .dup2 1 135 := ⟨by decide +kernel, rfl⟩
theorem dM_runs_135 : Dc mM_runs 135 .iaload 1 136 := ⟨by decide +kernel, rfl⟩
theorem dM_runs_136 : Dc mM_runs 136 (.iconst 1) 1 137 := ⟨by decide +kernel, rfl⟩
theorem dM_runs_137 : Dc mM_runs 137 .iadd 1 138 := ⟨by decide +kernel, rfl⟩
theorem dM_runs_138 : Dc mM_runs 138 .iastore 1 139 := ⟨by decide +kernel, rfl⟩
theorem dM_runs_139 : Dc mM_runs 139 (.aload_n 0) 1 140 := ⟨by decide +kernel, rfl⟩
theorem dM_runs_140 : Dc mM_runs 140 (.getfield 191) 3 143 := ⟨by decide +kernel, rfl⟩
theorem dM_runs_143 : Dc mM_runs 143 (.sipush 300) 3 146 := ⟨by decide +kernel, rfl⟩
theorem dM_runs_146 : Db mM_runs 146 (.if_icmp .ne) 157 149 := ⟨11, by decide +kernel, by decide, rfl⟩
theorem dM_runs_149 : Dc mM_runs 149 (.aload_n 0) 1 150 := ⟨by decide +kernel, rfl⟩
theorem dM_runs_150 : Dc mM_runs 150 (.iconst 3) 1 151 := ⟨by decide +kernel, rfl⟩
theorem dM_runs_151 : Dc mM_runs 151 (.iload 5) 2 153 := ⟨by decide +kernel, rfl⟩
theorem dM_runs_153 : Dc mM_runs 153 (.invokevirtual 201) 3 156 := ⟨by decide +kernel, rfl⟩
theorem dM_runs_156 : Dc mM_runs 156 .ireturn 1 157 := ⟨by decide +kernel, rfl⟩
theorem dM_runs_157 : Dc mM_runs 157 (.aload_n 0) 1 158 := ⟨by decide +kernel, rfl⟩
theorem dM_runs_158 : Dc mM_runs 158 (.iload 5) 2 160 := ⟨by decide +kernel, rfl⟩
theorem dM_runs_160 : Dc mM_runs 160 (.iload_n 2) 1 161 := ⟨by decide +kernel, rfl⟩
theorem dM_runs_161 : Dc mM_runs 161 (.iload 4) 2 163 := ⟨by decide +kernel, rfl⟩
theorem dM_runs_163 : Dc mM_runs 163 (.invokevirtual 204) 3 166 := ⟨by decide +kernel, rfl⟩
theorem dM_runs_166 : Dc mM_runs 166 (.istore 6) 2 168 := ⟨by decide +kernel, rfl⟩
theorem dM_runs_168 : Dc mM_runs 168 (.aload_n 0) 1 169 := ⟨by decide +kernel, rfl⟩
theorem dM_runs_169 : Dc mM_runs 169 (.getfield 74) 3 172 := ⟨by decide +kernel, rfl⟩
theorem dM_runs_172 : Dc mM_runs 172 (.iconst 3) 1 173 := ⟨by decide +kernel, rfl⟩
theorem dM_runs_173 : Dc mM_runs 173 (.aload_n 0) 1 174 := ⟨by decide +kernel, rfl⟩
theorem dM_runs_174 : Dc mM_runs 174 (.getfield 191) 3 177 := ⟨by decide +kernel, rfl⟩
theorem dM_runs_177 : Dc mM_runs 177 .imul 1 178 := ⟨by decide +kernel, rfl⟩
theorem dM_runs_178 : Dc mM_runs 178 (.iload 5) 2 180 := ⟨by decide +kernel, rfl⟩
theorem dM_runs_180 : Dc mM_runs 180 .iastore 1 181 := ⟨by decide +kernel, rfl⟩
theorem dM_runs_181 : Dc mM_runs 181 (.aload_n 0) 1 182 := ⟨by decide +kernel, rfl⟩
theorem dM_runs_182 : Dc mM_runs 182 (.getfield 74) 3 185 := ⟨by decide +kernel, rfl⟩
theorem dM_runs_185 : Dc mM_runs 185 (.iconst 3) 1 186 := ⟨by decide +kernel, rfl⟩
theorem dM_runs_186 : Dc mM_runs 186 (.aload_n 0) 1 187 := ⟨by decide +kernel, rfl⟩
theorem dM_runs_187 : Dc mM_runs 187 (.getfield 191) 3 190 := ⟨by decide +kernel, rfl⟩
theorem dM_runs_190 : Dc mM_runs 190 .imul 1 191 := ⟨by decide +kernel, rfl⟩
theorem dM_runs_191 : Dc mM_runs 191 (.iconst 1) 1 192 := ⟨by decide +kernel, rfl⟩
theorem dM_runs_192 : Dc mM_runs 192 .iadd 1 193 := ⟨by decide +kernel, rfl⟩
theorem dM_runs_193 : Dc mM_runs 193 (.iload 6) 2 195 := ⟨by decide +kernel, rfl⟩
theorem dM_runs_195 : Db mM_runs 195 (.ifCond .eq) 202 198 := ⟨7, by decide +kernel, by decide, rfl⟩
theorem dM_runs_198 : Dc mM_runs 198 (.iconst 1) 1 199 := ⟨by decide +kernel, rfl⟩
theorem dM_runs_199 : Db mM_runs 199 .goto 203 202 := ⟨4, by decide +kernel, by decide, rfl⟩
theorem dM_runs_202 : Dc mM_runs 202 (.iconst 0) 1 203 := ⟨by decide +kernel, rfl⟩
theorem dM_runs_203 : Dc mM_runs 203 .iastore 1 204 := ⟨by decide +kernel, rfl⟩
theorem dM_runs_204 : Dc mM_runs 204 (.aload_n 0) 1 205 := ⟨by decide +kernel, rfl⟩
theorem dM_runs_205 : Dc mM_runs 205 (.getfield 74) 3 208 := ⟨by decide +kernel, rfl⟩
theorem dM_runs_208 : Dc mM_runs 208 (.iconst 3) 1 209 := ⟨by decide +kernel, rfl⟩
theorem dM_runs_209 : Dc mM_runs 209 (.aload_n 0) 1 210 := ⟨by decide +kernel, rfl⟩
theorem dM_runs_210 : Dc mM_runs 210 (.getfield 191) 3 213 := ⟨by decide +kernel, rfl⟩
theorem dM_runs_213 : Dc mM_runs 213 .imul 1 214 := ⟨by decide +kernel, rfl⟩
theorem dM_runs_214 : Dc mM_runs 214 (.iconst 2) 1 215 := ⟨by decide +kernel, rfl⟩
theorem dM_runs_215 : Dc mM_runs 215 .iadd 1 216 := ⟨by decide +kernel, rfl⟩
theorem dM_runs_216 : Dc mM_runs 216 (.aload_n 0) 1 217 := ⟨by decide +kernel, rfl⟩
theorem dM_runs_217 : Dc mM_runs 217 (.getfield 184) 3 220 := ⟨by decide +kernel, rfl⟩
theorem dM_runs_220 : Dc mM_runs 220 .iastore 1 221 := ⟨by decide +kernel, rfl⟩
theorem dM_runs_221 : Dc mM_runs 221 (.aload_n 0) 1 222 := ⟨by decide +kernel, rfl⟩
theorem dM_runs_222 : Dc mM_runs 222 .dup 1 223 := ⟨by decide +kernel, rfl⟩
theorem dM_runs_223 : Dc mM_runs 223 (.getfield 191) 3 226 := ⟨by decide +kernel, rfl⟩
theorem dM_runs_226 : Dc mM_runs 226 (.iconst 1) 1 227 := ⟨by decide +kernel, rfl⟩
theorem dM_runs_227 : Dc mM_runs 227 .iadd 1 228 := ⟨by decide +kernel, rfl⟩
theorem dM_runs_228 : Dc mM_runs 228 (.putfield 191) 3 231 := ⟨by decide +kernel, rfl⟩
theorem dM_runs_231 : Dc mM_runs 231 (.iload 6) 2 233 := ⟨by decide +kernel, rfl⟩
theorem dM_runs_233 : Db mM_runs 233 (.ifCond .eq) 269 236 := ⟨36, by decide +kernel, by decide, rfl⟩
theorem dM_runs_236 : Dc mM_runs 236 (.aload_n 0) 1 237 := ⟨by decide +kernel, rfl⟩
theorem dM_runs_237 : Dc mM_runs 237 (.getfield 67) 3 240 := ⟨by decide +kernel, rfl⟩
theorem dM_runs_240 : Dc mM_runs 240 (.bipush 60) 2 242 := ⟨by decide +kernel, rfl⟩
theorem dM_runs_242 : Dc mM_runs 242 (.iload 4) 2 244 := ⟨by decide +kernel, rfl⟩
theorem dM_runs_244 : Dc mM_runs 244 .imul 1 245 := ⟨by decide +kernel, rfl⟩
theorem dM_runs_245 : Dc mM_runs 245 (.iload 5) 2 247 := ⟨by decide +kernel, rfl⟩
theorem dM_runs_247 : Dc mM_runs 247 .iadd 1 248 := ⟨by decide +kernel, rfl⟩
theorem dM_runs_248 : Dc mM_runs 248 (.iconst 1) 1 249 := ⟨by decide +kernel, rfl⟩
theorem dM_runs_249 : Dc mM_runs 249 .bastore 1 250 := ⟨by decide +kernel, rfl⟩
theorem dM_runs_250 : Dc mM_runs 250 (.aload_n 0) 1 251 := ⟨by decide +kernel, rfl⟩
theorem dM_runs_251 : Dc mM_runs 251 (.iload 5) 2 253 := ⟨by decide +kernel, rfl⟩
theorem dM_runs_253 : Dc mM_runs 253 (.iload_n 2) 1 254 := ⟨by decide +kernel, rfl⟩
theorem dM_runs_254 : Dc mM_runs 254 (.iload 4) 2 256 := ⟨by decide +kernel, rfl⟩
theorem dM_runs_256 : Dc mM_runs 256 (.invokevirtual 207) 3 259 := ⟨by decide +kernel, rfl⟩
theorem dM_runs_259 : Dc mM_runs 259 (.istore_n 3) 1 260 := ⟨by decide +kernel, rfl⟩
theorem dM_runs_260 : Dc mM_runs 260 (.aload_n 0) 1 261 := ⟨by decide +kernel, rfl⟩
theorem dM_runs_261 : Dc mM_runs 261 (.getfield 194) 3 264 := ⟨by decide +kernel, rfl⟩
theorem dM_runs_264 : Db mM_runs 264 (.ifCond .eq) 269 267 := ⟨5, by decide +kernel, by decide, rfl⟩
theorem dM_runs_267 : Dc mM_runs 267 (.iconst 0) 1 268 := ⟨by decide +kernel, rfl⟩
theorem dM_runs_268 : Dc mM_runs 268 .ireturn 1 269 := ⟨by decide +kernel, rfl⟩
theorem dM_runs_269 : Db mM_runs 269 .goto 35 272 := ⟨(-234), by decide +kernel, by decide, rfl⟩
theorem dM_runs_272 : Dc mM_runs 272 (.iload_n 3) 1 273 := ⟨by decide +kernel, rfl⟩
theorem dM_runs_273 : Dc mM_runs 273 .ireturn 1 274 := ⟨by decide +kernel, rfl⟩
theorem dM_pushes_0 : Dc mM_pushes 0 (.aload_n 0) 1 1 := ⟨by decide +kernel, rfl⟩
theorem dM_pushes_1 : Dc mM_pushes 1 (.iload_n 1) 1 2 := ⟨by decide +kernel, rfl⟩
theorem dM_pushes_2 : Dc mM_pushes 2 (.invokevirtual 181) 3 5 := ⟨by decide +kernel, rfl⟩
theorem dM_pushes_5 : Dc mM_pushes 5 (.iconst 0) 1 6 := ⟨by decide +kernel, rfl⟩
theorem dM_pushes_6 : Dc mM_pushes 6 (.istore_n 3) 1 7 := ⟨by decide +kernel, rfl⟩
theorem dM_pushes_7 : Dc mM_pushes 7 (.iload_n 3) 1 8 := ⟨by decide +kernel, rfl⟩
theorem dM_pushes_8 : Dc mM_pushes 8 (.aload_n 0) 1 9 := ⟨by decide +kernel, rfl⟩
theorem dM_pushes_9 : Dc mM_pushes 9 (.getfield 157) 3 12 := ⟨by decide +kernel, rfl⟩
theorem dM_pushes_12 : Db mM_pushes 12 (.if_icmp .ge) 41 15 := ⟨29, by decide +kernel, by decide, rfl⟩
theorem dM_pushes_15 : Dc mM_pushes 15 (.aload_n 0) 1 16 := ⟨by decide +kernel, rfl⟩
theorem dM_pushes_16 : Dc mM_pushes 16 (.getfield 55) 3 19 := ⟨by decide +kernel, rfl⟩
theorem dM_pushes_19 : Dc mM_pushes 19 (.bipush 60) 2 21 := ⟨by decide +kernel, rfl⟩
theorem dM_pushes_21 : Dc mM_pushes 21 (.aload_n 0) 1 22 := ⟨by decide +kernel, rfl⟩
theorem dM_pushes_22 : Dc mM_pushes 22 (.getfield 184) 3 25 := ⟨by decide +kernel, rfl⟩
theorem dM_pushes_25 : Dc mM_pushes 25 .imul 1 26 := ⟨by decide +kernel, rfl⟩
theorem dM_pushes_26 : Dc mM_pushes 26 (.iload_n 3) 1 27 := ⟨by decide +kernel, rfl⟩
theorem dM_pushes_27 : Dc mM_pushes 27 .iadd 1 28 := ⟨by decide +kernel, rfl⟩
theorem dM_pushes_28 : Dc mM_pushes 28 (.aload_n 0) 1 29 := ⟨by decide +kernel, rfl⟩
theorem dM_pushes_29 : Dc mM_pushes 29 (.getfield 52) 3 32 := ⟨by decide +kernel, rfl⟩
theorem dM_pushes_32 : Dc mM_pushes 32 (.iload_n 3) 1 33 := ⟨by decide +kernel, rfl⟩
theorem dM_pushes_33 : Dc mM_pushes 33 .iaload 1 34 := ⟨by decide +kernel, rfl⟩
theorem dM_pushes_34 : Dc mM_pushes 34 .iastore 1 35 := ⟨by decide +kernel, rfl⟩
theorem dM_pushes_35 : Dc mM_pushes 35 (.iinc 3 1) 3 38 := ⟨by decide +kernel, rfl⟩
theorem dM_pushes_38 : Db mM_pushes 38 .goto 7 41 := ⟨(-31), by decide +kernel, by decide, rfl⟩
theorem dM_pushes_41 : Dc mM_pushes 41 (.aload_n 0) 1 42 := ⟨by decide +kernel, rfl⟩
theorem dM_pushes_42 : Dc mM_pushes 42 (.getfield 58) 3 45 := ⟨by decide +kernel, rfl⟩
theorem dM_pushes_45 : Dc mM_pushes 45 (.aload_n 0) 1 46 := ⟨by decide +kernel, rfl⟩
theorem dM_pushes_46 : Dc mM_pushes 46 (.getfield 184) 3 49 := ⟨by decide +kernel, rfl⟩
theorem dM_pushes_49 : Dc mM_pushes 49 (.aload_n 0) 1 50 := ⟨by decide +kernel, rfl⟩
theorem dM_pushes_50 : Dc mM_pushes 50 (.getfield 157) 3 53 := ⟨by decide +kernel, rfl⟩
theorem dM_pushes_53 : Dc mM_pushes 53 .iastore 1 54 := ⟨by decide +kernel, rfl⟩
theorem dM_pushes_54 : Dc mM_pushes 54 (.aload_n 0) 1 55 := ⟨by decide +kernel, rfl⟩
theorem dM_pushes_55 : Dc mM_pushes 55 (.getfield 61) 3 58 := ⟨by decide +kernel, rfl⟩
theorem dM_pushes_58 : Dc mM_pushes 58 (.aload_n 0) 1 59 := ⟨by decide +kernel, rfl⟩
theorem dM_pushes_59 : Dc mM_pushes 59 (.getfield 184) 3 62 := ⟨by decide +kernel, rfl⟩
theorem dM_pushes_62 : Dc mM_pushes 62 (.iconst 0) 1 63 := ⟨by decide +kernel, rfl⟩
theorem dM_pushes_63 : Dc mM_pushes 63 .iastore 1 64 := ⟨by decide +kernel, rfl⟩
theorem dM_pushes_64 : Dc mM_pushes 64 (.aload_n 0) 1 65 := ⟨by decide +kernel, rfl⟩
theorem dM_pushes_65 : Dc mM_pushes 65 (.getfield 71) 3 68 := ⟨by decide +kernel, rfl⟩
theorem dM_pushes_68 : Dc mM_pushes 68 (.aload_n 0) 1 69 := ⟨by decide +kernel, rfl⟩
theorem dM_pushes_69 : Dc mM_pushes 69 (.getfield 184) 3 72 := ⟨by decide +kernel, rfl⟩
theorem dM_pushes_72 : Dc mM_pushes 72 (.iload_n 2) 1 73 := ⟨by decide +kernel, rfl⟩
theorem dM_pushes_73 : Dc mM_pushes 73 .bastore 1 74 := ⟨by decide +kernel, rfl⟩
theorem dM_pushes_74 : Dc mM_pushes 74 (.iconst 0) 1 75 := ⟨by decide +kernel, rfl⟩
theorem dM_pushes_75 : Dc mM_pushes 75 (.istore_n 3) 1 76 := ⟨by decide +kernel, rfl⟩
theorem dM_pushes_76 : Dc mM_pushes 76 (.iload_n 3) 1 77 := ⟨by decide +kernel, rfl⟩
theorem dM_pushes_77 : Dc mM_pushes 77 (.iconst 4) 1 78 := ⟨by decide +kernel, rfl⟩
theorem dM_pushes_78 : Db mM_pushes 78 (.if_icmp .ge) 110 81 := ⟨32, by decide +kernel, by decide, rfl⟩
theorem dM_pushes_81 : Dc mM_pushes 81 (.aload_n 0) 1 82 := ⟨by decide +kernel, rfl⟩
theorem dM_pushes_82 : Dc mM_pushes 82 (.getfield 64) 3 85 := ⟨by decide +kernel, rfl⟩
theorem dM_pushes_85 : Dc mM_pushes 85 (.iconst 4) 1 86 := ⟨by decide +kernel, rfl⟩
theorem dM_pushes_86 : Dc mM_pushes 86 (.aload_n 0) 1 87 := ⟨by decide +kernel, rfl⟩
theorem dM_pushes_87 : Dc mM_pushes 87 (.getfield 184) 3 90 := ⟨by decide +kernel, rfl⟩
theorem dM_pushes_90 : Dc mM_pushes 90 .imul 1 91 := ⟨by decide +kernel, rfl⟩
theorem dM_pushes_91 : Dc mM_pushes 91 (.iload_n 3) 1 92 := ⟨by decide +kernel, rfl⟩
theorem dM_pushes_92 : Dc mM_pushes 92 .iadd 1 93 := ⟨by decide +kernel, rfl⟩
theorem dM_pushes_93 : Dc mM_pushes 93 (.aload_n 0) 1 94 := ⟨by decide +kernel, rfl⟩
theorem dM_pushes_94 : Dc mM_pushes 94 (.getfield 22) 3 97 := ⟨by decide +kernel, rfl⟩
theorem dM_pushes_97 : Dc mM_pushes 97 (.iconst 4) 1 98 := ⟨by decide +kernel, rfl⟩
theorem dM_pushes_98 : Dc mM_pushes 98 (.iload_n 1) 1 99 := ⟨by decide +kernel, rfl⟩
theorem dM_pushes_99 : Dc mM_pushes 99 .imul 1 100 := ⟨by decide +kernel, rfl⟩
theorem dM_pushes_100 : Dc mM_pushes 100 (.iload_n 3) 1 101 := ⟨by decide +kernel, rfl⟩
theorem dM_pushes_101 : Dc mM_pushes 101 .iadd 1 102 := ⟨by decide +kernel, rfl⟩
theorem dM_pushes_102 : Dc mM_pushes 102 .iaload 1 103 := ⟨by decide +kernel, rfl⟩
theorem dM_pushes_103 : Dc mM_pushes 103 .iastore 1 104 := ⟨by decide +kernel, rfl⟩
theorem dM_pushes_104 : Dc mM_pushes 104 (.iinc 3 1) 3 107 := ⟨by decide +kernel, rfl⟩
theorem dM_pushes_107 : Db mM_pushes 107 .goto 76 110 := ⟨(-31), by decide +kernel, by decide, rfl⟩
theorem dM_pushes_110 : Dc mM_pushes 110 (.iconst 0) 1 111 := ⟨by decide +kernel, rfl⟩
theorem dM_pushes_111 : Dc mM_pushes 111 (.istore_n 3) 1 112 := ⟨by decide +kernel, rfl⟩
theorem dM_pushes_112 : Dc mM_pushes 112 (.iload_n 3) 1 113 := ⟨by decide +kernel, rfl⟩
theorem dM_pushes_113 : Dc mM_pushes 113 (.bipush 60) 2 115 := ⟨by decide +kernel, rfl⟩
theorem dM_pushes_115 : Db mM_pushes 115 (.if_icmp .ge) 139 118 := ⟨24, by decide +kernel, by decide, rfl⟩
theorem dM_pushes_118 : Dc mM_pushes 118 (.aload_n 0) 1 119 := ⟨by decide +kernel, rfl⟩
theorem dM_pushes_119 : Dc mM_pushes 119 (.getfield 67) 3 122 := ⟨by decide +kernel, rfl⟩
theorem dM_pushes_122 : Dc mM_pushes 122 (.bipush 60) 2 124 := ⟨by decide +kernel, rfl⟩
theorem dM_pushes_124 : Dc mM_pushes 124 (.aload_n 0) 1 125 := ⟨by decide +kernel, rfl⟩
theorem dM_pushes_125 : Dc mM_pushes 125 (.getfield 184) 3 128 := ⟨by decide +kernel, rfl⟩
theorem dM_pushes_128 : Dc mM_pushes 128 .imul 1 129 := ⟨by decide +kernel, rfl⟩
theorem dM_pushes_129 : Dc mM_pushes 129 (.iload_n 3) 1 130 := ⟨by decide +kernel, rfl⟩
theorem dM_pushes_130 : Dc mM_pushes 130 .iadd 1 131 := ⟨by decide +kernel, rfl⟩
theorem dM_pushes_131 : Dc mM_pushes 131 (.iconst 0) 1 132 := ⟨by decide +kernel, rfl⟩
theorem dM_pushes_132 : Dc mM_pushes 132 .bastore 1 133 := ⟨by decide +kernel, rfl⟩
theorem dM_pushes_133 : Dc mM_pushes 133 (.iinc 3 1) 3 136 := ⟨by decide +kernel, rfl⟩
theorem dM_pushes_136 : Db mM_pushes 136 .goto 112 139 := ⟨(-24), by decide +kernel, by decide, rfl⟩
theorem dM_pushes_139 : Dc mM_pushes 139 (.aload_n 0) 1 140 := ⟨by decide +kernel, rfl⟩
theorem dM_pushes_140 : Dc mM_pushes 140 .dup 1 141 := ⟨by decide +kernel, rfl⟩
theorem dM_pushes_141 : Dc mM_pushes 141 (.getfield 184) 3 144 := ⟨by decide +kernel, rfl⟩
theorem dM_pushes_144 : Dc mM_pushes 144 (.iconst 1) 1 145 := ⟨by decide +kernel, rfl⟩
theorem dM_pushes_145 : Dc mM_pushes 145 .iadd 1 146 := ⟨by decide +kernel, rfl⟩
theorem dM_pushes_146 : Dc mM_pushes 146 (.putfield 184) 3 149 := ⟨by decide +kernel, rfl⟩
theorem dM_pushes_149 : Dc mM_pushes 149 .return_ 1 150 := ⟨by decide +kernel, rfl⟩
theorem dM_fails_0 : Dc mM_fails 0 (.aload_n 0) 1 1 := ⟨by decide +kernel, rfl⟩
theorem dM_fails_1 : Dc mM_fails 1 (.iload_n 1) 1 2 := ⟨by decide +kernel, rfl⟩
theorem dM_fails_2 : Dc mM_fails 2 (.putfield 194) 3 5 := ⟨by decide +kernel, rfl⟩
theorem dM_fails_5 : Dc mM_fails 5 (.aload_n 0) 1 6 := ⟨by decide +kernel, rfl⟩
theorem dM_fails_6 : Dc mM_fails 6 (.iload_n 2) 1 7 := ⟨by decide +kernel, rfl⟩
theorem dM_fails_7 : Dc mM_fails 7 (.putfield 211) 3 10 := ⟨by decide +kernel, rfl⟩
theorem dM_fails_10 : Dc mM_fails 10 (.iconst 0) 1 11 := ⟨by decide +kernel, rfl⟩
theorem dM_fails_11 : Dc mM_fails 11 .ireturn 1 12 := ⟨by decide +kernel, rfl⟩
theorem dM_applies_0 : Dc mM_applies 0 (.iconst 0) 1 1 := ⟨by decide +kernel, rfl⟩
theorem dM_applies_1 : Dc mM_applies 1 (.istore 4) 2 3 := ⟨by decide +kernel, rfl⟩
theorem dM_applies_3 : Dc mM_applies 3 (.iload 4) 2 5 := ⟨by decide +kernel, rfl⟩
theorem dM_applies_5 : Dc mM_applies 5 (.aload_n 0) 1 6 := ⟨by decide +kernel, rfl⟩
theorem dM_applies_6 : Dc mM_applies 6 (.getfield 37) 3 9 := ⟨by decide +kernel, rfl⟩
theorem dM_applies_9 : Dc mM_applies 9 (.iload_n 1) 1 10 := ⟨by decide +kernel, rfl⟩
theorem dM_applies_10 : Dc mM_applies 10 .iaload 1 11 := ⟨by decide +kernel, rfl⟩
theorem dM_applies_11 : Db mM_applies 11 (.if_icmp .ge) 106 14 := ⟨95, by decide +kernel, by decide, rfl⟩
theorem dM_applies_14 : Dc mM_applies 14 (.bipush 12) 2 16 := ⟨by decide +kernel, rfl⟩
theorem dM_applies_16 : Dc mM_applies 16 (.iload_n 1) 1 17 := ⟨by decide +kernel, rfl⟩
theorem dM_applies_17 : Dc mM_applies 17 .imul 1 18 := ⟨by decide +kernel, rfl⟩
theorem dM_applies_18 : Dc mM_applies 18 (.iconst 3) 1 19 := ⟨by decide +kernel, rfl⟩
theorem dM_applies_19 : Dc mM_applies 19 (.iload 4) 2 21 := ⟨by decide +kernel, rfl⟩
theorem dM_applies_21 : Dc mM_applies 21 .imul 1 22 := ⟨by decide +kernel, rfl⟩
theorem dM_applies_22 : Dc mM_applies 22 .iadd 1 23 := ⟨by decide +kernel, rfl⟩
theorem dM_applies_23 : Dc mM_applies 23 (.istore 5) 2 25 := ⟨by decide +kernel, rfl⟩
theorem dM_applies_25 : Dc mM_applies 25 (.aload_n 0) 1 26 := ⟨by decide +kernel, rfl⟩
theorem dM_applies_26 : Dc mM_applies 26 (.getfield 34) 3 29 := ⟨by decide +kernel, rfl⟩
theorem dM_applies_29 : Dc mM_applies 29 (.iload 5) 2 31 := ⟨by decide +kernel, rfl⟩
theorem dM_applies_31 : Dc mM_applies 31 .iaload 1 32 := ⟨by decide +kernel, rfl⟩
theorem dM_applies_32 : Dc mM_applies 32 (.bipush 10) 2 34 := ⟨by decide +kernel, rfl⟩
theorem dM_applies_34 : Db mM_applies 34 (.if_icmp .lt) 41 37 := ⟨7, by decide +kernel, by decide, rfl⟩
theorem dM_applies_37 : Dc mM_applies 37 (.iconst 1) 1 38 := ⟨by decide +kernel, rfl⟩
theorem dM_applies_38 : Db mM_applies 38 .goto 42 41 := ⟨4, by decide +kernel, by decide, rfl⟩
theorem dM_applies_41 : Dc mM_applies 41 (.iconst 0) 1 42 := ⟨by decide +kernel, rfl⟩
theorem dM_applies_42 : Dc mM_applies 42 (.istore 6) 2 44 := ⟨by decide +kernel, rfl⟩
theorem dM_applies_44 : Dc mM_applies 44 (.aload_n 0) 1 45 := ⟨by decide +kernel, rfl⟩
theorem dM_applies_45 : Dc mM_applies 45 (.iload 6) 2 47 := ⟨by decide +kernel, rfl⟩
theorem dM_applies_47 : Db mM_applies 47 (.ifCond .eq) 63 50 := ⟨16, by decide +kernel, by decide, rfl⟩
theorem dM_applies_50 : Dc mM_applies 50 (.aload_n 0) 1 51 := ⟨by decide +kernel, rfl⟩
theorem dM_applies_51 : Dc mM_applies 51 (.getfield 34) 3 54 := ⟨by decide +kernel, rfl⟩
theorem dM_applies_54 : Dc mM_applies 54 (.iload 5) 2 56 := ⟨by decide +kernel, rfl⟩
theorem dM_applies_56 : Dc mM_applies 56 .iaload 1 57 := ⟨by decide +kernel, rfl⟩
theorem dM_applies_57 : Dc mM_applies 57 (.bipush 10) 2 59 := ⟨by decide +kernel, rfl⟩
theorem dM_applies_59 : Dc mM_applies 59 .isub 1 60 := ⟨by decide +kernel, rfl⟩
theorem dM_applies_60 : Db mM_applies 60 .goto 70 63 := ⟨10, by decide +kernel, by decide, rfl⟩
theorem dM_applies_63 : Dc mM_applies 63 (.aload_n 0) 1 64 := ⟨by decide +kernel, rfl⟩
theorem dM_applies_64 : Dc mM_applies 64 (.getfield 34) 3 67 := ⟨by decide +kernel, rfl⟩
theorem dM_applies_67 : Dc mM_applies 67 (.iload 5) 2 69 := ⟨by decide +kernel, rfl⟩
theorem dM_applies_69 : Dc mM_applies 69 .iaload 1 70 := ⟨by decide +kernel, rfl⟩
theorem dM_applies_70 : Dc mM_applies 70 (.aload_n 0) 1 71 := ⟨by decide +kernel, rfl⟩
theorem dM_applies_71 : Dc mM_applies 71 (.getfield 34) 3 74 := ⟨by decide +kernel, rfl⟩
theorem dM_applies_74 : Dc mM_applies 74 (.iload 5) 2 76 := ⟨by decide +kernel, rfl⟩
theorem dM_applies_76 : Dc mM_applies 76 (.iconst 1) 1 77 := ⟨by decide +kernel, rfl⟩
theorem dM_applies_77 : Dc mM_applies 77 .iadd 1 78 := ⟨by decide +kernel, rfl⟩
theorem dM_applies_78 : Dc mM_applies 78 .iaload 1 79 := ⟨by decide +kernel, rfl⟩
theorem dM_applies_79 : Dc mM_applies 79 (.aload_n 0) 1 80 := ⟨by decide +kernel, rfl⟩
theorem dM_applies_80 : Dc mM_applies 80 (.getfield 34) 3 83 := ⟨by decide +kernel, rfl⟩
theorem dM_applies_83 : Dc mM_applies 83 (.iload 5) 2 85 := ⟨by decide +kernel, rfl⟩
theorem dM_applies_85 : Dc mM_applies 85 (.iconst 2) 1 86 := ⟨by decide +kernel, rfl⟩
theorem dM_applies_86 : Dc mM_applies 86 .iadd 1 87 := ⟨by decide +kernel, rfl⟩
theorem dM_applies_87 : Dc mM_applies 87 .iaload 1 88 := ⟨by decide +kernel, rfl⟩
theorem dM_applies_88 : Dc mM_applies 88 (.iload_n 2) 1 89 := ⟨by decide +kernel, rfl⟩
theorem dM_applies_89 : Dc mM_applies 89 (.iload_n 3) 1 90 := ⟨by decide +kernel, rfl⟩
theorem dM_applies_90 : Dc mM_applies 90 (.invokevirtual 214) 3 93 := ⟨by decide +kernel, rfl⟩
theorem dM_applies_93 : Dc mM_applies 93 (.iload 6) 2 95 := ⟨by decide +kernel, rfl⟩
theorem dM_applies_95 : Db mM_applies 95 (.if_icmp .ne) 100 98 := ⟨5, by decide +kernel, by decide, rfl⟩
theorem dM_applies_98 : Dc mM_applies 98 (.iconst 0) 1 99 := ⟨by decide +kernel, rfl⟩
theorem dM_applies_99 : Dc mM_applies 99 .ireturn 1 100 := ⟨by decide +kernel, rfl⟩
theorem dM_applies_100 : Dc mM_applies 100 (.iinc 4 1) 3 103 := ⟨by decide +kernel, rfl⟩
theorem dM_applies_103 : Db mM_applies 103 .goto 3 106 := ⟨(-100), by decide +kernel, by decide, rfl⟩
theorem dM_applies_106 : Dc mM_applies 106 (.iconst 1) 1 107 := ⟨by decide +kernel, rfl⟩
theorem dM_applies_107 : Dc mM_applies 107 .ireturn 1 108 := ⟨by decide +kernel, rfl⟩
theorem dM_isSo_0 : Dc mM_isSo 0 (.iload_n 1) 1 1 := ⟨by decide +kernel, rfl⟩
theorem dM_isSo_1 : Dc mM_isSo 1 (.tableswitch (143) (0) (5) #[39, 52, 73, 94, 115, 136]) 39 40 := ⟨by decide +kernel, rfl⟩
theorem dM_isSo_40 : Dc mM_isSo 40 (.aload_n 0) 1 41 := ⟨by decide +kernel, rfl⟩
theorem dM_isSo_41 : Dc mM_isSo 41 (.aload_n 0) 1 42 := ⟨by decide +kernel, rfl⟩
theorem dM_isSo_42 : Dc mM_isSo 42 (.getfield 13) 3 45 := ⟨by decide +kernel, rfl⟩
theorem dM_isSo_45 : Dc mM_isSo 45 (.iload 4) 2 47 := ⟨by decide +kernel, rfl⟩
theorem dM_isSo_47 : Dc mM_isSo 47 .iaload 1 48 := ⟨by decide +kernel, rfl⟩
theorem dM_isSo_48 : Dc mM_isSo 48 (.iload_n 2) 1 49 := ⟨by decide +kernel, rfl⟩
theorem dM_isSo_49 : Dc mM_isSo 49 (.invokevirtual 121) 3 52 := ⟨by decide +kernel, rfl⟩
theorem dM_isSo_52 : Dc mM_isSo 52 .ireturn 1 53 := ⟨by decide +kernel, rfl⟩
theorem dM_isSo_53 : Dc mM_isSo 53 (.aload_n 0) 1 54 := ⟨by decide +kernel, rfl⟩
theorem dM_isSo_54 : Dc mM_isSo 54 (.getfield 16) 3 57 := ⟨by decide +kernel, rfl⟩
theorem dM_isSo_57 : Dc mM_isSo 57 (.iconst 4) 1 58 := ⟨by decide +kernel, rfl⟩
theorem dM_isSo_58 : Dc mM_isSo 58 (.iload 4) 2 60 := ⟨by decide +kernel, rfl⟩
theorem dM_isSo_60 : Dc mM_isSo 60 .imul 1 61 := ⟨by decide +kernel, rfl⟩
theorem dM_isSo_61 : Dc mM_isSo 61 (.iload_n 2) 1 62 := ⟨by decide +kernel, rfl⟩
theorem dM_isSo_62 : Dc mM_isSo 62 .iadd 1 63 := ⟨by decide +kernel, rfl⟩
theorem dM_isSo_63 : Dc mM_isSo 63 .iaload 1 64 := ⟨by decide +kernel, rfl⟩
theorem dM_isSo_64 : Dc mM_isSo 64 (.iload_n 3) 1 65 := ⟨by decide +kernel, rfl⟩
theorem dM_isSo_65 : Db mM_isSo 65 (.if_icmp .ne) 72 68 := ⟨7, by decide +kernel, by decide, rfl⟩
theorem dM_isSo_68 : Dc mM_isSo 68 (.iconst 1) 1 69 := ⟨by decide +kernel, rfl⟩
theorem dM_isSo_69 : Db mM_isSo 69 .goto 73 72 := ⟨4, by decide +kernel, by decide, rfl⟩
theorem dM_isSo_72 : Dc mM_isSo 72 (.iconst 0) 1 73 := ⟨by decide +kernel, rfl⟩
theorem dM_isSo_73 : Dc mM_isSo 73 .ireturn 1 74 := ⟨by decide +kernel, rfl⟩
theorem dM_isSo_74 : Dc mM_isSo 74 (.aload_n 0) 1 75 := ⟨by decide +kernel, rfl⟩
theorem dM_isSo_75 : Dc mM_isSo 75 (.getfield 16) 3 78 := ⟨by decide +kernel, rfl⟩
theorem dM_isSo_78 : Dc mM_isSo 78 (.iconst 4) 1 79 := ⟨by decide +kernel, rfl⟩
theorem dM_isSo_79 : Dc mM_isSo 79 (.iload 4) 2 81 := ⟨by decide +kernel, rfl⟩
theorem dM_isSo_81 : Dc mM_isSo 81 .imul 1 82 := ⟨by decide +kernel, rfl⟩
theorem dM_isSo_82 : Dc mM_isSo 82 (.iload_n 2) 1 83 := ⟨by decide +kernel, rfl⟩
theorem dM_isSo_83 : Dc mM_isSo 83 .iadd 1 84 := ⟨by decide +kernel, rfl⟩
theorem dM_isSo_84 : Dc mM_isSo 84 .iaload 1 85 := ⟨by decide +kernel, rfl⟩
theorem dM_isSo_85 : Dc mM_isSo 85 (.iload_n 3) 1 86 := ⟨by decide +kernel, rfl⟩
theorem dM_isSo_86 : Db mM_isSo 86 (.if_icmp .le) 93 89 := ⟨7, by decide +kernel, by decide, rfl⟩
theorem dM_isSo_89 : Dc mM_isSo 89 (.iconst 1) 1 90 := ⟨by decide +kernel, rfl⟩
theorem dM_isSo_90 : Db mM_isSo 90 .goto 94 93 := ⟨4, by decide +kernel, by decide, rfl⟩
theorem dM_isSo_93 : Dc mM_isSo 93 (.iconst 0) 1 94 := ⟨by decide +kernel, rfl⟩
theorem dM_isSo_94 : Dc mM_isSo 94 .ireturn 1 95 := ⟨by decide +kernel, rfl⟩
theorem dM_isSo_95 : Dc mM_isSo 95 (.aload_n 0) 1 96 := ⟨by decide +kernel, rfl⟩
theorem dM_isSo_96 : Dc mM_isSo 96 (.getfield 64) 3 99 := ⟨by decide +kernel, rfl⟩
theorem dM_isSo_99 : Dc mM_isSo 99 (.iconst 4) 1 100 := ⟨by decide +kernel, rfl⟩
theorem dM_isSo_100 : Dc mM_isSo 100 (.iload 5) 2 102 := ⟨by decide +kernel, rfl⟩
theorem dM_isSo_102 : Dc mM_isSo 102 .imul 1 103 := ⟨by decide +kernel, rfl⟩
theorem dM_isSo_103 : Dc mM_isSo 103 (.iload_n 2) 1 104 := ⟨by decide +kernel, rfl⟩
theorem dM_isSo_104 : Dc mM_isSo 104 .iadd 1 105 := ⟨by decide +kernel, rfl⟩
theorem dM_isSo_105 : Dc mM_isSo 105 .iaload 1 106 := ⟨by decide +kernel, rfl⟩
theorem dM_isSo_106 : Dc mM_isSo 106 (.iload_n 3) 1 107 := ⟨by decide +kernel, rfl⟩
theorem dM_isSo_107 : Db mM_isSo 107 (.if_icmp .ne) 114 110 := ⟨7, by decide +kernel, by decide, rfl⟩
theorem dM_isSo_110 : Dc mM_isSo 110 (.iconst 1) 1 111 := ⟨by decide +kernel, rfl⟩
theorem dM_isSo_111 : Db mM_isSo 111 .goto 115 114 := ⟨4, by decide +kernel, by decide, rfl⟩
theorem dM_isSo_114 : Dc mM_isSo 114 (.iconst 0) 1 115 := ⟨by decide +kernel, rfl⟩
theorem dM_isSo_115 : Dc mM_isSo 115 .ireturn 1 116 := ⟨by decide +kernel, rfl⟩
theorem dM_isSo_116 : Dc mM_isSo 116 (.aload_n 0) 1 117 := ⟨by decide +kernel, rfl⟩
theorem dM_isSo_117 : Dc mM_isSo 117 (.getfield 64) 3 120 := ⟨by decide +kernel, rfl⟩
theorem dM_isSo_120 : Dc mM_isSo 120 (.iconst 4) 1 121 := ⟨by decide +kernel, rfl⟩
theorem dM_isSo_121 : Dc mM_isSo 121 (.iload 5) 2 123 := ⟨by decide +kernel, rfl⟩
theorem dM_isSo_123 : Dc mM_isSo 123 .imul 1 124 := ⟨by decide +kernel, rfl⟩
theorem dM_isSo_124 : Dc mM_isSo 124 (.iload_n 2) 1 125 := ⟨by decide +kernel, rfl⟩
theorem dM_isSo_125 : Dc mM_isSo 125 .iadd 1 126 := ⟨by decide +kernel, rfl⟩
theorem dM_isSo_126 : Dc mM_isSo 126 .iaload 1 127 := ⟨by decide +kernel, rfl⟩
theorem dM_isSo_127 : Dc mM_isSo 127 (.iload_n 3) 1 128 := ⟨by decide +kernel, rfl⟩
theorem dM_isSo_128 : Db mM_isSo 128 (.if_icmp .le) 135 131 := ⟨7, by decide +kernel, by decide, rfl⟩
theorem dM_isSo_131 : Dc mM_isSo 131 (.iconst 1) 1 132 := ⟨by decide +kernel, rfl⟩
theorem dM_isSo_132 : Db mM_isSo 132 .goto 136 135 := ⟨4, by decide +kernel, by decide, rfl⟩
theorem dM_isSo_135 : Dc mM_isSo 135 (.iconst 0) 1 136 := ⟨by decide +kernel, rfl⟩
theorem dM_isSo_136 : Dc mM_isSo 136 .ireturn 1 137 := ⟨by decide +kernel, rfl⟩
theorem dM_isSo_137 : Dc mM_isSo 137 (.aload_n 0) 1 138 := ⟨by decide +kernel, rfl⟩
theorem dM_isSo_138 : Dc mM_isSo 138 (.getfield 92) 3 141 := ⟨by decide +kernel, rfl⟩
theorem dM_isSo_141 : Dc mM_isSo 141 (.iload_n 2) 1 142 := ⟨by decide +kernel, rfl⟩
theorem dM_isSo_142 : Dc mM_isSo 142 .baload 1 143 := ⟨by decide +kernel, rfl⟩
theorem dM_isSo_143 : Dc mM_isSo 143 .ireturn 1 144 := ⟨by decide +kernel, rfl⟩
theorem dM_isSo_144 : Dc mM_isSo 144 (.aload_n 0) 1 145 := ⟨by decide +kernel, rfl⟩
theorem dM_isSo_145 : Dc mM_isSo 145 (.getfield 67) 3 148 := ⟨by decide +kernel, rfl⟩
theorem dM_isSo_148 : Dc mM_isSo 148 (.bipush 60) 2 150 := ⟨by decide +kernel, rfl⟩
theorem dM_isSo_150 : Dc mM_isSo 150 (.iload 5) 2 152 := ⟨by decide +kernel, rfl⟩
theorem dM_isSo_152 : Dc mM_isSo 152 .imul 1 153 := ⟨by decide +kernel, rfl⟩
theorem dM_isSo_153 : Dc mM_isSo 153 (.iload_n 2) 1 154 := ⟨by decide +kernel, rfl⟩
theorem dM_isSo_154 : Dc mM_isSo 154 .iadd 1 155 := ⟨by decide +kernel, rfl⟩
theorem dM_isSo_155 : Dc mM_isSo 155 .baload 1 156 := ⟨by decide +kernel, rfl⟩
theorem dM_isSo_156 : Dc mM_isSo 156 .ireturn 1 157 := ⟨by decide +kernel, rfl⟩
theorem dM_works_0 : Dc mM_works 0 (.aload_n 0) 1 1 := ⟨by decide +kernel, rfl⟩
theorem dM_works_1 : Dc mM_works 1 (.getfield 40) 3 4 := ⟨by decide +kernel, rfl⟩
theorem dM_works_4 : Dc mM_works 4 (.iconst 3) 1 5 := ⟨by decide +kernel, rfl⟩
theorem dM_works_5 : Dc mM_works 5 (.iload_n 1) 1 6 := ⟨by decide +kernel, rfl⟩
theorem dM_works_6 : Dc mM_works 6 .imul 1 7 := ⟨by decide +kernel, rfl⟩
theorem dM_works_7 : Dc mM_works 7 (.iconst 1) 1 8 := ⟨by decide +kernel, rfl⟩
theorem dM_works_8 : Dc mM_works 8 .iadd 1 9 := ⟨by decide +kernel, rfl⟩
theorem dM_works_9 : Dc mM_works 9 .iaload 1 10 := ⟨by decide +kernel, rfl⟩
theorem dM_works_10 : Dc mM_works 10 (.istore 4) 2 12 := ⟨by decide +kernel, rfl⟩
theorem dM_works_12 : Dc mM_works 12 (.aload_n 0) 1 13 := ⟨by decide +kernel, rfl⟩
theorem dM_works_13 : Dc mM_works 13 (.getfield 40) 3 16 := ⟨by decide +kernel, rfl⟩
theorem dM_works_16 : Dc mM_works 16 (.iconst 3) 1 17 := ⟨by decide +kernel, rfl⟩
theorem dM_works_17 : Dc mM_works 17 (.iload_n 1) 1 18 := ⟨by decide +kernel, rfl⟩
theorem dM_works_18 : Dc mM_works 18 .imul 1 19 := ⟨by decide +kernel, rfl⟩
theorem dM_works_19 : Dc mM_works 19 (.iconst 2) 1 20 := ⟨by decide +kernel, rfl⟩
theorem dM_works_20 : Dc mM_works 20 .iadd 1 21 := ⟨by decide +kernel, rfl⟩
theorem dM_works_21 : Dc mM_works 21 .iaload 1 22 := ⟨by decide +kernel, rfl⟩
theorem dM_works_22 : Dc mM_works 22 (.istore 5) 2 24 := ⟨by decide +kernel, rfl⟩
theorem dM_works_24 : Dc mM_works 24 (.aload_n 0) 1 25 := ⟨by decide +kernel, rfl⟩
theorem dM_works_25 : Dc mM_works 25 (.getfield 40) 3 28 := ⟨by decide +kernel, rfl⟩
theorem dM_works_28 : Dc mM_works 28 (.iconst 3) 1 29 := ⟨by decide +kernel, rfl⟩
theorem dM_works_29 : Dc mM_works 29 (.iload_n 1) 1 30 := ⟨by decide +kernel, rfl⟩
theorem dM_works_30 : Dc mM_works 30 .imul 1 31 := ⟨by decide +kernel, rfl⟩
theorem dM_works_31 : Dc mM_works 31 .iaload 1 32 := ⟨by decide +kernel, rfl⟩
theorem dM_works_32 : Dc mM_works 32 (.tableswitch (212) (1) (8) #[48, 51, 69, 84, 132, 132, 174, 188]) 48 80 := ⟨by decide +kernel, rfl⟩
theorem dM_works_80 : Dc mM_works 80 (.iload 4) 2 82 := ⟨by decide +kernel, rfl⟩
theorem dM_works_82 : Dc mM_works 82 .ireturn 1 83 := ⟨by decide +kernel, rfl⟩
theorem dM_works_83 : Dc mM_works 83 (.aload_n 0) 1 84 := ⟨by decide +kernel, rfl⟩
theorem dM_works_84 : Dc mM_works 84 (.getfield 64) 3 87 := ⟨by decide +kernel, rfl⟩
theorem dM_works_87 : Dc mM_works 87 (.iconst 4) 1 88 := ⟨by decide +kernel, rfl⟩
theorem dM_works_88 : Dc mM_works 88 (.iload_n 3) 1 89 := ⟨by decide +kernel, rfl⟩
theorem dM_works_89 : Dc mM_works 89 .imul 1 90 := ⟨by decide +kernel, rfl⟩
theorem dM_works_90 : Dc mM_works 90 (.iload 4) 2 92 := ⟨by decide +kernel, rfl⟩
theorem dM_works_92 : Dc mM_works 92 .iadd 1 93 := ⟨by decide +kernel, rfl⟩
theorem dM_works_93 : Dc mM_works 93 .dup2 1 94 := ⟨by decide +kernel, rfl⟩
theorem dM_works_94 : Dc mM_works 94 .iaload 1 95 := ⟨by decide +kernel, rfl⟩
theorem dM_works_95 : Dc mM_works 95 (.iload 5) 2 97 := ⟨by decide +kernel, rfl⟩
theorem dM_works_97 : Dc mM_works 97 .iadd 1 98 := ⟨by decide +kernel, rfl⟩
theorem dM_works_98 : Dc mM_works 98 .iastore 1 99 := ⟨by decide +kernel, rfl⟩
theorem dM_works_99 : Dc mM_works 99 (.iconst 0) 1 100 := ⟨by decide +kernel, rfl⟩
theorem dM_works_100 : Dc mM_works 100 .ireturn 1 101 := ⟨by decide +kernel, rfl⟩
theorem dM_works_101 : Dc mM_works 101 (.aload_n 0) 1 102 := ⟨by decide +kernel, rfl⟩
theorem dM_works_102 : Dc mM_works 102 (.getfield 16) 3 105 := ⟨by decide +kernel, rfl⟩
theorem dM_works_105 : Dc mM_works 105 (.iconst 4) 1 106 := ⟨by decide +kernel, rfl⟩
theorem dM_works_106 : Dc mM_works 106 (.iload_n 2) 1 107 := ⟨by decide +kernel, rfl⟩
theorem dM_works_107 : Dc mM_works 107 .imul 1 108 := ⟨by decide +kernel, rfl⟩
theorem dM_works_108 : Dc mM_works 108 (.iload 4) 2 110 := ⟨by decide +kernel, rfl⟩
theorem dM_works_110 : Dc mM_works 110 .iadd 1 111 := ⟨by decide +kernel, rfl⟩
theorem dM_works_111 : Dc mM_works 111 (.iload 5) 2 113 := ⟨by decide +kernel, rfl⟩
theorem dM_works_113 : Dc mM_works 113 .iastore 1 114 := ⟨by decide +kernel, rfl⟩
theorem dM_works_114 : Dc mM_works 114 (.iconst 0) 1 115 := ⟨by decide +kernel, rfl⟩
theorem dM_works_115 : Dc mM_works 115 .ireturn 1 116 := ⟨by decide +kernel, rfl⟩
theorem dM_works_116 : Dc mM_works 116 (.aload_n 0) 1 117 := ⟨by decide +kernel, rfl⟩
theorem dM_works_117 : Dc mM_works 117 (.getfield 64) 3 120 := ⟨by decide +kernel, rfl⟩
theorem dM_works_120 : Dc mM_works 120 (.iconst 4) 1 121 := ⟨by decide +kernel, rfl⟩
theorem dM_works_121 : Dc mM_works 121 (.iload_n 3) 1 122 := ⟨by decide +kernel, rfl⟩
theorem dM_works_122 : Dc mM_works 122 .imul 1 123 := ⟨by decide +kernel, rfl⟩
theorem dM_works_123 : Dc mM_works 123 (.iload 5) 2 125 := ⟨by decide +kernel, rfl⟩
theorem dM_works_125 : Dc mM_works 125 .iadd 1 126 := ⟨by decide +kernel, rfl⟩
theorem dM_works_126 : Dc mM_works 126 .iaload 1 127 := ⟨by decide +kernel, rfl⟩
theorem dM_works_127 : Db mM_works 127 (.ifCond .ne) 137 130 := ⟨10, by decide +kernel, by decide, rfl⟩
theorem dM_works_130 : Dc mM_works 130 (.aload_n 0) 1 131 := ⟨by decide +kernel, rfl⟩
theorem dM_works_131 : Dc mM_works 131 (.iconst 1) 1 132 := ⟨by decide +kernel, rfl⟩
theorem dM_works_132 : Dc mM_works 132 (.iload_n 1) 1 133 := ⟨by decide +kernel, rfl⟩
theorem dM_works_133 : Dc mM_works 133 (.invokevirtual 201) 3 136 := ⟨by decide +kernel, rfl⟩
theorem dM_works_136 : Dc mM_works 136 .ireturn 1 137 := ⟨by decide +kernel, rfl⟩
theorem dM_works_137 : Dc mM_works 137 (.aload_n 0) 1 138 := ⟨by decide +kernel, rfl⟩
theorem dM_works_138 : Dc mM_works 138 (.getfield 16) 3 141 := ⟨by decide +kernel, rfl⟩
theorem dM_works_141 : Dc mM_works 141 (.iconst 4) 1 142 := ⟨by decide +kernel, rfl⟩
theorem dM_works_142 : Dc mM_works 142 (.iload_n 2) 1 143 := ⟨by decide +kernel, rfl⟩
theorem dM_works_143 : Dc mM_works 143 .imul 1 144 := ⟨by decide +kernel, rfl⟩
theorem dM_works_144 : Dc mM_works 144 (.iload 4) 2 146 := ⟨by decide +kernel, rfl⟩
theorem dM_works_146 : Dc mM_works 146 .iadd 1 147 := ⟨by decide +kernel, rfl⟩
theorem dM_works_147 : Dc mM_works 147 .dup2 1 148 := ⟨by decide +kernel, rfl⟩
theorem dM_works_148 : Dc mM_works 148 .iaload 1 149 := ⟨by decide +kernel, rfl⟩
theorem dM_works_149 : Dc mM_works 149 (.aload_n 0) 1 150 := ⟨by decide +kernel, rfl⟩
theorem dM_works_150 : Dc mM_works 150 (.getfield 64) 3 153 := ⟨by decide +kernel, rfl⟩
theorem dM_works_153 : Dc mM_works 153 (.iconst 4) 1 154 := ⟨by decide +kernel, rfl⟩
theorem dM_works_154 : Dc mM_works 154 (.iload_n 3) 1 155 := ⟨by decide +kernel, rfl⟩
theorem dM_works_155 : Dc mM_works 155 .imul 1 156 := ⟨by decide +kernel, rfl⟩
theorem dM_works_156 : Dc mM_works 156 (.iload 5) 2 158 := ⟨by decide +kernel, rfl⟩
theorem dM_works_158 : Dc mM_works 158 .iadd 1 159 := ⟨by decide +kernel, rfl⟩
theorem dM_works_159 : Dc mM_works 159 .iaload 1 160 := ⟨by decide +kernel, rfl⟩
theorem dM_works_160 : Dc mM_works 160 .idiv 1 161 := ⟨by decide +kernel, rfl⟩
theorem dM_works_161 : Dc mM_works 161 .iastore 1 162 := ⟨by decide +kernel, rfl⟩
theorem dM_works_162 : Dc mM_works 162 (.iconst 0) 1 163 := ⟨by decide +kernel, rfl⟩
theorem dM_works_163 : Dc mM_works 163 .ireturn 1 164 := ⟨by decide +kernel, rfl⟩
theorem dM_works_164 : Dc mM_works 164 (.aload_n 0) 1 165 := ⟨by decide +kernel, rfl⟩
theorem dM_works_165 : Dc mM_works 165 (.getfield 184) 3 168 := ⟨by decide +kernel, rfl⟩
theorem dM_works_168 : Dc mM_works 168 (.bipush 6) 2 170 := ⟨by decide +kernel, rfl⟩
theorem dM_works_170 : Db mM_works 170 (.if_icmp .ne) 180 173 := ⟨10, by decide +kernel, by decide, rfl⟩
theorem dM_works_173 : Dc mM_works 173 (.aload_n 0) 1 174 := ⟨by decide +kernel, rfl⟩
theorem dM_works_174 : Dc mM_works 174 (.iconst 2) 1 175 := ⟨by decide +kernel, rfl⟩
theorem dM_works_175 : Dc mM_works 175 (.iload_n 1) 1 176 := ⟨by decide +kernel, rfl⟩
theorem dM_works_176 : Dc mM_works 176 (.invokevirtual 201) 3 179 := ⟨by decide +kernel, rfl⟩
theorem dM_works_179 : Dc mM_works 179 .ireturn 1 180 := ⟨by decide +kernel, rfl⟩
theorem dM_works_180 : Dc mM_works 180 (.aload_n 0) 1 181 := ⟨by decide +kernel, rfl⟩
theorem dM_works_181 : Dc mM_works 181 (.iload 4) 2 183 := ⟨by decide +kernel, rfl⟩
theorem dM_works_183 : Dc mM_works 183 (.aload_n 0) 1 184 := ⟨by decide +kernel, rfl⟩
theorem dM_works_184 : Dc mM_works 184 (.getfield 40) 3 187 := ⟨by decide +kernel, rfl⟩
theorem dM_works_187 : Dc mM_works 187 (.iconst 3) 1 188 := ⟨by decide +kernel, rfl⟩
theorem dM_works_188 : Dc mM_works 188 (.iload_n 1) 1 189 := ⟨by decide +kernel, rfl⟩
theorem dM_works_189 : Dc mM_works 189 .imul 1 190 := ⟨by decide +kernel, rfl⟩
theorem dM_works_190 : Dc mM_works 190 .iaload 1 191 := ⟨by decide +kernel, rfl⟩
theorem dM_works_191 : Dc mM_works 191 (.bipush 6) 2 193 := ⟨by decide +kernel, rfl⟩
theorem dM_works_193 : Db mM_works 193 (.if_icmp .ne) 200 196 := ⟨7, by decide +kernel, by decide, rfl⟩
theorem dM_works_196 : Dc mM_works 196 (.iconst 1) 1 197 := ⟨by decide +kernel, rfl⟩
theorem dM_works_197 : Db mM_works 197 .goto 201 200 := ⟨4, by decide +kernel, by decide, rfl⟩
theorem dM_works_200 : Dc mM_works 200 (.iconst 0) 1 201 := ⟨by decide +kernel, rfl⟩
theorem dM_works_201 : Dc mM_works 201 (.invokevirtual 197) 3 204 := ⟨by decide +kernel, rfl⟩
theorem dM_works_204 : Dc mM_works 204 (.iconst 0) 1 205 := ⟨by decide +kernel, rfl⟩
theorem dM_works_205 : Dc mM_works 205 .ireturn 1 206 := ⟨by decide +kernel, rfl⟩
theorem dM_works_206 : Dc mM_works 206 (.aload_n 0) 1 207 := ⟨by decide +kernel, rfl⟩
theorem dM_works_207 : Dc mM_works 207 (.getfield 61) 3 210 := ⟨by decide +kernel, rfl⟩
theorem dM_works_210 : Dc mM_works 210 (.iload_n 3) 1 211 := ⟨by decide +kernel, rfl⟩
theorem dM_works_211 : Dc mM_works 211 (.aload_n 0) 1 212 := ⟨by decide +kernel, rfl⟩
theorem dM_works_212 : Dc mM_works 212 (.getfield 58) 3 215 := ⟨by decide +kernel, rfl⟩
theorem dM_works_215 : Dc mM_works 215 (.iload_n 3) 1 216 := ⟨by decide +kernel, rfl⟩
theorem dM_works_216 : Dc mM_works 216 .iaload 1 217 := ⟨by decide +kernel, rfl⟩
theorem dM_works_217 : Dc mM_works 217 .iastore 1 218 := ⟨by decide +kernel, rfl⟩
theorem dM_works_218 : Dc mM_works 218 (.iconst 0) 1 219 := ⟨by decide +kernel, rfl⟩
theorem dM_works_219 : Dc mM_works 219 .ireturn 1 220 := ⟨by decide +kernel, rfl⟩
theorem dM_works_220 : Dc mM_works 220 (.aload_n 0) 1 221 := ⟨by decide +kernel, rfl⟩
theorem dM_works_221 : Dc mM_works 221 (.getfield 64) 3 224 := ⟨by decide +kernel, rfl⟩
theorem dM_works_224 : Dc mM_works 224 (.iconst 4) 1 225 := ⟨by decide +kernel, rfl⟩
theorem dM_works_225 : Dc mM_works 225 (.iload_n 3) 1 226 := ⟨by decide +kernel, rfl⟩
theorem dM_works_226 : Dc mM_works 226 .imul 1 227 := ⟨by decide +kernel, rfl⟩
theorem dM_works_227 : Dc mM_works 227 (.iload 4) 2 229 := ⟨by decide +kernel, rfl⟩
theorem dM_works_229 : Dc mM_works 229 .iadd 1 230 := ⟨by decide +kernel, rfl⟩
theorem dM_works_230 : Dc mM_works 230 (.aload_n 0) 1 231 := ⟨by decide +kernel, rfl⟩
theorem dM_works_231 : Dc mM_works 231 (.getfield 16) 3 234 := ⟨by decide +kernel, rfl⟩
theorem dM_works_234 : Dc mM_works 234 (.iconst 4) 1 235 := ⟨by decide +kernel, rfl⟩
theorem dM_works_235 : Dc mM_works 235 (.iload_n 2) 1 236 := ⟨by decide +kernel, rfl⟩
theorem dM_works_236 : Dc mM_works 236 .imul 1 237 := ⟨by decide +kernel, rfl⟩
theorem dM_works_237 : Dc mM_works 237 (.iload 5) 2 239 := ⟨by decide +kernel, rfl⟩
theorem dM_works_239 : Dc mM_works 239 .iadd 1 240 := ⟨by decide +kernel, rfl⟩
theorem dM_works_240 : Dc mM_works 240 .iaload 1 241 := ⟨by decide +kernel, rfl⟩
theorem dM_works_241 : Dc mM_works 241 .iastore 1 242 := ⟨by decide +kernel, rfl⟩
theorem dM_works_242 : Dc mM_works 242 (.iconst 0) 1 243 := ⟨by decide +kernel, rfl⟩
theorem dM_works_243 : Dc mM_works 243 .ireturn 1 244 := ⟨by decide +kernel, rfl⟩
theorem dM_works_244 : Dc mM_works 244 (.iconst 0) 1 245 := ⟨by decide +kernel, rfl⟩
theorem dM_works_245 : Dc mM_works 245 .ireturn 1 246 := ⟨by decide +kernel, rfl⟩
theorem dM_trace_0 : Dc mM_trace 0 (.iload_n 1) 1 1 := ⟨by decide +kernel, rfl⟩
theorem dM_trace_1 : Dc mM_trace 1 (.iconst 0) 1 2 := ⟨by decide +kernel, rfl⟩
theorem dM_trace_2 : Dc mM_trace 2 (.aload_n 0) 1 3 := ⟨by decide +kernel, rfl⟩
theorem dM_trace_3 : Dc mM_trace 3 (.getfield 191) 3 6 := ⟨by decide +kernel, rfl⟩
theorem dM_trace_6 : Dc mM_trace 6 (.iconst 1) 1 7 := ⟨by decide +kernel, rfl⟩
theorem dM_trace_7 : Dc mM_trace 7 .isub 1 8 := ⟨by decide +kernel, rfl⟩
theorem dM_trace_8 : Dc mM_trace 8 (.invokestatic 117) 3 11 := ⟨by decide +kernel, rfl⟩
theorem dM_trace_11 : Db mM_trace 11 (.ifCond .eq) 36 14 := ⟨25, by decide +kernel, by decide, rfl⟩
theorem dM_trace_14 : Dc mM_trace 14 (.iload_n 2) 1 15 := ⟨by decide +kernel, rfl⟩
theorem dM_trace_15 : Dc mM_trace 15 (.iconst 0) 1 16 := ⟨by decide +kernel, rfl⟩
theorem dM_trace_16 : Dc mM_trace 16 (.iconst 2) 1 17 := ⟨by decide +kernel, rfl⟩
theorem dM_trace_17 : Dc mM_trace 17 (.invokestatic 117) 3 20 := ⟨by decide +kernel, rfl⟩
theorem dM_trace_20 : Db mM_trace 20 (.ifCond .eq) 36 23 := ⟨16, by decide +kernel, by decide, rfl⟩
theorem dM_trace_23 : Dc mM_trace 23 (.aload_n 0) 1 24 := ⟨by decide +kernel, rfl⟩
theorem dM_trace_24 : Dc mM_trace 24 (.getfield 74) 3 27 := ⟨by decide +kernel, rfl⟩
theorem dM_trace_27 : Dc mM_trace 27 (.iconst 3) 1 28 := ⟨by decide +kernel, rfl⟩
theorem dM_trace_28 : Dc mM_trace 28 (.iload_n 1) 1 29 := ⟨by decide +kernel, rfl⟩
theorem dM_trace_29 : Dc mM_trace 29 .imul 1 30 := ⟨by decide +kernel, rfl⟩
theorem dM_trace_30 : Dc mM_trace 30 (.iload_n 2) 1 31 := ⟨by decide +kernel, rfl⟩
theorem dM_trace_31 : Dc mM_trace 31 .iadd 1 32 := ⟨by decide +kernel, rfl⟩
theorem dM_trace_32 : Dc mM_trace 32 .iaload 1 33 := ⟨by decide +kernel, rfl⟩
theorem dM_trace_33 : Db mM_trace 33 .goto 38 36 := ⟨5, by decide +kernel, by decide, rfl⟩
theorem dM_trace_36 : Dc mM_trace 36 (.bipush (-4)) 2 38 := ⟨by decide +kernel, rfl⟩
theorem dM_trace_38 : Dc mM_trace 38 .ireturn 1 39 := ⟨by decide +kernel, rfl⟩
theorem dM_erred_0 : Dc mM_erred 0 (.aload_n 0) 1 1 := ⟨by decide +kernel, rfl⟩
theorem dM_erred_1 : Dc mM_erred 1 (.getfield 194) 3 4 := ⟨by decide +kernel, rfl⟩
theorem dM_erred_4 : Dc mM_erred 4 .ireturn 1 5 := ⟨by decide +kernel, rfl⟩
theorem dM_action_0 : Dc mM_action 0 (.aload_n 0) 1 1 := ⟨by decide +kernel, rfl⟩
theorem dM_action_1 : Dc mM_action 1 (.iload_n 1) 1 2 := ⟨by decide +kernel, rfl⟩
theorem dM_action_2 : Dc mM_action 2 (.invokevirtual 224) 3 5 := ⟨by decide +kernel, rfl⟩
theorem dM_action_5 : Db mM_action 5 (.ifCond .eq) 51 8 := ⟨46, by decide +kernel, by decide, rfl⟩
theorem dM_action_8 : Dc mM_action 8 (.aload_n 0) 1 9 := ⟨by decide +kernel, rfl⟩
theorem dM_action_9 : Dc mM_action 9 (.iload_n 2) 1 10 := ⟨by decide +kernel, rfl⟩
theorem dM_action_10 : Dc mM_action 10 (.invokevirtual 224) 3 13 := ⟨by decide +kernel, rfl⟩
theorem dM_action_13 : Db mM_action 13 (.ifCond .eq) 51 16 := ⟨38, by decide +kernel, by decide, rfl⟩
theorem dM_action_16 : Dc mM_action 16 (.aload_n 0) 1 17 := ⟨by decide +kernel, rfl⟩
theorem dM_action_17 : Dc mM_action 17 (.iload_n 3) 1 18 := ⟨by decide +kernel, rfl⟩
theorem dM_action_18 : Dc mM_action 18 (.invokevirtual 224) 3 21 := ⟨by decide +kernel, rfl⟩
theorem dM_action_21 : Db mM_action 21 (.ifCond .eq) 51 24 := ⟨30, by decide +kernel, by decide, rfl⟩
theorem dM_action_24 : Dc mM_action 24 (.aload_n 0) 1 25 := ⟨by decide +kernel, rfl⟩
theorem dM_action_25 : Dc mM_action 25 (.iload 4) 2 27 := ⟨by decide +kernel, rfl⟩
theorem dM_action_27 : Dc mM_action 27 (.invokevirtual 224) 3 30 := ⟨by decide +kernel, rfl⟩
theorem dM_action_30 : Db mM_action 30 (.ifCond .eq) 51 33 := ⟨21, by decide +kernel, by decide, rfl⟩
theorem dM_action_33 : Dc mM_action 33 (.aload_n 0) 1 34 := ⟨by decide +kernel, rfl⟩
theorem dM_action_34 : Dc mM_action 34 (.iload 5) 2 36 := ⟨by decide +kernel, rfl⟩
theorem dM_action_36 : Dc mM_action 36 (.invokevirtual 224) 3 39 := ⟨by decide +kernel, rfl⟩
theorem dM_action_39 : Db mM_action 39 (.ifCond .eq) 51 42 := ⟨12, by decide +kernel, by decide, rfl⟩
theorem dM_action_42 : Dc mM_action 42 (.aload_n 0) 1 43 := ⟨by decide +kernel, rfl⟩
theorem dM_action_43 : Dc mM_action 43 (.iload 6) 2 45 := ⟨by decide +kernel, rfl⟩
theorem dM_action_45 : Dc mM_action 45 (.invokevirtual 224) 3 48 := ⟨by decide +kernel, rfl⟩
theorem dM_action_48 : Db mM_action 48 (.ifCond .ne) 53 51 := ⟨5, by decide +kernel, by decide, rfl⟩
theorem dM_action_51 : Dc mM_action 51 (.iconst (-1)) 1 52 := ⟨by decide +kernel, rfl⟩
theorem dM_action_52 : Dc mM_action 52 .ireturn 1 53 := ⟨by decide +kernel, rfl⟩
theorem dM_action_53 : Dc mM_action 53 (.aload_n 0) 1 54 := ⟨by decide +kernel, rfl⟩
theorem dM_action_54 : Dc mM_action 54 (.getfield 227) 3 57 := ⟨by decide +kernel, rfl⟩
theorem dM_action_57 : Dc mM_action 57 (.bipush 8) 2 59 := ⟨by decide +kernel, rfl⟩
theorem dM_action_59 : Db mM_action 59 (.if_icmp .ne) 65 62 := ⟨6, by decide +kernel, by decide, rfl⟩
theorem dM_action_62 : Dc mM_action 62 (.bipush (-3)) 2 64 := ⟨by decide +kernel, rfl⟩
theorem dM_action_64 : Dc mM_action 64 .ireturn 1 65 := ⟨by decide +kernel, rfl⟩
theorem dM_action_65 : Dc mM_action 65 (.bipush 6) 2 67 := ⟨by decide +kernel, rfl⟩
theorem dM_action_67 : Dc mM_action 67 (.aload_n 0) 1 68 := ⟨by decide +kernel, rfl⟩
theorem dM_action_68 : Dc mM_action 68 (.getfield 227) 3 71 := ⟨by decide +kernel, rfl⟩
theorem dM_action_71 : Dc mM_action 71 .imul 1 72 := ⟨by decide +kernel, rfl⟩
theorem dM_action_72 : Dc mM_action 72 (.istore 7) 2 74 := ⟨by decide +kernel, rfl⟩
theorem dM_action_74 : Dc mM_action 74 (.aload_n 0) 1 75 := ⟨by decide +kernel, rfl⟩
theorem dM_action_75 : Dc mM_action 75 (.getfield 77) 3 78 := ⟨by decide +kernel, rfl⟩
theorem dM_action_78 : Dc mM_action 78 (.iload 7) 2 80 := ⟨by decide +kernel, rfl⟩
theorem dM_action_80 : Dc mM_action 80 (.iload_n 1) 1 81 := ⟨by decide +kernel, rfl⟩
theorem dM_action_81 : Dc mM_action 81 .iastore 1 82 := ⟨by decide +kernel, rfl⟩
theorem dM_action_82 : Dc mM_action 82 (.aload_n 0) 1 83 := ⟨by decide +kernel, rfl⟩
theorem dM_action_83 : Dc mM_action 83 (.getfield 77) 3 86 := ⟨by decide +kernel, rfl⟩
theorem dM_action_86 : Dc mM_action 86 (.iload 7) 2 88 := ⟨by decide +kernel, rfl⟩
theorem dM_action_88 : Dc mM_action 88 (.iconst 1) 1 89 := ⟨by decide +kernel, rfl⟩
theorem dM_action_89 : Dc mM_action 89 .iadd 1 90 := ⟨by decide +kernel, rfl⟩
theorem dM_action_90 : Dc mM_action 90 (.iload_n 2) 1 91 := ⟨by decide +kernel, rfl⟩
theorem dM_action_91 : Dc mM_action 91 .iastore 1 92 := ⟨by decide +kernel, rfl⟩
theorem dM_action_92 : Dc mM_action 92 (.aload_n 0) 1 93 := ⟨by decide +kernel, rfl⟩
theorem dM_action_93 : Dc mM_action 93 (.getfield 77) 3 96 := ⟨by decide +kernel, rfl⟩
theorem dM_action_96 : Dc mM_action 96 (.iload 7) 2 98 := ⟨by decide +kernel, rfl⟩
theorem dM_action_98 : Dc mM_action 98 (.iconst 2) 1 99 := ⟨by decide +kernel, rfl⟩
theorem dM_action_99 : Dc mM_action 99 .iadd 1 100 := ⟨by decide +kernel, rfl⟩
theorem dM_action_100 : Dc mM_action 100 (.iload_n 3) 1 101 := ⟨by decide +kernel, rfl⟩
theorem dM_action_101 : Dc mM_action 101 .iastore 1 102 := ⟨by decide +kernel, rfl⟩
theorem dM_action_102 : Dc mM_action 102 (.aload_n 0) 1 103 := ⟨by decide +kernel, rfl⟩
theorem dM_action_103 : Dc mM_action 103 (.getfield 77) 3 106 := ⟨by decide +kernel, rfl⟩
theorem dM_action_106 : Dc mM_action 106 (.iload 7) 2 108 := ⟨by decide +kernel, rfl⟩
theorem dM_action_108 : Dc mM_action 108 (.iconst 3) 1 109 := ⟨by decide +kernel, rfl⟩
theorem dM_action_109 : Dc mM_action 109 .iadd 1 110 := ⟨by decide +kernel, rfl⟩
theorem dM_action_110 : Dc mM_action 110 (.iload 4) 2 112 := ⟨by decide +kernel, rfl⟩
theorem dM_action_112 : Dc mM_action 112 .iastore 1 113 := ⟨by decide +kernel, rfl⟩
theorem dM_action_113 : Dc mM_action 113 (.aload_n 0) 1 114 := ⟨by decide +kernel, rfl⟩
theorem dM_action_114 : Dc mM_action 114 (.getfield 77) 3 117 := ⟨by decide +kernel, rfl⟩
theorem dM_action_117 : Dc mM_action 117 (.iload 7) 2 119 := ⟨by decide +kernel, rfl⟩
theorem dM_action_119 : Dc mM_action 119 (.iconst 4) 1 120 := ⟨by decide +kernel, rfl⟩
theorem dM_action_120 : Dc mM_action 120 .iadd 1 121 := ⟨by decide +kernel, rfl⟩
theorem dM_action_121 : Dc mM_action 121 (.iload 5) 2 123 := ⟨by decide +kernel, rfl⟩
theorem dM_action_123 : Dc mM_action 123 .iastore 1 124 := ⟨by decide +kernel, rfl⟩
theorem dM_action_124 : Dc mM_action 124 (.aload_n 0) 1 125 := ⟨by decide +kernel, rfl⟩
theorem dM_action_125 : Dc mM_action 125 (.getfield 77) 3 128 := ⟨by decide +kernel, rfl⟩
theorem dM_action_128 : Dc mM_action 128 (.iload 7) 2 130 := ⟨by decide +kernel, rfl⟩
theorem dM_action_130 : Dc mM_action 130 (.iconst 5) 1 131 := ⟨by decide +kernel, rfl⟩
theorem dM_action_131 : Dc mM_action 131 .iadd 1 132 := ⟨by decide +kernel, rfl⟩
theorem dM_action_132 : Dc mM_action 132 (.iload 6) 2 134 := ⟨by decide +kernel, rfl⟩
theorem dM_action_134 : Dc mM_action 134 .iastore 1 135 := ⟨by decide +kernel, rfl⟩
theorem dM_action_135 : Dc mM_action 135 (.aload_n 0) 1 136 := ⟨by decide +kernel, rfl⟩
theorem dM_action_136 : Dc mM_action 136 .dup 1 137 := ⟨by decide +kernel, rfl⟩
theorem dM_action_137 : Dc mM_action 137 (.getfield 227) 3 140 := ⟨by decide +kernel, rfl⟩
theorem dM_action_140 : Dc mM_action 140 (.iconst 1) 1 141 := ⟨by decide +kernel, rfl⟩
theorem dM_action_141 : Dc mM_action 141 .iadd 1 142 := ⟨by decide +kernel, rfl⟩
theorem dM_action_142 : Dc mM_action 142 (.putfield 227) 3 145 := ⟨by decide +kernel, rfl⟩
theorem dM_action_145 : Dc mM_action 145 (.aload_n 0) 1 146 := ⟨by decide +kernel, rfl⟩
theorem dM_action_146 : Dc mM_action 146 (.getfield 227) 3 149 := ⟨by decide +kernel, rfl⟩
theorem dM_action_149 : Dc mM_action 149 (.iconst 1) 1 150 := ⟨by decide +kernel, rfl⟩
theorem dM_action_150 : Dc mM_action 150 .isub 1 151 := ⟨by decide +kernel, rfl⟩
theorem dM_action_151 : Dc mM_action 151 .ireturn 1 152 := ⟨by decide +kernel, rfl⟩
theorem dM_isBookOrNone_0 : Dc mM_isBookOrNone 0 (.iload_n 1) 1 1 := ⟨by decide +kernel, rfl⟩
theorem dM_isBookOrNone_1 : Dc mM_isBookOrNone 1 (.bipush (-4)) 2 3 := ⟨by decide +kernel, rfl⟩
theorem dM_isBookOrNone_3 : Db mM_isBookOrNone 3 (.if_icmp .eq) 14 6 := ⟨11, by decide +kernel, by decide, rfl⟩
theorem dM_isBookOrNone_6 : Dc mM_isBookOrNone 6 (.aload_n 0) 1 7 := ⟨by decide +kernel, rfl⟩
theorem dM_isBookOrNone_7 : Dc mM_isBookOrNone 7 (.iload_n 1) 1 8 := ⟨by decide +kernel, rfl⟩
theorem dM_isBookOrNone_8 : Dc mM_isBookOrNone 8 (.invokevirtual 135) 3 11 := ⟨by decide +kernel, rfl⟩
theorem dM_isBookOrNone_11 : Db mM_isBookOrNone 11 (.ifCond .eq) 18 14 := ⟨7, by decide +kernel, by decide, rfl⟩
theorem dM_isBookOrNone_14 : Dc mM_isBookOrNone 14 (.iconst 1) 1 15 := ⟨by decide +kernel, rfl⟩
theorem dM_isBookOrNone_15 : Db mM_isBookOrNone 15 .goto 19 18 := ⟨4, by decide +kernel, by decide, rfl⟩
theorem dM_isBookOrNone_18 : Dc mM_isBookOrNone 18 (.iconst 0) 1 19 := ⟨by decide +kernel, rfl⟩
theorem dM_isBookOrNone_19 : Dc mM_isBookOrNone 19 .ireturn 1 20 := ⟨by decide +kernel, rfl⟩
theorem dM_act_0 : Dc mM_act 0 (.iload_n 1) 1 1 := ⟨by decide +kernel, rfl⟩
theorem dM_act_1 : Dc mM_act 1 (.iconst 0) 1 2 := ⟨by decide +kernel, rfl⟩
theorem dM_act_2 : Dc mM_act 2 (.aload_n 0) 1 3 := ⟨by decide +kernel, rfl⟩
theorem dM_act_3 : Dc mM_act 3 (.getfield 227) 3 6 := ⟨by decide +kernel, rfl⟩
theorem dM_act_6 : Dc mM_act 6 (.iconst 1) 1 7 := ⟨by decide +kernel, rfl⟩
theorem dM_act_7 : Dc mM_act 7 .isub 1 8 := ⟨by decide +kernel, rfl⟩
theorem dM_act_8 : Dc mM_act 8 (.invokestatic 117) 3 11 := ⟨by decide +kernel, rfl⟩
theorem dM_act_11 : Db mM_act 11 (.ifCond .eq) 22 14 := ⟨11, by decide +kernel, by decide, rfl⟩
theorem dM_act_14 : Dc mM_act 14 (.aload_n 0) 1 15 := ⟨by decide +kernel, rfl⟩
theorem dM_act_15 : Dc mM_act 15 (.iload_n 2) 1 16 := ⟨by decide +kernel, rfl⟩
theorem dM_act_16 : Dc mM_act 16 (.invokevirtual 128) 3 19 := ⟨by decide +kernel, rfl⟩
theorem dM_act_19 : Db mM_act 19 (.ifCond .ne) 24 22 := ⟨5, by decide +kernel, by decide, rfl⟩
theorem dM_act_22 : Dc mM_act 22 (.iconst (-1)) 1 23 := ⟨by decide +kernel, rfl⟩
theorem dM_act_23 : Dc mM_act 23 .ireturn 1 24 := ⟨by decide +kernel, rfl⟩
theorem dM_act_24 : Dc mM_act 24 (.aload_n 0) 1 25 := ⟨by decide +kernel, rfl⟩
theorem dM_act_25 : Dc mM_act 25 (.iconst 1) 1 26 := ⟨by decide +kernel, rfl⟩
theorem dM_act_26 : Dc mM_act 26 (.putfield 187) 3 29 := ⟨by decide +kernel, rfl⟩
theorem dM_act_29 : Dc mM_act 29 (.iconst 0) 1 30 := ⟨by decide +kernel, rfl⟩
theorem dM_act_30 : Dc mM_act 30 (.istore_n 3) 1 31 := ⟨by decide +kernel, rfl⟩
theorem dM_act_31 : Dc mM_act 31 (.iload_n 3) 1 32 := ⟨by decide +kernel, rfl⟩
theorem dM_act_32 : Dc mM_act 32 (.bipush 6) 2 34 := ⟨by decide +kernel, rfl⟩
theorem dM_act_34 : Db mM_act 34 (.if_icmp .ge) 123 37 := ⟨89, by decide +kernel, by decide, rfl⟩
theorem dM_act_37 : Dc mM_act 37 (.aload_n 0) 1 38 := ⟨by decide +kernel, rfl⟩
theorem dM_act_38 : Dc mM_act 38 (.getfield 77) 3 41 := ⟨by decide +kernel, rfl⟩
theorem dM_act_41 : Dc mM_act 41 (.bipush 6) 2 43 := ⟨by decide +kernel, rfl⟩
theorem dM_act_43 : Dc mM_act 43 (.iload_n 1) 1 44 := ⟨by decide +kernel, rfl⟩
theorem dM_act_44 : Dc mM_act 44 .imul 1 45 := ⟨by decide +kernel, rfl⟩
theorem dM_act_45 : Dc mM_act 45 (.iload_n 3) 1 46 := ⟨by decide +kernel, rfl⟩
theorem dM_act_46 : Dc mM_act 46 .iadd 1 47 := ⟨by decide +kernel, rfl⟩
theorem dM_act_47 : Dc mM_act 47 .iaload 1 48 := ⟨by decide +kernel, rfl⟩
theorem dM_act_48 : Dc mM_act 48 (.istore 4) 2 50 := ⟨by decide +kernel, rfl⟩
theorem dM_act_50 : Dc mM_act 50 (.iload 4) 2 52 := ⟨by decide +kernel, rfl⟩
theorem dM_act_52 : Dc mM_act 52 (.bipush (-4)) 2 54 := ⟨by decide +kernel, rfl⟩
theorem dM_act_54 : Db mM_act 54 (.if_icmp .ne) 61 57 := ⟨7, by decide +kernel, by decide, rfl⟩
theorem dM_act_57 : Dc mM_act 57 (.iconst 0) 1 58 := ⟨by decide +kernel, rfl⟩
theorem dM_act_58 : Db mM_act 58 .goto 68 61 := ⟨10, by decide +kernel, by decide, rfl⟩
theorem dM_act_61 : Dc mM_act 61 (.aload_n 0) 1 62 := ⟨by decide +kernel, rfl⟩
theorem dM_act_62 : Dc mM_act 62 (.iload 4) 2 64 := ⟨by decide +kernel, rfl⟩
theorem dM_act_64 : Dc mM_act 64 (.iload_n 2) 1 65 := ⟨by decide +kernel, rfl⟩
theorem dM_act_65 : Dc mM_act 65 (.invokevirtual 221) 3 68 := ⟨by decide +kernel, rfl⟩
theorem dM_act_68 : Dc mM_act 68 (.istore 5) 2 70 := ⟨by decide +kernel, rfl⟩
theorem dM_act_70 : Dc mM_act 70 (.iload 4) 2 72 := ⟨by decide +kernel, rfl⟩
theorem dM_act_72 : Dc mM_act 72 (.bipush (-4)) 2 74 := ⟨by decide +kernel, rfl⟩
theorem dM_act_74 : Db mM_act 74 (.if_icmp .eq) 92 77 := ⟨18, by decide +kernel, by decide, rfl⟩
theorem dM_act_77 : Dc mM_act 77 (.aload_n 0) 1 78 := ⟨by decide +kernel, rfl⟩
theorem dM_act_78 : Dc mM_act 78 (.getfield 194) 3 81 := ⟨by decide +kernel, rfl⟩
theorem dM_act_81 : Db mM_act 81 (.ifCond .eq) 92 84 := ⟨11, by decide +kernel, by decide, rfl⟩
theorem dM_act_84 : Dc mM_act 84 (.bipush (-10)) 2 86 := ⟨by decide +kernel, rfl⟩
theorem dM_act_86 : Dc mM_act 86 (.aload_n 0) 1 87 := ⟨by decide +kernel, rfl⟩
theorem dM_act_87 : Dc mM_act 87 (.getfield 211) 3 90 := ⟨by decide +kernel, rfl⟩
theorem dM_act_90 : Dc mM_act 90 .isub 1 91 := ⟨by decide +kernel, rfl⟩
theorem dM_act_91 : Dc mM_act 91 .ireturn 1 92 := ⟨by decide +kernel, rfl⟩
theorem dM_act_92 : Dc mM_act 92 (.iload 5) 2 94 := ⟨by decide +kernel, rfl⟩
theorem dM_act_94 : Db mM_act 94 (.ifCond .eq) 117 97 := ⟨23, by decide +kernel, by decide, rfl⟩
theorem dM_act_97 : Dc mM_act 97 (.iload_n 3) 1 98 := ⟨by decide +kernel, rfl⟩
theorem dM_act_98 : Dc mM_act 98 (.iconst 3) 1 99 := ⟨by decide +kernel, rfl⟩
theorem dM_act_99 : Db mM_act 99 (.if_icmp .eq) 117 102 := ⟨18, by decide +kernel, by decide, rfl⟩
theorem dM_act_102 : Dc mM_act 102 (.iload_n 3) 1 103 := ⟨by decide +kernel, rfl⟩
theorem dM_act_103 : Dc mM_act 103 (.iconst 5) 1 104 := ⟨by decide +kernel, rfl⟩
theorem dM_act_104 : Db mM_act 104 (.if_icmp .eq) 117 107 := ⟨13, by decide +kernel, by decide, rfl⟩
theorem dM_act_107 : Dc mM_act 107 (.bipush 100) 2 109 := ⟨by decide +kernel, rfl⟩
theorem dM_act_109 : Dc mM_act 109 (.iload_n 3) 1 110 := ⟨by decide +kernel, rfl⟩
theorem dM_act_110 : Dc mM_act 110 (.iconst 1) 1 111 := ⟨by decide +kernel, rfl⟩
theorem dM_act_111 : Dc mM_act 111 .iadd 1 112 := ⟨by decide +kernel, rfl⟩
theorem dM_act_112 : Dc mM_act 112 .imul 1 113 := ⟨by decide +kernel, rfl⟩
theorem dM_act_113 : Dc mM_act 113 (.iload 5) 2 115 := ⟨by decide +kernel, rfl⟩
theorem dM_act_115 : Dc mM_act 115 .iadd 1 116 := ⟨by decide +kernel, rfl⟩
theorem dM_act_116 : Dc mM_act 116 .ireturn 1 117 := ⟨by decide +kernel, rfl⟩
theorem dM_act_117 : Dc mM_act 117 (.iinc 3 1) 3 120 := ⟨by decide +kernel, rfl⟩
theorem dM_act_120 : Db mM_act 120 .goto 31 123 := ⟨(-89), by decide +kernel, by decide, rfl⟩
theorem dM_act_123 : Dc mM_act 123 (.iconst 0) 1 124 := ⟨by decide +kernel, rfl⟩
theorem dM_act_124 : Dc mM_act 124 .ireturn 1 125 := ⟨by decide +kernel, rfl⟩
theorem dM_activity_0 : Dc mM_activity 0 (.aload_n 0) 1 1 := ⟨by decide +kernel, rfl⟩
theorem dM_activity_1 : Dc mM_activity 1 (.iload_n 1) 1 2 := ⟨by decide +kernel, rfl⟩
theorem dM_activity_2 : Dc mM_activity 2 (.invokevirtual 224) 3 5 := ⟨by decide +kernel, rfl⟩
theorem dM_activity_5 : Db mM_activity 5 (.ifCond .eq) 24 8 := ⟨19, by decide +kernel, by decide, rfl⟩
theorem dM_activity_8 : Dc mM_activity 8 (.aload_n 0) 1 9 := ⟨by decide +kernel, rfl⟩
theorem dM_activity_9 : Dc mM_activity 9 (.iload_n 2) 1 10 := ⟨by decide +kernel, rfl⟩
theorem dM_activity_10 : Dc mM_activity 10 (.invokevirtual 224) 3 13 := ⟨by decide +kernel, rfl⟩
theorem dM_activity_13 : Db mM_activity 13 (.ifCond .eq) 24 16 := ⟨11, by decide +kernel, by decide, rfl⟩
theorem dM_activity_16 : Dc mM_activity 16 (.aload_n 0) 1 17 := ⟨by decide +kernel, rfl⟩
theorem dM_activity_17 : Dc mM_activity 17 (.iload_n 3) 1 18 := ⟨by decide +kernel, rfl⟩
theorem dM_activity_18 : Dc mM_activity 18 (.invokevirtual 224) 3 21 := ⟨by decide +kernel, rfl⟩
theorem dM_activity_21 : Db mM_activity 21 (.ifCond .ne) 26 24 := ⟨5, by decide +kernel, by decide, rfl⟩
theorem dM_activity_24 : Dc mM_activity 24 (.iconst (-1)) 1 25 := ⟨by decide +kernel, rfl⟩
theorem dM_activity_25 : Dc mM_activity 25 .ireturn 1 26 := ⟨by decide +kernel, rfl⟩
theorem dM_activity_26 : Dc mM_activity 26 (.aload_n 0) 1 27 := ⟨by decide +kernel, rfl⟩
theorem dM_activity_27 : Dc mM_activity 27 (.getfield 230) 3 30 := ⟨by decide +kernel, rfl⟩
theorem dM_activity_30 : Dc mM_activity 30 (.bipush 6) 2 32 := ⟨by decide +kernel, rfl⟩
theorem dM_activity_32 : Db mM_activity 32 (.if_icmp .ne) 38 35 := ⟨6, by decide +kernel, by decide, rfl⟩
theorem dM_activity_35 : Dc mM_activity 35 (.bipush (-3)) 2 37 := ⟨by decide +kernel, rfl⟩
theorem dM_activity_37 : Dc mM_activity 37 .ireturn 1 38 := ⟨by decide +kernel, rfl⟩
theorem dM_activity_38 : Dc mM_activity 38 (.aload_n 0) 1 39 := ⟨by decide +kernel, rfl⟩
theorem dM_activity_39 : Dc mM_activity 39 (.getfield 80) 3 42 := ⟨by decide +kernel, rfl⟩
theorem dM_activity_42 : Dc mM_activity 42 (.iconst 3) 1 43 := ⟨by decide +kernel, rfl⟩
theorem dM_activity_43 : Dc mM_activity 43 (.aload_n 0) 1 44 := ⟨by decide +kernel, rfl⟩
theorem dM_activity_44 : Dc mM_activity 44 (.getfield 230) 3 47 := ⟨by decide +kernel, rfl⟩
theorem dM_activity_47 : Dc mM_activity 47 .imul 1 48 := ⟨by decide +kernel, rfl⟩
theorem dM_activity_48 : Dc mM_activity 48 (.iload_n 1) 1 49 := ⟨by decide +kernel, rfl⟩
theorem dM_activity_49 : Dc mM_activity 49 .iastore 1 50 := ⟨by decide +kernel, rfl⟩
theorem dM_activity_50 : Dc mM_activity 50 (.aload_n 0) 1 51 := ⟨by decide +kernel, rfl⟩
theorem dM_activity_51 : Dc mM_activity 51 (.getfield 80) 3 54 := ⟨by decide +kernel, rfl⟩
theorem dM_activity_54 : Dc mM_activity 54 (.iconst 3) 1 55 := ⟨by decide +kernel, rfl⟩
theorem dM_activity_55 : Dc mM_activity 55 (.aload_n 0) 1 56 := ⟨by decide +kernel, rfl⟩
theorem dM_activity_56 : Dc mM_activity 56 (.getfield 230) 3 59 := ⟨by decide +kernel, rfl⟩
theorem dM_activity_59 : Dc mM_activity 59 .imul 1 60 := ⟨by decide +kernel, rfl⟩
theorem dM_activity_60 : Dc mM_activity 60 (.iconst 1) 1 61 := ⟨by decide +kernel, rfl⟩
theorem dM_activity_61 : Dc mM_activity 61 .iadd 1 62 := ⟨by decide +kernel, rfl⟩
theorem dM_activity_62 : Dc mM_activity 62 (.iload_n 2) 1 63 := ⟨by decide +kernel, rfl⟩
theorem dM_activity_63 : Dc mM_activity 63 .iastore 1 64 := ⟨by decide +kernel, rfl⟩
theorem dM_activity_64 : Dc mM_activity 64 (.aload_n 0) 1 65 := ⟨by decide +kernel, rfl⟩
theorem dM_activity_65 : Dc mM_activity 65 (.getfield 80) 3 68 := ⟨by decide +kernel, rfl⟩
theorem dM_activity_68 : Dc mM_activity 68 (.iconst 3) 1 69 := ⟨by decide +kernel, rfl⟩
theorem dM_activity_69 : Dc mM_activity 69 (.aload_n 0) 1 70 := ⟨by decide +kernel, rfl⟩
theorem dM_activity_70 : Dc mM_activity 70 (.getfield 230) 3 73 := ⟨by decide +kernel, rfl⟩
theorem dM_activity_73 : Dc mM_activity 73 .imul 1 74 := ⟨by decide +kernel, rfl⟩
theorem dM_activity_74 : Dc mM_activity 74 (.iconst 2) 1 75 := ⟨by decide +kernel, rfl⟩
theorem dM_activity_75 : Dc mM_activity 75 .iadd 1 76 := ⟨by decide +kernel, rfl⟩
theorem dM_activity_76 : Dc mM_activity 76 (.iload_n 3) 1 77 := ⟨by decide +kernel, rfl⟩
theorem dM_activity_77 : Dc mM_activity 77 .iastore 1 78 := ⟨by decide +kernel, rfl⟩
theorem dM_activity_78 : Dc mM_activity 78 (.aload_n 0) 1 79 := ⟨by decide +kernel, rfl⟩
theorem dM_activity_79 : Dc mM_activity 79 .dup 1 80 := ⟨by decide +kernel, rfl⟩
theorem dM_activity_80 : Dc mM_activity 80 (.getfield 230) 3 83 := ⟨by decide +kernel, rfl⟩
theorem dM_activity_83 : Dc mM_activity 83 (.iconst 1) 1 84 := ⟨by decide +kernel, rfl⟩
theorem dM_activity_84 : Dc mM_activity 84 .iadd 1 85 := ⟨by decide +kernel, rfl⟩
theorem dM_activity_85 : Dc mM_activity 85 (.putfield 230) 3 88 := ⟨by decide +kernel, rfl⟩
theorem dM_activity_88 : Dc mM_activity 88 (.aload_n 0) 1 89 := ⟨by decide +kernel, rfl⟩
theorem dM_activity_89 : Dc mM_activity 89 (.getfield 230) 3 92 := ⟨by decide +kernel, rfl⟩
theorem dM_activity_92 : Dc mM_activity 92 (.iconst 1) 1 93 := ⟨by decide +kernel, rfl⟩
theorem dM_activity_93 : Dc mM_activity 93 .isub 1 94 := ⟨by decide +kernel, rfl⟩
theorem dM_activity_94 : Dc mM_activity 94 .ireturn 1 95 := ⟨by decide +kernel, rfl⟩
theorem dM_begin_0 : Dc mM_begin 0 (.iload_n 1) 1 1 := ⟨by decide +kernel, rfl⟩
theorem dM_begin_1 : Dc mM_begin 1 (.iconst 0) 1 2 := ⟨by decide +kernel, rfl⟩
theorem dM_begin_2 : Dc mM_begin 2 (.aload_n 0) 1 3 := ⟨by decide +kernel, rfl⟩
theorem dM_begin_3 : Dc mM_begin 3 (.getfield 230) 3 6 := ⟨by decide +kernel, rfl⟩
theorem dM_begin_6 : Dc mM_begin 6 (.iconst 1) 1 7 := ⟨by decide +kernel, rfl⟩
theorem dM_begin_7 : Dc mM_begin 7 .isub 1 8 := ⟨by decide +kernel, rfl⟩
theorem dM_begin_8 : Dc mM_begin 8 (.invokestatic 117) 3 11 := ⟨by decide +kernel, rfl⟩
theorem dM_begin_11 : Db mM_begin 11 (.ifCond .eq) 22 14 := ⟨11, by decide +kernel, by decide, rfl⟩
theorem dM_begin_14 : Dc mM_begin 14 (.aload_n 0) 1 15 := ⟨by decide +kernel, rfl⟩
theorem dM_begin_15 : Dc mM_begin 15 (.iload_n 2) 1 16 := ⟨by decide +kernel, rfl⟩
theorem dM_begin_16 : Dc mM_begin 16 (.invokevirtual 128) 3 19 := ⟨by decide +kernel, rfl⟩
theorem dM_begin_19 : Db mM_begin 19 (.ifCond .ne) 24 22 := ⟨5, by decide +kernel, by decide, rfl⟩
theorem dM_begin_22 : Dc mM_begin 22 (.iconst (-1)) 1 23 := ⟨by decide +kernel, rfl⟩
theorem dM_begin_23 : Dc mM_begin 23 .ireturn 1 24 := ⟨by decide +kernel, rfl⟩
theorem dM_begin_24 : Dc mM_begin 24 (.aload_n 0) 1 25 := ⟨by decide +kernel, rfl⟩
theorem dM_begin_25 : Dc mM_begin 25 (.getfield 233) 3 28 := ⟨by decide +kernel, rfl⟩
theorem dM_begin_28 : Dc mM_begin 28 (.iconst 4) 1 29 := ⟨by decide +kernel, rfl⟩
theorem dM_begin_29 : Db mM_begin 29 (.if_icmp .ne) 35 32 := ⟨6, by decide +kernel, by decide, rfl⟩
theorem dM_begin_32 : Dc mM_begin 32 (.bipush (-3)) 2 34 := ⟨by decide +kernel, rfl⟩
theorem dM_begin_34 : Dc mM_begin 34 .ireturn 1 35 := ⟨by decide +kernel, rfl⟩
theorem dM_begin_35 : Dc mM_begin 35 (.aload_n 0) 1 36 := ⟨by decide +kernel, rfl⟩
theorem dM_begin_36 : Dc mM_begin 36 (.iload_n 1) 1 37 := ⟨by decide +kernel, rfl⟩
theorem dM_begin_37 : Dc mM_begin 37 (.iconst 0) 1 38 := ⟨by decide +kernel, rfl⟩
theorem dM_begin_38 : Dc mM_begin 38 (.iload_n 2) 1 39 := ⟨by decide +kernel, rfl⟩
theorem dM_begin_39 : Dc mM_begin 39 (.invokevirtual 236) 3 42 := ⟨by decide +kernel, rfl⟩
theorem dM_begin_42 : Dc mM_begin 42 (.istore_n 3) 1 43 := ⟨by decide +kernel, rfl⟩
theorem dM_begin_43 : Dc mM_begin 43 (.iload_n 3) 1 44 := ⟨by decide +kernel, rfl⟩
theorem dM_begin_44 : Dc mM_begin 44 (.bipush (-2)) 2 46 := ⟨by decide +kernel, rfl⟩
theorem dM_begin_46 : Db mM_begin 46 (.if_icmp .le) 79 49 := ⟨33, by decide +kernel, by decide, rfl⟩
theorem dM_begin_49 : Dc mM_begin 49 (.aload_n 0) 1 50 := ⟨by decide +kernel, rfl⟩
theorem dM_begin_50 : Dc mM_begin 50 (.getfield 83) 3 53 := ⟨by decide +kernel, rfl⟩
theorem dM_begin_53 : Dc mM_begin 53 (.aload_n 0) 1 54 := ⟨by decide +kernel, rfl⟩
theorem dM_begin_54 : Dc mM_begin 54 (.getfield 233) 3 57 := ⟨by decide +kernel, rfl⟩
theorem dM_begin_57 : Dc mM_begin 57 (.iload_n 1) 1 58 := ⟨by decide +kernel, rfl⟩
theorem dM_begin_58 : Dc mM_begin 58 .iastore 1 59 := ⟨by decide +kernel, rfl⟩
theorem dM_begin_59 : Dc mM_begin 59 (.aload_n 0) 1 60 := ⟨by decide +kernel, rfl⟩
theorem dM_begin_60 : Dc mM_begin 60 (.getfield 86) 3 63 := ⟨by decide +kernel, rfl⟩
theorem dM_begin_63 : Dc mM_begin 63 (.aload_n 0) 1 64 := ⟨by decide +kernel, rfl⟩
theorem dM_begin_64 : Dc mM_begin 64 (.getfield 233) 3 67 := ⟨by decide +kernel, rfl⟩
theorem dM_begin_67 : Dc mM_begin 67 (.iload_n 2) 1 68 := ⟨by decide +kernel, rfl⟩
theorem dM_begin_68 : Dc mM_begin 68 .iastore 1 69 := ⟨by decide +kernel, rfl⟩
theorem dM_begin_69 : Dc mM_begin 69 (.aload_n 0) 1 70 := ⟨by decide +kernel, rfl⟩
theorem dM_begin_70 : Dc mM_begin 70 .dup 1 71 := ⟨by decide +kernel, rfl⟩
theorem dM_begin_71 : Dc mM_begin 71 (.getfield 233) 3 74 := ⟨by decide +kernel, rfl⟩
theorem dM_begin_74 : Dc mM_begin 74 (.iconst 1) 1 75 := ⟨by decide +kernel, rfl⟩
theorem dM_begin_75 : Dc mM_begin 75 .iadd 1 76 := ⟨by decide +kernel, rfl⟩
theorem dM_begin_76 : Dc mM_begin 76 (.putfield 233) 3 79 := ⟨by decide +kernel, rfl⟩
theorem dM_begin_79 : Dc mM_begin 79 (.iload_n 3) 1 80 := ⟨by decide +kernel, rfl⟩
theorem dM_begin_80 : Dc mM_begin 80 .ireturn 1 81 := ⟨by decide +kernel, rfl⟩
theorem dM_part_0 : Dc mM_part 0 (.aload_n 0) 1 1 := ⟨by decide +kernel, rfl⟩
theorem dM_part_1 : Dc mM_part 1 (.getfield 80) 3 4 := ⟨by decide +kernel, rfl⟩
theorem dM_part_4 : Dc mM_part 4 (.iconst 3) 1 5 := ⟨by decide +kernel, rfl⟩
theorem dM_part_5 : Dc mM_part 5 (.iload_n 1) 1 6 := ⟨by decide +kernel, rfl⟩
theorem dM_part_6 : Dc mM_part 6 .imul 1 7 := ⟨by decide +kernel, rfl⟩
theorem dM_part_7 : Dc mM_part 7 (.iload_n 2) 1 8 := ⟨by decide +kernel, rfl⟩
theorem dM_part_8 : Dc mM_part 8 .iadd 1 9 := ⟨by decide +kernel, rfl⟩
theorem dM_part_9 : Dc mM_part 9 .iaload 1 10 := ⟨by decide +kernel, rfl⟩
theorem dM_part_10 : Dc mM_part 10 (.istore 4) 2 12 := ⟨by decide +kernel, rfl⟩
theorem dM_part_12 : Dc mM_part 12 (.aload_n 0) 1 13 := ⟨by decide +kernel, rfl⟩
theorem dM_part_13 : Dc mM_part 13 (.iconst 1) 1 14 := ⟨by decide +kernel, rfl⟩
theorem dM_part_14 : Dc mM_part 14 (.putfield 187) 3 17 := ⟨by decide +kernel, rfl⟩
theorem dM_part_17 : Dc mM_part 17 (.iload 4) 2 19 := ⟨by decide +kernel, rfl⟩
theorem dM_part_19 : Dc mM_part 19 (.bipush (-4)) 2 21 := ⟨by decide +kernel, rfl⟩
theorem dM_part_21 : Db mM_part 21 (.if_icmp .ne) 28 24 := ⟨7, by decide +kernel, by decide, rfl⟩
theorem dM_part_24 : Dc mM_part 24 (.iconst 0) 1 25 := ⟨by decide +kernel, rfl⟩
theorem dM_part_25 : Db mM_part 25 .goto 35 28 := ⟨10, by decide +kernel, by decide, rfl⟩
theorem dM_part_28 : Dc mM_part 28 (.aload_n 0) 1 29 := ⟨by decide +kernel, rfl⟩
theorem dM_part_29 : Dc mM_part 29 (.iload 4) 2 31 := ⟨by decide +kernel, rfl⟩
theorem dM_part_31 : Dc mM_part 31 (.iload_n 3) 1 32 := ⟨by decide +kernel, rfl⟩
theorem dM_part_32 : Dc mM_part 32 (.invokevirtual 218) 3 35 := ⟨by decide +kernel, rfl⟩
theorem dM_part_35 : Dc mM_part 35 .ireturn 1 36 := ⟨by decide +kernel, rfl⟩
theorem dM_middle_0 : Dc mM_middle 0 (.aload_n 0) 1 1 := ⟨by decide +kernel, rfl⟩
theorem dM_middle_1 : Dc mM_middle 1 (.getfield 233) 3 4 := ⟨by decide +kernel, rfl⟩
theorem dM_middle_4 : Db mM_middle 4 (.ifCond .ne) 12 7 := ⟨8, by decide +kernel, by decide, rfl⟩
theorem dM_middle_7 : Dc mM_middle 7 (.bipush (-2)) 2 9 := ⟨by decide +kernel, rfl⟩
theorem dM_middle_9 : Db mM_middle 9 .goto 39 12 := ⟨30, by decide +kernel, by decide, rfl⟩
theorem dM_middle_12 : Dc mM_middle 12 (.aload_n 0) 1 13 := ⟨by decide +kernel, rfl⟩
theorem dM_middle_13 : Dc mM_middle 13 (.aload_n 0) 1 14 := ⟨by decide +kernel, rfl⟩
theorem dM_middle_14 : Dc mM_middle 14 (.getfield 83) 3 17 := ⟨by decide +kernel, rfl⟩
theorem dM_middle_17 : Dc mM_middle 17 (.aload_n 0) 1 18 := ⟨by decide +kernel, rfl⟩
theorem dM_middle_18 : Dc mM_middle 18 (.getfield 233) 3 21 := ⟨by decide +kernel, rfl⟩
theorem dM_middle_21 : Dc mM_middle 21 (.iconst 1) 1 22 := ⟨by decide +kernel, rfl⟩
theorem dM_middle_22 : Dc mM_middle 22 .isub 1 23 := ⟨by decide +kernel, rfl⟩
theorem dM_middle_23 : Dc mM_middle 23 .iaload 1 24 := ⟨by decide +kernel, rfl⟩
theorem dM_middle_24 : Dc mM_middle 24 (.iconst 1) 1 25 := ⟨by decide +kernel, rfl⟩
theorem dM_middle_25 : Dc mM_middle 25 (.aload_n 0) 1 26 := ⟨by decide +kernel, rfl⟩
theorem dM_middle_26 : Dc mM_middle 26 (.getfield 86) 3 29 := ⟨by decide +kernel, rfl⟩
theorem dM_middle_29 : Dc mM_middle 29 (.aload_n 0) 1 30 := ⟨by decide +kernel, rfl⟩
theorem dM_middle_30 : Dc mM_middle 30 (.getfield 233) 3 33 := ⟨by decide +kernel, rfl⟩
theorem dM_middle_33 : Dc mM_middle 33 (.iconst 1) 1 34 := ⟨by decide +kernel, rfl⟩
theorem dM_middle_34 : Dc mM_middle 34 .isub 1 35 := ⟨by decide +kernel, rfl⟩
theorem dM_middle_35 : Dc mM_middle 35 .iaload 1 36 := ⟨by decide +kernel, rfl⟩
theorem dM_middle_36 : Dc mM_middle 36 (.invokevirtual 236) 3 39 := ⟨by decide +kernel, rfl⟩
theorem dM_middle_39 : Dc mM_middle 39 .ireturn 1 40 := ⟨by decide +kernel, rfl⟩
theorem dM_finish_0 : Dc mM_finish 0 (.aload_n 0) 1 1 := ⟨by decide +kernel, rfl⟩
theorem dM_finish_1 : Dc mM_finish 1 (.getfield 233) 3 4 := ⟨by decide +kernel, rfl⟩
theorem dM_finish_4 : Db mM_finish 4 (.ifCond .ne) 10 7 := ⟨6, by decide +kernel, by decide, rfl⟩
theorem dM_finish_7 : Dc mM_finish 7 (.bipush (-2)) 2 9 := ⟨by decide +kernel, rfl⟩
theorem dM_finish_9 : Dc mM_finish 9 .ireturn 1 10 := ⟨by decide +kernel, rfl⟩
theorem dM_finish_10 : Dc mM_finish 10 (.aload_n 0) 1 11 := ⟨by decide +kernel, rfl⟩
theorem dM_finish_11 : Dc mM_finish 11 .dup 1 12 := ⟨by decide +kernel, rfl⟩
theorem dM_finish_12 : Dc mM_finish 12 (.getfield 233) 3 15 := ⟨by decide +kernel, rfl⟩
theorem dM_finish_15 : Dc mM_finish 15 (.iconst 1) 1 16 := ⟨by decide +kernel, rfl⟩
theorem dM_finish_16 : Dc mM_finish 16 .isub 1 17 := ⟨by decide +kernel, rfl⟩
theorem dM_finish_17 : Dc mM_finish 17 (.putfield 233) 3 20 := ⟨by decide +kernel, rfl⟩
theorem dM_finish_20 : Dc mM_finish 20 (.aload_n 0) 1 21 := ⟨by decide +kernel, rfl⟩
theorem dM_finish_21 : Dc mM_finish 21 (.aload_n 0) 1 22 := ⟨by decide +kernel, rfl⟩
theorem dM_finish_22 : Dc mM_finish 22 (.getfield 83) 3 25 := ⟨by decide +kernel, rfl⟩
theorem dM_finish_25 : Dc mM_finish 25 (.aload_n 0) 1 26 := ⟨by decide +kernel, rfl⟩
theorem dM_finish_26 : Dc mM_finish 26 (.getfield 233) 3 29 := ⟨by decide +kernel, rfl⟩
theorem dM_finish_29 : Dc mM_finish 29 .iaload 1 30 := ⟨by decide +kernel, rfl⟩
theorem dM_finish_30 : Dc mM_finish 30 (.iconst 2) 1 31 := ⟨by decide +kernel, rfl⟩
theorem dM_finish_31 : Dc mM_finish 31 (.aload_n 0) 1 32 := ⟨by decide +kernel, rfl⟩
theorem dM_finish_32 : Dc mM_finish 32 (.getfield 86) 3 35 := ⟨by decide +kernel, rfl⟩
theorem dM_finish_35 : Dc mM_finish 35 (.aload_n 0) 1 36 := ⟨by decide +kernel, rfl⟩
theorem dM_finish_36 : Dc mM_finish 36 (.getfield 233) 3 39 := ⟨by decide +kernel, rfl⟩
theorem dM_finish_39 : Dc mM_finish 39 .iaload 1 40 := ⟨by decide +kernel, rfl⟩
theorem dM_finish_40 : Dc mM_finish 40 (.invokevirtual 236) 3 43 := ⟨by decide +kernel, rfl⟩
theorem dM_finish_43 : Dc mM_finish 43 .ireturn 1 44 := ⟨by decide +kernel, rfl⟩
theorem dM_abandon_0 : Dc mM_abandon 0 (.aload_n 0) 1 1 := ⟨by decide +kernel, rfl⟩
theorem dM_abandon_1 : Dc mM_abandon 1 (.getfield 233) 3 4 := ⟨by decide +kernel, rfl⟩
theorem dM_abandon_4 : Db mM_abandon 4 (.ifCond .ne) 10 7 := ⟨6, by decide +kernel, by decide, rfl⟩
theorem dM_abandon_7 : Dc mM_abandon 7 (.bipush (-2)) 2 9 := ⟨by decide +kernel, rfl⟩
theorem dM_abandon_9 : Dc mM_abandon 9 .ireturn 1 10 := ⟨by decide +kernel, rfl⟩
theorem dM_abandon_10 : Dc mM_abandon 10 (.aload_n 0) 1 11 := ⟨by decide +kernel, rfl⟩
theorem dM_abandon_11 : Dc mM_abandon 11 .dup 1 12 := ⟨by decide +kernel, rfl⟩
theorem dM_abandon_12 : Dc mM_abandon 12 (.getfield 233) 3 15 := ⟨by decide +kernel, rfl⟩
theorem dM_abandon_15 : Dc mM_abandon 15 (.iconst 1) 1 16 := ⟨by decide +kernel, rfl⟩
theorem dM_abandon_16 : Dc mM_abandon 16 .isub 1 17 := ⟨by decide +kernel, rfl⟩
theorem dM_abandon_17 : Dc mM_abandon 17 (.putfield 233) 3 20 := ⟨by decide +kernel, rfl⟩
theorem dM_abandon_20 : Dc mM_abandon 20 (.aload_n 0) 1 21 := ⟨by decide +kernel, rfl⟩
theorem dM_abandon_21 : Dc mM_abandon 21 (.getfield 83) 3 24 := ⟨by decide +kernel, rfl⟩
theorem dM_abandon_24 : Dc mM_abandon 24 (.aload_n 0) 1 25 := ⟨by decide +kernel, rfl⟩
theorem dM_abandon_25 : Dc mM_abandon 25 (.getfield 233) 3 28 := ⟨by decide +kernel, rfl⟩
theorem dM_abandon_28 : Dc mM_abandon 28 .iaload 1 29 := ⟨by decide +kernel, rfl⟩
theorem dM_abandon_29 : Dc mM_abandon 29 .ireturn 1 30 := ⟨by decide +kernel, rfl⟩
theorem dM_scene_0 : Dc mM_scene 0 (.iload_n 1) 1 1 := ⟨by decide +kernel, rfl⟩
theorem dM_scene_1 : Dc mM_scene 1 (.iconst 0) 1 2 := ⟨by decide +kernel, rfl⟩
theorem dM_scene_2 : Dc mM_scene 2 (.iconst 1) 1 3 := ⟨by decide +kernel, rfl⟩
theorem dM_scene_3 : Dc mM_scene 3 (.invokestatic 117) 3 6 := ⟨by decide +kernel, rfl⟩
theorem dM_scene_6 : Db mM_scene 6 (.ifCond .ne) 11 9 := ⟨5, by decide +kernel, by decide, rfl⟩
theorem dM_scene_9 : Dc mM_scene 9 (.iconst (-1)) 1 10 := ⟨by decide +kernel, rfl⟩
theorem dM_scene_10 : Dc mM_scene 10 .ireturn 1 11 := ⟨by decide +kernel, rfl⟩
theorem dM_scene_11 : Dc mM_scene 11 (.aload_n 0) 1 12 := ⟨by decide +kernel, rfl⟩
theorem dM_scene_12 : Dc mM_scene 12 (.getfield 144) 3 15 := ⟨by decide +kernel, rfl⟩
theorem dM_scene_15 : Dc mM_scene 15 (.bipush 8) 2 17 := ⟨by decide +kernel, rfl⟩
theorem dM_scene_17 : Db mM_scene 17 (.if_icmp .ne) 23 20 := ⟨6, by decide +kernel, by decide, rfl⟩
theorem dM_scene_20 : Dc mM_scene 20 (.bipush (-3)) 2 22 := ⟨by decide +kernel, rfl⟩
theorem dM_scene_22 : Dc mM_scene 22 .ireturn 1 23 := ⟨by decide +kernel, rfl⟩
theorem dM_scene_23 : Dc mM_scene 23 (.aload_n 0) 1 24 := ⟨by decide +kernel, rfl⟩
theorem dM_scene_24 : Dc mM_scene 24 (.getfield 89) 3 27 := ⟨by decide +kernel, rfl⟩
theorem dM_scene_27 : Dc mM_scene 27 (.aload_n 0) 1 28 := ⟨by decide +kernel, rfl⟩
theorem dM_scene_28 : Dc mM_scene 28 (.getfield 144) 3 31 := ⟨by decide +kernel, rfl⟩
theorem dM_scene_31 : Dc mM_scene 31 (.iload_n 1) 1 32 := ⟨by decide +kernel, rfl⟩
theorem dM_scene_32 : Dc mM_scene 32 .iastore 1 33 := ⟨by decide +kernel, rfl⟩
theorem dM_scene_33 : Dc mM_scene 33 (.aload_n 0) 1 34 := ⟨by decide +kernel, rfl⟩
theorem dM_scene_34 : Dc mM_scene 34 .dup 1 35 := ⟨by decide +kernel, rfl⟩
theorem dM_scene_35 : Dc mM_scene 35 (.getfield 144) 3 38 := ⟨by decide +kernel, rfl⟩
theorem dM_scene_38 : Dc mM_scene 38 (.iconst 1) 1 39 := ⟨by decide +kernel, rfl⟩
theorem dM_scene_39 : Dc mM_scene 39 .iadd 1 40 := ⟨by decide +kernel, rfl⟩
theorem dM_scene_40 : Dc mM_scene 40 (.putfield 144) 3 43 := ⟨by decide +kernel, rfl⟩
theorem dM_scene_43 : Dc mM_scene 43 (.aload_n 0) 1 44 := ⟨by decide +kernel, rfl⟩
theorem dM_scene_44 : Dc mM_scene 44 (.getfield 144) 3 47 := ⟨by decide +kernel, rfl⟩
theorem dM_scene_47 : Dc mM_scene 47 (.iconst 1) 1 48 := ⟨by decide +kernel, rfl⟩
theorem dM_scene_48 : Dc mM_scene 48 .isub 1 49 := ⟨by decide +kernel, rfl⟩
theorem dM_scene_49 : Dc mM_scene 49 .ireturn 1 50 := ⟨by decide +kernel, rfl⟩
theorem dM_anchor_0 : Dc mM_anchor 0 (.iload_n 1) 1 1 := ⟨by decide +kernel, rfl⟩
theorem dM_anchor_1 : Dc mM_anchor 1 (.iconst 0) 1 2 := ⟨by decide +kernel, rfl⟩
theorem dM_anchor_2 : Dc mM_anchor 2 (.aload_n 0) 1 3 := ⟨by decide +kernel, rfl⟩
theorem dM_anchor_3 : Dc mM_anchor 3 (.getfield 144) 3 6 := ⟨by decide +kernel, rfl⟩
theorem dM_anchor_6 : Dc mM_anchor 6 (.iconst 1) 1 7 := ⟨by decide +kernel, rfl⟩
theorem dM_anchor_7 : Dc mM_anchor 7 .isub 1 8 := ⟨by decide +kernel, rfl⟩
theorem dM_anchor_8 : Dc mM_anchor 8 (.invokestatic 117) 3 11 := ⟨by decide +kernel, rfl⟩
theorem dM_anchor_11 : Db mM_anchor 11 (.ifCond .eq) 32 14 := ⟨21, by decide +kernel, by decide, rfl⟩
theorem dM_anchor_14 : Dc mM_anchor 14 (.iload_n 2) 1 15 := ⟨by decide +kernel, rfl⟩
theorem dM_anchor_15 : Dc mM_anchor 15 (.iconst 0) 1 16 := ⟨by decide +kernel, rfl⟩
theorem dM_anchor_16 : Dc mM_anchor 16 (.iconst 1) 1 17 := ⟨by decide +kernel, rfl⟩
theorem dM_anchor_17 : Dc mM_anchor 17 (.invokestatic 117) 3 20 := ⟨by decide +kernel, rfl⟩
theorem dM_anchor_20 : Db mM_anchor 20 (.ifCond .eq) 32 23 := ⟨12, by decide +kernel, by decide, rfl⟩
theorem dM_anchor_23 : Dc mM_anchor 23 (.iload_n 3) 1 24 := ⟨by decide +kernel, rfl⟩
theorem dM_anchor_24 : Dc mM_anchor 24 (.iconst 0) 1 25 := ⟨by decide +kernel, rfl⟩
theorem dM_anchor_25 : Dc mM_anchor 25 (.iconst 4) 1 26 := ⟨by decide +kernel, rfl⟩
theorem dM_anchor_26 : Dc mM_anchor 26 (.invokestatic 117) 3 29 := ⟨by decide +kernel, rfl⟩
theorem dM_anchor_29 : Db mM_anchor 29 (.ifCond .ne) 34 32 := ⟨5, by decide +kernel, by decide, rfl⟩
theorem dM_anchor_32 : Dc mM_anchor 32 (.iconst (-1)) 1 33 := ⟨by decide +kernel, rfl⟩
theorem dM_anchor_33 : Dc mM_anchor 33 .ireturn 1 34 := ⟨by decide +kernel, rfl⟩
theorem dM_anchor_34 : Dc mM_anchor 34 (.iload_n 3) 1 35 := ⟨by decide +kernel, rfl⟩
theorem dM_anchor_35 : Dc mM_anchor 35 (.iconst 1) 1 36 := ⟨by decide +kernel, rfl⟩
theorem dM_anchor_36 : Db mM_anchor 36 (.if_icmp .ne) 44 39 := ⟨8, by decide +kernel, by decide, rfl⟩
theorem dM_anchor_39 : Dc mM_anchor 39 (.iload 4) 2 41 := ⟨by decide +kernel, rfl⟩
theorem dM_anchor_41 : Db mM_anchor 41 (.ifCond .lt) 90 44 := ⟨49, by decide +kernel, by decide, rfl⟩
theorem dM_anchor_44 : Dc mM_anchor 44 (.iload_n 3) 1 45 := ⟨by decide +kernel, rfl⟩
theorem dM_anchor_45 : Dc mM_anchor 45 (.iconst 2) 1 46 := ⟨by decide +kernel, rfl⟩
theorem dM_anchor_46 : Db mM_anchor 46 (.if_icmp .eq) 54 49 := ⟨8, by decide +kernel, by decide, rfl⟩
theorem dM_anchor_49 : Dc mM_anchor 49 (.iload_n 3) 1 50 := ⟨by decide +kernel, rfl⟩
theorem dM_anchor_50 : Dc mM_anchor 50 (.iconst 3) 1 51 := ⟨by decide +kernel, rfl⟩
theorem dM_anchor_51 : Db mM_anchor 51 (.if_icmp .ne) 69 54 := ⟨18, by decide +kernel, by decide, rfl⟩
theorem dM_anchor_54 : Dc mM_anchor 54 (.iload 4) 2 56 := ⟨by decide +kernel, rfl⟩
theorem dM_anchor_56 : Dc mM_anchor 56 (.iconst 0) 1 57 := ⟨by decide +kernel, rfl⟩
theorem dM_anchor_57 : Dc mM_anchor 57 (.aload_n 0) 1 58 := ⟨by decide +kernel, rfl⟩
theorem dM_anchor_58 : Dc mM_anchor 58 (.getfield 144) 3 61 := ⟨by decide +kernel, rfl⟩
theorem dM_anchor_61 : Dc mM_anchor 61 (.iconst 1) 1 62 := ⟨by decide +kernel, rfl⟩
theorem dM_anchor_62 : Dc mM_anchor 62 .isub 1 63 := ⟨by decide +kernel, rfl⟩
theorem dM_anchor_63 : Dc mM_anchor 63 (.invokestatic 117) 3 66 := ⟨by decide +kernel, rfl⟩
theorem dM_anchor_66 : Db mM_anchor 66 (.ifCond .eq) 90 69 := ⟨24, by decide +kernel, by decide, rfl⟩
theorem dM_anchor_69 : Dc mM_anchor 69 (.iload_n 3) 1 70 := ⟨by decide +kernel, rfl⟩
theorem dM_anchor_70 : Dc mM_anchor 70 (.iconst 4) 1 71 := ⟨by decide +kernel, rfl⟩
theorem dM_anchor_71 : Db mM_anchor 71 (.if_icmp .ne) 92 74 := ⟨21, by decide +kernel, by decide, rfl⟩
theorem dM_anchor_74 : Dc mM_anchor 74 (.iload 4) 2 76 := ⟨by decide +kernel, rfl⟩
theorem dM_anchor_76 : Db mM_anchor 76 (.ifCond .lt) 90 79 := ⟨14, by decide +kernel, by decide, rfl⟩
theorem dM_anchor_79 : Dc mM_anchor 79 (.aload_n 0) 1 80 := ⟨by decide +kernel, rfl⟩
theorem dM_anchor_80 : Dc mM_anchor 80 (.iload 4) 2 82 := ⟨by decide +kernel, rfl⟩
theorem dM_anchor_82 : Dc mM_anchor 82 (.iconst 4) 1 83 := ⟨by decide +kernel, rfl⟩
theorem dM_anchor_83 : Dc mM_anchor 83 .idiv 1 84 := ⟨by decide +kernel, rfl⟩
theorem dM_anchor_84 : Dc mM_anchor 84 (.invokevirtual 128) 3 87 := ⟨by decide +kernel, rfl⟩
theorem dM_anchor_87 : Db mM_anchor 87 (.ifCond .ne) 92 90 := ⟨5, by decide +kernel, by decide, rfl⟩
theorem dM_anchor_90 : Dc mM_anchor 90 (.iconst (-1)) 1 91 := ⟨by decide +kernel, rfl⟩
theorem dM_anchor_91 : Dc mM_anchor 91 .ireturn 1 92 := ⟨by decide +kernel, rfl⟩
theorem dM_anchor_92 : Dc mM_anchor 92 (.iconst 2) 1 93 := ⟨by decide +kernel, rfl⟩
theorem dM_anchor_93 : Dc mM_anchor 93 (.iload_n 1) 1 94 := ⟨by decide +kernel, rfl⟩
theorem dM_anchor_94 : Dc mM_anchor 94 .imul 1 95 := ⟨by decide +kernel, rfl⟩
theorem dM_anchor_95 : Dc mM_anchor 95 (.iload_n 2) 1 96 := ⟨by decide +kernel, rfl⟩
theorem dM_anchor_96 : Dc mM_anchor 96 .iadd 1 97 := ⟨by decide +kernel, rfl⟩
theorem dM_anchor_97 : Dc mM_anchor 97 (.istore 5) 2 99 := ⟨by decide +kernel, rfl⟩
theorem dM_anchor_99 : Dc mM_anchor 99 (.iload_n 3) 1 100 := ⟨by decide +kernel, rfl⟩
theorem dM_anchor_100 : Dc mM_anchor 100 (.iconst 2) 1 101 := ⟨by decide +kernel, rfl⟩
theorem dM_anchor_101 : Db mM_anchor 101 (.if_icmp .eq) 109 104 := ⟨8, by decide +kernel, by decide, rfl⟩
theorem dM_anchor_104 : Dc mM_anchor 104 (.iload_n 3) 1 105 := ⟨by decide +kernel, rfl⟩
theorem dM_anchor_105 : Dc mM_anchor 105 (.iconst 3) 1 106 := ⟨by decide +kernel, rfl⟩
theorem dM_anchor_106 : Db mM_anchor 106 (.if_icmp .ne) 182 109 := ⟨76, by decide +kernel, by decide, rfl⟩
theorem dM_anchor_109 : Dc mM_anchor 109 (.iconst 2) 1 110 := ⟨by decide +kernel, rfl⟩
theorem dM_anchor_110 : Dc mM_anchor 110 (.iload 4) 2 112 := ⟨by decide +kernel, rfl⟩
theorem dM_anchor_112 : Dc mM_anchor 112 .imul 1 113 := ⟨by decide +kernel, rfl⟩
theorem dM_anchor_113 : Dc mM_anchor 113 (.iload_n 3) 1 114 := ⟨by decide +kernel, rfl⟩
theorem dM_anchor_114 : Dc mM_anchor 114 .iadd 1 115 := ⟨by decide +kernel, rfl⟩
theorem dM_anchor_115 : Dc mM_anchor 115 (.iconst 2) 1 116 := ⟨by decide +kernel, rfl⟩
theorem dM_anchor_116 : Dc mM_anchor 116 .isub 1 117 := ⟨by decide +kernel, rfl⟩
theorem dM_anchor_117 : Dc mM_anchor 117 (.istore 6) 2 119 := ⟨by decide +kernel, rfl⟩
theorem dM_anchor_119 : Dc mM_anchor 119 (.iload 6) 2 121 := ⟨by decide +kernel, rfl⟩
theorem dM_anchor_121 : Dc mM_anchor 121 (.iload 5) 2 123 := ⟨by decide +kernel, rfl⟩
theorem dM_anchor_123 : Db mM_anchor 123 (.if_icmp .eq) 172 126 := ⟨49, by decide +kernel, by decide, rfl⟩
theorem dM_anchor_126 : Dc mM_anchor 126 (.aload_n 0) 1 127 := ⟨by decide +kernel, rfl⟩
theorem dM_anchor_127 : Dc mM_anchor 127 (.getfield 98) 3 130 := ⟨by decide +kernel, rfl⟩
theorem dM_anchor_130 : Dc mM_anchor 130 (.iload 6) 2 132 := ⟨by decide +kernel, rfl⟩
theorem dM_anchor_132 : Dc mM_anchor 132 .iaload 1 133 := ⟨by decide +kernel, rfl⟩
theorem dM_anchor_133 : Dc mM_anchor 133 (.iconst 2) 1 134 := ⟨by decide +kernel, rfl⟩
theorem dM_anchor_134 : Db mM_anchor 134 (.if_icmp .eq) 148 137 := ⟨14, by decide +kernel, by decide, rfl⟩
theorem dM_anchor_137 : Dc mM_anchor 137 (.aload_n 0) 1 138 := ⟨by decide +kernel, rfl⟩
theorem dM_anchor_138 : Dc mM_anchor 138 (.getfield 98) 3 141 := ⟨by decide +kernel, rfl⟩
theorem dM_anchor_141 : Dc mM_anchor 141 (.iload 6) 2 143 := ⟨by decide +kernel, rfl⟩
theorem dM_anchor_143 : Dc mM_anchor 143 .iaload 1 144 := ⟨by decide +kernel, rfl⟩
theorem dM_anchor_144 : Dc mM_anchor 144 (.iconst 3) 1 145 := ⟨by decide +kernel, rfl⟩
theorem dM_anchor_145 : Db mM_anchor 145 (.if_icmp .ne) 172 148 := ⟨27, by decide +kernel, by decide, rfl⟩
theorem dM_anchor_148 : Dc mM_anchor 148 (.iconst 2) 1 149 := ⟨by decide +kernel, rfl⟩
theorem dM_anchor_149 : Dc mM_anchor 149 (.aload_n 0) 1 150 := ⟨by decide +kernel, rfl⟩
theorem dM_anchor_150 : Dc mM_anchor 150 (.getfield 101) 3 153 := ⟨by decide +kernel, rfl⟩
theorem dM_anchor_153 : Dc mM_anchor 153 (.iload 6) 2 155 := ⟨by decide +kernel, rfl⟩
theorem dM_anchor_155 : Dc mM_anchor 155 .iaload 1 156 := ⟨by decide +kernel, rfl⟩
theorem dM_anchor_156 : Dc mM_anchor 156 .imul 1 157 := ⟨by decide +kernel, rfl⟩
theorem dM_anchor_157 : Dc mM_anchor 157 (.aload_n 0) 1 158 := ⟨by decide +kernel, rfl⟩
theorem dM_anchor_158 : Dc mM_anchor 158 (.getfield 98) 3 161 := ⟨by decide +kernel, rfl⟩
theorem dM_anchor_161 : Dc mM_anchor 161 (.iload 6) 2 163 := ⟨by decide +kernel, rfl⟩
theorem dM_anchor_163 : Dc mM_anchor 163 .iaload 1 164 := ⟨by decide +kernel, rfl⟩
theorem dM_anchor_164 : Dc mM_anchor 164 .iadd 1 165 := ⟨by decide +kernel, rfl⟩
theorem dM_anchor_165 : Dc mM_anchor 165 (.iconst 2) 1 166 := ⟨by decide +kernel, rfl⟩
theorem dM_anchor_166 : Dc mM_anchor 166 .isub 1 167 := ⟨by decide +kernel, rfl⟩
theorem dM_anchor_167 : Dc mM_anchor 167 (.istore 6) 2 169 := ⟨by decide +kernel, rfl⟩
theorem dM_anchor_169 : Db mM_anchor 169 .goto 119 172 := ⟨(-50), by decide +kernel, by decide, rfl⟩
theorem dM_anchor_172 : Dc mM_anchor 172 (.iload 6) 2 174 := ⟨by decide +kernel, rfl⟩
theorem dM_anchor_174 : Dc mM_anchor 174 (.iload 5) 2 176 := ⟨by decide +kernel, rfl⟩
theorem dM_anchor_176 : Db mM_anchor 176 (.if_icmp .ne) 182 179 := ⟨6, by decide +kernel, by decide, rfl⟩
theorem dM_anchor_179 : Dc mM_anchor 179 (.bipush (-2)) 2 181 := ⟨by decide +kernel, rfl⟩
theorem dM_anchor_181 : Dc mM_anchor 181 .ireturn 1 182 := ⟨by decide +kernel, rfl⟩
theorem dM_anchor_182 : Dc mM_anchor 182 (.aload_n 0) 1 183 := ⟨by decide +kernel, rfl⟩
theorem dM_anchor_183 : Dc mM_anchor 183 (.getfield 98) 3 186 := ⟨by decide +kernel, rfl⟩
theorem dM_anchor_186 : Dc mM_anchor 186 (.iload 5) 2 188 := ⟨by decide +kernel, rfl⟩
theorem dM_anchor_188 : Dc mM_anchor 188 (.iload_n 3) 1 189 := ⟨by decide +kernel, rfl⟩
theorem dM_anchor_189 : Dc mM_anchor 189 .iastore 1 190 := ⟨by decide +kernel, rfl⟩
theorem dM_anchor_190 : Dc mM_anchor 190 (.aload_n 0) 1 191 := ⟨by decide +kernel, rfl⟩
theorem dM_anchor_191 : Dc mM_anchor 191 (.getfield 101) 3 194 := ⟨by decide +kernel, rfl⟩
theorem dM_anchor_194 : Dc mM_anchor 194 (.iload 5) 2 196 := ⟨by decide +kernel, rfl⟩
theorem dM_anchor_196 : Dc mM_anchor 196 (.iload 4) 2 198 := ⟨by decide +kernel, rfl⟩
theorem dM_anchor_198 : Dc mM_anchor 198 .iastore 1 199 := ⟨by decide +kernel, rfl⟩
theorem dM_anchor_199 : Dc mM_anchor 199 (.iconst 0) 1 200 := ⟨by decide +kernel, rfl⟩
theorem dM_anchor_200 : Dc mM_anchor 200 .ireturn 1 201 := ⟨by decide +kernel, rfl⟩
theorem dM_everyTurn_0 : Dc mM_everyTurn 0 (.aload_n 0) 1 1 := ⟨by decide +kernel, rfl⟩
theorem dM_everyTurn_1 : Dc mM_everyTurn 1 (.iload_n 1) 1 2 := ⟨by decide +kernel, rfl⟩
theorem dM_everyTurn_2 : Dc mM_everyTurn 2 (.invokevirtual 224) 3 5 := ⟨by decide +kernel, rfl⟩
theorem dM_everyTurn_5 : Db mM_everyTurn 5 (.ifCond .ne) 10 8 := ⟨5, by decide +kernel, by decide, rfl⟩
theorem dM_everyTurn_8 : Dc mM_everyTurn 8 (.iconst (-1)) 1 9 := ⟨by decide +kernel, rfl⟩
theorem dM_everyTurn_9 : Dc mM_everyTurn 9 .ireturn 1 10 := ⟨by decide +kernel, rfl⟩
theorem dM_everyTurn_10 : Dc mM_everyTurn 10 (.aload_n 0) 1 11 := ⟨by decide +kernel, rfl⟩
theorem dM_everyTurn_11 : Dc mM_everyTurn 11 (.iload_n 1) 1 12 := ⟨by decide +kernel, rfl⟩
theorem dM_everyTurn_12 : Dc mM_everyTurn 12 (.putfield 114) 3 15 := ⟨by decide +kernel, rfl⟩
theorem dM_everyTurn_15 : Dc mM_everyTurn 15 (.iconst 0) 1 16 := ⟨by decide +kernel, rfl⟩
theorem dM_everyTurn_16 : Dc mM_everyTurn 16 .ireturn 1 17 := ⟨by decide +kernel, rfl⟩
theorem dM_turn_0 : Dc mM_turn 0 (.aload_n 0) 1 1 := ⟨by decide +kernel, rfl⟩
theorem dM_turn_1 : Dc mM_turn 1 .dup 1 2 := ⟨by decide +kernel, rfl⟩
theorem dM_turn_2 : Dc mM_turn 2 (.getfield 242) 3 5 := ⟨by decide +kernel, rfl⟩
theorem dM_turn_5 : Dc mM_turn 5 (.iconst 1) 1 6 := ⟨by decide +kernel, rfl⟩
theorem dM_turn_6 : Dc mM_turn 6 .iadd 1 7 := ⟨by decide +kernel, rfl⟩
theorem dM_turn_7 : Dc mM_turn 7 (.putfield 242) 3 10 := ⟨by decide +kernel, rfl⟩
theorem dM_turn_10 : Dc mM_turn 10 (.aload_n 0) 1 11 := ⟨by decide +kernel, rfl⟩
theorem dM_turn_11 : Dc mM_turn 11 (.iconst 0) 1 12 := ⟨by decide +kernel, rfl⟩
theorem dM_turn_12 : Dc mM_turn 12 (.putfield 239) 3 15 := ⟨by decide +kernel, rfl⟩
theorem dM_turn_15 : Dc mM_turn 15 (.iconst 1) 1 16 := ⟨by decide +kernel, rfl⟩
theorem dM_turn_16 : Dc mM_turn 16 (.istore_n 1) 1 17 := ⟨by decide +kernel, rfl⟩
theorem dM_turn_17 : Dc mM_turn 17 (.iload_n 1) 1 18 := ⟨by decide +kernel, rfl⟩
theorem dM_turn_18 : Db mM_turn 18 (.ifCond .eq) 184 21 := ⟨166, by decide +kernel, by decide, rfl⟩
theorem dM_turn_21 : Dc mM_turn 21 (.iconst 0) 1 22 := ⟨by decide +kernel, rfl⟩
theorem dM_turn_22 : Dc mM_turn 22 (.istore_n 1) 1 23 := ⟨by decide +kernel, rfl⟩
theorem dM_turn_23 : Dc mM_turn 23 (.iconst 0) 1 24 := ⟨by decide +kernel, rfl⟩
theorem dM_turn_24 : Dc mM_turn 24 (.istore_n 2) 1 25 := ⟨by decide +kernel, rfl⟩
theorem dM_turn_25 : Dc mM_turn 25 (.iload_n 2) 1 26 := ⟨by decide +kernel, rfl⟩
theorem dM_turn_26 : Dc mM_turn 26 (.aload_n 0) 1 27 := ⟨by decide +kernel, rfl⟩
theorem dM_turn_27 : Dc mM_turn 27 (.getfield 144) 3 30 := ⟨by decide +kernel, rfl⟩
theorem dM_turn_30 : Db mM_turn 30 (.if_icmp .ge) 181 33 := ⟨151, by decide +kernel, by decide, rfl⟩
theorem dM_turn_33 : Dc mM_turn 33 (.aload_n 0) 1 34 := ⟨by decide +kernel, rfl⟩
theorem dM_turn_34 : Dc mM_turn 34 (.getfield 92) 3 37 := ⟨by decide +kernel, rfl⟩
theorem dM_turn_37 : Dc mM_turn 37 (.iload_n 2) 1 38 := ⟨by decide +kernel, rfl⟩
theorem dM_turn_38 : Dc mM_turn 38 .baload 1 39 := ⟨by decide +kernel, rfl⟩
theorem dM_turn_39 : Db mM_turn 39 (.ifCond .eq) 50 42 := ⟨11, by decide +kernel, by decide, rfl⟩
theorem dM_turn_42 : Dc mM_turn 42 (.iconst 2) 1 43 := ⟨by decide +kernel, rfl⟩
theorem dM_turn_43 : Dc mM_turn 43 (.iload_n 2) 1 44 := ⟨by decide +kernel, rfl⟩
theorem dM_turn_44 : Dc mM_turn 44 .imul 1 45 := ⟨by decide +kernel, rfl⟩
theorem dM_turn_45 : Dc mM_turn 45 (.iconst 1) 1 46 := ⟨by decide +kernel, rfl⟩
theorem dM_turn_46 : Dc mM_turn 46 .iadd 1 47 := ⟨by decide +kernel, rfl⟩
theorem dM_turn_47 : Db mM_turn 47 .goto 53 50 := ⟨6, by decide +kernel, by decide, rfl⟩
theorem dM_turn_50 : Dc mM_turn 50 (.iconst 2) 1 51 := ⟨by decide +kernel, rfl⟩
theorem dM_turn_51 : Dc mM_turn 51 (.iload_n 2) 1 52 := ⟨by decide +kernel, rfl⟩
theorem dM_turn_52 : Dc mM_turn 52 .imul 1 53 := ⟨by decide +kernel, rfl⟩
theorem dM_turn_53 : Dc mM_turn 53 (.istore_n 3) 1 54 := ⟨by decide +kernel, rfl⟩
theorem dM_turn_54 : Dc mM_turn 54 (.aload_n 0) 1 55 := ⟨by decide +kernel, rfl⟩
theorem dM_turn_55 : Dc mM_turn 55 (.getfield 92) 3 58 := ⟨by decide +kernel, rfl⟩
theorem dM_turn_58 : Dc mM_turn 58 (.iload_n 2) 1 59 := ⟨by decide +kernel, rfl⟩
theorem dM_turn_59 : Dc mM_turn 59 .baload 1 60 := ⟨by decide +kernel, rfl⟩
theorem dM_turn_60 : Db mM_turn 60 (.ifCond .ne) 82 63 := ⟨22, by decide +kernel, by decide, rfl⟩
theorem dM_turn_63 : Dc mM_turn 63 (.aload_n 0) 1 64 := ⟨by decide +kernel, rfl⟩
theorem dM_turn_64 : Dc mM_turn 64 (.getfield 95) 3 67 := ⟨by decide +kernel, rfl⟩
theorem dM_turn_67 : Dc mM_turn 67 (.iload_n 2) 1 68 := ⟨by decide +kernel, rfl⟩
theorem dM_turn_68 : Dc mM_turn 68 .iaload 1 69 := ⟨by decide +kernel, rfl⟩
theorem dM_turn_69 : Db mM_turn 69 (.ifCond .eq) 82 72 := ⟨13, by decide +kernel, by decide, rfl⟩
theorem dM_turn_72 : Dc mM_turn 72 (.aload_n 0) 1 73 := ⟨by decide +kernel, rfl⟩
theorem dM_turn_73 : Dc mM_turn 73 (.getfield 89) 3 76 := ⟨by decide +kernel, rfl⟩
theorem dM_turn_76 : Dc mM_turn 76 (.iload_n 2) 1 77 := ⟨by decide +kernel, rfl⟩
theorem dM_turn_77 : Dc mM_turn 77 .iaload 1 78 := ⟨by decide +kernel, rfl⟩
theorem dM_turn_78 : Dc mM_turn 78 (.iconst 1) 1 79 := ⟨by decide +kernel, rfl⟩
theorem dM_turn_79 : Db mM_turn 79 (.if_icmp .ne) 86 82 := ⟨7, by decide +kernel, by decide, rfl⟩
theorem dM_turn_82 : Dc mM_turn 82 (.iconst 1) 1 83 := ⟨by decide +kernel, rfl⟩
theorem dM_turn_83 : Db mM_turn 83 .goto 87 86 := ⟨4, by decide +kernel, by decide, rfl⟩
theorem dM_turn_86 : Dc mM_turn 86 (.iconst 0) 1 87 := ⟨by decide +kernel, rfl⟩
theorem dM_turn_87 : Dc mM_turn 87 (.istore 4) 2 89 := ⟨by decide +kernel, rfl⟩
theorem dM_turn_89 : Dc mM_turn 89 (.iload 4) 2 91 := ⟨by decide +kernel, rfl⟩
theorem dM_turn_91 : Db mM_turn 91 (.ifCond .eq) 175 94 := ⟨84, by decide +kernel, by decide, rfl⟩
theorem dM_turn_94 : Dc mM_turn 94 (.aload_n 0) 1 95 := ⟨by decide +kernel, rfl⟩
theorem dM_turn_95 : Dc mM_turn 95 (.iload_n 3) 1 96 := ⟨by decide +kernel, rfl⟩
theorem dM_turn_96 : Dc mM_turn 96 (.invokevirtual 245) 3 99 := ⟨by decide +kernel, rfl⟩
theorem dM_turn_99 : Db mM_turn 99 (.ifCond .ne) 175 102 := ⟨76, by decide +kernel, by decide, rfl⟩
theorem dM_turn_102 : Dc mM_turn 102 (.aload_n 0) 1 103 := ⟨by decide +kernel, rfl⟩
theorem dM_turn_103 : Dc mM_turn 103 (.iload_n 3) 1 104 := ⟨by decide +kernel, rfl⟩
theorem dM_turn_104 : Dc mM_turn 104 (.invokevirtual 248) 3 107 := ⟨by decide +kernel, rfl⟩
theorem dM_turn_107 : Db mM_turn 107 (.ifCond .eq) 175 110 := ⟨68, by decide +kernel, by decide, rfl⟩
theorem dM_turn_110 : Dc mM_turn 110 (.aload_n 0) 1 111 := ⟨by decide +kernel, rfl⟩
theorem dM_turn_111 : Dc mM_turn 111 (.getfield 104) 3 114 := ⟨by decide +kernel, rfl⟩
theorem dM_turn_114 : Dc mM_turn 114 (.aload_n 0) 1 115 := ⟨by decide +kernel, rfl⟩
theorem dM_turn_115 : Dc mM_turn 115 (.getfield 239) 3 118 := ⟨by decide +kernel, rfl⟩
theorem dM_turn_118 : Dc mM_turn 118 (.iload_n 3) 1 119 := ⟨by decide +kernel, rfl⟩
theorem dM_turn_119 : Dc mM_turn 119 .iastore 1 120 := ⟨by decide +kernel, rfl⟩
theorem dM_turn_120 : Dc mM_turn 120 (.aload_n 0) 1 121 := ⟨by decide +kernel, rfl⟩
theorem dM_turn_121 : Dc mM_turn 121 .dup 1 122 := ⟨by decide +kernel, rfl⟩
theorem dM_turn_122 : Dc mM_turn 122 (.getfield 239) 3 125 := ⟨by decide +kernel, rfl⟩
theorem dM_turn_125 : Dc mM_turn 125 (.iconst 1) 1 126 := ⟨by decide +kernel, rfl⟩
theorem dM_turn_126 : Dc mM_turn 126 .iadd 1 127 := ⟨by decide +kernel, rfl⟩
theorem dM_turn_127 : Dc mM_turn 127 (.putfield 239) 3 130 := ⟨by decide +kernel, rfl⟩
theorem dM_turn_130 : Dc mM_turn 130 (.aload_n 0) 1 131 := ⟨by decide +kernel, rfl⟩
theorem dM_turn_131 : Dc mM_turn 131 (.getfield 95) 3 134 := ⟨by decide +kernel, rfl⟩
theorem dM_turn_134 : Dc mM_turn 134 (.iload_n 2) 1 135 := ⟨by decide +kernel, rfl⟩
theorem dM_turn_135 : Dc mM_turn 135 .dup2 1 136 := ⟨by decide +kernel, rfl⟩
theorem dM_turn_136 : Dc mM_turn 136 .iaload 1 137 := ⟨by decide +kernel, rfl⟩
theorem dM_turn_137 : Dc mM_turn 137 (.aload_n 0) 1 138 := ⟨by decide +kernel, rfl⟩
theorem dM_turn_138 : Dc mM_turn 138 (.getfield 92) 3 141 := ⟨by decide +kernel, rfl⟩
theorem dM_turn_141 : Dc mM_turn 141 (.iload_n 2) 1 142 := ⟨by decide +kernel, rfl⟩
theorem dM_turn_142 : Dc mM_turn 142 .baload 1 143 := ⟨by decide +kernel, rfl⟩
theorem dM_turn_143 : Db mM_turn 143 (.ifCond .eq) 150 146 := ⟨7, by decide +kernel, by decide, rfl⟩
theorem dM_turn_146 : Dc mM_turn 146 (.iconst 0) 1 147 := ⟨by decide +kernel, rfl⟩
theorem dM_turn_147 : Db mM_turn 147 .goto 151 150 := ⟨4, by decide +kernel, by decide, rfl⟩
theorem dM_turn_150 : Dc mM_turn 150 (.iconst 1) 1 151 := ⟨by decide +kernel, rfl⟩
theorem dM_turn_151 : Dc mM_turn 151 .iadd 1 152 := ⟨by decide +kernel, rfl⟩
theorem dM_turn_152 : Dc mM_turn 152 .iastore 1 153 := ⟨by decide +kernel, rfl⟩
theorem dM_turn_153 : Dc mM_turn 153 (.aload_n 0) 1 154 := ⟨by decide +kernel, rfl⟩
theorem dM_turn_154 : Dc mM_turn 154 (.getfield 92) 3 157 := ⟨by decide +kernel, rfl⟩
theorem dM_turn_157 : Dc mM_turn 157 (.iload_n 2) 1 158 := ⟨by decide +kernel, rfl⟩
theorem dM_turn_158 : Dc mM_turn 158 (.aload_n 0) 1 159 := ⟨by decide +kernel, rfl⟩
theorem dM_turn_159 : Dc mM_turn 159 (.getfield 92) 3 162 := ⟨by decide +kernel, rfl⟩
theorem dM_turn_162 : Dc mM_turn 162 (.iload_n 2) 1 163 := ⟨by decide +kernel, rfl⟩
theorem dM_turn_163 : Dc mM_turn 163 .baload 1 164 := ⟨by decide +kernel, rfl⟩
theorem dM_turn_164 : Db mM_turn 164 (.ifCond .ne) 171 167 := ⟨7, by decide +kernel, by decide, rfl⟩
theorem dM_turn_167 : Dc mM_turn 167 (.iconst 1) 1 168 := ⟨by decide +kernel, rfl⟩
theorem dM_turn_168 : Db mM_turn 168 .goto 172 171 := ⟨4, by decide +kernel, by decide, rfl⟩
theorem dM_turn_171 : Dc mM_turn 171 (.iconst 0) 1 172 := ⟨by decide +kernel, rfl⟩
theorem dM_turn_172 : Dc mM_turn 172 .bastore 1 173 := ⟨by decide +kernel, rfl⟩
theorem dM_turn_173 : Dc mM_turn 173 (.iconst 1) 1 174 := ⟨by decide +kernel, rfl⟩
theorem dM_turn_174 : Dc mM_turn 174 (.istore_n 1) 1 175 := ⟨by decide +kernel, rfl⟩
theorem dM_turn_175 : Dc mM_turn 175 (.iinc 2 1) 3 178 := ⟨by decide +kernel, rfl⟩
theorem dM_turn_178 : Db mM_turn 178 .goto 25 181 := ⟨(-153), by decide +kernel, by decide, rfl⟩
theorem dM_turn_181 : Db mM_turn 181 .goto 17 184 := ⟨(-164), by decide +kernel, by decide, rfl⟩
theorem dM_turn_184 : Dc mM_turn 184 (.aload_n 0) 1 185 := ⟨by decide +kernel, rfl⟩
theorem dM_turn_185 : Dc mM_turn 185 (.getfield 114) 3 188 := ⟨by decide +kernel, rfl⟩
theorem dM_turn_188 : Dc mM_turn 188 (.bipush (-4)) 2 190 := ⟨by decide +kernel, rfl⟩
theorem dM_turn_190 : Db mM_turn 190 (.if_icmp .eq) 237 193 := ⟨47, by decide +kernel, by decide, rfl⟩
theorem dM_turn_193 : Dc mM_turn 193 (.aload_n 0) 1 194 := ⟨by decide +kernel, rfl⟩
theorem dM_turn_194 : Dc mM_turn 194 (.getfield 125) 3 197 := ⟨by decide +kernel, rfl⟩
theorem dM_turn_197 : Db mM_turn 197 (.ifCond .le) 237 200 := ⟨40, by decide +kernel, by decide, rfl⟩
theorem dM_turn_200 : Dc mM_turn 200 (.aload_n 0) 1 201 := ⟨by decide +kernel, rfl⟩
theorem dM_turn_201 : Dc mM_turn 201 (.iconst 1) 1 202 := ⟨by decide +kernel, rfl⟩
theorem dM_turn_202 : Dc mM_turn 202 (.putfield 187) 3 205 := ⟨by decide +kernel, rfl⟩
theorem dM_turn_205 : Dc mM_turn 205 (.aload_n 0) 1 206 := ⟨by decide +kernel, rfl⟩
theorem dM_turn_206 : Dc mM_turn 206 (.aload_n 0) 1 207 := ⟨by decide +kernel, rfl⟩
theorem dM_turn_207 : Dc mM_turn 207 (.getfield 114) 3 210 := ⟨by decide +kernel, rfl⟩
theorem dM_turn_210 : Dc mM_turn 210 (.iconst 0) 1 211 := ⟨by decide +kernel, rfl⟩
theorem dM_turn_211 : Dc mM_turn 211 (.invokevirtual 221) 3 214 := ⟨by decide +kernel, rfl⟩
theorem dM_turn_214 : Dc mM_turn 214 (.istore_n 2) 1 215 := ⟨by decide +kernel, rfl⟩
theorem dM_turn_215 : Dc mM_turn 215 (.aload_n 0) 1 216 := ⟨by decide +kernel, rfl⟩
theorem dM_turn_216 : Dc mM_turn 216 (.getfield 194) 3 219 := ⟨by decide +kernel, rfl⟩
theorem dM_turn_219 : Db mM_turn 219 (.ifCond .eq) 232 222 := ⟨13, by decide +kernel, by decide, rfl⟩
theorem dM_turn_222 : Dc mM_turn 222 (.bipush (-10)) 2 224 := ⟨by decide +kernel, rfl⟩
theorem dM_turn_224 : Dc mM_turn 224 (.aload_n 0) 1 225 := ⟨by decide +kernel, rfl⟩
theorem dM_turn_225 : Dc mM_turn 225 (.getfield 211) 3 228 := ⟨by decide +kernel, rfl⟩
theorem dM_turn_228 : Dc mM_turn 228 .isub 1 229 := ⟨by decide +kernel, rfl⟩
theorem dM_turn_229 : Db mM_turn 229 .goto 236 232 := ⟨7, by decide +kernel, by decide, rfl⟩
theorem dM_turn_232 : Dc mM_turn 232 (.aload_n 0) 1 233 := ⟨by decide +kernel, rfl⟩
theorem dM_turn_233 : Dc mM_turn 233 (.getfield 239) 3 236 := ⟨by decide +kernel, rfl⟩
theorem dM_turn_236 : Dc mM_turn 236 .ireturn 1 237 := ⟨by decide +kernel, rfl⟩
theorem dM_turn_237 : Dc mM_turn 237 (.aload_n 0) 1 238 := ⟨by decide +kernel, rfl⟩
theorem dM_turn_238 : Dc mM_turn 238 (.getfield 239) 3 241 := ⟨by decide +kernel, rfl⟩
theorem dM_turn_241 : Dc mM_turn 241 .ireturn 1 242 := ⟨by decide +kernel, rfl⟩
theorem dM_isEvent_0 : Dc mM_isEvent 0 (.iconst 0) 1 1 := ⟨by decide +kernel, rfl⟩
theorem dM_isEvent_1 : Dc mM_isEvent 1 (.istore_n 2) 1 2 := ⟨by decide +kernel, rfl⟩
theorem dM_isEvent_2 : Dc mM_isEvent 2 (.iload_n 2) 1 3 := ⟨by decide +kernel, rfl⟩
theorem dM_isEvent_3 : Dc mM_isEvent 3 (.aload_n 0) 1 4 := ⟨by decide +kernel, rfl⟩
theorem dM_isEvent_4 : Dc mM_isEvent 4 (.getfield 239) 3 7 := ⟨by decide +kernel, rfl⟩
theorem dM_isEvent_7 : Db mM_isEvent 7 (.if_icmp .ge) 28 10 := ⟨21, by decide +kernel, by decide, rfl⟩
theorem dM_isEvent_10 : Dc mM_isEvent 10 (.aload_n 0) 1 11 := ⟨by decide +kernel, rfl⟩
theorem dM_isEvent_11 : Dc mM_isEvent 11 (.getfield 104) 3 14 := ⟨by decide +kernel, rfl⟩
theorem dM_isEvent_14 : Dc mM_isEvent 14 (.iload_n 2) 1 15 := ⟨by decide +kernel, rfl⟩
theorem dM_isEvent_15 : Dc mM_isEvent 15 .iaload 1 16 := ⟨by decide +kernel, rfl⟩
theorem dM_isEvent_16 : Dc mM_isEvent 16 (.iload_n 1) 1 17 := ⟨by decide +kernel, rfl⟩
theorem dM_isEvent_17 : Db mM_isEvent 17 (.if_icmp .ne) 22 20 := ⟨5, by decide +kernel, by decide, rfl⟩
theorem dM_isEvent_20 : Dc mM_isEvent 20 (.iconst 1) 1 21 := ⟨by decide +kernel, rfl⟩
theorem dM_isEvent_21 : Dc mM_isEvent 21 .ireturn 1 22 := ⟨by decide +kernel, rfl⟩
theorem dM_isEvent_22 : Dc mM_isEvent 22 (.iinc 2 1) 3 25 := ⟨by decide +kernel, rfl⟩
theorem dM_isEvent_25 : Db mM_isEvent 25 .goto 2 28 := ⟨(-23), by decide +kernel, by decide, rfl⟩
theorem dM_isEvent_28 : Dc mM_isEvent 28 (.iconst 0) 1 29 := ⟨by decide +kernel, rfl⟩
theorem dM_isEvent_29 : Dc mM_isEvent 29 .ireturn 1 30 := ⟨by decide +kernel, rfl⟩
theorem dM_isMet_0 : Dc mM_isMet 0 (.aload_n 0) 1 1 := ⟨by decide +kernel, rfl⟩
theorem dM_isMet_1 : Dc mM_isMet 1 (.getfield 101) 3 4 := ⟨by decide +kernel, rfl⟩
theorem dM_isMet_4 : Dc mM_isMet 4 (.iload_n 1) 1 5 := ⟨by decide +kernel, rfl⟩
theorem dM_isMet_5 : Dc mM_isMet 5 .iaload 1 6 := ⟨by decide +kernel, rfl⟩
theorem dM_isMet_6 : Dc mM_isMet 6 (.istore_n 2) 1 7 := ⟨by decide +kernel, rfl⟩
theorem dM_isMet_7 : Dc mM_isMet 7 (.aload_n 0) 1 8 := ⟨by decide +kernel, rfl⟩
theorem dM_isMet_8 : Dc mM_isMet 8 (.getfield 98) 3 11 := ⟨by decide +kernel, rfl⟩
theorem dM_isMet_11 : Dc mM_isMet 11 (.iload_n 1) 1 12 := ⟨by decide +kernel, rfl⟩
theorem dM_isMet_12 : Dc mM_isMet 12 .iaload 1 13 := ⟨by decide +kernel, rfl⟩
theorem dM_isMet_13 : Dc mM_isMet 13 (.tableswitch (78) (1) (4) #[31, 45, 53, 63]) 31 44 := ⟨by decide +kernel, rfl⟩
theorem dM_isMet_44 : Dc mM_isMet 44 (.aload_n 0) 1 45 := ⟨by decide +kernel, rfl⟩
theorem dM_isMet_45 : Dc mM_isMet 45 (.getfield 242) 3 48 := ⟨by decide +kernel, rfl⟩
theorem dM_isMet_48 : Dc mM_isMet 48 (.iload_n 2) 1 49 := ⟨by decide +kernel, rfl⟩
theorem dM_isMet_49 : Db mM_isMet 49 (.if_icmp .lt) 56 52 := ⟨7, by decide +kernel, by decide, rfl⟩
theorem dM_isMet_52 : Dc mM_isMet 52 (.iconst 1) 1 53 := ⟨by decide +kernel, rfl⟩
theorem dM_isMet_53 : Db mM_isMet 53 .goto 57 56 := ⟨4, by decide +kernel, by decide, rfl⟩
theorem dM_isMet_56 : Dc mM_isMet 56 (.iconst 0) 1 57 := ⟨by decide +kernel, rfl⟩
theorem dM_isMet_57 : Dc mM_isMet 57 .ireturn 1 58 := ⟨by decide +kernel, rfl⟩
theorem dM_isMet_58 : Dc mM_isMet 58 (.aload_n 0) 1 59 := ⟨by decide +kernel, rfl⟩
theorem dM_isMet_59 : Dc mM_isMet 59 (.iconst 2) 1 60 := ⟨by decide +kernel, rfl⟩
theorem dM_isMet_60 : Dc mM_isMet 60 (.iload_n 2) 1 61 := ⟨by decide +kernel, rfl⟩
theorem dM_isMet_61 : Dc mM_isMet 61 .imul 1 62 := ⟨by decide +kernel, rfl⟩
theorem dM_isMet_62 : Dc mM_isMet 62 (.invokevirtual 245) 3 65 := ⟨by decide +kernel, rfl⟩
theorem dM_isMet_65 : Dc mM_isMet 65 .ireturn 1 66 := ⟨by decide +kernel, rfl⟩
theorem dM_isMet_66 : Dc mM_isMet 66 (.aload_n 0) 1 67 := ⟨by decide +kernel, rfl⟩
theorem dM_isMet_67 : Dc mM_isMet 67 (.iconst 2) 1 68 := ⟨by decide +kernel, rfl⟩
theorem dM_isMet_68 : Dc mM_isMet 68 (.iload_n 2) 1 69 := ⟨by decide +kernel, rfl⟩
theorem dM_isMet_69 : Dc mM_isMet 69 .imul 1 70 := ⟨by decide +kernel, rfl⟩
theorem dM_isMet_70 : Dc mM_isMet 70 (.iconst 1) 1 71 := ⟨by decide +kernel, rfl⟩
theorem dM_isMet_71 : Dc mM_isMet 71 .iadd 1 72 := ⟨by decide +kernel, rfl⟩
theorem dM_isMet_72 : Dc mM_isMet 72 (.invokevirtual 245) 3 75 := ⟨by decide +kernel, rfl⟩
theorem dM_isMet_75 : Dc mM_isMet 75 .ireturn 1 76 := ⟨by decide +kernel, rfl⟩
theorem dM_isMet_76 : Dc mM_isMet 76 (.aload_n 0) 1 77 := ⟨by decide +kernel, rfl⟩
theorem dM_isMet_77 : Dc mM_isMet 77 (.getfield 16) 3 80 := ⟨by decide +kernel, rfl⟩
theorem dM_isMet_80 : Dc mM_isMet 80 (.iload_n 2) 1 81 := ⟨by decide +kernel, rfl⟩
theorem dM_isMet_81 : Dc mM_isMet 81 .iaload 1 82 := ⟨by decide +kernel, rfl⟩
theorem dM_isMet_82 : Db mM_isMet 82 (.ifCond .le) 89 85 := ⟨7, by decide +kernel, by decide, rfl⟩
theorem dM_isMet_85 : Dc mM_isMet 85 (.iconst 1) 1 86 := ⟨by decide +kernel, rfl⟩
theorem dM_isMet_86 : Db mM_isMet 86 .goto 90 89 := ⟨4, by decide +kernel, by decide, rfl⟩
theorem dM_isMet_89 : Dc mM_isMet 89 (.iconst 0) 1 90 := ⟨by decide +kernel, rfl⟩
theorem dM_isMet_90 : Dc mM_isMet 90 .ireturn 1 91 := ⟨by decide +kernel, rfl⟩
theorem dM_isMet_91 : Dc mM_isMet 91 (.iconst 0) 1 92 := ⟨by decide +kernel, rfl⟩
theorem dM_isMet_92 : Dc mM_isMet 92 .ireturn 1 93 := ⟨by decide +kernel, rfl⟩
theorem dM_event_0 : Dc mM_event 0 (.iload_n 1) 1 1 := ⟨by decide +kernel, rfl⟩
theorem dM_event_1 : Dc mM_event 1 (.iconst 0) 1 2 := ⟨by decide +kernel, rfl⟩
theorem dM_event_2 : Dc mM_event 2 (.aload_n 0) 1 3 := ⟨by decide +kernel, rfl⟩
theorem dM_event_3 : Dc mM_event 3 (.getfield 239) 3 6 := ⟨by decide +kernel, rfl⟩
theorem dM_event_6 : Dc mM_event 6 (.iconst 1) 1 7 := ⟨by decide +kernel, rfl⟩
theorem dM_event_7 : Dc mM_event 7 .isub 1 8 := ⟨by decide +kernel, rfl⟩
theorem dM_event_8 : Dc mM_event 8 (.invokestatic 117) 3 11 := ⟨by decide +kernel, rfl⟩
theorem dM_event_11 : Db mM_event 11 (.ifCond .eq) 23 14 := ⟨12, by decide +kernel, by decide, rfl⟩
theorem dM_event_14 : Dc mM_event 14 (.aload_n 0) 1 15 := ⟨by decide +kernel, rfl⟩
theorem dM_event_15 : Dc mM_event 15 (.getfield 104) 3 18 := ⟨by decide +kernel, rfl⟩
theorem dM_event_18 : Dc mM_event 18 (.iload_n 1) 1 19 := ⟨by decide +kernel, rfl⟩
theorem dM_event_19 : Dc mM_event 19 .iaload 1 20 := ⟨by decide +kernel, rfl⟩
theorem dM_event_20 : Db mM_event 20 .goto 25 23 := ⟨5, by decide +kernel, by decide, rfl⟩
theorem dM_event_23 : Dc mM_event 23 (.bipush (-4)) 2 25 := ⟨by decide +kernel, rfl⟩
theorem dM_event_25 : Dc mM_event 25 .ireturn 1 26 := ⟨by decide +kernel, rfl⟩
theorem dM_happens_0 : Dc mM_happens 0 (.iload_n 1) 1 1 := ⟨by decide +kernel, rfl⟩
theorem dM_happens_1 : Dc mM_happens 1 (.iconst 0) 1 2 := ⟨by decide +kernel, rfl⟩
theorem dM_happens_2 : Dc mM_happens 2 (.aload_n 0) 1 3 := ⟨by decide +kernel, rfl⟩
theorem dM_happens_3 : Dc mM_happens 3 (.getfield 144) 3 6 := ⟨by decide +kernel, rfl⟩
theorem dM_happens_6 : Dc mM_happens 6 (.iconst 1) 1 7 := ⟨by decide +kernel, rfl⟩
theorem dM_happens_7 : Dc mM_happens 7 .isub 1 8 := ⟨by decide +kernel, rfl⟩
theorem dM_happens_8 : Dc mM_happens 8 (.invokestatic 117) 3 11 := ⟨by decide +kernel, rfl⟩
theorem dM_happens_11 : Db mM_happens 11 (.ifCond .eq) 23 14 := ⟨12, by decide +kernel, by decide, rfl⟩
theorem dM_happens_14 : Dc mM_happens 14 (.iload_n 2) 1 15 := ⟨by decide +kernel, rfl⟩
theorem dM_happens_15 : Dc mM_happens 15 (.iconst 0) 1 16 := ⟨by decide +kernel, rfl⟩
theorem dM_happens_16 : Dc mM_happens 16 (.iconst 1) 1 17 := ⟨by decide +kernel, rfl⟩
theorem dM_happens_17 : Dc mM_happens 17 (.invokestatic 117) 3 20 := ⟨by decide +kernel, rfl⟩
theorem dM_happens_20 : Db mM_happens 20 (.ifCond .ne) 25 23 := ⟨5, by decide +kernel, by decide, rfl⟩
theorem dM_happens_23 : Dc mM_happens 23 (.iconst (-1)) 1 24 := ⟨by decide +kernel, rfl⟩
theorem dM_happens_24 : Dc mM_happens 24 .ireturn 1 25 := ⟨by decide +kernel, rfl⟩
theorem dM_happens_25 : Dc mM_happens 25 (.iload_n 2) 1 26 := ⟨by decide +kernel, rfl⟩
theorem dM_happens_26 : Dc mM_happens 26 (.iconst 1) 1 27 := ⟨by decide +kernel, rfl⟩
theorem dM_happens_27 : Db mM_happens 27 (.if_icmp .ne) 39 30 := ⟨12, by decide +kernel, by decide, rfl⟩
theorem dM_happens_30 : Dc mM_happens 30 (.aload_n 0) 1 31 := ⟨by decide +kernel, rfl⟩
theorem dM_happens_31 : Dc mM_happens 31 (.getfield 95) 3 34 := ⟨by decide +kernel, rfl⟩
theorem dM_happens_34 : Dc mM_happens 34 (.iload_n 1) 1 35 := ⟨by decide +kernel, rfl⟩
theorem dM_happens_35 : Dc mM_happens 35 .iaload 1 36 := ⟨by decide +kernel, rfl⟩
theorem dM_happens_36 : Db mM_happens 36 .goto 53 39 := ⟨17, by decide +kernel, by decide, rfl⟩
theorem dM_happens_39 : Dc mM_happens 39 (.aload_n 0) 1 40 := ⟨by decide +kernel, rfl⟩
theorem dM_happens_40 : Dc mM_happens 40 (.getfield 92) 3 43 := ⟨by decide +kernel, rfl⟩
theorem dM_happens_43 : Dc mM_happens 43 (.iload_n 1) 1 44 := ⟨by decide +kernel, rfl⟩
theorem dM_happens_44 : Dc mM_happens 44 .baload 1 45 := ⟨by decide +kernel, rfl⟩
theorem dM_happens_45 : Db mM_happens 45 (.ifCond .eq) 52 48 := ⟨7, by decide +kernel, by decide, rfl⟩
theorem dM_happens_48 : Dc mM_happens 48 (.iconst 1) 1 49 := ⟨by decide +kernel, rfl⟩
theorem dM_happens_49 : Db mM_happens 49 .goto 53 52 := ⟨4, by decide +kernel, by decide, rfl⟩
theorem dM_happens_52 : Dc mM_happens 52 (.iconst 0) 1 53 := ⟨by decide +kernel, rfl⟩
theorem dM_happens_53 : Dc mM_happens 53 .ireturn 1 54 := ⟨by decide +kernel, rfl⟩
theorem dM_phrase_0 : Dc mM_phrase 0 (.iload_n 1) 1 1 := ⟨by decide +kernel, rfl⟩
theorem dM_phrase_1 : Dc mM_phrase 1 (.iconst 0) 1 2 := ⟨by decide +kernel, rfl⟩
theorem dM_phrase_2 : Dc mM_phrase 2 (.bipush 9) 2 4 := ⟨by decide +kernel, rfl⟩
theorem dM_phrase_4 : Dc mM_phrase 4 (.invokestatic 117) 3 7 := ⟨by decide +kernel, rfl⟩
theorem dM_phrase_7 : Db mM_phrase 7 (.ifCond .eq) 38 10 := ⟨31, by decide +kernel, by decide, rfl⟩
theorem dM_phrase_10 : Dc mM_phrase 10 (.iload_n 2) 1 11 := ⟨by decide +kernel, rfl⟩
theorem dM_phrase_11 : Dc mM_phrase 11 (.iconst 0) 1 12 := ⟨by decide +kernel, rfl⟩
theorem dM_phrase_12 : Dc mM_phrase 12 (.aload_n 0) 1 13 := ⟨by decide +kernel, rfl⟩
theorem dM_phrase_13 : Dc mM_phrase 13 (.getfield 110) 3 16 := ⟨by decide +kernel, rfl⟩
theorem dM_phrase_16 : Dc mM_phrase 16 (.iconst 1) 1 17 := ⟨by decide +kernel, rfl⟩
theorem dM_phrase_17 : Dc mM_phrase 17 .isub 1 18 := ⟨by decide +kernel, rfl⟩
theorem dM_phrase_18 : Dc mM_phrase 18 (.invokestatic 117) 3 21 := ⟨by decide +kernel, rfl⟩
theorem dM_phrase_21 : Db mM_phrase 21 (.ifCond .eq) 38 24 := ⟨17, by decide +kernel, by decide, rfl⟩
theorem dM_phrase_24 : Dc mM_phrase 24 (.iload_n 3) 1 25 := ⟨by decide +kernel, rfl⟩
theorem dM_phrase_25 : Dc mM_phrase 25 (.iconst 0) 1 26 := ⟨by decide +kernel, rfl⟩
theorem dM_phrase_26 : Dc mM_phrase 26 (.aload_n 0) 1 27 := ⟨by decide +kernel, rfl⟩
theorem dM_phrase_27 : Dc mM_phrase 27 (.getfield 110) 3 30 := ⟨by decide +kernel, rfl⟩
theorem dM_phrase_30 : Dc mM_phrase 30 (.iconst 1) 1 31 := ⟨by decide +kernel, rfl⟩
theorem dM_phrase_31 : Dc mM_phrase 31 .isub 1 32 := ⟨by decide +kernel, rfl⟩
theorem dM_phrase_32 : Dc mM_phrase 32 (.invokestatic 117) 3 35 := ⟨by decide +kernel, rfl⟩
theorem dM_phrase_35 : Db mM_phrase 35 (.ifCond .ne) 40 38 := ⟨5, by decide +kernel, by decide, rfl⟩
theorem dM_phrase_38 : Dc mM_phrase 38 (.iconst (-1)) 1 39 := ⟨by decide +kernel, rfl⟩
theorem dM_phrase_39 : Dc mM_phrase 39 .ireturn 1 40 := ⟨by decide +kernel, rfl⟩
theorem dM_phrase_40 : Dc mM_phrase 40 (.iconst 0) 1 41 := ⟨by decide +kernel, rfl⟩
theorem dM_phrase_41 : Dc mM_phrase 41 (.istore 4) 2 43 := ⟨by decide +kernel, rfl⟩
theorem dM_phrase_43 : Dc mM_phrase 43 (.iload 4) 2 45 := ⟨by decide +kernel, rfl⟩
theorem dM_phrase_45 : Dc mM_phrase 45 (.aload_n 0) 1 46 := ⟨by decide +kernel, rfl⟩
theorem dM_phrase_46 : Dc mM_phrase 46 (.getfield 251) 3 49 := ⟨by decide +kernel, rfl⟩
theorem dM_phrase_49 : Db mM_phrase 49 (.if_icmp .ge) 104 52 := ⟨55, by decide +kernel, by decide, rfl⟩
theorem dM_phrase_52 : Dc mM_phrase 52 (.aload_n 0) 1 53 := ⟨by decide +kernel, rfl⟩
theorem dM_phrase_53 : Dc mM_phrase 53 (.getfield 107) 3 56 := ⟨by decide +kernel, rfl⟩
theorem dM_phrase_56 : Dc mM_phrase 56 (.iconst 3) 1 57 := ⟨by decide +kernel, rfl⟩
theorem dM_phrase_57 : Dc mM_phrase 57 (.iload 4) 2 59 := ⟨by decide +kernel, rfl⟩
theorem dM_phrase_59 : Dc mM_phrase 59 .imul 1 60 := ⟨by decide +kernel, rfl⟩
theorem dM_phrase_60 : Dc mM_phrase 60 .iaload 1 61 := ⟨by decide +kernel, rfl⟩
theorem dM_phrase_61 : Dc mM_phrase 61 (.iload_n 1) 1 62 := ⟨by decide +kernel, rfl⟩
theorem dM_phrase_62 : Db mM_phrase 62 (.if_icmp .ne) 98 65 := ⟨36, by decide +kernel, by decide, rfl⟩
theorem dM_phrase_65 : Dc mM_phrase 65 (.aload_n 0) 1 66 := ⟨by decide +kernel, rfl⟩
theorem dM_phrase_66 : Dc mM_phrase 66 (.getfield 107) 3 69 := ⟨by decide +kernel, rfl⟩
theorem dM_phrase_69 : Dc mM_phrase 69 (.iconst 3) 1 70 := ⟨by decide +kernel, rfl⟩
theorem dM_phrase_70 : Dc mM_phrase 70 (.iload 4) 2 72 := ⟨by decide +kernel, rfl⟩
theorem dM_phrase_72 : Dc mM_phrase 72 .imul 1 73 := ⟨by decide +kernel, rfl⟩
theorem dM_phrase_73 : Dc mM_phrase 73 (.iconst 1) 1 74 := ⟨by decide +kernel, rfl⟩
theorem dM_phrase_74 : Dc mM_phrase 74 .iadd 1 75 := ⟨by decide +kernel, rfl⟩
theorem dM_phrase_75 : Dc mM_phrase 75 .iaload 1 76 := ⟨by decide +kernel, rfl⟩
theorem dM_phrase_76 : Dc mM_phrase 76 (.iload_n 2) 1 77 := ⟨by decide +kernel, rfl⟩
theorem dM_phrase_77 : Db mM_phrase 77 (.if_icmp .ne) 98 80 := ⟨21, by decide +kernel, by decide, rfl⟩
theorem dM_phrase_80 : Dc mM_phrase 80 (.aload_n 0) 1 81 := ⟨by decide +kernel, rfl⟩
theorem dM_phrase_81 : Dc mM_phrase 81 (.getfield 107) 3 84 := ⟨by decide +kernel, rfl⟩
theorem dM_phrase_84 : Dc mM_phrase 84 (.iconst 3) 1 85 := ⟨by decide +kernel, rfl⟩
theorem dM_phrase_85 : Dc mM_phrase 85 (.iload 4) 2 87 := ⟨by decide +kernel, rfl⟩
theorem dM_phrase_87 : Dc mM_phrase 87 .imul 1 88 := ⟨by decide +kernel, rfl⟩
theorem dM_phrase_88 : Dc mM_phrase 88 (.iconst 2) 1 89 := ⟨by decide +kernel, rfl⟩
theorem dM_phrase_89 : Dc mM_phrase 89 .iadd 1 90 := ⟨by decide +kernel, rfl⟩
theorem dM_phrase_90 : Dc mM_phrase 90 .iaload 1 91 := ⟨by decide +kernel, rfl⟩
theorem dM_phrase_91 : Dc mM_phrase 91 (.iload_n 3) 1 92 := ⟨by decide +kernel, rfl⟩
theorem dM_phrase_92 : Db mM_phrase 92 (.if_icmp .ne) 98 95 := ⟨6, by decide +kernel, by decide, rfl⟩
theorem dM_phrase_95 : Dc mM_phrase 95 (.bipush (-2)) 2 97 := ⟨by decide +kernel, rfl⟩
theorem dM_phrase_97 : Dc mM_phrase 97 .ireturn 1 98 := ⟨by decide +kernel, rfl⟩
theorem dM_phrase_98 : Dc mM_phrase 98 (.iinc 4 1) 3 101 := ⟨by decide +kernel, rfl⟩
theorem dM_phrase_101 : Db mM_phrase 101 .goto 43 104 := ⟨(-58), by decide +kernel, by decide, rfl⟩
theorem dM_phrase_104 : Dc mM_phrase 104 (.aload_n 0) 1 105 := ⟨by decide +kernel, rfl⟩
theorem dM_phrase_105 : Dc mM_phrase 105 (.getfield 251) 3 108 := ⟨by decide +kernel, rfl⟩
theorem dM_phrase_108 : Dc mM_phrase 108 (.bipush 40) 2 110 := ⟨by decide +kernel, rfl⟩
theorem dM_phrase_110 : Db mM_phrase 110 (.if_icmp .ne) 116 113 := ⟨6, by decide +kernel, by decide, rfl⟩
theorem dM_phrase_113 : Dc mM_phrase 113 (.bipush (-3)) 2 115 := ⟨by decide +kernel, rfl⟩
theorem dM_phrase_115 : Dc mM_phrase 115 .ireturn 1 116 := ⟨by decide +kernel, rfl⟩
theorem dM_phrase_116 : Dc mM_phrase 116 (.aload_n 0) 1 117 := ⟨by decide +kernel, rfl⟩
theorem dM_phrase_117 : Dc mM_phrase 117 (.getfield 107) 3 120 := ⟨by decide +kernel, rfl⟩
theorem dM_phrase_120 : Dc mM_phrase 120 (.iconst 3) 1 121 := ⟨by decide +kernel, rfl⟩
theorem dM_phrase_121 : Dc mM_phrase 121 (.aload_n 0) 1 122 := ⟨by decide +kernel, rfl⟩
theorem dM_phrase_122 : Dc mM_phrase 122 (.getfield 251) 3 125 := ⟨by decide +kernel, rfl⟩
theorem dM_phrase_125 : Dc mM_phrase 125 .imul 1 126 := ⟨by decide +kernel, rfl⟩
theorem dM_phrase_126 : Dc mM_phrase 126 (.iload_n 1) 1 127 := ⟨by decide +kernel, rfl⟩
theorem dM_phrase_127 : Dc mM_phrase 127 .iastore 1 128 := ⟨by decide +kernel, rfl⟩
theorem dM_phrase_128 : Dc mM_phrase 128 (.aload_n 0) 1 129 := ⟨by decide +kernel, rfl⟩
theorem dM_phrase_129 : Dc mM_phrase 129 (.getfield 107) 3 132 := ⟨by decide +kernel, rfl⟩
theorem dM_phrase_132 : Dc mM_phrase 132 (.iconst 3) 1 133 := ⟨by decide +kernel, rfl⟩
theorem dM_phrase_133 : Dc mM_phrase 133 (.aload_n 0) 1 134 := ⟨by decide +kernel, rfl⟩
theorem dM_phrase_134 : Dc mM_phrase 134 (.getfield 251) 3 137 := ⟨by decide +kernel, rfl⟩
theorem dM_phrase_137 : Dc mM_phrase 137 .imul 1 138 := ⟨by decide +kernel, rfl⟩
theorem dM_phrase_138 : Dc mM_phrase 138 (.iconst 1) 1 139 := ⟨by decide +kernel, rfl⟩
theorem dM_phrase_139 : Dc mM_phrase 139 .iadd 1 140 := ⟨by decide +kernel, rfl⟩
theorem dM_phrase_140 : Dc mM_phrase 140 (.iload_n 2) 1 141 := ⟨by decide +kernel, rfl⟩
theorem dM_phrase_141 : Dc mM_phrase 141 .iastore 1 142 := ⟨by decide +kernel, rfl⟩
theorem dM_phrase_142 : Dc mM_phrase 142 (.aload_n 0) 1 143 := ⟨by decide +kernel, rfl⟩
theorem dM_phrase_143 : Dc mM_phrase 143 (.getfield 107) 3 146 := ⟨by decide +kernel, rfl⟩
theorem dM_phrase_146 : Dc mM_phrase 146 (.iconst 3) 1 147 := ⟨by decide +kernel, rfl⟩
theorem dM_phrase_147 : Dc mM_phrase 147 (.aload_n 0) 1 148 := ⟨by decide +kernel, rfl⟩
theorem dM_phrase_148 : Dc mM_phrase 148 (.getfield 251) 3 151 := ⟨by decide +kernel, rfl⟩
theorem dM_phrase_151 : Dc mM_phrase 151 .imul 1 152 := ⟨by decide +kernel, rfl⟩
theorem dM_phrase_152 : Dc mM_phrase 152 (.iconst 2) 1 153 := ⟨by decide +kernel, rfl⟩
theorem dM_phrase_153 : Dc mM_phrase 153 .iadd 1 154 := ⟨by decide +kernel, rfl⟩
theorem dM_phrase_154 : Dc mM_phrase 154 (.iload_n 3) 1 155 := ⟨by decide +kernel, rfl⟩
theorem dM_phrase_155 : Dc mM_phrase 155 .iastore 1 156 := ⟨by decide +kernel, rfl⟩
theorem dM_phrase_156 : Dc mM_phrase 156 (.aload_n 0) 1 157 := ⟨by decide +kernel, rfl⟩
theorem dM_phrase_157 : Dc mM_phrase 157 .dup 1 158 := ⟨by decide +kernel, rfl⟩
theorem dM_phrase_158 : Dc mM_phrase 158 (.getfield 251) 3 161 := ⟨by decide +kernel, rfl⟩
theorem dM_phrase_161 : Dc mM_phrase 161 (.iconst 1) 1 162 := ⟨by decide +kernel, rfl⟩
theorem dM_phrase_162 : Dc mM_phrase 162 .iadd 1 163 := ⟨by decide +kernel, rfl⟩
theorem dM_phrase_163 : Dc mM_phrase 163 (.putfield 251) 3 166 := ⟨by decide +kernel, rfl⟩
theorem dM_phrase_166 : Dc mM_phrase 166 (.aload_n 0) 1 167 := ⟨by decide +kernel, rfl⟩
theorem dM_phrase_167 : Dc mM_phrase 167 (.getfield 251) 3 170 := ⟨by decide +kernel, rfl⟩
theorem dM_phrase_170 : Dc mM_phrase 170 (.iconst 1) 1 171 := ⟨by decide +kernel, rfl⟩
theorem dM_phrase_171 : Dc mM_phrase 171 .isub 1 172 := ⟨by decide +kernel, rfl⟩
theorem dM_phrase_172 : Dc mM_phrase 172 .ireturn 1 173 := ⟨by decide +kernel, rfl⟩
theorem dM_choose_0 : Dc mM_choose 0 (.iload_n 1) 1 1 := ⟨by decide +kernel, rfl⟩
theorem dM_choose_1 : Dc mM_choose 1 (.iconst 0) 1 2 := ⟨by decide +kernel, rfl⟩
theorem dM_choose_2 : Dc mM_choose 2 (.bipush 9) 2 4 := ⟨by decide +kernel, rfl⟩
theorem dM_choose_4 : Dc mM_choose 4 (.invokestatic 117) 3 7 := ⟨by decide +kernel, rfl⟩
theorem dM_choose_7 : Db mM_choose 7 (.ifCond .eq) 26 10 := ⟨19, by decide +kernel, by decide, rfl⟩
theorem dM_choose_10 : Dc mM_choose 10 (.aload_n 0) 1 11 := ⟨by decide +kernel, rfl⟩
theorem dM_choose_11 : Dc mM_choose 11 (.iload_n 2) 1 12 := ⟨by decide +kernel, rfl⟩
theorem dM_choose_12 : Dc mM_choose 12 (.invokevirtual 128) 3 15 := ⟨by decide +kernel, rfl⟩
theorem dM_choose_15 : Db mM_choose 15 (.ifCond .eq) 26 18 := ⟨11, by decide +kernel, by decide, rfl⟩
theorem dM_choose_18 : Dc mM_choose 18 (.aload_n 0) 1 19 := ⟨by decide +kernel, rfl⟩
theorem dM_choose_19 : Dc mM_choose 19 (.iload_n 3) 1 20 := ⟨by decide +kernel, rfl⟩
theorem dM_choose_20 : Dc mM_choose 20 (.invokevirtual 128) 3 23 := ⟨by decide +kernel, rfl⟩
theorem dM_choose_23 : Db mM_choose 23 (.ifCond .ne) 28 26 := ⟨5, by decide +kernel, by decide, rfl⟩
theorem dM_choose_26 : Dc mM_choose 26 (.iconst (-1)) 1 27 := ⟨by decide +kernel, rfl⟩
theorem dM_choose_27 : Dc mM_choose 27 .ireturn 1 28 := ⟨by decide +kernel, rfl⟩
theorem dM_choose_28 : Dc mM_choose 28 (.bipush (-4)) 2 30 := ⟨by decide +kernel, rfl⟩
theorem dM_choose_30 : Dc mM_choose 30 (.istore 4) 2 32 := ⟨by decide +kernel, rfl⟩
theorem dM_choose_32 : Dc mM_choose 32 (.iconst 0) 1 33 := ⟨by decide +kernel, rfl⟩
theorem dM_choose_33 : Dc mM_choose 33 (.istore 5) 2 35 := ⟨by decide +kernel, rfl⟩
theorem dM_choose_35 : Dc mM_choose 35 (.iload 5) 2 37 := ⟨by decide +kernel, rfl⟩
theorem dM_choose_37 : Dc mM_choose 37 (.aload_n 0) 1 38 := ⟨by decide +kernel, rfl⟩
theorem dM_choose_38 : Dc mM_choose 38 (.getfield 251) 3 41 := ⟨by decide +kernel, rfl⟩
theorem dM_choose_41 : Db mM_choose 41 (.if_icmp .ge) 189 44 := ⟨148, by decide +kernel, by decide, rfl⟩
theorem dM_choose_44 : Dc mM_choose 44 (.aload_n 0) 1 45 := ⟨by decide +kernel, rfl⟩
theorem dM_choose_45 : Dc mM_choose 45 (.iload 5) 2 47 := ⟨by decide +kernel, rfl⟩
theorem dM_choose_47 : Dc mM_choose 47 (.iload_n 1) 1 48 := ⟨by decide +kernel, rfl⟩
theorem dM_choose_48 : Dc mM_choose 48 (.iload_n 2) 1 49 := ⟨by decide +kernel, rfl⟩
theorem dM_choose_49 : Dc mM_choose 49 (.iload_n 3) 1 50 := ⟨by decide +kernel, rfl⟩
theorem dM_choose_50 : Dc mM_choose 50 (.invokevirtual 254) 3 53 := ⟨by decide +kernel, rfl⟩
theorem dM_choose_53 : Db mM_choose 53 (.ifCond .eq) 183 56 := ⟨130, by decide +kernel, by decide, rfl⟩
theorem dM_choose_56 : Dc mM_choose 56 (.iconst 1) 1 57 := ⟨by decide +kernel, rfl⟩
theorem dM_choose_57 : Dc mM_choose 57 (.istore 6) 2 59 := ⟨by decide +kernel, rfl⟩
theorem dM_choose_59 : Dc mM_choose 59 (.iconst 0) 1 60 := ⟨by decide +kernel, rfl⟩
theorem dM_choose_60 : Dc mM_choose 60 (.istore 7) 2 62 := ⟨by decide +kernel, rfl⟩
theorem dM_choose_62 : Dc mM_choose 62 (.iload 7) 2 64 := ⟨by decide +kernel, rfl⟩
theorem dM_choose_64 : Dc mM_choose 64 (.aload_n 0) 1 65 := ⟨by decide +kernel, rfl⟩
theorem dM_choose_65 : Dc mM_choose 65 (.getfield 251) 3 68 := ⟨by decide +kernel, rfl⟩
theorem dM_choose_68 : Db mM_choose 68 (.if_icmp .ge) 157 71 := ⟨89, by decide +kernel, by decide, rfl⟩
theorem dM_choose_71 : Dc mM_choose 71 (.iload 6) 2 73 := ⟨by decide +kernel, rfl⟩
theorem dM_choose_73 : Dc mM_choose 73 (.aload_n 0) 1 74 := ⟨by decide +kernel, rfl⟩
theorem dM_choose_74 : Dc mM_choose 74 (.iload 7) 2 76 := ⟨by decide +kernel, rfl⟩
theorem dM_choose_76 : Dc mM_choose 76 (.iload_n 1) 1 77 := ⟨by decide +kernel, rfl⟩
theorem dM_choose_77 : Dc mM_choose 77 (.iload_n 2) 1 78 := ⟨by decide +kernel, rfl⟩
theorem dM_choose_78 : Dc mM_choose 78 (.iload_n 3) 1 79 := ⟨by decide +kernel, rfl⟩
theorem dM_choose_79 : Dc mM_choose 79 (.invokevirtual 254) 3 82 := ⟨by decide +kernel, rfl⟩
theorem dM_choose_82 : Db mM_choose 82 (.ifCond .eq) 143 85 := ⟨61, by decide +kernel, by decide, rfl⟩
theorem dM_choose_85 : Dc mM_choose 85 (.aload_n 0) 1 86 := ⟨by decide +kernel, rfl⟩
theorem dM_choose_86 : Dc mM_choose 86 (.aload_n 0) 1 87 := ⟨by decide +kernel, rfl⟩
theorem dM_choose_87 : Dc mM_choose 87 (.getfield 107) 3 90 := ⟨by decide +kernel, rfl⟩
theorem dM_choose_90 : Dc mM_choose 90 (.iconst 3) 1 91 := ⟨by decide +kernel, rfl⟩
theorem dM_choose_91 : Dc mM_choose 91 (.iload 5) 2 93 := ⟨by decide +kernel, rfl⟩
theorem dM_choose_93 : Dc mM_choose 93 .imul 1 94 := ⟨by decide +kernel, rfl⟩
theorem dM_choose_94 : Dc mM_choose 94 (.iconst 1) 1 95 := ⟨by decide +kernel, rfl⟩
theorem dM_choose_95 : Dc mM_choose 95 .iadd 1 96 := ⟨by decide +kernel, rfl⟩
theorem dM_choose_96 : Dc mM_choose 96 .iaload 1 97 := ⟨by decide +kernel, rfl⟩
theorem dM_choose_97 : Dc mM_choose 97 (.aload_n 0) 1 98 := ⟨by decide +kernel, rfl⟩
theorem dM_choose_98 : Dc mM_choose 98 (.getfield 107) 3 101 := ⟨by decide +kernel, rfl⟩
theorem dM_choose_101 : Dc mM_choose 101 (.iconst 3) 1 102 := ⟨by decide +kernel, rfl⟩
theorem dM_choose_102 : Dc mM_choose 102 (.iload 7) 2 104 := ⟨by decide +kernel, rfl⟩
theorem dM_choose_104 : Dc mM_choose 104 .imul 1 105 := ⟨by decide +kernel, rfl⟩
theorem dM_choose_105 : Dc mM_choose 105 (.iconst 1) 1 106 := ⟨by decide +kernel, rfl⟩
theorem dM_choose_106 : Dc mM_choose 106 .iadd 1 107 := ⟨by decide +kernel, rfl⟩
theorem dM_choose_107 : Dc mM_choose 107 .iaload 1 108 := ⟨by decide +kernel, rfl⟩
theorem dM_choose_108 : Dc mM_choose 108 (.invokevirtual 121) 3 111 := ⟨by decide +kernel, rfl⟩
theorem dM_choose_111 : Db mM_choose 111 (.ifCond .eq) 147 114 := ⟨36, by decide +kernel, by decide, rfl⟩
theorem dM_choose_114 : Dc mM_choose 114 (.aload_n 0) 1 115 := ⟨by decide +kernel, rfl⟩
theorem dM_choose_115 : Dc mM_choose 115 (.aload_n 0) 1 116 := ⟨by decide +kernel, rfl⟩
theorem dM_choose_116 : Dc mM_choose 116 (.getfield 107) 3 119 := ⟨by decide +kernel, rfl⟩
theorem dM_choose_119 : Dc mM_choose 119 (.iconst 3) 1 120 := ⟨by decide +kernel, rfl⟩
theorem dM_choose_120 : Dc mM_choose 120 (.iload 5) 2 122 := ⟨by decide +kernel, rfl⟩
theorem dM_choose_122 : Dc mM_choose 122 .imul 1 123 := ⟨by decide +kernel, rfl⟩
theorem dM_choose_123 : Dc mM_choose 123 (.iconst 2) 1 124 := ⟨by decide +kernel, rfl⟩
theorem dM_choose_124 : Dc mM_choose 124 .iadd 1 125 := ⟨by decide +kernel, rfl⟩
theorem dM_choose_125 : Dc mM_choose 125 .iaload 1 126 := ⟨by decide +kernel, rfl⟩
theorem dM_choose_126 : Dc mM_choose 126 (.aload_n 0) 1 127 := ⟨by decide +kernel, rfl⟩
theorem dM_choose_127 : Dc mM_choose 127 (.getfield 107) 3 130 := ⟨by decide +kernel, rfl⟩
theorem dM_choose_130 : Dc mM_choose 130 (.iconst 3) 1 131 := ⟨by decide +kernel, rfl⟩
theorem dM_choose_131 : Dc mM_choose 131 (.iload 7) 2 133 := ⟨by decide +kernel, rfl⟩
theorem dM_choose_133 : Dc mM_choose 133 .imul 1 134 := ⟨by decide +kernel, rfl⟩
theorem dM_choose_134 : Dc mM_choose 134 (.iconst 2) 1 135 := ⟨by decide +kernel, rfl⟩
theorem dM_choose_135 : Dc mM_choose 135 .iadd 1 136 := ⟨by decide +kernel, rfl⟩
theorem dM_choose_136 : Dc mM_choose 136 .iaload 1 137 := ⟨by decide +kernel, rfl⟩
theorem dM_choose_137 : Dc mM_choose 137 (.invokevirtual 121) 3 140 := ⟨by decide +kernel, rfl⟩
theorem dM_choose_140 : Db mM_choose 140 (.ifCond .eq) 147 143 := ⟨7, by decide +kernel, by decide, rfl⟩
theorem dM_choose_143 : Dc mM_choose 143 (.iconst 1) 1 144 := ⟨by decide +kernel, rfl⟩
theorem dM_choose_144 : Db mM_choose 144 .goto 148 147 := ⟨4, by decide +kernel, by decide, rfl⟩
theorem dM_choose_147 : Dc mM_choose 147 (.iconst 0) 1 148 := ⟨by decide +kernel, rfl⟩
theorem dM_choose_148 : Dc mM_choose 148 .iand 1 149 := ⟨by decide +kernel, rfl⟩
theorem dM_choose_149 : Dc mM_choose 149 (.istore 6) 2 151 := ⟨by decide +kernel, rfl⟩
theorem dM_choose_151 : Dc mM_choose 151 (.iinc 7 1) 3 154 := ⟨by decide +kernel, rfl⟩
theorem dM_choose_154 : Db mM_choose 154 .goto 62 157 := ⟨(-92), by decide +kernel, by decide, rfl⟩
theorem dM_choose_157 : Dc mM_choose 157 (.iload 6) 2 159 := ⟨by decide +kernel, rfl⟩
theorem dM_choose_159 : Db mM_choose 159 (.ifCond .eq) 167 162 := ⟨8, by decide +kernel, by decide, rfl⟩
theorem dM_choose_162 : Dc mM_choose 162 (.iload 5) 2 164 := ⟨by decide +kernel, rfl⟩
theorem dM_choose_164 : Db mM_choose 164 .goto 181 167 := ⟨17, by decide +kernel, by decide, rfl⟩
theorem dM_choose_167 : Dc mM_choose 167 (.iload 4) 2 169 := ⟨by decide +kernel, rfl⟩
theorem dM_choose_169 : Dc mM_choose 169 (.bipush (-4)) 2 171 := ⟨by decide +kernel, rfl⟩
theorem dM_choose_171 : Db mM_choose 171 (.if_icmp .ne) 179 174 := ⟨8, by decide +kernel, by decide, rfl⟩
theorem dM_choose_174 : Dc mM_choose 174 (.bipush (-5)) 2 176 := ⟨by decide +kernel, rfl⟩
theorem dM_choose_176 : Db mM_choose 176 .goto 181 179 := ⟨5, by decide +kernel, by decide, rfl⟩
theorem dM_choose_179 : Dc mM_choose 179 (.iload 4) 2 181 := ⟨by decide +kernel, rfl⟩
theorem dM_choose_181 : Dc mM_choose 181 (.istore 4) 2 183 := ⟨by decide +kernel, rfl⟩
theorem dM_choose_183 : Dc mM_choose 183 (.iinc 5 1) 3 186 := ⟨by decide +kernel, rfl⟩
theorem dM_choose_186 : Db mM_choose 186 .goto 35 189 := ⟨(-151), by decide +kernel, by decide, rfl⟩
theorem dM_choose_189 : Dc mM_choose 189 (.iload 4) 2 191 := ⟨by decide +kernel, rfl⟩
theorem dM_choose_191 : Dc mM_choose 191 .ireturn 1 192 := ⟨by decide +kernel, rfl⟩
theorem dM_isMeant_0 : Dc mM_isMeant 0 (.aload_n 0) 1 1 := ⟨by decide +kernel, rfl⟩
theorem dM_isMeant_1 : Dc mM_isMeant 1 (.getfield 107) 3 4 := ⟨by decide +kernel, rfl⟩
theorem dM_isMeant_4 : Dc mM_isMeant 4 (.iconst 3) 1 5 := ⟨by decide +kernel, rfl⟩
theorem dM_isMeant_5 : Dc mM_isMeant 5 (.iload_n 1) 1 6 := ⟨by decide +kernel, rfl⟩
theorem dM_isMeant_6 : Dc mM_isMeant 6 .imul 1 7 := ⟨by decide +kernel, rfl⟩
theorem dM_isMeant_7 : Dc mM_isMeant 7 .iaload 1 8 := ⟨by decide +kernel, rfl⟩
theorem dM_isMeant_8 : Dc mM_isMeant 8 (.iload_n 2) 1 9 := ⟨by decide +kernel, rfl⟩
theorem dM_isMeant_9 : Db mM_isMeant 9 (.if_icmp .ne) 63 12 := ⟨54, by decide +kernel, by decide, rfl⟩
theorem dM_isMeant_12 : Dc mM_isMeant 12 (.aload_n 0) 1 13 := ⟨by decide +kernel, rfl⟩
theorem dM_isMeant_13 : Dc mM_isMeant 13 (.aload_n 0) 1 14 := ⟨by decide +kernel, rfl⟩
theorem dM_isMeant_14 : Dc mM_isMeant 14 (.getfield 13) 3 17 := ⟨by decide +kernel, rfl⟩
theorem dM_isMeant_17 : Dc mM_isMeant 17 (.iload_n 3) 1 18 := ⟨by decide +kernel, rfl⟩
theorem dM_isMeant_18 : Dc mM_isMeant 18 .iaload 1 19 := ⟨by decide +kernel, rfl⟩
theorem dM_isMeant_19 : Dc mM_isMeant 19 (.aload_n 0) 1 20 := ⟨by decide +kernel, rfl⟩
theorem dM_isMeant_20 : Dc mM_isMeant 20 (.getfield 107) 3 23 := ⟨by decide +kernel, rfl⟩
theorem dM_isMeant_23 : Dc mM_isMeant 23 (.iconst 3) 1 24 := ⟨by decide +kernel, rfl⟩
theorem dM_isMeant_24 : Dc mM_isMeant 24 (.iload_n 1) 1 25 := ⟨by decide +kernel, rfl⟩
theorem dM_isMeant_25 : Dc mM_isMeant 25 .imul 1 26 := ⟨by decide +kernel, rfl⟩
theorem dM_isMeant_26 : Dc mM_isMeant 26 (.iconst 1) 1 27 := ⟨by decide +kernel, rfl⟩
theorem dM_isMeant_27 : Dc mM_isMeant 27 .iadd 1 28 := ⟨by decide +kernel, rfl⟩
theorem dM_isMeant_28 : Dc mM_isMeant 28 .iaload 1 29 := ⟨by decide +kernel, rfl⟩
theorem dM_isMeant_29 : Dc mM_isMeant 29 (.invokevirtual 121) 3 32 := ⟨by decide +kernel, rfl⟩
theorem dM_isMeant_32 : Db mM_isMeant 32 (.ifCond .eq) 63 35 := ⟨31, by decide +kernel, by decide, rfl⟩
theorem dM_isMeant_35 : Dc mM_isMeant 35 (.aload_n 0) 1 36 := ⟨by decide +kernel, rfl⟩
theorem dM_isMeant_36 : Dc mM_isMeant 36 (.aload_n 0) 1 37 := ⟨by decide +kernel, rfl⟩
theorem dM_isMeant_37 : Dc mM_isMeant 37 (.getfield 13) 3 40 := ⟨by decide +kernel, rfl⟩
theorem dM_isMeant_40 : Dc mM_isMeant 40 (.iload 4) 2 42 := ⟨by decide +kernel, rfl⟩
theorem dM_isMeant_42 : Dc mM_isMeant 42 .iaload 1 43 := ⟨by decide +kernel, rfl⟩
theorem dM_isMeant_43 : Dc mM_isMeant 43 (.aload_n 0) 1 44 := ⟨by decide +kernel, rfl⟩
theorem dM_isMeant_44 : Dc mM_isMeant 44 (.getfield 107) 3 47 := ⟨by decide +kernel, rfl⟩
theorem dM_isMeant_47 : Dc mM_isMeant 47 (.iconst 3) 1 48 := ⟨by decide +kernel, rfl⟩
theorem dM_isMeant_48 : Dc mM_isMeant 48 (.iload_n 1) 1 49 := ⟨by decide +kernel, rfl⟩
theorem dM_isMeant_49 : Dc mM_isMeant 49 .imul 1 50 := ⟨by decide +kernel, rfl⟩
theorem dM_isMeant_50 : Dc mM_isMeant 50 (.iconst 2) 1 51 := ⟨by decide +kernel, rfl⟩
theorem dM_isMeant_51 : Dc mM_isMeant 51 .iadd 1 52 := ⟨by decide +kernel, rfl⟩
theorem dM_isMeant_52 : Dc mM_isMeant 52 .iaload 1 53 := ⟨by decide +kernel, rfl⟩
theorem dM_isMeant_53 : Dc mM_isMeant 53 (.invokevirtual 121) 3 56 := ⟨by decide +kernel, rfl⟩
theorem dM_isMeant_56 : Db mM_isMeant 56 (.ifCond .eq) 63 59 := ⟨7, by decide +kernel, by decide, rfl⟩
theorem dM_isMeant_59 : Dc mM_isMeant 59 (.iconst 1) 1 60 := ⟨by decide +kernel, rfl⟩
theorem dM_isMeant_60 : Db mM_isMeant 60 .goto 64 63 := ⟨4, by decide +kernel, by decide, rfl⟩
theorem dM_isMeant_63 : Dc mM_isMeant 63 (.iconst 0) 1 64 := ⟨by decide +kernel, rfl⟩
theorem dM_isMeant_64 : Dc mM_isMeant 64 .ireturn 1 65 := ⟨by decide +kernel, rfl⟩
theorem dM_count_0 : Dc mM_count 0 (.iload_n 1) 1 1 := ⟨by decide +kernel, rfl⟩
theorem dM_count_1 : Dc mM_count 1 (.tableswitch (114) (0) (10) #[59, 64, 69, 74, 79, 84, 89, 94, 99, 104, 109]) 59 60 := ⟨by decide +kernel, rfl⟩
theorem dM_count_60 : Dc mM_count 60 (.aload_n 0) 1 61 := ⟨by decide +kernel, rfl⟩
theorem dM_count_61 : Dc mM_count 61 (.getfield 110) 3 64 := ⟨by decide +kernel, rfl⟩
theorem dM_count_64 : Dc mM_count 64 .ireturn 1 65 := ⟨by decide +kernel, rfl⟩
theorem dM_count_65 : Dc mM_count 65 (.aload_n 0) 1 66 := ⟨by decide +kernel, rfl⟩
theorem dM_count_66 : Dc mM_count 66 (.getfield 125) 3 69 := ⟨by decide +kernel, rfl⟩
theorem dM_count_69 : Dc mM_count 69 .ireturn 1 70 := ⟨by decide +kernel, rfl⟩
theorem dM_count_70 : Dc mM_count 70 (.aload_n 0) 1 71 := ⟨by decide +kernel, rfl⟩
theorem dM_count_71 : Dc mM_count 71 (.getfield 132) 3 74 := ⟨by decide +kernel, rfl⟩
theorem dM_count_74 : Dc mM_count 74 .ireturn 1 75 := ⟨by decide +kernel, rfl⟩
theorem dM_count_75 : Dc mM_count 75 (.aload_n 0) 1 76 := ⟨by decide +kernel, rfl⟩
theorem dM_count_76 : Dc mM_count 76 (.getfield 138) 3 79 := ⟨by decide +kernel, rfl⟩
theorem dM_count_79 : Dc mM_count 79 .ireturn 1 80 := ⟨by decide +kernel, rfl⟩
theorem dM_count_80 : Dc mM_count 80 (.aload_n 0) 1 81 := ⟨by decide +kernel, rfl⟩
theorem dM_count_81 : Dc mM_count 81 (.getfield 227) 3 84 := ⟨by decide +kernel, rfl⟩
theorem dM_count_84 : Dc mM_count 84 .ireturn 1 85 := ⟨by decide +kernel, rfl⟩
theorem dM_count_85 : Dc mM_count 85 (.aload_n 0) 1 86 := ⟨by decide +kernel, rfl⟩
theorem dM_count_86 : Dc mM_count 86 (.getfield 230) 3 89 := ⟨by decide +kernel, rfl⟩
theorem dM_count_89 : Dc mM_count 89 .ireturn 1 90 := ⟨by decide +kernel, rfl⟩
theorem dM_count_90 : Dc mM_count 90 (.aload_n 0) 1 91 := ⟨by decide +kernel, rfl⟩
theorem dM_count_91 : Dc mM_count 91 (.getfield 233) 3 94 := ⟨by decide +kernel, rfl⟩
theorem dM_count_94 : Dc mM_count 94 .ireturn 1 95 := ⟨by decide +kernel, rfl⟩
theorem dM_count_95 : Dc mM_count 95 (.aload_n 0) 1 96 := ⟨by decide +kernel, rfl⟩
theorem dM_count_96 : Dc mM_count 96 (.getfield 144) 3 99 := ⟨by decide +kernel, rfl⟩
theorem dM_count_99 : Dc mM_count 99 .ireturn 1 100 := ⟨by decide +kernel, rfl⟩
theorem dM_count_100 : Dc mM_count 100 (.aload_n 0) 1 101 := ⟨by decide +kernel, rfl⟩
theorem dM_count_101 : Dc mM_count 101 (.getfield 251) 3 104 := ⟨by decide +kernel, rfl⟩
theorem dM_count_104 : Dc mM_count 104 .ireturn 1 105 := ⟨by decide +kernel, rfl⟩
theorem dM_count_105 : Dc mM_count 105 (.aload_n 0) 1 106 := ⟨by decide +kernel, rfl⟩
theorem dM_count_106 : Dc mM_count 106 (.getfield 191) 3 109 := ⟨by decide +kernel, rfl⟩
theorem dM_count_109 : Dc mM_count 109 .ireturn 1 110 := ⟨by decide +kernel, rfl⟩
theorem dM_count_110 : Dc mM_count 110 (.aload_n 0) 1 111 := ⟨by decide +kernel, rfl⟩
theorem dM_count_111 : Dc mM_count 111 (.getfield 242) 3 114 := ⟨by decide +kernel, rfl⟩
theorem dM_count_114 : Dc mM_count 114 .ireturn 1 115 := ⟨by decide +kernel, rfl⟩
theorem dM_count_115 : Dc mM_count 115 (.iconst (-1)) 1 116 := ⟨by decide +kernel, rfl⟩
theorem dM_count_116 : Dc mM_count 116 .ireturn 1 117 := ⟨by decide +kernel, rfl⟩
end
section
theorem dAL_init_0 : Dc mAL_init 0 (.aload_n 0) 1 1 := ⟨by decide +kernel, rfl⟩
theorem dAL_init_1 : Dc mAL_init 1 (.invokespecial 1) 3 4 := ⟨by decide +kernel, rfl⟩
theorem dAL_init_4 : Dc mAL_init 4 (.aload_n 0) 1 5 := ⟨by decide +kernel, rfl⟩
theorem dAL_init_5 : Dc mAL_init 5 (.getstatic 39) 3 8 := ⟨by decide +kernel, rfl⟩
theorem dAL_init_8 : Dc mAL_init 8 (.putfield 9) 3 11 := ⟨by decide +kernel, rfl⟩
theorem dAL_init_11 : Dc mAL_init 11 .return_ 1 12 := ⟨by decide +kernel, rfl⟩
theorem dAbL_init_0 : Dc mAbL_init 0 (.aload_n 0) 1 1 := ⟨by decide +kernel, rfl⟩
theorem dAbL_init_1 : Dc mAbL_init 1 (.invokespecial 1) 3 4 := ⟨by decide +kernel, rfl⟩
theorem dAbL_init_4 : Dc mAbL_init 4 (.aload_n 0) 1 5 := ⟨by decide +kernel, rfl⟩
theorem dAbL_init_5 : Dc mAbL_init 5 (.iconst 0) 1 6 := ⟨by decide +kernel, rfl⟩
theorem dAbL_init_6 : Dc mAbL_init 6 (.putfield 7) 3 9 := ⟨by decide +kernel, rfl⟩
theorem dAbL_init_9 : Dc mAbL_init 9 .return_ 1 10 := ⟨by decide +kernel, rfl⟩
theorem dAbC_init_0 : Dc mAbC_init 0 (.aload_n 0) 1 1 := ⟨by decide +kernel, rfl⟩
theorem dAbC_init_1 : Dc mAbC_init 1 (.invokespecial 1) 3 4 := ⟨by decide +kernel, rfl⟩
theorem dAbC_init_4 : Dc mAbC_init 4 .return_ 1 5 := ⟨by decide +kernel, rfl⟩
theorem dAL_size_0 : Dc mAL_size 0 (.aload_n 0) 1 1 := ⟨by decide +kernel, rfl⟩
theorem dAL_size_1 : Dc mAL_size 1 (.getfield 48) 3 4 := ⟨by decide +kernel, rfl⟩
theorem dAL_size_4 : Dc mAL_size 4 .ireturn 1 5 := ⟨by decide +kernel, rfl⟩
theorem dAL_add_0 : Dc mAL_add 0 (.aload_n 0) 1 1 := ⟨by decide +kernel, rfl⟩
theorem dAL_add_1 : Dc mAL_add 1 .dup 1 2 := ⟨by decide +kernel, rfl⟩
theorem dAL_add_2 : Dc mAL_add 2 (.getfield 63) 3 5 := ⟨by decide +kernel, rfl⟩
theorem dAL_add_5 : Dc mAL_add 5 (.iconst 1) 1 6 := ⟨by decide +kernel, rfl⟩
theorem dAL_add_6 : Dc mAL_add 6 .iadd 1 7 := ⟨by decide +kernel, rfl⟩
theorem dAL_add_7 : Dc mAL_add 7 (.putfield 63) 3 10 := ⟨by decide +kernel, rfl⟩
theorem dAL_add_10 : Dc mAL_add 10 (.aload_n 0) 1 11 := ⟨by decide +kernel, rfl⟩
theorem dAL_add_11 : Dc mAL_add 11 (.aload_n 1) 1 12 := ⟨by decide +kernel, rfl⟩
theorem dAL_add_12 : Dc mAL_add 12 (.aload_n 0) 1 13 := ⟨by decide +kernel, rfl⟩
theorem dAL_add_13 : Dc mAL_add 13 (.getfield 9) 3 16 := ⟨by decide +kernel, rfl⟩
theorem dAL_add_16 : Dc mAL_add 16 (.aload_n 0) 1 17 := ⟨by decide +kernel, rfl⟩
theorem dAL_add_17 : Dc mAL_add 17 (.getfield 48) 3 20 := ⟨by decide +kernel, rfl⟩
theorem dAL_add_20 : Dc mAL_add 20 (.invokevirtual 131) 3 23 := ⟨by decide +kernel, rfl⟩
theorem dAL_add_23 : Dc mAL_add 23 (.iconst 1) 1 24 := ⟨by decide +kernel, rfl⟩
theorem dAL_add_24 : Dc mAL_add 24 .ireturn 1 25 := ⟨by decide +kernel, rfl⟩
theorem dAL_add1_0 : Dc mAL_add1 0 (.iload_n 3) 1 1 := ⟨by decide +kernel, rfl⟩
theorem dAL_add1_1 : Dc mAL_add1 1 (.aload_n 2) 1 2 := ⟨by decide +kernel, rfl⟩
theorem dAL_add1_2 : Dc mAL_add1 2 .arraylength 1 3 := ⟨by decide +kernel, rfl⟩
theorem dAL_add1_3 : Db mAL_add1 3 (.if_icmp .ne) 11 6 := ⟨8, by decide +kernel, by decide, rfl⟩
theorem dAL_add1_6 : Dc mAL_add1 6 (.aload_n 0) 1 7 := ⟨by decide +kernel, rfl⟩
theorem dAL_add1_7 : Dc mAL_add1 7 (.invokevirtual 129) 3 10 := ⟨by decide +kernel, rfl⟩
theorem dAL_add1_10 : Dc mAL_add1 10 (.astore_n 2) 1 11 := ⟨by decide +kernel, rfl⟩
theorem dAL_add1_11 : Dc mAL_add1 11 (.aload_n 2) 1 12 := ⟨by decide +kernel, rfl⟩
theorem dAL_add1_12 : Dc mAL_add1 12 (.iload_n 3) 1 13 := ⟨by decide +kernel, rfl⟩
theorem dAL_add1_13 : Dc mAL_add1 13 (.aload_n 1) 1 14 := ⟨by decide +kernel, rfl⟩
theorem dAL_add1_14 : Dc mAL_add1 14 .aastore 1 15 := ⟨by decide +kernel, rfl⟩
theorem dAL_add1_15 : Dc mAL_add1 15 (.aload_n 0) 1 16 := ⟨by decide +kernel, rfl⟩
theorem dAL_add1_16 : Dc mAL_add1 16 (.iload_n 3) 1 17 := ⟨by decide +kernel, rfl⟩
theorem dAL_add1_17 : Dc mAL_add1 17 (.iconst 1) 1 18 := ⟨by decide +kernel, rfl⟩
theorem dAL_add1_18 : Dc mAL_add1 18 .iadd 1 19 := ⟨by decide +kernel, rfl⟩
theorem dAL_add1_19 : Dc mAL_add1 19 (.putfield 48) 3 22 := ⟨by decide +kernel, rfl⟩
theorem dAL_add1_22 : Dc mAL_add1 22 .return_ 1 23 := ⟨by decide +kernel, rfl⟩
theorem dAL_grow_0 : Dc mAL_grow 0 (.aload_n 0) 1 1 := ⟨by decide +kernel, rfl⟩
theorem dAL_grow_1 : Dc mAL_grow 1 (.aload_n 0) 1 2 := ⟨by decide +kernel, rfl⟩
theorem dAL_grow_2 : Dc mAL_grow 2 (.getfield 48) 3 5 := ⟨by decide +kernel, rfl⟩
theorem dAL_grow_5 : Dc mAL_grow 5 (.iconst 1) 1 6 := ⟨by decide +kernel, rfl⟩
theorem dAL_grow_6 : Dc mAL_grow 6 .iadd 1 7 := ⟨by decide +kernel, rfl⟩
theorem dAL_grow_7 : Dc mAL_grow 7 (.invokevirtual 69) 3 10 := ⟨by decide +kernel, rfl⟩
theorem dAL_grow_10 : Dc mAL_grow 10 .areturn 1 11 := ⟨by decide +kernel, rfl⟩
theorem dAL_grow1_0 : Dc mAL_grow1 0 (.aload_n 0) 1 1 := ⟨by decide +kernel, rfl⟩
theorem dAL_grow1_1 : Dc mAL_grow1 1 (.getfield 9) 3 4 := ⟨by decide +kernel, rfl⟩
theorem dAL_grow1_4 : Dc mAL_grow1 4 .arraylength 1 5 := ⟨by decide +kernel, rfl⟩
theorem dAL_grow1_5 : Dc mAL_grow1 5 (.istore_n 2) 1 6 := ⟨by decide +kernel, rfl⟩
theorem dAL_grow1_6 : Dc mAL_grow1 6 (.iload_n 2) 1 7 := ⟨by decide +kernel, rfl⟩
theorem dAL_grow1_7 : Db mAL_grow1 7 (.ifCond .gt) 20 10 := ⟨13, by decide +kernel, by decide, rfl⟩
theorem dAL_grow1_10 : Dc mAL_grow1 10 (.aload_n 0) 1 11 := ⟨by decide +kernel, rfl⟩
theorem dAL_grow1_11 : Dc mAL_grow1 11 (.getfield 9) 3 14 := ⟨by decide +kernel, rfl⟩
theorem dAL_grow1_14 : Dc mAL_grow1 14 (.getstatic 39) 3 17 := ⟨by decide +kernel, rfl⟩
theorem dAL_grow1_17 : Db mAL_grow1 17 (.if_acmp .eq) 45 20 := ⟨28, by decide +kernel, by decide, rfl⟩
theorem dAL_grow1_20 : Dc mAL_grow1 20 (.iload_n 2) 1 21 := ⟨by decide +kernel, rfl⟩
theorem dAL_grow1_21 : Dc mAL_grow1 21 (.iload_n 1) 1 22 := ⟨by decide +kernel, rfl⟩
theorem dAL_grow1_22 : Dc mAL_grow1 22 (.iload_n 2) 1 23 := ⟨by decide +kernel, rfl⟩
theorem dAL_grow1_23 : Dc mAL_grow1 23 .isub 1 24 := ⟨by decide +kernel, rfl⟩
theorem dAL_grow1_24 : Dc mAL_grow1 24 (.iload_n 2) 1 25 := ⟨by decide +kernel, rfl⟩
theorem dAL_grow1_25 : Dc mAL_grow1 25 (.iconst 1) 1 26 := ⟨by decide +kernel, rfl⟩
theorem dAL_grow1_26 : Dc mAL_grow1 26 .ishr 1 27 := ⟨by decide +kernel, rfl⟩
theorem dAL_grow1_27 : Dc mAL_grow1 27 (.invokestatic 73) 3 30 := ⟨by decide +kernel, rfl⟩
theorem dAL_grow1_30 : Dc mAL_grow1 30 (.istore_n 3) 1 31 := ⟨by decide +kernel, rfl⟩
theorem dAL_grow1_31 : Dc mAL_grow1 31 (.aload_n 0) 1 32 := ⟨by decide +kernel, rfl⟩
theorem dAL_grow1_32 : Dc mAL_grow1 32 (.aload_n 0) 1 33 := ⟨by decide +kernel, rfl⟩
theorem dAL_grow1_33 : Dc mAL_grow1 33 (.getfield 9) 3 36 := ⟨by decide +kernel, rfl⟩
theorem dAL_grow1_36 : Dc mAL_grow1 36 (.iload_n 3) 1 37 := ⟨by decide +kernel, rfl⟩
theorem dAL_grow1_37 : Dc mAL_grow1 37 (.invokestatic 66) 3 40 := ⟨by decide +kernel, rfl⟩
theorem dAL_grow1_40 : Dc mAL_grow1 40 .dup_x1 1 41 := ⟨by decide +kernel, rfl⟩
theorem dAL_grow1_41 : Dc mAL_grow1 41 (.putfield 9) 3 44 := ⟨by decide +kernel, rfl⟩
theorem dAL_grow1_44 : Dc mAL_grow1 44 .areturn 1 45 := ⟨by decide +kernel, rfl⟩
theorem dAL_grow1_45 : Dc mAL_grow1 45 (.aload_n 0) 1 46 := ⟨by decide +kernel, rfl⟩
theorem dAL_grow1_46 : Dc mAL_grow1 46 (.bipush 10) 2 48 := ⟨by decide +kernel, rfl⟩
theorem dAL_grow1_48 : Dc mAL_grow1 48 (.iload_n 1) 1 49 := ⟨by decide +kernel, rfl⟩
theorem dAL_grow1_49 : Dc mAL_grow1 49 (.invokestatic 79) 3 52 := ⟨by decide +kernel, rfl⟩
theorem dAL_grow1_52 : Dc mAL_grow1 52 (.anewarray 7) 3 55 := ⟨by decide +kernel, rfl⟩
theorem dAL_grow1_55 : Dc mAL_grow1 55 .dup_x1 1 56 := ⟨by decide +kernel, rfl⟩
theorem dAL_grow1_56 : Dc mAL_grow1 56 (.putfield 9) 3 59 := ⟨by decide +kernel, rfl⟩
theorem dAL_grow1_59 : Dc mAL_grow1 59 .areturn 1 60 := ⟨by decide +kernel, rfl⟩
theorem dASup_newLength_0 : Dc mASup_newLength 0 (.iload_n 0) 1 1 := ⟨by decide +kernel, rfl⟩
theorem dASup_newLength_1 : Dc mASup_newLength 1 (.iload_n 1) 1 2 := ⟨by decide +kernel, rfl⟩
theorem dASup_newLength_2 : Dc mASup_newLength 2 (.iload_n 2) 1 3 := ⟨by decide +kernel, rfl⟩
theorem dASup_newLength_3 : Dc mASup_newLength 3 (.invokestatic 194) 3 6 := ⟨by decide +kernel, rfl⟩
theorem dASup_newLength_6 : Dc mASup_newLength 6 .iadd 1 7 := ⟨by decide +kernel, rfl⟩
theorem dASup_newLength_7 : Dc mASup_newLength 7 (.istore_n 3) 1 8 := ⟨by decide +kernel, rfl⟩
theorem dASup_newLength_8 : Dc mASup_newLength 8 (.iconst 0) 1 9 := ⟨by decide +kernel, rfl⟩
theorem dASup_newLength_9 : Dc mASup_newLength 9 (.iload_n 3) 1 10 := ⟨by decide +kernel, rfl⟩
theorem dASup_newLength_10 : Db mASup_newLength 10 (.if_icmp .ge) 21 13 := ⟨11, by decide +kernel, by decide, rfl⟩
theorem dASup_newLength_13 : Dc mASup_newLength 13 (.iload_n 3) 1 14 := ⟨by decide +kernel, rfl⟩
theorem dASup_newLength_14 : Dc mASup_newLength 14 (.ldc 200) 2 16 := ⟨by decide +kernel, rfl⟩
theorem dASup_newLength_16 : Db mASup_newLength 16 (.if_icmp .gt) 21 19 := ⟨5, by decide +kernel, by decide, rfl⟩
theorem dASup_newLength_19 : Dc mASup_newLength 19 (.iload_n 3) 1 20 := ⟨by decide +kernel, rfl⟩
theorem dASup_newLength_20 : Dc mASup_newLength 20 .ireturn 1 21 := ⟨by decide +kernel, rfl⟩
theorem dASup_newLength_21 : Dc mASup_newLength 21 (.iload_n 0) 1 22 := ⟨by decide +kernel, rfl⟩
theorem dASup_newLength_22 : Dc mASup_newLength 22 (.iload_n 1) 1 23 := ⟨by decide +kernel, rfl⟩
theorem dASup_newLength_23 : Dc mASup_newLength 23 (.invokestatic 201) 3 26 := ⟨by decide +kernel, rfl⟩
theorem dASup_newLength_26 : Dc mASup_newLength 26 .ireturn 1 27 := ⟨by decide +kernel, rfl⟩
theorem dMth_max_0 : Dc mMth_max 0 (.iload_n 0) 1 1 := ⟨by decide +kernel, rfl⟩
theorem dMth_max_1 : Dc mMth_max 1 (.iload_n 1) 1 2 := ⟨by decide +kernel, rfl⟩
theorem dMth_max_2 : Db mMth_max 2 (.if_icmp .lt) 9 5 := ⟨7, by decide +kernel, by decide, rfl⟩
theorem dMth_max_5 : Dc mMth_max 5 (.iload_n 0) 1 6 := ⟨by decide +kernel, rfl⟩
theorem dMth_max_6 : Db mMth_max 6 .goto 10 9 := ⟨4, by decide +kernel, by decide, rfl⟩
theorem dMth_max_9 : Dc mMth_max 9 (.iload_n 1) 1 10 := ⟨by decide +kernel, rfl⟩
theorem dMth_max_10 : Dc mMth_max 10 .ireturn 1 11 := ⟨by decide +kernel, rfl⟩
theorem dASup_hugeLength_0 : Dc mASup_hugeLength 0 (.iload_n 0) 1 1 := ⟨by decide +kernel, rfl⟩
theorem dASup_hugeLength_1 : Dc mASup_hugeLength 1 (.iload_n 1) 1 2 := ⟨by decide +kernel, rfl⟩
theorem dASup_hugeLength_2 : Dc mASup_hugeLength 2 .iadd 1 3 := ⟨by decide +kernel, rfl⟩
theorem dASup_hugeLength_3 : Dc mASup_hugeLength 3 (.istore_n 2) 1 4 := ⟨by decide +kernel, rfl⟩
theorem dASup_hugeLength_4 : Dc mASup_hugeLength 4 (.iload_n 2) 1 5 := ⟨by decide +kernel, rfl⟩
theorem dASup_hugeLength_5 : Db mASup_hugeLength 5 (.ifCond .ge) 49 8 := ⟨44, by decide +kernel, by decide, rfl⟩
theorem dASup_hugeLength_8 : Dc mASup_hugeLength 8 (.new 204) 3 11 := ⟨by decide +kernel, rfl⟩
theorem dASup_hugeLength_11 : Dc mASup_hugeLength 11 .dup 1 12 := ⟨by decide +kernel, rfl⟩
theorem dASup_hugeLength_12 : Dc mASup_hugeLength 12 (.new 89) 3 15 := ⟨by decide +kernel, rfl⟩
theorem dASup_hugeLength_15 : Dc mASup_hugeLength 15 .dup 1 16 := ⟨by decide +kernel, rfl⟩
theorem dASup_hugeLength_16 : Dc mASup_hugeLength 16 (.invokespecial 91) 3 19 := ⟨by decide +kernel, rfl⟩
theorem dASup_hugeLength_19 : Dc mASup_hugeLength 19 (.ldc 206) 2 21 := ⟨by decide +kernel, rfl⟩
theorem dASup_hugeLength_21 : Dc mASup_hugeLength 21 (.invokevirtual 94) 3 24 := ⟨by decide +kernel, rfl⟩
theorem dASup_hugeLength_24 : Dc mASup_hugeLength 24 (.iload_n 0) 1 25 := ⟨by decide +kernel, rfl⟩
theorem dASup_hugeLength_25 : Dc mASup_hugeLength 25 (.invokevirtual 98) 3 28 := ⟨by decide +kernel, rfl⟩
theorem dASup_hugeLength_28 : Dc mASup_hugeLength 28 (.ldc 208) 2 30 := ⟨by decide +kernel, rfl⟩
theorem dASup_hugeLength_30 : Dc mASup_hugeLength 30 (.invokevirtual 94) 3 33 := ⟨by decide +kernel, rfl⟩
theorem dASup_hugeLength_33 : Dc mASup_hugeLength 33 (.iload_n 1) 1 34 := ⟨by decide +kernel, rfl⟩
theorem dASup_hugeLength_34 : Dc mASup_hugeLength 34 (.invokevirtual 98) 3 37 := ⟨by decide +kernel, rfl⟩
theorem dASup_hugeLength_37 : Dc mASup_hugeLength 37 (.ldc 210) 2 39 := ⟨by decide +kernel, rfl⟩
theorem dASup_hugeLength_39 : Dc mASup_hugeLength 39 (.invokevirtual 94) 3 42 := ⟨by decide +kernel, rfl⟩
theorem dASup_hugeLength_42 : Dc mASup_hugeLength 42 (.invokevirtual 101) 3 45 := ⟨by decide +kernel, rfl⟩
theorem dASup_hugeLength_45 : Dc mASup_hugeLength 45 (.invokespecial 212) 3 48 := ⟨by decide +kernel, rfl⟩
theorem dASup_hugeLength_48 : Dc mASup_hugeLength 48 .athrow 1 49 := ⟨by decide +kernel, rfl⟩
theorem dASup_hugeLength_49 : Dc mASup_hugeLength 49 (.iload_n 2) 1 50 := ⟨by decide +kernel, rfl⟩
theorem dASup_hugeLength_50 : Dc mASup_hugeLength 50 (.ldc 200) 2 52 := ⟨by decide +kernel, rfl⟩
theorem dASup_hugeLength_52 : Db mASup_hugeLength 52 (.if_icmp .gt) 58 55 := ⟨6, by decide +kernel, by decide, rfl⟩
theorem dASup_hugeLength_55 : Dc mASup_hugeLength 55 (.ldc 200) 2 57 := ⟨by decide +kernel, rfl⟩
theorem dASup_hugeLength_57 : Dc mASup_hugeLength 57 .ireturn 1 58 := ⟨by decide +kernel, rfl⟩
theorem dASup_hugeLength_58 : Dc mASup_hugeLength 58 (.iload_n 2) 1 59 := ⟨by decide +kernel, rfl⟩
theorem dASup_hugeLength_59 : Dc mASup_hugeLength 59 .ireturn 1 60 := ⟨by decide +kernel, rfl⟩
theorem dArrs_copyOf_0 : Dc mArrs_copyOf 0 (.aload_n 0) 1 1 := ⟨by decide +kernel, rfl⟩
theorem dArrs_copyOf_1 : Dc mArrs_copyOf 1 (.iload_n 1) 1 2 := ⟨by decide +kernel, rfl⟩
theorem dArrs_copyOf_2 : Dc mArrs_copyOf 2 (.aload_n 0) 1 3 := ⟨by decide +kernel, rfl⟩
theorem dArrs_copyOf_3 : Dc mArrs_copyOf 3 (.invokevirtual 86) 3 6 := ⟨by decide +kernel, rfl⟩
theorem dArrs_copyOf_6 : Dc mArrs_copyOf 6 (.invokestatic 300) 3 9 := ⟨by decide +kernel, rfl⟩
theorem dArrs_copyOf_9 : Dc mArrs_copyOf 9 .areturn 1 10 := ⟨by decide +kernel, rfl⟩
theorem dArrs_copyOf1_0 : Dc mArrs_copyOf1 0 (.aload_n 2) 1 1 := ⟨by decide +kernel, rfl⟩
theorem dArrs_copyOf1_1 : Dc mArrs_copyOf1 1 (.ldc 110) 2 3 := ⟨by decide +kernel, rfl⟩
theorem dArrs_copyOf1_3 : Db mArrs_copyOf1 3 (.if_acmp .ne) 13 6 := ⟨10, by decide +kernel, by decide, rfl⟩
theorem dArrs_copyOf1_6 : Dc mArrs_copyOf1 6 (.iload_n 1) 1 7 := ⟨by decide +kernel, rfl⟩
theorem dArrs_copyOf1_7 : Dc mArrs_copyOf1 7 (.anewarray 2) 3 10 := ⟨by decide +kernel, rfl⟩
theorem dArrs_copyOf1_10 : Db mArrs_copyOf1 10 .goto 24 13 := ⟨14, by decide +kernel, by decide, rfl⟩
theorem dArrs_copyOf1_13 : Dc mArrs_copyOf1 13 (.aload_n 2) 1 14 := ⟨by decide +kernel, rfl⟩
theorem dArrs_copyOf1_14 : Dc mArrs_copyOf1 14 (.invokevirtual 90) 3 17 := ⟨by decide +kernel, rfl⟩
theorem dArrs_copyOf1_17 : Dc mArrs_copyOf1 17 (.iload_n 1) 1 18 := ⟨by decide +kernel, rfl⟩
theorem dArrs_copyOf1_18 : Dc mArrs_copyOf1 18 (.invokestatic 95) 3 21 := ⟨by decide +kernel, rfl⟩
theorem dArrs_copyOf1_21 : Dc mArrs_copyOf1 21 (.checkcast 110) 3 24 := ⟨by decide +kernel, rfl⟩
theorem dArrs_copyOf1_24 : Dc mArrs_copyOf1 24 (.astore_n 3) 1 25 := ⟨by decide +kernel, rfl⟩
theorem dArrs_copyOf1_25 : Dc mArrs_copyOf1 25 (.aload_n 0) 1 26 := ⟨by decide +kernel, rfl⟩
theorem dArrs_copyOf1_26 : Dc mArrs_copyOf1 26 (.iconst 0) 1 27 := ⟨by decide +kernel, rfl⟩
theorem dArrs_copyOf1_27 : Dc mArrs_copyOf1 27 (.aload_n 3) 1 28 := ⟨by decide +kernel, rfl⟩
theorem dArrs_copyOf1_28 : Dc mArrs_copyOf1 28 (.iconst 0) 1 29 := ⟨by decide +kernel, rfl⟩
theorem dArrs_copyOf1_29 : Dc mArrs_copyOf1 29 (.aload_n 0) 1 30 := ⟨by decide +kernel, rfl⟩
theorem dArrs_copyOf1_30 : Dc mArrs_copyOf1 30 .arraylength 1 31 := ⟨by decide +kernel, rfl⟩
theorem dArrs_copyOf1_31 : Dc mArrs_copyOf1 31 (.iload_n 1) 1 32 := ⟨by decide +kernel, rfl⟩
theorem dArrs_copyOf1_32 : Dc mArrs_copyOf1 32 (.invokestatic 304) 3 35 := ⟨by decide +kernel, rfl⟩
theorem dArrs_copyOf1_35 : Dc mArrs_copyOf1 35 (.invokestatic 150) 3 38 := ⟨by decide +kernel, rfl⟩
theorem dArrs_copyOf1_38 : Dc mArrs_copyOf1 38 (.aload_n 3) 1 39 := ⟨by decide +kernel, rfl⟩
theorem dArrs_copyOf1_39 : Dc mArrs_copyOf1 39 .areturn 1 40 := ⟨by decide +kernel, rfl⟩
theorem dMth_min_0 : Dc mMth_min 0 (.iload_n 0) 1 1 := ⟨by decide +kernel, rfl⟩
theorem dMth_min_1 : Dc mMth_min 1 (.iload_n 1) 1 2 := ⟨by decide +kernel, rfl⟩
theorem dMth_min_2 : Db mMth_min 2 (.if_icmp .gt) 9 5 := ⟨7, by decide +kernel, by decide, rfl⟩
theorem dMth_min_5 : Dc mMth_min 5 (.iload_n 0) 1 6 := ⟨by decide +kernel, rfl⟩
theorem dMth_min_6 : Db mMth_min 6 .goto 10 9 := ⟨4, by decide +kernel, by decide, rfl⟩
theorem dMth_min_9 : Dc mMth_min 9 (.iload_n 1) 1 10 := ⟨by decide +kernel, rfl⟩
theorem dMth_min_10 : Dc mMth_min 10 .ireturn 1 11 := ⟨by decide +kernel, rfl⟩
theorem dAL_get_0 : Dc mAL_get 0 (.iload_n 1) 1 1 := ⟨by decide +kernel, rfl⟩
theorem dAL_get_1 : Dc mAL_get 1 (.aload_n 0) 1 2 := ⟨by decide +kernel, rfl⟩
theorem dAL_get_2 : Dc mAL_get 2 (.getfield 48) 3 5 := ⟨by decide +kernel, rfl⟩
theorem dAL_get_5 : Dc mAL_get 5 (.invokestatic 118) 3 8 := ⟨by decide +kernel, rfl⟩
theorem dAL_get_8 : Dc mAL_get 8 .pop 1 9 := ⟨by decide +kernel, rfl⟩
theorem dAL_get_9 : Dc mAL_get 9 (.aload_n 0) 1 10 := ⟨by decide +kernel, rfl⟩
theorem dAL_get_10 : Dc mAL_get 10 (.iload_n 1) 1 11 := ⟨by decide +kernel, rfl⟩
theorem dAL_get_11 : Dc mAL_get 11 (.invokevirtual 123) 3 14 := ⟨by decide +kernel, rfl⟩
theorem dAL_get_14 : Dc mAL_get 14 .areturn 1 15 := ⟨by decide +kernel, rfl⟩
theorem dObjs_checkIndex_0 : Dc mObjs_checkIndex 0 (.iload_n 0) 1 1 := ⟨by decide +kernel, rfl⟩
theorem dObjs_checkIndex_1 : Dc mObjs_checkIndex 1 (.iload_n 1) 1 2 := ⟨by decide +kernel, rfl⟩
theorem dObjs_checkIndex_2 : Dc mObjs_checkIndex 2 .aconst_null 1 3 := ⟨by decide +kernel, rfl⟩
theorem dObjs_checkIndex_3 : Dc mObjs_checkIndex 3 (.invokestatic 105) 3 6 := ⟨by decide +kernel, rfl⟩
theorem dObjs_checkIndex_6 : Dc mObjs_checkIndex 6 .ireturn 1 7 := ⟨by decide +kernel, rfl⟩
theorem dPrec_checkIndex_0 : Dc mPrec_checkIndex 0 (.iload_n 0) 1 1 := ⟨by decide +kernel, rfl⟩
theorem dPrec_checkIndex_1 : Db mPrec_checkIndex 1 (.ifCond .lt) 9 4 := ⟨8, by decide +kernel, by decide, rfl⟩
theorem dPrec_checkIndex_4 : Dc mPrec_checkIndex 4 (.iload_n 0) 1 5 := ⟨by decide +kernel, rfl⟩
theorem dPrec_checkIndex_5 : Dc mPrec_checkIndex 5 (.iload_n 1) 1 6 := ⟨by decide +kernel, rfl⟩
theorem dPrec_checkIndex_6 : Db mPrec_checkIndex 6 (.if_icmp .lt) 16 9 := ⟨10, by decide +kernel, by decide, rfl⟩
theorem dPrec_checkIndex_9 : Dc mPrec_checkIndex 9 (.aload_n 2) 1 10 := ⟨by decide +kernel, rfl⟩
theorem dPrec_checkIndex_10 : Dc mPrec_checkIndex 10 (.iload_n 0) 1 11 := ⟨by decide +kernel, rfl⟩
theorem dPrec_checkIndex_11 : Dc mPrec_checkIndex 11 (.iload_n 1) 1 12 := ⟨by decide +kernel, rfl⟩
theorem dPrec_checkIndex_12 : Dc mPrec_checkIndex 12 (.invokestatic 95) 3 15 := ⟨by decide +kernel, rfl⟩
theorem dPrec_checkIndex_15 : Dc mPrec_checkIndex 15 .athrow 1 16 := ⟨by decide +kernel, rfl⟩
theorem dPrec_checkIndex_16 : Dc mPrec_checkIndex 16 (.iload_n 0) 1 17 := ⟨by decide +kernel, rfl⟩
theorem dPrec_checkIndex_17 : Dc mPrec_checkIndex 17 .ireturn 1 18 := ⟨by decide +kernel, rfl⟩
theorem dAL_elementData_0 : Dc mAL_elementData 0 (.aload_n 0) 1 1 := ⟨by decide +kernel, rfl⟩
theorem dAL_elementData_1 : Dc mAL_elementData 1 (.getfield 9) 3 4 := ⟨by decide +kernel, rfl⟩
theorem dAL_elementData_4 : Dc mAL_elementData 4 (.iload_n 1) 1 5 := ⟨by decide +kernel, rfl⟩
theorem dAL_elementData_5 : Dc mAL_elementData 5 .aaload 1 6 := ⟨by decide +kernel, rfl⟩
theorem dAL_elementData_6 : Dc mAL_elementData 6 .areturn 1 7 := ⟨by decide +kernel, rfl⟩
theorem dAL_clear_0 : Dc mAL_clear 0 (.aload_n 0) 1 1 := ⟨by decide +kernel, rfl⟩
theorem dAL_clear_1 : Dc mAL_clear 1 .dup 1 2 := ⟨by decide +kernel, rfl⟩
theorem dAL_clear_2 : Dc mAL_clear 2 (.getfield 63) 3 5 := ⟨by decide +kernel, rfl⟩
theorem dAL_clear_5 : Dc mAL_clear 5 (.iconst 1) 1 6 := ⟨by decide +kernel, rfl⟩
theorem dAL_clear_6 : Dc mAL_clear 6 .iadd 1 7 := ⟨by decide +kernel, rfl⟩
theorem dAL_clear_7 : Dc mAL_clear 7 (.putfield 63) 3 10 := ⟨by decide +kernel, rfl⟩
theorem dAL_clear_10 : Dc mAL_clear 10 (.aload_n 0) 1 11 := ⟨by decide +kernel, rfl⟩
theorem dAL_clear_11 : Dc mAL_clear 11 (.getfield 9) 3 14 := ⟨by decide +kernel, rfl⟩
theorem dAL_clear_14 : Dc mAL_clear 14 (.astore_n 1) 1 15 := ⟨by decide +kernel, rfl⟩
theorem dAL_clear_15 : Dc mAL_clear 15 (.aload_n 0) 1 16 := ⟨by decide +kernel, rfl⟩
theorem dAL_clear_16 : Dc mAL_clear 16 (.getfield 48) 3 19 := ⟨by decide +kernel, rfl⟩
theorem dAL_clear_19 : Dc mAL_clear 19 (.istore_n 2) 1 20 := ⟨by decide +kernel, rfl⟩
theorem dAL_clear_20 : Dc mAL_clear 20 (.aload_n 0) 1 21 := ⟨by decide +kernel, rfl⟩
theorem dAL_clear_21 : Dc mAL_clear 21 (.iconst 0) 1 22 := ⟨by decide +kernel, rfl⟩
theorem dAL_clear_22 : Dc mAL_clear 22 .dup_x1 1 23 := ⟨by decide +kernel, rfl⟩
theorem dAL_clear_23 : Dc mAL_clear 23 (.putfield 48) 3 26 := ⟨by decide +kernel, rfl⟩
theorem dAL_clear_26 : Dc mAL_clear 26 (.istore_n 3) 1 27 := ⟨by decide +kernel, rfl⟩
theorem dAL_clear_27 : Dc mAL_clear 27 (.iload_n 3) 1 28 := ⟨by decide +kernel, rfl⟩
theorem dAL_clear_28 : Dc mAL_clear 28 (.iload_n 2) 1 29 := ⟨by decide +kernel, rfl⟩
theorem dAL_clear_29 : Db mAL_clear 29 (.if_icmp .ge) 42 32 := ⟨13, by decide +kernel, by decide, rfl⟩
theorem dAL_clear_32 : Dc mAL_clear 32 (.aload_n 1) 1 33 := ⟨by decide +kernel, rfl⟩
theorem dAL_clear_33 : Dc mAL_clear 33 (.iload_n 3) 1 34 := ⟨by decide +kernel, rfl⟩
theorem dAL_clear_34 : Dc mAL_clear 34 .aconst_null 1 35 := ⟨by decide +kernel, rfl⟩
theorem dAL_clear_35 : Dc mAL_clear 35 .aastore 1 36 := ⟨by decide +kernel, rfl⟩
theorem dAL_clear_36 : Dc mAL_clear 36 (.iinc 3 1) 3 39 := ⟨by decide +kernel, rfl⟩
theorem dAL_clear_39 : Db mAL_clear 39 .goto 27 42 := ⟨(-12), by decide +kernel, by decide, rfl⟩
theorem dAL_clear_42 : Dc mAL_clear 42 .return_ 1 43 := ⟨by decide +kernel, rfl⟩
theorem dAL_add2_0 : Dc mAL_add2 0 (.aload_n 0) 1 1 := ⟨by decide +kernel, rfl⟩
theorem dAL_add2_1 : Dc mAL_add2 1 (.iload_n 1) 1 2 := ⟨by decide +kernel, rfl⟩
theorem dAL_add2_2 : Dc mAL_add2 2 (.invokevirtual 135) 3 5 := ⟨by decide +kernel, rfl⟩
theorem dAL_add2_5 : Dc mAL_add2 5 (.aload_n 0) 1 6 := ⟨by decide +kernel, rfl⟩
theorem dAL_add2_6 : Dc mAL_add2 6 .dup 1 7 := ⟨by decide +kernel, rfl⟩
theorem dAL_add2_7 : Dc mAL_add2 7 (.getfield 63) 3 10 := ⟨by decide +kernel, rfl⟩
theorem dAL_add2_10 : Dc mAL_add2 10 (.iconst 1) 1 11 := ⟨by decide +kernel, rfl⟩
theorem dAL_add2_11 : Dc mAL_add2 11 .iadd 1 12 := ⟨by decide +kernel, rfl⟩
theorem dAL_add2_12 : Dc mAL_add2 12 (.putfield 63) 3 15 := ⟨by decide +kernel, rfl⟩
theorem dAL_add2_15 : Dc mAL_add2 15 (.aload_n 0) 1 16 := ⟨by decide +kernel, rfl⟩
theorem dAL_add2_16 : Dc mAL_add2 16 (.getfield 48) 3 19 := ⟨by decide +kernel, rfl⟩
theorem dAL_add2_19 : Dc mAL_add2 19 .dup 1 20 := ⟨by decide +kernel, rfl⟩
theorem dAL_add2_20 : Dc mAL_add2 20 (.istore_n 3) 1 21 := ⟨by decide +kernel, rfl⟩
theorem dAL_add2_21 : Dc mAL_add2 21 (.aload_n 0) 1 22 := ⟨by decide +kernel, rfl⟩
theorem dAL_add2_22 : Dc mAL_add2 22 (.getfield 9) 3 25 := ⟨by decide +kernel, rfl⟩
theorem dAL_add2_25 : Dc mAL_add2 25 .dup 1 26 := ⟨by decide +kernel, rfl⟩
theorem dAL_add2_26 : Dc mAL_add2 26 (.astore 4) 2 28 := ⟨by decide +kernel, rfl⟩
theorem dAL_add2_28 : Dc mAL_add2 28 .arraylength 1 29 := ⟨by decide +kernel, rfl⟩
theorem dAL_add2_29 : Db mAL_add2 29 (.if_icmp .ne) 38 32 := ⟨9, by decide +kernel, by decide, rfl⟩
theorem dAL_add2_32 : Dc mAL_add2 32 (.aload_n 0) 1 33 := ⟨by decide +kernel, rfl⟩
theorem dAL_add2_33 : Dc mAL_add2 33 (.invokevirtual 129) 3 36 := ⟨by decide +kernel, rfl⟩
theorem dAL_add2_36 : Dc mAL_add2 36 (.astore 4) 2 38 := ⟨by decide +kernel, rfl⟩
theorem dAL_add2_38 : Dc mAL_add2 38 (.aload 4) 2 40 := ⟨by decide +kernel, rfl⟩
theorem dAL_add2_40 : Dc mAL_add2 40 (.iload_n 1) 1 41 := ⟨by decide +kernel, rfl⟩
theorem dAL_add2_41 : Dc mAL_add2 41 (.aload 4) 2 43 := ⟨by decide +kernel, rfl⟩
theorem dAL_add2_43 : Dc mAL_add2 43 (.iload_n 1) 1 44 := ⟨by decide +kernel, rfl⟩
theorem dAL_add2_44 : Dc mAL_add2 44 (.iconst 1) 1 45 := ⟨by decide +kernel, rfl⟩
theorem dAL_add2_45 : Dc mAL_add2 45 .iadd 1 46 := ⟨by decide +kernel, rfl⟩
theorem dAL_add2_46 : Dc mAL_add2 46 (.iload_n 3) 1 47 := ⟨by decide +kernel, rfl⟩
theorem dAL_add2_47 : Dc mAL_add2 47 (.iload_n 1) 1 48 := ⟨by decide +kernel, rfl⟩
theorem dAL_add2_48 : Dc mAL_add2 48 .isub 1 49 := ⟨by decide +kernel, rfl⟩
theorem dAL_add2_49 : Dc mAL_add2 49 (.invokestatic 112) 3 52 := ⟨by decide +kernel, rfl⟩
theorem dAL_add2_52 : Dc mAL_add2 52 (.aload 4) 2 54 := ⟨by decide +kernel, rfl⟩
theorem dAL_add2_54 : Dc mAL_add2 54 (.iload_n 1) 1 55 := ⟨by decide +kernel, rfl⟩
theorem dAL_add2_55 : Dc mAL_add2 55 (.aload_n 2) 1 56 := ⟨by decide +kernel, rfl⟩
theorem dAL_add2_56 : Dc mAL_add2 56 .aastore 1 57 := ⟨by decide +kernel, rfl⟩
theorem dAL_add2_57 : Dc mAL_add2 57 (.aload_n 0) 1 58 := ⟨by decide +kernel, rfl⟩
theorem dAL_add2_58 : Dc mAL_add2 58 (.iload_n 3) 1 59 := ⟨by decide +kernel, rfl⟩
theorem dAL_add2_59 : Dc mAL_add2 59 (.iconst 1) 1 60 := ⟨by decide +kernel, rfl⟩
theorem dAL_add2_60 : Dc mAL_add2 60 .iadd 1 61 := ⟨by decide +kernel, rfl⟩
theorem dAL_add2_61 : Dc mAL_add2 61 (.putfield 48) 3 64 := ⟨by decide +kernel, rfl⟩
theorem dAL_add2_64 : Dc mAL_add2 64 .return_ 1 65 := ⟨by decide +kernel, rfl⟩
theorem dAL_rangeCheckForAdd_0 : Dc mAL_rangeCheckForAdd 0 (.iload_n 1) 1 1 := ⟨by decide +kernel, rfl⟩
theorem dAL_rangeCheckForAdd_1 : Dc mAL_rangeCheckForAdd 1 (.aload_n 0) 1 2 := ⟨by decide +kernel, rfl⟩
theorem dAL_rangeCheckForAdd_2 : Dc mAL_rangeCheckForAdd 2 (.getfield 48) 3 5 := ⟨by decide +kernel, rfl⟩
theorem dAL_rangeCheckForAdd_5 : Db mAL_rangeCheckForAdd 5 (.if_icmp .gt) 12 8 := ⟨7, by decide +kernel, by decide, rfl⟩
theorem dAL_rangeCheckForAdd_8 : Dc mAL_rangeCheckForAdd 8 (.iload_n 1) 1 9 := ⟨by decide +kernel, rfl⟩
theorem dAL_rangeCheckForAdd_9 : Db mAL_rangeCheckForAdd 9 (.ifCond .ge) 25 12 := ⟨16, by decide +kernel, by decide, rfl⟩
theorem dAL_rangeCheckForAdd_12 : Dc mAL_rangeCheckForAdd 12 (.new 187) 3 15 := ⟨by decide +kernel, rfl⟩
theorem dAL_rangeCheckForAdd_15 : Dc mAL_rangeCheckForAdd 15 .dup 1 16 := ⟨by decide +kernel, rfl⟩
theorem dAL_rangeCheckForAdd_16 : Dc mAL_rangeCheckForAdd 16 (.aload_n 0) 1 17 := ⟨by decide +kernel, rfl⟩
theorem dAL_rangeCheckForAdd_17 : Dc mAL_rangeCheckForAdd 17 (.iload_n 1) 1 18 := ⟨by decide +kernel, rfl⟩
theorem dAL_rangeCheckForAdd_18 : Dc mAL_rangeCheckForAdd 18 (.invokevirtual 198) 3 21 := ⟨by decide +kernel, rfl⟩
theorem dAL_rangeCheckForAdd_21 : Dc mAL_rangeCheckForAdd 21 (.invokespecial 193) 3 24 := ⟨by decide +kernel, rfl⟩
theorem dAL_rangeCheckForAdd_24 : Dc mAL_rangeCheckForAdd 24 .athrow 1 25 := ⟨by decide +kernel, rfl⟩
theorem dAL_rangeCheckForAdd_25 : Dc mAL_rangeCheckForAdd 25 .return_ 1 26 := ⟨by decide +kernel, rfl⟩
theorem dAL_remove_0 : Dc mAL_remove 0 (.iload_n 1) 1 1 := ⟨by decide +kernel, rfl⟩
theorem dAL_remove_1 : Dc mAL_remove 1 (.aload_n 0) 1 2 := ⟨by decide +kernel, rfl⟩
theorem dAL_remove_2 : Dc mAL_remove 2 (.getfield 48) 3 5 := ⟨by decide +kernel, rfl⟩
theorem dAL_remove_5 : Dc mAL_remove 5 (.invokestatic 118) 3 8 := ⟨by decide +kernel, rfl⟩
theorem dAL_remove_8 : Dc mAL_remove 8 .pop 1 9 := ⟨by decide +kernel, rfl⟩
theorem dAL_remove_9 : Dc mAL_remove 9 (.aload_n 0) 1 10 := ⟨by decide +kernel, rfl⟩
theorem dAL_remove_10 : Dc mAL_remove 10 (.getfield 9) 3 13 := ⟨by decide +kernel, rfl⟩
theorem dAL_remove_13 : Dc mAL_remove 13 (.astore_n 2) 1 14 := ⟨by decide +kernel, rfl⟩
theorem dAL_remove_14 : Dc mAL_remove 14 (.aload_n 2) 1 15 := ⟨by decide +kernel, rfl⟩
theorem dAL_remove_15 : Dc mAL_remove 15 (.iload_n 1) 1 16 := ⟨by decide +kernel, rfl⟩
theorem dAL_remove_16 : Dc mAL_remove 16 .aaload 1 17 := ⟨by decide +kernel, rfl⟩
theorem dAL_remove_17 : Dc mAL_remove 17 (.astore_n 3) 1 18 := ⟨by decide +kernel, rfl⟩
theorem dAL_remove_18 : Dc mAL_remove 18 (.aload_n 0) 1 19 := ⟨by decide +kernel, rfl⟩
theorem dAL_remove_19 : Dc mAL_remove 19 (.aload_n 2) 1 20 := ⟨by decide +kernel, rfl⟩
theorem dAL_remove_20 : Dc mAL_remove 20 (.iload_n 1) 1 21 := ⟨by decide +kernel, rfl⟩
theorem dAL_remove_21 : Dc mAL_remove 21 (.invokevirtual 144) 3 24 := ⟨by decide +kernel, rfl⟩
theorem dAL_remove_24 : Dc mAL_remove 24 (.aload_n 3) 1 25 := ⟨by decide +kernel, rfl⟩
theorem dAL_remove_25 : Dc mAL_remove 25 .areturn 1 26 := ⟨by decide +kernel, rfl⟩
theorem dAL_fastRemove_0 : Dc mAL_fastRemove 0 (.aload_n 0) 1 1 := ⟨by decide +kernel, rfl⟩
theorem dAL_fastRemove_1 : Dc mAL_fastRemove 1 .dup 1 2 := ⟨by decide +kernel, rfl⟩
theorem dAL_fastRemove_2 : Dc mAL_fastRemove 2 (.getfield 63) 3 5 := ⟨by decide +kernel, rfl⟩
theorem dAL_fastRemove_5 : Dc mAL_fastRemove 5 (.iconst 1) 1 6 := ⟨by decide +kernel, rfl⟩
theorem dAL_fastRemove_6 : Dc mAL_fastRemove 6 .iadd 1 7 := ⟨by decide +kernel, rfl⟩
theorem dAL_fastRemove_7 : Dc mAL_fastRemove 7 (.putfield 63) 3 10 := ⟨by decide +kernel, rfl⟩
theorem dAL_fastRemove_10 : Dc mAL_fastRemove 10 (.aload_n 0) 1 11 := ⟨by decide +kernel, rfl⟩
theorem dAL_fastRemove_11 : Dc mAL_fastRemove 11 (.getfield 48) 3 14 := ⟨by decide +kernel, rfl⟩
theorem dAL_fastRemove_14 : Dc mAL_fastRemove 14 (.iconst 1) 1 15 := ⟨by decide +kernel, rfl⟩
theorem dAL_fastRemove_15 : Dc mAL_fastRemove 15 .isub 1 16 := ⟨by decide +kernel, rfl⟩
theorem dAL_fastRemove_16 : Dc mAL_fastRemove 16 .dup 1 17 := ⟨by decide +kernel, rfl⟩
theorem dAL_fastRemove_17 : Dc mAL_fastRemove 17 (.istore_n 3) 1 18 := ⟨by decide +kernel, rfl⟩
theorem dAL_fastRemove_18 : Dc mAL_fastRemove 18 (.iload_n 2) 1 19 := ⟨by decide +kernel, rfl⟩
theorem dAL_fastRemove_19 : Db mAL_fastRemove 19 (.if_icmp .le) 34 22 := ⟨15, by decide +kernel, by decide, rfl⟩
theorem dAL_fastRemove_22 : Dc mAL_fastRemove 22 (.aload_n 1) 1 23 := ⟨by decide +kernel, rfl⟩
theorem dAL_fastRemove_23 : Dc mAL_fastRemove 23 (.iload_n 2) 1 24 := ⟨by decide +kernel, rfl⟩
theorem dAL_fastRemove_24 : Dc mAL_fastRemove 24 (.iconst 1) 1 25 := ⟨by decide +kernel, rfl⟩
theorem dAL_fastRemove_25 : Dc mAL_fastRemove 25 .iadd 1 26 := ⟨by decide +kernel, rfl⟩
theorem dAL_fastRemove_26 : Dc mAL_fastRemove 26 (.aload_n 1) 1 27 := ⟨by decide +kernel, rfl⟩
theorem dAL_fastRemove_27 : Dc mAL_fastRemove 27 (.iload_n 2) 1 28 := ⟨by decide +kernel, rfl⟩
theorem dAL_fastRemove_28 : Dc mAL_fastRemove 28 (.iload_n 3) 1 29 := ⟨by decide +kernel, rfl⟩
theorem dAL_fastRemove_29 : Dc mAL_fastRemove 29 (.iload_n 2) 1 30 := ⟨by decide +kernel, rfl⟩
theorem dAL_fastRemove_30 : Dc mAL_fastRemove 30 .isub 1 31 := ⟨by decide +kernel, rfl⟩
theorem dAL_fastRemove_31 : Dc mAL_fastRemove 31 (.invokestatic 112) 3 34 := ⟨by decide +kernel, rfl⟩
theorem dAL_fastRemove_34 : Dc mAL_fastRemove 34 (.aload_n 1) 1 35 := ⟨by decide +kernel, rfl⟩
theorem dAL_fastRemove_35 : Dc mAL_fastRemove 35 (.aload_n 0) 1 36 := ⟨by decide +kernel, rfl⟩
theorem dAL_fastRemove_36 : Dc mAL_fastRemove 36 (.iload_n 3) 1 37 := ⟨by decide +kernel, rfl⟩
theorem dAL_fastRemove_37 : Dc mAL_fastRemove 37 .dup_x1 1 38 := ⟨by decide +kernel, rfl⟩
theorem dAL_fastRemove_38 : Dc mAL_fastRemove 38 (.putfield 48) 3 41 := ⟨by decide +kernel, rfl⟩
theorem dAL_fastRemove_41 : Dc mAL_fastRemove 41 .aconst_null 1 42 := ⟨by decide +kernel, rfl⟩
theorem dAL_fastRemove_42 : Dc mAL_fastRemove 42 .aastore 1 43 := ⟨by decide +kernel, rfl⟩
theorem dAL_fastRemove_43 : Dc mAL_fastRemove 43 .return_ 1 44 := ⟨by decide +kernel, rfl⟩
theorem dAL_set_0 : Dc mAL_set 0 (.iload_n 1) 1 1 := ⟨by decide +kernel, rfl⟩
theorem dAL_set_1 : Dc mAL_set 1 (.aload_n 0) 1 2 := ⟨by decide +kernel, rfl⟩
theorem dAL_set_2 : Dc mAL_set 2 (.getfield 48) 3 5 := ⟨by decide +kernel, rfl⟩
theorem dAL_set_5 : Dc mAL_set 5 (.invokestatic 118) 3 8 := ⟨by decide +kernel, rfl⟩
theorem dAL_set_8 : Dc mAL_set 8 .pop 1 9 := ⟨by decide +kernel, rfl⟩
theorem dAL_set_9 : Dc mAL_set 9 (.aload_n 0) 1 10 := ⟨by decide +kernel, rfl⟩
theorem dAL_set_10 : Dc mAL_set 10 (.iload_n 1) 1 11 := ⟨by decide +kernel, rfl⟩
theorem dAL_set_11 : Dc mAL_set 11 (.invokevirtual 123) 3 14 := ⟨by decide +kernel, rfl⟩
theorem dAL_set_14 : Dc mAL_set 14 (.astore_n 3) 1 15 := ⟨by decide +kernel, rfl⟩
theorem dAL_set_15 : Dc mAL_set 15 (.aload_n 0) 1 16 := ⟨by decide +kernel, rfl⟩
theorem dAL_set_16 : Dc mAL_set 16 (.getfield 9) 3 19 := ⟨by decide +kernel, rfl⟩
theorem dAL_set_19 : Dc mAL_set 19 (.iload_n 1) 1 20 := ⟨by decide +kernel, rfl⟩
theorem dAL_set_20 : Dc mAL_set 20 (.aload_n 2) 1 21 := ⟨by decide +kernel, rfl⟩
theorem dAL_set_21 : Dc mAL_set 21 .aastore 1 22 := ⟨by decide +kernel, rfl⟩
theorem dAL_set_22 : Dc mAL_set 22 (.aload_n 3) 1 23 := ⟨by decide +kernel, rfl⟩
theorem dAL_set_23 : Dc mAL_set 23 .areturn 1 24 := ⟨by decide +kernel, rfl⟩
end
section
theorem dX_init_0 : Dc mX_init 0 (.aload_n 0) 1 1 := ⟨by decide +kernel, rfl⟩
theorem dX_init_1 : Dc mX_init 1 (.invokespecial 1) 3 4 := ⟨by decide +kernel, rfl⟩
theorem dX_init_4 : Dc mX_init 4 (.aload_n 0) 1 5 := ⟨by decide +kernel, rfl⟩
theorem dX_init_5 : Dc mX_init 5 (.new 7) 3 8 := ⟨by decide +kernel, rfl⟩
theorem dX_init_8 : Dc mX_init 8 .dup 1 9 := ⟨by decide +kernel, rfl⟩
theorem dX_init_9 : Dc mX_init 9 (.invokespecial 9) 3 12 := ⟨by decide +kernel, rfl⟩
theorem dX_init_12 : Dc mX_init 12 (.putfield 10) 3 15 := ⟨by decide +kernel, rfl⟩
theorem dX_init_15 : Dc mX_init 15 (.aload_n 0) 1 16 := ⟨by decide +kernel, rfl⟩
theorem dX_init_16 : Dc mX_init 16 (.new 16) 3 19 := ⟨by decide +kernel, rfl⟩
theorem dX_init_19 : Dc mX_init 19 .dup 1 20 := ⟨by decide +kernel, rfl⟩
theorem dX_init_20 : Dc mX_init 20 (.invokespecial 18) 3 23 := ⟨by decide +kernel, rfl⟩
theorem dX_init_23 : Dc mX_init 23 (.putfield 19) 3 26 := ⟨by decide +kernel, rfl⟩
theorem dX_init_26 : Dc mX_init 26 (.aload_n 0) 1 27 := ⟨by decide +kernel, rfl⟩
theorem dX_init_27 : Dc mX_init 27 (.new 16) 3 30 := ⟨by decide +kernel, rfl⟩
theorem dX_init_30 : Dc mX_init 30 .dup 1 31 := ⟨by decide +kernel, rfl⟩
theorem dX_init_31 : Dc mX_init 31 (.invokespecial 18) 3 34 := ⟨by decide +kernel, rfl⟩
theorem dX_init_34 : Dc mX_init 34 (.putfield 23) 3 37 := ⟨by decide +kernel, rfl⟩
theorem dX_init_37 : Dc mX_init 37 (.aload_n 0) 1 38 := ⟨by decide +kernel, rfl⟩
theorem dX_init_38 : Dc mX_init 38 (.new 16) 3 41 := ⟨by decide +kernel, rfl⟩
theorem dX_init_41 : Dc mX_init 41 .dup 1 42 := ⟨by decide +kernel, rfl⟩
theorem dX_init_42 : Dc mX_init 42 (.invokespecial 18) 3 45 := ⟨by decide +kernel, rfl⟩
theorem dX_init_45 : Dc mX_init 45 (.putfield 26) 3 48 := ⟨by decide +kernel, rfl⟩
theorem dX_init_48 : Dc mX_init 48 (.aload_n 0) 1 49 := ⟨by decide +kernel, rfl⟩
theorem dX_init_49 : Dc mX_init 49 (.bipush 8) 2 51 := ⟨by decide +kernel, rfl⟩
theorem dX_init_51 : Dc mX_init 51 (.bipush 6) 2 53 := ⟨by decide +kernel, rfl⟩
theorem dX_init_53 : Dc mX_init 53 (.multianewarray 29 2) 4 57 := ⟨by decide +kernel, rfl⟩
theorem dX_init_57 : Dc mX_init 57 (.putfield 31) 3 60 := ⟨by decide +kernel, rfl⟩
theorem dX_init_60 : Dc mX_init 60 (.aload_n 0) 1 61 := ⟨by decide +kernel, rfl⟩
theorem dX_init_61 : Dc mX_init 61 (.bipush 6) 2 63 := ⟨by decide +kernel, rfl⟩
theorem dX_init_63 : Dc mX_init 63 (.iconst 3) 1 64 := ⟨by decide +kernel, rfl⟩
theorem dX_init_64 : Dc mX_init 64 (.multianewarray 29 2) 4 68 := ⟨by decide +kernel, rfl⟩
theorem dX_init_68 : Dc mX_init 68 (.putfield 34) 3 71 := ⟨by decide +kernel, rfl⟩
theorem dX_init_71 : Dc mX_init 71 (.aload_n 0) 1 72 := ⟨by decide +kernel, rfl⟩
theorem dX_init_72 : Dc mX_init 72 (.iconst 4) 1 73 := ⟨by decide +kernel, rfl⟩
theorem dX_init_73 : Dc mX_init 73 (.newarray .int) 2 75 := ⟨by decide +kernel, rfl⟩
theorem dX_init_75 : Dc mX_init 75 (.putfield 37) 3 78 := ⟨by decide +kernel, rfl⟩
theorem dX_init_78 : Dc mX_init 78 (.aload_n 0) 1 79 := ⟨by decide +kernel, rfl⟩
theorem dX_init_79 : Dc mX_init 79 (.iconst 4) 1 80 := ⟨by decide +kernel, rfl⟩
theorem dX_init_80 : Dc mX_init 80 (.newarray .int) 2 82 := ⟨by decide +kernel, rfl⟩
theorem dX_init_82 : Dc mX_init 82 (.putfield 41) 3 85 := ⟨by decide +kernel, rfl⟩
theorem dX_init_85 : Dc mX_init 85 (.aload_n 0) 1 86 := ⟨by decide +kernel, rfl⟩
theorem dX_init_86 : Dc mX_init 86 (.new 44) 3 89 := ⟨by decide +kernel, rfl⟩
theorem dX_init_89 : Dc mX_init 89 .dup 1 90 := ⟨by decide +kernel, rfl⟩
theorem dX_init_90 : Dc mX_init 90 (.aload_n 0) 1 91 := ⟨by decide +kernel, rfl⟩
theorem dX_init_91 : Dc mX_init 91 (.getfield 19) 3 94 := ⟨by decide +kernel, rfl⟩
theorem dX_init_94 : Dc mX_init 94 (.invokespecial 46) 3 97 := ⟨by decide +kernel, rfl⟩
theorem dX_init_97 : Dc mX_init 97 (.putfield 49) 3 100 := ⟨by decide +kernel, rfl⟩
theorem dX_init_100 : Dc mX_init 100 (.aload_n 0) 1 101 := ⟨by decide +kernel, rfl⟩
theorem dX_init_101 : Dc mX_init 101 (.bipush (-4)) 2 103 := ⟨by decide +kernel, rfl⟩
theorem dX_init_103 : Dc mX_init 103 (.putfield 53) 3 106 := ⟨by decide +kernel, rfl⟩
theorem dX_init_106 : Dc mX_init 106 (.aload_n 0) 1 107 := ⟨by decide +kernel, rfl⟩
theorem dX_init_107 : Dc mX_init 107 (.new 57) 3 110 := ⟨by decide +kernel, rfl⟩
theorem dX_init_110 : Dc mX_init 110 .dup 1 111 := ⟨by decide +kernel, rfl⟩
theorem dX_init_111 : Dc mX_init 111 (.aload_n 0) 1 112 := ⟨by decide +kernel, rfl⟩
theorem dX_init_112 : Dc mX_init 112 (.getfield 10) 3 115 := ⟨by decide +kernel, rfl⟩
theorem dX_init_115 : Dc mX_init 115 (.invokespecial 59) 3 118 := ⟨by decide +kernel, rfl⟩
theorem dX_init_118 : Dc mX_init 118 (.putfield 62) 3 121 := ⟨by decide +kernel, rfl⟩
theorem dX_init_121 : Dc mX_init 121 (.aload_n 0) 1 122 := ⟨by decide +kernel, rfl⟩
theorem dX_init_122 : Dc mX_init 122 (.new 66) 3 125 := ⟨by decide +kernel, rfl⟩
theorem dX_init_125 : Dc mX_init 125 .dup 1 126 := ⟨by decide +kernel, rfl⟩
theorem dX_init_126 : Dc mX_init 126 (.aload_n 0) 1 127 := ⟨by decide +kernel, rfl⟩
theorem dX_init_127 : Dc mX_init 127 (.getfield 10) 3 130 := ⟨by decide +kernel, rfl⟩
theorem dX_init_130 : Dc mX_init 130 (.aload_n 0) 1 131 := ⟨by decide +kernel, rfl⟩
theorem dX_init_131 : Dc mX_init 131 (.getfield 23) 3 134 := ⟨by decide +kernel, rfl⟩
theorem dX_init_134 : Dc mX_init 134 (.aload_n 0) 1 135 := ⟨by decide +kernel, rfl⟩
theorem dX_init_135 : Dc mX_init 135 (.getfield 49) 3 138 := ⟨by decide +kernel, rfl⟩
theorem dX_init_138 : Dc mX_init 138 (.invokespecial 68) 3 141 := ⟨by decide +kernel, rfl⟩
theorem dX_init_141 : Dc mX_init 141 (.putfield 71) 3 144 := ⟨by decide +kernel, rfl⟩
theorem dX_init_144 : Dc mX_init 144 .return_ 1 145 := ⟨by decide +kernel, rfl⟩
theorem dKinds_init_0 : Dc mKinds_init 0 (.aload_n 0) 1 1 := ⟨by decide +kernel, rfl⟩
theorem dKinds_init_1 : Dc mKinds_init 1 (.invokespecial 3) 3 4 := ⟨by decide +kernel, rfl⟩
theorem dKinds_init_4 : Dc mKinds_init 4 (.aload_n 0) 1 5 := ⟨by decide +kernel, rfl⟩
theorem dKinds_init_5 : Dc mKinds_init 5 (.bipush 20) 2 7 := ⟨by decide +kernel, rfl⟩
theorem dKinds_init_7 : Dc mKinds_init 7 (.newarray .int) 2 9 := ⟨by decide +kernel, rfl⟩
theorem dKinds_init_9 : Dc mKinds_init 9 (.putfield 9) 3 12 := ⟨by decide +kernel, rfl⟩
theorem dKinds_init_12 : Dc mKinds_init 12 (.aload_n 0) 1 13 := ⟨by decide +kernel, rfl⟩
theorem dKinds_init_13 : Dc mKinds_init 13 (.bipush 20) 2 15 := ⟨by decide +kernel, rfl⟩
theorem dKinds_init_15 : Dc mKinds_init 15 (.newarray .int) 2 17 := ⟨by decide +kernel, rfl⟩
theorem dKinds_init_17 : Dc mKinds_init 17 (.putfield 15) 3 20 := ⟨by decide +kernel, rfl⟩
theorem dKinds_init_20 : Dc mKinds_init 20 (.aload_n 0) 1 21 := ⟨by decide +kernel, rfl⟩
theorem dKinds_init_21 : Dc mKinds_init 21 (.iconst 1) 1 22 := ⟨by decide +kernel, rfl⟩
theorem dKinds_init_22 : Dc mKinds_init 22 (.putfield 18) 3 25 := ⟨by decide +kernel, rfl⟩
theorem dKinds_init_25 : Dc mKinds_init 25 .return_ 1 26 := ⟨by decide +kernel, rfl⟩
theorem dScs_init_0 : Dc mScs_init 0 (.aload_n 0) 1 1 := ⟨by decide +kernel, rfl⟩
theorem dScs_init_1 : Dc mScs_init 1 (.invokespecial 3) 3 4 := ⟨by decide +kernel, rfl⟩
theorem dScs_init_4 : Dc mScs_init 4 (.aload_n 0) 1 5 := ⟨by decide +kernel, rfl⟩
theorem dScs_init_5 : Dc mScs_init 5 (.new 9) 3 8 := ⟨by decide +kernel, rfl⟩
theorem dScs_init_8 : Dc mScs_init 8 .dup 1 9 := ⟨by decide +kernel, rfl⟩
theorem dScs_init_9 : Dc mScs_init 9 (.invokespecial 11) 3 12 := ⟨by decide +kernel, rfl⟩
theorem dScs_init_12 : Dc mScs_init 12 (.putfield 12) 3 15 := ⟨by decide +kernel, rfl⟩
theorem dScs_init_15 : Dc mScs_init 15 (.aload_n 0) 1 16 := ⟨by decide +kernel, rfl⟩
theorem dScs_init_16 : Dc mScs_init 16 (.bipush 16) 2 18 := ⟨by decide +kernel, rfl⟩
theorem dScs_init_18 : Dc mScs_init 18 (.newarray .int) 2 20 := ⟨by decide +kernel, rfl⟩
theorem dScs_init_20 : Dc mScs_init 20 (.putfield 18) 3 23 := ⟨by decide +kernel, rfl⟩
theorem dScs_init_23 : Dc mScs_init 23 (.aload_n 0) 1 24 := ⟨by decide +kernel, rfl⟩
theorem dScs_init_24 : Dc mScs_init 24 (.aload_n 1) 1 25 := ⟨by decide +kernel, rfl⟩
theorem dScs_init_25 : Dc mScs_init 25 (.putfield 22) 3 28 := ⟨by decide +kernel, rfl⟩
theorem dScs_init_28 : Dc mScs_init 28 .return_ 1 29 := ⟨by decide +kernel, rfl⟩
theorem dPhr_init_0 : Dc mPhr_init 0 (.aload_n 0) 1 1 := ⟨by decide +kernel, rfl⟩
theorem dPhr_init_1 : Dc mPhr_init 1 (.invokespecial 3) 3 4 := ⟨by decide +kernel, rfl⟩
theorem dPhr_init_4 : Dc mPhr_init 4 (.aload_n 0) 1 5 := ⟨by decide +kernel, rfl⟩
theorem dPhr_init_5 : Dc mPhr_init 5 (.bipush 40) 2 7 := ⟨by decide +kernel, rfl⟩
theorem dPhr_init_7 : Dc mPhr_init 7 (.newarray .int) 2 9 := ⟨by decide +kernel, rfl⟩
theorem dPhr_init_9 : Dc mPhr_init 9 (.putfield 9) 3 12 := ⟨by decide +kernel, rfl⟩
theorem dPhr_init_12 : Dc mPhr_init 12 (.aload_n 0) 1 13 := ⟨by decide +kernel, rfl⟩
theorem dPhr_init_13 : Dc mPhr_init 13 (.bipush 40) 2 15 := ⟨by decide +kernel, rfl⟩
theorem dPhr_init_15 : Dc mPhr_init 15 (.newarray .int) 2 17 := ⟨by decide +kernel, rfl⟩
theorem dPhr_init_17 : Dc mPhr_init 17 (.putfield 15) 3 20 := ⟨by decide +kernel, rfl⟩
theorem dPhr_init_20 : Dc mPhr_init 20 (.aload_n 0) 1 21 := ⟨by decide +kernel, rfl⟩
theorem dPhr_init_21 : Dc mPhr_init 21 (.bipush 40) 2 23 := ⟨by decide +kernel, rfl⟩
theorem dPhr_init_23 : Dc mPhr_init 23 (.newarray .int) 2 25 := ⟨by decide +kernel, rfl⟩
theorem dPhr_init_25 : Dc mPhr_init 25 (.putfield 18) 3 28 := ⟨by decide +kernel, rfl⟩
theorem dPhr_init_28 : Dc mPhr_init 28 (.aload_n 0) 1 29 := ⟨by decide +kernel, rfl⟩
theorem dPhr_init_29 : Dc mPhr_init 29 (.aload_n 1) 1 30 := ⟨by decide +kernel, rfl⟩
theorem dPhr_init_30 : Dc mPhr_init 30 (.putfield 21) 3 33 := ⟨by decide +kernel, rfl⟩
theorem dPhr_init_33 : Dc mPhr_init 33 .return_ 1 34 := ⟨by decide +kernel, rfl⟩
theorem dRun_init_0 : Dc mRun_init 0 (.aload_n 0) 1 1 := ⟨by decide +kernel, rfl⟩
theorem dRun_init_1 : Dc mRun_init 1 (.invokespecial 3) 3 4 := ⟨by decide +kernel, rfl⟩
theorem dRun_init_4 : Dc mRun_init 4 (.aload_n 0) 1 5 := ⟨by decide +kernel, rfl⟩
theorem dRun_init_5 : Dc mRun_init 5 (.bipush 6) 2 7 := ⟨by decide +kernel, rfl⟩
theorem dRun_init_7 : Dc mRun_init 7 (.anewarray 9) 3 10 := ⟨by decide +kernel, rfl⟩
theorem dRun_init_10 : Dc mRun_init 10 (.putfield 11) 3 13 := ⟨by decide +kernel, rfl⟩
theorem dRun_init_13 : Dc mRun_init 13 (.aload_n 0) 1 14 := ⟨by decide +kernel, rfl⟩
theorem dRun_init_14 : Dc mRun_init 14 (.new 17) 3 17 := ⟨by decide +kernel, rfl⟩
theorem dRun_init_17 : Dc mRun_init 17 .dup 1 18 := ⟨by decide +kernel, rfl⟩
theorem dRun_init_18 : Dc mRun_init 18 (.invokespecial 19) 3 21 := ⟨by decide +kernel, rfl⟩
theorem dRun_init_21 : Dc mRun_init 21 (.putfield 20) 3 24 := ⟨by decide +kernel, rfl⟩
theorem dRun_init_24 : Dc mRun_init 24 (.aload_n 0) 1 25 := ⟨by decide +kernel, rfl⟩
theorem dRun_init_25 : Dc mRun_init 25 (.aload_n 1) 1 26 := ⟨by decide +kernel, rfl⟩
theorem dRun_init_26 : Dc mRun_init 26 (.putfield 24) 3 29 := ⟨by decide +kernel, rfl⟩
theorem dRun_init_29 : Dc mRun_init 29 (.aload_n 0) 1 30 := ⟨by decide +kernel, rfl⟩
theorem dRun_init_30 : Dc mRun_init 30 (.aload_n 2) 1 31 := ⟨by decide +kernel, rfl⟩
theorem dRun_init_31 : Dc mRun_init 31 (.putfield 28) 3 34 := ⟨by decide +kernel, rfl⟩
theorem dRun_init_34 : Dc mRun_init 34 (.aload_n 0) 1 35 := ⟨by decide +kernel, rfl⟩
theorem dRun_init_35 : Dc mRun_init 35 (.aload_n 3) 1 36 := ⟨by decide +kernel, rfl⟩
theorem dRun_init_36 : Dc mRun_init 36 (.putfield 32) 3 39 := ⟨by decide +kernel, rfl⟩
theorem dRun_init_39 : Dc mRun_init 39 (.iconst 0) 1 40 := ⟨by decide +kernel, rfl⟩
theorem dRun_init_40 : Dc mRun_init 40 (.istore 4) 2 42 := ⟨by decide +kernel, rfl⟩
theorem dRun_init_42 : Dc mRun_init 42 (.iload 4) 2 44 := ⟨by decide +kernel, rfl⟩
theorem dRun_init_44 : Dc mRun_init 44 (.bipush 6) 2 46 := ⟨by decide +kernel, rfl⟩
theorem dRun_init_46 : Db mRun_init 46 (.if_icmp .ge) 69 49 := ⟨23, by decide +kernel, by decide, rfl⟩
theorem dRun_init_49 : Dc mRun_init 49 (.aload_n 0) 1 50 := ⟨by decide +kernel, rfl⟩
theorem dRun_init_50 : Dc mRun_init 50 (.getfield 11) 3 53 := ⟨by decide +kernel, rfl⟩
theorem dRun_init_53 : Dc mRun_init 53 (.iload 4) 2 55 := ⟨by decide +kernel, rfl⟩
theorem dRun_init_55 : Dc mRun_init 55 (.new 9) 3 58 := ⟨by decide +kernel, rfl⟩
theorem dRun_init_58 : Dc mRun_init 58 .dup 1 59 := ⟨by decide +kernel, rfl⟩
theorem dRun_init_59 : Dc mRun_init 59 (.invokespecial 36) 3 62 := ⟨by decide +kernel, rfl⟩
theorem dRun_init_62 : Dc mRun_init 62 .aastore 1 63 := ⟨by decide +kernel, rfl⟩
theorem dRun_init_63 : Dc mRun_init 63 (.iinc 4 1) 3 66 := ⟨by decide +kernel, rfl⟩
theorem dRun_init_66 : Db mRun_init 66 .goto 42 69 := ⟨(-24), by decide +kernel, by decide, rfl⟩
theorem dRun_init_69 : Dc mRun_init 69 .return_ 1 70 := ⟨by decide +kernel, rfl⟩
theorem dTrc_init_0 : Dc mTrc_init 0 (.aload_n 0) 1 1 := ⟨by decide +kernel, rfl⟩
theorem dTrc_init_1 : Dc mTrc_init 1 (.invokespecial 3) 3 4 := ⟨by decide +kernel, rfl⟩
theorem dTrc_init_4 : Dc mTrc_init 4 (.aload_n 0) 1 5 := ⟨by decide +kernel, rfl⟩
theorem dTrc_init_5 : Dc mTrc_init 5 (.sipush 300) 3 8 := ⟨by decide +kernel, rfl⟩
theorem dTrc_init_8 : Dc mTrc_init 8 (.newarray .int) 2 10 := ⟨by decide +kernel, rfl⟩
theorem dTrc_init_10 : Dc mTrc_init 10 (.putfield 9) 3 13 := ⟨by decide +kernel, rfl⟩
theorem dTrc_init_13 : Dc mTrc_init 13 (.aload_n 0) 1 14 := ⟨by decide +kernel, rfl⟩
theorem dTrc_init_14 : Dc mTrc_init 14 (.sipush 300) 3 17 := ⟨by decide +kernel, rfl⟩
theorem dTrc_init_17 : Dc mTrc_init 17 (.newarray .int) 2 19 := ⟨by decide +kernel, rfl⟩
theorem dTrc_init_19 : Dc mTrc_init 19 (.putfield 15) 3 22 := ⟨by decide +kernel, rfl⟩
theorem dTrc_init_22 : Dc mTrc_init 22 (.aload_n 0) 1 23 := ⟨by decide +kernel, rfl⟩
theorem dTrc_init_23 : Dc mTrc_init 23 (.sipush 300) 3 26 := ⟨by decide +kernel, rfl⟩
theorem dTrc_init_26 : Dc mTrc_init 26 (.newarray .int) 2 28 := ⟨by decide +kernel, rfl⟩
theorem dTrc_init_28 : Dc mTrc_init 28 (.putfield 18) 3 31 := ⟨by decide +kernel, rfl⟩
theorem dTrc_init_31 : Dc mTrc_init 31 .return_ 1 32 := ⟨by decide +kernel, rfl⟩
theorem dOwn_init_0 : Dc mOwn_init 0 (.aload_n 0) 1 1 := ⟨by decide +kernel, rfl⟩
theorem dOwn_init_1 : Dc mOwn_init 1 (.invokespecial 3) 3 4 := ⟨by decide +kernel, rfl⟩
theorem dOwn_init_4 : Dc mOwn_init 4 (.aload_n 0) 1 5 := ⟨by decide +kernel, rfl⟩
theorem dOwn_init_5 : Dc mOwn_init 5 (.iconst 4) 1 6 := ⟨by decide +kernel, rfl⟩
theorem dOwn_init_6 : Dc mOwn_init 6 (.newarray .int) 2 8 := ⟨by decide +kernel, rfl⟩
theorem dOwn_init_8 : Dc mOwn_init 8 (.putfield 9) 3 11 := ⟨by decide +kernel, rfl⟩
theorem dOwn_init_11 : Dc mOwn_init 11 .return_ 1 12 := ⟨by decide +kernel, rfl⟩
theorem dX_kind_0 : Dc mX_kind 0 (.aload_n 0) 1 1 := ⟨by decide +kernel, rfl⟩
theorem dX_kind_1 : Dc mX_kind 1 (.getfield 10) 3 4 := ⟨by decide +kernel, rfl⟩
theorem dX_kind_4 : Dc mX_kind 4 (.iload_n 1) 1 5 := ⟨by decide +kernel, rfl⟩
theorem dX_kind_5 : Dc mX_kind 5 (.invokevirtual 75) 3 8 := ⟨by decide +kernel, rfl⟩
theorem dX_kind_8 : Db mX_kind 8 (.ifCond .ne) 13 11 := ⟨5, by decide +kernel, by decide, rfl⟩
theorem dX_kind_11 : Dc mX_kind 11 (.iconst (-1)) 1 12 := ⟨by decide +kernel, rfl⟩
theorem dX_kind_12 : Dc mX_kind 12 .ireturn 1 13 := ⟨by decide +kernel, rfl⟩
theorem dX_kind_13 : Dc mX_kind 13 (.aload_n 0) 1 14 := ⟨by decide +kernel, rfl⟩
theorem dX_kind_14 : Dc mX_kind 14 (.getfield 10) 3 17 := ⟨by decide +kernel, rfl⟩
theorem dX_kind_17 : Dc mX_kind 17 (.iload_n 1) 1 18 := ⟨by decide +kernel, rfl⟩
theorem dX_kind_18 : Dc mX_kind 18 (.invokevirtual 79) 3 21 := ⟨by decide +kernel, rfl⟩
theorem dX_kind_21 : Dc mX_kind 21 .ireturn 1 22 := ⟨by decide +kernel, rfl⟩
theorem dKinds_has_0 : Dc mKinds_has 0 (.iload_n 1) 1 1 := ⟨by decide +kernel, rfl⟩
theorem dKinds_has_1 : Db mKinds_has 1 (.ifCond .lt) 16 4 := ⟨15, by decide +kernel, by decide, rfl⟩
theorem dKinds_has_4 : Dc mKinds_has 4 (.iload_n 1) 1 5 := ⟨by decide +kernel, rfl⟩
theorem dKinds_has_5 : Dc mKinds_has 5 (.aload_n 0) 1 6 := ⟨by decide +kernel, rfl⟩
theorem dKinds_has_6 : Dc mKinds_has 6 (.getfield 18) 3 9 := ⟨by decide +kernel, rfl⟩
theorem dKinds_has_9 : Db mKinds_has 9 (.if_icmp .ge) 16 12 := ⟨7, by decide +kernel, by decide, rfl⟩
theorem dKinds_has_12 : Dc mKinds_has 12 (.iconst 1) 1 13 := ⟨by decide +kernel, rfl⟩
theorem dKinds_has_13 : Db mKinds_has 13 .goto 17 16 := ⟨4, by decide +kernel, by decide, rfl⟩
theorem dKinds_has_16 : Dc mKinds_has 16 (.iconst 0) 1 17 := ⟨by decide +kernel, rfl⟩
theorem dKinds_has_17 : Dc mKinds_has 17 .ireturn 1 18 := ⟨by decide +kernel, rfl⟩
theorem dKinds_add_0 : Dc mKinds_add 0 (.aload_n 0) 1 1 := ⟨by decide +kernel, rfl⟩
theorem dKinds_add_1 : Dc mKinds_add 1 (.getfield 18) 3 4 := ⟨by decide +kernel, rfl⟩
theorem dKinds_add_4 : Dc mKinds_add 4 (.bipush 20) 2 6 := ⟨by decide +kernel, rfl⟩
theorem dKinds_add_6 : Db mKinds_add 6 (.if_icmp .lt) 12 9 := ⟨6, by decide +kernel, by decide, rfl⟩
theorem dKinds_add_9 : Dc mKinds_add 9 (.bipush (-3)) 2 11 := ⟨by decide +kernel, rfl⟩
theorem dKinds_add_11 : Dc mKinds_add 11 .ireturn 1 12 := ⟨by decide +kernel, rfl⟩
theorem dKinds_add_12 : Dc mKinds_add 12 (.aload_n 0) 1 13 := ⟨by decide +kernel, rfl⟩
theorem dKinds_add_13 : Dc mKinds_add 13 (.getfield 9) 3 16 := ⟨by decide +kernel, rfl⟩
theorem dKinds_add_16 : Dc mKinds_add 16 (.aload_n 0) 1 17 := ⟨by decide +kernel, rfl⟩
theorem dKinds_add_17 : Dc mKinds_add 17 (.getfield 18) 3 20 := ⟨by decide +kernel, rfl⟩
theorem dKinds_add_20 : Dc mKinds_add 20 (.iload_n 1) 1 21 := ⟨by decide +kernel, rfl⟩
theorem dKinds_add_21 : Dc mKinds_add 21 .iastore 1 22 := ⟨by decide +kernel, rfl⟩
theorem dKinds_add_22 : Dc mKinds_add 22 (.aload_n 0) 1 23 := ⟨by decide +kernel, rfl⟩
theorem dKinds_add_23 : Dc mKinds_add 23 (.getfield 15) 3 26 := ⟨by decide +kernel, rfl⟩
theorem dKinds_add_26 : Dc mKinds_add 26 (.aload_n 0) 1 27 := ⟨by decide +kernel, rfl⟩
theorem dKinds_add_27 : Dc mKinds_add 27 (.getfield 18) 3 30 := ⟨by decide +kernel, rfl⟩
theorem dKinds_add_30 : Dc mKinds_add 30 (.aload_n 0) 1 31 := ⟨by decide +kernel, rfl⟩
theorem dKinds_add_31 : Dc mKinds_add 31 (.getfield 15) 3 34 := ⟨by decide +kernel, rfl⟩
theorem dKinds_add_34 : Dc mKinds_add 34 (.iload_n 1) 1 35 := ⟨by decide +kernel, rfl⟩
theorem dKinds_add_35 : Dc mKinds_add 35 .iaload 1 36 := ⟨by decide +kernel, rfl⟩
theorem dKinds_add_36 : Dc mKinds_add 36 (.iconst 1) 1 37 := ⟨by decide +kernel, rfl⟩
theorem dKinds_add_37 : Dc mKinds_add 37 .iadd 1 38 := ⟨by decide +kernel, rfl⟩
theorem dKinds_add_38 : Dc mKinds_add 38 .iastore 1 39 := ⟨by decide +kernel, rfl⟩
theorem dKinds_add_39 : Dc mKinds_add 39 (.aload_n 0) 1 40 := ⟨by decide +kernel, rfl⟩
theorem dKinds_add_40 : Dc mKinds_add 40 .dup 1 41 := ⟨by decide +kernel, rfl⟩
theorem dKinds_add_41 : Dc mKinds_add 41 (.getfield 18) 3 44 := ⟨by decide +kernel, rfl⟩
theorem dKinds_add_44 : Dc mKinds_add 44 (.iconst 1) 1 45 := ⟨by decide +kernel, rfl⟩
theorem dKinds_add_45 : Dc mKinds_add 45 .iadd 1 46 := ⟨by decide +kernel, rfl⟩
theorem dKinds_add_46 : Dc mKinds_add 46 (.putfield 18) 3 49 := ⟨by decide +kernel, rfl⟩
theorem dKinds_add_49 : Dc mKinds_add 49 (.aload_n 0) 1 50 := ⟨by decide +kernel, rfl⟩
theorem dKinds_add_50 : Dc mKinds_add 50 (.getfield 18) 3 53 := ⟨by decide +kernel, rfl⟩
theorem dKinds_add_53 : Dc mKinds_add 53 (.iconst 1) 1 54 := ⟨by decide +kernel, rfl⟩
theorem dKinds_add_54 : Dc mKinds_add 54 .isub 1 55 := ⟨by decide +kernel, rfl⟩
theorem dKinds_add_55 : Dc mKinds_add 55 .ireturn 1 56 := ⟨by decide +kernel, rfl⟩
theorem dX_under_0 : Dc mX_under 0 (.aload_n 0) 1 1 := ⟨by decide +kernel, rfl⟩
theorem dX_under_1 : Dc mX_under 1 (.getfield 10) 3 4 := ⟨by decide +kernel, rfl⟩
theorem dX_under_4 : Dc mX_under 4 (.iload_n 1) 1 5 := ⟨by decide +kernel, rfl⟩
theorem dX_under_5 : Dc mX_under 5 (.invokevirtual 75) 3 8 := ⟨by decide +kernel, rfl⟩
theorem dX_under_8 : Db mX_under 8 (.ifCond .eq) 22 11 := ⟨14, by decide +kernel, by decide, rfl⟩
theorem dX_under_11 : Dc mX_under 11 (.aload_n 0) 1 12 := ⟨by decide +kernel, rfl⟩
theorem dX_under_12 : Dc mX_under 12 (.getfield 10) 3 15 := ⟨by decide +kernel, rfl⟩
theorem dX_under_15 : Dc mX_under 15 (.iload_n 2) 1 16 := ⟨by decide +kernel, rfl⟩
theorem dX_under_16 : Dc mX_under 16 (.invokevirtual 75) 3 19 := ⟨by decide +kernel, rfl⟩
theorem dX_under_19 : Db mX_under 19 (.ifCond .ne) 24 22 := ⟨5, by decide +kernel, by decide, rfl⟩
theorem dX_under_22 : Dc mX_under 22 (.iconst (-1)) 1 23 := ⟨by decide +kernel, rfl⟩
theorem dX_under_23 : Dc mX_under 23 .ireturn 1 24 := ⟨by decide +kernel, rfl⟩
theorem dX_under_24 : Dc mX_under 24 (.aload_n 0) 1 25 := ⟨by decide +kernel, rfl⟩
theorem dX_under_25 : Dc mX_under 25 (.getfield 10) 3 28 := ⟨by decide +kernel, rfl⟩
theorem dX_under_28 : Dc mX_under 28 (.iload_n 1) 1 29 := ⟨by decide +kernel, rfl⟩
theorem dX_under_29 : Dc mX_under 29 (.iload_n 2) 1 30 := ⟨by decide +kernel, rfl⟩
theorem dX_under_30 : Dc mX_under 30 (.invokevirtual 83) 3 33 := ⟨by decide +kernel, rfl⟩
theorem dX_under_33 : Dc mX_under 33 (.invokestatic 87) 3 36 := ⟨by decide +kernel, rfl⟩
theorem dX_under_36 : Dc mX_under 36 .ireturn 1 37 := ⟨by decide +kernel, rfl⟩
theorem dKinds_isUnder_0 : Dc mKinds_isUnder 0 (.iload_n 1) 1 1 := ⟨by decide +kernel, rfl⟩
theorem dKinds_isUnder_1 : Dc mKinds_isUnder 1 (.istore_n 3) 1 2 := ⟨by decide +kernel, rfl⟩
theorem dKinds_isUnder_2 : Dc mKinds_isUnder 2 (.aload_n 0) 1 3 := ⟨by decide +kernel, rfl⟩
theorem dKinds_isUnder_3 : Dc mKinds_isUnder 3 (.getfield 15) 3 6 := ⟨by decide +kernel, rfl⟩
theorem dKinds_isUnder_6 : Dc mKinds_isUnder 6 (.iload_n 1) 1 7 := ⟨by decide +kernel, rfl⟩
theorem dKinds_isUnder_7 : Dc mKinds_isUnder 7 .iaload 1 8 := ⟨by decide +kernel, rfl⟩
theorem dKinds_isUnder_8 : Dc mKinds_isUnder 8 (.aload_n 0) 1 9 := ⟨by decide +kernel, rfl⟩
theorem dKinds_isUnder_9 : Dc mKinds_isUnder 9 (.getfield 15) 3 12 := ⟨by decide +kernel, rfl⟩
theorem dKinds_isUnder_12 : Dc mKinds_isUnder 12 (.iload_n 2) 1 13 := ⟨by decide +kernel, rfl⟩
theorem dKinds_isUnder_13 : Dc mKinds_isUnder 13 .iaload 1 14 := ⟨by decide +kernel, rfl⟩
theorem dKinds_isUnder_14 : Dc mKinds_isUnder 14 .isub 1 15 := ⟨by decide +kernel, rfl⟩
theorem dKinds_isUnder_15 : Dc mKinds_isUnder 15 (.istore 4) 2 17 := ⟨by decide +kernel, rfl⟩
theorem dKinds_isUnder_17 : Dc mKinds_isUnder 17 (.iload 4) 2 19 := ⟨by decide +kernel, rfl⟩
theorem dKinds_isUnder_19 : Db mKinds_isUnder 19 (.ifCond .le) 35 22 := ⟨16, by decide +kernel, by decide, rfl⟩
theorem dKinds_isUnder_22 : Dc mKinds_isUnder 22 (.aload_n 0) 1 23 := ⟨by decide +kernel, rfl⟩
theorem dKinds_isUnder_23 : Dc mKinds_isUnder 23 (.getfield 9) 3 26 := ⟨by decide +kernel, rfl⟩
theorem dKinds_isUnder_26 : Dc mKinds_isUnder 26 (.iload_n 3) 1 27 := ⟨by decide +kernel, rfl⟩
theorem dKinds_isUnder_27 : Dc mKinds_isUnder 27 .iaload 1 28 := ⟨by decide +kernel, rfl⟩
theorem dKinds_isUnder_28 : Dc mKinds_isUnder 28 (.istore_n 3) 1 29 := ⟨by decide +kernel, rfl⟩
theorem dKinds_isUnder_29 : Dc mKinds_isUnder 29 (.iinc 4 (-1)) 3 32 := ⟨by decide +kernel, rfl⟩
theorem dKinds_isUnder_32 : Db mKinds_isUnder 32 .goto 17 35 := ⟨(-15), by decide +kernel, by decide, rfl⟩
theorem dKinds_isUnder_35 : Dc mKinds_isUnder 35 (.iload_n 3) 1 36 := ⟨by decide +kernel, rfl⟩
theorem dKinds_isUnder_36 : Dc mKinds_isUnder 36 (.iload_n 2) 1 37 := ⟨by decide +kernel, rfl⟩
theorem dKinds_isUnder_37 : Db mKinds_isUnder 37 (.if_icmp .ne) 44 40 := ⟨7, by decide +kernel, by decide, rfl⟩
theorem dKinds_isUnder_40 : Dc mKinds_isUnder 40 (.iconst 1) 1 41 := ⟨by decide +kernel, rfl⟩
theorem dKinds_isUnder_41 : Db mKinds_isUnder 41 .goto 45 44 := ⟨4, by decide +kernel, by decide, rfl⟩
theorem dKinds_isUnder_44 : Dc mKinds_isUnder 44 (.iconst 0) 1 45 := ⟨by decide +kernel, rfl⟩
theorem dKinds_isUnder_45 : Dc mKinds_isUnder 45 .ireturn 1 46 := ⟨by decide +kernel, rfl⟩
theorem dX_asNumber_0 : Dc mX_asNumber 0 (.iload_n 0) 1 1 := ⟨by decide +kernel, rfl⟩
theorem dX_asNumber_1 : Db mX_asNumber 1 (.ifCond .eq) 8 4 := ⟨7, by decide +kernel, by decide, rfl⟩
theorem dX_asNumber_4 : Dc mX_asNumber 4 (.iconst 1) 1 5 := ⟨by decide +kernel, rfl⟩
theorem dX_asNumber_5 : Db mX_asNumber 5 .goto 9 8 := ⟨4, by decide +kernel, by decide, rfl⟩
theorem dX_asNumber_8 : Dc mX_asNumber 8 (.iconst 0) 1 9 := ⟨by decide +kernel, rfl⟩
theorem dX_asNumber_9 : Dc mX_asNumber 9 .ireturn 1 10 := ⟨by decide +kernel, rfl⟩
theorem dX_subject_0 : Dc mX_subject 0 (.aload_n 0) 1 1 := ⟨by decide +kernel, rfl⟩
theorem dX_subject_1 : Dc mX_subject 1 (.getfield 10) 3 4 := ⟨by decide +kernel, rfl⟩
theorem dX_subject_4 : Dc mX_subject 4 (.iload_n 1) 1 5 := ⟨by decide +kernel, rfl⟩
theorem dX_subject_5 : Dc mX_subject 5 (.invokevirtual 75) 3 8 := ⟨by decide +kernel, rfl⟩
theorem dX_subject_8 : Db mX_subject 8 (.ifCond .ne) 13 11 := ⟨5, by decide +kernel, by decide, rfl⟩
theorem dX_subject_11 : Dc mX_subject 11 (.iconst (-1)) 1 12 := ⟨by decide +kernel, rfl⟩
theorem dX_subject_12 : Dc mX_subject 12 .ireturn 1 13 := ⟨by decide +kernel, rfl⟩
theorem dX_subject_13 : Dc mX_subject 13 (.aload_n 0) 1 14 := ⟨by decide +kernel, rfl⟩
theorem dX_subject_14 : Dc mX_subject 14 (.getfield 19) 3 17 := ⟨by decide +kernel, rfl⟩
theorem dX_subject_17 : Dc mX_subject 17 (.invokevirtual 91) 3 20 := ⟨by decide +kernel, rfl⟩
theorem dX_subject_20 : Dc mX_subject 20 (.bipush 20) 2 22 := ⟨by decide +kernel, rfl⟩
theorem dX_subject_22 : Db mX_subject 22 (.if_icmp .lt) 28 25 := ⟨6, by decide +kernel, by decide, rfl⟩
theorem dX_subject_25 : Dc mX_subject 25 (.bipush (-3)) 2 27 := ⟨by decide +kernel, rfl⟩
theorem dX_subject_27 : Dc mX_subject 27 .ireturn 1 28 := ⟨by decide +kernel, rfl⟩
theorem dX_subject_28 : Dc mX_subject 28 (.aload_n 0) 1 29 := ⟨by decide +kernel, rfl⟩
theorem dX_subject_29 : Dc mX_subject 29 (.getfield 19) 3 32 := ⟨by decide +kernel, rfl⟩
theorem dX_subject_32 : Dc mX_subject 32 (.new 95) 3 35 := ⟨by decide +kernel, rfl⟩
theorem dX_subject_35 : Dc mX_subject 35 .dup 1 36 := ⟨by decide +kernel, rfl⟩
theorem dX_subject_36 : Dc mX_subject 36 (.iload_n 1) 1 37 := ⟨by decide +kernel, rfl⟩
theorem dX_subject_37 : Dc mX_subject 37 (.invokespecial 97) 3 40 := ⟨by decide +kernel, rfl⟩
theorem dX_subject_40 : Dc mX_subject 40 (.invokevirtual 100) 3 43 := ⟨by decide +kernel, rfl⟩
theorem dX_subject_43 : Dc mX_subject 43 .pop 1 44 := ⟨by decide +kernel, rfl⟩
theorem dX_subject_44 : Dc mX_subject 44 (.aload_n 0) 1 45 := ⟨by decide +kernel, rfl⟩
theorem dX_subject_45 : Dc mX_subject 45 (.getfield 19) 3 48 := ⟨by decide +kernel, rfl⟩
theorem dX_subject_48 : Dc mX_subject 48 (.invokevirtual 91) 3 51 := ⟨by decide +kernel, rfl⟩
theorem dX_subject_51 : Dc mX_subject 51 (.iconst 1) 1 52 := ⟨by decide +kernel, rfl⟩
theorem dX_subject_52 : Dc mX_subject 52 .isub 1 53 := ⟨by decide +kernel, rfl⟩
theorem dX_subject_53 : Dc mX_subject 53 .ireturn 1 54 := ⟨by decide +kernel, rfl⟩
theorem dSubj_init_0 : Dc mSubj_init 0 (.aload_n 0) 1 1 := ⟨by decide +kernel, rfl⟩
theorem dSubj_init_1 : Dc mSubj_init 1 (.invokespecial 3) 3 4 := ⟨by decide +kernel, rfl⟩
theorem dSubj_init_4 : Dc mSubj_init 4 (.aload_n 0) 1 5 := ⟨by decide +kernel, rfl⟩
theorem dSubj_init_5 : Dc mSubj_init 5 (.iconst 4) 1 6 := ⟨by decide +kernel, rfl⟩
theorem dSubj_init_6 : Dc mSubj_init 6 (.newarray .int) 2 8 := ⟨by decide +kernel, rfl⟩
theorem dSubj_init_8 : Dc mSubj_init 8 (.putfield 9) 3 11 := ⟨by decide +kernel, rfl⟩
theorem dSubj_init_11 : Dc mSubj_init 11 (.aload_n 0) 1 12 := ⟨by decide +kernel, rfl⟩
theorem dSubj_init_12 : Dc mSubj_init 12 (.iload_n 1) 1 13 := ⟨by decide +kernel, rfl⟩
theorem dSubj_init_13 : Dc mSubj_init 13 (.putfield 15) 3 16 := ⟨by decide +kernel, rfl⟩
theorem dSubj_init_16 : Dc mSubj_init 16 .return_ 1 17 := ⟨by decide +kernel, rfl⟩
theorem dX_set_0 : Dc mX_set 0 (.aload_n 0) 1 1 := ⟨by decide +kernel, rfl⟩
theorem dX_set_1 : Dc mX_set 1 (.iload_n 1) 1 2 := ⟨by decide +kernel, rfl⟩
theorem dX_set_2 : Dc mX_set 2 (.invokevirtual 103) 3 5 := ⟨by decide +kernel, rfl⟩
theorem dX_set_5 : Dc mX_set 5 (.astore 4) 2 7 := ⟨by decide +kernel, rfl⟩
theorem dX_set_7 : Dc mX_set 7 (.aload 4) 2 9 := ⟨by decide +kernel, rfl⟩
theorem dX_set_9 : Db mX_set 9 .ifnull 19 12 := ⟨10, by decide +kernel, by decide, rfl⟩
theorem dX_set_12 : Dc mX_set 12 (.iload_n 2) 1 13 := ⟨by decide +kernel, rfl⟩
theorem dX_set_13 : Dc mX_set 13 (.invokestatic 107) 3 16 := ⟨by decide +kernel, rfl⟩
theorem dX_set_16 : Db mX_set 16 (.ifCond .ne) 21 19 := ⟨5, by decide +kernel, by decide, rfl⟩
theorem dX_set_19 : Dc mX_set 19 (.iconst (-1)) 1 20 := ⟨by decide +kernel, rfl⟩
theorem dX_set_20 : Dc mX_set 20 .ireturn 1 21 := ⟨by decide +kernel, rfl⟩
theorem dX_set_21 : Dc mX_set 21 (.aload 4) 2 23 := ⟨by decide +kernel, rfl⟩
theorem dX_set_23 : Dc mX_set 23 (.getfield 110) 3 26 := ⟨by decide +kernel, rfl⟩
theorem dX_set_26 : Dc mX_set 26 (.iload_n 2) 1 27 := ⟨by decide +kernel, rfl⟩
theorem dX_set_27 : Dc mX_set 27 .iaload 1 28 := ⟨by decide +kernel, rfl⟩
theorem dX_set_28 : Dc mX_set 28 (.istore 5) 2 30 := ⟨by decide +kernel, rfl⟩
theorem dX_set_30 : Dc mX_set 30 (.aload 4) 2 32 := ⟨by decide +kernel, rfl⟩
theorem dX_set_32 : Dc mX_set 32 (.getfield 110) 3 35 := ⟨by decide +kernel, rfl⟩
theorem dX_set_35 : Dc mX_set 35 (.iload_n 2) 1 36 := ⟨by decide +kernel, rfl⟩
theorem dX_set_36 : Dc mX_set 36 (.iload_n 3) 1 37 := ⟨by decide +kernel, rfl⟩
theorem dX_set_37 : Dc mX_set 37 .iastore 1 38 := ⟨by decide +kernel, rfl⟩
theorem dX_set_38 : Dc mX_set 38 (.iload 5) 2 40 := ⟨by decide +kernel, rfl⟩
theorem dX_set_40 : Dc mX_set 40 .ireturn 1 41 := ⟨by decide +kernel, rfl⟩
theorem dX_subjectAt_0 : Dc mX_subjectAt 0 (.iload_n 1) 1 1 := ⟨by decide +kernel, rfl⟩
theorem dX_subjectAt_1 : Db mX_subjectAt 1 (.ifCond .lt) 29 4 := ⟨28, by decide +kernel, by decide, rfl⟩
theorem dX_subjectAt_4 : Dc mX_subjectAt 4 (.iload_n 1) 1 5 := ⟨by decide +kernel, rfl⟩
theorem dX_subjectAt_5 : Dc mX_subjectAt 5 (.aload_n 0) 1 6 := ⟨by decide +kernel, rfl⟩
theorem dX_subjectAt_6 : Dc mX_subjectAt 6 (.getfield 19) 3 9 := ⟨by decide +kernel, rfl⟩
theorem dX_subjectAt_9 : Dc mX_subjectAt 9 (.invokevirtual 91) 3 12 := ⟨by decide +kernel, rfl⟩
theorem dX_subjectAt_12 : Db mX_subjectAt 12 (.if_icmp .ge) 29 15 := ⟨17, by decide +kernel, by decide, rfl⟩
theorem dX_subjectAt_15 : Dc mX_subjectAt 15 (.aload_n 0) 1 16 := ⟨by decide +kernel, rfl⟩
theorem dX_subjectAt_16 : Dc mX_subjectAt 16 (.getfield 19) 3 19 := ⟨by decide +kernel, rfl⟩
theorem dX_subjectAt_19 : Dc mX_subjectAt 19 (.iload_n 1) 1 20 := ⟨by decide +kernel, rfl⟩
theorem dX_subjectAt_20 : Dc mX_subjectAt 20 (.invokevirtual 194) 3 23 := ⟨by decide +kernel, rfl⟩
theorem dX_subjectAt_23 : Dc mX_subjectAt 23 (.checkcast 95) 3 26 := ⟨by decide +kernel, rfl⟩
theorem dX_subjectAt_26 : Db mX_subjectAt 26 .goto 30 29 := ⟨4, by decide +kernel, by decide, rfl⟩
theorem dX_subjectAt_29 : Dc mX_subjectAt 29 .aconst_null 1 30 := ⟨by decide +kernel, rfl⟩
theorem dX_subjectAt_30 : Dc mX_subjectAt 30 .areturn 1 31 := ⟨by decide +kernel, rfl⟩
theorem dX_isSlot_0 : Dc mX_isSlot 0 (.iload_n 0) 1 1 := ⟨by decide +kernel, rfl⟩
theorem dX_isSlot_1 : Db mX_isSlot 1 (.ifCond .lt) 13 4 := ⟨12, by decide +kernel, by decide, rfl⟩
theorem dX_isSlot_4 : Dc mX_isSlot 4 (.iload_n 0) 1 5 := ⟨by decide +kernel, rfl⟩
theorem dX_isSlot_5 : Dc mX_isSlot 5 (.iconst 4) 1 6 := ⟨by decide +kernel, rfl⟩
theorem dX_isSlot_6 : Db mX_isSlot 6 (.if_icmp .ge) 13 9 := ⟨7, by decide +kernel, by decide, rfl⟩
theorem dX_isSlot_9 : Dc mX_isSlot 9 (.iconst 1) 1 10 := ⟨by decide +kernel, rfl⟩
theorem dX_isSlot_10 : Db mX_isSlot 10 .goto 14 13 := ⟨4, by decide +kernel, by decide, rfl⟩
theorem dX_isSlot_13 : Dc mX_isSlot 13 (.iconst 0) 1 14 := ⟨by decide +kernel, rfl⟩
theorem dX_isSlot_14 : Dc mX_isSlot 14 .ireturn 1 15 := ⟨by decide +kernel, rfl⟩
theorem dX_value_0 : Dc mX_value 0 (.aload_n 0) 1 1 := ⟨by decide +kernel, rfl⟩
theorem dX_value_1 : Dc mX_value 1 (.iload_n 1) 1 2 := ⟨by decide +kernel, rfl⟩
theorem dX_value_2 : Dc mX_value 2 (.invokevirtual 103) 3 5 := ⟨by decide +kernel, rfl⟩
theorem dX_value_5 : Dc mX_value 5 (.astore_n 3) 1 6 := ⟨by decide +kernel, rfl⟩
theorem dX_value_6 : Dc mX_value 6 (.aload_n 3) 1 7 := ⟨by decide +kernel, rfl⟩
theorem dX_value_7 : Db mX_value 7 .ifnull 17 10 := ⟨10, by decide +kernel, by decide, rfl⟩
theorem dX_value_10 : Dc mX_value 10 (.iload_n 2) 1 11 := ⟨by decide +kernel, rfl⟩
theorem dX_value_11 : Dc mX_value 11 (.invokestatic 107) 3 14 := ⟨by decide +kernel, rfl⟩
theorem dX_value_14 : Db mX_value 14 (.ifCond .ne) 19 17 := ⟨5, by decide +kernel, by decide, rfl⟩
theorem dX_value_17 : Dc mX_value 17 (.iconst (-1)) 1 18 := ⟨by decide +kernel, rfl⟩
theorem dX_value_18 : Dc mX_value 18 .ireturn 1 19 := ⟨by decide +kernel, rfl⟩
theorem dX_value_19 : Dc mX_value 19 (.aload_n 3) 1 20 := ⟨by decide +kernel, rfl⟩
theorem dX_value_20 : Dc mX_value 20 (.getfield 110) 3 23 := ⟨by decide +kernel, rfl⟩
theorem dX_value_23 : Dc mX_value 23 (.iload_n 2) 1 24 := ⟨by decide +kernel, rfl⟩
theorem dX_value_24 : Dc mX_value 24 .iaload 1 25 := ⟨by decide +kernel, rfl⟩
theorem dX_value_25 : Dc mX_value 25 .ireturn 1 26 := ⟨by decide +kernel, rfl⟩
theorem dX_book_0 : Dc mX_book 0 (.iload_n 1) 1 1 := ⟨by decide +kernel, rfl⟩
theorem dX_book_1 : Db mX_book 1 (.ifCond .lt) 10 4 := ⟨9, by decide +kernel, by decide, rfl⟩
theorem dX_book_4 : Dc mX_book 4 (.iload_n 1) 1 5 := ⟨by decide +kernel, rfl⟩
theorem dX_book_5 : Dc mX_book 5 (.bipush 99) 2 7 := ⟨by decide +kernel, rfl⟩
theorem dX_book_7 : Db mX_book 7 (.if_icmp .le) 12 10 := ⟨5, by decide +kernel, by decide, rfl⟩
theorem dX_book_10 : Dc mX_book 10 (.iconst (-1)) 1 11 := ⟨by decide +kernel, rfl⟩
theorem dX_book_11 : Dc mX_book 11 .ireturn 1 12 := ⟨by decide +kernel, rfl⟩
theorem dX_book_12 : Dc mX_book 12 (.aload_n 0) 1 13 := ⟨by decide +kernel, rfl⟩
theorem dX_book_13 : Dc mX_book 13 (.getfield 23) 3 16 := ⟨by decide +kernel, rfl⟩
theorem dX_book_16 : Dc mX_book 16 (.invokevirtual 91) 3 19 := ⟨by decide +kernel, rfl⟩
theorem dX_book_19 : Dc mX_book 19 (.bipush 12) 2 21 := ⟨by decide +kernel, rfl⟩
theorem dX_book_21 : Db mX_book 21 (.if_icmp .lt) 27 24 := ⟨6, by decide +kernel, by decide, rfl⟩
theorem dX_book_24 : Dc mX_book 24 (.bipush (-3)) 2 26 := ⟨by decide +kernel, rfl⟩
theorem dX_book_26 : Dc mX_book 26 .ireturn 1 27 := ⟨by decide +kernel, rfl⟩
theorem dX_book_27 : Dc mX_book 27 (.aload_n 0) 1 28 := ⟨by decide +kernel, rfl⟩
theorem dX_book_28 : Dc mX_book 28 (.getfield 23) 3 31 := ⟨by decide +kernel, rfl⟩
theorem dX_book_31 : Dc mX_book 31 (.new 113) 3 34 := ⟨by decide +kernel, rfl⟩
theorem dX_book_34 : Dc mX_book 34 .dup 1 35 := ⟨by decide +kernel, rfl⟩
theorem dX_book_35 : Dc mX_book 35 (.iload_n 1) 1 36 := ⟨by decide +kernel, rfl⟩
theorem dX_book_36 : Dc mX_book 36 (.invokespecial 115) 3 39 := ⟨by decide +kernel, rfl⟩
theorem dX_book_39 : Dc mX_book 39 (.invokevirtual 100) 3 42 := ⟨by decide +kernel, rfl⟩
theorem dX_book_42 : Dc mX_book 42 .pop 1 43 := ⟨by decide +kernel, rfl⟩
theorem dX_book_43 : Dc mX_book 43 (.aload_n 0) 1 44 := ⟨by decide +kernel, rfl⟩
theorem dX_book_44 : Dc mX_book 44 (.getfield 23) 3 47 := ⟨by decide +kernel, rfl⟩
theorem dX_book_47 : Dc mX_book 47 (.invokevirtual 91) 3 50 := ⟨by decide +kernel, rfl⟩
theorem dX_book_50 : Dc mX_book 50 (.iconst 1) 1 51 := ⟨by decide +kernel, rfl⟩
theorem dX_book_51 : Dc mX_book 51 .isub 1 52 := ⟨by decide +kernel, rfl⟩
theorem dX_book_52 : Dc mX_book 52 .ireturn 1 53 := ⟨by decide +kernel, rfl⟩
theorem dBook_init_0 : Dc mBook_init 0 (.aload_n 0) 1 1 := ⟨by decide +kernel, rfl⟩
theorem dBook_init_1 : Dc mBook_init 1 (.invokespecial 3) 3 4 := ⟨by decide +kernel, rfl⟩
theorem dBook_init_4 : Dc mBook_init 4 (.aload_n 0) 1 5 := ⟨by decide +kernel, rfl⟩
theorem dBook_init_5 : Dc mBook_init 5 (.iconst 4) 1 6 := ⟨by decide +kernel, rfl⟩
theorem dBook_init_6 : Dc mBook_init 6 (.newarray .int) 2 8 := ⟨by decide +kernel, rfl⟩
theorem dBook_init_8 : Dc mBook_init 8 (.putfield 9) 3 11 := ⟨by decide +kernel, rfl⟩
theorem dBook_init_11 : Dc mBook_init 11 (.aload_n 0) 1 12 := ⟨by decide +kernel, rfl⟩
theorem dBook_init_12 : Dc mBook_init 12 (.new 15) 3 15 := ⟨by decide +kernel, rfl⟩
theorem dBook_init_15 : Dc mBook_init 15 .dup 1 16 := ⟨by decide +kernel, rfl⟩
theorem dBook_init_16 : Dc mBook_init 16 (.invokespecial 17) 3 19 := ⟨by decide +kernel, rfl⟩
theorem dBook_init_19 : Dc mBook_init 19 (.putfield 18) 3 22 := ⟨by decide +kernel, rfl⟩
theorem dBook_init_22 : Dc mBook_init 22 (.aload_n 0) 1 23 := ⟨by decide +kernel, rfl⟩
theorem dBook_init_23 : Dc mBook_init 23 (.new 15) 3 26 := ⟨by decide +kernel, rfl⟩
theorem dBook_init_26 : Dc mBook_init 26 .dup 1 27 := ⟨by decide +kernel, rfl⟩
theorem dBook_init_27 : Dc mBook_init 27 (.invokespecial 17) 3 30 := ⟨by decide +kernel, rfl⟩
theorem dBook_init_30 : Dc mBook_init 30 (.putfield 22) 3 33 := ⟨by decide +kernel, rfl⟩
theorem dBook_init_33 : Dc mBook_init 33 (.aload_n 0) 1 34 := ⟨by decide +kernel, rfl⟩
theorem dBook_init_34 : Dc mBook_init 34 (.new 15) 3 37 := ⟨by decide +kernel, rfl⟩
theorem dBook_init_37 : Dc mBook_init 37 .dup 1 38 := ⟨by decide +kernel, rfl⟩
theorem dBook_init_38 : Dc mBook_init 38 (.invokespecial 17) 3 41 := ⟨by decide +kernel, rfl⟩
theorem dBook_init_41 : Dc mBook_init 41 (.putfield 25) 3 44 := ⟨by decide +kernel, rfl⟩
theorem dBook_init_44 : Dc mBook_init 44 (.aload_n 0) 1 45 := ⟨by decide +kernel, rfl⟩
theorem dBook_init_45 : Dc mBook_init 45 (.iload_n 1) 1 46 := ⟨by decide +kernel, rfl⟩
theorem dBook_init_46 : Dc mBook_init 46 (.putfield 28) 3 49 := ⟨by decide +kernel, rfl⟩
theorem dBook_init_49 : Dc mBook_init 49 .return_ 1 50 := ⟨by decide +kernel, rfl⟩
theorem dX_variable_0 : Dc mX_variable 0 (.aload_n 0) 1 1 := ⟨by decide +kernel, rfl⟩
theorem dX_variable_1 : Dc mX_variable 1 (.iload_n 1) 1 2 := ⟨by decide +kernel, rfl⟩
theorem dX_variable_2 : Dc mX_variable 2 (.invokevirtual 116) 3 5 := ⟨by decide +kernel, rfl⟩
theorem dX_variable_5 : Dc mX_variable 5 (.astore 4) 2 7 := ⟨by decide +kernel, rfl⟩
theorem dX_variable_7 : Dc mX_variable 7 (.aload 4) 2 9 := ⟨by decide +kernel, rfl⟩
theorem dX_variable_9 : Db mX_variable 9 .ifnull 19 12 := ⟨10, by decide +kernel, by decide, rfl⟩
theorem dX_variable_12 : Dc mX_variable 12 (.iload_n 2) 1 13 := ⟨by decide +kernel, rfl⟩
theorem dX_variable_13 : Dc mX_variable 13 (.invokestatic 107) 3 16 := ⟨by decide +kernel, rfl⟩
theorem dX_variable_16 : Db mX_variable 16 (.ifCond .ne) 21 19 := ⟨5, by decide +kernel, by decide, rfl⟩
theorem dX_variable_19 : Dc mX_variable 19 (.iconst (-1)) 1 20 := ⟨by decide +kernel, rfl⟩
theorem dX_variable_20 : Dc mX_variable 20 .ireturn 1 21 := ⟨by decide +kernel, rfl⟩
theorem dX_variable_21 : Dc mX_variable 21 (.aload 4) 2 23 := ⟨by decide +kernel, rfl⟩
theorem dX_variable_23 : Dc mX_variable 23 (.getfield 120) 3 26 := ⟨by decide +kernel, rfl⟩
theorem dX_variable_26 : Dc mX_variable 26 (.iload_n 2) 1 27 := ⟨by decide +kernel, rfl⟩
theorem dX_variable_27 : Dc mX_variable 27 (.iload_n 3) 1 28 := ⟨by decide +kernel, rfl⟩
theorem dX_variable_28 : Dc mX_variable 28 .iastore 1 29 := ⟨by decide +kernel, rfl⟩
theorem dX_variable_29 : Dc mX_variable 29 (.iconst 0) 1 30 := ⟨by decide +kernel, rfl⟩
theorem dX_variable_30 : Dc mX_variable 30 .ireturn 1 31 := ⟨by decide +kernel, rfl⟩
theorem dX_bookAt_0 : Dc mX_bookAt 0 (.iload_n 1) 1 1 := ⟨by decide +kernel, rfl⟩
theorem dX_bookAt_1 : Db mX_bookAt 1 (.ifCond .lt) 29 4 := ⟨28, by decide +kernel, by decide, rfl⟩
theorem dX_bookAt_4 : Dc mX_bookAt 4 (.iload_n 1) 1 5 := ⟨by decide +kernel, rfl⟩
theorem dX_bookAt_5 : Dc mX_bookAt 5 (.aload_n 0) 1 6 := ⟨by decide +kernel, rfl⟩
theorem dX_bookAt_6 : Dc mX_bookAt 6 (.getfield 23) 3 9 := ⟨by decide +kernel, rfl⟩
theorem dX_bookAt_9 : Dc mX_bookAt 9 (.invokevirtual 91) 3 12 := ⟨by decide +kernel, rfl⟩
theorem dX_bookAt_12 : Db mX_bookAt 12 (.if_icmp .ge) 29 15 := ⟨17, by decide +kernel, by decide, rfl⟩
theorem dX_bookAt_15 : Dc mX_bookAt 15 (.aload_n 0) 1 16 := ⟨by decide +kernel, rfl⟩
theorem dX_bookAt_16 : Dc mX_bookAt 16 (.getfield 23) 3 19 := ⟨by decide +kernel, rfl⟩
theorem dX_bookAt_19 : Dc mX_bookAt 19 (.iload_n 1) 1 20 := ⟨by decide +kernel, rfl⟩
theorem dX_bookAt_20 : Dc mX_bookAt 20 (.invokevirtual 194) 3 23 := ⟨by decide +kernel, rfl⟩
theorem dX_bookAt_23 : Dc mX_bookAt 23 (.checkcast 113) 3 26 := ⟨by decide +kernel, rfl⟩
theorem dX_bookAt_26 : Db mX_bookAt 26 .goto 30 29 := ⟨4, by decide +kernel, by decide, rfl⟩
theorem dX_bookAt_29 : Dc mX_bookAt 29 .aconst_null 1 30 := ⟨by decide +kernel, rfl⟩
theorem dX_bookAt_30 : Dc mX_bookAt 30 .areturn 1 31 := ⟨by decide +kernel, rfl⟩
theorem dX_rule_0 : Dc mX_rule 0 (.aload_n 0) 1 1 := ⟨by decide +kernel, rfl⟩
theorem dX_rule_1 : Dc mX_rule 1 (.iload_n 1) 1 2 := ⟨by decide +kernel, rfl⟩
theorem dX_rule_2 : Dc mX_rule 2 (.invokevirtual 116) 3 5 := ⟨by decide +kernel, rfl⟩
theorem dX_rule_5 : Dc mX_rule 5 (.astore 4) 2 7 := ⟨by decide +kernel, rfl⟩
theorem dX_rule_7 : Dc mX_rule 7 (.aload 4) 2 9 := ⟨by decide +kernel, rfl⟩
theorem dX_rule_9 : Db mX_rule 9 .ifnull 31 12 := ⟨22, by decide +kernel, by decide, rfl⟩
theorem dX_rule_12 : Dc mX_rule 12 (.iload_n 2) 1 13 := ⟨by decide +kernel, rfl⟩
theorem dX_rule_13 : Db mX_rule 13 (.ifCond .lt) 31 16 := ⟨18, by decide +kernel, by decide, rfl⟩
theorem dX_rule_16 : Dc mX_rule 16 (.iload_n 2) 1 17 := ⟨by decide +kernel, rfl⟩
theorem dX_rule_17 : Dc mX_rule 17 (.iconst 2) 1 18 := ⟨by decide +kernel, rfl⟩
theorem dX_rule_18 : Db mX_rule 18 (.if_icmp .gt) 31 21 := ⟨13, by decide +kernel, by decide, rfl⟩
theorem dX_rule_21 : Dc mX_rule 21 (.iload_n 3) 1 22 := ⟨by decide +kernel, rfl⟩
theorem dX_rule_22 : Db mX_rule 22 (.ifCond .lt) 31 25 := ⟨9, by decide +kernel, by decide, rfl⟩
theorem dX_rule_25 : Dc mX_rule 25 (.iload_n 3) 1 26 := ⟨by decide +kernel, rfl⟩
theorem dX_rule_26 : Dc mX_rule 26 (.bipush 9) 2 28 := ⟨by decide +kernel, rfl⟩
theorem dX_rule_28 : Db mX_rule 28 (.if_icmp .le) 33 31 := ⟨5, by decide +kernel, by decide, rfl⟩
theorem dX_rule_31 : Dc mX_rule 31 (.iconst (-1)) 1 32 := ⟨by decide +kernel, rfl⟩
theorem dX_rule_32 : Dc mX_rule 32 .ireturn 1 33 := ⟨by decide +kernel, rfl⟩
theorem dX_rule_33 : Dc mX_rule 33 (.aload_n 0) 1 34 := ⟨by decide +kernel, rfl⟩
theorem dX_rule_34 : Dc mX_rule 34 (.getfield 26) 3 37 := ⟨by decide +kernel, rfl⟩
theorem dX_rule_37 : Dc mX_rule 37 (.invokevirtual 91) 3 40 := ⟨by decide +kernel, rfl⟩
theorem dX_rule_40 : Dc mX_rule 40 (.bipush 60) 2 42 := ⟨by decide +kernel, rfl⟩
theorem dX_rule_42 : Db mX_rule 42 (.if_icmp .lt) 48 45 := ⟨6, by decide +kernel, by decide, rfl⟩
theorem dX_rule_45 : Dc mX_rule 45 (.bipush (-3)) 2 47 := ⟨by decide +kernel, rfl⟩
theorem dX_rule_47 : Dc mX_rule 47 .ireturn 1 48 := ⟨by decide +kernel, rfl⟩
theorem dX_rule_48 : Dc mX_rule 48 (.new 123) 3 51 := ⟨by decide +kernel, rfl⟩
theorem dX_rule_51 : Dc mX_rule 51 .dup 1 52 := ⟨by decide +kernel, rfl⟩
theorem dX_rule_52 : Dc mX_rule 52 (.aload_n 0) 1 53 := ⟨by decide +kernel, rfl⟩
theorem dX_rule_53 : Dc mX_rule 53 (.getfield 26) 3 56 := ⟨by decide +kernel, rfl⟩
theorem dX_rule_56 : Dc mX_rule 56 (.invokevirtual 91) 3 59 := ⟨by decide +kernel, rfl⟩
theorem dX_rule_59 : Dc mX_rule 59 (.aload 4) 2 61 := ⟨by decide +kernel, rfl⟩
theorem dX_rule_61 : Dc mX_rule 61 (.iload_n 2) 1 62 := ⟨by decide +kernel, rfl⟩
theorem dX_rule_62 : Dc mX_rule 62 (.iload_n 3) 1 63 := ⟨by decide +kernel, rfl⟩
theorem dX_rule_63 : Dc mX_rule 63 (.invokespecial 125) 3 66 := ⟨by decide +kernel, rfl⟩
theorem dX_rule_66 : Dc mX_rule 66 (.astore 5) 2 68 := ⟨by decide +kernel, rfl⟩
theorem dX_rule_68 : Dc mX_rule 68 (.aload_n 0) 1 69 := ⟨by decide +kernel, rfl⟩
theorem dX_rule_69 : Dc mX_rule 69 (.getfield 26) 3 72 := ⟨by decide +kernel, rfl⟩
theorem dX_rule_72 : Dc mX_rule 72 (.aload 5) 2 74 := ⟨by decide +kernel, rfl⟩
theorem dX_rule_74 : Dc mX_rule 74 (.invokevirtual 100) 3 77 := ⟨by decide +kernel, rfl⟩
theorem dX_rule_77 : Dc mX_rule 77 .pop 1 78 := ⟨by decide +kernel, rfl⟩
theorem dX_rule_78 : Dc mX_rule 78 (.aload 4) 2 80 := ⟨by decide +kernel, rfl⟩
theorem dX_rule_80 : Dc mX_rule 80 (.aload 5) 2 82 := ⟨by decide +kernel, rfl⟩
theorem dX_rule_82 : Dc mX_rule 82 (.invokevirtual 128) 3 85 := ⟨by decide +kernel, rfl⟩
theorem dX_rule_85 : Dc mX_rule 85 (.aload 5) 2 87 := ⟨by decide +kernel, rfl⟩
theorem dX_rule_87 : Dc mX_rule 87 (.getfield 132) 3 90 := ⟨by decide +kernel, rfl⟩
theorem dX_rule_90 : Dc mX_rule 90 .ireturn 1 91 := ⟨by decide +kernel, rfl⟩
theorem dRule_init_0 : Dc mRule_init 0 (.aload_n 0) 1 1 := ⟨by decide +kernel, rfl⟩
theorem dRule_init_1 : Dc mRule_init 1 (.invokespecial 3) 3 4 := ⟨by decide +kernel, rfl⟩
theorem dRule_init_4 : Dc mRule_init 4 (.aload_n 0) 1 5 := ⟨by decide +kernel, rfl⟩
theorem dRule_init_5 : Dc mRule_init 5 (.new 9) 3 8 := ⟨by decide +kernel, rfl⟩
theorem dRule_init_8 : Dc mRule_init 8 .dup 1 9 := ⟨by decide +kernel, rfl⟩
theorem dRule_init_9 : Dc mRule_init 9 (.invokespecial 11) 3 12 := ⟨by decide +kernel, rfl⟩
theorem dRule_init_12 : Dc mRule_init 12 (.putfield 12) 3 15 := ⟨by decide +kernel, rfl⟩
theorem dRule_init_15 : Dc mRule_init 15 (.aload_n 0) 1 16 := ⟨by decide +kernel, rfl⟩
theorem dRule_init_16 : Dc mRule_init 16 (.iconst 0) 1 17 := ⟨by decide +kernel, rfl⟩
theorem dRule_init_17 : Dc mRule_init 17 (.putfield 18) 3 20 := ⟨by decide +kernel, rfl⟩
theorem dRule_init_20 : Dc mRule_init 20 (.aload_n 0) 1 21 := ⟨by decide +kernel, rfl⟩
theorem dRule_init_21 : Dc mRule_init 21 (.iload_n 1) 1 22 := ⟨by decide +kernel, rfl⟩
theorem dRule_init_22 : Dc mRule_init 22 (.putfield 22) 3 25 := ⟨by decide +kernel, rfl⟩
theorem dRule_init_25 : Dc mRule_init 25 (.aload_n 0) 1 26 := ⟨by decide +kernel, rfl⟩
theorem dRule_init_26 : Dc mRule_init 26 (.aload_n 2) 1 27 := ⟨by decide +kernel, rfl⟩
theorem dRule_init_27 : Dc mRule_init 27 (.putfield 25) 3 30 := ⟨by decide +kernel, rfl⟩
theorem dRule_init_30 : Dc mRule_init 30 (.aload_n 0) 1 31 := ⟨by decide +kernel, rfl⟩
theorem dRule_init_31 : Dc mRule_init 31 (.iload_n 3) 1 32 := ⟨by decide +kernel, rfl⟩
theorem dRule_init_32 : Dc mRule_init 32 (.putfield 29) 3 35 := ⟨by decide +kernel, rfl⟩
theorem dRule_init_35 : Dc mRule_init 35 (.aload_n 0) 1 36 := ⟨by decide +kernel, rfl⟩
theorem dRule_init_36 : Dc mRule_init 36 (.iload 4) 2 38 := ⟨by decide +kernel, rfl⟩
theorem dRule_init_38 : Dc mRule_init 38 (.putfield 32) 3 41 := ⟨by decide +kernel, rfl⟩
theorem dRule_init_41 : Dc mRule_init 41 .return_ 1 42 := ⟨by decide +kernel, rfl⟩
theorem dBook_takeRule_0 : Dc mBook_takeRule 0 (.aload_n 0) 1 1 := ⟨by decide +kernel, rfl⟩
theorem dBook_takeRule_1 : Dc mBook_takeRule 1 (.getfield 18) 3 4 := ⟨by decide +kernel, rfl⟩
theorem dBook_takeRule_4 : Dc mBook_takeRule 4 (.aload_n 1) 1 5 := ⟨by decide +kernel, rfl⟩
theorem dBook_takeRule_5 : Dc mBook_takeRule 5 (.invokevirtual 32) 3 8 := ⟨by decide +kernel, rfl⟩
theorem dBook_takeRule_8 : Dc mBook_takeRule 8 .pop 1 9 := ⟨by decide +kernel, rfl⟩
theorem dBook_takeRule_9 : Dc mBook_takeRule 9 (.aload_n 0) 1 10 := ⟨by decide +kernel, rfl⟩
theorem dBook_takeRule_10 : Dc mBook_takeRule 10 (.invokevirtual 36) 3 13 := ⟨by decide +kernel, rfl⟩
theorem dBook_takeRule_13 : Dc mBook_takeRule 13 .return_ 1 14 := ⟨by decide +kernel, rfl⟩
theorem dBook_arrangeRow_0 : Dc mBook_arrangeRow 0 (.aload_n 0) 1 1 := ⟨by decide +kernel, rfl⟩
theorem dBook_arrangeRow_1 : Dc mBook_arrangeRow 1 (.getfield 25) 3 4 := ⟨by decide +kernel, rfl⟩
theorem dBook_arrangeRow_4 : Dc mBook_arrangeRow 4 (.invokevirtual 47) 3 7 := ⟨by decide +kernel, rfl⟩
theorem dBook_arrangeRow_7 : Dc mBook_arrangeRow 7 (.iconst 0) 1 8 := ⟨by decide +kernel, rfl⟩
theorem dBook_arrangeRow_8 : Dc mBook_arrangeRow 8 (.istore_n 1) 1 9 := ⟨by decide +kernel, rfl⟩
theorem dBook_arrangeRow_9 : Dc mBook_arrangeRow 9 (.iload_n 1) 1 10 := ⟨by decide +kernel, rfl⟩
theorem dBook_arrangeRow_10 : Dc mBook_arrangeRow 10 (.aload_n 0) 1 11 := ⟨by decide +kernel, rfl⟩
theorem dBook_arrangeRow_11 : Dc mBook_arrangeRow 11 (.getfield 18) 3 14 := ⟨by decide +kernel, rfl⟩
theorem dBook_arrangeRow_14 : Dc mBook_arrangeRow 14 (.invokevirtual 50) 3 17 := ⟨by decide +kernel, rfl⟩
theorem dBook_arrangeRow_17 : Db mBook_arrangeRow 17 (.if_icmp .ge) 41 20 := ⟨24, by decide +kernel, by decide, rfl⟩
theorem dBook_arrangeRow_20 : Dc mBook_arrangeRow 20 (.aload_n 0) 1 21 := ⟨by decide +kernel, rfl⟩
theorem dBook_arrangeRow_21 : Dc mBook_arrangeRow 21 (.aload_n 0) 1 22 := ⟨by decide +kernel, rfl⟩
theorem dBook_arrangeRow_22 : Dc mBook_arrangeRow 22 (.getfield 18) 3 25 := ⟨by decide +kernel, rfl⟩
theorem dBook_arrangeRow_25 : Dc mBook_arrangeRow 25 (.iload_n 1) 1 26 := ⟨by decide +kernel, rfl⟩
theorem dBook_arrangeRow_26 : Dc mBook_arrangeRow 26 (.invokevirtual 54) 3 29 := ⟨by decide +kernel, rfl⟩
theorem dBook_arrangeRow_29 : Dc mBook_arrangeRow 29 (.checkcast 57) 3 32 := ⟨by decide +kernel, rfl⟩
theorem dBook_arrangeRow_32 : Dc mBook_arrangeRow 32 (.invokevirtual 59) 3 35 := ⟨by decide +kernel, rfl⟩
theorem dBook_arrangeRow_35 : Dc mBook_arrangeRow 35 (.iinc 1 1) 3 38 := ⟨by decide +kernel, rfl⟩
theorem dBook_arrangeRow_38 : Db mBook_arrangeRow 38 .goto 9 41 := ⟨(-29), by decide +kernel, by decide, rfl⟩
theorem dBook_arrangeRow_41 : Dc mBook_arrangeRow 41 (.iconst 0) 1 42 := ⟨by decide +kernel, rfl⟩
theorem dBook_arrangeRow_42 : Dc mBook_arrangeRow 42 (.istore_n 1) 1 43 := ⟨by decide +kernel, rfl⟩
theorem dBook_arrangeRow_43 : Dc mBook_arrangeRow 43 (.iload_n 1) 1 44 := ⟨by decide +kernel, rfl⟩
theorem dBook_arrangeRow_44 : Dc mBook_arrangeRow 44 (.aload_n 0) 1 45 := ⟨by decide +kernel, rfl⟩
theorem dBook_arrangeRow_45 : Dc mBook_arrangeRow 45 (.getfield 22) 3 48 := ⟨by decide +kernel, rfl⟩
theorem dBook_arrangeRow_48 : Dc mBook_arrangeRow 48 (.invokevirtual 50) 3 51 := ⟨by decide +kernel, rfl⟩
theorem dBook_arrangeRow_51 : Db mBook_arrangeRow 51 (.if_icmp .ge) 75 54 := ⟨24, by decide +kernel, by decide, rfl⟩
theorem dBook_arrangeRow_54 : Dc mBook_arrangeRow 54 (.aload_n 0) 1 55 := ⟨by decide +kernel, rfl⟩
theorem dBook_arrangeRow_55 : Dc mBook_arrangeRow 55 (.aload_n 0) 1 56 := ⟨by decide +kernel, rfl⟩
theorem dBook_arrangeRow_56 : Dc mBook_arrangeRow 56 (.getfield 22) 3 59 := ⟨by decide +kernel, rfl⟩
theorem dBook_arrangeRow_59 : Dc mBook_arrangeRow 59 (.iload_n 1) 1 60 := ⟨by decide +kernel, rfl⟩
theorem dBook_arrangeRow_60 : Dc mBook_arrangeRow 60 (.invokevirtual 54) 3 63 := ⟨by decide +kernel, rfl⟩
theorem dBook_arrangeRow_63 : Dc mBook_arrangeRow 63 (.checkcast 57) 3 66 := ⟨by decide +kernel, rfl⟩
theorem dBook_arrangeRow_66 : Dc mBook_arrangeRow 66 (.invokevirtual 63) 3 69 := ⟨by decide +kernel, rfl⟩
theorem dBook_arrangeRow_69 : Dc mBook_arrangeRow 69 (.iinc 1 1) 3 72 := ⟨by decide +kernel, rfl⟩
theorem dBook_arrangeRow_72 : Db mBook_arrangeRow 72 .goto 43 75 := ⟨(-29), by decide +kernel, by decide, rfl⟩
theorem dBook_arrangeRow_75 : Dc mBook_arrangeRow 75 .return_ 1 76 := ⟨by decide +kernel, rfl⟩
theorem dBook_putByRank_0 : Dc mBook_putByRank 0 (.aload_n 0) 1 1 := ⟨by decide +kernel, rfl⟩
theorem dBook_putByRank_1 : Dc mBook_putByRank 1 (.getfield 25) 3 4 := ⟨by decide +kernel, rfl⟩
theorem dBook_putByRank_4 : Dc mBook_putByRank 4 (.invokevirtual 50) 3 7 := ⟨by decide +kernel, rfl⟩
theorem dBook_putByRank_7 : Dc mBook_putByRank 7 (.istore_n 2) 1 8 := ⟨by decide +kernel, rfl⟩
theorem dBook_putByRank_8 : Dc mBook_putByRank 8 (.iload_n 2) 1 9 := ⟨by decide +kernel, rfl⟩
theorem dBook_putByRank_9 : Db mBook_putByRank 9 (.ifCond .le) 38 12 := ⟨29, by decide +kernel, by decide, rfl⟩
theorem dBook_putByRank_12 : Dc mBook_putByRank 12 (.aload_n 1) 1 13 := ⟨by decide +kernel, rfl⟩
theorem dBook_putByRank_13 : Dc mBook_putByRank 13 (.aload_n 0) 1 14 := ⟨by decide +kernel, rfl⟩
theorem dBook_putByRank_14 : Dc mBook_putByRank 14 (.getfield 25) 3 17 := ⟨by decide +kernel, rfl⟩
theorem dBook_putByRank_17 : Dc mBook_putByRank 17 (.iload_n 2) 1 18 := ⟨by decide +kernel, rfl⟩
theorem dBook_putByRank_18 : Dc mBook_putByRank 18 (.iconst 1) 1 19 := ⟨by decide +kernel, rfl⟩
theorem dBook_putByRank_19 : Dc mBook_putByRank 19 .isub 1 20 := ⟨by decide +kernel, rfl⟩
theorem dBook_putByRank_20 : Dc mBook_putByRank 20 (.invokevirtual 54) 3 23 := ⟨by decide +kernel, rfl⟩
theorem dBook_putByRank_23 : Dc mBook_putByRank 23 (.checkcast 57) 3 26 := ⟨by decide +kernel, rfl⟩
theorem dBook_putByRank_26 : Dc mBook_putByRank 26 (.invokevirtual 66) 3 29 := ⟨by decide +kernel, rfl⟩
theorem dBook_putByRank_29 : Db mBook_putByRank 29 (.ifCond .eq) 38 32 := ⟨9, by decide +kernel, by decide, rfl⟩
theorem dBook_putByRank_32 : Dc mBook_putByRank 32 (.iinc 2 (-1)) 3 35 := ⟨by decide +kernel, rfl⟩
theorem dBook_putByRank_35 : Db mBook_putByRank 35 .goto 8 38 := ⟨(-27), by decide +kernel, by decide, rfl⟩
theorem dBook_putByRank_38 : Dc mBook_putByRank 38 (.aload_n 0) 1 39 := ⟨by decide +kernel, rfl⟩
theorem dBook_putByRank_39 : Dc mBook_putByRank 39 (.getfield 25) 3 42 := ⟨by decide +kernel, rfl⟩
theorem dBook_putByRank_42 : Dc mBook_putByRank 42 (.iload_n 2) 1 43 := ⟨by decide +kernel, rfl⟩
theorem dBook_putByRank_43 : Dc mBook_putByRank 43 (.aload_n 1) 1 44 := ⟨by decide +kernel, rfl⟩
theorem dBook_putByRank_44 : Dc mBook_putByRank 44 (.invokevirtual 70) 3 47 := ⟨by decide +kernel, rfl⟩
theorem dBook_putByRank_47 : Dc mBook_putByRank 47 .return_ 1 48 := ⟨by decide +kernel, rfl⟩
theorem dRule_outranks_0 : Dc mRule_outranks 0 (.aload_n 0) 1 1 := ⟨by decide +kernel, rfl⟩
theorem dRule_outranks_1 : Dc mRule_outranks 1 (.getfield 29) 3 4 := ⟨by decide +kernel, rfl⟩
theorem dRule_outranks_4 : Dc mRule_outranks 4 (.aload_n 1) 1 5 := ⟨by decide +kernel, rfl⟩
theorem dRule_outranks_5 : Dc mRule_outranks 5 (.getfield 29) 3 8 := ⟨by decide +kernel, rfl⟩
theorem dRule_outranks_8 : Db mRule_outranks 8 (.if_icmp .eq) 28 11 := ⟨20, by decide +kernel, by decide, rfl⟩
theorem dRule_outranks_11 : Dc mRule_outranks 11 (.aload_n 0) 1 12 := ⟨by decide +kernel, rfl⟩
theorem dRule_outranks_12 : Dc mRule_outranks 12 (.getfield 29) 3 15 := ⟨by decide +kernel, rfl⟩
theorem dRule_outranks_15 : Dc mRule_outranks 15 (.aload_n 1) 1 16 := ⟨by decide +kernel, rfl⟩
theorem dRule_outranks_16 : Dc mRule_outranks 16 (.getfield 29) 3 19 := ⟨by decide +kernel, rfl⟩
theorem dRule_outranks_19 : Db mRule_outranks 19 (.if_icmp .ge) 26 22 := ⟨7, by decide +kernel, by decide, rfl⟩
theorem dRule_outranks_22 : Dc mRule_outranks 22 (.iconst 1) 1 23 := ⟨by decide +kernel, rfl⟩
theorem dRule_outranks_23 : Db mRule_outranks 23 .goto 27 26 := ⟨4, by decide +kernel, by decide, rfl⟩
theorem dRule_outranks_26 : Dc mRule_outranks 26 (.iconst 0) 1 27 := ⟨by decide +kernel, rfl⟩
theorem dRule_outranks_27 : Dc mRule_outranks 27 .ireturn 1 28 := ⟨by decide +kernel, rfl⟩
theorem dRule_outranks_28 : Dc mRule_outranks 28 (.aload_n 0) 1 29 := ⟨by decide +kernel, rfl⟩
theorem dRule_outranks_29 : Dc mRule_outranks 29 (.getfield 32) 3 32 := ⟨by decide +kernel, rfl⟩
theorem dRule_outranks_32 : Dc mRule_outranks 32 (.aload_n 1) 1 33 := ⟨by decide +kernel, rfl⟩
theorem dRule_outranks_33 : Dc mRule_outranks 33 (.getfield 32) 3 36 := ⟨by decide +kernel, rfl⟩
theorem dRule_outranks_36 : Db mRule_outranks 36 (.if_icmp .eq) 56 39 := ⟨20, by decide +kernel, by decide, rfl⟩
theorem dRule_outranks_39 : Dc mRule_outranks 39 (.aload_n 0) 1 40 := ⟨by decide +kernel, rfl⟩
theorem dRule_outranks_40 : Dc mRule_outranks 40 (.getfield 32) 3 43 := ⟨by decide +kernel, rfl⟩
theorem dRule_outranks_43 : Dc mRule_outranks 43 (.aload_n 1) 1 44 := ⟨by decide +kernel, rfl⟩
theorem dRule_outranks_44 : Dc mRule_outranks 44 (.getfield 32) 3 47 := ⟨by decide +kernel, rfl⟩
theorem dRule_outranks_47 : Db mRule_outranks 47 (.if_icmp .le) 54 50 := ⟨7, by decide +kernel, by decide, rfl⟩
theorem dRule_outranks_50 : Dc mRule_outranks 50 (.iconst 1) 1 51 := ⟨by decide +kernel, rfl⟩
theorem dRule_outranks_51 : Db mRule_outranks 51 .goto 55 54 := ⟨4, by decide +kernel, by decide, rfl⟩
theorem dRule_outranks_54 : Dc mRule_outranks 54 (.iconst 0) 1 55 := ⟨by decide +kernel, rfl⟩
theorem dRule_outranks_55 : Dc mRule_outranks 55 .ireturn 1 56 := ⟨by decide +kernel, rfl⟩
theorem dRule_outranks_56 : Dc mRule_outranks 56 (.aload_n 0) 1 57 := ⟨by decide +kernel, rfl⟩
theorem dRule_outranks_57 : Dc mRule_outranks 57 (.getfield 12) 3 60 := ⟨by decide +kernel, rfl⟩
theorem dRule_outranks_60 : Dc mRule_outranks 60 (.invokevirtual 35) 3 63 := ⟨by decide +kernel, rfl⟩
theorem dRule_outranks_63 : Dc mRule_outranks 63 (.aload_n 1) 1 64 := ⟨by decide +kernel, rfl⟩
theorem dRule_outranks_64 : Dc mRule_outranks 64 (.getfield 12) 3 67 := ⟨by decide +kernel, rfl⟩
theorem dRule_outranks_67 : Dc mRule_outranks 67 (.invokevirtual 35) 3 70 := ⟨by decide +kernel, rfl⟩
theorem dRule_outranks_70 : Db mRule_outranks 70 (.if_icmp .eq) 96 73 := ⟨26, by decide +kernel, by decide, rfl⟩
theorem dRule_outranks_73 : Dc mRule_outranks 73 (.aload_n 0) 1 74 := ⟨by decide +kernel, rfl⟩
theorem dRule_outranks_74 : Dc mRule_outranks 74 (.getfield 12) 3 77 := ⟨by decide +kernel, rfl⟩
theorem dRule_outranks_77 : Dc mRule_outranks 77 (.invokevirtual 35) 3 80 := ⟨by decide +kernel, rfl⟩
theorem dRule_outranks_80 : Dc mRule_outranks 80 (.aload_n 1) 1 81 := ⟨by decide +kernel, rfl⟩
theorem dRule_outranks_81 : Dc mRule_outranks 81 (.getfield 12) 3 84 := ⟨by decide +kernel, rfl⟩
theorem dRule_outranks_84 : Dc mRule_outranks 84 (.invokevirtual 35) 3 87 := ⟨by decide +kernel, rfl⟩
theorem dRule_outranks_87 : Db mRule_outranks 87 (.if_icmp .le) 94 90 := ⟨7, by decide +kernel, by decide, rfl⟩
theorem dRule_outranks_90 : Dc mRule_outranks 90 (.iconst 1) 1 91 := ⟨by decide +kernel, rfl⟩
theorem dRule_outranks_91 : Db mRule_outranks 91 .goto 95 94 := ⟨4, by decide +kernel, by decide, rfl⟩
theorem dRule_outranks_94 : Dc mRule_outranks 94 (.iconst 0) 1 95 := ⟨by decide +kernel, rfl⟩
theorem dRule_outranks_95 : Dc mRule_outranks 95 .ireturn 1 96 := ⟨by decide +kernel, rfl⟩
theorem dRule_outranks_96 : Dc mRule_outranks 96 (.aload_n 0) 1 97 := ⟨by decide +kernel, rfl⟩
theorem dRule_outranks_97 : Dc mRule_outranks 97 (.getfield 39) 3 100 := ⟨by decide +kernel, rfl⟩
theorem dRule_outranks_100 : Dc mRule_outranks 100 (.aload_n 1) 1 101 := ⟨by decide +kernel, rfl⟩
theorem dRule_outranks_101 : Dc mRule_outranks 101 (.getfield 39) 3 104 := ⟨by decide +kernel, rfl⟩
theorem dRule_outranks_104 : Db mRule_outranks 104 (.if_icmp .le) 111 107 := ⟨7, by decide +kernel, by decide, rfl⟩
theorem dRule_outranks_107 : Dc mRule_outranks 107 (.iconst 1) 1 108 := ⟨by decide +kernel, rfl⟩
theorem dRule_outranks_108 : Db mRule_outranks 108 .goto 112 111 := ⟨4, by decide +kernel, by decide, rfl⟩
theorem dRule_outranks_111 : Dc mRule_outranks 111 (.iconst 0) 1 112 := ⟨by decide +kernel, rfl⟩
theorem dRule_outranks_112 : Dc mRule_outranks 112 .ireturn 1 113 := ⟨by decide +kernel, rfl⟩
theorem dBook_carryOutOrder_0 : Dc mBook_carryOutOrder 0 (.aload_n 0) 1 1 := ⟨by decide +kernel, rfl⟩
theorem dBook_carryOutOrder_1 : Dc mBook_carryOutOrder 1 (.getfield 25) 3 4 := ⟨by decide +kernel, rfl⟩
theorem dBook_carryOutOrder_4 : Dc mBook_carryOutOrder 4 (.aload_n 1) 1 5 := ⟨by decide +kernel, rfl⟩
theorem dBook_carryOutOrder_5 : Dc mBook_carryOutOrder 5 (.invokestatic 39) 3 8 := ⟨by decide +kernel, rfl⟩
theorem dBook_carryOutOrder_8 : Dc mBook_carryOutOrder 8 (.istore_n 2) 1 9 := ⟨by decide +kernel, rfl⟩
theorem dBook_carryOutOrder_9 : Dc mBook_carryOutOrder 9 (.iload_n 2) 1 10 := ⟨by decide +kernel, rfl⟩
theorem dBook_carryOutOrder_10 : Dc mBook_carryOutOrder 10 (.iconst (-1)) 1 11 := ⟨by decide +kernel, rfl⟩
theorem dBook_carryOutOrder_11 : Db mBook_carryOutOrder 11 (.if_icmp .ne) 15 14 := ⟨4, by decide +kernel, by decide, rfl⟩
theorem dBook_carryOutOrder_14 : Dc mBook_carryOutOrder 14 .return_ 1 15 := ⟨by decide +kernel, rfl⟩
theorem dBook_carryOutOrder_15 : Dc mBook_carryOutOrder 15 (.aload_n 1) 1 16 := ⟨by decide +kernel, rfl⟩
theorem dBook_carryOutOrder_16 : Dc mBook_carryOutOrder 16 (.getfield 73) 3 19 := ⟨by decide +kernel, rfl⟩
theorem dBook_carryOutOrder_19 : Dc mBook_carryOutOrder 19 (.invokestatic 76) 3 22 := ⟨by decide +kernel, rfl⟩
theorem dBook_carryOutOrder_22 : Db mBook_carryOutOrder 22 (.ifCond .eq) 41 25 := ⟨19, by decide +kernel, by decide, rfl⟩
theorem dBook_carryOutOrder_25 : Dc mBook_carryOutOrder 25 (.aload_n 0) 1 26 := ⟨by decide +kernel, rfl⟩
theorem dBook_carryOutOrder_26 : Dc mBook_carryOutOrder 26 (.getfield 25) 3 29 := ⟨by decide +kernel, rfl⟩
theorem dBook_carryOutOrder_29 : Dc mBook_carryOutOrder 29 (.aload_n 1) 1 30 := ⟨by decide +kernel, rfl⟩
theorem dBook_carryOutOrder_30 : Dc mBook_carryOutOrder 30 (.getfield 80) 3 33 := ⟨by decide +kernel, rfl⟩
theorem dBook_carryOutOrder_33 : Dc mBook_carryOutOrder 33 (.invokestatic 39) 3 36 := ⟨by decide +kernel, rfl⟩
theorem dBook_carryOutOrder_36 : Dc mBook_carryOutOrder 36 (.iconst (-1)) 1 37 := ⟨by decide +kernel, rfl⟩
theorem dBook_carryOutOrder_37 : Db mBook_carryOutOrder 37 (.if_icmp .ne) 41 40 := ⟨4, by decide +kernel, by decide, rfl⟩
theorem dBook_carryOutOrder_40 : Dc mBook_carryOutOrder 40 .return_ 1 41 := ⟨by decide +kernel, rfl⟩
theorem dBook_carryOutOrder_41 : Dc mBook_carryOutOrder 41 (.aload_n 0) 1 42 := ⟨by decide +kernel, rfl⟩
theorem dBook_carryOutOrder_42 : Dc mBook_carryOutOrder 42 (.getfield 25) 3 45 := ⟨by decide +kernel, rfl⟩
theorem dBook_carryOutOrder_45 : Dc mBook_carryOutOrder 45 (.iload_n 2) 1 46 := ⟨by decide +kernel, rfl⟩
theorem dBook_carryOutOrder_46 : Dc mBook_carryOutOrder 46 (.invokevirtual 43) 3 49 := ⟨by decide +kernel, rfl⟩
theorem dBook_carryOutOrder_49 : Dc mBook_carryOutOrder 49 .pop 1 50 := ⟨by decide +kernel, rfl⟩
theorem dBook_carryOutOrder_50 : Dc mBook_carryOutOrder 50 (.aload_n 1) 1 51 := ⟨by decide +kernel, rfl⟩
theorem dBook_carryOutOrder_51 : Dc mBook_carryOutOrder 51 (.getfield 73) 3 54 := ⟨by decide +kernel, rfl⟩
theorem dBook_carryOutOrder_54 : Dc mBook_carryOutOrder 54 (.tableswitch (127) (0) (4) #[34, 46, 58, 80, 104]) 34 88 := ⟨by decide +kernel, rfl⟩
theorem dBook_carryOutOrder_88 : Dc mBook_carryOutOrder 88 (.aload_n 0) 1 89 := ⟨by decide +kernel, rfl⟩
theorem dBook_carryOutOrder_89 : Dc mBook_carryOutOrder 89 (.getfield 25) 3 92 := ⟨by decide +kernel, rfl⟩
theorem dBook_carryOutOrder_92 : Dc mBook_carryOutOrder 92 (.iconst 0) 1 93 := ⟨by decide +kernel, rfl⟩
theorem dBook_carryOutOrder_93 : Dc mBook_carryOutOrder 93 (.aload_n 1) 1 94 := ⟨by decide +kernel, rfl⟩
theorem dBook_carryOutOrder_94 : Dc mBook_carryOutOrder 94 (.invokevirtual 70) 3 97 := ⟨by decide +kernel, rfl⟩
theorem dBook_carryOutOrder_97 : Db mBook_carryOutOrder 97 .goto 181 100 := ⟨84, by decide +kernel, by decide, rfl⟩
theorem dBook_carryOutOrder_100 : Dc mBook_carryOutOrder 100 (.aload_n 0) 1 101 := ⟨by decide +kernel, rfl⟩
theorem dBook_carryOutOrder_101 : Dc mBook_carryOutOrder 101 (.getfield 25) 3 104 := ⟨by decide +kernel, rfl⟩
theorem dBook_carryOutOrder_104 : Dc mBook_carryOutOrder 104 (.aload_n 1) 1 105 := ⟨by decide +kernel, rfl⟩
theorem dBook_carryOutOrder_105 : Dc mBook_carryOutOrder 105 (.invokevirtual 32) 3 108 := ⟨by decide +kernel, rfl⟩
theorem dBook_carryOutOrder_108 : Dc mBook_carryOutOrder 108 .pop 1 109 := ⟨by decide +kernel, rfl⟩
theorem dBook_carryOutOrder_109 : Db mBook_carryOutOrder 109 .goto 181 112 := ⟨72, by decide +kernel, by decide, rfl⟩
theorem dBook_carryOutOrder_112 : Dc mBook_carryOutOrder 112 (.aload_n 0) 1 113 := ⟨by decide +kernel, rfl⟩
theorem dBook_carryOutOrder_113 : Dc mBook_carryOutOrder 113 (.getfield 25) 3 116 := ⟨by decide +kernel, rfl⟩
theorem dBook_carryOutOrder_116 : Dc mBook_carryOutOrder 116 (.aload_n 0) 1 117 := ⟨by decide +kernel, rfl⟩
theorem dBook_carryOutOrder_117 : Dc mBook_carryOutOrder 117 (.getfield 25) 3 120 := ⟨by decide +kernel, rfl⟩
theorem dBook_carryOutOrder_120 : Dc mBook_carryOutOrder 120 (.aload_n 1) 1 121 := ⟨by decide +kernel, rfl⟩
theorem dBook_carryOutOrder_121 : Dc mBook_carryOutOrder 121 (.getfield 80) 3 124 := ⟨by decide +kernel, rfl⟩
theorem dBook_carryOutOrder_124 : Dc mBook_carryOutOrder 124 (.invokestatic 39) 3 127 := ⟨by decide +kernel, rfl⟩
theorem dBook_carryOutOrder_127 : Dc mBook_carryOutOrder 127 (.aload_n 1) 1 128 := ⟨by decide +kernel, rfl⟩
theorem dBook_carryOutOrder_128 : Dc mBook_carryOutOrder 128 (.invokevirtual 70) 3 131 := ⟨by decide +kernel, rfl⟩
theorem dBook_carryOutOrder_131 : Db mBook_carryOutOrder 131 .goto 181 134 := ⟨50, by decide +kernel, by decide, rfl⟩
theorem dBook_carryOutOrder_134 : Dc mBook_carryOutOrder 134 (.aload_n 0) 1 135 := ⟨by decide +kernel, rfl⟩
theorem dBook_carryOutOrder_135 : Dc mBook_carryOutOrder 135 (.getfield 25) 3 138 := ⟨by decide +kernel, rfl⟩
theorem dBook_carryOutOrder_138 : Dc mBook_carryOutOrder 138 (.aload_n 0) 1 139 := ⟨by decide +kernel, rfl⟩
theorem dBook_carryOutOrder_139 : Dc mBook_carryOutOrder 139 (.getfield 25) 3 142 := ⟨by decide +kernel, rfl⟩
theorem dBook_carryOutOrder_142 : Dc mBook_carryOutOrder 142 (.aload_n 1) 1 143 := ⟨by decide +kernel, rfl⟩
theorem dBook_carryOutOrder_143 : Dc mBook_carryOutOrder 143 (.getfield 80) 3 146 := ⟨by decide +kernel, rfl⟩
theorem dBook_carryOutOrder_146 : Dc mBook_carryOutOrder 146 (.invokestatic 39) 3 149 := ⟨by decide +kernel, rfl⟩
theorem dBook_carryOutOrder_149 : Dc mBook_carryOutOrder 149 (.iconst 1) 1 150 := ⟨by decide +kernel, rfl⟩
theorem dBook_carryOutOrder_150 : Dc mBook_carryOutOrder 150 .iadd 1 151 := ⟨by decide +kernel, rfl⟩
theorem dBook_carryOutOrder_151 : Dc mBook_carryOutOrder 151 (.aload_n 1) 1 152 := ⟨by decide +kernel, rfl⟩
theorem dBook_carryOutOrder_152 : Dc mBook_carryOutOrder 152 (.invokevirtual 70) 3 155 := ⟨by decide +kernel, rfl⟩
theorem dBook_carryOutOrder_155 : Db mBook_carryOutOrder 155 .goto 181 158 := ⟨26, by decide +kernel, by decide, rfl⟩
theorem dBook_carryOutOrder_158 : Dc mBook_carryOutOrder 158 (.aload_n 0) 1 159 := ⟨by decide +kernel, rfl⟩
theorem dBook_carryOutOrder_159 : Dc mBook_carryOutOrder 159 (.getfield 25) 3 162 := ⟨by decide +kernel, rfl⟩
theorem dBook_carryOutOrder_162 : Dc mBook_carryOutOrder 162 (.aload_n 0) 1 163 := ⟨by decide +kernel, rfl⟩
theorem dBook_carryOutOrder_163 : Dc mBook_carryOutOrder 163 (.getfield 25) 3 166 := ⟨by decide +kernel, rfl⟩
theorem dBook_carryOutOrder_166 : Dc mBook_carryOutOrder 166 (.aload_n 1) 1 167 := ⟨by decide +kernel, rfl⟩
theorem dBook_carryOutOrder_167 : Dc mBook_carryOutOrder 167 (.getfield 80) 3 170 := ⟨by decide +kernel, rfl⟩
theorem dBook_carryOutOrder_170 : Dc mBook_carryOutOrder 170 (.invokestatic 39) 3 173 := ⟨by decide +kernel, rfl⟩
theorem dBook_carryOutOrder_173 : Dc mBook_carryOutOrder 173 (.aload_n 1) 1 174 := ⟨by decide +kernel, rfl⟩
theorem dBook_carryOutOrder_174 : Dc mBook_carryOutOrder 174 (.invokevirtual 84) 3 177 := ⟨by decide +kernel, rfl⟩
theorem dBook_carryOutOrder_177 : Dc mBook_carryOutOrder 177 .pop 1 178 := ⟨by decide +kernel, rfl⟩
theorem dBook_carryOutOrder_178 : Db mBook_carryOutOrder 178 .goto 181 181 := ⟨3, by decide +kernel, by decide, rfl⟩
theorem dBook_carryOutOrder_181 : Dc mBook_carryOutOrder 181 .return_ 1 182 := ⟨by decide +kernel, rfl⟩
theorem dBook_placeIn_0 : Dc mBook_placeIn 0 (.iconst 0) 1 1 := ⟨by decide +kernel, rfl⟩
theorem dBook_placeIn_1 : Dc mBook_placeIn 1 (.istore_n 2) 1 2 := ⟨by decide +kernel, rfl⟩
theorem dBook_placeIn_2 : Dc mBook_placeIn 2 (.iload_n 2) 1 3 := ⟨by decide +kernel, rfl⟩
theorem dBook_placeIn_3 : Dc mBook_placeIn 3 (.aload_n 0) 1 4 := ⟨by decide +kernel, rfl⟩
theorem dBook_placeIn_4 : Dc mBook_placeIn 4 (.invokevirtual 50) 3 7 := ⟨by decide +kernel, rfl⟩
theorem dBook_placeIn_7 : Db mBook_placeIn 7 (.if_icmp .ge) 27 10 := ⟨20, by decide +kernel, by decide, rfl⟩
theorem dBook_placeIn_10 : Dc mBook_placeIn 10 (.aload_n 0) 1 11 := ⟨by decide +kernel, rfl⟩
theorem dBook_placeIn_11 : Dc mBook_placeIn 11 (.iload_n 2) 1 12 := ⟨by decide +kernel, rfl⟩
theorem dBook_placeIn_12 : Dc mBook_placeIn 12 (.invokevirtual 54) 3 15 := ⟨by decide +kernel, rfl⟩
theorem dBook_placeIn_15 : Dc mBook_placeIn 15 (.aload_n 1) 1 16 := ⟨by decide +kernel, rfl⟩
theorem dBook_placeIn_16 : Db mBook_placeIn 16 (.if_acmp .ne) 21 19 := ⟨5, by decide +kernel, by decide, rfl⟩
theorem dBook_placeIn_19 : Dc mBook_placeIn 19 (.iload_n 2) 1 20 := ⟨by decide +kernel, rfl⟩
theorem dBook_placeIn_20 : Dc mBook_placeIn 20 .ireturn 1 21 := ⟨by decide +kernel, rfl⟩
theorem dBook_placeIn_21 : Dc mBook_placeIn 21 (.iinc 2 1) 3 24 := ⟨by decide +kernel, rfl⟩
theorem dBook_placeIn_24 : Db mBook_placeIn 24 .goto 2 27 := ⟨(-22), by decide +kernel, by decide, rfl⟩
theorem dBook_placeIn_27 : Dc mBook_placeIn 27 (.iconst (-1)) 1 28 := ⟨by decide +kernel, rfl⟩
theorem dBook_placeIn_28 : Dc mBook_placeIn 28 .ireturn 1 29 := ⟨by decide +kernel, rfl⟩
theorem dX_isAboutAnother_0 : Dc mX_isAboutAnother 0 (.iload_n 0) 1 1 := ⟨by decide +kernel, rfl⟩
theorem dX_isAboutAnother_1 : Dc mX_isAboutAnother 1 (.iconst 2) 1 2 := ⟨by decide +kernel, rfl⟩
theorem dX_isAboutAnother_2 : Db mX_isAboutAnother 2 (.if_icmp .eq) 15 5 := ⟨13, by decide +kernel, by decide, rfl⟩
theorem dX_isAboutAnother_5 : Dc mX_isAboutAnother 5 (.iload_n 0) 1 6 := ⟨by decide +kernel, rfl⟩
theorem dX_isAboutAnother_6 : Dc mX_isAboutAnother 6 (.iconst 3) 1 7 := ⟨by decide +kernel, rfl⟩
theorem dX_isAboutAnother_7 : Db mX_isAboutAnother 7 (.if_icmp .eq) 15 10 := ⟨8, by decide +kernel, by decide, rfl⟩
theorem dX_isAboutAnother_10 : Dc mX_isAboutAnother 10 (.iload_n 0) 1 11 := ⟨by decide +kernel, rfl⟩
theorem dX_isAboutAnother_11 : Dc mX_isAboutAnother 11 (.iconst 4) 1 12 := ⟨by decide +kernel, rfl⟩
theorem dX_isAboutAnother_12 : Db mX_isAboutAnother 12 (.if_icmp .ne) 19 15 := ⟨7, by decide +kernel, by decide, rfl⟩
theorem dX_isAboutAnother_15 : Dc mX_isAboutAnother 15 (.iconst 1) 1 16 := ⟨by decide +kernel, rfl⟩
theorem dX_isAboutAnother_16 : Db mX_isAboutAnother 16 .goto 20 19 := ⟨4, by decide +kernel, by decide, rfl⟩
theorem dX_isAboutAnother_19 : Dc mX_isAboutAnother 19 (.iconst 0) 1 20 := ⟨by decide +kernel, rfl⟩
theorem dX_isAboutAnother_20 : Dc mX_isAboutAnother 20 .ireturn 1 21 := ⟨by decide +kernel, rfl⟩
theorem dX_condition_0 : Dc mX_condition 0 (.aload_n 0) 1 1 := ⟨by decide +kernel, rfl⟩
theorem dX_condition_1 : Dc mX_condition 1 (.iload_n 1) 1 2 := ⟨by decide +kernel, rfl⟩
theorem dX_condition_2 : Dc mX_condition 2 (.invokevirtual 135) 3 5 := ⟨by decide +kernel, rfl⟩
theorem dX_condition_5 : Dc mX_condition 5 (.astore 5) 2 7 := ⟨by decide +kernel, rfl⟩
theorem dX_condition_7 : Dc mX_condition 7 (.aload 5) 2 9 := ⟨by decide +kernel, rfl⟩
theorem dX_condition_9 : Db mX_condition 9 .ifnull 23 12 := ⟨14, by decide +kernel, by decide, rfl⟩
theorem dX_condition_12 : Dc mX_condition 12 (.aload_n 0) 1 13 := ⟨by decide +kernel, rfl⟩
theorem dX_condition_13 : Dc mX_condition 13 (.aload 5) 2 15 := ⟨by decide +kernel, rfl⟩
theorem dX_condition_15 : Dc mX_condition 15 (.iload_n 2) 1 16 := ⟨by decide +kernel, rfl⟩
theorem dX_condition_16 : Dc mX_condition 16 (.iload_n 3) 1 17 := ⟨by decide +kernel, rfl⟩
theorem dX_condition_17 : Dc mX_condition 17 (.invokevirtual 139) 3 20 := ⟨by decide +kernel, rfl⟩
theorem dX_condition_20 : Db mX_condition 20 (.ifCond .ne) 25 23 := ⟨5, by decide +kernel, by decide, rfl⟩
theorem dX_condition_23 : Dc mX_condition 23 (.iconst (-1)) 1 24 := ⟨by decide +kernel, rfl⟩
theorem dX_condition_24 : Dc mX_condition 24 .ireturn 1 25 := ⟨by decide +kernel, rfl⟩
theorem dX_condition_25 : Dc mX_condition 25 (.aload 5) 2 27 := ⟨by decide +kernel, rfl⟩
theorem dX_condition_27 : Dc mX_condition 27 (.getfield 143) 3 30 := ⟨by decide +kernel, rfl⟩
theorem dX_condition_30 : Dc mX_condition 30 (.invokevirtual 91) 3 33 := ⟨by decide +kernel, rfl⟩
theorem dX_condition_33 : Dc mX_condition 33 (.iconst 4) 1 34 := ⟨by decide +kernel, rfl⟩
theorem dX_condition_34 : Db mX_condition 34 (.if_icmp .lt) 40 37 := ⟨6, by decide +kernel, by decide, rfl⟩
theorem dX_condition_37 : Dc mX_condition 37 (.bipush (-3)) 2 39 := ⟨by decide +kernel, rfl⟩
theorem dX_condition_39 : Dc mX_condition 39 .ireturn 1 40 := ⟨by decide +kernel, rfl⟩
theorem dX_condition_40 : Dc mX_condition 40 (.aload 5) 2 42 := ⟨by decide +kernel, rfl⟩
theorem dX_condition_42 : Dc mX_condition 42 (.getfield 143) 3 45 := ⟨by decide +kernel, rfl⟩
theorem dX_condition_45 : Dc mX_condition 45 (.new 146) 3 48 := ⟨by decide +kernel, rfl⟩
theorem dX_condition_48 : Dc mX_condition 48 .dup 1 49 := ⟨by decide +kernel, rfl⟩
theorem dX_condition_49 : Dc mX_condition 49 (.iload_n 2) 1 50 := ⟨by decide +kernel, rfl⟩
theorem dX_condition_50 : Dc mX_condition 50 (.iload_n 3) 1 51 := ⟨by decide +kernel, rfl⟩
theorem dX_condition_51 : Dc mX_condition 51 (.iload 4) 2 53 := ⟨by decide +kernel, rfl⟩
theorem dX_condition_53 : Dc mX_condition 53 (.invokespecial 148) 3 56 := ⟨by decide +kernel, rfl⟩
theorem dX_condition_56 : Dc mX_condition 56 (.invokevirtual 100) 3 59 := ⟨by decide +kernel, rfl⟩
theorem dX_condition_59 : Dc mX_condition 59 .pop 1 60 := ⟨by decide +kernel, rfl⟩
theorem dX_condition_60 : Dc mX_condition 60 (.iload_n 2) 1 61 := ⟨by decide +kernel, rfl⟩
theorem dX_condition_61 : Db mX_condition 61 (.ifCond .ne) 82 64 := ⟨21, by decide +kernel, by decide, rfl⟩
theorem dX_condition_64 : Dc mX_condition 64 (.aload 5) 2 66 := ⟨by decide +kernel, rfl⟩
theorem dX_condition_66 : Dc mX_condition 66 .dup 1 67 := ⟨by decide +kernel, rfl⟩
theorem dX_condition_67 : Dc mX_condition 67 (.getfield 151) 3 70 := ⟨by decide +kernel, rfl⟩
theorem dX_condition_70 : Dc mX_condition 70 (.aload_n 0) 1 71 := ⟨by decide +kernel, rfl⟩
theorem dX_condition_71 : Dc mX_condition 71 (.getfield 10) 3 74 := ⟨by decide +kernel, rfl⟩
theorem dX_condition_74 : Dc mX_condition 74 (.iload_n 3) 1 75 := ⟨by decide +kernel, rfl⟩
theorem dX_condition_75 : Dc mX_condition 75 (.invokevirtual 154) 3 78 := ⟨by decide +kernel, rfl⟩
theorem dX_condition_78 : Dc mX_condition 78 .iadd 1 79 := ⟨by decide +kernel, rfl⟩
theorem dX_condition_79 : Dc mX_condition 79 (.putfield 151) 3 82 := ⟨by decide +kernel, rfl⟩
theorem dX_condition_82 : Dc mX_condition 82 (.aload 5) 2 84 := ⟨by decide +kernel, rfl⟩
theorem dX_condition_84 : Dc mX_condition 84 (.getfield 157) 3 87 := ⟨by decide +kernel, rfl⟩
theorem dX_condition_87 : Dc mX_condition 87 (.invokevirtual 161) 3 90 := ⟨by decide +kernel, rfl⟩
theorem dX_condition_90 : Dc mX_condition 90 (.aload 5) 2 92 := ⟨by decide +kernel, rfl⟩
theorem dX_condition_92 : Dc mX_condition 92 (.getfield 143) 3 95 := ⟨by decide +kernel, rfl⟩
theorem dX_condition_95 : Dc mX_condition 95 (.invokevirtual 91) 3 98 := ⟨by decide +kernel, rfl⟩
theorem dX_condition_98 : Dc mX_condition 98 .ireturn 1 99 := ⟨by decide +kernel, rfl⟩
theorem dX_ruleAt_0 : Dc mX_ruleAt 0 (.iload_n 1) 1 1 := ⟨by decide +kernel, rfl⟩
theorem dX_ruleAt_1 : Db mX_ruleAt 1 (.ifCond .lt) 29 4 := ⟨28, by decide +kernel, by decide, rfl⟩
theorem dX_ruleAt_4 : Dc mX_ruleAt 4 (.iload_n 1) 1 5 := ⟨by decide +kernel, rfl⟩
theorem dX_ruleAt_5 : Dc mX_ruleAt 5 (.aload_n 0) 1 6 := ⟨by decide +kernel, rfl⟩
theorem dX_ruleAt_6 : Dc mX_ruleAt 6 (.getfield 26) 3 9 := ⟨by decide +kernel, rfl⟩
theorem dX_ruleAt_9 : Dc mX_ruleAt 9 (.invokevirtual 91) 3 12 := ⟨by decide +kernel, rfl⟩
theorem dX_ruleAt_12 : Db mX_ruleAt 12 (.if_icmp .ge) 29 15 := ⟨17, by decide +kernel, by decide, rfl⟩
theorem dX_ruleAt_15 : Dc mX_ruleAt 15 (.aload_n 0) 1 16 := ⟨by decide +kernel, rfl⟩
theorem dX_ruleAt_16 : Dc mX_ruleAt 16 (.getfield 26) 3 19 := ⟨by decide +kernel, rfl⟩
theorem dX_ruleAt_19 : Dc mX_ruleAt 19 (.iload_n 1) 1 20 := ⟨by decide +kernel, rfl⟩
theorem dX_ruleAt_20 : Dc mX_ruleAt 20 (.invokevirtual 194) 3 23 := ⟨by decide +kernel, rfl⟩
theorem dX_ruleAt_23 : Dc mX_ruleAt 23 (.checkcast 123) 3 26 := ⟨by decide +kernel, rfl⟩
theorem dX_ruleAt_26 : Db mX_ruleAt 26 .goto 30 29 := ⟨4, by decide +kernel, by decide, rfl⟩
theorem dX_ruleAt_29 : Dc mX_ruleAt 29 .aconst_null 1 30 := ⟨by decide +kernel, rfl⟩
theorem dX_ruleAt_30 : Dc mX_ruleAt 30 .areturn 1 31 := ⟨by decide +kernel, rfl⟩
theorem dX_isConditionOf_0 : Dc mX_isConditionOf 0 (.iload_n 2) 1 1 := ⟨by decide +kernel, rfl⟩
theorem dX_isConditionOf_1 : Dc mX_isConditionOf 1 (.bipush 10) 2 3 := ⟨by decide +kernel, rfl⟩
theorem dX_isConditionOf_3 : Db mX_isConditionOf 3 (.if_icmp .lt) 13 6 := ⟨10, by decide +kernel, by decide, rfl⟩
theorem dX_isConditionOf_6 : Dc mX_isConditionOf 6 (.iload_n 2) 1 7 := ⟨by decide +kernel, rfl⟩
theorem dX_isConditionOf_7 : Dc mX_isConditionOf 7 (.bipush 10) 2 9 := ⟨by decide +kernel, rfl⟩
theorem dX_isConditionOf_9 : Dc mX_isConditionOf 9 .isub 1 10 := ⟨by decide +kernel, rfl⟩
theorem dX_isConditionOf_10 : Db mX_isConditionOf 10 .goto 14 13 := ⟨4, by decide +kernel, by decide, rfl⟩
theorem dX_isConditionOf_13 : Dc mX_isConditionOf 13 (.iload_n 2) 1 14 := ⟨by decide +kernel, rfl⟩
theorem dX_isConditionOf_14 : Dc mX_isConditionOf 14 (.tableswitch (95) (0) (6) #[42, 51, 51, 51, 51, 56, 65]) 42 56 := ⟨by decide +kernel, rfl⟩
theorem dX_isConditionOf_56 : Dc mX_isConditionOf 56 (.aload_n 0) 1 57 := ⟨by decide +kernel, rfl⟩
theorem dX_isConditionOf_57 : Dc mX_isConditionOf 57 (.getfield 10) 3 60 := ⟨by decide +kernel, rfl⟩
theorem dX_isConditionOf_60 : Dc mX_isConditionOf 60 (.iload_n 3) 1 61 := ⟨by decide +kernel, rfl⟩
theorem dX_isConditionOf_61 : Dc mX_isConditionOf 61 (.invokevirtual 75) 3 64 := ⟨by decide +kernel, rfl⟩
theorem dX_isConditionOf_64 : Dc mX_isConditionOf 64 .ireturn 1 65 := ⟨by decide +kernel, rfl⟩
theorem dX_isConditionOf_65 : Dc mX_isConditionOf 65 (.iload_n 3) 1 66 := ⟨by decide +kernel, rfl⟩
theorem dX_isConditionOf_66 : Dc mX_isConditionOf 66 (.invokestatic 107) 3 69 := ⟨by decide +kernel, rfl⟩
theorem dX_isConditionOf_69 : Dc mX_isConditionOf 69 .ireturn 1 70 := ⟨by decide +kernel, rfl⟩
theorem dX_isConditionOf_70 : Dc mX_isConditionOf 70 (.aload_n 0) 1 71 := ⟨by decide +kernel, rfl⟩
theorem dX_isConditionOf_71 : Dc mX_isConditionOf 71 (.getfield 49) 3 74 := ⟨by decide +kernel, rfl⟩
theorem dX_isConditionOf_74 : Dc mX_isConditionOf 74 (.iload_n 3) 1 75 := ⟨by decide +kernel, rfl⟩
theorem dX_isConditionOf_75 : Dc mX_isConditionOf 75 (.invokevirtual 164) 3 78 := ⟨by decide +kernel, rfl⟩
theorem dX_isConditionOf_78 : Dc mX_isConditionOf 78 .ireturn 1 79 := ⟨by decide +kernel, rfl⟩
theorem dX_isConditionOf_79 : Dc mX_isConditionOf 79 (.aload_n 0) 1 80 := ⟨by decide +kernel, rfl⟩
theorem dX_isConditionOf_80 : Dc mX_isConditionOf 80 (.iload_n 3) 1 81 := ⟨by decide +kernel, rfl⟩
theorem dX_isConditionOf_81 : Dc mX_isConditionOf 81 (.invokevirtual 135) 3 84 := ⟨by decide +kernel, rfl⟩
theorem dX_isConditionOf_84 : Dc mX_isConditionOf 84 (.astore 4) 2 86 := ⟨by decide +kernel, rfl⟩
theorem dX_isConditionOf_86 : Dc mX_isConditionOf 86 (.aload 4) 2 88 := ⟨by decide +kernel, rfl⟩
theorem dX_isConditionOf_88 : Db mX_isConditionOf 88 .ifnull 107 91 := ⟨19, by decide +kernel, by decide, rfl⟩
theorem dX_isConditionOf_91 : Dc mX_isConditionOf 91 (.aload 4) 2 93 := ⟨by decide +kernel, rfl⟩
theorem dX_isConditionOf_93 : Dc mX_isConditionOf 93 (.getfield 157) 3 96 := ⟨by decide +kernel, rfl⟩
theorem dX_isConditionOf_96 : Dc mX_isConditionOf 96 (.aload_n 1) 1 97 := ⟨by decide +kernel, rfl⟩
theorem dX_isConditionOf_97 : Dc mX_isConditionOf 97 (.getfield 157) 3 100 := ⟨by decide +kernel, rfl⟩
theorem dX_isConditionOf_100 : Db mX_isConditionOf 100 (.if_acmp .ne) 107 103 := ⟨7, by decide +kernel, by decide, rfl⟩
theorem dX_isConditionOf_103 : Dc mX_isConditionOf 103 (.iconst 1) 1 104 := ⟨by decide +kernel, rfl⟩
theorem dX_isConditionOf_104 : Db mX_isConditionOf 104 .goto 108 107 := ⟨4, by decide +kernel, by decide, rfl⟩
theorem dX_isConditionOf_107 : Dc mX_isConditionOf 107 (.iconst 0) 1 108 := ⟨by decide +kernel, rfl⟩
theorem dX_isConditionOf_108 : Dc mX_isConditionOf 108 .ireturn 1 109 := ⟨by decide +kernel, rfl⟩
theorem dX_isConditionOf_109 : Dc mX_isConditionOf 109 (.iconst 0) 1 110 := ⟨by decide +kernel, rfl⟩
theorem dX_isConditionOf_110 : Dc mX_isConditionOf 110 .ireturn 1 111 := ⟨by decide +kernel, rfl⟩
theorem dScs_has_0 : Dc mScs_has 0 (.iload_n 1) 1 1 := ⟨by decide +kernel, rfl⟩
theorem dScs_has_1 : Db mScs_has 1 (.ifCond .lt) 19 4 := ⟨18, by decide +kernel, by decide, rfl⟩
theorem dScs_has_4 : Dc mScs_has 4 (.iload_n 1) 1 5 := ⟨by decide +kernel, rfl⟩
theorem dScs_has_5 : Dc mScs_has 5 (.aload_n 0) 1 6 := ⟨by decide +kernel, rfl⟩
theorem dScs_has_6 : Dc mScs_has 6 (.getfield 12) 3 9 := ⟨by decide +kernel, rfl⟩
theorem dScs_has_9 : Dc mScs_has 9 (.invokevirtual 25) 3 12 := ⟨by decide +kernel, rfl⟩
theorem dScs_has_12 : Db mScs_has 12 (.if_icmp .ge) 19 15 := ⟨7, by decide +kernel, by decide, rfl⟩
theorem dScs_has_15 : Dc mScs_has 15 (.iconst 1) 1 16 := ⟨by decide +kernel, rfl⟩
theorem dScs_has_16 : Db mScs_has 16 .goto 20 19 := ⟨4, by decide +kernel, by decide, rfl⟩
theorem dScs_has_19 : Dc mScs_has 19 (.iconst 0) 1 20 := ⟨by decide +kernel, rfl⟩
theorem dScs_has_20 : Dc mScs_has 20 .ireturn 1 21 := ⟨by decide +kernel, rfl⟩
theorem dCond_init_0 : Dc mCond_init 0 (.aload_n 0) 1 1 := ⟨by decide +kernel, rfl⟩
theorem dCond_init_1 : Dc mCond_init 1 (.invokespecial 3) 3 4 := ⟨by decide +kernel, rfl⟩
theorem dCond_init_4 : Dc mCond_init 4 (.aload_n 0) 1 5 := ⟨by decide +kernel, rfl⟩
theorem dCond_init_5 : Dc mCond_init 5 (.iload_n 1) 1 6 := ⟨by decide +kernel, rfl⟩
theorem dCond_init_6 : Dc mCond_init 6 (.bipush 10) 2 8 := ⟨by decide +kernel, rfl⟩
theorem dCond_init_8 : Db mCond_init 8 (.if_icmp .lt) 15 11 := ⟨7, by decide +kernel, by decide, rfl⟩
theorem dCond_init_11 : Dc mCond_init 11 (.iconst 1) 1 12 := ⟨by decide +kernel, rfl⟩
theorem dCond_init_12 : Db mCond_init 12 .goto 16 15 := ⟨4, by decide +kernel, by decide, rfl⟩
theorem dCond_init_15 : Dc mCond_init 15 (.iconst 0) 1 16 := ⟨by decide +kernel, rfl⟩
theorem dCond_init_16 : Dc mCond_init 16 (.putfield 9) 3 19 := ⟨by decide +kernel, rfl⟩
theorem dCond_init_19 : Dc mCond_init 19 (.aload_n 0) 1 20 := ⟨by decide +kernel, rfl⟩
theorem dCond_init_20 : Dc mCond_init 20 (.aload_n 0) 1 21 := ⟨by decide +kernel, rfl⟩
theorem dCond_init_21 : Dc mCond_init 21 (.getfield 9) 3 24 := ⟨by decide +kernel, rfl⟩
theorem dCond_init_24 : Db mCond_init 24 (.ifCond .eq) 34 27 := ⟨10, by decide +kernel, by decide, rfl⟩
theorem dCond_init_27 : Dc mCond_init 27 (.iload_n 1) 1 28 := ⟨by decide +kernel, rfl⟩
theorem dCond_init_28 : Dc mCond_init 28 (.bipush 10) 2 30 := ⟨by decide +kernel, rfl⟩
theorem dCond_init_30 : Dc mCond_init 30 .isub 1 31 := ⟨by decide +kernel, rfl⟩
theorem dCond_init_31 : Db mCond_init 31 .goto 35 34 := ⟨4, by decide +kernel, by decide, rfl⟩
theorem dCond_init_34 : Dc mCond_init 34 (.iload_n 1) 1 35 := ⟨by decide +kernel, rfl⟩
theorem dCond_init_35 : Dc mCond_init 35 (.putfield 15) 3 38 := ⟨by decide +kernel, rfl⟩
theorem dCond_init_38 : Dc mCond_init 38 (.aload_n 0) 1 39 := ⟨by decide +kernel, rfl⟩
theorem dCond_init_39 : Dc mCond_init 39 (.iload_n 2) 1 40 := ⟨by decide +kernel, rfl⟩
theorem dCond_init_40 : Dc mCond_init 40 (.putfield 19) 3 43 := ⟨by decide +kernel, rfl⟩
theorem dCond_init_43 : Dc mCond_init 43 (.aload_n 0) 1 44 := ⟨by decide +kernel, rfl⟩
theorem dCond_init_44 : Dc mCond_init 44 (.iload_n 3) 1 45 := ⟨by decide +kernel, rfl⟩
theorem dCond_init_45 : Dc mCond_init 45 (.putfield 22) 3 48 := ⟨by decide +kernel, rfl⟩
theorem dCond_init_48 : Dc mCond_init 48 .return_ 1 49 := ⟨by decide +kernel, rfl⟩
theorem dKinds_deepOf_0 : Dc mKinds_deepOf 0 (.aload_n 0) 1 1 := ⟨by decide +kernel, rfl⟩
theorem dKinds_deepOf_1 : Dc mKinds_deepOf 1 (.getfield 15) 3 4 := ⟨by decide +kernel, rfl⟩
theorem dKinds_deepOf_4 : Dc mKinds_deepOf 4 (.iload_n 1) 1 5 := ⟨by decide +kernel, rfl⟩
theorem dKinds_deepOf_5 : Dc mKinds_deepOf 5 .iaload 1 6 := ⟨by decide +kernel, rfl⟩
theorem dKinds_deepOf_6 : Dc mKinds_deepOf 6 .ireturn 1 7 := ⟨by decide +kernel, rfl⟩
theorem dX_does_0 : Dc mX_does 0 (.aload_n 0) 1 1 := ⟨by decide +kernel, rfl⟩
theorem dX_does_1 : Dc mX_does 1 (.iload_n 1) 1 2 := ⟨by decide +kernel, rfl⟩
theorem dX_does_2 : Dc mX_does 2 (.invokevirtual 135) 3 5 := ⟨by decide +kernel, rfl⟩
theorem dX_does_5 : Dc mX_does 5 (.astore 5) 2 7 := ⟨by decide +kernel, rfl⟩
theorem dX_does_7 : Dc mX_does 7 (.aload 5) 2 9 := ⟨by decide +kernel, rfl⟩
theorem dX_does_9 : Db mX_does 9 .ifnull 23 12 := ⟨14, by decide +kernel, by decide, rfl⟩
theorem dX_does_12 : Dc mX_does 12 (.aload_n 0) 1 13 := ⟨by decide +kernel, rfl⟩
theorem dX_does_13 : Dc mX_does 13 (.iload_n 2) 1 14 := ⟨by decide +kernel, rfl⟩
theorem dX_does_14 : Dc mX_does 14 (.iload_n 3) 1 15 := ⟨by decide +kernel, rfl⟩
theorem dX_does_15 : Dc mX_does 15 (.iload 4) 2 17 := ⟨by decide +kernel, rfl⟩
theorem dX_does_17 : Dc mX_does 17 (.invokevirtual 165) 3 20 := ⟨by decide +kernel, rfl⟩
theorem dX_does_20 : Db mX_does 20 (.ifCond .ne) 25 23 := ⟨5, by decide +kernel, by decide, rfl⟩
theorem dX_does_23 : Dc mX_does 23 (.iconst (-1)) 1 24 := ⟨by decide +kernel, rfl⟩
theorem dX_does_24 : Dc mX_does 24 .ireturn 1 25 := ⟨by decide +kernel, rfl⟩
theorem dX_does_25 : Dc mX_does 25 (.aload 5) 2 27 := ⟨by decide +kernel, rfl⟩
theorem dX_does_27 : Dc mX_does 27 (.iload_n 2) 1 28 := ⟨by decide +kernel, rfl⟩
theorem dX_does_28 : Dc mX_does 28 (.putfield 169) 3 31 := ⟨by decide +kernel, rfl⟩
theorem dX_does_31 : Dc mX_does 31 (.aload 5) 2 33 := ⟨by decide +kernel, rfl⟩
theorem dX_does_33 : Dc mX_does 33 (.iload_n 3) 1 34 := ⟨by decide +kernel, rfl⟩
theorem dX_does_34 : Dc mX_does 34 (.putfield 172) 3 37 := ⟨by decide +kernel, rfl⟩
theorem dX_does_37 : Dc mX_does 37 (.aload 5) 2 39 := ⟨by decide +kernel, rfl⟩
theorem dX_does_39 : Dc mX_does 39 (.iload 4) 2 41 := ⟨by decide +kernel, rfl⟩
theorem dX_does_41 : Dc mX_does 41 (.putfield 175) 3 44 := ⟨by decide +kernel, rfl⟩
theorem dX_does_44 : Dc mX_does 44 (.iconst 0) 1 45 := ⟨by decide +kernel, rfl⟩
theorem dX_does_45 : Dc mX_does 45 .ireturn 1 46 := ⟨by decide +kernel, rfl⟩
theorem dX_isDeed_0 : Dc mX_isDeed 0 (.iload_n 1) 1 1 := ⟨by decide +kernel, rfl⟩
theorem dX_isDeed_1 : Dc mX_isDeed 1 (.tableswitch (109) (0) (8) #[51, 53, 70, 70, 75, 95, 95, 51, 75]) 51 52 := ⟨by decide +kernel, rfl⟩
theorem dX_isDeed_52 : Dc mX_isDeed 52 (.iconst 1) 1 53 := ⟨by decide +kernel, rfl⟩
theorem dX_isDeed_53 : Dc mX_isDeed 53 .ireturn 1 54 := ⟨by decide +kernel, rfl⟩
theorem dX_isDeed_54 : Dc mX_isDeed 54 (.iload_n 2) 1 55 := ⟨by decide +kernel, rfl⟩
theorem dX_isDeed_55 : Dc mX_isDeed 55 (.iconst 1) 1 56 := ⟨by decide +kernel, rfl⟩
theorem dX_isDeed_56 : Db mX_isDeed 56 (.if_icmp .lt) 69 59 := ⟨13, by decide +kernel, by decide, rfl⟩
theorem dX_isDeed_59 : Dc mX_isDeed 59 (.iload_n 2) 1 60 := ⟨by decide +kernel, rfl⟩
theorem dX_isDeed_60 : Dc mX_isDeed 60 (.bipush 99) 2 62 := ⟨by decide +kernel, rfl⟩
theorem dX_isDeed_62 : Db mX_isDeed 62 (.if_icmp .gt) 69 65 := ⟨7, by decide +kernel, by decide, rfl⟩
theorem dX_isDeed_65 : Dc mX_isDeed 65 (.iconst 1) 1 66 := ⟨by decide +kernel, rfl⟩
theorem dX_isDeed_66 : Db mX_isDeed 66 .goto 70 69 := ⟨4, by decide +kernel, by decide, rfl⟩
theorem dX_isDeed_69 : Dc mX_isDeed 69 (.iconst 0) 1 70 := ⟨by decide +kernel, rfl⟩
theorem dX_isDeed_70 : Dc mX_isDeed 70 .ireturn 1 71 := ⟨by decide +kernel, rfl⟩
theorem dX_isDeed_71 : Dc mX_isDeed 71 (.iload_n 2) 1 72 := ⟨by decide +kernel, rfl⟩
theorem dX_isDeed_72 : Dc mX_isDeed 72 (.invokestatic 107) 3 75 := ⟨by decide +kernel, rfl⟩
theorem dX_isDeed_75 : Dc mX_isDeed 75 .ireturn 1 76 := ⟨by decide +kernel, rfl⟩
theorem dX_isDeed_76 : Dc mX_isDeed 76 (.iload_n 2) 1 77 := ⟨by decide +kernel, rfl⟩
theorem dX_isDeed_77 : Dc mX_isDeed 77 (.invokestatic 107) 3 80 := ⟨by decide +kernel, rfl⟩
theorem dX_isDeed_80 : Db mX_isDeed 80 (.ifCond .eq) 94 83 := ⟨14, by decide +kernel, by decide, rfl⟩
theorem dX_isDeed_83 : Dc mX_isDeed 83 (.iload_n 3) 1 84 := ⟨by decide +kernel, rfl⟩
theorem dX_isDeed_84 : Dc mX_isDeed 84 (.invokestatic 107) 3 87 := ⟨by decide +kernel, rfl⟩
theorem dX_isDeed_87 : Db mX_isDeed 87 (.ifCond .eq) 94 90 := ⟨7, by decide +kernel, by decide, rfl⟩
theorem dX_isDeed_90 : Dc mX_isDeed 90 (.iconst 1) 1 91 := ⟨by decide +kernel, rfl⟩
theorem dX_isDeed_91 : Db mX_isDeed 91 .goto 95 94 := ⟨4, by decide +kernel, by decide, rfl⟩
theorem dX_isDeed_94 : Dc mX_isDeed 94 (.iconst 0) 1 95 := ⟨by decide +kernel, rfl⟩
theorem dX_isDeed_95 : Dc mX_isDeed 95 .ireturn 1 96 := ⟨by decide +kernel, rfl⟩
theorem dX_isDeed_96 : Dc mX_isDeed 96 (.aload_n 0) 1 97 := ⟨by decide +kernel, rfl⟩
theorem dX_isDeed_97 : Dc mX_isDeed 97 (.iload_n 2) 1 98 := ⟨by decide +kernel, rfl⟩
theorem dX_isDeed_98 : Dc mX_isDeed 98 (.invokevirtual 116) 3 101 := ⟨by decide +kernel, rfl⟩
theorem dX_isDeed_101 : Db mX_isDeed 101 .ifnull 108 104 := ⟨7, by decide +kernel, by decide, rfl⟩
theorem dX_isDeed_104 : Dc mX_isDeed 104 (.iconst 1) 1 105 := ⟨by decide +kernel, rfl⟩
theorem dX_isDeed_105 : Db mX_isDeed 105 .goto 109 108 := ⟨4, by decide +kernel, by decide, rfl⟩
theorem dX_isDeed_108 : Dc mX_isDeed 108 (.iconst 0) 1 109 := ⟨by decide +kernel, rfl⟩
theorem dX_isDeed_109 : Dc mX_isDeed 109 .ireturn 1 110 := ⟨by decide +kernel, rfl⟩
theorem dX_isDeed_110 : Dc mX_isDeed 110 (.iconst 0) 1 111 := ⟨by decide +kernel, rfl⟩
theorem dX_isDeed_111 : Dc mX_isDeed 111 .ireturn 1 112 := ⟨by decide +kernel, rfl⟩
theorem dX_order_0 : Dc mX_order 0 (.aload_n 0) 1 1 := ⟨by decide +kernel, rfl⟩
theorem dX_order_1 : Dc mX_order 1 (.iload_n 1) 1 2 := ⟨by decide +kernel, rfl⟩
theorem dX_order_2 : Dc mX_order 2 (.invokevirtual 135) 3 5 := ⟨by decide +kernel, rfl⟩
theorem dX_order_5 : Dc mX_order 5 (.astore 4) 2 7 := ⟨by decide +kernel, rfl⟩
theorem dX_order_7 : Dc mX_order 7 (.aload 4) 2 9 := ⟨by decide +kernel, rfl⟩
theorem dX_order_9 : Db mX_order 9 .ifnull 21 12 := ⟨12, by decide +kernel, by decide, rfl⟩
theorem dX_order_12 : Dc mX_order 12 (.iload_n 2) 1 13 := ⟨by decide +kernel, rfl⟩
theorem dX_order_13 : Db mX_order 13 (.ifCond .lt) 21 16 := ⟨8, by decide +kernel, by decide, rfl⟩
theorem dX_order_16 : Dc mX_order 16 (.iload_n 2) 1 17 := ⟨by decide +kernel, rfl⟩
theorem dX_order_17 : Dc mX_order 17 (.iconst 5) 1 18 := ⟨by decide +kernel, rfl⟩
theorem dX_order_18 : Db mX_order 18 (.if_icmp .le) 23 21 := ⟨5, by decide +kernel, by decide, rfl⟩
theorem dX_order_21 : Dc mX_order 21 (.iconst (-1)) 1 22 := ⟨by decide +kernel, rfl⟩
theorem dX_order_22 : Dc mX_order 22 .ireturn 1 23 := ⟨by decide +kernel, rfl⟩
theorem dX_order_23 : Dc mX_order 23 (.iload_n 2) 1 24 := ⟨by decide +kernel, rfl⟩
theorem dX_order_24 : Dc mX_order 24 (.invokestatic 178) 3 27 := ⟨by decide +kernel, rfl⟩
theorem dX_order_27 : Db mX_order 27 (.ifCond .eq) 38 30 := ⟨11, by decide +kernel, by decide, rfl⟩
theorem dX_order_30 : Dc mX_order 30 (.aload_n 0) 1 31 := ⟨by decide +kernel, rfl⟩
theorem dX_order_31 : Dc mX_order 31 (.iload_n 3) 1 32 := ⟨by decide +kernel, rfl⟩
theorem dX_order_32 : Dc mX_order 32 (.invokevirtual 135) 3 35 := ⟨by decide +kernel, rfl⟩
theorem dX_order_35 : Db mX_order 35 .goto 39 38 := ⟨4, by decide +kernel, by decide, rfl⟩
theorem dX_order_38 : Dc mX_order 38 .aconst_null 1 39 := ⟨by decide +kernel, rfl⟩
theorem dX_order_39 : Dc mX_order 39 (.astore 5) 2 41 := ⟨by decide +kernel, rfl⟩
theorem dX_order_41 : Dc mX_order 41 (.iload_n 2) 1 42 := ⟨by decide +kernel, rfl⟩
theorem dX_order_42 : Dc mX_order 42 (.invokestatic 178) 3 45 := ⟨by decide +kernel, rfl⟩
theorem dX_order_45 : Db mX_order 45 (.ifCond .eq) 75 48 := ⟨30, by decide +kernel, by decide, rfl⟩
theorem dX_order_48 : Dc mX_order 48 (.aload 5) 2 50 := ⟨by decide +kernel, rfl⟩
theorem dX_order_50 : Db mX_order 50 .ifnull 73 53 := ⟨23, by decide +kernel, by decide, rfl⟩
theorem dX_order_53 : Dc mX_order 53 (.aload 5) 2 55 := ⟨by decide +kernel, rfl⟩
theorem dX_order_55 : Dc mX_order 55 (.aload 4) 2 57 := ⟨by decide +kernel, rfl⟩
theorem dX_order_57 : Db mX_order 57 (.if_acmp .eq) 73 60 := ⟨16, by decide +kernel, by decide, rfl⟩
theorem dX_order_60 : Dc mX_order 60 (.aload 5) 2 62 := ⟨by decide +kernel, rfl⟩
theorem dX_order_62 : Dc mX_order 62 (.getfield 157) 3 65 := ⟨by decide +kernel, rfl⟩
theorem dX_order_65 : Dc mX_order 65 (.aload 4) 2 67 := ⟨by decide +kernel, rfl⟩
theorem dX_order_67 : Dc mX_order 67 (.getfield 157) 3 70 := ⟨by decide +kernel, rfl⟩
theorem dX_order_70 : Db mX_order 70 (.if_acmp .eq) 75 73 := ⟨5, by decide +kernel, by decide, rfl⟩
theorem dX_order_73 : Dc mX_order 73 (.iconst (-1)) 1 74 := ⟨by decide +kernel, rfl⟩
theorem dX_order_74 : Dc mX_order 74 .ireturn 1 75 := ⟨by decide +kernel, rfl⟩
theorem dX_order_75 : Dc mX_order 75 (.aload 4) 2 77 := ⟨by decide +kernel, rfl⟩
theorem dX_order_77 : Dc mX_order 77 (.iload_n 2) 1 78 := ⟨by decide +kernel, rfl⟩
theorem dX_order_78 : Dc mX_order 78 (.putfield 181) 3 81 := ⟨by decide +kernel, rfl⟩
theorem dX_order_81 : Dc mX_order 81 (.aload 4) 2 83 := ⟨by decide +kernel, rfl⟩
theorem dX_order_83 : Dc mX_order 83 (.aload 5) 2 85 := ⟨by decide +kernel, rfl⟩
theorem dX_order_85 : Dc mX_order 85 (.putfield 184) 3 88 := ⟨by decide +kernel, rfl⟩
theorem dX_order_88 : Dc mX_order 88 (.aload 4) 2 90 := ⟨by decide +kernel, rfl⟩
theorem dX_order_90 : Dc mX_order 90 (.getfield 157) 3 93 := ⟨by decide +kernel, rfl⟩
theorem dX_order_93 : Dc mX_order 93 (.aload 4) 2 95 := ⟨by decide +kernel, rfl⟩
theorem dX_order_95 : Dc mX_order 95 (.invokevirtual 188) 3 98 := ⟨by decide +kernel, rfl⟩
theorem dX_order_98 : Dc mX_order 98 (.iconst 0) 1 99 := ⟨by decide +kernel, rfl⟩
theorem dX_order_99 : Dc mX_order 99 .ireturn 1 100 := ⟨by decide +kernel, rfl⟩
theorem dBook_takeOrder_0 : Dc mBook_takeOrder 0 (.aload_n 0) 1 1 := ⟨by decide +kernel, rfl⟩
theorem dBook_takeOrder_1 : Dc mBook_takeOrder 1 (.getfield 22) 3 4 := ⟨by decide +kernel, rfl⟩
theorem dBook_takeOrder_4 : Dc mBook_takeOrder 4 (.aload_n 1) 1 5 := ⟨by decide +kernel, rfl⟩
theorem dBook_takeOrder_5 : Dc mBook_takeOrder 5 (.invokestatic 39) 3 8 := ⟨by decide +kernel, rfl⟩
theorem dBook_takeOrder_8 : Dc mBook_takeOrder 8 (.istore_n 2) 1 9 := ⟨by decide +kernel, rfl⟩
theorem dBook_takeOrder_9 : Dc mBook_takeOrder 9 (.iload_n 2) 1 10 := ⟨by decide +kernel, rfl⟩
theorem dBook_takeOrder_10 : Dc mBook_takeOrder 10 (.iconst (-1)) 1 11 := ⟨by decide +kernel, rfl⟩
theorem dBook_takeOrder_11 : Db mBook_takeOrder 11 (.if_icmp .eq) 23 14 := ⟨12, by decide +kernel, by decide, rfl⟩
theorem dBook_takeOrder_14 : Dc mBook_takeOrder 14 (.aload_n 0) 1 15 := ⟨by decide +kernel, rfl⟩
theorem dBook_takeOrder_15 : Dc mBook_takeOrder 15 (.getfield 22) 3 18 := ⟨by decide +kernel, rfl⟩
theorem dBook_takeOrder_18 : Dc mBook_takeOrder 18 (.iload_n 2) 1 19 := ⟨by decide +kernel, rfl⟩
theorem dBook_takeOrder_19 : Dc mBook_takeOrder 19 (.invokevirtual 43) 3 22 := ⟨by decide +kernel, rfl⟩
theorem dBook_takeOrder_22 : Dc mBook_takeOrder 22 .pop 1 23 := ⟨by decide +kernel, rfl⟩
theorem dBook_takeOrder_23 : Dc mBook_takeOrder 23 (.aload_n 0) 1 24 := ⟨by decide +kernel, rfl⟩
theorem dBook_takeOrder_24 : Dc mBook_takeOrder 24 (.getfield 22) 3 27 := ⟨by decide +kernel, rfl⟩
theorem dBook_takeOrder_27 : Dc mBook_takeOrder 27 (.aload_n 1) 1 28 := ⟨by decide +kernel, rfl⟩
theorem dBook_takeOrder_28 : Dc mBook_takeOrder 28 (.invokevirtual 32) 3 31 := ⟨by decide +kernel, rfl⟩
theorem dBook_takeOrder_31 : Dc mBook_takeOrder 31 .pop 1 32 := ⟨by decide +kernel, rfl⟩
theorem dBook_takeOrder_32 : Dc mBook_takeOrder 32 (.aload_n 0) 1 33 := ⟨by decide +kernel, rfl⟩
theorem dBook_takeOrder_33 : Dc mBook_takeOrder 33 (.invokevirtual 36) 3 36 := ⟨by decide +kernel, rfl⟩
theorem dBook_takeOrder_36 : Dc mBook_takeOrder 36 .return_ 1 37 := ⟨by decide +kernel, rfl⟩
theorem dX_row_0 : Dc mX_row 0 (.aload_n 0) 1 1 := ⟨by decide +kernel, rfl⟩
theorem dX_row_1 : Dc mX_row 1 (.iload_n 1) 1 2 := ⟨by decide +kernel, rfl⟩
theorem dX_row_2 : Dc mX_row 2 (.invokevirtual 116) 3 5 := ⟨by decide +kernel, rfl⟩
theorem dX_row_5 : Dc mX_row 5 (.astore_n 3) 1 6 := ⟨by decide +kernel, rfl⟩
theorem dX_row_6 : Dc mX_row 6 (.aload_n 3) 1 7 := ⟨by decide +kernel, rfl⟩
theorem dX_row_7 : Db mX_row 7 .ifnonnull 12 10 := ⟨5, by decide +kernel, by decide, rfl⟩
theorem dX_row_10 : Dc mX_row 10 (.iconst (-1)) 1 11 := ⟨by decide +kernel, rfl⟩
theorem dX_row_11 : Dc mX_row 11 .ireturn 1 12 := ⟨by decide +kernel, rfl⟩
theorem dX_row_12 : Dc mX_row 12 (.iload_n 2) 1 13 := ⟨by decide +kernel, rfl⟩
theorem dX_row_13 : Db mX_row 13 (.ifCond .lt) 27 16 := ⟨14, by decide +kernel, by decide, rfl⟩
theorem dX_row_16 : Dc mX_row 16 (.iload_n 2) 1 17 := ⟨by decide +kernel, rfl⟩
theorem dX_row_17 : Dc mX_row 17 (.aload_n 3) 1 18 := ⟨by decide +kernel, rfl⟩
theorem dX_row_18 : Dc mX_row 18 (.getfield 191) 3 21 := ⟨by decide +kernel, rfl⟩
theorem dX_row_21 : Dc mX_row 21 (.invokevirtual 91) 3 24 := ⟨by decide +kernel, rfl⟩
theorem dX_row_24 : Db mX_row 24 (.if_icmp .lt) 30 27 := ⟨6, by decide +kernel, by decide, rfl⟩
theorem dX_row_27 : Dc mX_row 27 (.bipush (-4)) 2 29 := ⟨by decide +kernel, rfl⟩
theorem dX_row_29 : Dc mX_row 29 .ireturn 1 30 := ⟨by decide +kernel, rfl⟩
theorem dX_row_30 : Dc mX_row 30 (.aload_n 3) 1 31 := ⟨by decide +kernel, rfl⟩
theorem dX_row_31 : Dc mX_row 31 (.getfield 191) 3 34 := ⟨by decide +kernel, rfl⟩
theorem dX_row_34 : Dc mX_row 34 (.iload_n 2) 1 35 := ⟨by decide +kernel, rfl⟩
theorem dX_row_35 : Dc mX_row 35 (.invokevirtual 194) 3 38 := ⟨by decide +kernel, rfl⟩
theorem dX_row_38 : Dc mX_row 38 (.checkcast 123) 3 41 := ⟨by decide +kernel, rfl⟩
theorem dX_row_41 : Dc mX_row 41 (.getfield 132) 3 44 := ⟨by decide +kernel, rfl⟩
theorem dX_row_44 : Dc mX_row 44 .ireturn 1 45 := ⟨by decide +kernel, rfl⟩
theorem dX_run_0 : Dc mX_run 0 (.aload_n 0) 1 1 := ⟨by decide +kernel, rfl⟩
theorem dX_run_1 : Dc mX_run 1 (.iload_n 1) 1 2 := ⟨by decide +kernel, rfl⟩
theorem dX_run_2 : Dc mX_run 2 (.invokevirtual 116) 3 5 := ⟨by decide +kernel, rfl⟩
theorem dX_run_5 : Dc mX_run 5 (.astore_n 3) 1 6 := ⟨by decide +kernel, rfl⟩
theorem dX_run_6 : Dc mX_run 6 (.aload_n 0) 1 7 := ⟨by decide +kernel, rfl⟩
theorem dX_run_7 : Dc mX_run 7 (.iload_n 2) 1 8 := ⟨by decide +kernel, rfl⟩
theorem dX_run_8 : Dc mX_run 8 (.invokevirtual 103) 3 11 := ⟨by decide +kernel, rfl⟩
theorem dX_run_11 : Dc mX_run 11 (.astore 4) 2 13 := ⟨by decide +kernel, rfl⟩
theorem dX_run_13 : Dc mX_run 13 (.aload_n 3) 1 14 := ⟨by decide +kernel, rfl⟩
theorem dX_run_14 : Db mX_run 14 .ifnull 22 17 := ⟨8, by decide +kernel, by decide, rfl⟩
theorem dX_run_17 : Dc mX_run 17 (.aload 4) 2 19 := ⟨by decide +kernel, rfl⟩
theorem dX_run_19 : Db mX_run 19 .ifnonnull 24 22 := ⟨5, by decide +kernel, by decide, rfl⟩
theorem dX_run_22 : Dc mX_run 22 (.iconst (-1)) 1 23 := ⟨by decide +kernel, rfl⟩
theorem dX_run_23 : Dc mX_run 23 .ireturn 1 24 := ⟨by decide +kernel, rfl⟩
theorem dX_run_24 : Dc mX_run 24 (.aload_n 0) 1 25 := ⟨by decide +kernel, rfl⟩
theorem dX_run_25 : Dc mX_run 25 (.getfield 71) 3 28 := ⟨by decide +kernel, rfl⟩
theorem dX_run_28 : Dc mX_run 28 (.aload_n 3) 1 29 := ⟨by decide +kernel, rfl⟩
theorem dX_run_29 : Dc mX_run 29 (.aload 4) 2 31 := ⟨by decide +kernel, rfl⟩
theorem dX_run_31 : Dc mX_run 31 (.invokevirtual 198) 3 34 := ⟨by decide +kernel, rfl⟩
theorem dX_run_34 : Dc mX_run 34 .ireturn 1 35 := ⟨by decide +kernel, rfl⟩
theorem dRun_answerOf_0 : Dc mRun_answerOf 0 (.aload_n 1) 1 1 := ⟨by decide +kernel, rfl⟩
theorem dRun_answerOf_1 : Db mRun_answerOf 1 .ifnull 8 4 := ⟨7, by decide +kernel, by decide, rfl⟩
theorem dRun_answerOf_4 : Dc mRun_answerOf 4 (.aload_n 2) 1 5 := ⟨by decide +kernel, rfl⟩
theorem dRun_answerOf_5 : Db mRun_answerOf 5 .ifnonnull 10 8 := ⟨5, by decide +kernel, by decide, rfl⟩
theorem dRun_answerOf_8 : Dc mRun_answerOf 8 (.iconst 0) 1 9 := ⟨by decide +kernel, rfl⟩
theorem dRun_answerOf_9 : Dc mRun_answerOf 9 .ireturn 1 10 := ⟨by decide +kernel, rfl⟩
theorem dRun_answerOf_10 : Dc mRun_answerOf 10 (.aload_n 0) 1 11 := ⟨by decide +kernel, rfl⟩
theorem dRun_answerOf_11 : Dc mRun_answerOf 11 (.invokevirtual 37) 3 14 := ⟨by decide +kernel, rfl⟩
theorem dRun_answerOf_14 : Dc mRun_answerOf 14 (.aload_n 0) 1 15 := ⟨by decide +kernel, rfl⟩
theorem dRun_answerOf_15 : Dc mRun_answerOf 15 (.aload_n 1) 1 16 := ⟨by decide +kernel, rfl⟩
theorem dRun_answerOf_16 : Dc mRun_answerOf 16 (.aload_n 2) 1 17 := ⟨by decide +kernel, rfl⟩
theorem dRun_answerOf_17 : Dc mRun_answerOf 17 (.iconst 1) 1 18 := ⟨by decide +kernel, rfl⟩
theorem dRun_answerOf_18 : Dc mRun_answerOf 18 (.invokevirtual 40) 3 21 := ⟨by decide +kernel, rfl⟩
theorem dRun_answerOf_21 : Dc mRun_answerOf 21 (.istore_n 3) 1 22 := ⟨by decide +kernel, rfl⟩
theorem dRun_answerOf_22 : Dc mRun_answerOf 22 (.aload_n 0) 1 23 := ⟨by decide +kernel, rfl⟩
theorem dRun_answerOf_23 : Dc mRun_answerOf 23 (.invokevirtual 44) 3 26 := ⟨by decide +kernel, rfl⟩
theorem dRun_answerOf_26 : Db mRun_answerOf 26 (.ifCond .eq) 34 29 := ⟨8, by decide +kernel, by decide, rfl⟩
theorem dRun_answerOf_29 : Dc mRun_answerOf 29 (.aload_n 0) 1 30 := ⟨by decide +kernel, rfl⟩
theorem dRun_answerOf_30 : Dc mRun_answerOf 30 (.invokevirtual 48) 3 33 := ⟨by decide +kernel, rfl⟩
theorem dRun_answerOf_33 : Dc mRun_answerOf 33 .ireturn 1 34 := ⟨by decide +kernel, rfl⟩
theorem dRun_answerOf_34 : Dc mRun_answerOf 34 (.iload_n 3) 1 35 := ⟨by decide +kernel, rfl⟩
theorem dRun_answerOf_35 : Db mRun_answerOf 35 (.ifCond .le) 42 38 := ⟨7, by decide +kernel, by decide, rfl⟩
theorem dRun_answerOf_38 : Dc mRun_answerOf 38 (.iload_n 3) 1 39 := ⟨by decide +kernel, rfl⟩
theorem dRun_answerOf_39 : Db mRun_answerOf 39 .goto 46 42 := ⟨7, by decide +kernel, by decide, rfl⟩
theorem dRun_answerOf_42 : Dc mRun_answerOf 42 (.aload_n 1) 1 43 := ⟨by decide +kernel, rfl⟩
theorem dRun_answerOf_43 : Dc mRun_answerOf 43 (.getfield 52) 3 46 := ⟨by decide +kernel, rfl⟩
theorem dRun_answerOf_46 : Dc mRun_answerOf 46 .ireturn 1 47 := ⟨by decide +kernel, rfl⟩
theorem dRun_startCall_0 : Dc mRun_startCall 0 (.aload_n 0) 1 1 := ⟨by decide +kernel, rfl⟩
theorem dRun_startCall_1 : Dc mRun_startCall 1 (.getfield 20) 3 4 := ⟨by decide +kernel, rfl⟩
theorem dRun_startCall_4 : Dc mRun_startCall 4 (.iconst 0) 1 5 := ⟨by decide +kernel, rfl⟩
theorem dRun_startCall_5 : Dc mRun_startCall 5 (.putfield 67) 3 8 := ⟨by decide +kernel, rfl⟩
theorem dRun_startCall_8 : Dc mRun_startCall 8 (.aload_n 0) 1 9 := ⟨by decide +kernel, rfl⟩
theorem dRun_startCall_9 : Dc mRun_startCall 9 (.iconst 0) 1 10 := ⟨by decide +kernel, rfl⟩
theorem dRun_startCall_10 : Dc mRun_startCall 10 (.putfield 70) 3 13 := ⟨by decide +kernel, rfl⟩
theorem dRun_startCall_13 : Dc mRun_startCall 13 .return_ 1 14 := ⟨by decide +kernel, rfl⟩
theorem dRun_outcomeOf_0 : Dc mRun_outcomeOf 0 (.aload_n 0) 1 1 := ⟨by decide +kernel, rfl⟩
theorem dRun_outcomeOf_1 : Dc mRun_outcomeOf 1 (.getfield 11) 3 4 := ⟨by decide +kernel, rfl⟩
theorem dRun_outcomeOf_4 : Dc mRun_outcomeOf 4 (.iload_n 3) 1 5 := ⟨by decide +kernel, rfl⟩
theorem dRun_outcomeOf_5 : Dc mRun_outcomeOf 5 (.iconst 1) 1 6 := ⟨by decide +kernel, rfl⟩
theorem dRun_outcomeOf_6 : Dc mRun_outcomeOf 6 .isub 1 7 := ⟨by decide +kernel, rfl⟩
theorem dRun_outcomeOf_7 : Dc mRun_outcomeOf 7 .aaload 1 8 := ⟨by decide +kernel, rfl⟩
theorem dRun_outcomeOf_8 : Dc mRun_outcomeOf 8 (.astore 4) 2 10 := ⟨by decide +kernel, rfl⟩
theorem dRun_outcomeOf_10 : Dc mRun_outcomeOf 10 (.aload 4) 2 12 := ⟨by decide +kernel, rfl⟩
theorem dRun_outcomeOf_12 : Dc mRun_outcomeOf 12 (.aload_n 1) 1 13 := ⟨by decide +kernel, rfl⟩
theorem dRun_outcomeOf_13 : Dc mRun_outcomeOf 13 (.getfield 76) 3 16 := ⟨by decide +kernel, rfl⟩
theorem dRun_outcomeOf_16 : Dc mRun_outcomeOf 16 (.invokevirtual 80) 3 19 := ⟨by decide +kernel, rfl⟩
theorem dRun_outcomeOf_19 : Dc mRun_outcomeOf 19 (.iconst 0) 1 20 := ⟨by decide +kernel, rfl⟩
theorem dRun_outcomeOf_20 : Dc mRun_outcomeOf 20 (.istore 5) 2 22 := ⟨by decide +kernel, rfl⟩
theorem dRun_outcomeOf_22 : Dc mRun_outcomeOf 22 (.iload 5) 2 24 := ⟨by decide +kernel, rfl⟩
theorem dRun_outcomeOf_24 : Dc mRun_outcomeOf 24 (.aload_n 1) 1 25 := ⟨by decide +kernel, rfl⟩
theorem dRun_outcomeOf_25 : Dc mRun_outcomeOf 25 (.getfield 84) 3 28 := ⟨by decide +kernel, rfl⟩
theorem dRun_outcomeOf_28 : Dc mRun_outcomeOf 28 (.invokevirtual 58) 3 31 := ⟨by decide +kernel, rfl⟩
theorem dRun_outcomeOf_31 : Db mRun_outcomeOf 31 (.if_icmp .ge) 71 34 := ⟨40, by decide +kernel, by decide, rfl⟩
theorem dRun_outcomeOf_34 : Dc mRun_outcomeOf 34 (.aload_n 0) 1 35 := ⟨by decide +kernel, rfl⟩
theorem dRun_outcomeOf_35 : Dc mRun_outcomeOf 35 (.aload_n 1) 1 36 := ⟨by decide +kernel, rfl⟩
theorem dRun_outcomeOf_36 : Dc mRun_outcomeOf 36 (.getfield 84) 3 39 := ⟨by decide +kernel, rfl⟩
theorem dRun_outcomeOf_39 : Dc mRun_outcomeOf 39 (.iload 5) 2 41 := ⟨by decide +kernel, rfl⟩
theorem dRun_outcomeOf_41 : Dc mRun_outcomeOf 41 (.invokevirtual 63) 3 44 := ⟨by decide +kernel, rfl⟩
theorem dRun_outcomeOf_44 : Dc mRun_outcomeOf 44 (.checkcast 87) 3 47 := ⟨by decide +kernel, rfl⟩
theorem dRun_outcomeOf_47 : Dc mRun_outcomeOf 47 (.aload_n 2) 1 48 := ⟨by decide +kernel, rfl⟩
theorem dRun_outcomeOf_48 : Dc mRun_outcomeOf 48 (.aload 4) 2 50 := ⟨by decide +kernel, rfl⟩
theorem dRun_outcomeOf_50 : Dc mRun_outcomeOf 50 (.iload_n 3) 1 51 := ⟨by decide +kernel, rfl⟩
theorem dRun_outcomeOf_51 : Dc mRun_outcomeOf 51 (.invokevirtual 89) 3 54 := ⟨by decide +kernel, rfl⟩
theorem dRun_outcomeOf_54 : Dc mRun_outcomeOf 54 (.istore 6) 2 56 := ⟨by decide +kernel, rfl⟩
theorem dRun_outcomeOf_56 : Dc mRun_outcomeOf 56 (.iload 6) 2 58 := ⟨by decide +kernel, rfl⟩
theorem dRun_outcomeOf_58 : Dc mRun_outcomeOf 58 (.iconst (-1)) 1 59 := ⟨by decide +kernel, rfl⟩
theorem dRun_outcomeOf_59 : Db mRun_outcomeOf 59 (.if_icmp .eq) 65 62 := ⟨6, by decide +kernel, by decide, rfl⟩
theorem dRun_outcomeOf_62 : Dc mRun_outcomeOf 62 (.iload 6) 2 64 := ⟨by decide +kernel, rfl⟩
theorem dRun_outcomeOf_64 : Dc mRun_outcomeOf 64 .ireturn 1 65 := ⟨by decide +kernel, rfl⟩
theorem dRun_outcomeOf_65 : Dc mRun_outcomeOf 65 (.iinc 5 1) 3 68 := ⟨by decide +kernel, rfl⟩
theorem dRun_outcomeOf_68 : Db mRun_outcomeOf 68 .goto 22 71 := ⟨(-46), by decide +kernel, by decide, rfl⟩
theorem dRun_outcomeOf_71 : Dc mRun_outcomeOf 71 (.iconst 0) 1 72 := ⟨by decide +kernel, rfl⟩
theorem dRun_outcomeOf_72 : Dc mRun_outcomeOf 72 .ireturn 1 73 := ⟨by decide +kernel, rfl⟩
theorem dOwn_startWith_0 : Dc mOwn_startWith 0 (.aload_n 1) 1 1 := ⟨by decide +kernel, rfl⟩
theorem dOwn_startWith_1 : Dc mOwn_startWith 1 (.iconst 0) 1 2 := ⟨by decide +kernel, rfl⟩
theorem dOwn_startWith_2 : Dc mOwn_startWith 2 (.aload_n 0) 1 3 := ⟨by decide +kernel, rfl⟩
theorem dOwn_startWith_3 : Dc mOwn_startWith 3 (.getfield 9) 3 6 := ⟨by decide +kernel, rfl⟩
theorem dOwn_startWith_6 : Dc mOwn_startWith 6 (.iconst 0) 1 7 := ⟨by decide +kernel, rfl⟩
theorem dOwn_startWith_7 : Dc mOwn_startWith 7 (.iconst 4) 1 8 := ⟨by decide +kernel, rfl⟩
theorem dOwn_startWith_8 : Dc mOwn_startWith 8 (.invokestatic 15) 3 11 := ⟨by decide +kernel, rfl⟩
theorem dOwn_startWith_11 : Dc mOwn_startWith 11 (.aload_n 0) 1 12 := ⟨by decide +kernel, rfl⟩
theorem dOwn_startWith_12 : Dc mOwn_startWith 12 (.lconst 0) 1 13 := ⟨by decide +kernel, rfl⟩
theorem dOwn_startWith_13 : Dc mOwn_startWith 13 (.putfield 21) 3 16 := ⟨by decide +kernel, rfl⟩
theorem dOwn_startWith_16 : Dc mOwn_startWith 16 .return_ 1 17 := ⟨by decide +kernel, rfl⟩
theorem dRun_lookAt_0 : Dc mRun_lookAt 0 (.aload_n 0) 1 1 := ⟨by decide +kernel, rfl⟩
theorem dRun_lookAt_1 : Dc mRun_lookAt 1 (.getfield 20) 3 4 := ⟨by decide +kernel, rfl⟩
theorem dRun_lookAt_4 : Dc mRun_lookAt 4 (.invokevirtual 93) 3 7 := ⟨by decide +kernel, rfl⟩
theorem dRun_lookAt_7 : Db mRun_lookAt 7 (.ifCond .eq) 17 10 := ⟨10, by decide +kernel, by decide, rfl⟩
theorem dRun_lookAt_10 : Dc mRun_lookAt 10 (.aload_n 0) 1 11 := ⟨by decide +kernel, rfl⟩
theorem dRun_lookAt_11 : Dc mRun_lookAt 11 (.iconst 3) 1 12 := ⟨by decide +kernel, rfl⟩
theorem dRun_lookAt_12 : Dc mRun_lookAt 12 (.aload_n 1) 1 13 := ⟨by decide +kernel, rfl⟩
theorem dRun_lookAt_13 : Dc mRun_lookAt 13 (.invokevirtual 96) 3 16 := ⟨by decide +kernel, rfl⟩
theorem dRun_lookAt_16 : Dc mRun_lookAt 16 .ireturn 1 17 := ⟨by decide +kernel, rfl⟩
theorem dRun_lookAt_17 : Dc mRun_lookAt 17 (.aload_n 0) 1 18 := ⟨by decide +kernel, rfl⟩
theorem dRun_lookAt_18 : Dc mRun_lookAt 18 (.aload_n 1) 1 19 := ⟨by decide +kernel, rfl⟩
theorem dRun_lookAt_19 : Dc mRun_lookAt 19 (.getfield 100) 3 22 := ⟨by decide +kernel, rfl⟩
theorem dRun_lookAt_22 : Dc mRun_lookAt 22 (.aload_n 2) 1 23 := ⟨by decide +kernel, rfl⟩
theorem dRun_lookAt_23 : Dc mRun_lookAt 23 (.aload_n 3) 1 24 := ⟨by decide +kernel, rfl⟩
theorem dRun_lookAt_24 : Dc mRun_lookAt 24 (.invokevirtual 103) 3 27 := ⟨by decide +kernel, rfl⟩
theorem dRun_lookAt_27 : Dc mRun_lookAt 27 (.istore 5) 2 29 := ⟨by decide +kernel, rfl⟩
theorem dRun_lookAt_29 : Dc mRun_lookAt 29 (.aload_n 0) 1 30 := ⟨by decide +kernel, rfl⟩
theorem dRun_lookAt_30 : Dc mRun_lookAt 30 (.getfield 20) 3 33 := ⟨by decide +kernel, rfl⟩
theorem dRun_lookAt_33 : Dc mRun_lookAt 33 (.aload_n 1) 1 34 := ⟨by decide +kernel, rfl⟩
theorem dRun_lookAt_34 : Dc mRun_lookAt 34 (.getfield 107) 3 37 := ⟨by decide +kernel, rfl⟩
theorem dRun_lookAt_37 : Dc mRun_lookAt 37 (.iload 5) 2 39 := ⟨by decide +kernel, rfl⟩
theorem dRun_lookAt_39 : Dc mRun_lookAt 39 (.iload 4) 2 41 := ⟨by decide +kernel, rfl⟩
theorem dRun_lookAt_41 : Dc mRun_lookAt 41 (.invokevirtual 110) 3 44 := ⟨by decide +kernel, rfl⟩
theorem dRun_lookAt_44 : Dc mRun_lookAt 44 (.iload 5) 2 46 := ⟨by decide +kernel, rfl⟩
theorem dRun_lookAt_46 : Db mRun_lookAt 46 (.ifCond .ne) 51 49 := ⟨5, by decide +kernel, by decide, rfl⟩
theorem dRun_lookAt_49 : Dc mRun_lookAt 49 (.iconst (-1)) 1 50 := ⟨by decide +kernel, rfl⟩
theorem dRun_lookAt_50 : Dc mRun_lookAt 50 .ireturn 1 51 := ⟨by decide +kernel, rfl⟩
theorem dRun_lookAt_51 : Dc mRun_lookAt 51 (.aload_n 3) 1 52 := ⟨by decide +kernel, rfl⟩
theorem dRun_lookAt_52 : Dc mRun_lookAt 52 (.aload_n 1) 1 53 := ⟨by decide +kernel, rfl⟩
theorem dRun_lookAt_53 : Dc mRun_lookAt 53 (.getfield 107) 3 56 := ⟨by decide +kernel, rfl⟩
theorem dRun_lookAt_56 : Dc mRun_lookAt 56 (.invokevirtual 114) 3 59 := ⟨by decide +kernel, rfl⟩
theorem dRun_lookAt_59 : Dc mRun_lookAt 59 (.aload_n 0) 1 60 := ⟨by decide +kernel, rfl⟩
theorem dRun_lookAt_60 : Dc mRun_lookAt 60 (.aload_n 1) 1 61 := ⟨by decide +kernel, rfl⟩
theorem dRun_lookAt_61 : Dc mRun_lookAt 61 (.aload_n 2) 1 62 := ⟨by decide +kernel, rfl⟩
theorem dRun_lookAt_62 : Dc mRun_lookAt 62 (.aload_n 3) 1 63 := ⟨by decide +kernel, rfl⟩
theorem dRun_lookAt_63 : Dc mRun_lookAt 63 (.iload 4) 2 65 := ⟨by decide +kernel, rfl⟩
theorem dRun_lookAt_65 : Dc mRun_lookAt 65 (.invokevirtual 118) 3 68 := ⟨by decide +kernel, rfl⟩
theorem dRun_lookAt_68 : Dc mRun_lookAt 68 .ireturn 1 69 := ⟨by decide +kernel, rfl⟩
theorem dTrc_isFull_0 : Dc mTrc_isFull 0 (.aload_n 0) 1 1 := ⟨by decide +kernel, rfl⟩
theorem dTrc_isFull_1 : Dc mTrc_isFull 1 (.getfield 21) 3 4 := ⟨by decide +kernel, rfl⟩
theorem dTrc_isFull_4 : Dc mTrc_isFull 4 (.sipush 300) 3 7 := ⟨by decide +kernel, rfl⟩
theorem dTrc_isFull_7 : Db mTrc_isFull 7 (.if_icmp .lt) 14 10 := ⟨7, by decide +kernel, by decide, rfl⟩
theorem dTrc_isFull_10 : Dc mTrc_isFull 10 (.iconst 1) 1 11 := ⟨by decide +kernel, rfl⟩
theorem dTrc_isFull_11 : Db mTrc_isFull 11 .goto 15 14 := ⟨4, by decide +kernel, by decide, rfl⟩
theorem dTrc_isFull_14 : Dc mTrc_isFull 14 (.iconst 0) 1 15 := ⟨by decide +kernel, rfl⟩
theorem dTrc_isFull_15 : Dc mTrc_isFull 15 .ireturn 1 16 := ⟨by decide +kernel, rfl⟩
theorem dRun_err_0 : Dc mRun_err 0 (.aload_n 0) 1 1 := ⟨by decide +kernel, rfl⟩
theorem dRun_err_1 : Dc mRun_err 1 (.iload_n 1) 1 2 := ⟨by decide +kernel, rfl⟩
theorem dRun_err_2 : Dc mRun_err 2 (.putfield 70) 3 5 := ⟨by decide +kernel, rfl⟩
theorem dRun_err_5 : Dc mRun_err 5 (.aload_n 0) 1 6 := ⟨by decide +kernel, rfl⟩
theorem dRun_err_6 : Dc mRun_err 6 (.aload_n 2) 1 7 := ⟨by decide +kernel, rfl⟩
theorem dRun_err_7 : Dc mRun_err 7 (.getfield 107) 3 10 := ⟨by decide +kernel, rfl⟩
theorem dRun_err_10 : Dc mRun_err 10 (.putfield 73) 3 13 := ⟨by decide +kernel, rfl⟩
theorem dRun_err_13 : Dc mRun_err 13 (.iconst 0) 1 14 := ⟨by decide +kernel, rfl⟩
theorem dRun_err_14 : Dc mRun_err 14 .ireturn 1 15 := ⟨by decide +kernel, rfl⟩
theorem dRun_areAllSo_0 : Dc mRun_areAllSo 0 (.iconst 0) 1 1 := ⟨by decide +kernel, rfl⟩
theorem dRun_areAllSo_1 : Dc mRun_areAllSo 1 (.istore 4) 2 3 := ⟨by decide +kernel, rfl⟩
theorem dRun_areAllSo_3 : Dc mRun_areAllSo 3 (.iload 4) 2 5 := ⟨by decide +kernel, rfl⟩
theorem dRun_areAllSo_5 : Dc mRun_areAllSo 5 (.aload_n 1) 1 6 := ⟨by decide +kernel, rfl⟩
theorem dRun_areAllSo_6 : Dc mRun_areAllSo 6 (.invokevirtual 58) 3 9 := ⟨by decide +kernel, rfl⟩
theorem dRun_areAllSo_9 : Db mRun_areAllSo 9 (.if_icmp .ge) 47 12 := ⟨38, by decide +kernel, by decide, rfl⟩
theorem dRun_areAllSo_12 : Dc mRun_areAllSo 12 (.aload_n 1) 1 13 := ⟨by decide +kernel, rfl⟩
theorem dRun_areAllSo_13 : Dc mRun_areAllSo 13 (.iload 4) 2 15 := ⟨by decide +kernel, rfl⟩
theorem dRun_areAllSo_15 : Dc mRun_areAllSo 15 (.invokevirtual 63) 3 18 := ⟨by decide +kernel, rfl⟩
theorem dRun_areAllSo_18 : Dc mRun_areAllSo 18 (.checkcast 121) 3 21 := ⟨by decide +kernel, rfl⟩
theorem dRun_areAllSo_21 : Dc mRun_areAllSo 21 (.astore 5) 2 23 := ⟨by decide +kernel, rfl⟩
theorem dRun_areAllSo_23 : Dc mRun_areAllSo 23 (.aload_n 0) 1 24 := ⟨by decide +kernel, rfl⟩
theorem dRun_areAllSo_24 : Dc mRun_areAllSo 24 (.aload 5) 2 26 := ⟨by decide +kernel, rfl⟩
theorem dRun_areAllSo_26 : Dc mRun_areAllSo 26 (.aload_n 2) 1 27 := ⟨by decide +kernel, rfl⟩
theorem dRun_areAllSo_27 : Dc mRun_areAllSo 27 (.aload_n 3) 1 28 := ⟨by decide +kernel, rfl⟩
theorem dRun_areAllSo_28 : Dc mRun_areAllSo 28 (.invokevirtual 123) 3 31 := ⟨by decide +kernel, rfl⟩
theorem dRun_areAllSo_31 : Dc mRun_areAllSo 31 (.aload 5) 2 33 := ⟨by decide +kernel, rfl⟩
theorem dRun_areAllSo_33 : Dc mRun_areAllSo 33 (.getfield 127) 3 36 := ⟨by decide +kernel, rfl⟩
theorem dRun_areAllSo_36 : Db mRun_areAllSo 36 (.if_icmp .ne) 41 39 := ⟨5, by decide +kernel, by decide, rfl⟩
theorem dRun_areAllSo_39 : Dc mRun_areAllSo 39 (.iconst 0) 1 40 := ⟨by decide +kernel, rfl⟩
theorem dRun_areAllSo_40 : Dc mRun_areAllSo 40 .ireturn 1 41 := ⟨by decide +kernel, rfl⟩
theorem dRun_areAllSo_41 : Dc mRun_areAllSo 41 (.iinc 4 1) 3 44 := ⟨by decide +kernel, rfl⟩
theorem dRun_areAllSo_44 : Db mRun_areAllSo 44 .goto 3 47 := ⟨(-41), by decide +kernel, by decide, rfl⟩
theorem dRun_areAllSo_47 : Dc mRun_areAllSo 47 (.iconst 1) 1 48 := ⟨by decide +kernel, rfl⟩
theorem dRun_areAllSo_48 : Dc mRun_areAllSo 48 .ireturn 1 49 := ⟨by decide +kernel, rfl⟩
theorem dRun_isSo_0 : Dc mRun_isSo 0 (.aload_n 1) 1 1 := ⟨by decide +kernel, rfl⟩
theorem dRun_isSo_1 : Dc mRun_isSo 1 (.getfield 131) 3 4 := ⟨by decide +kernel, rfl⟩
theorem dRun_isSo_4 : Dc mRun_isSo 4 (.istore 4) 2 6 := ⟨by decide +kernel, rfl⟩
theorem dRun_isSo_6 : Dc mRun_isSo 6 (.aload_n 1) 1 7 := ⟨by decide +kernel, rfl⟩
theorem dRun_isSo_7 : Dc mRun_isSo 7 (.getfield 134) 3 10 := ⟨by decide +kernel, rfl⟩
theorem dRun_isSo_10 : Dc mRun_isSo 10 (.tableswitch (153) (0) (6) #[42, 56, 76, 96, 116, 136, 146]) 42 52 := ⟨by decide +kernel, rfl⟩
theorem dRun_isSo_52 : Dc mRun_isSo 52 (.aload_n 0) 1 53 := ⟨by decide +kernel, rfl⟩
theorem dRun_isSo_53 : Dc mRun_isSo 53 (.getfield 24) 3 56 := ⟨by decide +kernel, rfl⟩
theorem dRun_isSo_56 : Dc mRun_isSo 56 (.aload_n 2) 1 57 := ⟨by decide +kernel, rfl⟩
theorem dRun_isSo_57 : Dc mRun_isSo 57 (.getfield 137) 3 60 := ⟨by decide +kernel, rfl⟩
theorem dRun_isSo_60 : Dc mRun_isSo 60 (.iload 4) 2 62 := ⟨by decide +kernel, rfl⟩
theorem dRun_isSo_62 : Dc mRun_isSo 62 (.invokevirtual 142) 3 65 := ⟨by decide +kernel, rfl⟩
theorem dRun_isSo_65 : Dc mRun_isSo 65 .ireturn 1 66 := ⟨by decide +kernel, rfl⟩
theorem dRun_isSo_66 : Dc mRun_isSo 66 (.aload_n 2) 1 67 := ⟨by decide +kernel, rfl⟩
theorem dRun_isSo_67 : Dc mRun_isSo 67 (.getfield 148) 3 70 := ⟨by decide +kernel, rfl⟩
theorem dRun_isSo_70 : Dc mRun_isSo 70 (.iload 4) 2 72 := ⟨by decide +kernel, rfl⟩
theorem dRun_isSo_72 : Dc mRun_isSo 72 .iaload 1 73 := ⟨by decide +kernel, rfl⟩
theorem dRun_isSo_73 : Dc mRun_isSo 73 (.aload_n 1) 1 74 := ⟨by decide +kernel, rfl⟩
theorem dRun_isSo_74 : Dc mRun_isSo 74 (.getfield 151) 3 77 := ⟨by decide +kernel, rfl⟩
theorem dRun_isSo_77 : Db mRun_isSo 77 (.if_icmp .ne) 84 80 := ⟨7, by decide +kernel, by decide, rfl⟩
theorem dRun_isSo_80 : Dc mRun_isSo 80 (.iconst 1) 1 81 := ⟨by decide +kernel, rfl⟩
theorem dRun_isSo_81 : Db mRun_isSo 81 .goto 85 84 := ⟨4, by decide +kernel, by decide, rfl⟩
theorem dRun_isSo_84 : Dc mRun_isSo 84 (.iconst 0) 1 85 := ⟨by decide +kernel, rfl⟩
theorem dRun_isSo_85 : Dc mRun_isSo 85 .ireturn 1 86 := ⟨by decide +kernel, rfl⟩
theorem dRun_isSo_86 : Dc mRun_isSo 86 (.aload_n 2) 1 87 := ⟨by decide +kernel, rfl⟩
theorem dRun_isSo_87 : Dc mRun_isSo 87 (.getfield 148) 3 90 := ⟨by decide +kernel, rfl⟩
theorem dRun_isSo_90 : Dc mRun_isSo 90 (.iload 4) 2 92 := ⟨by decide +kernel, rfl⟩
theorem dRun_isSo_92 : Dc mRun_isSo 92 .iaload 1 93 := ⟨by decide +kernel, rfl⟩
theorem dRun_isSo_93 : Dc mRun_isSo 93 (.aload_n 1) 1 94 := ⟨by decide +kernel, rfl⟩
theorem dRun_isSo_94 : Dc mRun_isSo 94 (.getfield 151) 3 97 := ⟨by decide +kernel, rfl⟩
theorem dRun_isSo_97 : Db mRun_isSo 97 (.if_icmp .le) 104 100 := ⟨7, by decide +kernel, by decide, rfl⟩
theorem dRun_isSo_100 : Dc mRun_isSo 100 (.iconst 1) 1 101 := ⟨by decide +kernel, rfl⟩
theorem dRun_isSo_101 : Db mRun_isSo 101 .goto 105 104 := ⟨4, by decide +kernel, by decide, rfl⟩
theorem dRun_isSo_104 : Dc mRun_isSo 104 (.iconst 0) 1 105 := ⟨by decide +kernel, rfl⟩
theorem dRun_isSo_105 : Dc mRun_isSo 105 .ireturn 1 106 := ⟨by decide +kernel, rfl⟩
theorem dRun_isSo_106 : Dc mRun_isSo 106 (.aload_n 3) 1 107 := ⟨by decide +kernel, rfl⟩
theorem dRun_isSo_107 : Dc mRun_isSo 107 (.getfield 154) 3 110 := ⟨by decide +kernel, rfl⟩
theorem dRun_isSo_110 : Dc mRun_isSo 110 (.iload 4) 2 112 := ⟨by decide +kernel, rfl⟩
theorem dRun_isSo_112 : Dc mRun_isSo 112 .iaload 1 113 := ⟨by decide +kernel, rfl⟩
theorem dRun_isSo_113 : Dc mRun_isSo 113 (.aload_n 1) 1 114 := ⟨by decide +kernel, rfl⟩
theorem dRun_isSo_114 : Dc mRun_isSo 114 (.getfield 151) 3 117 := ⟨by decide +kernel, rfl⟩
theorem dRun_isSo_117 : Db mRun_isSo 117 (.if_icmp .ne) 124 120 := ⟨7, by decide +kernel, by decide, rfl⟩
theorem dRun_isSo_120 : Dc mRun_isSo 120 (.iconst 1) 1 121 := ⟨by decide +kernel, rfl⟩
theorem dRun_isSo_121 : Db mRun_isSo 121 .goto 125 124 := ⟨4, by decide +kernel, by decide, rfl⟩
theorem dRun_isSo_124 : Dc mRun_isSo 124 (.iconst 0) 1 125 := ⟨by decide +kernel, rfl⟩
theorem dRun_isSo_125 : Dc mRun_isSo 125 .ireturn 1 126 := ⟨by decide +kernel, rfl⟩
theorem dRun_isSo_126 : Dc mRun_isSo 126 (.aload_n 3) 1 127 := ⟨by decide +kernel, rfl⟩
theorem dRun_isSo_127 : Dc mRun_isSo 127 (.getfield 154) 3 130 := ⟨by decide +kernel, rfl⟩
theorem dRun_isSo_130 : Dc mRun_isSo 130 (.iload 4) 2 132 := ⟨by decide +kernel, rfl⟩
theorem dRun_isSo_132 : Dc mRun_isSo 132 .iaload 1 133 := ⟨by decide +kernel, rfl⟩
theorem dRun_isSo_133 : Dc mRun_isSo 133 (.aload_n 1) 1 134 := ⟨by decide +kernel, rfl⟩
theorem dRun_isSo_134 : Dc mRun_isSo 134 (.getfield 151) 3 137 := ⟨by decide +kernel, rfl⟩
theorem dRun_isSo_137 : Db mRun_isSo 137 (.if_icmp .le) 144 140 := ⟨7, by decide +kernel, by decide, rfl⟩
theorem dRun_isSo_140 : Dc mRun_isSo 140 (.iconst 1) 1 141 := ⟨by decide +kernel, rfl⟩
theorem dRun_isSo_141 : Db mRun_isSo 141 .goto 145 144 := ⟨4, by decide +kernel, by decide, rfl⟩
theorem dRun_isSo_144 : Dc mRun_isSo 144 (.iconst 0) 1 145 := ⟨by decide +kernel, rfl⟩
theorem dRun_isSo_145 : Dc mRun_isSo 145 .ireturn 1 146 := ⟨by decide +kernel, rfl⟩
theorem dRun_isSo_146 : Dc mRun_isSo 146 (.aload_n 0) 1 147 := ⟨by decide +kernel, rfl⟩
theorem dRun_isSo_147 : Dc mRun_isSo 147 (.getfield 32) 3 150 := ⟨by decide +kernel, rfl⟩
theorem dRun_isSo_150 : Dc mRun_isSo 150 (.iload 4) 2 152 := ⟨by decide +kernel, rfl⟩
theorem dRun_isSo_152 : Dc mRun_isSo 152 (.invokevirtual 157) 3 155 := ⟨by decide +kernel, rfl⟩
theorem dRun_isSo_155 : Dc mRun_isSo 155 .ireturn 1 156 := ⟨by decide +kernel, rfl⟩
theorem dRun_isSo_156 : Dc mRun_isSo 156 (.aload_n 3) 1 157 := ⟨by decide +kernel, rfl⟩
theorem dRun_isSo_157 : Dc mRun_isSo 157 (.iload 4) 2 159 := ⟨by decide +kernel, rfl⟩
theorem dRun_isSo_159 : Dc mRun_isSo 159 (.invokevirtual 163) 3 162 := ⟨by decide +kernel, rfl⟩
theorem dRun_isSo_162 : Dc mRun_isSo 162 .ireturn 1 163 := ⟨by decide +kernel, rfl⟩
theorem dRun_isSo_163 : Dc mRun_isSo 163 (.iconst 0) 1 164 := ⟨by decide +kernel, rfl⟩
theorem dRun_isSo_164 : Dc mRun_isSo 164 .ireturn 1 165 := ⟨by decide +kernel, rfl⟩
theorem dScs_isOn_0 : Dc mScs_isOn 0 (.aload_n 0) 1 1 := ⟨by decide +kernel, rfl⟩
theorem dScs_isOn_1 : Dc mScs_isOn 1 (.getfield 12) 3 4 := ⟨by decide +kernel, rfl⟩
theorem dScs_isOn_4 : Dc mScs_isOn 4 (.iload_n 1) 1 5 := ⟨by decide +kernel, rfl⟩
theorem dScs_isOn_5 : Dc mScs_isOn 5 (.invokevirtual 38) 3 8 := ⟨by decide +kernel, rfl⟩
theorem dScs_isOn_8 : Dc mScs_isOn 8 (.checkcast 29) 3 11 := ⟨by decide +kernel, rfl⟩
theorem dScs_isOn_11 : Dc mScs_isOn 11 (.getfield 42) 3 14 := ⟨by decide +kernel, rfl⟩
theorem dScs_isOn_14 : Dc mScs_isOn 14 .ireturn 1 15 := ⟨by decide +kernel, rfl⟩
theorem dOwn_hasApplied_0 : Dc mOwn_hasApplied 0 (.aload_n 0) 1 1 := ⟨by decide +kernel, rfl⟩
theorem dOwn_hasApplied_1 : Dc mOwn_hasApplied 1 (.getfield 21) 3 4 := ⟨by decide +kernel, rfl⟩
theorem dOwn_hasApplied_4 : Dc mOwn_hasApplied 4 (.iload_n 1) 1 5 := ⟨by decide +kernel, rfl⟩
theorem dOwn_hasApplied_5 : Dc mOwn_hasApplied 5 .lshr 1 6 := ⟨by decide +kernel, rfl⟩
theorem dOwn_hasApplied_6 : Dc mOwn_hasApplied 6 (.lconst 1) 1 7 := ⟨by decide +kernel, rfl⟩
theorem dOwn_hasApplied_7 : Dc mOwn_hasApplied 7 .land 1 8 := ⟨by decide +kernel, rfl⟩
theorem dOwn_hasApplied_8 : Dc mOwn_hasApplied 8 (.lconst 0) 1 9 := ⟨by decide +kernel, rfl⟩
theorem dOwn_hasApplied_9 : Dc mOwn_hasApplied 9 .lcmp 1 10 := ⟨by decide +kernel, rfl⟩
theorem dOwn_hasApplied_10 : Db mOwn_hasApplied 10 (.ifCond .eq) 17 13 := ⟨7, by decide +kernel, by decide, rfl⟩
theorem dOwn_hasApplied_13 : Dc mOwn_hasApplied 13 (.iconst 1) 1 14 := ⟨by decide +kernel, rfl⟩
theorem dOwn_hasApplied_14 : Db mOwn_hasApplied 14 .goto 18 17 := ⟨4, by decide +kernel, by decide, rfl⟩
theorem dOwn_hasApplied_17 : Dc mOwn_hasApplied 17 (.iconst 0) 1 18 := ⟨by decide +kernel, rfl⟩
theorem dOwn_hasApplied_18 : Dc mOwn_hasApplied 18 .ireturn 1 19 := ⟨by decide +kernel, rfl⟩
theorem dTrc_add_0 : Dc mTrc_add 0 (.aload_n 0) 1 1 := ⟨by decide +kernel, rfl⟩
theorem dTrc_add_1 : Dc mTrc_add 1 (.getfield 9) 3 4 := ⟨by decide +kernel, rfl⟩
theorem dTrc_add_4 : Dc mTrc_add 4 (.aload_n 0) 1 5 := ⟨by decide +kernel, rfl⟩
theorem dTrc_add_5 : Dc mTrc_add 5 (.getfield 21) 3 8 := ⟨by decide +kernel, rfl⟩
theorem dTrc_add_8 : Dc mTrc_add 8 (.iload_n 1) 1 9 := ⟨by decide +kernel, rfl⟩
theorem dTrc_add_9 : Dc mTrc_add 9 .iastore 1 10 := ⟨by decide +kernel, rfl⟩
theorem dTrc_add_10 : Dc mTrc_add 10 (.aload_n 0) 1 11 := ⟨by decide +kernel, rfl⟩
theorem dTrc_add_11 : Dc mTrc_add 11 (.getfield 15) 3 14 := ⟨by decide +kernel, rfl⟩
theorem dTrc_add_14 : Dc mTrc_add 14 (.aload_n 0) 1 15 := ⟨by decide +kernel, rfl⟩
theorem dTrc_add_15 : Dc mTrc_add 15 (.getfield 21) 3 18 := ⟨by decide +kernel, rfl⟩
theorem dTrc_add_18 : Dc mTrc_add 18 (.iload_n 2) 1 19 := ⟨by decide +kernel, rfl⟩
theorem dTrc_add_19 : Dc mTrc_add 19 (.invokestatic 25) 3 22 := ⟨by decide +kernel, rfl⟩
theorem dTrc_add_22 : Dc mTrc_add 22 .iastore 1 23 := ⟨by decide +kernel, rfl⟩
theorem dTrc_add_23 : Dc mTrc_add 23 (.aload_n 0) 1 24 := ⟨by decide +kernel, rfl⟩
theorem dTrc_add_24 : Dc mTrc_add 24 (.getfield 18) 3 27 := ⟨by decide +kernel, rfl⟩
theorem dTrc_add_27 : Dc mTrc_add 27 (.aload_n 0) 1 28 := ⟨by decide +kernel, rfl⟩
theorem dTrc_add_28 : Dc mTrc_add 28 (.getfield 21) 3 31 := ⟨by decide +kernel, rfl⟩
theorem dTrc_add_31 : Dc mTrc_add 31 (.iload_n 3) 1 32 := ⟨by decide +kernel, rfl⟩
theorem dTrc_add_32 : Dc mTrc_add 32 .iastore 1 33 := ⟨by decide +kernel, rfl⟩
theorem dTrc_add_33 : Dc mTrc_add 33 (.aload_n 0) 1 34 := ⟨by decide +kernel, rfl⟩
theorem dTrc_add_34 : Dc mTrc_add 34 .dup 1 35 := ⟨by decide +kernel, rfl⟩
theorem dTrc_add_35 : Dc mTrc_add 35 (.getfield 21) 3 38 := ⟨by decide +kernel, rfl⟩
theorem dTrc_add_38 : Dc mTrc_add 38 (.iconst 1) 1 39 := ⟨by decide +kernel, rfl⟩
theorem dTrc_add_39 : Dc mTrc_add 39 .iadd 1 40 := ⟨by decide +kernel, rfl⟩
theorem dTrc_add_40 : Dc mTrc_add 40 (.putfield 21) 3 43 := ⟨by decide +kernel, rfl⟩
theorem dTrc_add_43 : Dc mTrc_add 43 .return_ 1 44 := ⟨by decide +kernel, rfl⟩
theorem dOwn_noteApplied_0 : Dc mOwn_noteApplied 0 (.aload_n 0) 1 1 := ⟨by decide +kernel, rfl⟩
theorem dOwn_noteApplied_1 : Dc mOwn_noteApplied 1 .dup 1 2 := ⟨by decide +kernel, rfl⟩
theorem dOwn_noteApplied_2 : Dc mOwn_noteApplied 2 (.getfield 21) 3 5 := ⟨by decide +kernel, rfl⟩
theorem dOwn_noteApplied_5 : Dc mOwn_noteApplied 5 (.lconst 1) 1 6 := ⟨by decide +kernel, rfl⟩
theorem dOwn_noteApplied_6 : Dc mOwn_noteApplied 6 (.iload_n 1) 1 7 := ⟨by decide +kernel, rfl⟩
theorem dOwn_noteApplied_7 : Dc mOwn_noteApplied 7 .lshl 1 8 := ⟨by decide +kernel, rfl⟩
theorem dOwn_noteApplied_8 : Dc mOwn_noteApplied 8 .lor 1 9 := ⟨by decide +kernel, rfl⟩
theorem dOwn_noteApplied_9 : Dc mOwn_noteApplied 9 (.putfield 21) 3 12 := ⟨by decide +kernel, rfl⟩
theorem dOwn_noteApplied_12 : Dc mOwn_noteApplied 12 .return_ 1 13 := ⟨by decide +kernel, rfl⟩
theorem dRun_perform_0 : Dc mRun_perform 0 (.aload_n 1) 1 1 := ⟨by decide +kernel, rfl⟩
theorem dRun_perform_1 : Dc mRun_perform 1 (.getfield 166) 3 4 := ⟨by decide +kernel, rfl⟩
theorem dRun_perform_4 : Dc mRun_perform 4 (.istore 5) 2 6 := ⟨by decide +kernel, rfl⟩
theorem dRun_perform_6 : Dc mRun_perform 6 (.aload_n 1) 1 7 := ⟨by decide +kernel, rfl⟩
theorem dRun_perform_7 : Dc mRun_perform 7 (.getfield 169) 3 10 := ⟨by decide +kernel, rfl⟩
theorem dRun_perform_10 : Dc mRun_perform 10 (.istore 6) 2 12 := ⟨by decide +kernel, rfl⟩
theorem dRun_perform_12 : Dc mRun_perform 12 (.aload_n 1) 1 13 := ⟨by decide +kernel, rfl⟩
theorem dRun_perform_13 : Dc mRun_perform 13 (.getfield 172) 3 16 := ⟨by decide +kernel, rfl⟩
theorem dRun_perform_16 : Dc mRun_perform 16 (.tableswitch (139) (1) (8) #[48, 51, 65, 76, 112, 112, 121, 123]) 48 64 := ⟨by decide +kernel, rfl⟩
theorem dRun_perform_64 : Dc mRun_perform 64 (.iload 5) 2 66 := ⟨by decide +kernel, rfl⟩
theorem dRun_perform_66 : Dc mRun_perform 66 .ireturn 1 67 := ⟨by decide +kernel, rfl⟩
theorem dRun_perform_67 : Dc mRun_perform 67 (.aload_n 3) 1 68 := ⟨by decide +kernel, rfl⟩
theorem dRun_perform_68 : Dc mRun_perform 68 (.getfield 154) 3 71 := ⟨by decide +kernel, rfl⟩
theorem dRun_perform_71 : Dc mRun_perform 71 (.iload 5) 2 73 := ⟨by decide +kernel, rfl⟩
theorem dRun_perform_73 : Dc mRun_perform 73 .dup2 1 74 := ⟨by decide +kernel, rfl⟩
theorem dRun_perform_74 : Dc mRun_perform 74 .iaload 1 75 := ⟨by decide +kernel, rfl⟩
theorem dRun_perform_75 : Dc mRun_perform 75 (.iload 6) 2 77 := ⟨by decide +kernel, rfl⟩
theorem dRun_perform_77 : Dc mRun_perform 77 .iadd 1 78 := ⟨by decide +kernel, rfl⟩
theorem dRun_perform_78 : Dc mRun_perform 78 .iastore 1 79 := ⟨by decide +kernel, rfl⟩
theorem dRun_perform_79 : Dc mRun_perform 79 (.iconst (-1)) 1 80 := ⟨by decide +kernel, rfl⟩
theorem dRun_perform_80 : Dc mRun_perform 80 .ireturn 1 81 := ⟨by decide +kernel, rfl⟩
theorem dRun_perform_81 : Dc mRun_perform 81 (.aload_n 2) 1 82 := ⟨by decide +kernel, rfl⟩
theorem dRun_perform_82 : Dc mRun_perform 82 (.getfield 148) 3 85 := ⟨by decide +kernel, rfl⟩
theorem dRun_perform_85 : Dc mRun_perform 85 (.iload 5) 2 87 := ⟨by decide +kernel, rfl⟩
theorem dRun_perform_87 : Dc mRun_perform 87 (.iload 6) 2 89 := ⟨by decide +kernel, rfl⟩
theorem dRun_perform_89 : Dc mRun_perform 89 .iastore 1 90 := ⟨by decide +kernel, rfl⟩
theorem dRun_perform_90 : Dc mRun_perform 90 (.iconst (-1)) 1 91 := ⟨by decide +kernel, rfl⟩
theorem dRun_perform_91 : Dc mRun_perform 91 .ireturn 1 92 := ⟨by decide +kernel, rfl⟩
theorem dRun_perform_92 : Dc mRun_perform 92 (.aload_n 3) 1 93 := ⟨by decide +kernel, rfl⟩
theorem dRun_perform_93 : Dc mRun_perform 93 (.getfield 154) 3 96 := ⟨by decide +kernel, rfl⟩
theorem dRun_perform_96 : Dc mRun_perform 96 (.iload 6) 2 98 := ⟨by decide +kernel, rfl⟩
theorem dRun_perform_98 : Dc mRun_perform 98 .iaload 1 99 := ⟨by decide +kernel, rfl⟩
theorem dRun_perform_99 : Db mRun_perform 99 (.ifCond .ne) 109 102 := ⟨10, by decide +kernel, by decide, rfl⟩
theorem dRun_perform_102 : Dc mRun_perform 102 (.aload_n 0) 1 103 := ⟨by decide +kernel, rfl⟩
theorem dRun_perform_103 : Dc mRun_perform 103 (.iconst 1) 1 104 := ⟨by decide +kernel, rfl⟩
theorem dRun_perform_104 : Dc mRun_perform 104 (.aload_n 1) 1 105 := ⟨by decide +kernel, rfl⟩
theorem dRun_perform_105 : Dc mRun_perform 105 (.invokevirtual 96) 3 108 := ⟨by decide +kernel, rfl⟩
theorem dRun_perform_108 : Dc mRun_perform 108 .ireturn 1 109 := ⟨by decide +kernel, rfl⟩
theorem dRun_perform_109 : Dc mRun_perform 109 (.aload_n 2) 1 110 := ⟨by decide +kernel, rfl⟩
theorem dRun_perform_110 : Dc mRun_perform 110 (.getfield 148) 3 113 := ⟨by decide +kernel, rfl⟩
theorem dRun_perform_113 : Dc mRun_perform 113 (.iload 5) 2 115 := ⟨by decide +kernel, rfl⟩
theorem dRun_perform_115 : Dc mRun_perform 115 .dup2 1 116 := ⟨by decide +kernel, rfl⟩
theorem dRun_perform_116 : Dc mRun_perform 116 .iaload 1 117 := ⟨by decide +kernel, rfl⟩
theorem dRun_perform_117 : Dc mRun_perform 117 (.aload_n 3) 1 118 := ⟨by decide +kernel, rfl⟩
theorem dRun_perform_118 : Dc mRun_perform 118 (.getfield 154) 3 121 := ⟨by decide +kernel, rfl⟩
theorem dRun_perform_121 : Dc mRun_perform 121 (.iload 6) 2 123 := ⟨by decide +kernel, rfl⟩
theorem dRun_perform_123 : Dc mRun_perform 123 .iaload 1 124 := ⟨by decide +kernel, rfl⟩
theorem dRun_perform_124 : Dc mRun_perform 124 .idiv 1 125 := ⟨by decide +kernel, rfl⟩
theorem dRun_perform_125 : Dc mRun_perform 125 .iastore 1 126 := ⟨by decide +kernel, rfl⟩
theorem dRun_perform_126 : Dc mRun_perform 126 (.iconst (-1)) 1 127 := ⟨by decide +kernel, rfl⟩
theorem dRun_perform_127 : Dc mRun_perform 127 .ireturn 1 128 := ⟨by decide +kernel, rfl⟩
theorem dRun_perform_128 : Dc mRun_perform 128 (.aload_n 0) 1 129 := ⟨by decide +kernel, rfl⟩
theorem dRun_perform_129 : Dc mRun_perform 129 (.aload_n 1) 1 130 := ⟨by decide +kernel, rfl⟩
theorem dRun_perform_130 : Dc mRun_perform 130 (.aload_n 2) 1 131 := ⟨by decide +kernel, rfl⟩
theorem dRun_perform_131 : Dc mRun_perform 131 (.iload 4) 2 133 := ⟨by decide +kernel, rfl⟩
theorem dRun_perform_133 : Dc mRun_perform 133 (.invokevirtual 175) 3 136 := ⟨by decide +kernel, rfl⟩
theorem dRun_perform_136 : Dc mRun_perform 136 .ireturn 1 137 := ⟨by decide +kernel, rfl⟩
theorem dRun_perform_137 : Dc mRun_perform 137 (.iconst 0) 1 138 := ⟨by decide +kernel, rfl⟩
theorem dRun_perform_138 : Dc mRun_perform 138 .ireturn 1 139 := ⟨by decide +kernel, rfl⟩
theorem dRun_perform_139 : Dc mRun_perform 139 (.aload_n 3) 1 140 := ⟨by decide +kernel, rfl⟩
theorem dRun_perform_140 : Dc mRun_perform 140 (.getfield 154) 3 143 := ⟨by decide +kernel, rfl⟩
theorem dRun_perform_143 : Dc mRun_perform 143 (.iload 5) 2 145 := ⟨by decide +kernel, rfl⟩
theorem dRun_perform_145 : Dc mRun_perform 145 (.aload_n 2) 1 146 := ⟨by decide +kernel, rfl⟩
theorem dRun_perform_146 : Dc mRun_perform 146 (.getfield 148) 3 149 := ⟨by decide +kernel, rfl⟩
theorem dRun_perform_149 : Dc mRun_perform 149 (.iload 6) 2 151 := ⟨by decide +kernel, rfl⟩
theorem dRun_perform_151 : Dc mRun_perform 151 .iaload 1 152 := ⟨by decide +kernel, rfl⟩
theorem dRun_perform_152 : Dc mRun_perform 152 .iastore 1 153 := ⟨by decide +kernel, rfl⟩
theorem dRun_perform_153 : Dc mRun_perform 153 (.iconst (-1)) 1 154 := ⟨by decide +kernel, rfl⟩
theorem dRun_perform_154 : Dc mRun_perform 154 .ireturn 1 155 := ⟨by decide +kernel, rfl⟩
theorem dRun_perform_155 : Dc mRun_perform 155 (.iconst (-1)) 1 156 := ⟨by decide +kernel, rfl⟩
theorem dRun_perform_156 : Dc mRun_perform 156 .ireturn 1 157 := ⟨by decide +kernel, rfl⟩
theorem dRun_goToBook_0 : Dc mRun_goToBook 0 (.iload_n 3) 1 1 := ⟨by decide +kernel, rfl⟩
theorem dRun_goToBook_1 : Dc mRun_goToBook 1 (.bipush 6) 2 3 := ⟨by decide +kernel, rfl⟩
theorem dRun_goToBook_3 : Db mRun_goToBook 3 (.if_icmp .lt) 13 6 := ⟨10, by decide +kernel, by decide, rfl⟩
theorem dRun_goToBook_6 : Dc mRun_goToBook 6 (.aload_n 0) 1 7 := ⟨by decide +kernel, rfl⟩
theorem dRun_goToBook_7 : Dc mRun_goToBook 7 (.iconst 2) 1 8 := ⟨by decide +kernel, rfl⟩
theorem dRun_goToBook_8 : Dc mRun_goToBook 8 (.aload_n 1) 1 9 := ⟨by decide +kernel, rfl⟩
theorem dRun_goToBook_9 : Dc mRun_goToBook 9 (.invokevirtual 96) 3 12 := ⟨by decide +kernel, rfl⟩
theorem dRun_goToBook_12 : Dc mRun_goToBook 12 .ireturn 1 13 := ⟨by decide +kernel, rfl⟩
theorem dRun_goToBook_13 : Dc mRun_goToBook 13 (.aload_n 0) 1 14 := ⟨by decide +kernel, rfl⟩
theorem dRun_goToBook_14 : Dc mRun_goToBook 14 (.aload_n 0) 1 15 := ⟨by decide +kernel, rfl⟩
theorem dRun_goToBook_15 : Dc mRun_goToBook 15 (.getfield 28) 3 18 := ⟨by decide +kernel, rfl⟩
theorem dRun_goToBook_18 : Dc mRun_goToBook 18 (.aload_n 1) 1 19 := ⟨by decide +kernel, rfl⟩
theorem dRun_goToBook_19 : Dc mRun_goToBook 19 (.getfield 166) 3 22 := ⟨by decide +kernel, rfl⟩
theorem dRun_goToBook_22 : Dc mRun_goToBook 22 (.invokevirtual 63) 3 25 := ⟨by decide +kernel, rfl⟩
theorem dRun_goToBook_25 : Dc mRun_goToBook 25 (.checkcast 53) 3 28 := ⟨by decide +kernel, rfl⟩
theorem dRun_goToBook_28 : Dc mRun_goToBook 28 (.aload_n 2) 1 29 := ⟨by decide +kernel, rfl⟩
theorem dRun_goToBook_29 : Dc mRun_goToBook 29 (.iload_n 3) 1 30 := ⟨by decide +kernel, rfl⟩
theorem dRun_goToBook_30 : Dc mRun_goToBook 30 (.iconst 1) 1 31 := ⟨by decide +kernel, rfl⟩
theorem dRun_goToBook_31 : Dc mRun_goToBook 31 .iadd 1 32 := ⟨by decide +kernel, rfl⟩
theorem dRun_goToBook_32 : Dc mRun_goToBook 32 (.invokevirtual 40) 3 35 := ⟨by decide +kernel, rfl⟩
theorem dRun_goToBook_35 : Dc mRun_goToBook 35 (.istore 4) 2 37 := ⟨by decide +kernel, rfl⟩
theorem dRun_goToBook_37 : Dc mRun_goToBook 37 (.aload_n 0) 1 38 := ⟨by decide +kernel, rfl⟩
theorem dRun_goToBook_38 : Dc mRun_goToBook 38 (.invokevirtual 44) 3 41 := ⟨by decide +kernel, rfl⟩
theorem dRun_goToBook_41 : Db mRun_goToBook 41 (.ifCond .eq) 46 44 := ⟨5, by decide +kernel, by decide, rfl⟩
theorem dRun_goToBook_44 : Dc mRun_goToBook 44 (.iconst 0) 1 45 := ⟨by decide +kernel, rfl⟩
theorem dRun_goToBook_45 : Dc mRun_goToBook 45 .ireturn 1 46 := ⟨by decide +kernel, rfl⟩
theorem dRun_goToBook_46 : Dc mRun_goToBook 46 (.aload_n 1) 1 47 := ⟨by decide +kernel, rfl⟩
theorem dRun_goToBook_47 : Dc mRun_goToBook 47 (.getfield 172) 3 50 := ⟨by decide +kernel, rfl⟩
theorem dRun_goToBook_50 : Dc mRun_goToBook 50 (.bipush 6) 2 52 := ⟨by decide +kernel, rfl⟩
theorem dRun_goToBook_52 : Db mRun_goToBook 52 (.if_icmp .ne) 65 55 := ⟨13, by decide +kernel, by decide, rfl⟩
theorem dRun_goToBook_55 : Dc mRun_goToBook 55 (.iload 4) 2 57 := ⟨by decide +kernel, rfl⟩
theorem dRun_goToBook_57 : Db mRun_goToBook 57 (.ifCond .le) 65 60 := ⟨8, by decide +kernel, by decide, rfl⟩
theorem dRun_goToBook_60 : Dc mRun_goToBook 60 (.iload 4) 2 62 := ⟨by decide +kernel, rfl⟩
theorem dRun_goToBook_62 : Db mRun_goToBook 62 .goto 66 65 := ⟨4, by decide +kernel, by decide, rfl⟩
theorem dRun_goToBook_65 : Dc mRun_goToBook 65 (.iconst (-1)) 1 66 := ⟨by decide +kernel, rfl⟩
theorem dRun_goToBook_66 : Dc mRun_goToBook 66 .ireturn 1 67 := ⟨by decide +kernel, rfl⟩
theorem dRun_hasErred_0 : Dc mRun_hasErred 0 (.aload_n 0) 1 1 := ⟨by decide +kernel, rfl⟩
theorem dRun_hasErred_1 : Dc mRun_hasErred 1 (.getfield 70) 3 4 := ⟨by decide +kernel, rfl⟩
theorem dRun_hasErred_4 : Db mRun_hasErred 4 (.ifCond .eq) 11 7 := ⟨7, by decide +kernel, by decide, rfl⟩
theorem dRun_hasErred_7 : Dc mRun_hasErred 7 (.iconst 1) 1 8 := ⟨by decide +kernel, rfl⟩
theorem dRun_hasErred_8 : Db mRun_hasErred 8 .goto 12 11 := ⟨4, by decide +kernel, by decide, rfl⟩
theorem dRun_hasErred_11 : Dc mRun_hasErred 11 (.iconst 0) 1 12 := ⟨by decide +kernel, rfl⟩
theorem dRun_hasErred_12 : Dc mRun_hasErred 12 .ireturn 1 13 := ⟨by decide +kernel, rfl⟩
theorem dRun_errAnswer_0 : Dc mRun_errAnswer 0 (.bipush (-10)) 2 2 := ⟨by decide +kernel, rfl⟩
theorem dRun_errAnswer_2 : Dc mRun_errAnswer 2 (.aload_n 0) 1 3 := ⟨by decide +kernel, rfl⟩
theorem dRun_errAnswer_3 : Dc mRun_errAnswer 3 (.getfield 73) 3 6 := ⟨by decide +kernel, rfl⟩
theorem dRun_errAnswer_6 : Dc mRun_errAnswer 6 .isub 1 7 := ⟨by decide +kernel, rfl⟩
theorem dRun_errAnswer_7 : Dc mRun_errAnswer 7 .ireturn 1 8 := ⟨by decide +kernel, rfl⟩
theorem dX_trace_0 : Dc mX_trace 0 (.aload_n 0) 1 1 := ⟨by decide +kernel, rfl⟩
theorem dX_trace_1 : Dc mX_trace 1 (.getfield 71) 3 4 := ⟨by decide +kernel, rfl⟩
theorem dX_trace_4 : Dc mX_trace 4 (.getfield 202) 3 7 := ⟨by decide +kernel, rfl⟩
theorem dX_trace_7 : Dc mX_trace 7 (.iload_n 1) 1 8 := ⟨by decide +kernel, rfl⟩
theorem dX_trace_8 : Dc mX_trace 8 (.iload_n 2) 1 9 := ⟨by decide +kernel, rfl⟩
theorem dX_trace_9 : Dc mX_trace 9 (.invokevirtual 206) 3 12 := ⟨by decide +kernel, rfl⟩
theorem dX_trace_12 : Dc mX_trace 12 .ireturn 1 13 := ⟨by decide +kernel, rfl⟩
theorem dTrc_at_0 : Dc mTrc_at 0 (.iload_n 1) 1 1 := ⟨by decide +kernel, rfl⟩
theorem dTrc_at_1 : Db mTrc_at 1 (.ifCond .lt) 12 4 := ⟨11, by decide +kernel, by decide, rfl⟩
theorem dTrc_at_4 : Dc mTrc_at 4 (.iload_n 1) 1 5 := ⟨by decide +kernel, rfl⟩
theorem dTrc_at_5 : Dc mTrc_at 5 (.aload_n 0) 1 6 := ⟨by decide +kernel, rfl⟩
theorem dTrc_at_6 : Dc mTrc_at 6 (.getfield 21) 3 9 := ⟨by decide +kernel, rfl⟩
theorem dTrc_at_9 : Db mTrc_at 9 (.if_icmp .lt) 15 12 := ⟨6, by decide +kernel, by decide, rfl⟩
theorem dTrc_at_12 : Dc mTrc_at 12 (.bipush (-4)) 2 14 := ⟨by decide +kernel, rfl⟩
theorem dTrc_at_14 : Dc mTrc_at 14 .ireturn 1 15 := ⟨by decide +kernel, rfl⟩
theorem dTrc_at_15 : Dc mTrc_at 15 (.iload_n 2) 1 16 := ⟨by decide +kernel, rfl⟩
theorem dTrc_at_16 : Dc mTrc_at 16 (.tableswitch (49) (0) (2) #[28, 35, 42]) 28 44 := ⟨by decide +kernel, rfl⟩
theorem dTrc_at_44 : Dc mTrc_at 44 (.aload_n 0) 1 45 := ⟨by decide +kernel, rfl⟩
theorem dTrc_at_45 : Dc mTrc_at 45 (.getfield 9) 3 48 := ⟨by decide +kernel, rfl⟩
theorem dTrc_at_48 : Dc mTrc_at 48 (.iload_n 1) 1 49 := ⟨by decide +kernel, rfl⟩
theorem dTrc_at_49 : Dc mTrc_at 49 .iaload 1 50 := ⟨by decide +kernel, rfl⟩
theorem dTrc_at_50 : Dc mTrc_at 50 .ireturn 1 51 := ⟨by decide +kernel, rfl⟩
theorem dTrc_at_51 : Dc mTrc_at 51 (.aload_n 0) 1 52 := ⟨by decide +kernel, rfl⟩
theorem dTrc_at_52 : Dc mTrc_at 52 (.getfield 15) 3 55 := ⟨by decide +kernel, rfl⟩
theorem dTrc_at_55 : Dc mTrc_at 55 (.iload_n 1) 1 56 := ⟨by decide +kernel, rfl⟩
theorem dTrc_at_56 : Dc mTrc_at 56 .iaload 1 57 := ⟨by decide +kernel, rfl⟩
theorem dTrc_at_57 : Dc mTrc_at 57 .ireturn 1 58 := ⟨by decide +kernel, rfl⟩
theorem dTrc_at_58 : Dc mTrc_at 58 (.aload_n 0) 1 59 := ⟨by decide +kernel, rfl⟩
theorem dTrc_at_59 : Dc mTrc_at 59 (.getfield 18) 3 62 := ⟨by decide +kernel, rfl⟩
theorem dTrc_at_62 : Dc mTrc_at 62 (.iload_n 1) 1 63 := ⟨by decide +kernel, rfl⟩
theorem dTrc_at_63 : Dc mTrc_at 63 .iaload 1 64 := ⟨by decide +kernel, rfl⟩
theorem dTrc_at_64 : Dc mTrc_at 64 .ireturn 1 65 := ⟨by decide +kernel, rfl⟩
theorem dTrc_at_65 : Dc mTrc_at 65 (.bipush (-4)) 2 67 := ⟨by decide +kernel, rfl⟩
theorem dTrc_at_67 : Dc mTrc_at 67 .ireturn 1 68 := ⟨by decide +kernel, rfl⟩
theorem dX_erred_0 : Dc mX_erred 0 (.aload_n 0) 1 1 := ⟨by decide +kernel, rfl⟩
theorem dX_erred_1 : Dc mX_erred 1 (.getfield 71) 3 4 := ⟨by decide +kernel, rfl⟩
theorem dX_erred_4 : Dc mX_erred 4 (.getfield 212) 3 7 := ⟨by decide +kernel, rfl⟩
theorem dX_erred_7 : Dc mX_erred 7 .ireturn 1 8 := ⟨by decide +kernel, rfl⟩
theorem dX_action_0 : Dc mX_action 0 (.bipush 6) 2 2 := ⟨by decide +kernel, rfl⟩
theorem dX_action_2 : Dc mX_action 2 (.newarray .int) 2 4 := ⟨by decide +kernel, rfl⟩
theorem dX_action_4 : Dc mX_action 4 .dup 1 5 := ⟨by decide +kernel, rfl⟩
theorem dX_action_5 : Dc mX_action 5 (.iconst 0) 1 6 := ⟨by decide +kernel, rfl⟩
theorem dX_action_6 : Dc mX_action 6 (.iload_n 1) 1 7 := ⟨by decide +kernel, rfl⟩
theorem dX_action_7 : Dc mX_action 7 .iastore 1 8 := ⟨by decide +kernel, rfl⟩
theorem dX_action_8 : Dc mX_action 8 .dup 1 9 := ⟨by decide +kernel, rfl⟩
theorem dX_action_9 : Dc mX_action 9 (.iconst 1) 1 10 := ⟨by decide +kernel, rfl⟩
theorem dX_action_10 : Dc mX_action 10 (.iload_n 2) 1 11 := ⟨by decide +kernel, rfl⟩
theorem dX_action_11 : Dc mX_action 11 .iastore 1 12 := ⟨by decide +kernel, rfl⟩
theorem dX_action_12 : Dc mX_action 12 .dup 1 13 := ⟨by decide +kernel, rfl⟩
theorem dX_action_13 : Dc mX_action 13 (.iconst 2) 1 14 := ⟨by decide +kernel, rfl⟩
theorem dX_action_14 : Dc mX_action 14 (.iload_n 3) 1 15 := ⟨by decide +kernel, rfl⟩
theorem dX_action_15 : Dc mX_action 15 .iastore 1 16 := ⟨by decide +kernel, rfl⟩
theorem dX_action_16 : Dc mX_action 16 .dup 1 17 := ⟨by decide +kernel, rfl⟩
theorem dX_action_17 : Dc mX_action 17 (.iconst 3) 1 18 := ⟨by decide +kernel, rfl⟩
theorem dX_action_18 : Dc mX_action 18 (.iload 4) 2 20 := ⟨by decide +kernel, rfl⟩
theorem dX_action_20 : Dc mX_action 20 .iastore 1 21 := ⟨by decide +kernel, rfl⟩
theorem dX_action_21 : Dc mX_action 21 .dup 1 22 := ⟨by decide +kernel, rfl⟩
theorem dX_action_22 : Dc mX_action 22 (.iconst 4) 1 23 := ⟨by decide +kernel, rfl⟩
theorem dX_action_23 : Dc mX_action 23 (.iload 5) 2 25 := ⟨by decide +kernel, rfl⟩
theorem dX_action_25 : Dc mX_action 25 .iastore 1 26 := ⟨by decide +kernel, rfl⟩
theorem dX_action_26 : Dc mX_action 26 .dup 1 27 := ⟨by decide +kernel, rfl⟩
theorem dX_action_27 : Dc mX_action 27 (.iconst 5) 1 28 := ⟨by decide +kernel, rfl⟩
theorem dX_action_28 : Dc mX_action 28 (.iload 6) 2 30 := ⟨by decide +kernel, rfl⟩
theorem dX_action_30 : Dc mX_action 30 .iastore 1 31 := ⟨by decide +kernel, rfl⟩
theorem dX_action_31 : Dc mX_action 31 (.astore 7) 2 33 := ⟨by decide +kernel, rfl⟩
theorem dX_action_33 : Dc mX_action 33 (.aload_n 0) 1 34 := ⟨by decide +kernel, rfl⟩
theorem dX_action_34 : Dc mX_action 34 (.aload 7) 2 36 := ⟨by decide +kernel, rfl⟩
theorem dX_action_36 : Dc mX_action 36 (.invokevirtual 215) 3 39 := ⟨by decide +kernel, rfl⟩
theorem dX_action_39 : Db mX_action 39 (.ifCond .ne) 44 42 := ⟨5, by decide +kernel, by decide, rfl⟩
theorem dX_action_42 : Dc mX_action 42 (.iconst (-1)) 1 43 := ⟨by decide +kernel, rfl⟩
theorem dX_action_43 : Dc mX_action 43 .ireturn 1 44 := ⟨by decide +kernel, rfl⟩
theorem dX_action_44 : Dc mX_action 44 (.aload_n 0) 1 45 := ⟨by decide +kernel, rfl⟩
theorem dX_action_45 : Dc mX_action 45 (.getfield 219) 3 48 := ⟨by decide +kernel, rfl⟩
theorem dX_action_48 : Dc mX_action 48 (.bipush 8) 2 50 := ⟨by decide +kernel, rfl⟩
theorem dX_action_50 : Db mX_action 50 (.if_icmp .lt) 56 53 := ⟨6, by decide +kernel, by decide, rfl⟩
theorem dX_action_53 : Dc mX_action 53 (.bipush (-3)) 2 55 := ⟨by decide +kernel, rfl⟩
theorem dX_action_55 : Dc mX_action 55 .ireturn 1 56 := ⟨by decide +kernel, rfl⟩
theorem dX_action_56 : Dc mX_action 56 (.aload_n 0) 1 57 := ⟨by decide +kernel, rfl⟩
theorem dX_action_57 : Dc mX_action 57 (.getfield 31) 3 60 := ⟨by decide +kernel, rfl⟩
theorem dX_action_60 : Dc mX_action 60 (.aload_n 0) 1 61 := ⟨by decide +kernel, rfl⟩
theorem dX_action_61 : Dc mX_action 61 (.getfield 219) 3 64 := ⟨by decide +kernel, rfl⟩
theorem dX_action_64 : Dc mX_action 64 (.aload 7) 2 66 := ⟨by decide +kernel, rfl⟩
theorem dX_action_66 : Dc mX_action 66 .aastore 1 67 := ⟨by decide +kernel, rfl⟩
theorem dX_action_67 : Dc mX_action 67 (.aload_n 0) 1 68 := ⟨by decide +kernel, rfl⟩
theorem dX_action_68 : Dc mX_action 68 .dup 1 69 := ⟨by decide +kernel, rfl⟩
theorem dX_action_69 : Dc mX_action 69 (.getfield 219) 3 72 := ⟨by decide +kernel, rfl⟩
theorem dX_action_72 : Dc mX_action 72 (.iconst 1) 1 73 := ⟨by decide +kernel, rfl⟩
theorem dX_action_73 : Dc mX_action 73 .iadd 1 74 := ⟨by decide +kernel, rfl⟩
theorem dX_action_74 : Dc mX_action 74 (.putfield 219) 3 77 := ⟨by decide +kernel, rfl⟩
theorem dX_action_77 : Dc mX_action 77 (.aload_n 0) 1 78 := ⟨by decide +kernel, rfl⟩
theorem dX_action_78 : Dc mX_action 78 (.getfield 219) 3 81 := ⟨by decide +kernel, rfl⟩
theorem dX_action_81 : Dc mX_action 81 (.iconst 1) 1 82 := ⟨by decide +kernel, rfl⟩
theorem dX_action_82 : Dc mX_action 82 .isub 1 83 := ⟨by decide +kernel, rfl⟩
theorem dX_action_83 : Dc mX_action 83 .ireturn 1 84 := ⟨by decide +kernel, rfl⟩
theorem dX_areBooksOrNone_0 : Dc mX_areBooksOrNone 0 (.iconst 0) 1 1 := ⟨by decide +kernel, rfl⟩
theorem dX_areBooksOrNone_1 : Dc mX_areBooksOrNone 1 (.istore_n 2) 1 2 := ⟨by decide +kernel, rfl⟩
theorem dX_areBooksOrNone_2 : Dc mX_areBooksOrNone 2 (.iload_n 2) 1 3 := ⟨by decide +kernel, rfl⟩
theorem dX_areBooksOrNone_3 : Dc mX_areBooksOrNone 3 (.aload_n 1) 1 4 := ⟨by decide +kernel, rfl⟩
theorem dX_areBooksOrNone_4 : Dc mX_areBooksOrNone 4 .arraylength 1 5 := ⟨by decide +kernel, rfl⟩
theorem dX_areBooksOrNone_5 : Db mX_areBooksOrNone 5 (.if_icmp .ge) 26 8 := ⟨21, by decide +kernel, by decide, rfl⟩
theorem dX_areBooksOrNone_8 : Dc mX_areBooksOrNone 8 (.aload_n 0) 1 9 := ⟨by decide +kernel, rfl⟩
theorem dX_areBooksOrNone_9 : Dc mX_areBooksOrNone 9 (.aload_n 1) 1 10 := ⟨by decide +kernel, rfl⟩
theorem dX_areBooksOrNone_10 : Dc mX_areBooksOrNone 10 (.iload_n 2) 1 11 := ⟨by decide +kernel, rfl⟩
theorem dX_areBooksOrNone_11 : Dc mX_areBooksOrNone 11 .iaload 1 12 := ⟨by decide +kernel, rfl⟩
theorem dX_areBooksOrNone_12 : Dc mX_areBooksOrNone 12 (.invokevirtual 250) 3 15 := ⟨by decide +kernel, rfl⟩
theorem dX_areBooksOrNone_15 : Db mX_areBooksOrNone 15 (.ifCond .ne) 20 18 := ⟨5, by decide +kernel, by decide, rfl⟩
theorem dX_areBooksOrNone_18 : Dc mX_areBooksOrNone 18 (.iconst 0) 1 19 := ⟨by decide +kernel, rfl⟩
theorem dX_areBooksOrNone_19 : Dc mX_areBooksOrNone 19 .ireturn 1 20 := ⟨by decide +kernel, rfl⟩
theorem dX_areBooksOrNone_20 : Dc mX_areBooksOrNone 20 (.iinc 2 1) 3 23 := ⟨by decide +kernel, rfl⟩
theorem dX_areBooksOrNone_23 : Db mX_areBooksOrNone 23 .goto 2 26 := ⟨(-21), by decide +kernel, by decide, rfl⟩
theorem dX_areBooksOrNone_26 : Dc mX_areBooksOrNone 26 (.iconst 1) 1 27 := ⟨by decide +kernel, rfl⟩
theorem dX_areBooksOrNone_27 : Dc mX_areBooksOrNone 27 .ireturn 1 28 := ⟨by decide +kernel, rfl⟩
theorem dX_isBookOrNone_0 : Dc mX_isBookOrNone 0 (.iload_n 1) 1 1 := ⟨by decide +kernel, rfl⟩
theorem dX_isBookOrNone_1 : Dc mX_isBookOrNone 1 (.bipush (-4)) 2 3 := ⟨by decide +kernel, rfl⟩
theorem dX_isBookOrNone_3 : Db mX_isBookOrNone 3 (.if_icmp .eq) 14 6 := ⟨11, by decide +kernel, by decide, rfl⟩
theorem dX_isBookOrNone_6 : Dc mX_isBookOrNone 6 (.aload_n 0) 1 7 := ⟨by decide +kernel, rfl⟩
theorem dX_isBookOrNone_7 : Dc mX_isBookOrNone 7 (.iload_n 1) 1 8 := ⟨by decide +kernel, rfl⟩
theorem dX_isBookOrNone_8 : Dc mX_isBookOrNone 8 (.invokevirtual 116) 3 11 := ⟨by decide +kernel, rfl⟩
theorem dX_isBookOrNone_11 : Db mX_isBookOrNone 11 .ifnull 18 14 := ⟨7, by decide +kernel, by decide, rfl⟩
theorem dX_isBookOrNone_14 : Dc mX_isBookOrNone 14 (.iconst 1) 1 15 := ⟨by decide +kernel, rfl⟩
theorem dX_isBookOrNone_15 : Db mX_isBookOrNone 15 .goto 19 18 := ⟨4, by decide +kernel, by decide, rfl⟩
theorem dX_isBookOrNone_18 : Dc mX_isBookOrNone 18 (.iconst 0) 1 19 := ⟨by decide +kernel, rfl⟩
theorem dX_isBookOrNone_19 : Dc mX_isBookOrNone 19 .ireturn 1 20 := ⟨by decide +kernel, rfl⟩
theorem dX_act_0 : Dc mX_act 0 (.aload_n 0) 1 1 := ⟨by decide +kernel, rfl⟩
theorem dX_act_1 : Dc mX_act 1 (.iload_n 2) 1 2 := ⟨by decide +kernel, rfl⟩
theorem dX_act_2 : Dc mX_act 2 (.invokevirtual 103) 3 5 := ⟨by decide +kernel, rfl⟩
theorem dX_act_5 : Dc mX_act 5 (.astore_n 3) 1 6 := ⟨by decide +kernel, rfl⟩
theorem dX_act_6 : Dc mX_act 6 (.iload_n 1) 1 7 := ⟨by decide +kernel, rfl⟩
theorem dX_act_7 : Db mX_act 7 (.ifCond .lt) 22 10 := ⟨15, by decide +kernel, by decide, rfl⟩
theorem dX_act_10 : Dc mX_act 10 (.iload_n 1) 1 11 := ⟨by decide +kernel, rfl⟩
theorem dX_act_11 : Dc mX_act 11 (.aload_n 0) 1 12 := ⟨by decide +kernel, rfl⟩
theorem dX_act_12 : Dc mX_act 12 (.getfield 219) 3 15 := ⟨by decide +kernel, rfl⟩
theorem dX_act_15 : Db mX_act 15 (.if_icmp .ge) 22 18 := ⟨7, by decide +kernel, by decide, rfl⟩
theorem dX_act_18 : Dc mX_act 18 (.aload_n 3) 1 19 := ⟨by decide +kernel, rfl⟩
theorem dX_act_19 : Db mX_act 19 .ifnonnull 24 22 := ⟨5, by decide +kernel, by decide, rfl⟩
theorem dX_act_22 : Dc mX_act 22 (.iconst (-1)) 1 23 := ⟨by decide +kernel, rfl⟩
theorem dX_act_23 : Dc mX_act 23 .ireturn 1 24 := ⟨by decide +kernel, rfl⟩
theorem dX_act_24 : Dc mX_act 24 (.aload_n 0) 1 25 := ⟨by decide +kernel, rfl⟩
theorem dX_act_25 : Dc mX_act 25 (.getfield 71) 3 28 := ⟨by decide +kernel, rfl⟩
theorem dX_act_28 : Dc mX_act 28 (.aload_n 0) 1 29 := ⟨by decide +kernel, rfl⟩
theorem dX_act_29 : Dc mX_act 29 (.getfield 31) 3 32 := ⟨by decide +kernel, rfl⟩
theorem dX_act_32 : Dc mX_act 32 (.iload_n 1) 1 33 := ⟨by decide +kernel, rfl⟩
theorem dX_act_33 : Dc mX_act 33 .aaload 1 34 := ⟨by decide +kernel, rfl⟩
theorem dX_act_34 : Dc mX_act 34 (.aload_n 3) 1 35 := ⟨by decide +kernel, rfl⟩
theorem dX_act_35 : Dc mX_act 35 (.invokevirtual 222) 3 38 := ⟨by decide +kernel, rfl⟩
theorem dX_act_38 : Dc mX_act 38 .ireturn 1 39 := ⟨by decide +kernel, rfl⟩
theorem dRun_answerOfStages_0 : Dc mRun_answerOfStages 0 (.iconst 0) 1 1 := ⟨by decide +kernel, rfl⟩
theorem dRun_answerOfStages_1 : Dc mRun_answerOfStages 1 (.istore_n 3) 1 2 := ⟨by decide +kernel, rfl⟩
theorem dRun_answerOfStages_2 : Dc mRun_answerOfStages 2 (.iconst 0) 1 3 := ⟨by decide +kernel, rfl⟩
theorem dRun_answerOfStages_3 : Dc mRun_answerOfStages 3 (.istore 4) 2 5 := ⟨by decide +kernel, rfl⟩
theorem dRun_answerOfStages_5 : Dc mRun_answerOfStages 5 (.iload 4) 2 7 := ⟨by decide +kernel, rfl⟩
theorem dRun_answerOfStages_7 : Dc mRun_answerOfStages 7 (.aload_n 1) 1 8 := ⟨by decide +kernel, rfl⟩
theorem dRun_answerOfStages_8 : Dc mRun_answerOfStages 8 .arraylength 1 9 := ⟨by decide +kernel, rfl⟩
theorem dRun_answerOfStages_9 : Db mRun_answerOfStages 9 (.if_icmp .ge) 114 12 := ⟨105, by decide +kernel, by decide, rfl⟩
theorem dRun_answerOfStages_12 : Dc mRun_answerOfStages 12 (.aload_n 1) 1 13 := ⟨by decide +kernel, rfl⟩
theorem dRun_answerOfStages_13 : Dc mRun_answerOfStages 13 (.iload 4) 2 15 := ⟨by decide +kernel, rfl⟩
theorem dRun_answerOfStages_15 : Dc mRun_answerOfStages 15 .iaload 1 16 := ⟨by decide +kernel, rfl⟩
theorem dRun_answerOfStages_16 : Dc mRun_answerOfStages 16 (.istore 5) 2 18 := ⟨by decide +kernel, rfl⟩
theorem dRun_answerOfStages_18 : Dc mRun_answerOfStages 18 (.iload 5) 2 20 := ⟨by decide +kernel, rfl⟩
theorem dRun_answerOfStages_20 : Db mRun_answerOfStages 20 (.ifCond .lt) 108 23 := ⟨88, by decide +kernel, by decide, rfl⟩
theorem dRun_answerOfStages_23 : Dc mRun_answerOfStages 23 (.iload 5) 2 25 := ⟨by decide +kernel, rfl⟩
theorem dRun_answerOfStages_25 : Dc mRun_answerOfStages 25 (.aload_n 0) 1 26 := ⟨by decide +kernel, rfl⟩
theorem dRun_answerOfStages_26 : Dc mRun_answerOfStages 26 (.getfield 28) 3 29 := ⟨by decide +kernel, rfl⟩
theorem dRun_answerOfStages_29 : Dc mRun_answerOfStages 29 (.invokevirtual 58) 3 32 := ⟨by decide +kernel, rfl⟩
theorem dRun_answerOfStages_32 : Db mRun_answerOfStages 32 (.if_icmp .lt) 38 35 := ⟨6, by decide +kernel, by decide, rfl⟩
theorem dRun_answerOfStages_35 : Db mRun_answerOfStages 35 .goto 108 38 := ⟨73, by decide +kernel, by decide, rfl⟩
theorem dRun_answerOfStages_38 : Dc mRun_answerOfStages 38 (.iload_n 3) 1 39 := ⟨by decide +kernel, rfl⟩
theorem dRun_answerOfStages_39 : Db mRun_answerOfStages 39 (.ifCond .ne) 48 42 := ⟨9, by decide +kernel, by decide, rfl⟩
theorem dRun_answerOfStages_42 : Dc mRun_answerOfStages 42 (.aload_n 0) 1 43 := ⟨by decide +kernel, rfl⟩
theorem dRun_answerOfStages_43 : Dc mRun_answerOfStages 43 (.invokevirtual 37) 3 46 := ⟨by decide +kernel, rfl⟩
theorem dRun_answerOfStages_46 : Dc mRun_answerOfStages 46 (.iconst 1) 1 47 := ⟨by decide +kernel, rfl⟩
theorem dRun_answerOfStages_47 : Dc mRun_answerOfStages 47 (.istore_n 3) 1 48 := ⟨by decide +kernel, rfl⟩
theorem dRun_answerOfStages_48 : Dc mRun_answerOfStages 48 (.aload_n 0) 1 49 := ⟨by decide +kernel, rfl⟩
theorem dRun_answerOfStages_49 : Dc mRun_answerOfStages 49 (.aload_n 0) 1 50 := ⟨by decide +kernel, rfl⟩
theorem dRun_answerOfStages_50 : Dc mRun_answerOfStages 50 (.getfield 28) 3 53 := ⟨by decide +kernel, rfl⟩
theorem dRun_answerOfStages_53 : Dc mRun_answerOfStages 53 (.iload 5) 2 55 := ⟨by decide +kernel, rfl⟩
theorem dRun_answerOfStages_55 : Dc mRun_answerOfStages 55 (.invokevirtual 63) 3 58 := ⟨by decide +kernel, rfl⟩
theorem dRun_answerOfStages_58 : Dc mRun_answerOfStages 58 (.checkcast 53) 3 61 := ⟨by decide +kernel, rfl⟩
theorem dRun_answerOfStages_61 : Dc mRun_answerOfStages 61 (.aload_n 2) 1 62 := ⟨by decide +kernel, rfl⟩
theorem dRun_answerOfStages_62 : Dc mRun_answerOfStages 62 (.iconst 1) 1 63 := ⟨by decide +kernel, rfl⟩
theorem dRun_answerOfStages_63 : Dc mRun_answerOfStages 63 (.invokevirtual 40) 3 66 := ⟨by decide +kernel, rfl⟩
theorem dRun_answerOfStages_66 : Dc mRun_answerOfStages 66 (.istore 6) 2 68 := ⟨by decide +kernel, rfl⟩
theorem dRun_answerOfStages_68 : Dc mRun_answerOfStages 68 (.aload_n 0) 1 69 := ⟨by decide +kernel, rfl⟩
theorem dRun_answerOfStages_69 : Dc mRun_answerOfStages 69 (.invokevirtual 44) 3 72 := ⟨by decide +kernel, rfl⟩
theorem dRun_answerOfStages_72 : Db mRun_answerOfStages 72 (.ifCond .eq) 80 75 := ⟨8, by decide +kernel, by decide, rfl⟩
theorem dRun_answerOfStages_75 : Dc mRun_answerOfStages 75 (.aload_n 0) 1 76 := ⟨by decide +kernel, rfl⟩
theorem dRun_answerOfStages_76 : Dc mRun_answerOfStages 76 (.invokevirtual 48) 3 79 := ⟨by decide +kernel, rfl⟩
theorem dRun_answerOfStages_79 : Dc mRun_answerOfStages 79 .ireturn 1 80 := ⟨by decide +kernel, rfl⟩
theorem dRun_answerOfStages_80 : Dc mRun_answerOfStages 80 (.iload 6) 2 82 := ⟨by decide +kernel, rfl⟩
theorem dRun_answerOfStages_82 : Db mRun_answerOfStages 82 (.ifCond .le) 108 85 := ⟨26, by decide +kernel, by decide, rfl⟩
theorem dRun_answerOfStages_85 : Dc mRun_answerOfStages 85 (.iload 4) 2 87 := ⟨by decide +kernel, rfl⟩
theorem dRun_answerOfStages_87 : Dc mRun_answerOfStages 87 (.iconst 3) 1 88 := ⟨by decide +kernel, rfl⟩
theorem dRun_answerOfStages_88 : Db mRun_answerOfStages 88 (.if_icmp .eq) 108 91 := ⟨20, by decide +kernel, by decide, rfl⟩
theorem dRun_answerOfStages_91 : Dc mRun_answerOfStages 91 (.iload 4) 2 93 := ⟨by decide +kernel, rfl⟩
theorem dRun_answerOfStages_93 : Dc mRun_answerOfStages 93 (.iconst 5) 1 94 := ⟨by decide +kernel, rfl⟩
theorem dRun_answerOfStages_94 : Db mRun_answerOfStages 94 (.if_icmp .eq) 108 97 := ⟨14, by decide +kernel, by decide, rfl⟩
theorem dRun_answerOfStages_97 : Dc mRun_answerOfStages 97 (.bipush 100) 2 99 := ⟨by decide +kernel, rfl⟩
theorem dRun_answerOfStages_99 : Dc mRun_answerOfStages 99 (.iload 4) 2 101 := ⟨by decide +kernel, rfl⟩
theorem dRun_answerOfStages_101 : Dc mRun_answerOfStages 101 (.iconst 1) 1 102 := ⟨by decide +kernel, rfl⟩
theorem dRun_answerOfStages_102 : Dc mRun_answerOfStages 102 .iadd 1 103 := ⟨by decide +kernel, rfl⟩
theorem dRun_answerOfStages_103 : Dc mRun_answerOfStages 103 .imul 1 104 := ⟨by decide +kernel, rfl⟩
theorem dRun_answerOfStages_104 : Dc mRun_answerOfStages 104 (.iload 6) 2 106 := ⟨by decide +kernel, rfl⟩
theorem dRun_answerOfStages_106 : Dc mRun_answerOfStages 106 .iadd 1 107 := ⟨by decide +kernel, rfl⟩
theorem dRun_answerOfStages_107 : Dc mRun_answerOfStages 107 .ireturn 1 108 := ⟨by decide +kernel, rfl⟩
theorem dRun_answerOfStages_108 : Dc mRun_answerOfStages 108 (.iinc 4 1) 3 111 := ⟨by decide +kernel, rfl⟩
theorem dRun_answerOfStages_111 : Db mRun_answerOfStages 111 .goto 5 114 := ⟨(-106), by decide +kernel, by decide, rfl⟩
theorem dRun_answerOfStages_114 : Dc mRun_answerOfStages 114 (.iconst 0) 1 115 := ⟨by decide +kernel, rfl⟩
theorem dRun_answerOfStages_115 : Dc mRun_answerOfStages 115 .ireturn 1 116 := ⟨by decide +kernel, rfl⟩
theorem dX_activity_0 : Dc mX_activity 0 (.iconst 3) 1 1 := ⟨by decide +kernel, rfl⟩
theorem dX_activity_1 : Dc mX_activity 1 (.newarray .int) 2 3 := ⟨by decide +kernel, rfl⟩
theorem dX_activity_3 : Dc mX_activity 3 .dup 1 4 := ⟨by decide +kernel, rfl⟩
theorem dX_activity_4 : Dc mX_activity 4 (.iconst 0) 1 5 := ⟨by decide +kernel, rfl⟩
theorem dX_activity_5 : Dc mX_activity 5 (.iload_n 1) 1 6 := ⟨by decide +kernel, rfl⟩
theorem dX_activity_6 : Dc mX_activity 6 .iastore 1 7 := ⟨by decide +kernel, rfl⟩
theorem dX_activity_7 : Dc mX_activity 7 .dup 1 8 := ⟨by decide +kernel, rfl⟩
theorem dX_activity_8 : Dc mX_activity 8 (.iconst 1) 1 9 := ⟨by decide +kernel, rfl⟩
theorem dX_activity_9 : Dc mX_activity 9 (.iload_n 2) 1 10 := ⟨by decide +kernel, rfl⟩
theorem dX_activity_10 : Dc mX_activity 10 .iastore 1 11 := ⟨by decide +kernel, rfl⟩
theorem dX_activity_11 : Dc mX_activity 11 .dup 1 12 := ⟨by decide +kernel, rfl⟩
theorem dX_activity_12 : Dc mX_activity 12 (.iconst 2) 1 13 := ⟨by decide +kernel, rfl⟩
theorem dX_activity_13 : Dc mX_activity 13 (.iload_n 3) 1 14 := ⟨by decide +kernel, rfl⟩
theorem dX_activity_14 : Dc mX_activity 14 .iastore 1 15 := ⟨by decide +kernel, rfl⟩
theorem dX_activity_15 : Dc mX_activity 15 (.astore 4) 2 17 := ⟨by decide +kernel, rfl⟩
theorem dX_activity_17 : Dc mX_activity 17 (.aload_n 0) 1 18 := ⟨by decide +kernel, rfl⟩
theorem dX_activity_18 : Dc mX_activity 18 (.aload 4) 2 20 := ⟨by decide +kernel, rfl⟩
theorem dX_activity_20 : Dc mX_activity 20 (.invokevirtual 215) 3 23 := ⟨by decide +kernel, rfl⟩
theorem dX_activity_23 : Db mX_activity 23 (.ifCond .ne) 28 26 := ⟨5, by decide +kernel, by decide, rfl⟩
theorem dX_activity_26 : Dc mX_activity 26 (.iconst (-1)) 1 27 := ⟨by decide +kernel, rfl⟩
theorem dX_activity_27 : Dc mX_activity 27 .ireturn 1 28 := ⟨by decide +kernel, rfl⟩
theorem dX_activity_28 : Dc mX_activity 28 (.aload_n 0) 1 29 := ⟨by decide +kernel, rfl⟩
theorem dX_activity_29 : Dc mX_activity 29 (.getfield 226) 3 32 := ⟨by decide +kernel, rfl⟩
theorem dX_activity_32 : Dc mX_activity 32 (.bipush 6) 2 34 := ⟨by decide +kernel, rfl⟩
theorem dX_activity_34 : Db mX_activity 34 (.if_icmp .lt) 40 37 := ⟨6, by decide +kernel, by decide, rfl⟩
theorem dX_activity_37 : Dc mX_activity 37 (.bipush (-3)) 2 39 := ⟨by decide +kernel, rfl⟩
theorem dX_activity_39 : Dc mX_activity 39 .ireturn 1 40 := ⟨by decide +kernel, rfl⟩
theorem dX_activity_40 : Dc mX_activity 40 (.aload_n 0) 1 41 := ⟨by decide +kernel, rfl⟩
theorem dX_activity_41 : Dc mX_activity 41 (.getfield 34) 3 44 := ⟨by decide +kernel, rfl⟩
theorem dX_activity_44 : Dc mX_activity 44 (.aload_n 0) 1 45 := ⟨by decide +kernel, rfl⟩
theorem dX_activity_45 : Dc mX_activity 45 (.getfield 226) 3 48 := ⟨by decide +kernel, rfl⟩
theorem dX_activity_48 : Dc mX_activity 48 (.aload 4) 2 50 := ⟨by decide +kernel, rfl⟩
theorem dX_activity_50 : Dc mX_activity 50 .aastore 1 51 := ⟨by decide +kernel, rfl⟩
theorem dX_activity_51 : Dc mX_activity 51 (.aload_n 0) 1 52 := ⟨by decide +kernel, rfl⟩
theorem dX_activity_52 : Dc mX_activity 52 .dup 1 53 := ⟨by decide +kernel, rfl⟩
theorem dX_activity_53 : Dc mX_activity 53 (.getfield 226) 3 56 := ⟨by decide +kernel, rfl⟩
theorem dX_activity_56 : Dc mX_activity 56 (.iconst 1) 1 57 := ⟨by decide +kernel, rfl⟩
theorem dX_activity_57 : Dc mX_activity 57 .iadd 1 58 := ⟨by decide +kernel, rfl⟩
theorem dX_activity_58 : Dc mX_activity 58 (.putfield 226) 3 61 := ⟨by decide +kernel, rfl⟩
theorem dX_activity_61 : Dc mX_activity 61 (.aload_n 0) 1 62 := ⟨by decide +kernel, rfl⟩
theorem dX_activity_62 : Dc mX_activity 62 (.getfield 226) 3 65 := ⟨by decide +kernel, rfl⟩
theorem dX_activity_65 : Dc mX_activity 65 (.iconst 1) 1 66 := ⟨by decide +kernel, rfl⟩
theorem dX_activity_66 : Dc mX_activity 66 .isub 1 67 := ⟨by decide +kernel, rfl⟩
theorem dX_activity_67 : Dc mX_activity 67 .ireturn 1 68 := ⟨by decide +kernel, rfl⟩
theorem dX_begin_0 : Dc mX_begin 0 (.iload_n 1) 1 1 := ⟨by decide +kernel, rfl⟩
theorem dX_begin_1 : Db mX_begin 1 (.ifCond .lt) 20 4 := ⟨19, by decide +kernel, by decide, rfl⟩
theorem dX_begin_4 : Dc mX_begin 4 (.iload_n 1) 1 5 := ⟨by decide +kernel, rfl⟩
theorem dX_begin_5 : Dc mX_begin 5 (.aload_n 0) 1 6 := ⟨by decide +kernel, rfl⟩
theorem dX_begin_6 : Dc mX_begin 6 (.getfield 226) 3 9 := ⟨by decide +kernel, rfl⟩
theorem dX_begin_9 : Db mX_begin 9 (.if_icmp .ge) 20 12 := ⟨11, by decide +kernel, by decide, rfl⟩
theorem dX_begin_12 : Dc mX_begin 12 (.aload_n 0) 1 13 := ⟨by decide +kernel, rfl⟩
theorem dX_begin_13 : Dc mX_begin 13 (.iload_n 2) 1 14 := ⟨by decide +kernel, rfl⟩
theorem dX_begin_14 : Dc mX_begin 14 (.invokevirtual 103) 3 17 := ⟨by decide +kernel, rfl⟩
theorem dX_begin_17 : Db mX_begin 17 .ifnonnull 22 20 := ⟨5, by decide +kernel, by decide, rfl⟩
theorem dX_begin_20 : Dc mX_begin 20 (.iconst (-1)) 1 21 := ⟨by decide +kernel, rfl⟩
theorem dX_begin_21 : Dc mX_begin 21 .ireturn 1 22 := ⟨by decide +kernel, rfl⟩
theorem dX_begin_22 : Dc mX_begin 22 (.aload_n 0) 1 23 := ⟨by decide +kernel, rfl⟩
theorem dX_begin_23 : Dc mX_begin 23 (.getfield 229) 3 26 := ⟨by decide +kernel, rfl⟩
theorem dX_begin_26 : Dc mX_begin 26 (.iconst 4) 1 27 := ⟨by decide +kernel, rfl⟩
theorem dX_begin_27 : Db mX_begin 27 (.if_icmp .lt) 33 30 := ⟨6, by decide +kernel, by decide, rfl⟩
theorem dX_begin_30 : Dc mX_begin 30 (.bipush (-3)) 2 32 := ⟨by decide +kernel, rfl⟩
theorem dX_begin_32 : Dc mX_begin 32 .ireturn 1 33 := ⟨by decide +kernel, rfl⟩
theorem dX_begin_33 : Dc mX_begin 33 (.aload_n 0) 1 34 := ⟨by decide +kernel, rfl⟩
theorem dX_begin_34 : Dc mX_begin 34 (.getfield 71) 3 37 := ⟨by decide +kernel, rfl⟩
theorem dX_begin_37 : Dc mX_begin 37 (.aload_n 0) 1 38 := ⟨by decide +kernel, rfl⟩
theorem dX_begin_38 : Dc mX_begin 38 (.aload_n 0) 1 39 := ⟨by decide +kernel, rfl⟩
theorem dX_begin_39 : Dc mX_begin 39 (.getfield 34) 3 42 := ⟨by decide +kernel, rfl⟩
theorem dX_begin_42 : Dc mX_begin 42 (.iload_n 1) 1 43 := ⟨by decide +kernel, rfl⟩
theorem dX_begin_43 : Dc mX_begin 43 .aaload 1 44 := ⟨by decide +kernel, rfl⟩
theorem dX_begin_44 : Dc mX_begin 44 (.iconst 0) 1 45 := ⟨by decide +kernel, rfl⟩
theorem dX_begin_45 : Dc mX_begin 45 .iaload 1 46 := ⟨by decide +kernel, rfl⟩
theorem dX_begin_46 : Dc mX_begin 46 (.invokevirtual 116) 3 49 := ⟨by decide +kernel, rfl⟩
theorem dX_begin_49 : Dc mX_begin 49 (.aload_n 0) 1 50 := ⟨by decide +kernel, rfl⟩
theorem dX_begin_50 : Dc mX_begin 50 (.iload_n 2) 1 51 := ⟨by decide +kernel, rfl⟩
theorem dX_begin_51 : Dc mX_begin 51 (.invokevirtual 103) 3 54 := ⟨by decide +kernel, rfl⟩
theorem dX_begin_54 : Dc mX_begin 54 (.invokevirtual 198) 3 57 := ⟨by decide +kernel, rfl⟩
theorem dX_begin_57 : Dc mX_begin 57 (.istore_n 3) 1 58 := ⟨by decide +kernel, rfl⟩
theorem dX_begin_58 : Dc mX_begin 58 (.iload_n 3) 1 59 := ⟨by decide +kernel, rfl⟩
theorem dX_begin_59 : Dc mX_begin 59 (.bipush (-10)) 2 61 := ⟨by decide +kernel, rfl⟩
theorem dX_begin_61 : Db mX_begin 61 (.if_icmp .le) 94 64 := ⟨33, by decide +kernel, by decide, rfl⟩
theorem dX_begin_64 : Dc mX_begin 64 (.aload_n 0) 1 65 := ⟨by decide +kernel, rfl⟩
theorem dX_begin_65 : Dc mX_begin 65 (.getfield 37) 3 68 := ⟨by decide +kernel, rfl⟩
theorem dX_begin_68 : Dc mX_begin 68 (.aload_n 0) 1 69 := ⟨by decide +kernel, rfl⟩
theorem dX_begin_69 : Dc mX_begin 69 (.getfield 229) 3 72 := ⟨by decide +kernel, rfl⟩
theorem dX_begin_72 : Dc mX_begin 72 (.iload_n 1) 1 73 := ⟨by decide +kernel, rfl⟩
theorem dX_begin_73 : Dc mX_begin 73 .iastore 1 74 := ⟨by decide +kernel, rfl⟩
theorem dX_begin_74 : Dc mX_begin 74 (.aload_n 0) 1 75 := ⟨by decide +kernel, rfl⟩
theorem dX_begin_75 : Dc mX_begin 75 (.getfield 41) 3 78 := ⟨by decide +kernel, rfl⟩
theorem dX_begin_78 : Dc mX_begin 78 (.aload_n 0) 1 79 := ⟨by decide +kernel, rfl⟩
theorem dX_begin_79 : Dc mX_begin 79 (.getfield 229) 3 82 := ⟨by decide +kernel, rfl⟩
theorem dX_begin_82 : Dc mX_begin 82 (.iload_n 2) 1 83 := ⟨by decide +kernel, rfl⟩
theorem dX_begin_83 : Dc mX_begin 83 .iastore 1 84 := ⟨by decide +kernel, rfl⟩
theorem dX_begin_84 : Dc mX_begin 84 (.aload_n 0) 1 85 := ⟨by decide +kernel, rfl⟩
theorem dX_begin_85 : Dc mX_begin 85 .dup 1 86 := ⟨by decide +kernel, rfl⟩
theorem dX_begin_86 : Dc mX_begin 86 (.getfield 229) 3 89 := ⟨by decide +kernel, rfl⟩
theorem dX_begin_89 : Dc mX_begin 89 (.iconst 1) 1 90 := ⟨by decide +kernel, rfl⟩
theorem dX_begin_90 : Dc mX_begin 90 .iadd 1 91 := ⟨by decide +kernel, rfl⟩
theorem dX_begin_91 : Dc mX_begin 91 (.putfield 229) 3 94 := ⟨by decide +kernel, rfl⟩
theorem dX_begin_94 : Dc mX_begin 94 (.iload_n 3) 1 95 := ⟨by decide +kernel, rfl⟩
theorem dX_begin_95 : Dc mX_begin 95 .ireturn 1 96 := ⟨by decide +kernel, rfl⟩
theorem dX_middle_0 : Dc mX_middle 0 (.aload_n 0) 1 1 := ⟨by decide +kernel, rfl⟩
theorem dX_middle_1 : Dc mX_middle 1 (.getfield 229) 3 4 := ⟨by decide +kernel, rfl⟩
theorem dX_middle_4 : Db mX_middle 4 (.ifCond .gt) 10 7 := ⟨6, by decide +kernel, by decide, rfl⟩
theorem dX_middle_7 : Dc mX_middle 7 (.bipush (-2)) 2 9 := ⟨by decide +kernel, rfl⟩
theorem dX_middle_9 : Dc mX_middle 9 .ireturn 1 10 := ⟨by decide +kernel, rfl⟩
theorem dX_middle_10 : Dc mX_middle 10 (.aload_n 0) 1 11 := ⟨by decide +kernel, rfl⟩
theorem dX_middle_11 : Dc mX_middle 11 (.getfield 71) 3 14 := ⟨by decide +kernel, rfl⟩
theorem dX_middle_14 : Dc mX_middle 14 (.aload_n 0) 1 15 := ⟨by decide +kernel, rfl⟩
theorem dX_middle_15 : Dc mX_middle 15 (.iconst 1) 1 16 := ⟨by decide +kernel, rfl⟩
theorem dX_middle_16 : Dc mX_middle 16 (.invokevirtual 232) 3 19 := ⟨by decide +kernel, rfl⟩
theorem dX_middle_19 : Dc mX_middle 19 (.aload_n 0) 1 20 := ⟨by decide +kernel, rfl⟩
theorem dX_middle_20 : Dc mX_middle 20 (.invokevirtual 235) 3 23 := ⟨by decide +kernel, rfl⟩
theorem dX_middle_23 : Dc mX_middle 23 (.invokevirtual 198) 3 26 := ⟨by decide +kernel, rfl⟩
theorem dX_middle_26 : Dc mX_middle 26 .ireturn 1 27 := ⟨by decide +kernel, rfl⟩
theorem dX_latestPart_0 : Dc mX_latestPart 0 (.aload_n 0) 1 1 := ⟨by decide +kernel, rfl⟩
theorem dX_latestPart_1 : Dc mX_latestPart 1 (.aload_n 0) 1 2 := ⟨by decide +kernel, rfl⟩
theorem dX_latestPart_2 : Dc mX_latestPart 2 (.getfield 34) 3 5 := ⟨by decide +kernel, rfl⟩
theorem dX_latestPart_5 : Dc mX_latestPart 5 (.aload_n 0) 1 6 := ⟨by decide +kernel, rfl⟩
theorem dX_latestPart_6 : Dc mX_latestPart 6 (.getfield 37) 3 9 := ⟨by decide +kernel, rfl⟩
theorem dX_latestPart_9 : Dc mX_latestPart 9 (.aload_n 0) 1 10 := ⟨by decide +kernel, rfl⟩
theorem dX_latestPart_10 : Dc mX_latestPart 10 (.getfield 229) 3 13 := ⟨by decide +kernel, rfl⟩
theorem dX_latestPart_13 : Dc mX_latestPart 13 (.iconst 1) 1 14 := ⟨by decide +kernel, rfl⟩
theorem dX_latestPart_14 : Dc mX_latestPart 14 .isub 1 15 := ⟨by decide +kernel, rfl⟩
theorem dX_latestPart_15 : Dc mX_latestPart 15 .iaload 1 16 := ⟨by decide +kernel, rfl⟩
theorem dX_latestPart_16 : Dc mX_latestPart 16 .aaload 1 17 := ⟨by decide +kernel, rfl⟩
theorem dX_latestPart_17 : Dc mX_latestPart 17 (.iload_n 1) 1 18 := ⟨by decide +kernel, rfl⟩
theorem dX_latestPart_18 : Dc mX_latestPart 18 .iaload 1 19 := ⟨by decide +kernel, rfl⟩
theorem dX_latestPart_19 : Dc mX_latestPart 19 (.invokevirtual 116) 3 22 := ⟨by decide +kernel, rfl⟩
theorem dX_latestPart_22 : Dc mX_latestPart 22 .areturn 1 23 := ⟨by decide +kernel, rfl⟩
theorem dX_latestSubject_0 : Dc mX_latestSubject 0 (.aload_n 0) 1 1 := ⟨by decide +kernel, rfl⟩
theorem dX_latestSubject_1 : Dc mX_latestSubject 1 (.aload_n 0) 1 2 := ⟨by decide +kernel, rfl⟩
theorem dX_latestSubject_2 : Dc mX_latestSubject 2 (.getfield 41) 3 5 := ⟨by decide +kernel, rfl⟩
theorem dX_latestSubject_5 : Dc mX_latestSubject 5 (.aload_n 0) 1 6 := ⟨by decide +kernel, rfl⟩
theorem dX_latestSubject_6 : Dc mX_latestSubject 6 (.getfield 229) 3 9 := ⟨by decide +kernel, rfl⟩
theorem dX_latestSubject_9 : Dc mX_latestSubject 9 (.iconst 1) 1 10 := ⟨by decide +kernel, rfl⟩
theorem dX_latestSubject_10 : Dc mX_latestSubject 10 .isub 1 11 := ⟨by decide +kernel, rfl⟩
theorem dX_latestSubject_11 : Dc mX_latestSubject 11 .iaload 1 12 := ⟨by decide +kernel, rfl⟩
theorem dX_latestSubject_12 : Dc mX_latestSubject 12 (.invokevirtual 103) 3 15 := ⟨by decide +kernel, rfl⟩
theorem dX_latestSubject_15 : Dc mX_latestSubject 15 .areturn 1 16 := ⟨by decide +kernel, rfl⟩
theorem dX_finish_0 : Dc mX_finish 0 (.aload_n 0) 1 1 := ⟨by decide +kernel, rfl⟩
theorem dX_finish_1 : Dc mX_finish 1 (.getfield 229) 3 4 := ⟨by decide +kernel, rfl⟩
theorem dX_finish_4 : Db mX_finish 4 (.ifCond .gt) 10 7 := ⟨6, by decide +kernel, by decide, rfl⟩
theorem dX_finish_7 : Dc mX_finish 7 (.bipush (-2)) 2 9 := ⟨by decide +kernel, rfl⟩
theorem dX_finish_9 : Dc mX_finish 9 .ireturn 1 10 := ⟨by decide +kernel, rfl⟩
theorem dX_finish_10 : Dc mX_finish 10 (.aload_n 0) 1 11 := ⟨by decide +kernel, rfl⟩
theorem dX_finish_11 : Dc mX_finish 11 (.getfield 71) 3 14 := ⟨by decide +kernel, rfl⟩
theorem dX_finish_14 : Dc mX_finish 14 (.aload_n 0) 1 15 := ⟨by decide +kernel, rfl⟩
theorem dX_finish_15 : Dc mX_finish 15 (.iconst 2) 1 16 := ⟨by decide +kernel, rfl⟩
theorem dX_finish_16 : Dc mX_finish 16 (.invokevirtual 232) 3 19 := ⟨by decide +kernel, rfl⟩
theorem dX_finish_19 : Dc mX_finish 19 (.aload_n 0) 1 20 := ⟨by decide +kernel, rfl⟩
theorem dX_finish_20 : Dc mX_finish 20 (.invokevirtual 235) 3 23 := ⟨by decide +kernel, rfl⟩
theorem dX_finish_23 : Dc mX_finish 23 (.invokevirtual 198) 3 26 := ⟨by decide +kernel, rfl⟩
theorem dX_finish_26 : Dc mX_finish 26 (.istore_n 1) 1 27 := ⟨by decide +kernel, rfl⟩
theorem dX_finish_27 : Dc mX_finish 27 (.aload_n 0) 1 28 := ⟨by decide +kernel, rfl⟩
theorem dX_finish_28 : Dc mX_finish 28 .dup 1 29 := ⟨by decide +kernel, rfl⟩
theorem dX_finish_29 : Dc mX_finish 29 (.getfield 229) 3 32 := ⟨by decide +kernel, rfl⟩
theorem dX_finish_32 : Dc mX_finish 32 (.iconst 1) 1 33 := ⟨by decide +kernel, rfl⟩
theorem dX_finish_33 : Dc mX_finish 33 .isub 1 34 := ⟨by decide +kernel, rfl⟩
theorem dX_finish_34 : Dc mX_finish 34 (.putfield 229) 3 37 := ⟨by decide +kernel, rfl⟩
theorem dX_finish_37 : Dc mX_finish 37 (.iload_n 1) 1 38 := ⟨by decide +kernel, rfl⟩
theorem dX_finish_38 : Dc mX_finish 38 .ireturn 1 39 := ⟨by decide +kernel, rfl⟩
theorem dX_abandon_0 : Dc mX_abandon 0 (.aload_n 0) 1 1 := ⟨by decide +kernel, rfl⟩
theorem dX_abandon_1 : Dc mX_abandon 1 (.getfield 229) 3 4 := ⟨by decide +kernel, rfl⟩
theorem dX_abandon_4 : Db mX_abandon 4 (.ifCond .gt) 10 7 := ⟨6, by decide +kernel, by decide, rfl⟩
theorem dX_abandon_7 : Dc mX_abandon 7 (.bipush (-2)) 2 9 := ⟨by decide +kernel, rfl⟩
theorem dX_abandon_9 : Dc mX_abandon 9 .ireturn 1 10 := ⟨by decide +kernel, rfl⟩
theorem dX_abandon_10 : Dc mX_abandon 10 (.aload_n 0) 1 11 := ⟨by decide +kernel, rfl⟩
theorem dX_abandon_11 : Dc mX_abandon 11 .dup 1 12 := ⟨by decide +kernel, rfl⟩
theorem dX_abandon_12 : Dc mX_abandon 12 (.getfield 229) 3 15 := ⟨by decide +kernel, rfl⟩
theorem dX_abandon_15 : Dc mX_abandon 15 (.iconst 1) 1 16 := ⟨by decide +kernel, rfl⟩
theorem dX_abandon_16 : Dc mX_abandon 16 .isub 1 17 := ⟨by decide +kernel, rfl⟩
theorem dX_abandon_17 : Dc mX_abandon 17 (.putfield 229) 3 20 := ⟨by decide +kernel, rfl⟩
theorem dX_abandon_20 : Dc mX_abandon 20 (.aload_n 0) 1 21 := ⟨by decide +kernel, rfl⟩
theorem dX_abandon_21 : Dc mX_abandon 21 (.getfield 37) 3 24 := ⟨by decide +kernel, rfl⟩
theorem dX_abandon_24 : Dc mX_abandon 24 (.aload_n 0) 1 25 := ⟨by decide +kernel, rfl⟩
theorem dX_abandon_25 : Dc mX_abandon 25 (.getfield 229) 3 28 := ⟨by decide +kernel, rfl⟩
theorem dX_abandon_28 : Dc mX_abandon 28 .iaload 1 29 := ⟨by decide +kernel, rfl⟩
theorem dX_abandon_29 : Dc mX_abandon 29 .ireturn 1 30 := ⟨by decide +kernel, rfl⟩
theorem dX_scene_0 : Dc mX_scene 0 (.iload_n 1) 1 1 := ⟨by decide +kernel, rfl⟩
theorem dX_scene_1 : Db mX_scene 1 (.ifCond .eq) 11 4 := ⟨10, by decide +kernel, by decide, rfl⟩
theorem dX_scene_4 : Dc mX_scene 4 (.iload_n 1) 1 5 := ⟨by decide +kernel, rfl⟩
theorem dX_scene_5 : Dc mX_scene 5 (.iconst 1) 1 6 := ⟨by decide +kernel, rfl⟩
theorem dX_scene_6 : Db mX_scene 6 (.if_icmp .eq) 11 9 := ⟨5, by decide +kernel, by decide, rfl⟩
theorem dX_scene_9 : Dc mX_scene 9 (.iconst (-1)) 1 10 := ⟨by decide +kernel, rfl⟩
theorem dX_scene_10 : Dc mX_scene 10 .ireturn 1 11 := ⟨by decide +kernel, rfl⟩
theorem dX_scene_11 : Dc mX_scene 11 (.aload_n 0) 1 12 := ⟨by decide +kernel, rfl⟩
theorem dX_scene_12 : Dc mX_scene 12 (.getfield 49) 3 15 := ⟨by decide +kernel, rfl⟩
theorem dX_scene_15 : Dc mX_scene 15 (.iload_n 1) 1 16 := ⟨by decide +kernel, rfl⟩
theorem dX_scene_16 : Dc mX_scene 16 (.iconst 1) 1 17 := ⟨by decide +kernel, rfl⟩
theorem dX_scene_17 : Db mX_scene 17 (.if_icmp .ne) 24 20 := ⟨7, by decide +kernel, by decide, rfl⟩
theorem dX_scene_20 : Dc mX_scene 20 (.iconst 1) 1 21 := ⟨by decide +kernel, rfl⟩
theorem dX_scene_21 : Db mX_scene 21 .goto 25 24 := ⟨4, by decide +kernel, by decide, rfl⟩
theorem dX_scene_24 : Dc mX_scene 24 (.iconst 0) 1 25 := ⟨by decide +kernel, rfl⟩
theorem dX_scene_25 : Dc mX_scene 25 (.invokevirtual 239) 3 28 := ⟨by decide +kernel, rfl⟩
theorem dX_scene_28 : Dc mX_scene 28 .ireturn 1 29 := ⟨by decide +kernel, rfl⟩
theorem dScs_add_0 : Dc mScs_add 0 (.aload_n 0) 1 1 := ⟨by decide +kernel, rfl⟩
theorem dScs_add_1 : Dc mScs_add 1 (.getfield 12) 3 4 := ⟨by decide +kernel, rfl⟩
theorem dScs_add_4 : Dc mScs_add 4 (.invokevirtual 25) 3 7 := ⟨by decide +kernel, rfl⟩
theorem dScs_add_7 : Dc mScs_add 7 (.bipush 8) 2 9 := ⟨by decide +kernel, rfl⟩
theorem dScs_add_9 : Db mScs_add 9 (.if_icmp .lt) 15 12 := ⟨6, by decide +kernel, by decide, rfl⟩
theorem dScs_add_12 : Dc mScs_add 12 (.bipush (-3)) 2 14 := ⟨by decide +kernel, rfl⟩
theorem dScs_add_14 : Dc mScs_add 14 .ireturn 1 15 := ⟨by decide +kernel, rfl⟩
theorem dScs_add_15 : Dc mScs_add 15 (.aload_n 0) 1 16 := ⟨by decide +kernel, rfl⟩
theorem dScs_add_16 : Dc mScs_add 16 (.getfield 12) 3 19 := ⟨by decide +kernel, rfl⟩
theorem dScs_add_19 : Dc mScs_add 19 (.new 29) 3 22 := ⟨by decide +kernel, rfl⟩
theorem dScs_add_22 : Dc mScs_add 22 .dup 1 23 := ⟨by decide +kernel, rfl⟩
theorem dScs_add_23 : Dc mScs_add 23 (.iload_n 1) 1 24 := ⟨by decide +kernel, rfl⟩
theorem dScs_add_24 : Dc mScs_add 24 (.invokespecial 31) 3 27 := ⟨by decide +kernel, rfl⟩
theorem dScs_add_27 : Dc mScs_add 27 (.invokevirtual 34) 3 30 := ⟨by decide +kernel, rfl⟩
theorem dScs_add_30 : Dc mScs_add 30 .pop 1 31 := ⟨by decide +kernel, rfl⟩
theorem dScs_add_31 : Dc mScs_add 31 (.aload_n 0) 1 32 := ⟨by decide +kernel, rfl⟩
theorem dScs_add_32 : Dc mScs_add 32 (.getfield 12) 3 35 := ⟨by decide +kernel, rfl⟩
theorem dScs_add_35 : Dc mScs_add 35 (.invokevirtual 25) 3 38 := ⟨by decide +kernel, rfl⟩
theorem dScs_add_38 : Dc mScs_add 38 (.iconst 1) 1 39 := ⟨by decide +kernel, rfl⟩
theorem dScs_add_39 : Dc mScs_add 39 .isub 1 40 := ⟨by decide +kernel, rfl⟩
theorem dScs_add_40 : Dc mScs_add 40 .ireturn 1 41 := ⟨by decide +kernel, rfl⟩
theorem dScene_init_0 : Dc mScene_init 0 (.aload_n 0) 1 1 := ⟨by decide +kernel, rfl⟩
theorem dScene_init_1 : Dc mScene_init 1 (.invokespecial 3) 3 4 := ⟨by decide +kernel, rfl⟩
theorem dScene_init_4 : Dc mScene_init 4 (.aload_n 0) 1 5 := ⟨by decide +kernel, rfl⟩
theorem dScene_init_5 : Dc mScene_init 5 (.iconst 2) 1 6 := ⟨by decide +kernel, rfl⟩
theorem dScene_init_6 : Dc mScene_init 6 (.newarray .int) 2 8 := ⟨by decide +kernel, rfl⟩
theorem dScene_init_8 : Dc mScene_init 8 .dup 1 9 := ⟨by decide +kernel, rfl⟩
theorem dScene_init_9 : Dc mScene_init 9 (.iconst 0) 1 10 := ⟨by decide +kernel, rfl⟩
theorem dScene_init_10 : Dc mScene_init 10 (.iconst 0) 1 11 := ⟨by decide +kernel, rfl⟩
theorem dScene_init_11 : Dc mScene_init 11 .iastore 1 12 := ⟨by decide +kernel, rfl⟩
theorem dScene_init_12 : Dc mScene_init 12 .dup 1 13 := ⟨by decide +kernel, rfl⟩
theorem dScene_init_13 : Dc mScene_init 13 (.iconst 1) 1 14 := ⟨by decide +kernel, rfl⟩
theorem dScene_init_14 : Dc mScene_init 14 (.iconst 0) 1 15 := ⟨by decide +kernel, rfl⟩
theorem dScene_init_15 : Dc mScene_init 15 .iastore 1 16 := ⟨by decide +kernel, rfl⟩
theorem dScene_init_16 : Dc mScene_init 16 (.putfield 9) 3 19 := ⟨by decide +kernel, rfl⟩
theorem dScene_init_19 : Dc mScene_init 19 (.aload_n 0) 1 20 := ⟨by decide +kernel, rfl⟩
theorem dScene_init_20 : Dc mScene_init 20 (.iconst 2) 1 21 := ⟨by decide +kernel, rfl⟩
theorem dScene_init_21 : Dc mScene_init 21 (.newarray .int) 2 23 := ⟨by decide +kernel, rfl⟩
theorem dScene_init_23 : Dc mScene_init 23 (.putfield 15) 3 26 := ⟨by decide +kernel, rfl⟩
theorem dScene_init_26 : Dc mScene_init 26 (.aload_n 0) 1 27 := ⟨by decide +kernel, rfl⟩
theorem dScene_init_27 : Dc mScene_init 27 (.iload_n 1) 1 28 := ⟨by decide +kernel, rfl⟩
theorem dScene_init_28 : Dc mScene_init 28 (.putfield 18) 3 31 := ⟨by decide +kernel, rfl⟩
theorem dScene_init_31 : Dc mScene_init 31 .return_ 1 32 := ⟨by decide +kernel, rfl⟩
theorem dX_anchor_0 : Dc mX_anchor 0 (.aload_n 0) 1 1 := ⟨by decide +kernel, rfl⟩
theorem dX_anchor_1 : Dc mX_anchor 1 (.getfield 49) 3 4 := ⟨by decide +kernel, rfl⟩
theorem dX_anchor_4 : Dc mX_anchor 4 (.iload_n 1) 1 5 := ⟨by decide +kernel, rfl⟩
theorem dX_anchor_5 : Dc mX_anchor 5 (.invokevirtual 164) 3 8 := ⟨by decide +kernel, rfl⟩
theorem dX_anchor_8 : Db mX_anchor 8 (.ifCond .eq) 33 11 := ⟨25, by decide +kernel, by decide, rfl⟩
theorem dX_anchor_11 : Dc mX_anchor 11 (.iload_n 2) 1 12 := ⟨by decide +kernel, rfl⟩
theorem dX_anchor_12 : Db mX_anchor 12 (.ifCond .eq) 20 15 := ⟨8, by decide +kernel, by decide, rfl⟩
theorem dX_anchor_15 : Dc mX_anchor 15 (.iload_n 2) 1 16 := ⟨by decide +kernel, rfl⟩
theorem dX_anchor_16 : Dc mX_anchor 16 (.iconst 1) 1 17 := ⟨by decide +kernel, rfl⟩
theorem dX_anchor_17 : Db mX_anchor 17 (.if_icmp .ne) 33 20 := ⟨16, by decide +kernel, by decide, rfl⟩
theorem dX_anchor_20 : Dc mX_anchor 20 (.aload_n 0) 1 21 := ⟨by decide +kernel, rfl⟩
theorem dX_anchor_21 : Dc mX_anchor 21 (.getfield 49) 3 24 := ⟨by decide +kernel, rfl⟩
theorem dX_anchor_24 : Dc mX_anchor 24 (.iload_n 3) 1 25 := ⟨by decide +kernel, rfl⟩
theorem dX_anchor_25 : Dc mX_anchor 25 (.iload 4) 2 27 := ⟨by decide +kernel, rfl⟩
theorem dX_anchor_27 : Dc mX_anchor 27 (.invokevirtual 241) 3 30 := ⟨by decide +kernel, rfl⟩
theorem dX_anchor_30 : Db mX_anchor 30 (.ifCond .ne) 35 33 := ⟨5, by decide +kernel, by decide, rfl⟩
theorem dX_anchor_33 : Dc mX_anchor 33 (.iconst (-1)) 1 34 := ⟨by decide +kernel, rfl⟩
theorem dX_anchor_34 : Dc mX_anchor 34 .ireturn 1 35 := ⟨by decide +kernel, rfl⟩
theorem dX_anchor_35 : Dc mX_anchor 35 (.aload_n 0) 1 36 := ⟨by decide +kernel, rfl⟩
theorem dX_anchor_36 : Dc mX_anchor 36 (.getfield 49) 3 39 := ⟨by decide +kernel, rfl⟩
theorem dX_anchor_39 : Dc mX_anchor 39 (.iconst 2) 1 40 := ⟨by decide +kernel, rfl⟩
theorem dX_anchor_40 : Dc mX_anchor 40 (.iload_n 1) 1 41 := ⟨by decide +kernel, rfl⟩
theorem dX_anchor_41 : Dc mX_anchor 41 .imul 1 42 := ⟨by decide +kernel, rfl⟩
theorem dX_anchor_42 : Dc mX_anchor 42 (.iload_n 2) 1 43 := ⟨by decide +kernel, rfl⟩
theorem dX_anchor_43 : Dc mX_anchor 43 .iadd 1 44 := ⟨by decide +kernel, rfl⟩
theorem dX_anchor_44 : Dc mX_anchor 44 (.iload_n 3) 1 45 := ⟨by decide +kernel, rfl⟩
theorem dX_anchor_45 : Dc mX_anchor 45 (.iload 4) 2 47 := ⟨by decide +kernel, rfl⟩
theorem dX_anchor_47 : Dc mX_anchor 47 (.invokevirtual 244) 3 50 := ⟨by decide +kernel, rfl⟩
theorem dX_anchor_50 : Db mX_anchor 50 (.ifCond .eq) 56 53 := ⟨6, by decide +kernel, by decide, rfl⟩
theorem dX_anchor_53 : Dc mX_anchor 53 (.bipush (-2)) 2 55 := ⟨by decide +kernel, rfl⟩
theorem dX_anchor_55 : Dc mX_anchor 55 .ireturn 1 56 := ⟨by decide +kernel, rfl⟩
theorem dX_anchor_56 : Dc mX_anchor 56 (.aload_n 0) 1 57 := ⟨by decide +kernel, rfl⟩
theorem dX_anchor_57 : Dc mX_anchor 57 (.getfield 49) 3 60 := ⟨by decide +kernel, rfl⟩
theorem dX_anchor_60 : Dc mX_anchor 60 (.iconst 2) 1 61 := ⟨by decide +kernel, rfl⟩
theorem dX_anchor_61 : Dc mX_anchor 61 (.iload_n 1) 1 62 := ⟨by decide +kernel, rfl⟩
theorem dX_anchor_62 : Dc mX_anchor 62 .imul 1 63 := ⟨by decide +kernel, rfl⟩
theorem dX_anchor_63 : Dc mX_anchor 63 (.iload_n 2) 1 64 := ⟨by decide +kernel, rfl⟩
theorem dX_anchor_64 : Dc mX_anchor 64 .iadd 1 65 := ⟨by decide +kernel, rfl⟩
theorem dX_anchor_65 : Dc mX_anchor 65 (.iload_n 3) 1 66 := ⟨by decide +kernel, rfl⟩
theorem dX_anchor_66 : Dc mX_anchor 66 (.iload 4) 2 68 := ⟨by decide +kernel, rfl⟩
theorem dX_anchor_68 : Dc mX_anchor 68 (.invokevirtual 247) 3 71 := ⟨by decide +kernel, rfl⟩
theorem dX_anchor_71 : Dc mX_anchor 71 (.iconst 0) 1 72 := ⟨by decide +kernel, rfl⟩
theorem dX_anchor_72 : Dc mX_anchor 72 .ireturn 1 73 := ⟨by decide +kernel, rfl⟩
theorem dScs_isAnchor_0 : Dc mScs_isAnchor 0 (.iload_n 1) 1 1 := ⟨by decide +kernel, rfl⟩
theorem dScs_isAnchor_1 : Dc mScs_isAnchor 1 (.tableswitch (76) (0) (4) #[35, 37, 47, 47, 53]) 35 36 := ⟨by decide +kernel, rfl⟩
theorem dScs_isAnchor_36 : Dc mScs_isAnchor 36 (.iconst 1) 1 37 := ⟨by decide +kernel, rfl⟩
theorem dScs_isAnchor_37 : Dc mScs_isAnchor 37 .ireturn 1 38 := ⟨by decide +kernel, rfl⟩
theorem dScs_isAnchor_38 : Dc mScs_isAnchor 38 (.iload_n 2) 1 39 := ⟨by decide +kernel, rfl⟩
theorem dScs_isAnchor_39 : Db mScs_isAnchor 39 (.ifCond .lt) 46 42 := ⟨7, by decide +kernel, by decide, rfl⟩
theorem dScs_isAnchor_42 : Dc mScs_isAnchor 42 (.iconst 1) 1 43 := ⟨by decide +kernel, rfl⟩
theorem dScs_isAnchor_43 : Db mScs_isAnchor 43 .goto 47 46 := ⟨4, by decide +kernel, by decide, rfl⟩
theorem dScs_isAnchor_46 : Dc mScs_isAnchor 46 (.iconst 0) 1 47 := ⟨by decide +kernel, rfl⟩
theorem dScs_isAnchor_47 : Dc mScs_isAnchor 47 .ireturn 1 48 := ⟨by decide +kernel, rfl⟩
theorem dScs_isAnchor_48 : Dc mScs_isAnchor 48 (.aload_n 0) 1 49 := ⟨by decide +kernel, rfl⟩
theorem dScs_isAnchor_49 : Dc mScs_isAnchor 49 (.iload_n 2) 1 50 := ⟨by decide +kernel, rfl⟩
theorem dScs_isAnchor_50 : Dc mScs_isAnchor 50 (.invokevirtual 50) 3 53 := ⟨by decide +kernel, rfl⟩
theorem dScs_isAnchor_53 : Dc mScs_isAnchor 53 .ireturn 1 54 := ⟨by decide +kernel, rfl⟩
theorem dScs_isAnchor_54 : Dc mScs_isAnchor 54 (.iload_n 2) 1 55 := ⟨by decide +kernel, rfl⟩
theorem dScs_isAnchor_55 : Db mScs_isAnchor 55 (.ifCond .lt) 75 58 := ⟨20, by decide +kernel, by decide, rfl⟩
theorem dScs_isAnchor_58 : Dc mScs_isAnchor 58 (.iload_n 2) 1 59 := ⟨by decide +kernel, rfl⟩
theorem dScs_isAnchor_59 : Dc mScs_isAnchor 59 (.iconst 4) 1 60 := ⟨by decide +kernel, rfl⟩
theorem dScs_isAnchor_60 : Dc mScs_isAnchor 60 .idiv 1 61 := ⟨by decide +kernel, rfl⟩
theorem dScs_isAnchor_61 : Dc mScs_isAnchor 61 (.aload_n 0) 1 62 := ⟨by decide +kernel, rfl⟩
theorem dScs_isAnchor_62 : Dc mScs_isAnchor 62 (.getfield 22) 3 65 := ⟨by decide +kernel, rfl⟩
theorem dScs_isAnchor_65 : Dc mScs_isAnchor 65 (.invokevirtual 25) 3 68 := ⟨by decide +kernel, rfl⟩
theorem dScs_isAnchor_68 : Db mScs_isAnchor 68 (.if_icmp .ge) 75 71 := ⟨7, by decide +kernel, by decide, rfl⟩
theorem dScs_isAnchor_71 : Dc mScs_isAnchor 71 (.iconst 1) 1 72 := ⟨by decide +kernel, rfl⟩
theorem dScs_isAnchor_72 : Db mScs_isAnchor 72 .goto 76 75 := ⟨4, by decide +kernel, by decide, rfl⟩
theorem dScs_isAnchor_75 : Dc mScs_isAnchor 75 (.iconst 0) 1 76 := ⟨by decide +kernel, rfl⟩
theorem dScs_isAnchor_76 : Dc mScs_isAnchor 76 .ireturn 1 77 := ⟨by decide +kernel, rfl⟩
theorem dScs_isAnchor_77 : Dc mScs_isAnchor 77 (.iconst 0) 1 78 := ⟨by decide +kernel, rfl⟩
theorem dScs_isAnchor_78 : Dc mScs_isAnchor 78 .ireturn 1 79 := ⟨by decide +kernel, rfl⟩
theorem dScs_wouldRing_0 : Dc mScs_wouldRing 0 (.iload_n 2) 1 1 := ⟨by decide +kernel, rfl⟩
theorem dScs_wouldRing_1 : Dc mScs_wouldRing 1 (.iload_n 3) 1 2 := ⟨by decide +kernel, rfl⟩
theorem dScs_wouldRing_2 : Dc mScs_wouldRing 2 (.invokestatic 60) 3 5 := ⟨by decide +kernel, rfl⟩
theorem dScs_wouldRing_5 : Dc mScs_wouldRing 5 (.istore 4) 2 7 := ⟨by decide +kernel, rfl⟩
theorem dScs_wouldRing_7 : Dc mScs_wouldRing 7 (.iconst 0) 1 8 := ⟨by decide +kernel, rfl⟩
theorem dScs_wouldRing_8 : Dc mScs_wouldRing 8 (.istore 5) 2 10 := ⟨by decide +kernel, rfl⟩
theorem dScs_wouldRing_10 : Dc mScs_wouldRing 10 (.iload 5) 2 12 := ⟨by decide +kernel, rfl⟩
theorem dScs_wouldRing_12 : Dc mScs_wouldRing 12 (.bipush 16) 2 14 := ⟨by decide +kernel, rfl⟩
theorem dScs_wouldRing_14 : Db mScs_wouldRing 14 (.if_icmp .ge) 76 17 := ⟨62, by decide +kernel, by decide, rfl⟩
theorem dScs_wouldRing_17 : Dc mScs_wouldRing 17 (.iload 4) 2 19 := ⟨by decide +kernel, rfl⟩
theorem dScs_wouldRing_19 : Dc mScs_wouldRing 19 (.iconst (-1)) 1 20 := ⟨by decide +kernel, rfl⟩
theorem dScs_wouldRing_20 : Db mScs_wouldRing 20 (.if_icmp .eq) 76 23 := ⟨56, by decide +kernel, by decide, rfl⟩
theorem dScs_wouldRing_23 : Dc mScs_wouldRing 23 (.iload 4) 2 25 := ⟨by decide +kernel, rfl⟩
theorem dScs_wouldRing_25 : Dc mScs_wouldRing 25 (.iload_n 1) 1 26 := ⟨by decide +kernel, rfl⟩
theorem dScs_wouldRing_26 : Db mScs_wouldRing 26 (.if_icmp .eq) 76 29 := ⟨50, by decide +kernel, by decide, rfl⟩
theorem dScs_wouldRing_29 : Dc mScs_wouldRing 29 (.aload_n 0) 1 30 := ⟨by decide +kernel, rfl⟩
theorem dScs_wouldRing_30 : Dc mScs_wouldRing 30 (.getfield 12) 3 33 := ⟨by decide +kernel, rfl⟩
theorem dScs_wouldRing_33 : Dc mScs_wouldRing 33 (.iload 4) 2 35 := ⟨by decide +kernel, rfl⟩
theorem dScs_wouldRing_35 : Dc mScs_wouldRing 35 (.iconst 2) 1 36 := ⟨by decide +kernel, rfl⟩
theorem dScs_wouldRing_36 : Dc mScs_wouldRing 36 .idiv 1 37 := ⟨by decide +kernel, rfl⟩
theorem dScs_wouldRing_37 : Dc mScs_wouldRing 37 (.invokevirtual 38) 3 40 := ⟨by decide +kernel, rfl⟩
theorem dScs_wouldRing_40 : Dc mScs_wouldRing 40 (.checkcast 29) 3 43 := ⟨by decide +kernel, rfl⟩
theorem dScs_wouldRing_43 : Dc mScs_wouldRing 43 (.astore 6) 2 45 := ⟨by decide +kernel, rfl⟩
theorem dScs_wouldRing_45 : Dc mScs_wouldRing 45 (.aload 6) 2 47 := ⟨by decide +kernel, rfl⟩
theorem dScs_wouldRing_47 : Dc mScs_wouldRing 47 (.getfield 54) 3 50 := ⟨by decide +kernel, rfl⟩
theorem dScs_wouldRing_50 : Dc mScs_wouldRing 50 (.iload 4) 2 52 := ⟨by decide +kernel, rfl⟩
theorem dScs_wouldRing_52 : Dc mScs_wouldRing 52 (.iconst 2) 1 53 := ⟨by decide +kernel, rfl⟩
theorem dScs_wouldRing_53 : Dc mScs_wouldRing 53 .irem 1 54 := ⟨by decide +kernel, rfl⟩
theorem dScs_wouldRing_54 : Dc mScs_wouldRing 54 .iaload 1 55 := ⟨by decide +kernel, rfl⟩
theorem dScs_wouldRing_55 : Dc mScs_wouldRing 55 (.aload 6) 2 57 := ⟨by decide +kernel, rfl⟩
theorem dScs_wouldRing_57 : Dc mScs_wouldRing 57 (.getfield 57) 3 60 := ⟨by decide +kernel, rfl⟩
theorem dScs_wouldRing_60 : Dc mScs_wouldRing 60 (.iload 4) 2 62 := ⟨by decide +kernel, rfl⟩
theorem dScs_wouldRing_62 : Dc mScs_wouldRing 62 (.iconst 2) 1 63 := ⟨by decide +kernel, rfl⟩
theorem dScs_wouldRing_63 : Dc mScs_wouldRing 63 .irem 1 64 := ⟨by decide +kernel, rfl⟩
theorem dScs_wouldRing_64 : Dc mScs_wouldRing 64 .iaload 1 65 := ⟨by decide +kernel, rfl⟩
theorem dScs_wouldRing_65 : Dc mScs_wouldRing 65 (.invokestatic 60) 3 68 := ⟨by decide +kernel, rfl⟩
theorem dScs_wouldRing_68 : Dc mScs_wouldRing 68 (.istore 4) 2 70 := ⟨by decide +kernel, rfl⟩
theorem dScs_wouldRing_70 : Dc mScs_wouldRing 70 (.iinc 5 1) 3 73 := ⟨by decide +kernel, rfl⟩
theorem dScs_wouldRing_73 : Db mScs_wouldRing 73 .goto 10 76 := ⟨(-63), by decide +kernel, by decide, rfl⟩
theorem dScs_wouldRing_76 : Dc mScs_wouldRing 76 (.iload 4) 2 78 := ⟨by decide +kernel, rfl⟩
theorem dScs_wouldRing_78 : Dc mScs_wouldRing 78 (.iload_n 1) 1 79 := ⟨by decide +kernel, rfl⟩
theorem dScs_wouldRing_79 : Db mScs_wouldRing 79 (.if_icmp .ne) 86 82 := ⟨7, by decide +kernel, by decide, rfl⟩
theorem dScs_wouldRing_82 : Dc mScs_wouldRing 82 (.iconst 1) 1 83 := ⟨by decide +kernel, rfl⟩
theorem dScs_wouldRing_83 : Db mScs_wouldRing 83 .goto 87 86 := ⟨4, by decide +kernel, by decide, rfl⟩
theorem dScs_wouldRing_86 : Dc mScs_wouldRing 86 (.iconst 0) 1 87 := ⟨by decide +kernel, rfl⟩
theorem dScs_wouldRing_87 : Dc mScs_wouldRing 87 .ireturn 1 88 := ⟨by decide +kernel, rfl⟩
theorem dScs_eventOf_0 : Dc mScs_eventOf 0 (.iload_n 0) 1 1 := ⟨by decide +kernel, rfl⟩
theorem dScs_eventOf_1 : Dc mScs_eventOf 1 (.lookupswitch (39) #[(2, 27), (3, 33)]) 27 28 := ⟨by decide +kernel, rfl⟩
theorem dScs_eventOf_28 : Dc mScs_eventOf 28 (.iconst 2) 1 29 := ⟨by decide +kernel, rfl⟩
theorem dScs_eventOf_29 : Dc mScs_eventOf 29 (.iload_n 1) 1 30 := ⟨by decide +kernel, rfl⟩
theorem dScs_eventOf_30 : Dc mScs_eventOf 30 .imul 1 31 := ⟨by decide +kernel, rfl⟩
theorem dScs_eventOf_31 : Dc mScs_eventOf 31 (.iconst 0) 1 32 := ⟨by decide +kernel, rfl⟩
theorem dScs_eventOf_32 : Dc mScs_eventOf 32 .iadd 1 33 := ⟨by decide +kernel, rfl⟩
theorem dScs_eventOf_33 : Dc mScs_eventOf 33 .ireturn 1 34 := ⟨by decide +kernel, rfl⟩
theorem dScs_eventOf_34 : Dc mScs_eventOf 34 (.iconst 2) 1 35 := ⟨by decide +kernel, rfl⟩
theorem dScs_eventOf_35 : Dc mScs_eventOf 35 (.iload_n 1) 1 36 := ⟨by decide +kernel, rfl⟩
theorem dScs_eventOf_36 : Dc mScs_eventOf 36 .imul 1 37 := ⟨by decide +kernel, rfl⟩
theorem dScs_eventOf_37 : Dc mScs_eventOf 37 (.iconst 1) 1 38 := ⟨by decide +kernel, rfl⟩
theorem dScs_eventOf_38 : Dc mScs_eventOf 38 .iadd 1 39 := ⟨by decide +kernel, rfl⟩
theorem dScs_eventOf_39 : Dc mScs_eventOf 39 .ireturn 1 40 := ⟨by decide +kernel, rfl⟩
theorem dScs_eventOf_40 : Dc mScs_eventOf 40 (.iconst (-1)) 1 41 := ⟨by decide +kernel, rfl⟩
theorem dScs_eventOf_41 : Dc mScs_eventOf 41 .ireturn 1 42 := ⟨by decide +kernel, rfl⟩
theorem dScs_setAnchor_0 : Dc mScs_setAnchor 0 (.aload_n 0) 1 1 := ⟨by decide +kernel, rfl⟩
theorem dScs_setAnchor_1 : Dc mScs_setAnchor 1 (.getfield 12) 3 4 := ⟨by decide +kernel, rfl⟩
theorem dScs_setAnchor_4 : Dc mScs_setAnchor 4 (.iload_n 1) 1 5 := ⟨by decide +kernel, rfl⟩
theorem dScs_setAnchor_5 : Dc mScs_setAnchor 5 (.iconst 2) 1 6 := ⟨by decide +kernel, rfl⟩
theorem dScs_setAnchor_6 : Dc mScs_setAnchor 6 .idiv 1 7 := ⟨by decide +kernel, rfl⟩
theorem dScs_setAnchor_7 : Dc mScs_setAnchor 7 (.invokevirtual 38) 3 10 := ⟨by decide +kernel, rfl⟩
theorem dScs_setAnchor_10 : Dc mScs_setAnchor 10 (.checkcast 29) 3 13 := ⟨by decide +kernel, rfl⟩
theorem dScs_setAnchor_13 : Dc mScs_setAnchor 13 (.astore 4) 2 15 := ⟨by decide +kernel, rfl⟩
theorem dScs_setAnchor_15 : Dc mScs_setAnchor 15 (.aload 4) 2 17 := ⟨by decide +kernel, rfl⟩
theorem dScs_setAnchor_17 : Dc mScs_setAnchor 17 (.getfield 54) 3 20 := ⟨by decide +kernel, rfl⟩
theorem dScs_setAnchor_20 : Dc mScs_setAnchor 20 (.iload_n 1) 1 21 := ⟨by decide +kernel, rfl⟩
theorem dScs_setAnchor_21 : Dc mScs_setAnchor 21 (.iconst 2) 1 22 := ⟨by decide +kernel, rfl⟩
theorem dScs_setAnchor_22 : Dc mScs_setAnchor 22 .irem 1 23 := ⟨by decide +kernel, rfl⟩
theorem dScs_setAnchor_23 : Dc mScs_setAnchor 23 (.iload_n 2) 1 24 := ⟨by decide +kernel, rfl⟩
theorem dScs_setAnchor_24 : Dc mScs_setAnchor 24 .iastore 1 25 := ⟨by decide +kernel, rfl⟩
theorem dScs_setAnchor_25 : Dc mScs_setAnchor 25 (.aload 4) 2 27 := ⟨by decide +kernel, rfl⟩
theorem dScs_setAnchor_27 : Dc mScs_setAnchor 27 (.getfield 57) 3 30 := ⟨by decide +kernel, rfl⟩
theorem dScs_setAnchor_30 : Dc mScs_setAnchor 30 (.iload_n 1) 1 31 := ⟨by decide +kernel, rfl⟩
theorem dScs_setAnchor_31 : Dc mScs_setAnchor 31 (.iconst 2) 1 32 := ⟨by decide +kernel, rfl⟩
theorem dScs_setAnchor_32 : Dc mScs_setAnchor 32 .irem 1 33 := ⟨by decide +kernel, rfl⟩
theorem dScs_setAnchor_33 : Dc mScs_setAnchor 33 (.iload_n 3) 1 34 := ⟨by decide +kernel, rfl⟩
theorem dScs_setAnchor_34 : Dc mScs_setAnchor 34 .iastore 1 35 := ⟨by decide +kernel, rfl⟩
theorem dScs_setAnchor_35 : Dc mScs_setAnchor 35 .return_ 1 36 := ⟨by decide +kernel, rfl⟩
theorem dX_everyTurn_0 : Dc mX_everyTurn 0 (.aload_n 0) 1 1 := ⟨by decide +kernel, rfl⟩
theorem dX_everyTurn_1 : Dc mX_everyTurn 1 (.iload_n 1) 1 2 := ⟨by decide +kernel, rfl⟩
theorem dX_everyTurn_2 : Dc mX_everyTurn 2 (.invokevirtual 250) 3 5 := ⟨by decide +kernel, rfl⟩
theorem dX_everyTurn_5 : Db mX_everyTurn 5 (.ifCond .ne) 10 8 := ⟨5, by decide +kernel, by decide, rfl⟩
theorem dX_everyTurn_8 : Dc mX_everyTurn 8 (.iconst (-1)) 1 9 := ⟨by decide +kernel, rfl⟩
theorem dX_everyTurn_9 : Dc mX_everyTurn 9 .ireturn 1 10 := ⟨by decide +kernel, rfl⟩
theorem dX_everyTurn_10 : Dc mX_everyTurn 10 (.aload_n 0) 1 11 := ⟨by decide +kernel, rfl⟩
theorem dX_everyTurn_11 : Dc mX_everyTurn 11 (.iload_n 1) 1 12 := ⟨by decide +kernel, rfl⟩
theorem dX_everyTurn_12 : Dc mX_everyTurn 12 (.putfield 53) 3 15 := ⟨by decide +kernel, rfl⟩
theorem dX_everyTurn_15 : Dc mX_everyTurn 15 (.iconst 0) 1 16 := ⟨by decide +kernel, rfl⟩
theorem dX_everyTurn_16 : Dc mX_everyTurn 16 .ireturn 1 17 := ⟨by decide +kernel, rfl⟩
theorem dX_turn_0 : Dc mX_turn 0 (.aload_n 0) 1 1 := ⟨by decide +kernel, rfl⟩
theorem dX_turn_1 : Dc mX_turn 1 (.getfield 49) 3 4 := ⟨by decide +kernel, rfl⟩
theorem dX_turn_4 : Dc mX_turn 4 (.invokevirtual 253) 3 7 := ⟨by decide +kernel, rfl⟩
theorem dX_turn_7 : Dc mX_turn 7 (.aload_n 0) 1 8 := ⟨by decide +kernel, rfl⟩
theorem dX_turn_8 : Dc mX_turn 8 (.getfield 71) 3 11 := ⟨by decide +kernel, rfl⟩
theorem dX_turn_11 : Dc mX_turn 11 (.aload_n 0) 1 12 := ⟨by decide +kernel, rfl⟩
theorem dX_turn_12 : Dc mX_turn 12 (.aload_n 0) 1 13 := ⟨by decide +kernel, rfl⟩
theorem dX_turn_13 : Dc mX_turn 13 (.getfield 53) 3 16 := ⟨by decide +kernel, rfl⟩
theorem dX_turn_16 : Dc mX_turn 16 (.invokevirtual 116) 3 19 := ⟨by decide +kernel, rfl⟩
theorem dX_turn_19 : Dc mX_turn 19 (.aload_n 0) 1 20 := ⟨by decide +kernel, rfl⟩
theorem dX_turn_20 : Dc mX_turn 20 (.iconst 0) 1 21 := ⟨by decide +kernel, rfl⟩
theorem dX_turn_21 : Dc mX_turn 21 (.invokevirtual 103) 3 24 := ⟨by decide +kernel, rfl⟩
theorem dX_turn_24 : Dc mX_turn 24 (.invokevirtual 198) 3 27 := ⟨by decide +kernel, rfl⟩
theorem dX_turn_27 : Dc mX_turn 27 (.istore_n 1) 1 28 := ⟨by decide +kernel, rfl⟩
theorem dX_turn_28 : Dc mX_turn 28 (.iload_n 1) 1 29 := ⟨by decide +kernel, rfl⟩
theorem dX_turn_29 : Dc mX_turn 29 (.bipush (-10)) 2 31 := ⟨by decide +kernel, rfl⟩
theorem dX_turn_31 : Db mX_turn 31 (.if_icmp .gt) 38 34 := ⟨7, by decide +kernel, by decide, rfl⟩
theorem dX_turn_34 : Dc mX_turn 34 (.iload_n 1) 1 35 := ⟨by decide +kernel, rfl⟩
theorem dX_turn_35 : Db mX_turn 35 .goto 45 38 := ⟨10, by decide +kernel, by decide, rfl⟩
theorem dX_turn_38 : Dc mX_turn 38 (.aload_n 0) 1 39 := ⟨by decide +kernel, rfl⟩
theorem dX_turn_39 : Dc mX_turn 39 (.getfield 49) 3 42 := ⟨by decide +kernel, rfl⟩
theorem dX_turn_42 : Dc mX_turn 42 (.getfield 256) 3 45 := ⟨by decide +kernel, rfl⟩
theorem dX_turn_45 : Dc mX_turn 45 .ireturn 1 46 := ⟨by decide +kernel, rfl⟩
theorem dScs_takeTurn_0 : Dc mScs_takeTurn 0 (.aload_n 0) 1 1 := ⟨by decide +kernel, rfl⟩
theorem dScs_takeTurn_1 : Dc mScs_takeTurn 1 .dup 1 2 := ⟨by decide +kernel, rfl⟩
theorem dScs_takeTurn_2 : Dc mScs_takeTurn 2 (.getfield 64) 3 5 := ⟨by decide +kernel, rfl⟩
theorem dScs_takeTurn_5 : Dc mScs_takeTurn 5 (.iconst 1) 1 6 := ⟨by decide +kernel, rfl⟩
theorem dScs_takeTurn_6 : Dc mScs_takeTurn 6 .iadd 1 7 := ⟨by decide +kernel, rfl⟩
theorem dScs_takeTurn_7 : Dc mScs_takeTurn 7 (.putfield 64) 3 10 := ⟨by decide +kernel, rfl⟩
theorem dScs_takeTurn_10 : Dc mScs_takeTurn 10 (.aload_n 0) 1 11 := ⟨by decide +kernel, rfl⟩
theorem dScs_takeTurn_11 : Dc mScs_takeTurn 11 (.iconst 0) 1 12 := ⟨by decide +kernel, rfl⟩
theorem dScs_takeTurn_12 : Dc mScs_takeTurn 12 (.putfield 67) 3 15 := ⟨by decide +kernel, rfl⟩
theorem dScs_takeTurn_15 : Dc mScs_takeTurn 15 (.iconst 0) 1 16 := ⟨by decide +kernel, rfl⟩
theorem dScs_takeTurn_16 : Dc mScs_takeTurn 16 (.istore_n 1) 1 17 := ⟨by decide +kernel, rfl⟩
theorem dScs_takeTurn_17 : Dc mScs_takeTurn 17 (.iload_n 1) 1 18 := ⟨by decide +kernel, rfl⟩
theorem dScs_takeTurn_18 : Dc mScs_takeTurn 18 (.bipush 16) 2 20 := ⟨by decide +kernel, rfl⟩
theorem dScs_takeTurn_20 : Db mScs_takeTurn 20 (.if_icmp .gt) 47 23 := ⟨27, by decide +kernel, by decide, rfl⟩
theorem dScs_takeTurn_23 : Dc mScs_takeTurn 23 (.aload_n 0) 1 24 := ⟨by decide +kernel, rfl⟩
theorem dScs_takeTurn_24 : Dc mScs_takeTurn 24 (.getfield 67) 3 27 := ⟨by decide +kernel, rfl⟩
theorem dScs_takeTurn_27 : Dc mScs_takeTurn 27 (.istore_n 2) 1 28 := ⟨by decide +kernel, rfl⟩
theorem dScs_takeTurn_28 : Dc mScs_takeTurn 28 (.aload_n 0) 1 29 := ⟨by decide +kernel, rfl⟩
theorem dScs_takeTurn_29 : Dc mScs_takeTurn 29 (.invokevirtual 70) 3 32 := ⟨by decide +kernel, rfl⟩
theorem dScs_takeTurn_32 : Dc mScs_takeTurn 32 (.aload_n 0) 1 33 := ⟨by decide +kernel, rfl⟩
theorem dScs_takeTurn_33 : Dc mScs_takeTurn 33 (.getfield 67) 3 36 := ⟨by decide +kernel, rfl⟩
theorem dScs_takeTurn_36 : Dc mScs_takeTurn 36 (.iload_n 2) 1 37 := ⟨by decide +kernel, rfl⟩
theorem dScs_takeTurn_37 : Db mScs_takeTurn 37 (.if_icmp .ne) 41 40 := ⟨4, by decide +kernel, by decide, rfl⟩
theorem dScs_takeTurn_40 : Dc mScs_takeTurn 40 .return_ 1 41 := ⟨by decide +kernel, rfl⟩
theorem dScs_takeTurn_41 : Dc mScs_takeTurn 41 (.iinc 1 1) 3 44 := ⟨by decide +kernel, rfl⟩
theorem dScs_takeTurn_44 : Db mScs_takeTurn 44 .goto 17 47 := ⟨(-27), by decide +kernel, by decide, rfl⟩
theorem dScs_takeTurn_47 : Dc mScs_takeTurn 47 .return_ 1 48 := ⟨by decide +kernel, rfl⟩
theorem dScs_goRound_0 : Dc mScs_goRound 0 (.iconst 0) 1 1 := ⟨by decide +kernel, rfl⟩
theorem dScs_goRound_1 : Dc mScs_goRound 1 (.istore_n 1) 1 2 := ⟨by decide +kernel, rfl⟩
theorem dScs_goRound_2 : Dc mScs_goRound 2 (.iload_n 1) 1 3 := ⟨by decide +kernel, rfl⟩
theorem dScs_goRound_3 : Dc mScs_goRound 3 (.aload_n 0) 1 4 := ⟨by decide +kernel, rfl⟩
theorem dScs_goRound_4 : Dc mScs_goRound 4 (.getfield 12) 3 7 := ⟨by decide +kernel, rfl⟩
theorem dScs_goRound_7 : Dc mScs_goRound 7 (.invokevirtual 25) 3 10 := ⟨by decide +kernel, rfl⟩
theorem dScs_goRound_10 : Db mScs_goRound 10 (.if_icmp .ge) 78 13 := ⟨68, by decide +kernel, by decide, rfl⟩
theorem dScs_goRound_13 : Dc mScs_goRound 13 (.aload_n 0) 1 14 := ⟨by decide +kernel, rfl⟩
theorem dScs_goRound_14 : Dc mScs_goRound 14 (.getfield 12) 3 17 := ⟨by decide +kernel, rfl⟩
theorem dScs_goRound_17 : Dc mScs_goRound 17 (.iload_n 1) 1 18 := ⟨by decide +kernel, rfl⟩
theorem dScs_goRound_18 : Dc mScs_goRound 18 (.invokevirtual 38) 3 21 := ⟨by decide +kernel, rfl⟩
theorem dScs_goRound_21 : Dc mScs_goRound 21 (.checkcast 29) 3 24 := ⟨by decide +kernel, rfl⟩
theorem dScs_goRound_24 : Dc mScs_goRound 24 (.astore_n 2) 1 25 := ⟨by decide +kernel, rfl⟩
theorem dScs_goRound_25 : Dc mScs_goRound 25 (.aload_n 2) 1 26 := ⟨by decide +kernel, rfl⟩
theorem dScs_goRound_26 : Dc mScs_goRound 26 (.getfield 42) 3 29 := ⟨by decide +kernel, rfl⟩
theorem dScs_goRound_29 : Db mScs_goRound 29 (.ifCond .eq) 36 32 := ⟨7, by decide +kernel, by decide, rfl⟩
theorem dScs_goRound_32 : Dc mScs_goRound 32 (.iconst 1) 1 33 := ⟨by decide +kernel, rfl⟩
theorem dScs_goRound_33 : Db mScs_goRound 33 .goto 37 36 := ⟨4, by decide +kernel, by decide, rfl⟩
theorem dScs_goRound_36 : Dc mScs_goRound 36 (.iconst 0) 1 37 := ⟨by decide +kernel, rfl⟩
theorem dScs_goRound_37 : Dc mScs_goRound 37 (.istore_n 3) 1 38 := ⟨by decide +kernel, rfl⟩
theorem dScs_goRound_38 : Dc mScs_goRound 38 (.aload_n 0) 1 39 := ⟨by decide +kernel, rfl⟩
theorem dScs_goRound_39 : Dc mScs_goRound 39 (.iload_n 1) 1 40 := ⟨by decide +kernel, rfl⟩
theorem dScs_goRound_40 : Dc mScs_goRound 40 (.iload_n 3) 1 41 := ⟨by decide +kernel, rfl⟩
theorem dScs_goRound_41 : Dc mScs_goRound 41 (.invokevirtual 73) 3 44 := ⟨by decide +kernel, rfl⟩
theorem dScs_goRound_44 : Db mScs_goRound 44 (.ifCond .eq) 72 47 := ⟨28, by decide +kernel, by decide, rfl⟩
theorem dScs_goRound_47 : Dc mScs_goRound 47 (.aload_n 0) 1 48 := ⟨by decide +kernel, rfl⟩
theorem dScs_goRound_48 : Dc mScs_goRound 48 (.aload_n 2) 1 49 := ⟨by decide +kernel, rfl⟩
theorem dScs_goRound_49 : Dc mScs_goRound 49 (.getfield 54) 3 52 := ⟨by decide +kernel, rfl⟩
theorem dScs_goRound_52 : Dc mScs_goRound 52 (.iload_n 3) 1 53 := ⟨by decide +kernel, rfl⟩
theorem dScs_goRound_53 : Dc mScs_goRound 53 .iaload 1 54 := ⟨by decide +kernel, rfl⟩
theorem dScs_goRound_54 : Dc mScs_goRound 54 (.aload_n 2) 1 55 := ⟨by decide +kernel, rfl⟩
theorem dScs_goRound_55 : Dc mScs_goRound 55 (.getfield 57) 3 58 := ⟨by decide +kernel, rfl⟩
theorem dScs_goRound_58 : Dc mScs_goRound 58 (.iload_n 3) 1 59 := ⟨by decide +kernel, rfl⟩
theorem dScs_goRound_59 : Dc mScs_goRound 59 .iaload 1 60 := ⟨by decide +kernel, rfl⟩
theorem dScs_goRound_60 : Dc mScs_goRound 60 (.invokevirtual 77) 3 63 := ⟨by decide +kernel, rfl⟩
theorem dScs_goRound_63 : Db mScs_goRound 63 (.ifCond .eq) 72 66 := ⟨9, by decide +kernel, by decide, rfl⟩
theorem dScs_goRound_66 : Dc mScs_goRound 66 (.aload_n 0) 1 67 := ⟨by decide +kernel, rfl⟩
theorem dScs_goRound_67 : Dc mScs_goRound 67 (.iload_n 1) 1 68 := ⟨by decide +kernel, rfl⟩
theorem dScs_goRound_68 : Dc mScs_goRound 68 (.iload_n 3) 1 69 := ⟨by decide +kernel, rfl⟩
theorem dScs_goRound_69 : Dc mScs_goRound 69 (.invokevirtual 80) 3 72 := ⟨by decide +kernel, rfl⟩
theorem dScs_goRound_72 : Dc mScs_goRound 72 (.iinc 1 1) 3 75 := ⟨by decide +kernel, rfl⟩
theorem dScs_goRound_75 : Db mScs_goRound 75 .goto 2 78 := ⟨(-73), by decide +kernel, by decide, rfl⟩
theorem dScs_goRound_78 : Dc mScs_goRound 78 .return_ 1 79 := ⟨by decide +kernel, rfl⟩
theorem dScs_mayChange_0 : Dc mScs_mayChange 0 (.aload_n 0) 1 1 := ⟨by decide +kernel, rfl⟩
theorem dScs_mayChange_1 : Dc mScs_mayChange 1 (.iconst 2) 1 2 := ⟨by decide +kernel, rfl⟩
theorem dScs_mayChange_2 : Dc mScs_mayChange 2 (.iload_n 1) 1 3 := ⟨by decide +kernel, rfl⟩
theorem dScs_mayChange_3 : Dc mScs_mayChange 3 .imul 1 4 := ⟨by decide +kernel, rfl⟩
theorem dScs_mayChange_4 : Dc mScs_mayChange 4 (.iload_n 2) 1 5 := ⟨by decide +kernel, rfl⟩
theorem dScs_mayChange_5 : Dc mScs_mayChange 5 .iadd 1 6 := ⟨by decide +kernel, rfl⟩
theorem dScs_mayChange_6 : Dc mScs_mayChange 6 (.invokevirtual 84) 3 9 := ⟨by decide +kernel, rfl⟩
theorem dScs_mayChange_9 : Db mScs_mayChange 9 (.ifCond .eq) 14 12 := ⟨5, by decide +kernel, by decide, rfl⟩
theorem dScs_mayChange_12 : Dc mScs_mayChange 12 (.iconst 0) 1 13 := ⟨by decide +kernel, rfl⟩
theorem dScs_mayChange_13 : Dc mScs_mayChange 13 .ireturn 1 14 := ⟨by decide +kernel, rfl⟩
theorem dScs_mayChange_14 : Dc mScs_mayChange 14 (.aload_n 0) 1 15 := ⟨by decide +kernel, rfl⟩
theorem dScs_mayChange_15 : Dc mScs_mayChange 15 (.getfield 12) 3 18 := ⟨by decide +kernel, rfl⟩
theorem dScs_mayChange_18 : Dc mScs_mayChange 18 (.iload_n 1) 1 19 := ⟨by decide +kernel, rfl⟩
theorem dScs_mayChange_19 : Dc mScs_mayChange 19 (.invokevirtual 38) 3 22 := ⟨by decide +kernel, rfl⟩
theorem dScs_mayChange_22 : Dc mScs_mayChange 22 (.checkcast 29) 3 25 := ⟨by decide +kernel, rfl⟩
theorem dScs_mayChange_25 : Dc mScs_mayChange 25 (.astore_n 3) 1 26 := ⟨by decide +kernel, rfl⟩
theorem dScs_mayChange_26 : Dc mScs_mayChange 26 (.iload_n 2) 1 27 := ⟨by decide +kernel, rfl⟩
theorem dScs_mayChange_27 : Dc mScs_mayChange 27 (.iconst 1) 1 28 := ⟨by decide +kernel, rfl⟩
theorem dScs_mayChange_28 : Db mScs_mayChange 28 (.if_icmp .eq) 45 31 := ⟨17, by decide +kernel, by decide, rfl⟩
theorem dScs_mayChange_31 : Dc mScs_mayChange 31 (.aload_n 3) 1 32 := ⟨by decide +kernel, rfl⟩
theorem dScs_mayChange_32 : Dc mScs_mayChange 32 (.getfield 46) 3 35 := ⟨by decide +kernel, rfl⟩
theorem dScs_mayChange_35 : Db mScs_mayChange 35 (.ifCond .eq) 45 38 := ⟨10, by decide +kernel, by decide, rfl⟩
theorem dScs_mayChange_38 : Dc mScs_mayChange 38 (.aload_n 3) 1 39 := ⟨by decide +kernel, rfl⟩
theorem dScs_mayChange_39 : Dc mScs_mayChange 39 (.getfield 87) 3 42 := ⟨by decide +kernel, rfl⟩
theorem dScs_mayChange_42 : Db mScs_mayChange 42 (.ifCond .eq) 49 45 := ⟨7, by decide +kernel, by decide, rfl⟩
theorem dScs_mayChange_45 : Dc mScs_mayChange 45 (.iconst 1) 1 46 := ⟨by decide +kernel, rfl⟩
theorem dScs_mayChange_46 : Db mScs_mayChange 46 .goto 50 49 := ⟨4, by decide +kernel, by decide, rfl⟩
theorem dScs_mayChange_49 : Dc mScs_mayChange 49 (.iconst 0) 1 50 := ⟨by decide +kernel, rfl⟩
theorem dScs_mayChange_50 : Dc mScs_mayChange 50 .ireturn 1 51 := ⟨by decide +kernel, rfl⟩
theorem dScs_wasInTurn_0 : Dc mScs_wasInTurn 0 (.iconst 0) 1 1 := ⟨by decide +kernel, rfl⟩
theorem dScs_wasInTurn_1 : Dc mScs_wasInTurn 1 (.istore_n 2) 1 2 := ⟨by decide +kernel, rfl⟩
theorem dScs_wasInTurn_2 : Dc mScs_wasInTurn 2 (.iload_n 2) 1 3 := ⟨by decide +kernel, rfl⟩
theorem dScs_wasInTurn_3 : Dc mScs_wasInTurn 3 (.aload_n 0) 1 4 := ⟨by decide +kernel, rfl⟩
theorem dScs_wasInTurn_4 : Dc mScs_wasInTurn 4 (.getfield 67) 3 7 := ⟨by decide +kernel, rfl⟩
theorem dScs_wasInTurn_7 : Db mScs_wasInTurn 7 (.if_icmp .ge) 28 10 := ⟨21, by decide +kernel, by decide, rfl⟩
theorem dScs_wasInTurn_10 : Dc mScs_wasInTurn 10 (.aload_n 0) 1 11 := ⟨by decide +kernel, rfl⟩
theorem dScs_wasInTurn_11 : Dc mScs_wasInTurn 11 (.getfield 18) 3 14 := ⟨by decide +kernel, rfl⟩
theorem dScs_wasInTurn_14 : Dc mScs_wasInTurn 14 (.iload_n 2) 1 15 := ⟨by decide +kernel, rfl⟩
theorem dScs_wasInTurn_15 : Dc mScs_wasInTurn 15 .iaload 1 16 := ⟨by decide +kernel, rfl⟩
theorem dScs_wasInTurn_16 : Dc mScs_wasInTurn 16 (.iload_n 1) 1 17 := ⟨by decide +kernel, rfl⟩
theorem dScs_wasInTurn_17 : Db mScs_wasInTurn 17 (.if_icmp .ne) 22 20 := ⟨5, by decide +kernel, by decide, rfl⟩
theorem dScs_wasInTurn_20 : Dc mScs_wasInTurn 20 (.iconst 1) 1 21 := ⟨by decide +kernel, rfl⟩
theorem dScs_wasInTurn_21 : Dc mScs_wasInTurn 21 .ireturn 1 22 := ⟨by decide +kernel, rfl⟩
theorem dScs_wasInTurn_22 : Dc mScs_wasInTurn 22 (.iinc 2 1) 3 25 := ⟨by decide +kernel, rfl⟩
theorem dScs_wasInTurn_25 : Db mScs_wasInTurn 25 .goto 2 28 := ⟨(-23), by decide +kernel, by decide, rfl⟩
theorem dScs_wasInTurn_28 : Dc mScs_wasInTurn 28 (.iconst 0) 1 29 := ⟨by decide +kernel, rfl⟩
theorem dScs_wasInTurn_29 : Dc mScs_wasInTurn 29 .ireturn 1 30 := ⟨by decide +kernel, rfl⟩
theorem dScs_isMet_0 : Dc mScs_isMet 0 (.iload_n 1) 1 1 := ⟨by decide +kernel, rfl⟩
theorem dScs_isMet_1 : Dc mScs_isMet 1 (.tableswitch (84) (1) (4) #[31, 45, 45, 55]) 31 32 := ⟨by decide +kernel, rfl⟩
theorem dScs_isMet_32 : Dc mScs_isMet 32 (.aload_n 0) 1 33 := ⟨by decide +kernel, rfl⟩
theorem dScs_isMet_33 : Dc mScs_isMet 33 (.getfield 64) 3 36 := ⟨by decide +kernel, rfl⟩
theorem dScs_isMet_36 : Dc mScs_isMet 36 (.iload_n 2) 1 37 := ⟨by decide +kernel, rfl⟩
theorem dScs_isMet_37 : Db mScs_isMet 37 (.if_icmp .lt) 44 40 := ⟨7, by decide +kernel, by decide, rfl⟩
theorem dScs_isMet_40 : Dc mScs_isMet 40 (.iconst 1) 1 41 := ⟨by decide +kernel, rfl⟩
theorem dScs_isMet_41 : Db mScs_isMet 41 .goto 45 44 := ⟨4, by decide +kernel, by decide, rfl⟩
theorem dScs_isMet_44 : Dc mScs_isMet 44 (.iconst 0) 1 45 := ⟨by decide +kernel, rfl⟩
theorem dScs_isMet_45 : Dc mScs_isMet 45 .ireturn 1 46 := ⟨by decide +kernel, rfl⟩
theorem dScs_isMet_46 : Dc mScs_isMet 46 (.aload_n 0) 1 47 := ⟨by decide +kernel, rfl⟩
theorem dScs_isMet_47 : Dc mScs_isMet 47 (.iload_n 1) 1 48 := ⟨by decide +kernel, rfl⟩
theorem dScs_isMet_48 : Dc mScs_isMet 48 (.iload_n 2) 1 49 := ⟨by decide +kernel, rfl⟩
theorem dScs_isMet_49 : Dc mScs_isMet 49 (.invokestatic 60) 3 52 := ⟨by decide +kernel, rfl⟩
theorem dScs_isMet_52 : Dc mScs_isMet 52 (.invokevirtual 84) 3 55 := ⟨by decide +kernel, rfl⟩
theorem dScs_isMet_55 : Dc mScs_isMet 55 .ireturn 1 56 := ⟨by decide +kernel, rfl⟩
theorem dScs_isMet_56 : Dc mScs_isMet 56 (.aload_n 0) 1 57 := ⟨by decide +kernel, rfl⟩
theorem dScs_isMet_57 : Dc mScs_isMet 57 (.getfield 22) 3 60 := ⟨by decide +kernel, rfl⟩
theorem dScs_isMet_60 : Dc mScs_isMet 60 (.iload_n 2) 1 61 := ⟨by decide +kernel, rfl⟩
theorem dScs_isMet_61 : Dc mScs_isMet 61 (.iconst 4) 1 62 := ⟨by decide +kernel, rfl⟩
theorem dScs_isMet_62 : Dc mScs_isMet 62 .idiv 1 63 := ⟨by decide +kernel, rfl⟩
theorem dScs_isMet_63 : Dc mScs_isMet 63 (.invokevirtual 38) 3 66 := ⟨by decide +kernel, rfl⟩
theorem dScs_isMet_66 : Dc mScs_isMet 66 (.checkcast 90) 3 69 := ⟨by decide +kernel, rfl⟩
theorem dScs_isMet_69 : Dc mScs_isMet 69 (.getfield 92) 3 72 := ⟨by decide +kernel, rfl⟩
theorem dScs_isMet_72 : Dc mScs_isMet 72 (.iload_n 2) 1 73 := ⟨by decide +kernel, rfl⟩
theorem dScs_isMet_73 : Dc mScs_isMet 73 (.iconst 4) 1 74 := ⟨by decide +kernel, rfl⟩
theorem dScs_isMet_74 : Dc mScs_isMet 74 .irem 1 75 := ⟨by decide +kernel, rfl⟩
theorem dScs_isMet_75 : Dc mScs_isMet 75 .iaload 1 76 := ⟨by decide +kernel, rfl⟩
theorem dScs_isMet_76 : Db mScs_isMet 76 (.ifCond .le) 83 79 := ⟨7, by decide +kernel, by decide, rfl⟩
theorem dScs_isMet_79 : Dc mScs_isMet 79 (.iconst 1) 1 80 := ⟨by decide +kernel, rfl⟩
theorem dScs_isMet_80 : Db mScs_isMet 80 .goto 84 83 := ⟨4, by decide +kernel, by decide, rfl⟩
theorem dScs_isMet_83 : Dc mScs_isMet 83 (.iconst 0) 1 84 := ⟨by decide +kernel, rfl⟩
theorem dScs_isMet_84 : Dc mScs_isMet 84 .ireturn 1 85 := ⟨by decide +kernel, rfl⟩
theorem dScs_isMet_85 : Dc mScs_isMet 85 (.iconst 0) 1 86 := ⟨by decide +kernel, rfl⟩
theorem dScs_isMet_86 : Dc mScs_isMet 86 .ireturn 1 87 := ⟨by decide +kernel, rfl⟩
theorem dScs_change_0 : Dc mScs_change 0 (.aload_n 0) 1 1 := ⟨by decide +kernel, rfl⟩
theorem dScs_change_1 : Dc mScs_change 1 (.getfield 12) 3 4 := ⟨by decide +kernel, rfl⟩
theorem dScs_change_4 : Dc mScs_change 4 (.iload_n 1) 1 5 := ⟨by decide +kernel, rfl⟩
theorem dScs_change_5 : Dc mScs_change 5 (.invokevirtual 38) 3 8 := ⟨by decide +kernel, rfl⟩
theorem dScs_change_8 : Dc mScs_change 8 (.checkcast 29) 3 11 := ⟨by decide +kernel, rfl⟩
theorem dScs_change_11 : Dc mScs_change 11 (.astore_n 3) 1 12 := ⟨by decide +kernel, rfl⟩
theorem dScs_change_12 : Dc mScs_change 12 (.aload_n 3) 1 13 := ⟨by decide +kernel, rfl⟩
theorem dScs_change_13 : Dc mScs_change 13 (.iload_n 2) 1 14 := ⟨by decide +kernel, rfl⟩
theorem dScs_change_14 : Db mScs_change 14 (.ifCond .ne) 21 17 := ⟨7, by decide +kernel, by decide, rfl⟩
theorem dScs_change_17 : Dc mScs_change 17 (.iconst 1) 1 18 := ⟨by decide +kernel, rfl⟩
theorem dScs_change_18 : Db mScs_change 18 .goto 22 21 := ⟨4, by decide +kernel, by decide, rfl⟩
theorem dScs_change_21 : Dc mScs_change 21 (.iconst 0) 1 22 := ⟨by decide +kernel, rfl⟩
theorem dScs_change_22 : Dc mScs_change 22 (.putfield 42) 3 25 := ⟨by decide +kernel, rfl⟩
theorem dScs_change_25 : Dc mScs_change 25 (.aload_n 3) 1 26 := ⟨by decide +kernel, rfl⟩
theorem dScs_change_26 : Dc mScs_change 26 (.getfield 42) 3 29 := ⟨by decide +kernel, rfl⟩
theorem dScs_change_29 : Db mScs_change 29 (.ifCond .eq) 42 32 := ⟨13, by decide +kernel, by decide, rfl⟩
theorem dScs_change_32 : Dc mScs_change 32 (.aload_n 3) 1 33 := ⟨by decide +kernel, rfl⟩
theorem dScs_change_33 : Dc mScs_change 33 .dup 1 34 := ⟨by decide +kernel, rfl⟩
theorem dScs_change_34 : Dc mScs_change 34 (.getfield 46) 3 37 := ⟨by decide +kernel, rfl⟩
theorem dScs_change_37 : Dc mScs_change 37 (.iconst 1) 1 38 := ⟨by decide +kernel, rfl⟩
theorem dScs_change_38 : Dc mScs_change 38 .iadd 1 39 := ⟨by decide +kernel, rfl⟩
theorem dScs_change_39 : Dc mScs_change 39 (.putfield 46) 3 42 := ⟨by decide +kernel, rfl⟩
theorem dScs_change_42 : Dc mScs_change 42 (.aload_n 0) 1 43 := ⟨by decide +kernel, rfl⟩
theorem dScs_change_43 : Dc mScs_change 43 (.getfield 18) 3 46 := ⟨by decide +kernel, rfl⟩
theorem dScs_change_46 : Dc mScs_change 46 (.aload_n 0) 1 47 := ⟨by decide +kernel, rfl⟩
theorem dScs_change_47 : Dc mScs_change 47 (.getfield 67) 3 50 := ⟨by decide +kernel, rfl⟩
theorem dScs_change_50 : Dc mScs_change 50 (.iconst 2) 1 51 := ⟨by decide +kernel, rfl⟩
theorem dScs_change_51 : Dc mScs_change 51 (.iload_n 1) 1 52 := ⟨by decide +kernel, rfl⟩
theorem dScs_change_52 : Dc mScs_change 52 .imul 1 53 := ⟨by decide +kernel, rfl⟩
theorem dScs_change_53 : Dc mScs_change 53 (.iload_n 2) 1 54 := ⟨by decide +kernel, rfl⟩
theorem dScs_change_54 : Dc mScs_change 54 .iadd 1 55 := ⟨by decide +kernel, rfl⟩
theorem dScs_change_55 : Dc mScs_change 55 .iastore 1 56 := ⟨by decide +kernel, rfl⟩
theorem dScs_change_56 : Dc mScs_change 56 (.aload_n 0) 1 57 := ⟨by decide +kernel, rfl⟩
theorem dScs_change_57 : Dc mScs_change 57 .dup 1 58 := ⟨by decide +kernel, rfl⟩
theorem dScs_change_58 : Dc mScs_change 58 (.getfield 67) 3 61 := ⟨by decide +kernel, rfl⟩
theorem dScs_change_61 : Dc mScs_change 61 (.iconst 1) 1 62 := ⟨by decide +kernel, rfl⟩
theorem dScs_change_62 : Dc mScs_change 62 .iadd 1 63 := ⟨by decide +kernel, rfl⟩
theorem dScs_change_63 : Dc mScs_change 63 (.putfield 67) 3 66 := ⟨by decide +kernel, rfl⟩
theorem dScs_change_66 : Dc mScs_change 66 .return_ 1 67 := ⟨by decide +kernel, rfl⟩
theorem dX_event_0 : Dc mX_event 0 (.iload_n 1) 1 1 := ⟨by decide +kernel, rfl⟩
theorem dX_event_1 : Db mX_event 1 (.ifCond .lt) 15 4 := ⟨14, by decide +kernel, by decide, rfl⟩
theorem dX_event_4 : Dc mX_event 4 (.iload_n 1) 1 5 := ⟨by decide +kernel, rfl⟩
theorem dX_event_5 : Dc mX_event 5 (.aload_n 0) 1 6 := ⟨by decide +kernel, rfl⟩
theorem dX_event_6 : Dc mX_event 6 (.getfield 49) 3 9 := ⟨by decide +kernel, rfl⟩
theorem dX_event_9 : Dc mX_event 9 (.getfield 256) 3 12 := ⟨by decide +kernel, rfl⟩
theorem dX_event_12 : Db mX_event 12 (.if_icmp .lt) 18 15 := ⟨6, by decide +kernel, by decide, rfl⟩
theorem dX_event_15 : Dc mX_event 15 (.bipush (-4)) 2 17 := ⟨by decide +kernel, rfl⟩
theorem dX_event_17 : Dc mX_event 17 .ireturn 1 18 := ⟨by decide +kernel, rfl⟩
theorem dX_event_18 : Dc mX_event 18 (.aload_n 0) 1 19 := ⟨by decide +kernel, rfl⟩
theorem dX_event_19 : Dc mX_event 19 (.getfield 49) 3 22 := ⟨by decide +kernel, rfl⟩
theorem dX_event_22 : Dc mX_event 22 (.getfield 259) 3 25 := ⟨by decide +kernel, rfl⟩
theorem dX_event_25 : Dc mX_event 25 (.iload_n 1) 1 26 := ⟨by decide +kernel, rfl⟩
theorem dX_event_26 : Dc mX_event 26 .iaload 1 27 := ⟨by decide +kernel, rfl⟩
theorem dX_event_27 : Dc mX_event 27 .ireturn 1 28 := ⟨by decide +kernel, rfl⟩
theorem dX_happens_0 : Dc mX_happens 0 (.aload_n 0) 1 1 := ⟨by decide +kernel, rfl⟩
theorem dX_happens_1 : Dc mX_happens 1 (.getfield 49) 3 4 := ⟨by decide +kernel, rfl⟩
theorem dX_happens_4 : Dc mX_happens 4 (.iload_n 1) 1 5 := ⟨by decide +kernel, rfl⟩
theorem dX_happens_5 : Dc mX_happens 5 (.invokevirtual 164) 3 8 := ⟨by decide +kernel, rfl⟩
theorem dX_happens_8 : Db mX_happens 8 (.ifCond .eq) 20 11 := ⟨12, by decide +kernel, by decide, rfl⟩
theorem dX_happens_11 : Dc mX_happens 11 (.iload_n 2) 1 12 := ⟨by decide +kernel, rfl⟩
theorem dX_happens_12 : Db mX_happens 12 (.ifCond .eq) 22 15 := ⟨10, by decide +kernel, by decide, rfl⟩
theorem dX_happens_15 : Dc mX_happens 15 (.iload_n 2) 1 16 := ⟨by decide +kernel, rfl⟩
theorem dX_happens_16 : Dc mX_happens 16 (.iconst 1) 1 17 := ⟨by decide +kernel, rfl⟩
theorem dX_happens_17 : Db mX_happens 17 (.if_icmp .eq) 22 20 := ⟨5, by decide +kernel, by decide, rfl⟩
theorem dX_happens_20 : Dc mX_happens 20 (.iconst (-1)) 1 21 := ⟨by decide +kernel, rfl⟩
theorem dX_happens_21 : Dc mX_happens 21 .ireturn 1 22 := ⟨by decide +kernel, rfl⟩
theorem dX_happens_22 : Dc mX_happens 22 (.iload_n 2) 1 23 := ⟨by decide +kernel, rfl⟩
theorem dX_happens_23 : Db mX_happens 23 (.ifCond .ne) 40 26 := ⟨17, by decide +kernel, by decide, rfl⟩
theorem dX_happens_26 : Dc mX_happens 26 (.aload_n 0) 1 27 := ⟨by decide +kernel, rfl⟩
theorem dX_happens_27 : Dc mX_happens 27 (.getfield 49) 3 30 := ⟨by decide +kernel, rfl⟩
theorem dX_happens_30 : Dc mX_happens 30 (.iload_n 1) 1 31 := ⟨by decide +kernel, rfl⟩
theorem dX_happens_31 : Dc mX_happens 31 (.invokevirtual 262) 3 34 := ⟨by decide +kernel, rfl⟩
theorem dX_happens_34 : Dc mX_happens 34 (.invokestatic 87) 3 37 := ⟨by decide +kernel, rfl⟩
theorem dX_happens_37 : Db mX_happens 37 .goto 48 40 := ⟨11, by decide +kernel, by decide, rfl⟩
theorem dX_happens_40 : Dc mX_happens 40 (.aload_n 0) 1 41 := ⟨by decide +kernel, rfl⟩
theorem dX_happens_41 : Dc mX_happens 41 (.getfield 49) 3 44 := ⟨by decide +kernel, rfl⟩
theorem dX_happens_44 : Dc mX_happens 44 (.iload_n 1) 1 45 := ⟨by decide +kernel, rfl⟩
theorem dX_happens_45 : Dc mX_happens 45 (.invokevirtual 265) 3 48 := ⟨by decide +kernel, rfl⟩
theorem dX_happens_48 : Dc mX_happens 48 .ireturn 1 49 := ⟨by decide +kernel, rfl⟩
theorem dScs_beganOften_0 : Dc mScs_beganOften 0 (.aload_n 0) 1 1 := ⟨by decide +kernel, rfl⟩
theorem dScs_beganOften_1 : Dc mScs_beganOften 1 (.getfield 12) 3 4 := ⟨by decide +kernel, rfl⟩
theorem dScs_beganOften_4 : Dc mScs_beganOften 4 (.iload_n 1) 1 5 := ⟨by decide +kernel, rfl⟩
theorem dScs_beganOften_5 : Dc mScs_beganOften 5 (.invokevirtual 38) 3 8 := ⟨by decide +kernel, rfl⟩
theorem dScs_beganOften_8 : Dc mScs_beganOften 8 (.checkcast 29) 3 11 := ⟨by decide +kernel, rfl⟩
theorem dScs_beganOften_11 : Dc mScs_beganOften 11 (.getfield 46) 3 14 := ⟨by decide +kernel, rfl⟩
theorem dScs_beganOften_14 : Dc mScs_beganOften 14 .ireturn 1 15 := ⟨by decide +kernel, rfl⟩
theorem dX_phrase_0 : Dc mX_phrase 0 (.iload_n 1) 1 1 := ⟨by decide +kernel, rfl⟩
theorem dX_phrase_1 : Dc mX_phrase 1 (.invokestatic 268) 3 4 := ⟨by decide +kernel, rfl⟩
theorem dX_phrase_4 : Db mX_phrase 4 (.ifCond .eq) 29 7 := ⟨25, by decide +kernel, by decide, rfl⟩
theorem dX_phrase_7 : Dc mX_phrase 7 (.aload_n 0) 1 8 := ⟨by decide +kernel, rfl⟩
theorem dX_phrase_8 : Dc mX_phrase 8 (.getfield 10) 3 11 := ⟨by decide +kernel, rfl⟩
theorem dX_phrase_11 : Dc mX_phrase 11 (.iload_n 2) 1 12 := ⟨by decide +kernel, rfl⟩
theorem dX_phrase_12 : Dc mX_phrase 12 (.invokevirtual 75) 3 15 := ⟨by decide +kernel, rfl⟩
theorem dX_phrase_15 : Db mX_phrase 15 (.ifCond .eq) 29 18 := ⟨14, by decide +kernel, by decide, rfl⟩
theorem dX_phrase_18 : Dc mX_phrase 18 (.aload_n 0) 1 19 := ⟨by decide +kernel, rfl⟩
theorem dX_phrase_19 : Dc mX_phrase 19 (.getfield 10) 3 22 := ⟨by decide +kernel, rfl⟩
theorem dX_phrase_22 : Dc mX_phrase 22 (.iload_n 3) 1 23 := ⟨by decide +kernel, rfl⟩
theorem dX_phrase_23 : Dc mX_phrase 23 (.invokevirtual 75) 3 26 := ⟨by decide +kernel, rfl⟩
theorem dX_phrase_26 : Db mX_phrase 26 (.ifCond .ne) 31 29 := ⟨5, by decide +kernel, by decide, rfl⟩
theorem dX_phrase_29 : Dc mX_phrase 29 (.iconst (-1)) 1 30 := ⟨by decide +kernel, rfl⟩
theorem dX_phrase_30 : Dc mX_phrase 30 .ireturn 1 31 := ⟨by decide +kernel, rfl⟩
theorem dX_phrase_31 : Dc mX_phrase 31 (.aload_n 0) 1 32 := ⟨by decide +kernel, rfl⟩
theorem dX_phrase_32 : Dc mX_phrase 32 (.getfield 62) 3 35 := ⟨by decide +kernel, rfl⟩
theorem dX_phrase_35 : Dc mX_phrase 35 (.iload_n 1) 1 36 := ⟨by decide +kernel, rfl⟩
theorem dX_phrase_36 : Dc mX_phrase 36 (.iload_n 2) 1 37 := ⟨by decide +kernel, rfl⟩
theorem dX_phrase_37 : Dc mX_phrase 37 (.iload_n 3) 1 38 := ⟨by decide +kernel, rfl⟩
theorem dX_phrase_38 : Dc mX_phrase 38 (.invokevirtual 271) 3 41 := ⟨by decide +kernel, rfl⟩
theorem dX_phrase_41 : Dc mX_phrase 41 .ireturn 1 42 := ⟨by decide +kernel, rfl⟩
theorem dX_isName_0 : Dc mX_isName 0 (.iload_n 0) 1 1 := ⟨by decide +kernel, rfl⟩
theorem dX_isName_1 : Db mX_isName 1 (.ifCond .lt) 14 4 := ⟨13, by decide +kernel, by decide, rfl⟩
theorem dX_isName_4 : Dc mX_isName 4 (.iload_n 0) 1 5 := ⟨by decide +kernel, rfl⟩
theorem dX_isName_5 : Dc mX_isName 5 (.bipush 9) 2 7 := ⟨by decide +kernel, rfl⟩
theorem dX_isName_7 : Db mX_isName 7 (.if_icmp .gt) 14 10 := ⟨7, by decide +kernel, by decide, rfl⟩
theorem dX_isName_10 : Dc mX_isName 10 (.iconst 1) 1 11 := ⟨by decide +kernel, rfl⟩
theorem dX_isName_11 : Db mX_isName 11 .goto 15 14 := ⟨4, by decide +kernel, by decide, rfl⟩
theorem dX_isName_14 : Dc mX_isName 14 (.iconst 0) 1 15 := ⟨by decide +kernel, rfl⟩
theorem dX_isName_15 : Dc mX_isName 15 .ireturn 1 16 := ⟨by decide +kernel, rfl⟩
theorem dPhr_add_0 : Dc mPhr_add 0 (.aload_n 0) 1 1 := ⟨by decide +kernel, rfl⟩
theorem dPhr_add_1 : Dc mPhr_add 1 (.iload_n 1) 1 2 := ⟨by decide +kernel, rfl⟩
theorem dPhr_add_2 : Dc mPhr_add 2 (.iload_n 2) 1 3 := ⟨by decide +kernel, rfl⟩
theorem dPhr_add_3 : Dc mPhr_add 3 (.iload_n 3) 1 4 := ⟨by decide +kernel, rfl⟩
theorem dPhr_add_4 : Dc mPhr_add 4 (.invokevirtual 25) 3 7 := ⟨by decide +kernel, rfl⟩
theorem dPhr_add_7 : Db mPhr_add 7 (.ifCond .eq) 13 10 := ⟨6, by decide +kernel, by decide, rfl⟩
theorem dPhr_add_10 : Dc mPhr_add 10 (.bipush (-2)) 2 12 := ⟨by decide +kernel, rfl⟩
theorem dPhr_add_12 : Dc mPhr_add 12 .ireturn 1 13 := ⟨by decide +kernel, rfl⟩
theorem dPhr_add_13 : Dc mPhr_add 13 (.aload_n 0) 1 14 := ⟨by decide +kernel, rfl⟩
theorem dPhr_add_14 : Dc mPhr_add 14 (.getfield 29) 3 17 := ⟨by decide +kernel, rfl⟩
theorem dPhr_add_17 : Dc mPhr_add 17 (.bipush 40) 2 19 := ⟨by decide +kernel, rfl⟩
theorem dPhr_add_19 : Db mPhr_add 19 (.if_icmp .lt) 25 22 := ⟨6, by decide +kernel, by decide, rfl⟩
theorem dPhr_add_22 : Dc mPhr_add 22 (.bipush (-3)) 2 24 := ⟨by decide +kernel, rfl⟩
theorem dPhr_add_24 : Dc mPhr_add 24 .ireturn 1 25 := ⟨by decide +kernel, rfl⟩
theorem dPhr_add_25 : Dc mPhr_add 25 (.aload_n 0) 1 26 := ⟨by decide +kernel, rfl⟩
theorem dPhr_add_26 : Dc mPhr_add 26 (.getfield 9) 3 29 := ⟨by decide +kernel, rfl⟩
theorem dPhr_add_29 : Dc mPhr_add 29 (.aload_n 0) 1 30 := ⟨by decide +kernel, rfl⟩
theorem dPhr_add_30 : Dc mPhr_add 30 (.getfield 29) 3 33 := ⟨by decide +kernel, rfl⟩
theorem dPhr_add_33 : Dc mPhr_add 33 (.iload_n 1) 1 34 := ⟨by decide +kernel, rfl⟩
theorem dPhr_add_34 : Dc mPhr_add 34 .iastore 1 35 := ⟨by decide +kernel, rfl⟩
theorem dPhr_add_35 : Dc mPhr_add 35 (.aload_n 0) 1 36 := ⟨by decide +kernel, rfl⟩
theorem dPhr_add_36 : Dc mPhr_add 36 (.getfield 15) 3 39 := ⟨by decide +kernel, rfl⟩
theorem dPhr_add_39 : Dc mPhr_add 39 (.aload_n 0) 1 40 := ⟨by decide +kernel, rfl⟩
theorem dPhr_add_40 : Dc mPhr_add 40 (.getfield 29) 3 43 := ⟨by decide +kernel, rfl⟩
theorem dPhr_add_43 : Dc mPhr_add 43 (.iload_n 2) 1 44 := ⟨by decide +kernel, rfl⟩
theorem dPhr_add_44 : Dc mPhr_add 44 .iastore 1 45 := ⟨by decide +kernel, rfl⟩
theorem dPhr_add_45 : Dc mPhr_add 45 (.aload_n 0) 1 46 := ⟨by decide +kernel, rfl⟩
theorem dPhr_add_46 : Dc mPhr_add 46 (.getfield 18) 3 49 := ⟨by decide +kernel, rfl⟩
theorem dPhr_add_49 : Dc mPhr_add 49 (.aload_n 0) 1 50 := ⟨by decide +kernel, rfl⟩
theorem dPhr_add_50 : Dc mPhr_add 50 (.getfield 29) 3 53 := ⟨by decide +kernel, rfl⟩
theorem dPhr_add_53 : Dc mPhr_add 53 (.iload_n 3) 1 54 := ⟨by decide +kernel, rfl⟩
theorem dPhr_add_54 : Dc mPhr_add 54 .iastore 1 55 := ⟨by decide +kernel, rfl⟩
theorem dPhr_add_55 : Dc mPhr_add 55 (.aload_n 0) 1 56 := ⟨by decide +kernel, rfl⟩
theorem dPhr_add_56 : Dc mPhr_add 56 .dup 1 57 := ⟨by decide +kernel, rfl⟩
theorem dPhr_add_57 : Dc mPhr_add 57 (.getfield 29) 3 60 := ⟨by decide +kernel, rfl⟩
theorem dPhr_add_60 : Dc mPhr_add 60 (.iconst 1) 1 61 := ⟨by decide +kernel, rfl⟩
theorem dPhr_add_61 : Dc mPhr_add 61 .iadd 1 62 := ⟨by decide +kernel, rfl⟩
theorem dPhr_add_62 : Dc mPhr_add 62 (.putfield 29) 3 65 := ⟨by decide +kernel, rfl⟩
theorem dPhr_add_65 : Dc mPhr_add 65 (.aload_n 0) 1 66 := ⟨by decide +kernel, rfl⟩
theorem dPhr_add_66 : Dc mPhr_add 66 (.getfield 29) 3 69 := ⟨by decide +kernel, rfl⟩
theorem dPhr_add_69 : Dc mPhr_add 69 (.iconst 1) 1 70 := ⟨by decide +kernel, rfl⟩
theorem dPhr_add_70 : Dc mPhr_add 70 .isub 1 71 := ⟨by decide +kernel, rfl⟩
theorem dPhr_add_71 : Dc mPhr_add 71 .ireturn 1 72 := ⟨by decide +kernel, rfl⟩
theorem dPhr_isTold_0 : Dc mPhr_isTold 0 (.iconst 0) 1 1 := ⟨by decide +kernel, rfl⟩
theorem dPhr_isTold_1 : Dc mPhr_isTold 1 (.istore 4) 2 3 := ⟨by decide +kernel, rfl⟩
theorem dPhr_isTold_3 : Dc mPhr_isTold 3 (.iload 4) 2 5 := ⟨by decide +kernel, rfl⟩
theorem dPhr_isTold_5 : Dc mPhr_isTold 5 (.aload_n 0) 1 6 := ⟨by decide +kernel, rfl⟩
theorem dPhr_isTold_6 : Dc mPhr_isTold 6 (.getfield 29) 3 9 := ⟨by decide +kernel, rfl⟩
theorem dPhr_isTold_9 : Db mPhr_isTold 9 (.if_icmp .ge) 53 12 := ⟨44, by decide +kernel, by decide, rfl⟩
theorem dPhr_isTold_12 : Dc mPhr_isTold 12 (.aload_n 0) 1 13 := ⟨by decide +kernel, rfl⟩
theorem dPhr_isTold_13 : Dc mPhr_isTold 13 (.getfield 9) 3 16 := ⟨by decide +kernel, rfl⟩
theorem dPhr_isTold_16 : Dc mPhr_isTold 16 (.iload 4) 2 18 := ⟨by decide +kernel, rfl⟩
theorem dPhr_isTold_18 : Dc mPhr_isTold 18 .iaload 1 19 := ⟨by decide +kernel, rfl⟩
theorem dPhr_isTold_19 : Dc mPhr_isTold 19 (.iload_n 1) 1 20 := ⟨by decide +kernel, rfl⟩
theorem dPhr_isTold_20 : Db mPhr_isTold 20 (.if_icmp .ne) 47 23 := ⟨27, by decide +kernel, by decide, rfl⟩
theorem dPhr_isTold_23 : Dc mPhr_isTold 23 (.aload_n 0) 1 24 := ⟨by decide +kernel, rfl⟩
theorem dPhr_isTold_24 : Dc mPhr_isTold 24 (.getfield 15) 3 27 := ⟨by decide +kernel, rfl⟩
theorem dPhr_isTold_27 : Dc mPhr_isTold 27 (.iload 4) 2 29 := ⟨by decide +kernel, rfl⟩
theorem dPhr_isTold_29 : Dc mPhr_isTold 29 .iaload 1 30 := ⟨by decide +kernel, rfl⟩
theorem dPhr_isTold_30 : Dc mPhr_isTold 30 (.iload_n 2) 1 31 := ⟨by decide +kernel, rfl⟩
theorem dPhr_isTold_31 : Db mPhr_isTold 31 (.if_icmp .ne) 47 34 := ⟨16, by decide +kernel, by decide, rfl⟩
theorem dPhr_isTold_34 : Dc mPhr_isTold 34 (.aload_n 0) 1 35 := ⟨by decide +kernel, rfl⟩
theorem dPhr_isTold_35 : Dc mPhr_isTold 35 (.getfield 18) 3 38 := ⟨by decide +kernel, rfl⟩
theorem dPhr_isTold_38 : Dc mPhr_isTold 38 (.iload 4) 2 40 := ⟨by decide +kernel, rfl⟩
theorem dPhr_isTold_40 : Dc mPhr_isTold 40 .iaload 1 41 := ⟨by decide +kernel, rfl⟩
theorem dPhr_isTold_41 : Dc mPhr_isTold 41 (.iload_n 3) 1 42 := ⟨by decide +kernel, rfl⟩
theorem dPhr_isTold_42 : Db mPhr_isTold 42 (.if_icmp .ne) 47 45 := ⟨5, by decide +kernel, by decide, rfl⟩
theorem dPhr_isTold_45 : Dc mPhr_isTold 45 (.iconst 1) 1 46 := ⟨by decide +kernel, rfl⟩
theorem dPhr_isTold_46 : Dc mPhr_isTold 46 .ireturn 1 47 := ⟨by decide +kernel, rfl⟩
theorem dPhr_isTold_47 : Dc mPhr_isTold 47 (.iinc 4 1) 3 50 := ⟨by decide +kernel, rfl⟩
theorem dPhr_isTold_50 : Db mPhr_isTold 50 .goto 3 53 := ⟨(-47), by decide +kernel, by decide, rfl⟩
theorem dPhr_isTold_53 : Dc mPhr_isTold 53 (.iconst 0) 1 54 := ⟨by decide +kernel, rfl⟩
theorem dPhr_isTold_54 : Dc mPhr_isTold 54 .ireturn 1 55 := ⟨by decide +kernel, rfl⟩
theorem dX_choose_0 : Dc mX_choose 0 (.aload_n 0) 1 1 := ⟨by decide +kernel, rfl⟩
theorem dX_choose_1 : Dc mX_choose 1 (.iload_n 2) 1 2 := ⟨by decide +kernel, rfl⟩
theorem dX_choose_2 : Dc mX_choose 2 (.invokevirtual 103) 3 5 := ⟨by decide +kernel, rfl⟩
theorem dX_choose_5 : Dc mX_choose 5 (.astore 4) 2 7 := ⟨by decide +kernel, rfl⟩
theorem dX_choose_7 : Dc mX_choose 7 (.aload_n 0) 1 8 := ⟨by decide +kernel, rfl⟩
theorem dX_choose_8 : Dc mX_choose 8 (.iload_n 3) 1 9 := ⟨by decide +kernel, rfl⟩
theorem dX_choose_9 : Dc mX_choose 9 (.invokevirtual 103) 3 12 := ⟨by decide +kernel, rfl⟩
theorem dX_choose_12 : Dc mX_choose 12 (.astore 5) 2 14 := ⟨by decide +kernel, rfl⟩
theorem dX_choose_14 : Dc mX_choose 14 (.iload_n 1) 1 15 := ⟨by decide +kernel, rfl⟩
theorem dX_choose_15 : Dc mX_choose 15 (.invokestatic 268) 3 18 := ⟨by decide +kernel, rfl⟩
theorem dX_choose_18 : Db mX_choose 18 (.ifCond .eq) 31 21 := ⟨13, by decide +kernel, by decide, rfl⟩
theorem dX_choose_21 : Dc mX_choose 21 (.aload 4) 2 23 := ⟨by decide +kernel, rfl⟩
theorem dX_choose_23 : Db mX_choose 23 .ifnull 31 26 := ⟨8, by decide +kernel, by decide, rfl⟩
theorem dX_choose_26 : Dc mX_choose 26 (.aload 5) 2 28 := ⟨by decide +kernel, rfl⟩
theorem dX_choose_28 : Db mX_choose 28 .ifnonnull 33 31 := ⟨5, by decide +kernel, by decide, rfl⟩
theorem dX_choose_31 : Dc mX_choose 31 (.iconst (-1)) 1 32 := ⟨by decide +kernel, rfl⟩
theorem dX_choose_32 : Dc mX_choose 32 .ireturn 1 33 := ⟨by decide +kernel, rfl⟩
theorem dX_choose_33 : Dc mX_choose 33 (.aload_n 0) 1 34 := ⟨by decide +kernel, rfl⟩
theorem dX_choose_34 : Dc mX_choose 34 (.getfield 62) 3 37 := ⟨by decide +kernel, rfl⟩
theorem dX_choose_37 : Dc mX_choose 37 (.iload_n 1) 1 38 := ⟨by decide +kernel, rfl⟩
theorem dX_choose_38 : Dc mX_choose 38 (.aload 4) 2 40 := ⟨by decide +kernel, rfl⟩
theorem dX_choose_40 : Dc mX_choose 40 (.getfield 274) 3 43 := ⟨by decide +kernel, rfl⟩
theorem dX_choose_43 : Dc mX_choose 43 (.aload 5) 2 45 := ⟨by decide +kernel, rfl⟩
theorem dX_choose_45 : Dc mX_choose 45 (.getfield 274) 3 48 := ⟨by decide +kernel, rfl⟩
theorem dX_choose_48 : Dc mX_choose 48 (.invokevirtual 277) 3 51 := ⟨by decide +kernel, rfl⟩
theorem dX_choose_51 : Dc mX_choose 51 .ireturn 1 52 := ⟨by decide +kernel, rfl⟩
theorem dPhr_mostSpecial_0 : Dc mPhr_mostSpecial 0 (.bipush (-4)) 2 2 := ⟨by decide +kernel, rfl⟩
theorem dPhr_mostSpecial_2 : Dc mPhr_mostSpecial 2 (.istore 4) 2 4 := ⟨by decide +kernel, rfl⟩
theorem dPhr_mostSpecial_4 : Dc mPhr_mostSpecial 4 (.iconst 0) 1 5 := ⟨by decide +kernel, rfl⟩
theorem dPhr_mostSpecial_5 : Dc mPhr_mostSpecial 5 (.istore 5) 2 7 := ⟨by decide +kernel, rfl⟩
theorem dPhr_mostSpecial_7 : Dc mPhr_mostSpecial 7 (.iload 5) 2 9 := ⟨by decide +kernel, rfl⟩
theorem dPhr_mostSpecial_9 : Dc mPhr_mostSpecial 9 (.aload_n 0) 1 10 := ⟨by decide +kernel, rfl⟩
theorem dPhr_mostSpecial_10 : Dc mPhr_mostSpecial 10 (.getfield 29) 3 13 := ⟨by decide +kernel, rfl⟩
theorem dPhr_mostSpecial_13 : Db mPhr_mostSpecial 13 (.if_icmp .ge) 52 16 := ⟨39, by decide +kernel, by decide, rfl⟩
theorem dPhr_mostSpecial_16 : Dc mPhr_mostSpecial 16 (.aload_n 0) 1 17 := ⟨by decide +kernel, rfl⟩
theorem dPhr_mostSpecial_17 : Dc mPhr_mostSpecial 17 (.iload 5) 2 19 := ⟨by decide +kernel, rfl⟩
theorem dPhr_mostSpecial_19 : Dc mPhr_mostSpecial 19 (.iload_n 1) 1 20 := ⟨by decide +kernel, rfl⟩
theorem dPhr_mostSpecial_20 : Dc mPhr_mostSpecial 20 (.iload_n 2) 1 21 := ⟨by decide +kernel, rfl⟩
theorem dPhr_mostSpecial_21 : Dc mPhr_mostSpecial 21 (.iload_n 3) 1 22 := ⟨by decide +kernel, rfl⟩
theorem dPhr_mostSpecial_22 : Dc mPhr_mostSpecial 22 (.invokevirtual 33) 3 25 := ⟨by decide +kernel, rfl⟩
theorem dPhr_mostSpecial_25 : Db mPhr_mostSpecial 25 (.ifCond .eq) 46 28 := ⟨21, by decide +kernel, by decide, rfl⟩
theorem dPhr_mostSpecial_28 : Dc mPhr_mostSpecial 28 (.aload_n 0) 1 29 := ⟨by decide +kernel, rfl⟩
theorem dPhr_mostSpecial_29 : Dc mPhr_mostSpecial 29 (.iload 5) 2 31 := ⟨by decide +kernel, rfl⟩
theorem dPhr_mostSpecial_31 : Dc mPhr_mostSpecial 31 (.iload_n 2) 1 32 := ⟨by decide +kernel, rfl⟩
theorem dPhr_mostSpecial_32 : Dc mPhr_mostSpecial 32 (.iload_n 3) 1 33 := ⟨by decide +kernel, rfl⟩
theorem dPhr_mostSpecial_33 : Dc mPhr_mostSpecial 33 (.invokevirtual 37) 3 36 := ⟨by decide +kernel, rfl⟩
theorem dPhr_mostSpecial_36 : Db mPhr_mostSpecial 36 (.ifCond .eq) 42 39 := ⟨6, by decide +kernel, by decide, rfl⟩
theorem dPhr_mostSpecial_39 : Dc mPhr_mostSpecial 39 (.iload 5) 2 41 := ⟨by decide +kernel, rfl⟩
theorem dPhr_mostSpecial_41 : Dc mPhr_mostSpecial 41 .ireturn 1 42 := ⟨by decide +kernel, rfl⟩
theorem dPhr_mostSpecial_42 : Dc mPhr_mostSpecial 42 (.bipush (-5)) 2 44 := ⟨by decide +kernel, rfl⟩
theorem dPhr_mostSpecial_44 : Dc mPhr_mostSpecial 44 (.istore 4) 2 46 := ⟨by decide +kernel, rfl⟩
theorem dPhr_mostSpecial_46 : Dc mPhr_mostSpecial 46 (.iinc 5 1) 3 49 := ⟨by decide +kernel, rfl⟩
theorem dPhr_mostSpecial_49 : Db mPhr_mostSpecial 49 .goto 7 52 := ⟨(-42), by decide +kernel, by decide, rfl⟩
theorem dPhr_mostSpecial_52 : Dc mPhr_mostSpecial 52 (.iload 4) 2 54 := ⟨by decide +kernel, rfl⟩
theorem dPhr_mostSpecial_54 : Dc mPhr_mostSpecial 54 .ireturn 1 55 := ⟨by decide +kernel, rfl⟩
theorem dPhr_isMeant_0 : Dc mPhr_isMeant 0 (.aload_n 0) 1 1 := ⟨by decide +kernel, rfl⟩
theorem dPhr_isMeant_1 : Dc mPhr_isMeant 1 (.getfield 9) 3 4 := ⟨by decide +kernel, rfl⟩
theorem dPhr_isMeant_4 : Dc mPhr_isMeant 4 (.iload_n 1) 1 5 := ⟨by decide +kernel, rfl⟩
theorem dPhr_isMeant_5 : Dc mPhr_isMeant 5 .iaload 1 6 := ⟨by decide +kernel, rfl⟩
theorem dPhr_isMeant_6 : Dc mPhr_isMeant 6 (.iload_n 2) 1 7 := ⟨by decide +kernel, rfl⟩
theorem dPhr_isMeant_7 : Db mPhr_isMeant 7 (.if_icmp .ne) 49 10 := ⟨42, by decide +kernel, by decide, rfl⟩
theorem dPhr_isMeant_10 : Dc mPhr_isMeant 10 (.aload_n 0) 1 11 := ⟨by decide +kernel, rfl⟩
theorem dPhr_isMeant_11 : Dc mPhr_isMeant 11 (.getfield 21) 3 14 := ⟨by decide +kernel, rfl⟩
theorem dPhr_isMeant_14 : Dc mPhr_isMeant 14 (.iload_n 3) 1 15 := ⟨by decide +kernel, rfl⟩
theorem dPhr_isMeant_15 : Dc mPhr_isMeant 15 (.aload_n 0) 1 16 := ⟨by decide +kernel, rfl⟩
theorem dPhr_isMeant_16 : Dc mPhr_isMeant 16 (.getfield 15) 3 19 := ⟨by decide +kernel, rfl⟩
theorem dPhr_isMeant_19 : Dc mPhr_isMeant 19 (.iload_n 1) 1 20 := ⟨by decide +kernel, rfl⟩
theorem dPhr_isMeant_20 : Dc mPhr_isMeant 20 .iaload 1 21 := ⟨by decide +kernel, rfl⟩
theorem dPhr_isMeant_21 : Dc mPhr_isMeant 21 (.invokevirtual 40) 3 24 := ⟨by decide +kernel, rfl⟩
theorem dPhr_isMeant_24 : Db mPhr_isMeant 24 (.ifCond .eq) 49 27 := ⟨25, by decide +kernel, by decide, rfl⟩
theorem dPhr_isMeant_27 : Dc mPhr_isMeant 27 (.aload_n 0) 1 28 := ⟨by decide +kernel, rfl⟩
theorem dPhr_isMeant_28 : Dc mPhr_isMeant 28 (.getfield 21) 3 31 := ⟨by decide +kernel, rfl⟩
theorem dPhr_isMeant_31 : Dc mPhr_isMeant 31 (.iload 4) 2 33 := ⟨by decide +kernel, rfl⟩
theorem dPhr_isMeant_33 : Dc mPhr_isMeant 33 (.aload_n 0) 1 34 := ⟨by decide +kernel, rfl⟩
theorem dPhr_isMeant_34 : Dc mPhr_isMeant 34 (.getfield 18) 3 37 := ⟨by decide +kernel, rfl⟩
theorem dPhr_isMeant_37 : Dc mPhr_isMeant 37 (.iload_n 1) 1 38 := ⟨by decide +kernel, rfl⟩
theorem dPhr_isMeant_38 : Dc mPhr_isMeant 38 .iaload 1 39 := ⟨by decide +kernel, rfl⟩
theorem dPhr_isMeant_39 : Dc mPhr_isMeant 39 (.invokevirtual 40) 3 42 := ⟨by decide +kernel, rfl⟩
theorem dPhr_isMeant_42 : Db mPhr_isMeant 42 (.ifCond .eq) 49 45 := ⟨7, by decide +kernel, by decide, rfl⟩
theorem dPhr_isMeant_45 : Dc mPhr_isMeant 45 (.iconst 1) 1 46 := ⟨by decide +kernel, rfl⟩
theorem dPhr_isMeant_46 : Db mPhr_isMeant 46 .goto 50 49 := ⟨4, by decide +kernel, by decide, rfl⟩
theorem dPhr_isMeant_49 : Dc mPhr_isMeant 49 (.iconst 0) 1 50 := ⟨by decide +kernel, rfl⟩
theorem dPhr_isMeant_50 : Dc mPhr_isMeant 50 .ireturn 1 51 := ⟨by decide +kernel, rfl⟩
theorem dPhr_isUnderAllMeant_0 : Dc mPhr_isUnderAllMeant 0 (.iconst 0) 1 1 := ⟨by decide +kernel, rfl⟩
theorem dPhr_isUnderAllMeant_1 : Dc mPhr_isUnderAllMeant 1 (.istore 4) 2 3 := ⟨by decide +kernel, rfl⟩
theorem dPhr_isUnderAllMeant_3 : Dc mPhr_isUnderAllMeant 3 (.iload 4) 2 5 := ⟨by decide +kernel, rfl⟩
theorem dPhr_isUnderAllMeant_5 : Dc mPhr_isUnderAllMeant 5 (.aload_n 0) 1 6 := ⟨by decide +kernel, rfl⟩
theorem dPhr_isUnderAllMeant_6 : Dc mPhr_isUnderAllMeant 6 (.getfield 29) 3 9 := ⟨by decide +kernel, rfl⟩
theorem dPhr_isUnderAllMeant_9 : Db mPhr_isUnderAllMeant 9 (.if_icmp .ge) 64 12 := ⟨55, by decide +kernel, by decide, rfl⟩
theorem dPhr_isUnderAllMeant_12 : Dc mPhr_isUnderAllMeant 12 (.aload_n 0) 1 13 := ⟨by decide +kernel, rfl⟩
theorem dPhr_isUnderAllMeant_13 : Dc mPhr_isUnderAllMeant 13 (.iload 4) 2 15 := ⟨by decide +kernel, rfl⟩
theorem dPhr_isUnderAllMeant_15 : Dc mPhr_isUnderAllMeant 15 (.aload_n 0) 1 16 := ⟨by decide +kernel, rfl⟩
theorem dPhr_isUnderAllMeant_16 : Dc mPhr_isUnderAllMeant 16 (.getfield 9) 3 19 := ⟨by decide +kernel, rfl⟩
theorem dPhr_isUnderAllMeant_19 : Dc mPhr_isUnderAllMeant 19 (.iload_n 1) 1 20 := ⟨by decide +kernel, rfl⟩
theorem dPhr_isUnderAllMeant_20 : Dc mPhr_isUnderAllMeant 20 .iaload 1 21 := ⟨by decide +kernel, rfl⟩
theorem dPhr_isUnderAllMeant_21 : Dc mPhr_isUnderAllMeant 21 (.iload_n 2) 1 22 := ⟨by decide +kernel, rfl⟩
theorem dPhr_isUnderAllMeant_22 : Dc mPhr_isUnderAllMeant 22 (.iload_n 3) 1 23 := ⟨by decide +kernel, rfl⟩
theorem dPhr_isUnderAllMeant_23 : Dc mPhr_isUnderAllMeant 23 (.invokevirtual 33) 3 26 := ⟨by decide +kernel, rfl⟩
theorem dPhr_isUnderAllMeant_26 : Db mPhr_isUnderAllMeant 26 (.ifCond .eq) 58 29 := ⟨32, by decide +kernel, by decide, rfl⟩
theorem dPhr_isUnderAllMeant_29 : Dc mPhr_isUnderAllMeant 29 (.aload_n 0) 1 30 := ⟨by decide +kernel, rfl⟩
theorem dPhr_isUnderAllMeant_30 : Dc mPhr_isUnderAllMeant 30 (.iload 4) 2 32 := ⟨by decide +kernel, rfl⟩
theorem dPhr_isUnderAllMeant_32 : Dc mPhr_isUnderAllMeant 32 (.aload_n 0) 1 33 := ⟨by decide +kernel, rfl⟩
theorem dPhr_isUnderAllMeant_33 : Dc mPhr_isUnderAllMeant 33 (.getfield 9) 3 36 := ⟨by decide +kernel, rfl⟩
theorem dPhr_isUnderAllMeant_36 : Dc mPhr_isUnderAllMeant 36 (.iload_n 1) 1 37 := ⟨by decide +kernel, rfl⟩
theorem dPhr_isUnderAllMeant_37 : Dc mPhr_isUnderAllMeant 37 .iaload 1 38 := ⟨by decide +kernel, rfl⟩
theorem dPhr_isUnderAllMeant_38 : Dc mPhr_isUnderAllMeant 38 (.aload_n 0) 1 39 := ⟨by decide +kernel, rfl⟩
theorem dPhr_isUnderAllMeant_39 : Dc mPhr_isUnderAllMeant 39 (.getfield 15) 3 42 := ⟨by decide +kernel, rfl⟩
theorem dPhr_isUnderAllMeant_42 : Dc mPhr_isUnderAllMeant 42 (.iload_n 1) 1 43 := ⟨by decide +kernel, rfl⟩
theorem dPhr_isUnderAllMeant_43 : Dc mPhr_isUnderAllMeant 43 .iaload 1 44 := ⟨by decide +kernel, rfl⟩
theorem dPhr_isUnderAllMeant_44 : Dc mPhr_isUnderAllMeant 44 (.aload_n 0) 1 45 := ⟨by decide +kernel, rfl⟩
theorem dPhr_isUnderAllMeant_45 : Dc mPhr_isUnderAllMeant 45 (.getfield 18) 3 48 := ⟨by decide +kernel, rfl⟩
theorem dPhr_isUnderAllMeant_48 : Dc mPhr_isUnderAllMeant 48 (.iload_n 1) 1 49 := ⟨by decide +kernel, rfl⟩
theorem dPhr_isUnderAllMeant_49 : Dc mPhr_isUnderAllMeant 49 .iaload 1 50 := ⟨by decide +kernel, rfl⟩
theorem dPhr_isUnderAllMeant_50 : Dc mPhr_isUnderAllMeant 50 (.invokevirtual 33) 3 53 := ⟨by decide +kernel, rfl⟩
theorem dPhr_isUnderAllMeant_53 : Db mPhr_isUnderAllMeant 53 (.ifCond .ne) 58 56 := ⟨5, by decide +kernel, by decide, rfl⟩
theorem dPhr_isUnderAllMeant_56 : Dc mPhr_isUnderAllMeant 56 (.iconst 0) 1 57 := ⟨by decide +kernel, rfl⟩
theorem dPhr_isUnderAllMeant_57 : Dc mPhr_isUnderAllMeant 57 .ireturn 1 58 := ⟨by decide +kernel, rfl⟩
theorem dPhr_isUnderAllMeant_58 : Dc mPhr_isUnderAllMeant 58 (.iinc 4 1) 3 61 := ⟨by decide +kernel, rfl⟩
theorem dPhr_isUnderAllMeant_61 : Db mPhr_isUnderAllMeant 61 .goto 3 64 := ⟨(-58), by decide +kernel, by decide, rfl⟩
theorem dPhr_isUnderAllMeant_64 : Dc mPhr_isUnderAllMeant 64 (.iconst 1) 1 65 := ⟨by decide +kernel, rfl⟩
theorem dPhr_isUnderAllMeant_65 : Dc mPhr_isUnderAllMeant 65 .ireturn 1 66 := ⟨by decide +kernel, rfl⟩
theorem dX_count_0 : Dc mX_count 0 (.iload_n 1) 1 1 := ⟨by decide +kernel, rfl⟩
theorem dX_count_1 : Dc mX_count 1 (.tableswitch (144) (0) (10) #[59, 67, 75, 83, 91, 96, 101, 106, 117, 125, 136]) 59 60 := ⟨by decide +kernel, rfl⟩
theorem dX_count_60 : Dc mX_count 60 (.aload_n 0) 1 61 := ⟨by decide +kernel, rfl⟩
theorem dX_count_61 : Dc mX_count 61 (.getfield 10) 3 64 := ⟨by decide +kernel, rfl⟩
theorem dX_count_64 : Dc mX_count 64 (.getfield 280) 3 67 := ⟨by decide +kernel, rfl⟩
theorem dX_count_67 : Dc mX_count 67 .ireturn 1 68 := ⟨by decide +kernel, rfl⟩
theorem dX_count_68 : Dc mX_count 68 (.aload_n 0) 1 69 := ⟨by decide +kernel, rfl⟩
theorem dX_count_69 : Dc mX_count 69 (.getfield 19) 3 72 := ⟨by decide +kernel, rfl⟩
theorem dX_count_72 : Dc mX_count 72 (.invokevirtual 91) 3 75 := ⟨by decide +kernel, rfl⟩
theorem dX_count_75 : Dc mX_count 75 .ireturn 1 76 := ⟨by decide +kernel, rfl⟩
theorem dX_count_76 : Dc mX_count 76 (.aload_n 0) 1 77 := ⟨by decide +kernel, rfl⟩
theorem dX_count_77 : Dc mX_count 77 (.getfield 23) 3 80 := ⟨by decide +kernel, rfl⟩
theorem dX_count_80 : Dc mX_count 80 (.invokevirtual 91) 3 83 := ⟨by decide +kernel, rfl⟩
theorem dX_count_83 : Dc mX_count 83 .ireturn 1 84 := ⟨by decide +kernel, rfl⟩
theorem dX_count_84 : Dc mX_count 84 (.aload_n 0) 1 85 := ⟨by decide +kernel, rfl⟩
theorem dX_count_85 : Dc mX_count 85 (.getfield 26) 3 88 := ⟨by decide +kernel, rfl⟩
theorem dX_count_88 : Dc mX_count 88 (.invokevirtual 91) 3 91 := ⟨by decide +kernel, rfl⟩
theorem dX_count_91 : Dc mX_count 91 .ireturn 1 92 := ⟨by decide +kernel, rfl⟩
theorem dX_count_92 : Dc mX_count 92 (.aload_n 0) 1 93 := ⟨by decide +kernel, rfl⟩
theorem dX_count_93 : Dc mX_count 93 (.getfield 219) 3 96 := ⟨by decide +kernel, rfl⟩
theorem dX_count_96 : Dc mX_count 96 .ireturn 1 97 := ⟨by decide +kernel, rfl⟩
theorem dX_count_97 : Dc mX_count 97 (.aload_n 0) 1 98 := ⟨by decide +kernel, rfl⟩
theorem dX_count_98 : Dc mX_count 98 (.getfield 226) 3 101 := ⟨by decide +kernel, rfl⟩
theorem dX_count_101 : Dc mX_count 101 .ireturn 1 102 := ⟨by decide +kernel, rfl⟩
theorem dX_count_102 : Dc mX_count 102 (.aload_n 0) 1 103 := ⟨by decide +kernel, rfl⟩
theorem dX_count_103 : Dc mX_count 103 (.getfield 229) 3 106 := ⟨by decide +kernel, rfl⟩
theorem dX_count_106 : Dc mX_count 106 .ireturn 1 107 := ⟨by decide +kernel, rfl⟩
theorem dX_count_107 : Dc mX_count 107 (.aload_n 0) 1 108 := ⟨by decide +kernel, rfl⟩
theorem dX_count_108 : Dc mX_count 108 (.getfield 49) 3 111 := ⟨by decide +kernel, rfl⟩
theorem dX_count_111 : Dc mX_count 111 (.getfield 283) 3 114 := ⟨by decide +kernel, rfl⟩
theorem dX_count_114 : Dc mX_count 114 (.invokevirtual 91) 3 117 := ⟨by decide +kernel, rfl⟩
theorem dX_count_117 : Dc mX_count 117 .ireturn 1 118 := ⟨by decide +kernel, rfl⟩
theorem dX_count_118 : Dc mX_count 118 (.aload_n 0) 1 119 := ⟨by decide +kernel, rfl⟩
theorem dX_count_119 : Dc mX_count 119 (.getfield 62) 3 122 := ⟨by decide +kernel, rfl⟩
theorem dX_count_122 : Dc mX_count 122 (.getfield 285) 3 125 := ⟨by decide +kernel, rfl⟩
theorem dX_count_125 : Dc mX_count 125 .ireturn 1 126 := ⟨by decide +kernel, rfl⟩
theorem dX_count_126 : Dc mX_count 126 (.aload_n 0) 1 127 := ⟨by decide +kernel, rfl⟩
theorem dX_count_127 : Dc mX_count 127 (.getfield 71) 3 130 := ⟨by decide +kernel, rfl⟩
theorem dX_count_130 : Dc mX_count 130 (.getfield 202) 3 133 := ⟨by decide +kernel, rfl⟩
theorem dX_count_133 : Dc mX_count 133 (.getfield 286) 3 136 := ⟨by decide +kernel, rfl⟩
theorem dX_count_136 : Dc mX_count 136 .ireturn 1 137 := ⟨by decide +kernel, rfl⟩
theorem dX_count_137 : Dc mX_count 137 (.aload_n 0) 1 138 := ⟨by decide +kernel, rfl⟩
theorem dX_count_138 : Dc mX_count 138 (.getfield 49) 3 141 := ⟨by decide +kernel, rfl⟩
theorem dX_count_141 : Dc mX_count 141 (.getfield 289) 3 144 := ⟨by decide +kernel, rfl⟩
theorem dX_count_144 : Dc mX_count 144 .ireturn 1 145 := ⟨by decide +kernel, rfl⟩
theorem dX_count_145 : Dc mX_count 145 (.iconst (-1)) 1 146 := ⟨by decide +kernel, rfl⟩
theorem dX_count_146 : Dc mX_count 146 .ireturn 1 147 := ⟨by decide +kernel, rfl⟩
end
section
theorem dL_law_0 : Dc mL_law 0 (.new 7) 3 3 := ⟨by decide +kernel, rfl⟩
theorem dL_law_3 : Dc mL_law 3 .dup 1 4 := ⟨by decide +kernel, rfl⟩
theorem dL_law_4 : Dc mL_law 4 (.invokespecial 9) 3 7 := ⟨by decide +kernel, rfl⟩
theorem dL_law_7 : Dc mL_law 7 (.astore_n 1) 1 8 := ⟨by decide +kernel, rfl⟩
theorem dL_law_8 : Dc mL_law 8 (.new 10) 3 11 := ⟨by decide +kernel, rfl⟩
theorem dL_law_11 : Dc mL_law 11 .dup 1 12 := ⟨by decide +kernel, rfl⟩
theorem dL_law_12 : Dc mL_law 12 (.invokespecial 12) 3 15 := ⟨by decide +kernel, rfl⟩
theorem dL_law_15 : Dc mL_law 15 (.astore_n 2) 1 16 := ⟨by decide +kernel, rfl⟩
theorem dL_law_16 : Dc mL_law 16 (.iconst 0) 1 17 := ⟨by decide +kernel, rfl⟩
theorem dL_law_17 : Dc mL_law 17 (.istore_n 3) 1 18 := ⟨by decide +kernel, rfl⟩
theorem dL_law_18 : Dc mL_law 18 (.iload_n 3) 1 19 := ⟨by decide +kernel, rfl⟩
theorem dL_law_19 : Dc mL_law 19 (.aload_n 0) 1 20 := ⟨by decide +kernel, rfl⟩
theorem dL_law_20 : Dc mL_law 20 .arraylength 1 21 := ⟨by decide +kernel, rfl⟩
theorem dL_law_21 : Dc mL_law 21 (.bipush 7) 2 23 := ⟨by decide +kernel, rfl⟩
theorem dL_law_23 : Dc mL_law 23 .isub 1 24 := ⟨by decide +kernel, rfl⟩
theorem dL_law_24 : Db mL_law 24 (.if_icmp .gt) 1203 27 := ⟨1179, by decide +kernel, by decide, rfl⟩
theorem dL_law_27 : Dc mL_law 27 (.aload_n 0) 1 28 := ⟨by decide +kernel, rfl⟩
theorem dL_law_28 : Dc mL_law 28 (.iload_n 3) 1 29 := ⟨by decide +kernel, rfl⟩
theorem dL_law_29 : Dc mL_law 29 .iaload 1 30 := ⟨by decide +kernel, rfl⟩
theorem dL_law_30 : Dc mL_law 30 (.bipush 31) 2 32 := ⟨by decide +kernel, rfl⟩
theorem dL_law_32 : Dc mL_law 32 .iand 1 33 := ⟨by decide +kernel, rfl⟩
theorem dL_law_33 : Dc mL_law 33 (.tableswitch (1164) (0) (30) #[139, 162, 195, 218, 261, 294, 317, 360, 403, 456, 509, 552, 585, 618, 651, 664, 739, 772, 815, 848, 861, 874, 887, 910, 963, 986, 999, 1022, 1055, 1098, 1141]) 139 172 := ⟨by decide +kernel, rfl⟩
theorem dL_law_172 : Dc mL_law 172 (.aload_n 1) 1 173 := ⟨by decide +kernel, rfl⟩
theorem dL_law_173 : Dc mL_law 173 (.aload_n 0) 1 174 := ⟨by decide +kernel, rfl⟩
theorem dL_law_174 : Dc mL_law 174 (.iload_n 3) 1 175 := ⟨by decide +kernel, rfl⟩
theorem dL_law_175 : Dc mL_law 175 (.iconst 1) 1 176 := ⟨by decide +kernel, rfl⟩
theorem dL_law_176 : Dc mL_law 176 .iadd 1 177 := ⟨by decide +kernel, rfl⟩
theorem dL_law_177 : Dc mL_law 177 .iaload 1 178 := ⟨by decide +kernel, rfl⟩
theorem dL_law_178 : Dc mL_law 178 (.invokevirtual 13) 3 181 := ⟨by decide +kernel, rfl⟩
theorem dL_law_181 : Dc mL_law 181 (.aload_n 2) 1 182 := ⟨by decide +kernel, rfl⟩
theorem dL_law_182 : Dc mL_law 182 (.aload_n 0) 1 183 := ⟨by decide +kernel, rfl⟩
theorem dL_law_183 : Dc mL_law 183 (.iload_n 3) 1 184 := ⟨by decide +kernel, rfl⟩
theorem dL_law_184 : Dc mL_law 184 (.iconst 1) 1 185 := ⟨by decide +kernel, rfl⟩
theorem dL_law_185 : Dc mL_law 185 .iadd 1 186 := ⟨by decide +kernel, rfl⟩
theorem dL_law_186 : Dc mL_law 186 .iaload 1 187 := ⟨by decide +kernel, rfl⟩
theorem dL_law_187 : Dc mL_law 187 (.invokevirtual 17) 3 190 := ⟨by decide +kernel, rfl⟩
theorem dL_law_190 : Db mL_law 190 (.if_icmp .eq) 1197 193 := ⟨1007, by decide +kernel, by decide, rfl⟩
theorem dL_law_193 : Dc mL_law 193 (.iconst 0) 1 194 := ⟨by decide +kernel, rfl⟩
theorem dL_law_194 : Dc mL_law 194 .ireturn 1 195 := ⟨by decide +kernel, rfl⟩
theorem dL_law_195 : Dc mL_law 195 (.aload_n 1) 1 196 := ⟨by decide +kernel, rfl⟩
theorem dL_law_196 : Dc mL_law 196 (.aload_n 0) 1 197 := ⟨by decide +kernel, rfl⟩
theorem dL_law_197 : Dc mL_law 197 (.iload_n 3) 1 198 := ⟨by decide +kernel, rfl⟩
theorem dL_law_198 : Dc mL_law 198 (.iconst 1) 1 199 := ⟨by decide +kernel, rfl⟩
theorem dL_law_199 : Dc mL_law 199 .iadd 1 200 := ⟨by decide +kernel, rfl⟩
theorem dL_law_200 : Dc mL_law 200 .iaload 1 201 := ⟨by decide +kernel, rfl⟩
theorem dL_law_201 : Dc mL_law 201 (.aload_n 0) 1 202 := ⟨by decide +kernel, rfl⟩
theorem dL_law_202 : Dc mL_law 202 (.iload_n 3) 1 203 := ⟨by decide +kernel, rfl⟩
theorem dL_law_203 : Dc mL_law 203 (.iconst 2) 1 204 := ⟨by decide +kernel, rfl⟩
theorem dL_law_204 : Dc mL_law 204 .iadd 1 205 := ⟨by decide +kernel, rfl⟩
theorem dL_law_205 : Dc mL_law 205 .iaload 1 206 := ⟨by decide +kernel, rfl⟩
theorem dL_law_206 : Dc mL_law 206 (.invokevirtual 18) 3 209 := ⟨by decide +kernel, rfl⟩
theorem dL_law_209 : Dc mL_law 209 (.aload_n 2) 1 210 := ⟨by decide +kernel, rfl⟩
theorem dL_law_210 : Dc mL_law 210 (.aload_n 0) 1 211 := ⟨by decide +kernel, rfl⟩
theorem dL_law_211 : Dc mL_law 211 (.iload_n 3) 1 212 := ⟨by decide +kernel, rfl⟩
theorem dL_law_212 : Dc mL_law 212 (.iconst 1) 1 213 := ⟨by decide +kernel, rfl⟩
theorem dL_law_213 : Dc mL_law 213 .iadd 1 214 := ⟨by decide +kernel, rfl⟩
theorem dL_law_214 : Dc mL_law 214 .iaload 1 215 := ⟨by decide +kernel, rfl⟩
theorem dL_law_215 : Dc mL_law 215 (.aload_n 0) 1 216 := ⟨by decide +kernel, rfl⟩
theorem dL_law_216 : Dc mL_law 216 (.iload_n 3) 1 217 := ⟨by decide +kernel, rfl⟩
theorem dL_law_217 : Dc mL_law 217 (.iconst 2) 1 218 := ⟨by decide +kernel, rfl⟩
theorem dL_law_218 : Dc mL_law 218 .iadd 1 219 := ⟨by decide +kernel, rfl⟩
theorem dL_law_219 : Dc mL_law 219 .iaload 1 220 := ⟨by decide +kernel, rfl⟩
theorem dL_law_220 : Dc mL_law 220 (.invokevirtual 22) 3 223 := ⟨by decide +kernel, rfl⟩
theorem dL_law_223 : Db mL_law 223 (.if_icmp .eq) 1197 226 := ⟨974, by decide +kernel, by decide, rfl⟩
theorem dL_law_226 : Dc mL_law 226 (.iconst 0) 1 227 := ⟨by decide +kernel, rfl⟩
theorem dL_law_227 : Dc mL_law 227 .ireturn 1 228 := ⟨by decide +kernel, rfl⟩
theorem dL_law_228 : Dc mL_law 228 (.aload_n 1) 1 229 := ⟨by decide +kernel, rfl⟩
theorem dL_law_229 : Dc mL_law 229 (.aload_n 0) 1 230 := ⟨by decide +kernel, rfl⟩
theorem dL_law_230 : Dc mL_law 230 (.iload_n 3) 1 231 := ⟨by decide +kernel, rfl⟩
theorem dL_law_231 : Dc mL_law 231 (.iconst 1) 1 232 := ⟨by decide +kernel, rfl⟩
theorem dL_law_232 : Dc mL_law 232 .iadd 1 233 := ⟨by decide +kernel, rfl⟩
theorem dL_law_233 : Dc mL_law 233 .iaload 1 234 := ⟨by decide +kernel, rfl⟩
theorem dL_law_234 : Dc mL_law 234 (.invokevirtual 23) 3 237 := ⟨by decide +kernel, rfl⟩
theorem dL_law_237 : Dc mL_law 237 (.aload_n 2) 1 238 := ⟨by decide +kernel, rfl⟩
theorem dL_law_238 : Dc mL_law 238 (.aload_n 0) 1 239 := ⟨by decide +kernel, rfl⟩
theorem dL_law_239 : Dc mL_law 239 (.iload_n 3) 1 240 := ⟨by decide +kernel, rfl⟩
theorem dL_law_240 : Dc mL_law 240 (.iconst 1) 1 241 := ⟨by decide +kernel, rfl⟩
theorem dL_law_241 : Dc mL_law 241 .iadd 1 242 := ⟨by decide +kernel, rfl⟩
theorem dL_law_242 : Dc mL_law 242 .iaload 1 243 := ⟨by decide +kernel, rfl⟩
theorem dL_law_243 : Dc mL_law 243 (.invokevirtual 26) 3 246 := ⟨by decide +kernel, rfl⟩
theorem dL_law_246 : Db mL_law 246 (.if_icmp .eq) 1197 249 := ⟨951, by decide +kernel, by decide, rfl⟩
theorem dL_law_249 : Dc mL_law 249 (.iconst 0) 1 250 := ⟨by decide +kernel, rfl⟩
theorem dL_law_250 : Dc mL_law 250 .ireturn 1 251 := ⟨by decide +kernel, rfl⟩
theorem dL_law_251 : Dc mL_law 251 (.aload_n 1) 1 252 := ⟨by decide +kernel, rfl⟩
theorem dL_law_252 : Dc mL_law 252 (.aload_n 0) 1 253 := ⟨by decide +kernel, rfl⟩
theorem dL_law_253 : Dc mL_law 253 (.iload_n 3) 1 254 := ⟨by decide +kernel, rfl⟩
theorem dL_law_254 : Dc mL_law 254 (.iconst 1) 1 255 := ⟨by decide +kernel, rfl⟩
theorem dL_law_255 : Dc mL_law 255 .iadd 1 256 := ⟨by decide +kernel, rfl⟩
theorem dL_law_256 : Dc mL_law 256 .iaload 1 257 := ⟨by decide +kernel, rfl⟩
theorem dL_law_257 : Dc mL_law 257 (.aload_n 0) 1 258 := ⟨by decide +kernel, rfl⟩
theorem dL_law_258 : Dc mL_law 258 (.iload_n 3) 1 259 := ⟨by decide +kernel, rfl⟩
theorem dL_law_259 : Dc mL_law 259 (.iconst 2) 1 260 := ⟨by decide +kernel, rfl⟩
theorem dL_law_260 : Dc mL_law 260 .iadd 1 261 := ⟨by decide +kernel, rfl⟩
theorem dL_law_261 : Dc mL_law 261 .iaload 1 262 := ⟨by decide +kernel, rfl⟩
theorem dL_law_262 : Dc mL_law 262 (.aload_n 0) 1 263 := ⟨by decide +kernel, rfl⟩
theorem dL_law_263 : Dc mL_law 263 (.iload_n 3) 1 264 := ⟨by decide +kernel, rfl⟩
theorem dL_law_264 : Dc mL_law 264 (.iconst 3) 1 265 := ⟨by decide +kernel, rfl⟩
theorem dL_law_265 : Dc mL_law 265 .iadd 1 266 := ⟨by decide +kernel, rfl⟩
theorem dL_law_266 : Dc mL_law 266 .iaload 1 267 := ⟨by decide +kernel, rfl⟩
theorem dL_law_267 : Dc mL_law 267 (.invokevirtual 27) 3 270 := ⟨by decide +kernel, rfl⟩
theorem dL_law_270 : Dc mL_law 270 (.aload_n 2) 1 271 := ⟨by decide +kernel, rfl⟩
theorem dL_law_271 : Dc mL_law 271 (.aload_n 0) 1 272 := ⟨by decide +kernel, rfl⟩
theorem dL_law_272 : Dc mL_law 272 (.iload_n 3) 1 273 := ⟨by decide +kernel, rfl⟩
theorem dL_law_273 : Dc mL_law 273 (.iconst 1) 1 274 := ⟨by decide +kernel, rfl⟩
theorem dL_law_274 : Dc mL_law 274 .iadd 1 275 := ⟨by decide +kernel, rfl⟩
theorem dL_law_275 : Dc mL_law 275 .iaload 1 276 := ⟨by decide +kernel, rfl⟩
theorem dL_law_276 : Dc mL_law 276 (.aload_n 0) 1 277 := ⟨by decide +kernel, rfl⟩
theorem dL_law_277 : Dc mL_law 277 (.iload_n 3) 1 278 := ⟨by decide +kernel, rfl⟩
theorem dL_law_278 : Dc mL_law 278 (.iconst 2) 1 279 := ⟨by decide +kernel, rfl⟩
theorem dL_law_279 : Dc mL_law 279 .iadd 1 280 := ⟨by decide +kernel, rfl⟩
theorem dL_law_280 : Dc mL_law 280 .iaload 1 281 := ⟨by decide +kernel, rfl⟩
theorem dL_law_281 : Dc mL_law 281 (.aload_n 0) 1 282 := ⟨by decide +kernel, rfl⟩
theorem dL_law_282 : Dc mL_law 282 (.iload_n 3) 1 283 := ⟨by decide +kernel, rfl⟩
theorem dL_law_283 : Dc mL_law 283 (.iconst 3) 1 284 := ⟨by decide +kernel, rfl⟩
theorem dL_law_284 : Dc mL_law 284 .iadd 1 285 := ⟨by decide +kernel, rfl⟩
theorem dL_law_285 : Dc mL_law 285 .iaload 1 286 := ⟨by decide +kernel, rfl⟩
theorem dL_law_286 : Dc mL_law 286 (.invokevirtual 31) 3 289 := ⟨by decide +kernel, rfl⟩
theorem dL_law_289 : Db mL_law 289 (.if_icmp .eq) 1197 292 := ⟨908, by decide +kernel, by decide, rfl⟩
theorem dL_law_292 : Dc mL_law 292 (.iconst 0) 1 293 := ⟨by decide +kernel, rfl⟩
theorem dL_law_293 : Dc mL_law 293 .ireturn 1 294 := ⟨by decide +kernel, rfl⟩
theorem dL_law_294 : Dc mL_law 294 (.aload_n 1) 1 295 := ⟨by decide +kernel, rfl⟩
theorem dL_law_295 : Dc mL_law 295 (.aload_n 0) 1 296 := ⟨by decide +kernel, rfl⟩
theorem dL_law_296 : Dc mL_law 296 (.iload_n 3) 1 297 := ⟨by decide +kernel, rfl⟩
theorem dL_law_297 : Dc mL_law 297 (.iconst 1) 1 298 := ⟨by decide +kernel, rfl⟩
theorem dL_law_298 : Dc mL_law 298 .iadd 1 299 := ⟨by decide +kernel, rfl⟩
theorem dL_law_299 : Dc mL_law 299 .iaload 1 300 := ⟨by decide +kernel, rfl⟩
theorem dL_law_300 : Dc mL_law 300 (.aload_n 0) 1 301 := ⟨by decide +kernel, rfl⟩
theorem dL_law_301 : Dc mL_law 301 (.iload_n 3) 1 302 := ⟨by decide +kernel, rfl⟩
theorem dL_law_302 : Dc mL_law 302 (.iconst 2) 1 303 := ⟨by decide +kernel, rfl⟩
theorem dL_law_303 : Dc mL_law 303 .iadd 1 304 := ⟨by decide +kernel, rfl⟩
theorem dL_law_304 : Dc mL_law 304 .iaload 1 305 := ⟨by decide +kernel, rfl⟩
theorem dL_law_305 : Dc mL_law 305 (.invokevirtual 32) 3 308 := ⟨by decide +kernel, rfl⟩
theorem dL_law_308 : Dc mL_law 308 (.aload_n 2) 1 309 := ⟨by decide +kernel, rfl⟩
theorem dL_law_309 : Dc mL_law 309 (.aload_n 0) 1 310 := ⟨by decide +kernel, rfl⟩
theorem dL_law_310 : Dc mL_law 310 (.iload_n 3) 1 311 := ⟨by decide +kernel, rfl⟩
theorem dL_law_311 : Dc mL_law 311 (.iconst 1) 1 312 := ⟨by decide +kernel, rfl⟩
theorem dL_law_312 : Dc mL_law 312 .iadd 1 313 := ⟨by decide +kernel, rfl⟩
theorem dL_law_313 : Dc mL_law 313 .iaload 1 314 := ⟨by decide +kernel, rfl⟩
theorem dL_law_314 : Dc mL_law 314 (.aload_n 0) 1 315 := ⟨by decide +kernel, rfl⟩
theorem dL_law_315 : Dc mL_law 315 (.iload_n 3) 1 316 := ⟨by decide +kernel, rfl⟩
theorem dL_law_316 : Dc mL_law 316 (.iconst 2) 1 317 := ⟨by decide +kernel, rfl⟩
theorem dL_law_317 : Dc mL_law 317 .iadd 1 318 := ⟨by decide +kernel, rfl⟩
theorem dL_law_318 : Dc mL_law 318 .iaload 1 319 := ⟨by decide +kernel, rfl⟩
theorem dL_law_319 : Dc mL_law 319 (.invokevirtual 35) 3 322 := ⟨by decide +kernel, rfl⟩
theorem dL_law_322 : Db mL_law 322 (.if_icmp .eq) 1197 325 := ⟨875, by decide +kernel, by decide, rfl⟩
theorem dL_law_325 : Dc mL_law 325 (.iconst 0) 1 326 := ⟨by decide +kernel, rfl⟩
theorem dL_law_326 : Dc mL_law 326 .ireturn 1 327 := ⟨by decide +kernel, rfl⟩
theorem dL_law_327 : Dc mL_law 327 (.aload_n 1) 1 328 := ⟨by decide +kernel, rfl⟩
theorem dL_law_328 : Dc mL_law 328 (.aload_n 0) 1 329 := ⟨by decide +kernel, rfl⟩
theorem dL_law_329 : Dc mL_law 329 (.iload_n 3) 1 330 := ⟨by decide +kernel, rfl⟩
theorem dL_law_330 : Dc mL_law 330 (.iconst 1) 1 331 := ⟨by decide +kernel, rfl⟩
theorem dL_law_331 : Dc mL_law 331 .iadd 1 332 := ⟨by decide +kernel, rfl⟩
theorem dL_law_332 : Dc mL_law 332 .iaload 1 333 := ⟨by decide +kernel, rfl⟩
theorem dL_law_333 : Dc mL_law 333 (.invokevirtual 36) 3 336 := ⟨by decide +kernel, rfl⟩
theorem dL_law_336 : Dc mL_law 336 (.aload_n 2) 1 337 := ⟨by decide +kernel, rfl⟩
theorem dL_law_337 : Dc mL_law 337 (.aload_n 0) 1 338 := ⟨by decide +kernel, rfl⟩
theorem dL_law_338 : Dc mL_law 338 (.iload_n 3) 1 339 := ⟨by decide +kernel, rfl⟩
theorem dL_law_339 : Dc mL_law 339 (.iconst 1) 1 340 := ⟨by decide +kernel, rfl⟩
theorem dL_law_340 : Dc mL_law 340 .iadd 1 341 := ⟨by decide +kernel, rfl⟩
theorem dL_law_341 : Dc mL_law 341 .iaload 1 342 := ⟨by decide +kernel, rfl⟩
theorem dL_law_342 : Dc mL_law 342 (.invokevirtual 39) 3 345 := ⟨by decide +kernel, rfl⟩
theorem dL_law_345 : Db mL_law 345 (.if_icmp .eq) 1197 348 := ⟨852, by decide +kernel, by decide, rfl⟩
theorem dL_law_348 : Dc mL_law 348 (.iconst 0) 1 349 := ⟨by decide +kernel, rfl⟩
theorem dL_law_349 : Dc mL_law 349 .ireturn 1 350 := ⟨by decide +kernel, rfl⟩
theorem dL_law_350 : Dc mL_law 350 (.aload_n 1) 1 351 := ⟨by decide +kernel, rfl⟩
theorem dL_law_351 : Dc mL_law 351 (.aload_n 0) 1 352 := ⟨by decide +kernel, rfl⟩
theorem dL_law_352 : Dc mL_law 352 (.iload_n 3) 1 353 := ⟨by decide +kernel, rfl⟩
theorem dL_law_353 : Dc mL_law 353 (.iconst 1) 1 354 := ⟨by decide +kernel, rfl⟩
theorem dL_law_354 : Dc mL_law 354 .iadd 1 355 := ⟨by decide +kernel, rfl⟩
theorem dL_law_355 : Dc mL_law 355 .iaload 1 356 := ⟨by decide +kernel, rfl⟩
theorem dL_law_356 : Dc mL_law 356 (.aload_n 0) 1 357 := ⟨by decide +kernel, rfl⟩
theorem dL_law_357 : Dc mL_law 357 (.iload_n 3) 1 358 := ⟨by decide +kernel, rfl⟩
theorem dL_law_358 : Dc mL_law 358 (.iconst 2) 1 359 := ⟨by decide +kernel, rfl⟩
theorem dL_law_359 : Dc mL_law 359 .iadd 1 360 := ⟨by decide +kernel, rfl⟩
theorem dL_law_360 : Dc mL_law 360 .iaload 1 361 := ⟨by decide +kernel, rfl⟩
theorem dL_law_361 : Dc mL_law 361 (.aload_n 0) 1 362 := ⟨by decide +kernel, rfl⟩
theorem dL_law_362 : Dc mL_law 362 (.iload_n 3) 1 363 := ⟨by decide +kernel, rfl⟩
theorem dL_law_363 : Dc mL_law 363 (.iconst 3) 1 364 := ⟨by decide +kernel, rfl⟩
theorem dL_law_364 : Dc mL_law 364 .iadd 1 365 := ⟨by decide +kernel, rfl⟩
theorem dL_law_365 : Dc mL_law 365 .iaload 1 366 := ⟨by decide +kernel, rfl⟩
theorem dL_law_366 : Dc mL_law 366 (.invokevirtual 40) 3 369 := ⟨by decide +kernel, rfl⟩
theorem dL_law_369 : Dc mL_law 369 (.aload_n 2) 1 370 := ⟨by decide +kernel, rfl⟩
theorem dL_law_370 : Dc mL_law 370 (.aload_n 0) 1 371 := ⟨by decide +kernel, rfl⟩
theorem dL_law_371 : Dc mL_law 371 (.iload_n 3) 1 372 := ⟨by decide +kernel, rfl⟩
theorem dL_law_372 : Dc mL_law 372 (.iconst 1) 1 373 := ⟨by decide +kernel, rfl⟩
theorem dL_law_373 : Dc mL_law 373 .iadd 1 374 := ⟨by decide +kernel, rfl⟩
theorem dL_law_374 : Dc mL_law 374 .iaload 1 375 := ⟨by decide +kernel, rfl⟩
theorem dL_law_375 : Dc mL_law 375 (.aload_n 0) 1 376 := ⟨by decide +kernel, rfl⟩
theorem dL_law_376 : Dc mL_law 376 (.iload_n 3) 1 377 := ⟨by decide +kernel, rfl⟩
theorem dL_law_377 : Dc mL_law 377 (.iconst 2) 1 378 := ⟨by decide +kernel, rfl⟩
theorem dL_law_378 : Dc mL_law 378 .iadd 1 379 := ⟨by decide +kernel, rfl⟩
theorem dL_law_379 : Dc mL_law 379 .iaload 1 380 := ⟨by decide +kernel, rfl⟩
theorem dL_law_380 : Dc mL_law 380 (.aload_n 0) 1 381 := ⟨by decide +kernel, rfl⟩
theorem dL_law_381 : Dc mL_law 381 (.iload_n 3) 1 382 := ⟨by decide +kernel, rfl⟩
theorem dL_law_382 : Dc mL_law 382 (.iconst 3) 1 383 := ⟨by decide +kernel, rfl⟩
theorem dL_law_383 : Dc mL_law 383 .iadd 1 384 := ⟨by decide +kernel, rfl⟩
theorem dL_law_384 : Dc mL_law 384 .iaload 1 385 := ⟨by decide +kernel, rfl⟩
theorem dL_law_385 : Dc mL_law 385 (.invokevirtual 43) 3 388 := ⟨by decide +kernel, rfl⟩
theorem dL_law_388 : Db mL_law 388 (.if_icmp .eq) 1197 391 := ⟨809, by decide +kernel, by decide, rfl⟩
theorem dL_law_391 : Dc mL_law 391 (.iconst 0) 1 392 := ⟨by decide +kernel, rfl⟩
theorem dL_law_392 : Dc mL_law 392 .ireturn 1 393 := ⟨by decide +kernel, rfl⟩
theorem dL_law_393 : Dc mL_law 393 (.aload_n 1) 1 394 := ⟨by decide +kernel, rfl⟩
theorem dL_law_394 : Dc mL_law 394 (.aload_n 0) 1 395 := ⟨by decide +kernel, rfl⟩
theorem dL_law_395 : Dc mL_law 395 (.iload_n 3) 1 396 := ⟨by decide +kernel, rfl⟩
theorem dL_law_396 : Dc mL_law 396 (.iconst 1) 1 397 := ⟨by decide +kernel, rfl⟩
theorem dL_law_397 : Dc mL_law 397 .iadd 1 398 := ⟨by decide +kernel, rfl⟩
theorem dL_law_398 : Dc mL_law 398 .iaload 1 399 := ⟨by decide +kernel, rfl⟩
theorem dL_law_399 : Dc mL_law 399 (.aload_n 0) 1 400 := ⟨by decide +kernel, rfl⟩
theorem dL_law_400 : Dc mL_law 400 (.iload_n 3) 1 401 := ⟨by decide +kernel, rfl⟩
theorem dL_law_401 : Dc mL_law 401 (.iconst 2) 1 402 := ⟨by decide +kernel, rfl⟩
theorem dL_law_402 : Dc mL_law 402 .iadd 1 403 := ⟨by decide +kernel, rfl⟩
theorem dL_law_403 : Dc mL_law 403 .iaload 1 404 := ⟨by decide +kernel, rfl⟩
theorem dL_law_404 : Dc mL_law 404 (.aload_n 0) 1 405 := ⟨by decide +kernel, rfl⟩
theorem dL_law_405 : Dc mL_law 405 (.iload_n 3) 1 406 := ⟨by decide +kernel, rfl⟩
theorem dL_law_406 : Dc mL_law 406 (.iconst 3) 1 407 := ⟨by decide +kernel, rfl⟩
theorem dL_law_407 : Dc mL_law 407 .iadd 1 408 := ⟨by decide +kernel, rfl⟩
theorem dL_law_408 : Dc mL_law 408 .iaload 1 409 := ⟨by decide +kernel, rfl⟩
theorem dL_law_409 : Dc mL_law 409 (.invokevirtual 44) 3 412 := ⟨by decide +kernel, rfl⟩
theorem dL_law_412 : Dc mL_law 412 (.aload_n 2) 1 413 := ⟨by decide +kernel, rfl⟩
theorem dL_law_413 : Dc mL_law 413 (.aload_n 0) 1 414 := ⟨by decide +kernel, rfl⟩
theorem dL_law_414 : Dc mL_law 414 (.iload_n 3) 1 415 := ⟨by decide +kernel, rfl⟩
theorem dL_law_415 : Dc mL_law 415 (.iconst 1) 1 416 := ⟨by decide +kernel, rfl⟩
theorem dL_law_416 : Dc mL_law 416 .iadd 1 417 := ⟨by decide +kernel, rfl⟩
theorem dL_law_417 : Dc mL_law 417 .iaload 1 418 := ⟨by decide +kernel, rfl⟩
theorem dL_law_418 : Dc mL_law 418 (.aload_n 0) 1 419 := ⟨by decide +kernel, rfl⟩
theorem dL_law_419 : Dc mL_law 419 (.iload_n 3) 1 420 := ⟨by decide +kernel, rfl⟩
theorem dL_law_420 : Dc mL_law 420 (.iconst 2) 1 421 := ⟨by decide +kernel, rfl⟩
theorem dL_law_421 : Dc mL_law 421 .iadd 1 422 := ⟨by decide +kernel, rfl⟩
theorem dL_law_422 : Dc mL_law 422 .iaload 1 423 := ⟨by decide +kernel, rfl⟩
theorem dL_law_423 : Dc mL_law 423 (.aload_n 0) 1 424 := ⟨by decide +kernel, rfl⟩
theorem dL_law_424 : Dc mL_law 424 (.iload_n 3) 1 425 := ⟨by decide +kernel, rfl⟩
theorem dL_law_425 : Dc mL_law 425 (.iconst 3) 1 426 := ⟨by decide +kernel, rfl⟩
theorem dL_law_426 : Dc mL_law 426 .iadd 1 427 := ⟨by decide +kernel, rfl⟩
theorem dL_law_427 : Dc mL_law 427 .iaload 1 428 := ⟨by decide +kernel, rfl⟩
theorem dL_law_428 : Dc mL_law 428 (.invokevirtual 47) 3 431 := ⟨by decide +kernel, rfl⟩
theorem dL_law_431 : Db mL_law 431 (.if_icmp .eq) 1197 434 := ⟨766, by decide +kernel, by decide, rfl⟩
theorem dL_law_434 : Dc mL_law 434 (.iconst 0) 1 435 := ⟨by decide +kernel, rfl⟩
theorem dL_law_435 : Dc mL_law 435 .ireturn 1 436 := ⟨by decide +kernel, rfl⟩
theorem dL_law_436 : Dc mL_law 436 (.aload_n 1) 1 437 := ⟨by decide +kernel, rfl⟩
theorem dL_law_437 : Dc mL_law 437 (.aload_n 0) 1 438 := ⟨by decide +kernel, rfl⟩
theorem dL_law_438 : Dc mL_law 438 (.iload_n 3) 1 439 := ⟨by decide +kernel, rfl⟩
theorem dL_law_439 : Dc mL_law 439 (.iconst 1) 1 440 := ⟨by decide +kernel, rfl⟩
theorem dL_law_440 : Dc mL_law 440 .iadd 1 441 := ⟨by decide +kernel, rfl⟩
theorem dL_law_441 : Dc mL_law 441 .iaload 1 442 := ⟨by decide +kernel, rfl⟩
theorem dL_law_442 : Dc mL_law 442 (.aload_n 0) 1 443 := ⟨by decide +kernel, rfl⟩
theorem dL_law_443 : Dc mL_law 443 (.iload_n 3) 1 444 := ⟨by decide +kernel, rfl⟩
theorem dL_law_444 : Dc mL_law 444 (.iconst 2) 1 445 := ⟨by decide +kernel, rfl⟩
theorem dL_law_445 : Dc mL_law 445 .iadd 1 446 := ⟨by decide +kernel, rfl⟩
theorem dL_law_446 : Dc mL_law 446 .iaload 1 447 := ⟨by decide +kernel, rfl⟩
theorem dL_law_447 : Dc mL_law 447 (.aload_n 0) 1 448 := ⟨by decide +kernel, rfl⟩
theorem dL_law_448 : Dc mL_law 448 (.iload_n 3) 1 449 := ⟨by decide +kernel, rfl⟩
theorem dL_law_449 : Dc mL_law 449 (.iconst 3) 1 450 := ⟨by decide +kernel, rfl⟩
theorem dL_law_450 : Dc mL_law 450 .iadd 1 451 := ⟨by decide +kernel, rfl⟩
theorem dL_law_451 : Dc mL_law 451 .iaload 1 452 := ⟨by decide +kernel, rfl⟩
theorem dL_law_452 : Dc mL_law 452 (.aload_n 0) 1 453 := ⟨by decide +kernel, rfl⟩
theorem dL_law_453 : Dc mL_law 453 (.iload_n 3) 1 454 := ⟨by decide +kernel, rfl⟩
theorem dL_law_454 : Dc mL_law 454 (.iconst 4) 1 455 := ⟨by decide +kernel, rfl⟩
theorem dL_law_455 : Dc mL_law 455 .iadd 1 456 := ⟨by decide +kernel, rfl⟩
theorem dL_law_456 : Dc mL_law 456 .iaload 1 457 := ⟨by decide +kernel, rfl⟩
theorem dL_law_457 : Dc mL_law 457 (.invokevirtual 48) 3 460 := ⟨by decide +kernel, rfl⟩
theorem dL_law_460 : Dc mL_law 460 (.aload_n 2) 1 461 := ⟨by decide +kernel, rfl⟩
theorem dL_law_461 : Dc mL_law 461 (.aload_n 0) 1 462 := ⟨by decide +kernel, rfl⟩
theorem dL_law_462 : Dc mL_law 462 (.iload_n 3) 1 463 := ⟨by decide +kernel, rfl⟩
theorem dL_law_463 : Dc mL_law 463 (.iconst 1) 1 464 := ⟨by decide +kernel, rfl⟩
theorem dL_law_464 : Dc mL_law 464 .iadd 1 465 := ⟨by decide +kernel, rfl⟩
theorem dL_law_465 : Dc mL_law 465 .iaload 1 466 := ⟨by decide +kernel, rfl⟩
theorem dL_law_466 : Dc mL_law 466 (.aload_n 0) 1 467 := ⟨by decide +kernel, rfl⟩
theorem dL_law_467 : Dc mL_law 467 (.iload_n 3) 1 468 := ⟨by decide +kernel, rfl⟩
theorem dL_law_468 : Dc mL_law 468 (.iconst 2) 1 469 := ⟨by decide +kernel, rfl⟩
theorem dL_law_469 : Dc mL_law 469 .iadd 1 470 := ⟨by decide +kernel, rfl⟩
theorem dL_law_470 : Dc mL_law 470 .iaload 1 471 := ⟨by decide +kernel, rfl⟩
theorem dL_law_471 : Dc mL_law 471 (.aload_n 0) 1 472 := ⟨by decide +kernel, rfl⟩
theorem dL_law_472 : Dc mL_law 472 (.iload_n 3) 1 473 := ⟨by decide +kernel, rfl⟩
theorem dL_law_473 : Dc mL_law 473 (.iconst 3) 1 474 := ⟨by decide +kernel, rfl⟩
theorem dL_law_474 : Dc mL_law 474 .iadd 1 475 := ⟨by decide +kernel, rfl⟩
theorem dL_law_475 : Dc mL_law 475 .iaload 1 476 := ⟨by decide +kernel, rfl⟩
theorem dL_law_476 : Dc mL_law 476 (.aload_n 0) 1 477 := ⟨by decide +kernel, rfl⟩
theorem dL_law_477 : Dc mL_law 477 (.iload_n 3) 1 478 := ⟨by decide +kernel, rfl⟩
theorem dL_law_478 : Dc mL_law 478 (.iconst 4) 1 479 := ⟨by decide +kernel, rfl⟩
theorem dL_law_479 : Dc mL_law 479 .iadd 1 480 := ⟨by decide +kernel, rfl⟩
theorem dL_law_480 : Dc mL_law 480 .iaload 1 481 := ⟨by decide +kernel, rfl⟩
theorem dL_law_481 : Dc mL_law 481 (.invokevirtual 52) 3 484 := ⟨by decide +kernel, rfl⟩
theorem dL_law_484 : Db mL_law 484 (.if_icmp .eq) 1197 487 := ⟨713, by decide +kernel, by decide, rfl⟩
theorem dL_law_487 : Dc mL_law 487 (.iconst 0) 1 488 := ⟨by decide +kernel, rfl⟩
theorem dL_law_488 : Dc mL_law 488 .ireturn 1 489 := ⟨by decide +kernel, rfl⟩
theorem dL_law_489 : Dc mL_law 489 (.aload_n 1) 1 490 := ⟨by decide +kernel, rfl⟩
theorem dL_law_490 : Dc mL_law 490 (.aload_n 0) 1 491 := ⟨by decide +kernel, rfl⟩
theorem dL_law_491 : Dc mL_law 491 (.iload_n 3) 1 492 := ⟨by decide +kernel, rfl⟩
theorem dL_law_492 : Dc mL_law 492 (.iconst 1) 1 493 := ⟨by decide +kernel, rfl⟩
theorem dL_law_493 : Dc mL_law 493 .iadd 1 494 := ⟨by decide +kernel, rfl⟩
theorem dL_law_494 : Dc mL_law 494 .iaload 1 495 := ⟨by decide +kernel, rfl⟩
theorem dL_law_495 : Dc mL_law 495 (.aload_n 0) 1 496 := ⟨by decide +kernel, rfl⟩
theorem dL_law_496 : Dc mL_law 496 (.iload_n 3) 1 497 := ⟨by decide +kernel, rfl⟩
theorem dL_law_497 : Dc mL_law 497 (.iconst 2) 1 498 := ⟨by decide +kernel, rfl⟩
theorem dL_law_498 : Dc mL_law 498 .iadd 1 499 := ⟨by decide +kernel, rfl⟩
theorem dL_law_499 : Dc mL_law 499 .iaload 1 500 := ⟨by decide +kernel, rfl⟩
theorem dL_law_500 : Dc mL_law 500 (.aload_n 0) 1 501 := ⟨by decide +kernel, rfl⟩
theorem dL_law_501 : Dc mL_law 501 (.iload_n 3) 1 502 := ⟨by decide +kernel, rfl⟩
theorem dL_law_502 : Dc mL_law 502 (.iconst 3) 1 503 := ⟨by decide +kernel, rfl⟩
theorem dL_law_503 : Dc mL_law 503 .iadd 1 504 := ⟨by decide +kernel, rfl⟩
theorem dL_law_504 : Dc mL_law 504 .iaload 1 505 := ⟨by decide +kernel, rfl⟩
theorem dL_law_505 : Dc mL_law 505 (.aload_n 0) 1 506 := ⟨by decide +kernel, rfl⟩
theorem dL_law_506 : Dc mL_law 506 (.iload_n 3) 1 507 := ⟨by decide +kernel, rfl⟩
theorem dL_law_507 : Dc mL_law 507 (.iconst 4) 1 508 := ⟨by decide +kernel, rfl⟩
theorem dL_law_508 : Dc mL_law 508 .iadd 1 509 := ⟨by decide +kernel, rfl⟩
theorem dL_law_509 : Dc mL_law 509 .iaload 1 510 := ⟨by decide +kernel, rfl⟩
theorem dL_law_510 : Dc mL_law 510 (.invokevirtual 53) 3 513 := ⟨by decide +kernel, rfl⟩
theorem dL_law_513 : Dc mL_law 513 (.aload_n 2) 1 514 := ⟨by decide +kernel, rfl⟩
theorem dL_law_514 : Dc mL_law 514 (.aload_n 0) 1 515 := ⟨by decide +kernel, rfl⟩
theorem dL_law_515 : Dc mL_law 515 (.iload_n 3) 1 516 := ⟨by decide +kernel, rfl⟩
theorem dL_law_516 : Dc mL_law 516 (.iconst 1) 1 517 := ⟨by decide +kernel, rfl⟩
theorem dL_law_517 : Dc mL_law 517 .iadd 1 518 := ⟨by decide +kernel, rfl⟩
theorem dL_law_518 : Dc mL_law 518 .iaload 1 519 := ⟨by decide +kernel, rfl⟩
theorem dL_law_519 : Dc mL_law 519 (.aload_n 0) 1 520 := ⟨by decide +kernel, rfl⟩
theorem dL_law_520 : Dc mL_law 520 (.iload_n 3) 1 521 := ⟨by decide +kernel, rfl⟩
theorem dL_law_521 : Dc mL_law 521 (.iconst 2) 1 522 := ⟨by decide +kernel, rfl⟩
theorem dL_law_522 : Dc mL_law 522 .iadd 1 523 := ⟨by decide +kernel, rfl⟩
theorem dL_law_523 : Dc mL_law 523 .iaload 1 524 := ⟨by decide +kernel, rfl⟩
theorem dL_law_524 : Dc mL_law 524 (.aload_n 0) 1 525 := ⟨by decide +kernel, rfl⟩
theorem dL_law_525 : Dc mL_law 525 (.iload_n 3) 1 526 := ⟨by decide +kernel, rfl⟩
theorem dL_law_526 : Dc mL_law 526 (.iconst 3) 1 527 := ⟨by decide +kernel, rfl⟩
theorem dL_law_527 : Dc mL_law 527 .iadd 1 528 := ⟨by decide +kernel, rfl⟩
theorem dL_law_528 : Dc mL_law 528 .iaload 1 529 := ⟨by decide +kernel, rfl⟩
theorem dL_law_529 : Dc mL_law 529 (.aload_n 0) 1 530 := ⟨by decide +kernel, rfl⟩
theorem dL_law_530 : Dc mL_law 530 (.iload_n 3) 1 531 := ⟨by decide +kernel, rfl⟩
theorem dL_law_531 : Dc mL_law 531 (.iconst 4) 1 532 := ⟨by decide +kernel, rfl⟩
theorem dL_law_532 : Dc mL_law 532 .iadd 1 533 := ⟨by decide +kernel, rfl⟩
theorem dL_law_533 : Dc mL_law 533 .iaload 1 534 := ⟨by decide +kernel, rfl⟩
theorem dL_law_534 : Dc mL_law 534 (.invokevirtual 56) 3 537 := ⟨by decide +kernel, rfl⟩
theorem dL_law_537 : Db mL_law 537 (.if_icmp .eq) 1197 540 := ⟨660, by decide +kernel, by decide, rfl⟩
theorem dL_law_540 : Dc mL_law 540 (.iconst 0) 1 541 := ⟨by decide +kernel, rfl⟩
theorem dL_law_541 : Dc mL_law 541 .ireturn 1 542 := ⟨by decide +kernel, rfl⟩
theorem dL_law_542 : Dc mL_law 542 (.aload_n 1) 1 543 := ⟨by decide +kernel, rfl⟩
theorem dL_law_543 : Dc mL_law 543 (.aload_n 0) 1 544 := ⟨by decide +kernel, rfl⟩
theorem dL_law_544 : Dc mL_law 544 (.iload_n 3) 1 545 := ⟨by decide +kernel, rfl⟩
theorem dL_law_545 : Dc mL_law 545 (.iconst 1) 1 546 := ⟨by decide +kernel, rfl⟩
theorem dL_law_546 : Dc mL_law 546 .iadd 1 547 := ⟨by decide +kernel, rfl⟩
theorem dL_law_547 : Dc mL_law 547 .iaload 1 548 := ⟨by decide +kernel, rfl⟩
theorem dL_law_548 : Dc mL_law 548 (.aload_n 0) 1 549 := ⟨by decide +kernel, rfl⟩
theorem dL_law_549 : Dc mL_law 549 (.iload_n 3) 1 550 := ⟨by decide +kernel, rfl⟩
theorem dL_law_550 : Dc mL_law 550 (.iconst 2) 1 551 := ⟨by decide +kernel, rfl⟩
theorem dL_law_551 : Dc mL_law 551 .iadd 1 552 := ⟨by decide +kernel, rfl⟩
theorem dL_law_552 : Dc mL_law 552 .iaload 1 553 := ⟨by decide +kernel, rfl⟩
theorem dL_law_553 : Dc mL_law 553 (.aload_n 0) 1 554 := ⟨by decide +kernel, rfl⟩
theorem dL_law_554 : Dc mL_law 554 (.iload_n 3) 1 555 := ⟨by decide +kernel, rfl⟩
theorem dL_law_555 : Dc mL_law 555 (.iconst 3) 1 556 := ⟨by decide +kernel, rfl⟩
theorem dL_law_556 : Dc mL_law 556 .iadd 1 557 := ⟨by decide +kernel, rfl⟩
theorem dL_law_557 : Dc mL_law 557 .iaload 1 558 := ⟨by decide +kernel, rfl⟩
theorem dL_law_558 : Dc mL_law 558 (.invokevirtual 57) 3 561 := ⟨by decide +kernel, rfl⟩
theorem dL_law_561 : Dc mL_law 561 (.aload_n 2) 1 562 := ⟨by decide +kernel, rfl⟩
theorem dL_law_562 : Dc mL_law 562 (.aload_n 0) 1 563 := ⟨by decide +kernel, rfl⟩
theorem dL_law_563 : Dc mL_law 563 (.iload_n 3) 1 564 := ⟨by decide +kernel, rfl⟩
theorem dL_law_564 : Dc mL_law 564 (.iconst 1) 1 565 := ⟨by decide +kernel, rfl⟩
theorem dL_law_565 : Dc mL_law 565 .iadd 1 566 := ⟨by decide +kernel, rfl⟩
theorem dL_law_566 : Dc mL_law 566 .iaload 1 567 := ⟨by decide +kernel, rfl⟩
theorem dL_law_567 : Dc mL_law 567 (.aload_n 0) 1 568 := ⟨by decide +kernel, rfl⟩
theorem dL_law_568 : Dc mL_law 568 (.iload_n 3) 1 569 := ⟨by decide +kernel, rfl⟩
theorem dL_law_569 : Dc mL_law 569 (.iconst 2) 1 570 := ⟨by decide +kernel, rfl⟩
theorem dL_law_570 : Dc mL_law 570 .iadd 1 571 := ⟨by decide +kernel, rfl⟩
theorem dL_law_571 : Dc mL_law 571 .iaload 1 572 := ⟨by decide +kernel, rfl⟩
theorem dL_law_572 : Dc mL_law 572 (.aload_n 0) 1 573 := ⟨by decide +kernel, rfl⟩
theorem dL_law_573 : Dc mL_law 573 (.iload_n 3) 1 574 := ⟨by decide +kernel, rfl⟩
theorem dL_law_574 : Dc mL_law 574 (.iconst 3) 1 575 := ⟨by decide +kernel, rfl⟩
theorem dL_law_575 : Dc mL_law 575 .iadd 1 576 := ⟨by decide +kernel, rfl⟩
theorem dL_law_576 : Dc mL_law 576 .iaload 1 577 := ⟨by decide +kernel, rfl⟩
theorem dL_law_577 : Dc mL_law 577 (.invokevirtual 60) 3 580 := ⟨by decide +kernel, rfl⟩
theorem dL_law_580 : Db mL_law 580 (.if_icmp .eq) 1197 583 := ⟨617, by decide +kernel, by decide, rfl⟩
theorem dL_law_583 : Dc mL_law 583 (.iconst 0) 1 584 := ⟨by decide +kernel, rfl⟩
theorem dL_law_584 : Dc mL_law 584 .ireturn 1 585 := ⟨by decide +kernel, rfl⟩
theorem dL_law_585 : Dc mL_law 585 (.aload_n 1) 1 586 := ⟨by decide +kernel, rfl⟩
theorem dL_law_586 : Dc mL_law 586 (.aload_n 0) 1 587 := ⟨by decide +kernel, rfl⟩
theorem dL_law_587 : Dc mL_law 587 (.iload_n 3) 1 588 := ⟨by decide +kernel, rfl⟩
theorem dL_law_588 : Dc mL_law 588 (.iconst 1) 1 589 := ⟨by decide +kernel, rfl⟩
theorem dL_law_589 : Dc mL_law 589 .iadd 1 590 := ⟨by decide +kernel, rfl⟩
theorem dL_law_590 : Dc mL_law 590 .iaload 1 591 := ⟨by decide +kernel, rfl⟩
theorem dL_law_591 : Dc mL_law 591 (.aload_n 0) 1 592 := ⟨by decide +kernel, rfl⟩
theorem dL_law_592 : Dc mL_law 592 (.iload_n 3) 1 593 := ⟨by decide +kernel, rfl⟩
theorem dL_law_593 : Dc mL_law 593 (.iconst 2) 1 594 := ⟨by decide +kernel, rfl⟩
theorem dL_law_594 : Dc mL_law 594 .iadd 1 595 := ⟨by decide +kernel, rfl⟩
theorem dL_law_595 : Dc mL_law 595 .iaload 1 596 := ⟨by decide +kernel, rfl⟩
theorem dL_law_596 : Dc mL_law 596 (.invokevirtual 61) 3 599 := ⟨by decide +kernel, rfl⟩
theorem dL_law_599 : Dc mL_law 599 (.aload_n 2) 1 600 := ⟨by decide +kernel, rfl⟩
theorem dL_law_600 : Dc mL_law 600 (.aload_n 0) 1 601 := ⟨by decide +kernel, rfl⟩
theorem dL_law_601 : Dc mL_law 601 (.iload_n 3) 1 602 := ⟨by decide +kernel, rfl⟩
theorem dL_law_602 : Dc mL_law 602 (.iconst 1) 1 603 := ⟨by decide +kernel, rfl⟩
theorem dL_law_603 : Dc mL_law 603 .iadd 1 604 := ⟨by decide +kernel, rfl⟩
theorem dL_law_604 : Dc mL_law 604 .iaload 1 605 := ⟨by decide +kernel, rfl⟩
theorem dL_law_605 : Dc mL_law 605 (.aload_n 0) 1 606 := ⟨by decide +kernel, rfl⟩
theorem dL_law_606 : Dc mL_law 606 (.iload_n 3) 1 607 := ⟨by decide +kernel, rfl⟩
theorem dL_law_607 : Dc mL_law 607 (.iconst 2) 1 608 := ⟨by decide +kernel, rfl⟩
theorem dL_law_608 : Dc mL_law 608 .iadd 1 609 := ⟨by decide +kernel, rfl⟩
theorem dL_law_609 : Dc mL_law 609 .iaload 1 610 := ⟨by decide +kernel, rfl⟩
theorem dL_law_610 : Dc mL_law 610 (.invokevirtual 64) 3 613 := ⟨by decide +kernel, rfl⟩
theorem dL_law_613 : Db mL_law 613 (.if_icmp .eq) 1197 616 := ⟨584, by decide +kernel, by decide, rfl⟩
theorem dL_law_616 : Dc mL_law 616 (.iconst 0) 1 617 := ⟨by decide +kernel, rfl⟩
theorem dL_law_617 : Dc mL_law 617 .ireturn 1 618 := ⟨by decide +kernel, rfl⟩
theorem dL_law_618 : Dc mL_law 618 (.aload_n 1) 1 619 := ⟨by decide +kernel, rfl⟩
theorem dL_law_619 : Dc mL_law 619 (.aload_n 0) 1 620 := ⟨by decide +kernel, rfl⟩
theorem dL_law_620 : Dc mL_law 620 (.iload_n 3) 1 621 := ⟨by decide +kernel, rfl⟩
theorem dL_law_621 : Dc mL_law 621 (.iconst 1) 1 622 := ⟨by decide +kernel, rfl⟩
theorem dL_law_622 : Dc mL_law 622 .iadd 1 623 := ⟨by decide +kernel, rfl⟩
theorem dL_law_623 : Dc mL_law 623 .iaload 1 624 := ⟨by decide +kernel, rfl⟩
theorem dL_law_624 : Dc mL_law 624 (.aload_n 0) 1 625 := ⟨by decide +kernel, rfl⟩
theorem dL_law_625 : Dc mL_law 625 (.iload_n 3) 1 626 := ⟨by decide +kernel, rfl⟩
theorem dL_law_626 : Dc mL_law 626 (.iconst 2) 1 627 := ⟨by decide +kernel, rfl⟩
theorem dL_law_627 : Dc mL_law 627 .iadd 1 628 := ⟨by decide +kernel, rfl⟩
theorem dL_law_628 : Dc mL_law 628 .iaload 1 629 := ⟨by decide +kernel, rfl⟩
theorem dL_law_629 : Dc mL_law 629 (.invokevirtual 65) 3 632 := ⟨by decide +kernel, rfl⟩
theorem dL_law_632 : Dc mL_law 632 (.aload_n 2) 1 633 := ⟨by decide +kernel, rfl⟩
theorem dL_law_633 : Dc mL_law 633 (.aload_n 0) 1 634 := ⟨by decide +kernel, rfl⟩
theorem dL_law_634 : Dc mL_law 634 (.iload_n 3) 1 635 := ⟨by decide +kernel, rfl⟩
theorem dL_law_635 : Dc mL_law 635 (.iconst 1) 1 636 := ⟨by decide +kernel, rfl⟩
theorem dL_law_636 : Dc mL_law 636 .iadd 1 637 := ⟨by decide +kernel, rfl⟩
theorem dL_law_637 : Dc mL_law 637 .iaload 1 638 := ⟨by decide +kernel, rfl⟩
theorem dL_law_638 : Dc mL_law 638 (.aload_n 0) 1 639 := ⟨by decide +kernel, rfl⟩
theorem dL_law_639 : Dc mL_law 639 (.iload_n 3) 1 640 := ⟨by decide +kernel, rfl⟩
theorem dL_law_640 : Dc mL_law 640 (.iconst 2) 1 641 := ⟨by decide +kernel, rfl⟩
theorem dL_law_641 : Dc mL_law 641 .iadd 1 642 := ⟨by decide +kernel, rfl⟩
theorem dL_law_642 : Dc mL_law 642 .iaload 1 643 := ⟨by decide +kernel, rfl⟩
theorem dL_law_643 : Dc mL_law 643 (.invokevirtual 68) 3 646 := ⟨by decide +kernel, rfl⟩
theorem dL_law_646 : Db mL_law 646 (.if_icmp .eq) 1197 649 := ⟨551, by decide +kernel, by decide, rfl⟩
theorem dL_law_649 : Dc mL_law 649 (.iconst 0) 1 650 := ⟨by decide +kernel, rfl⟩
theorem dL_law_650 : Dc mL_law 650 .ireturn 1 651 := ⟨by decide +kernel, rfl⟩
theorem dL_law_651 : Dc mL_law 651 (.aload_n 1) 1 652 := ⟨by decide +kernel, rfl⟩
theorem dL_law_652 : Dc mL_law 652 (.aload_n 0) 1 653 := ⟨by decide +kernel, rfl⟩
theorem dL_law_653 : Dc mL_law 653 (.iload_n 3) 1 654 := ⟨by decide +kernel, rfl⟩
theorem dL_law_654 : Dc mL_law 654 (.iconst 1) 1 655 := ⟨by decide +kernel, rfl⟩
theorem dL_law_655 : Dc mL_law 655 .iadd 1 656 := ⟨by decide +kernel, rfl⟩
theorem dL_law_656 : Dc mL_law 656 .iaload 1 657 := ⟨by decide +kernel, rfl⟩
theorem dL_law_657 : Dc mL_law 657 (.aload_n 0) 1 658 := ⟨by decide +kernel, rfl⟩
theorem dL_law_658 : Dc mL_law 658 (.iload_n 3) 1 659 := ⟨by decide +kernel, rfl⟩
theorem dL_law_659 : Dc mL_law 659 (.iconst 2) 1 660 := ⟨by decide +kernel, rfl⟩
theorem dL_law_660 : Dc mL_law 660 .iadd 1 661 := ⟨by decide +kernel, rfl⟩
theorem dL_law_661 : Dc mL_law 661 .iaload 1 662 := ⟨by decide +kernel, rfl⟩
theorem dL_law_662 : Dc mL_law 662 (.invokevirtual 69) 3 665 := ⟨by decide +kernel, rfl⟩
theorem dL_law_665 : Dc mL_law 665 (.aload_n 2) 1 666 := ⟨by decide +kernel, rfl⟩
theorem dL_law_666 : Dc mL_law 666 (.aload_n 0) 1 667 := ⟨by decide +kernel, rfl⟩
theorem dL_law_667 : Dc mL_law 667 (.iload_n 3) 1 668 := ⟨by decide +kernel, rfl⟩
theorem dL_law_668 : Dc mL_law 668 (.iconst 1) 1 669 := ⟨by decide +kernel, rfl⟩
theorem dL_law_669 : Dc mL_law 669 .iadd 1 670 := ⟨by decide +kernel, rfl⟩
theorem dL_law_670 : Dc mL_law 670 .iaload 1 671 := ⟨by decide +kernel, rfl⟩
theorem dL_law_671 : Dc mL_law 671 (.aload_n 0) 1 672 := ⟨by decide +kernel, rfl⟩
theorem dL_law_672 : Dc mL_law 672 (.iload_n 3) 1 673 := ⟨by decide +kernel, rfl⟩
theorem dL_law_673 : Dc mL_law 673 (.iconst 2) 1 674 := ⟨by decide +kernel, rfl⟩
theorem dL_law_674 : Dc mL_law 674 .iadd 1 675 := ⟨by decide +kernel, rfl⟩
theorem dL_law_675 : Dc mL_law 675 .iaload 1 676 := ⟨by decide +kernel, rfl⟩
theorem dL_law_676 : Dc mL_law 676 (.invokevirtual 72) 3 679 := ⟨by decide +kernel, rfl⟩
theorem dL_law_679 : Db mL_law 679 (.if_icmp .eq) 1197 682 := ⟨518, by decide +kernel, by decide, rfl⟩
theorem dL_law_682 : Dc mL_law 682 (.iconst 0) 1 683 := ⟨by decide +kernel, rfl⟩
theorem dL_law_683 : Dc mL_law 683 .ireturn 1 684 := ⟨by decide +kernel, rfl⟩
theorem dL_law_684 : Dc mL_law 684 (.aload_n 1) 1 685 := ⟨by decide +kernel, rfl⟩
theorem dL_law_685 : Dc mL_law 685 (.invokevirtual 73) 3 688 := ⟨by decide +kernel, rfl⟩
theorem dL_law_688 : Dc mL_law 688 (.aload_n 2) 1 689 := ⟨by decide +kernel, rfl⟩
theorem dL_law_689 : Dc mL_law 689 (.invokevirtual 77) 3 692 := ⟨by decide +kernel, rfl⟩
theorem dL_law_692 : Db mL_law 692 (.if_icmp .eq) 1197 695 := ⟨505, by decide +kernel, by decide, rfl⟩
theorem dL_law_695 : Dc mL_law 695 (.iconst 0) 1 696 := ⟨by decide +kernel, rfl⟩
theorem dL_law_696 : Dc mL_law 696 .ireturn 1 697 := ⟨by decide +kernel, rfl⟩
theorem dL_law_697 : Dc mL_law 697 (.aload_n 1) 1 698 := ⟨by decide +kernel, rfl⟩
theorem dL_law_698 : Dc mL_law 698 (.aload_n 0) 1 699 := ⟨by decide +kernel, rfl⟩
theorem dL_law_699 : Dc mL_law 699 (.iload_n 3) 1 700 := ⟨by decide +kernel, rfl⟩
theorem dL_law_700 : Dc mL_law 700 (.iconst 1) 1 701 := ⟨by decide +kernel, rfl⟩
theorem dL_law_701 : Dc mL_law 701 .iadd 1 702 := ⟨by decide +kernel, rfl⟩
theorem dL_law_702 : Dc mL_law 702 .iaload 1 703 := ⟨by decide +kernel, rfl⟩
theorem dL_law_703 : Dc mL_law 703 (.aload_n 0) 1 704 := ⟨by decide +kernel, rfl⟩
theorem dL_law_704 : Dc mL_law 704 (.iload_n 3) 1 705 := ⟨by decide +kernel, rfl⟩
theorem dL_law_705 : Dc mL_law 705 (.iconst 2) 1 706 := ⟨by decide +kernel, rfl⟩
theorem dL_law_706 : Dc mL_law 706 .iadd 1 707 := ⟨by decide +kernel, rfl⟩
theorem dL_law_707 : Dc mL_law 707 .iaload 1 708 := ⟨by decide +kernel, rfl⟩
theorem dL_law_708 : Dc mL_law 708 (.aload_n 0) 1 709 := ⟨by decide +kernel, rfl⟩
theorem dL_law_709 : Dc mL_law 709 (.iload_n 3) 1 710 := ⟨by decide +kernel, rfl⟩
theorem dL_law_710 : Dc mL_law 710 (.iconst 3) 1 711 := ⟨by decide +kernel, rfl⟩
theorem dL_law_711 : Dc mL_law 711 .iadd 1 712 := ⟨by decide +kernel, rfl⟩
theorem dL_law_712 : Dc mL_law 712 .iaload 1 713 := ⟨by decide +kernel, rfl⟩
theorem dL_law_713 : Dc mL_law 713 (.aload_n 0) 1 714 := ⟨by decide +kernel, rfl⟩
theorem dL_law_714 : Dc mL_law 714 (.iload_n 3) 1 715 := ⟨by decide +kernel, rfl⟩
theorem dL_law_715 : Dc mL_law 715 (.iconst 4) 1 716 := ⟨by decide +kernel, rfl⟩
theorem dL_law_716 : Dc mL_law 716 .iadd 1 717 := ⟨by decide +kernel, rfl⟩
theorem dL_law_717 : Dc mL_law 717 .iaload 1 718 := ⟨by decide +kernel, rfl⟩
theorem dL_law_718 : Dc mL_law 718 (.aload_n 0) 1 719 := ⟨by decide +kernel, rfl⟩
theorem dL_law_719 : Dc mL_law 719 (.iload_n 3) 1 720 := ⟨by decide +kernel, rfl⟩
theorem dL_law_720 : Dc mL_law 720 (.iconst 5) 1 721 := ⟨by decide +kernel, rfl⟩
theorem dL_law_721 : Dc mL_law 721 .iadd 1 722 := ⟨by decide +kernel, rfl⟩
theorem dL_law_722 : Dc mL_law 722 .iaload 1 723 := ⟨by decide +kernel, rfl⟩
theorem dL_law_723 : Dc mL_law 723 (.aload_n 0) 1 724 := ⟨by decide +kernel, rfl⟩
theorem dL_law_724 : Dc mL_law 724 (.iload_n 3) 1 725 := ⟨by decide +kernel, rfl⟩
theorem dL_law_725 : Dc mL_law 725 (.bipush 6) 2 727 := ⟨by decide +kernel, rfl⟩
theorem dL_law_727 : Dc mL_law 727 .iadd 1 728 := ⟨by decide +kernel, rfl⟩
theorem dL_law_728 : Dc mL_law 728 .iaload 1 729 := ⟨by decide +kernel, rfl⟩
theorem dL_law_729 : Dc mL_law 729 (.invokevirtual 78) 3 732 := ⟨by decide +kernel, rfl⟩
theorem dL_law_732 : Dc mL_law 732 (.aload_n 2) 1 733 := ⟨by decide +kernel, rfl⟩
theorem dL_law_733 : Dc mL_law 733 (.aload_n 0) 1 734 := ⟨by decide +kernel, rfl⟩
theorem dL_law_734 : Dc mL_law 734 (.iload_n 3) 1 735 := ⟨by decide +kernel, rfl⟩
theorem dL_law_735 : Dc mL_law 735 (.iconst 1) 1 736 := ⟨by decide +kernel, rfl⟩
theorem dL_law_736 : Dc mL_law 736 .iadd 1 737 := ⟨by decide +kernel, rfl⟩
theorem dL_law_737 : Dc mL_law 737 .iaload 1 738 := ⟨by decide +kernel, rfl⟩
theorem dL_law_738 : Dc mL_law 738 (.aload_n 0) 1 739 := ⟨by decide +kernel, rfl⟩
theorem dL_law_739 : Dc mL_law 739 (.iload_n 3) 1 740 := ⟨by decide +kernel, rfl⟩
theorem dL_law_740 : Dc mL_law 740 (.iconst 2) 1 741 := ⟨by decide +kernel, rfl⟩
theorem dL_law_741 : Dc mL_law 741 .iadd 1 742 := ⟨by decide +kernel, rfl⟩
theorem dL_law_742 : Dc mL_law 742 .iaload 1 743 := ⟨by decide +kernel, rfl⟩
theorem dL_law_743 : Dc mL_law 743 (.aload_n 0) 1 744 := ⟨by decide +kernel, rfl⟩
theorem dL_law_744 : Dc mL_law 744 (.iload_n 3) 1 745 := ⟨by decide +kernel, rfl⟩
theorem dL_law_745 : Dc mL_law 745 (.iconst 3) 1 746 := ⟨by decide +kernel, rfl⟩
theorem dL_law_746 : Dc mL_law 746 .iadd 1 747 := ⟨by decide +kernel, rfl⟩
theorem dL_law_747 : Dc mL_law 747 .iaload 1 748 := ⟨by decide +kernel, rfl⟩
theorem dL_law_748 : Dc mL_law 748 (.aload_n 0) 1 749 := ⟨by decide +kernel, rfl⟩
theorem dL_law_749 : Dc mL_law 749 (.iload_n 3) 1 750 := ⟨by decide +kernel, rfl⟩
theorem dL_law_750 : Dc mL_law 750 (.iconst 4) 1 751 := ⟨by decide +kernel, rfl⟩
theorem dL_law_751 : Dc mL_law 751 .iadd 1 752 := ⟨by decide +kernel, rfl⟩
theorem dL_law_752 : Dc mL_law 752 .iaload 1 753 := ⟨by decide +kernel, rfl⟩
theorem dL_law_753 : Dc mL_law 753 (.aload_n 0) 1 754 := ⟨by decide +kernel, rfl⟩
theorem dL_law_754 : Dc mL_law 754 (.iload_n 3) 1 755 := ⟨by decide +kernel, rfl⟩
theorem dL_law_755 : Dc mL_law 755 (.iconst 5) 1 756 := ⟨by decide +kernel, rfl⟩
theorem dL_law_756 : Dc mL_law 756 .iadd 1 757 := ⟨by decide +kernel, rfl⟩
theorem dL_law_757 : Dc mL_law 757 .iaload 1 758 := ⟨by decide +kernel, rfl⟩
theorem dL_law_758 : Dc mL_law 758 (.aload_n 0) 1 759 := ⟨by decide +kernel, rfl⟩
theorem dL_law_759 : Dc mL_law 759 (.iload_n 3) 1 760 := ⟨by decide +kernel, rfl⟩
theorem dL_law_760 : Dc mL_law 760 (.bipush 6) 2 762 := ⟨by decide +kernel, rfl⟩
theorem dL_law_762 : Dc mL_law 762 .iadd 1 763 := ⟨by decide +kernel, rfl⟩
theorem dL_law_763 : Dc mL_law 763 .iaload 1 764 := ⟨by decide +kernel, rfl⟩
theorem dL_law_764 : Dc mL_law 764 (.invokevirtual 82) 3 767 := ⟨by decide +kernel, rfl⟩
theorem dL_law_767 : Db mL_law 767 (.if_icmp .eq) 1197 770 := ⟨430, by decide +kernel, by decide, rfl⟩
theorem dL_law_770 : Dc mL_law 770 (.iconst 0) 1 771 := ⟨by decide +kernel, rfl⟩
theorem dL_law_771 : Dc mL_law 771 .ireturn 1 772 := ⟨by decide +kernel, rfl⟩
theorem dL_law_772 : Dc mL_law 772 (.aload_n 1) 1 773 := ⟨by decide +kernel, rfl⟩
theorem dL_law_773 : Dc mL_law 773 (.aload_n 0) 1 774 := ⟨by decide +kernel, rfl⟩
theorem dL_law_774 : Dc mL_law 774 (.iload_n 3) 1 775 := ⟨by decide +kernel, rfl⟩
theorem dL_law_775 : Dc mL_law 775 (.iconst 1) 1 776 := ⟨by decide +kernel, rfl⟩
theorem dL_law_776 : Dc mL_law 776 .iadd 1 777 := ⟨by decide +kernel, rfl⟩
theorem dL_law_777 : Dc mL_law 777 .iaload 1 778 := ⟨by decide +kernel, rfl⟩
theorem dL_law_778 : Dc mL_law 778 (.aload_n 0) 1 779 := ⟨by decide +kernel, rfl⟩
theorem dL_law_779 : Dc mL_law 779 (.iload_n 3) 1 780 := ⟨by decide +kernel, rfl⟩
theorem dL_law_780 : Dc mL_law 780 (.iconst 2) 1 781 := ⟨by decide +kernel, rfl⟩
theorem dL_law_781 : Dc mL_law 781 .iadd 1 782 := ⟨by decide +kernel, rfl⟩
theorem dL_law_782 : Dc mL_law 782 .iaload 1 783 := ⟨by decide +kernel, rfl⟩
theorem dL_law_783 : Dc mL_law 783 (.invokevirtual 83) 3 786 := ⟨by decide +kernel, rfl⟩
theorem dL_law_786 : Dc mL_law 786 (.aload_n 2) 1 787 := ⟨by decide +kernel, rfl⟩
theorem dL_law_787 : Dc mL_law 787 (.aload_n 0) 1 788 := ⟨by decide +kernel, rfl⟩
theorem dL_law_788 : Dc mL_law 788 (.iload_n 3) 1 789 := ⟨by decide +kernel, rfl⟩
theorem dL_law_789 : Dc mL_law 789 (.iconst 1) 1 790 := ⟨by decide +kernel, rfl⟩
theorem dL_law_790 : Dc mL_law 790 .iadd 1 791 := ⟨by decide +kernel, rfl⟩
theorem dL_law_791 : Dc mL_law 791 .iaload 1 792 := ⟨by decide +kernel, rfl⟩
theorem dL_law_792 : Dc mL_law 792 (.aload_n 0) 1 793 := ⟨by decide +kernel, rfl⟩
theorem dL_law_793 : Dc mL_law 793 (.iload_n 3) 1 794 := ⟨by decide +kernel, rfl⟩
theorem dL_law_794 : Dc mL_law 794 (.iconst 2) 1 795 := ⟨by decide +kernel, rfl⟩
theorem dL_law_795 : Dc mL_law 795 .iadd 1 796 := ⟨by decide +kernel, rfl⟩
theorem dL_law_796 : Dc mL_law 796 .iaload 1 797 := ⟨by decide +kernel, rfl⟩
theorem dL_law_797 : Dc mL_law 797 (.invokevirtual 86) 3 800 := ⟨by decide +kernel, rfl⟩
theorem dL_law_800 : Db mL_law 800 (.if_icmp .eq) 1197 803 := ⟨397, by decide +kernel, by decide, rfl⟩
theorem dL_law_803 : Dc mL_law 803 (.iconst 0) 1 804 := ⟨by decide +kernel, rfl⟩
theorem dL_law_804 : Dc mL_law 804 .ireturn 1 805 := ⟨by decide +kernel, rfl⟩
theorem dL_law_805 : Dc mL_law 805 (.aload_n 1) 1 806 := ⟨by decide +kernel, rfl⟩
theorem dL_law_806 : Dc mL_law 806 (.aload_n 0) 1 807 := ⟨by decide +kernel, rfl⟩
theorem dL_law_807 : Dc mL_law 807 (.iload_n 3) 1 808 := ⟨by decide +kernel, rfl⟩
theorem dL_law_808 : Dc mL_law 808 (.iconst 1) 1 809 := ⟨by decide +kernel, rfl⟩
theorem dL_law_809 : Dc mL_law 809 .iadd 1 810 := ⟨by decide +kernel, rfl⟩
theorem dL_law_810 : Dc mL_law 810 .iaload 1 811 := ⟨by decide +kernel, rfl⟩
theorem dL_law_811 : Dc mL_law 811 (.aload_n 0) 1 812 := ⟨by decide +kernel, rfl⟩
theorem dL_law_812 : Dc mL_law 812 (.iload_n 3) 1 813 := ⟨by decide +kernel, rfl⟩
theorem dL_law_813 : Dc mL_law 813 (.iconst 2) 1 814 := ⟨by decide +kernel, rfl⟩
theorem dL_law_814 : Dc mL_law 814 .iadd 1 815 := ⟨by decide +kernel, rfl⟩
theorem dL_law_815 : Dc mL_law 815 .iaload 1 816 := ⟨by decide +kernel, rfl⟩
theorem dL_law_816 : Dc mL_law 816 (.aload_n 0) 1 817 := ⟨by decide +kernel, rfl⟩
theorem dL_law_817 : Dc mL_law 817 (.iload_n 3) 1 818 := ⟨by decide +kernel, rfl⟩
theorem dL_law_818 : Dc mL_law 818 (.iconst 3) 1 819 := ⟨by decide +kernel, rfl⟩
theorem dL_law_819 : Dc mL_law 819 .iadd 1 820 := ⟨by decide +kernel, rfl⟩
theorem dL_law_820 : Dc mL_law 820 .iaload 1 821 := ⟨by decide +kernel, rfl⟩
theorem dL_law_821 : Dc mL_law 821 (.invokevirtual 87) 3 824 := ⟨by decide +kernel, rfl⟩
theorem dL_law_824 : Dc mL_law 824 (.aload_n 2) 1 825 := ⟨by decide +kernel, rfl⟩
theorem dL_law_825 : Dc mL_law 825 (.aload_n 0) 1 826 := ⟨by decide +kernel, rfl⟩
theorem dL_law_826 : Dc mL_law 826 (.iload_n 3) 1 827 := ⟨by decide +kernel, rfl⟩
theorem dL_law_827 : Dc mL_law 827 (.iconst 1) 1 828 := ⟨by decide +kernel, rfl⟩
theorem dL_law_828 : Dc mL_law 828 .iadd 1 829 := ⟨by decide +kernel, rfl⟩
theorem dL_law_829 : Dc mL_law 829 .iaload 1 830 := ⟨by decide +kernel, rfl⟩
theorem dL_law_830 : Dc mL_law 830 (.aload_n 0) 1 831 := ⟨by decide +kernel, rfl⟩
theorem dL_law_831 : Dc mL_law 831 (.iload_n 3) 1 832 := ⟨by decide +kernel, rfl⟩
theorem dL_law_832 : Dc mL_law 832 (.iconst 2) 1 833 := ⟨by decide +kernel, rfl⟩
theorem dL_law_833 : Dc mL_law 833 .iadd 1 834 := ⟨by decide +kernel, rfl⟩
theorem dL_law_834 : Dc mL_law 834 .iaload 1 835 := ⟨by decide +kernel, rfl⟩
theorem dL_law_835 : Dc mL_law 835 (.aload_n 0) 1 836 := ⟨by decide +kernel, rfl⟩
theorem dL_law_836 : Dc mL_law 836 (.iload_n 3) 1 837 := ⟨by decide +kernel, rfl⟩
theorem dL_law_837 : Dc mL_law 837 (.iconst 3) 1 838 := ⟨by decide +kernel, rfl⟩
theorem dL_law_838 : Dc mL_law 838 .iadd 1 839 := ⟨by decide +kernel, rfl⟩
theorem dL_law_839 : Dc mL_law 839 .iaload 1 840 := ⟨by decide +kernel, rfl⟩
theorem dL_law_840 : Dc mL_law 840 (.invokevirtual 90) 3 843 := ⟨by decide +kernel, rfl⟩
theorem dL_law_843 : Db mL_law 843 (.if_icmp .eq) 1197 846 := ⟨354, by decide +kernel, by decide, rfl⟩
theorem dL_law_846 : Dc mL_law 846 (.iconst 0) 1 847 := ⟨by decide +kernel, rfl⟩
theorem dL_law_847 : Dc mL_law 847 .ireturn 1 848 := ⟨by decide +kernel, rfl⟩
theorem dL_law_848 : Dc mL_law 848 (.aload_n 1) 1 849 := ⟨by decide +kernel, rfl⟩
theorem dL_law_849 : Dc mL_law 849 (.aload_n 0) 1 850 := ⟨by decide +kernel, rfl⟩
theorem dL_law_850 : Dc mL_law 850 (.iload_n 3) 1 851 := ⟨by decide +kernel, rfl⟩
theorem dL_law_851 : Dc mL_law 851 (.iconst 1) 1 852 := ⟨by decide +kernel, rfl⟩
theorem dL_law_852 : Dc mL_law 852 .iadd 1 853 := ⟨by decide +kernel, rfl⟩
theorem dL_law_853 : Dc mL_law 853 .iaload 1 854 := ⟨by decide +kernel, rfl⟩
theorem dL_law_854 : Dc mL_law 854 (.aload_n 0) 1 855 := ⟨by decide +kernel, rfl⟩
theorem dL_law_855 : Dc mL_law 855 (.iload_n 3) 1 856 := ⟨by decide +kernel, rfl⟩
theorem dL_law_856 : Dc mL_law 856 (.iconst 2) 1 857 := ⟨by decide +kernel, rfl⟩
theorem dL_law_857 : Dc mL_law 857 .iadd 1 858 := ⟨by decide +kernel, rfl⟩
theorem dL_law_858 : Dc mL_law 858 .iaload 1 859 := ⟨by decide +kernel, rfl⟩
theorem dL_law_859 : Dc mL_law 859 (.invokevirtual 91) 3 862 := ⟨by decide +kernel, rfl⟩
theorem dL_law_862 : Dc mL_law 862 (.aload_n 2) 1 863 := ⟨by decide +kernel, rfl⟩
theorem dL_law_863 : Dc mL_law 863 (.aload_n 0) 1 864 := ⟨by decide +kernel, rfl⟩
theorem dL_law_864 : Dc mL_law 864 (.iload_n 3) 1 865 := ⟨by decide +kernel, rfl⟩
theorem dL_law_865 : Dc mL_law 865 (.iconst 1) 1 866 := ⟨by decide +kernel, rfl⟩
theorem dL_law_866 : Dc mL_law 866 .iadd 1 867 := ⟨by decide +kernel, rfl⟩
theorem dL_law_867 : Dc mL_law 867 .iaload 1 868 := ⟨by decide +kernel, rfl⟩
theorem dL_law_868 : Dc mL_law 868 (.aload_n 0) 1 869 := ⟨by decide +kernel, rfl⟩
theorem dL_law_869 : Dc mL_law 869 (.iload_n 3) 1 870 := ⟨by decide +kernel, rfl⟩
theorem dL_law_870 : Dc mL_law 870 (.iconst 2) 1 871 := ⟨by decide +kernel, rfl⟩
theorem dL_law_871 : Dc mL_law 871 .iadd 1 872 := ⟨by decide +kernel, rfl⟩
theorem dL_law_872 : Dc mL_law 872 .iaload 1 873 := ⟨by decide +kernel, rfl⟩
theorem dL_law_873 : Dc mL_law 873 (.invokevirtual 94) 3 876 := ⟨by decide +kernel, rfl⟩
theorem dL_law_876 : Db mL_law 876 (.if_icmp .eq) 1197 879 := ⟨321, by decide +kernel, by decide, rfl⟩
theorem dL_law_879 : Dc mL_law 879 (.iconst 0) 1 880 := ⟨by decide +kernel, rfl⟩
theorem dL_law_880 : Dc mL_law 880 .ireturn 1 881 := ⟨by decide +kernel, rfl⟩
theorem dL_law_881 : Dc mL_law 881 (.aload_n 1) 1 882 := ⟨by decide +kernel, rfl⟩
theorem dL_law_882 : Dc mL_law 882 (.invokevirtual 95) 3 885 := ⟨by decide +kernel, rfl⟩
theorem dL_law_885 : Dc mL_law 885 (.aload_n 2) 1 886 := ⟨by decide +kernel, rfl⟩
theorem dL_law_886 : Dc mL_law 886 (.invokevirtual 98) 3 889 := ⟨by decide +kernel, rfl⟩
theorem dL_law_889 : Db mL_law 889 (.if_icmp .eq) 1197 892 := ⟨308, by decide +kernel, by decide, rfl⟩
theorem dL_law_892 : Dc mL_law 892 (.iconst 0) 1 893 := ⟨by decide +kernel, rfl⟩
theorem dL_law_893 : Dc mL_law 893 .ireturn 1 894 := ⟨by decide +kernel, rfl⟩
theorem dL_law_894 : Dc mL_law 894 (.aload_n 1) 1 895 := ⟨by decide +kernel, rfl⟩
theorem dL_law_895 : Dc mL_law 895 (.invokevirtual 99) 3 898 := ⟨by decide +kernel, rfl⟩
theorem dL_law_898 : Dc mL_law 898 (.aload_n 2) 1 899 := ⟨by decide +kernel, rfl⟩
theorem dL_law_899 : Dc mL_law 899 (.invokevirtual 102) 3 902 := ⟨by decide +kernel, rfl⟩
theorem dL_law_902 : Db mL_law 902 (.if_icmp .eq) 1197 905 := ⟨295, by decide +kernel, by decide, rfl⟩
theorem dL_law_905 : Dc mL_law 905 (.iconst 0) 1 906 := ⟨by decide +kernel, rfl⟩
theorem dL_law_906 : Dc mL_law 906 .ireturn 1 907 := ⟨by decide +kernel, rfl⟩
theorem dL_law_907 : Dc mL_law 907 (.aload_n 1) 1 908 := ⟨by decide +kernel, rfl⟩
theorem dL_law_908 : Dc mL_law 908 (.invokevirtual 103) 3 911 := ⟨by decide +kernel, rfl⟩
theorem dL_law_911 : Dc mL_law 911 (.aload_n 2) 1 912 := ⟨by decide +kernel, rfl⟩
theorem dL_law_912 : Dc mL_law 912 (.invokevirtual 106) 3 915 := ⟨by decide +kernel, rfl⟩
theorem dL_law_915 : Db mL_law 915 (.if_icmp .eq) 1197 918 := ⟨282, by decide +kernel, by decide, rfl⟩
theorem dL_law_918 : Dc mL_law 918 (.iconst 0) 1 919 := ⟨by decide +kernel, rfl⟩
theorem dL_law_919 : Dc mL_law 919 .ireturn 1 920 := ⟨by decide +kernel, rfl⟩
theorem dL_law_920 : Dc mL_law 920 (.aload_n 1) 1 921 := ⟨by decide +kernel, rfl⟩
theorem dL_law_921 : Dc mL_law 921 (.aload_n 0) 1 922 := ⟨by decide +kernel, rfl⟩
theorem dL_law_922 : Dc mL_law 922 (.iload_n 3) 1 923 := ⟨by decide +kernel, rfl⟩
theorem dL_law_923 : Dc mL_law 923 (.iconst 1) 1 924 := ⟨by decide +kernel, rfl⟩
theorem dL_law_924 : Dc mL_law 924 .iadd 1 925 := ⟨by decide +kernel, rfl⟩
theorem dL_law_925 : Dc mL_law 925 .iaload 1 926 := ⟨by decide +kernel, rfl⟩
theorem dL_law_926 : Dc mL_law 926 (.invokevirtual 107) 3 929 := ⟨by decide +kernel, rfl⟩
theorem dL_law_929 : Dc mL_law 929 (.aload_n 2) 1 930 := ⟨by decide +kernel, rfl⟩
theorem dL_law_930 : Dc mL_law 930 (.aload_n 0) 1 931 := ⟨by decide +kernel, rfl⟩
theorem dL_law_931 : Dc mL_law 931 (.iload_n 3) 1 932 := ⟨by decide +kernel, rfl⟩
theorem dL_law_932 : Dc mL_law 932 (.iconst 1) 1 933 := ⟨by decide +kernel, rfl⟩
theorem dL_law_933 : Dc mL_law 933 .iadd 1 934 := ⟨by decide +kernel, rfl⟩
theorem dL_law_934 : Dc mL_law 934 .iaload 1 935 := ⟨by decide +kernel, rfl⟩
theorem dL_law_935 : Dc mL_law 935 (.invokevirtual 110) 3 938 := ⟨by decide +kernel, rfl⟩
theorem dL_law_938 : Db mL_law 938 (.if_icmp .eq) 1197 941 := ⟨259, by decide +kernel, by decide, rfl⟩
theorem dL_law_941 : Dc mL_law 941 (.iconst 0) 1 942 := ⟨by decide +kernel, rfl⟩
theorem dL_law_942 : Dc mL_law 942 .ireturn 1 943 := ⟨by decide +kernel, rfl⟩
theorem dL_law_943 : Dc mL_law 943 (.aload_n 1) 1 944 := ⟨by decide +kernel, rfl⟩
theorem dL_law_944 : Dc mL_law 944 (.aload_n 0) 1 945 := ⟨by decide +kernel, rfl⟩
theorem dL_law_945 : Dc mL_law 945 (.iload_n 3) 1 946 := ⟨by decide +kernel, rfl⟩
theorem dL_law_946 : Dc mL_law 946 (.iconst 1) 1 947 := ⟨by decide +kernel, rfl⟩
theorem dL_law_947 : Dc mL_law 947 .iadd 1 948 := ⟨by decide +kernel, rfl⟩
theorem dL_law_948 : Dc mL_law 948 .iaload 1 949 := ⟨by decide +kernel, rfl⟩
theorem dL_law_949 : Dc mL_law 949 (.aload_n 0) 1 950 := ⟨by decide +kernel, rfl⟩
theorem dL_law_950 : Dc mL_law 950 (.iload_n 3) 1 951 := ⟨by decide +kernel, rfl⟩
theorem dL_law_951 : Dc mL_law 951 (.iconst 2) 1 952 := ⟨by decide +kernel, rfl⟩
theorem dL_law_952 : Dc mL_law 952 .iadd 1 953 := ⟨by decide +kernel, rfl⟩
theorem dL_law_953 : Dc mL_law 953 .iaload 1 954 := ⟨by decide +kernel, rfl⟩
theorem dL_law_954 : Dc mL_law 954 (.aload_n 0) 1 955 := ⟨by decide +kernel, rfl⟩
theorem dL_law_955 : Dc mL_law 955 (.iload_n 3) 1 956 := ⟨by decide +kernel, rfl⟩
theorem dL_law_956 : Dc mL_law 956 (.iconst 3) 1 957 := ⟨by decide +kernel, rfl⟩
theorem dL_law_957 : Dc mL_law 957 .iadd 1 958 := ⟨by decide +kernel, rfl⟩
theorem dL_law_958 : Dc mL_law 958 .iaload 1 959 := ⟨by decide +kernel, rfl⟩
theorem dL_law_959 : Dc mL_law 959 (.aload_n 0) 1 960 := ⟨by decide +kernel, rfl⟩
theorem dL_law_960 : Dc mL_law 960 (.iload_n 3) 1 961 := ⟨by decide +kernel, rfl⟩
theorem dL_law_961 : Dc mL_law 961 (.iconst 4) 1 962 := ⟨by decide +kernel, rfl⟩
theorem dL_law_962 : Dc mL_law 962 .iadd 1 963 := ⟨by decide +kernel, rfl⟩
theorem dL_law_963 : Dc mL_law 963 .iaload 1 964 := ⟨by decide +kernel, rfl⟩
theorem dL_law_964 : Dc mL_law 964 (.invokevirtual 111) 3 967 := ⟨by decide +kernel, rfl⟩
theorem dL_law_967 : Dc mL_law 967 (.aload_n 2) 1 968 := ⟨by decide +kernel, rfl⟩
theorem dL_law_968 : Dc mL_law 968 (.aload_n 0) 1 969 := ⟨by decide +kernel, rfl⟩
theorem dL_law_969 : Dc mL_law 969 (.iload_n 3) 1 970 := ⟨by decide +kernel, rfl⟩
theorem dL_law_970 : Dc mL_law 970 (.iconst 1) 1 971 := ⟨by decide +kernel, rfl⟩
theorem dL_law_971 : Dc mL_law 971 .iadd 1 972 := ⟨by decide +kernel, rfl⟩
theorem dL_law_972 : Dc mL_law 972 .iaload 1 973 := ⟨by decide +kernel, rfl⟩
theorem dL_law_973 : Dc mL_law 973 (.aload_n 0) 1 974 := ⟨by decide +kernel, rfl⟩
theorem dL_law_974 : Dc mL_law 974 (.iload_n 3) 1 975 := ⟨by decide +kernel, rfl⟩
theorem dL_law_975 : Dc mL_law 975 (.iconst 2) 1 976 := ⟨by decide +kernel, rfl⟩
theorem dL_law_976 : Dc mL_law 976 .iadd 1 977 := ⟨by decide +kernel, rfl⟩
theorem dL_law_977 : Dc mL_law 977 .iaload 1 978 := ⟨by decide +kernel, rfl⟩
theorem dL_law_978 : Dc mL_law 978 (.aload_n 0) 1 979 := ⟨by decide +kernel, rfl⟩
theorem dL_law_979 : Dc mL_law 979 (.iload_n 3) 1 980 := ⟨by decide +kernel, rfl⟩
theorem dL_law_980 : Dc mL_law 980 (.iconst 3) 1 981 := ⟨by decide +kernel, rfl⟩
theorem dL_law_981 : Dc mL_law 981 .iadd 1 982 := ⟨by decide +kernel, rfl⟩
theorem dL_law_982 : Dc mL_law 982 .iaload 1 983 := ⟨by decide +kernel, rfl⟩
theorem dL_law_983 : Dc mL_law 983 (.aload_n 0) 1 984 := ⟨by decide +kernel, rfl⟩
theorem dL_law_984 : Dc mL_law 984 (.iload_n 3) 1 985 := ⟨by decide +kernel, rfl⟩
theorem dL_law_985 : Dc mL_law 985 (.iconst 4) 1 986 := ⟨by decide +kernel, rfl⟩
theorem dL_law_986 : Dc mL_law 986 .iadd 1 987 := ⟨by decide +kernel, rfl⟩
theorem dL_law_987 : Dc mL_law 987 .iaload 1 988 := ⟨by decide +kernel, rfl⟩
theorem dL_law_988 : Dc mL_law 988 (.invokevirtual 114) 3 991 := ⟨by decide +kernel, rfl⟩
theorem dL_law_991 : Db mL_law 991 (.if_icmp .eq) 1197 994 := ⟨206, by decide +kernel, by decide, rfl⟩
theorem dL_law_994 : Dc mL_law 994 (.iconst 0) 1 995 := ⟨by decide +kernel, rfl⟩
theorem dL_law_995 : Dc mL_law 995 .ireturn 1 996 := ⟨by decide +kernel, rfl⟩
theorem dL_law_996 : Dc mL_law 996 (.aload_n 1) 1 997 := ⟨by decide +kernel, rfl⟩
theorem dL_law_997 : Dc mL_law 997 (.aload_n 0) 1 998 := ⟨by decide +kernel, rfl⟩
theorem dL_law_998 : Dc mL_law 998 (.iload_n 3) 1 999 := ⟨by decide +kernel, rfl⟩
theorem dL_law_999 : Dc mL_law 999 (.iconst 1) 1 1000 := ⟨by decide +kernel, rfl⟩
theorem dL_law_1000 : Dc mL_law 1000 .iadd 1 1001 := ⟨by decide +kernel, rfl⟩
theorem dL_law_1001 : Dc mL_law 1001 .iaload 1 1002 := ⟨by decide +kernel, rfl⟩
theorem dL_law_1002 : Dc mL_law 1002 (.invokevirtual 115) 3 1005 := ⟨by decide +kernel, rfl⟩
theorem dL_law_1005 : Dc mL_law 1005 (.aload_n 2) 1 1006 := ⟨by decide +kernel, rfl⟩
theorem dL_law_1006 : Dc mL_law 1006 (.aload_n 0) 1 1007 := ⟨by decide +kernel, rfl⟩
theorem dL_law_1007 : Dc mL_law 1007 (.iload_n 3) 1 1008 := ⟨by decide +kernel, rfl⟩
theorem dL_law_1008 : Dc mL_law 1008 (.iconst 1) 1 1009 := ⟨by decide +kernel, rfl⟩
theorem dL_law_1009 : Dc mL_law 1009 .iadd 1 1010 := ⟨by decide +kernel, rfl⟩
theorem dL_law_1010 : Dc mL_law 1010 .iaload 1 1011 := ⟨by decide +kernel, rfl⟩
theorem dL_law_1011 : Dc mL_law 1011 (.invokevirtual 118) 3 1014 := ⟨by decide +kernel, rfl⟩
theorem dL_law_1014 : Db mL_law 1014 (.if_icmp .eq) 1197 1017 := ⟨183, by decide +kernel, by decide, rfl⟩
theorem dL_law_1017 : Dc mL_law 1017 (.iconst 0) 1 1018 := ⟨by decide +kernel, rfl⟩
theorem dL_law_1018 : Dc mL_law 1018 .ireturn 1 1019 := ⟨by decide +kernel, rfl⟩
theorem dL_law_1019 : Dc mL_law 1019 (.aload_n 1) 1 1020 := ⟨by decide +kernel, rfl⟩
theorem dL_law_1020 : Dc mL_law 1020 (.invokevirtual 119) 3 1023 := ⟨by decide +kernel, rfl⟩
theorem dL_law_1023 : Dc mL_law 1023 (.aload_n 2) 1 1024 := ⟨by decide +kernel, rfl⟩
theorem dL_law_1024 : Dc mL_law 1024 (.invokevirtual 122) 3 1027 := ⟨by decide +kernel, rfl⟩
theorem dL_law_1027 : Db mL_law 1027 (.if_icmp .eq) 1197 1030 := ⟨170, by decide +kernel, by decide, rfl⟩
theorem dL_law_1030 : Dc mL_law 1030 (.iconst 0) 1 1031 := ⟨by decide +kernel, rfl⟩
theorem dL_law_1031 : Dc mL_law 1031 .ireturn 1 1032 := ⟨by decide +kernel, rfl⟩
theorem dL_law_1032 : Dc mL_law 1032 (.aload_n 1) 1 1033 := ⟨by decide +kernel, rfl⟩
theorem dL_law_1033 : Dc mL_law 1033 (.aload_n 0) 1 1034 := ⟨by decide +kernel, rfl⟩
theorem dL_law_1034 : Dc mL_law 1034 (.iload_n 3) 1 1035 := ⟨by decide +kernel, rfl⟩
theorem dL_law_1035 : Dc mL_law 1035 (.iconst 1) 1 1036 := ⟨by decide +kernel, rfl⟩
theorem dL_law_1036 : Dc mL_law 1036 .iadd 1 1037 := ⟨by decide +kernel, rfl⟩
theorem dL_law_1037 : Dc mL_law 1037 .iaload 1 1038 := ⟨by decide +kernel, rfl⟩
theorem dL_law_1038 : Dc mL_law 1038 (.invokevirtual 123) 3 1041 := ⟨by decide +kernel, rfl⟩
theorem dL_law_1041 : Dc mL_law 1041 (.aload_n 2) 1 1042 := ⟨by decide +kernel, rfl⟩
theorem dL_law_1042 : Dc mL_law 1042 (.aload_n 0) 1 1043 := ⟨by decide +kernel, rfl⟩
theorem dL_law_1043 : Dc mL_law 1043 (.iload_n 3) 1 1044 := ⟨by decide +kernel, rfl⟩
theorem dL_law_1044 : Dc mL_law 1044 (.iconst 1) 1 1045 := ⟨by decide +kernel, rfl⟩
theorem dL_law_1045 : Dc mL_law 1045 .iadd 1 1046 := ⟨by decide +kernel, rfl⟩
theorem dL_law_1046 : Dc mL_law 1046 .iaload 1 1047 := ⟨by decide +kernel, rfl⟩
theorem dL_law_1047 : Dc mL_law 1047 (.invokevirtual 126) 3 1050 := ⟨by decide +kernel, rfl⟩
theorem dL_law_1050 : Db mL_law 1050 (.if_icmp .eq) 1197 1053 := ⟨147, by decide +kernel, by decide, rfl⟩
theorem dL_law_1053 : Dc mL_law 1053 (.iconst 0) 1 1054 := ⟨by decide +kernel, rfl⟩
theorem dL_law_1054 : Dc mL_law 1054 .ireturn 1 1055 := ⟨by decide +kernel, rfl⟩
theorem dL_law_1055 : Dc mL_law 1055 (.aload_n 1) 1 1056 := ⟨by decide +kernel, rfl⟩
theorem dL_law_1056 : Dc mL_law 1056 (.aload_n 0) 1 1057 := ⟨by decide +kernel, rfl⟩
theorem dL_law_1057 : Dc mL_law 1057 (.iload_n 3) 1 1058 := ⟨by decide +kernel, rfl⟩
theorem dL_law_1058 : Dc mL_law 1058 (.iconst 1) 1 1059 := ⟨by decide +kernel, rfl⟩
theorem dL_law_1059 : Dc mL_law 1059 .iadd 1 1060 := ⟨by decide +kernel, rfl⟩
theorem dL_law_1060 : Dc mL_law 1060 .iaload 1 1061 := ⟨by decide +kernel, rfl⟩
theorem dL_law_1061 : Dc mL_law 1061 (.aload_n 0) 1 1062 := ⟨by decide +kernel, rfl⟩
theorem dL_law_1062 : Dc mL_law 1062 (.iload_n 3) 1 1063 := ⟨by decide +kernel, rfl⟩
theorem dL_law_1063 : Dc mL_law 1063 (.iconst 2) 1 1064 := ⟨by decide +kernel, rfl⟩
theorem dL_law_1064 : Dc mL_law 1064 .iadd 1 1065 := ⟨by decide +kernel, rfl⟩
theorem dL_law_1065 : Dc mL_law 1065 .iaload 1 1066 := ⟨by decide +kernel, rfl⟩
theorem dL_law_1066 : Dc mL_law 1066 (.invokevirtual 127) 3 1069 := ⟨by decide +kernel, rfl⟩
theorem dL_law_1069 : Dc mL_law 1069 (.aload_n 2) 1 1070 := ⟨by decide +kernel, rfl⟩
theorem dL_law_1070 : Dc mL_law 1070 (.aload_n 0) 1 1071 := ⟨by decide +kernel, rfl⟩
theorem dL_law_1071 : Dc mL_law 1071 (.iload_n 3) 1 1072 := ⟨by decide +kernel, rfl⟩
theorem dL_law_1072 : Dc mL_law 1072 (.iconst 1) 1 1073 := ⟨by decide +kernel, rfl⟩
theorem dL_law_1073 : Dc mL_law 1073 .iadd 1 1074 := ⟨by decide +kernel, rfl⟩
theorem dL_law_1074 : Dc mL_law 1074 .iaload 1 1075 := ⟨by decide +kernel, rfl⟩
theorem dL_law_1075 : Dc mL_law 1075 (.aload_n 0) 1 1076 := ⟨by decide +kernel, rfl⟩
theorem dL_law_1076 : Dc mL_law 1076 (.iload_n 3) 1 1077 := ⟨by decide +kernel, rfl⟩
theorem dL_law_1077 : Dc mL_law 1077 (.iconst 2) 1 1078 := ⟨by decide +kernel, rfl⟩
theorem dL_law_1078 : Dc mL_law 1078 .iadd 1 1079 := ⟨by decide +kernel, rfl⟩
theorem dL_law_1079 : Dc mL_law 1079 .iaload 1 1080 := ⟨by decide +kernel, rfl⟩
theorem dL_law_1080 : Dc mL_law 1080 (.invokevirtual 130) 3 1083 := ⟨by decide +kernel, rfl⟩
theorem dL_law_1083 : Db mL_law 1083 (.if_icmp .eq) 1197 1086 := ⟨114, by decide +kernel, by decide, rfl⟩
theorem dL_law_1086 : Dc mL_law 1086 (.iconst 0) 1 1087 := ⟨by decide +kernel, rfl⟩
theorem dL_law_1087 : Dc mL_law 1087 .ireturn 1 1088 := ⟨by decide +kernel, rfl⟩
theorem dL_law_1088 : Dc mL_law 1088 (.aload_n 1) 1 1089 := ⟨by decide +kernel, rfl⟩
theorem dL_law_1089 : Dc mL_law 1089 (.aload_n 0) 1 1090 := ⟨by decide +kernel, rfl⟩
theorem dL_law_1090 : Dc mL_law 1090 (.iload_n 3) 1 1091 := ⟨by decide +kernel, rfl⟩
theorem dL_law_1091 : Dc mL_law 1091 (.iconst 1) 1 1092 := ⟨by decide +kernel, rfl⟩
theorem dL_law_1092 : Dc mL_law 1092 .iadd 1 1093 := ⟨by decide +kernel, rfl⟩
theorem dL_law_1093 : Dc mL_law 1093 .iaload 1 1094 := ⟨by decide +kernel, rfl⟩
theorem dL_law_1094 : Dc mL_law 1094 (.aload_n 0) 1 1095 := ⟨by decide +kernel, rfl⟩
theorem dL_law_1095 : Dc mL_law 1095 (.iload_n 3) 1 1096 := ⟨by decide +kernel, rfl⟩
theorem dL_law_1096 : Dc mL_law 1096 (.iconst 2) 1 1097 := ⟨by decide +kernel, rfl⟩
theorem dL_law_1097 : Dc mL_law 1097 .iadd 1 1098 := ⟨by decide +kernel, rfl⟩
theorem dL_law_1098 : Dc mL_law 1098 .iaload 1 1099 := ⟨by decide +kernel, rfl⟩
theorem dL_law_1099 : Dc mL_law 1099 (.aload_n 0) 1 1100 := ⟨by decide +kernel, rfl⟩
theorem dL_law_1100 : Dc mL_law 1100 (.iload_n 3) 1 1101 := ⟨by decide +kernel, rfl⟩
theorem dL_law_1101 : Dc mL_law 1101 (.iconst 3) 1 1102 := ⟨by decide +kernel, rfl⟩
theorem dL_law_1102 : Dc mL_law 1102 .iadd 1 1103 := ⟨by decide +kernel, rfl⟩
theorem dL_law_1103 : Dc mL_law 1103 .iaload 1 1104 := ⟨by decide +kernel, rfl⟩
theorem dL_law_1104 : Dc mL_law 1104 (.invokevirtual 131) 3 1107 := ⟨by decide +kernel, rfl⟩
theorem dL_law_1107 : Dc mL_law 1107 (.aload_n 2) 1 1108 := ⟨by decide +kernel, rfl⟩
theorem dL_law_1108 : Dc mL_law 1108 (.aload_n 0) 1 1109 := ⟨by decide +kernel, rfl⟩
theorem dL_law_1109 : Dc mL_law 1109 (.iload_n 3) 1 1110 := ⟨by decide +kernel, rfl⟩
theorem dL_law_1110 : Dc mL_law 1110 (.iconst 1) 1 1111 := ⟨by decide +kernel, rfl⟩
theorem dL_law_1111 : Dc mL_law 1111 .iadd 1 1112 := ⟨by decide +kernel, rfl⟩
theorem dL_law_1112 : Dc mL_law 1112 .iaload 1 1113 := ⟨by decide +kernel, rfl⟩
theorem dL_law_1113 : Dc mL_law 1113 (.aload_n 0) 1 1114 := ⟨by decide +kernel, rfl⟩
theorem dL_law_1114 : Dc mL_law 1114 (.iload_n 3) 1 1115 := ⟨by decide +kernel, rfl⟩
theorem dL_law_1115 : Dc mL_law 1115 (.iconst 2) 1 1116 := ⟨by decide +kernel, rfl⟩
theorem dL_law_1116 : Dc mL_law 1116 .iadd 1 1117 := ⟨by decide +kernel, rfl⟩
theorem dL_law_1117 : Dc mL_law 1117 .iaload 1 1118 := ⟨by decide +kernel, rfl⟩
theorem dL_law_1118 : Dc mL_law 1118 (.aload_n 0) 1 1119 := ⟨by decide +kernel, rfl⟩
theorem dL_law_1119 : Dc mL_law 1119 (.iload_n 3) 1 1120 := ⟨by decide +kernel, rfl⟩
theorem dL_law_1120 : Dc mL_law 1120 (.iconst 3) 1 1121 := ⟨by decide +kernel, rfl⟩
theorem dL_law_1121 : Dc mL_law 1121 .iadd 1 1122 := ⟨by decide +kernel, rfl⟩
theorem dL_law_1122 : Dc mL_law 1122 .iaload 1 1123 := ⟨by decide +kernel, rfl⟩
theorem dL_law_1123 : Dc mL_law 1123 (.invokevirtual 134) 3 1126 := ⟨by decide +kernel, rfl⟩
theorem dL_law_1126 : Db mL_law 1126 (.if_icmp .eq) 1197 1129 := ⟨71, by decide +kernel, by decide, rfl⟩
theorem dL_law_1129 : Dc mL_law 1129 (.iconst 0) 1 1130 := ⟨by decide +kernel, rfl⟩
theorem dL_law_1130 : Dc mL_law 1130 .ireturn 1 1131 := ⟨by decide +kernel, rfl⟩
theorem dL_law_1131 : Dc mL_law 1131 (.aload_n 1) 1 1132 := ⟨by decide +kernel, rfl⟩
theorem dL_law_1132 : Dc mL_law 1132 (.aload_n 0) 1 1133 := ⟨by decide +kernel, rfl⟩
theorem dL_law_1133 : Dc mL_law 1133 (.iload_n 3) 1 1134 := ⟨by decide +kernel, rfl⟩
theorem dL_law_1134 : Dc mL_law 1134 (.iconst 1) 1 1135 := ⟨by decide +kernel, rfl⟩
theorem dL_law_1135 : Dc mL_law 1135 .iadd 1 1136 := ⟨by decide +kernel, rfl⟩
theorem dL_law_1136 : Dc mL_law 1136 .iaload 1 1137 := ⟨by decide +kernel, rfl⟩
theorem dL_law_1137 : Dc mL_law 1137 (.aload_n 0) 1 1138 := ⟨by decide +kernel, rfl⟩
theorem dL_law_1138 : Dc mL_law 1138 (.iload_n 3) 1 1139 := ⟨by decide +kernel, rfl⟩
theorem dL_law_1139 : Dc mL_law 1139 (.iconst 2) 1 1140 := ⟨by decide +kernel, rfl⟩
theorem dL_law_1140 : Dc mL_law 1140 .iadd 1 1141 := ⟨by decide +kernel, rfl⟩
theorem dL_law_1141 : Dc mL_law 1141 .iaload 1 1142 := ⟨by decide +kernel, rfl⟩
theorem dL_law_1142 : Dc mL_law 1142 (.aload_n 0) 1 1143 := ⟨by decide +kernel, rfl⟩
theorem dL_law_1143 : Dc mL_law 1143 (.iload_n 3) 1 1144 := ⟨by decide +kernel, rfl⟩
theorem dL_law_1144 : Dc mL_law 1144 (.iconst 3) 1 1145 := ⟨by decide +kernel, rfl⟩
theorem dL_law_1145 : Dc mL_law 1145 .iadd 1 1146 := ⟨by decide +kernel, rfl⟩
theorem dL_law_1146 : Dc mL_law 1146 .iaload 1 1147 := ⟨by decide +kernel, rfl⟩
theorem dL_law_1147 : Dc mL_law 1147 (.invokevirtual 135) 3 1150 := ⟨by decide +kernel, rfl⟩
theorem dL_law_1150 : Dc mL_law 1150 (.aload_n 2) 1 1151 := ⟨by decide +kernel, rfl⟩
theorem dL_law_1151 : Dc mL_law 1151 (.aload_n 0) 1 1152 := ⟨by decide +kernel, rfl⟩
theorem dL_law_1152 : Dc mL_law 1152 (.iload_n 3) 1 1153 := ⟨by decide +kernel, rfl⟩
theorem dL_law_1153 : Dc mL_law 1153 (.iconst 1) 1 1154 := ⟨by decide +kernel, rfl⟩
theorem dL_law_1154 : Dc mL_law 1154 .iadd 1 1155 := ⟨by decide +kernel, rfl⟩
theorem dL_law_1155 : Dc mL_law 1155 .iaload 1 1156 := ⟨by decide +kernel, rfl⟩
theorem dL_law_1156 : Dc mL_law 1156 (.aload_n 0) 1 1157 := ⟨by decide +kernel, rfl⟩
theorem dL_law_1157 : Dc mL_law 1157 (.iload_n 3) 1 1158 := ⟨by decide +kernel, rfl⟩
theorem dL_law_1158 : Dc mL_law 1158 (.iconst 2) 1 1159 := ⟨by decide +kernel, rfl⟩
theorem dL_law_1159 : Dc mL_law 1159 .iadd 1 1160 := ⟨by decide +kernel, rfl⟩
theorem dL_law_1160 : Dc mL_law 1160 .iaload 1 1161 := ⟨by decide +kernel, rfl⟩
theorem dL_law_1161 : Dc mL_law 1161 (.aload_n 0) 1 1162 := ⟨by decide +kernel, rfl⟩
theorem dL_law_1162 : Dc mL_law 1162 (.iload_n 3) 1 1163 := ⟨by decide +kernel, rfl⟩
theorem dL_law_1163 : Dc mL_law 1163 (.iconst 3) 1 1164 := ⟨by decide +kernel, rfl⟩
theorem dL_law_1164 : Dc mL_law 1164 .iadd 1 1165 := ⟨by decide +kernel, rfl⟩
theorem dL_law_1165 : Dc mL_law 1165 .iaload 1 1166 := ⟨by decide +kernel, rfl⟩
theorem dL_law_1166 : Dc mL_law 1166 (.invokevirtual 138) 3 1169 := ⟨by decide +kernel, rfl⟩
theorem dL_law_1169 : Db mL_law 1169 (.if_icmp .eq) 1197 1172 := ⟨28, by decide +kernel, by decide, rfl⟩
theorem dL_law_1172 : Dc mL_law 1172 (.iconst 0) 1 1173 := ⟨by decide +kernel, rfl⟩
theorem dL_law_1173 : Dc mL_law 1173 .ireturn 1 1174 := ⟨by decide +kernel, rfl⟩
theorem dL_law_1174 : Dc mL_law 1174 (.aload_n 1) 1 1175 := ⟨by decide +kernel, rfl⟩
theorem dL_law_1175 : Dc mL_law 1175 (.aload_n 0) 1 1176 := ⟨by decide +kernel, rfl⟩
theorem dL_law_1176 : Dc mL_law 1176 (.iload_n 3) 1 1177 := ⟨by decide +kernel, rfl⟩
theorem dL_law_1177 : Dc mL_law 1177 (.iconst 1) 1 1178 := ⟨by decide +kernel, rfl⟩
theorem dL_law_1178 : Dc mL_law 1178 .iadd 1 1179 := ⟨by decide +kernel, rfl⟩
theorem dL_law_1179 : Dc mL_law 1179 .iaload 1 1180 := ⟨by decide +kernel, rfl⟩
theorem dL_law_1180 : Dc mL_law 1180 (.invokevirtual 139) 3 1183 := ⟨by decide +kernel, rfl⟩
theorem dL_law_1183 : Dc mL_law 1183 (.aload_n 2) 1 1184 := ⟨by decide +kernel, rfl⟩
theorem dL_law_1184 : Dc mL_law 1184 (.aload_n 0) 1 1185 := ⟨by decide +kernel, rfl⟩
theorem dL_law_1185 : Dc mL_law 1185 (.iload_n 3) 1 1186 := ⟨by decide +kernel, rfl⟩
theorem dL_law_1186 : Dc mL_law 1186 (.iconst 1) 1 1187 := ⟨by decide +kernel, rfl⟩
theorem dL_law_1187 : Dc mL_law 1187 .iadd 1 1188 := ⟨by decide +kernel, rfl⟩
theorem dL_law_1188 : Dc mL_law 1188 .iaload 1 1189 := ⟨by decide +kernel, rfl⟩
theorem dL_law_1189 : Dc mL_law 1189 (.invokevirtual 142) 3 1192 := ⟨by decide +kernel, rfl⟩
theorem dL_law_1192 : Db mL_law 1192 (.if_icmp .eq) 1197 1195 := ⟨5, by decide +kernel, by decide, rfl⟩
theorem dL_law_1195 : Dc mL_law 1195 (.iconst 0) 1 1196 := ⟨by decide +kernel, rfl⟩
theorem dL_law_1196 : Dc mL_law 1196 .ireturn 1 1197 := ⟨by decide +kernel, rfl⟩
theorem dL_law_1197 : Dc mL_law 1197 (.iinc 3 7) 3 1200 := ⟨by decide +kernel, rfl⟩
theorem dL_law_1200 : Db mL_law 1200 .goto 18 1203 := ⟨(-1182), by decide +kernel, by decide, rfl⟩
theorem dL_law_1203 : Dc mL_law 1203 (.iconst 1) 1 1204 := ⟨by decide +kernel, rfl⟩
theorem dL_law_1204 : Dc mL_law 1204 .ireturn 1 1205 := ⟨by decide +kernel, rfl⟩
end
section
/-- the lengths of the rows of the reference, by its fields; 0: no row -/
def mLn : Nat → Nat := fun k => match k with
  | 1 => 20
  | 3 => 20
  | 4 => 80
  | 6 => 12
  | 7 => 48
  | 9 => 60
  | 10 => 60
  | 11 => 60
  | 12 => 720
  | 13 => 60
  | 14 => 180
  | 15 => 60
  | 16 => 60
  | 17 => 60
  | 19 => 60
  | 22 => 360
  | 23 => 6
  | 24 => 6
  | 25 => 24
  | 26 => 360
  | 27 => 6
  | 28 => 900
  | 34 => 48
  | 36 => 18
  | 38 => 4
  | 39 => 4
  | 41 => 8
  | 42 => 8
  | 43 => 8
  | 44 => 16
  | 45 => 16
  | 48 => 16
  | 51 => 120
  | _ => 0
def mKd : Nat → Nat := fun k => match k with
  | 26 => 21
  | 27 => 21
  | 42 => 21
  | _ => 20
abbrev mArr (k : Nat) : Bool := Nat.blt 0 (mLn k)
abbrev Sg : Type := Nat → Nat → Int32
def mF (σ : Sg) : Nat → PV := fun k => if mArr k = true then vR (101, k, 0) else vI (σ k 0)
/-- the reference's cells, over any other -/
def hM (σ : Sg) (h : Hp) : Hp := fun n => if n = (100, 0, 0) then some (12, 0, mF σ) else if n.1 = 101 ∧ n.2.2 = 0 ∧ mArr n.2.1 = true then some (mKd n.2.1, mLn n.2.1, fun i => vI (σ n.2.1 i)) else h n
def us (σ : Sg) (k j : Nat) (x : Int32) : Sg := fun k' j' => if k' = k ∧ j' = j then x else σ k' j'
theorem us_s {σ : Sg} {k j : Nat} {x : Int32} : us σ k j x k j = x := if_pos ⟨rfl, rfl⟩
theorem us_k {σ : Sg} {k j k' j' : Nat} {x : Int32} (h : k' ≠ k) : us σ k j x k' j' = σ k' j' := if_neg fun q => h q.1
theorem us_j {σ : Sg} {k j k' j' : Nat} {x : Int32} (h : j' ≠ j) : us σ k j x k' j' = σ k' j' := if_neg fun q => h q.2
theorem hM_o {σ : Sg} {h : Hp} : hM σ h (100, 0, 0) = some (12, 0, mF σ) := if_pos rfl
theorem hM_a {σ : Sg} {h : Hp} {k : Nat} (ha : mArr k = true) : hM σ h (101, k, 0) = some (mKd k, mLn k, fun i => vI (σ k i)) := by
  unfold hM
  rw [if_neg (fun q => by cases q), if_pos ⟨rfl, rfl, ha⟩]
theorem hM_x {σ : Sg} {h : Hp} {n : Nm} (h1 : n ≠ (100, 0, 0)) (h2 : n.1 ≠ 101) : hM σ h n = h n := by
  unfold hM
  rw [if_neg h1, if_neg (fun q => h2 q.1)]
theorem hM_up {σ : Sg} {h : Hp} {k j : Nat} {x : Int32} (ha : mArr k = true) : up (hM σ h) (101, k, 0) (mKd k, mLn k, upf (fun i => vI (σ k i)) j (vI x)) = hM (us σ k j x) h := by
  funext n
  by_cases e : n = (101, k, 0)
  · subst e
    rw [up_self, hM_a ha]
    congr 3
    funext i
    unfold upf us
    by_cases q : i = j
    · rw [if_pos q, if_pos ⟨rfl, q⟩]
    · rw [if_neg q, if_neg (fun z => q z.2)]
  · rw [up_ne e]
    unfold hM
    by_cases e1 : n = (100, 0, 0)
    · rw [if_pos e1, if_pos e1]
      congr 3
      funext q
      unfold mF
      by_cases z : mArr q = true
      · rw [if_pos z, if_pos z]
      · rw [if_neg z, if_neg z, us_k (fun w => z (by rw [w]; exact ha))]
    · rw [if_neg e1, if_neg e1]
      by_cases e2 : n.1 = 101 ∧ n.2.2 = 0 ∧ mArr n.2.1 = true
      · rw [if_pos e2, if_pos e2]
        have : n.2.1 ≠ k := fun w => e (by obtain ⟨a, b, c⟩ := n; obtain ⟨z1, z2, -⟩ := e2; simp at z1 z2 w; subst z1; subst z2; subst w; rfl)
        congr 3
        funext i
        rw [us_k this]
      · rw [if_neg e2, if_neg e2]
theorem hM_put {σ : Sg} {h : Hp} {k : Nat} {x : Int32} (ha : mArr k = false) : up (hM σ h) (100, 0, 0) (12, 0, upf (mF σ) k (vI x)) = hM (us σ k 0 x) h := by
  funext n
  by_cases e : n = (100, 0, 0)
  · subst e
    rw [up_self, hM_o]
    congr 3
    funext i
    unfold upf mF
    by_cases q : i = k
    · subst q
      rw [if_pos rfl, if_neg (by rw [ha]; decide), us_s]
    · rw [if_neg q, us_k q]
  · rw [up_ne e]
    unfold hM
    rw [if_neg e, if_neg e]
    by_cases e2 : n.1 = 101 ∧ n.2.2 = 0 ∧ mArr n.2.1 = true
    · rw [if_pos e2, if_pos e2]
      have : n.2.1 ≠ k := fun w => by rw [w, ha] at e2; cases e2.2.2
      congr 3
      funext i
      rw [us_k this]
    · rw [if_neg e2, if_neg e2]
/-- a contract with one answer and one heap -/
abbrev ConF (M : MD) (lvl : Nat) (as : List PV) (h : Hp) (v : Option PV) (h1 : Hp) : Prop := Con M lvl 0 0 as h (fun v' h' => v' = v ∧ h' = h1)
section MR
variable {M M' : MD} {lvl lvl' mc ms : Nat} {Q : Option PV → Hp → Prop} {pc pc' tgt : Nat} {lv : List (Option PV)} {st : List PV} {h h1 : Hp} {k n : Nat} {σ σ1 : Sg}
theorem s_top {x y : Int32} (e : x = y) (kk : S M lvl mc ms Q pc lv (vI y :: st) h k n) : S M lvl mc ms Q pc lv (vI x :: st) h k n := by rw [e]; exact kk
theorem s_iaddN {a b : Nat} (d : Dc M pc .iadd 1 pc') (kk : S M lvl mc ms Q pc' lv (vI (nI (a + b)) :: st) h k n) : S M lvl mc ms Q pc lv (vI (nI b) :: vI (nI a) :: st) h k n := s_iadd d (by rw [nI_add]; exact kk)
theorem s_imulN {a b : Nat} (d : Dc M pc .imul 1 pc') (kk : S M lvl mc ms Q pc' lv (vI (nI (a * b)) :: st) h k n) : S M lvl mc ms Q pc lv (vI (nI b) :: vI (nI a) :: st) h k n := s_imul d (by rw [pk_mul]; exact kk)
theorem s_isubN {a b : Nat} (d : Dc M pc .isub 1 pc') (hb : b ≤ a) (kk : S M lvl mc ms Q pc' lv (vI (nI (a - b)) :: st) h k n) : S M lvl mc ms Q pc lv (vI (nI b) :: vI (nI a) :: st) h k n := s_isub d (by rw [pk_sub hb]; exact kk)
theorem s_iincN {i a : Nat} (d : Dc M pc (.iinc i 1) 3 pc') (hl : lv[i]? = some (some (vI (nI a)))) (hi : Nat.blt i M.2.2.1 = true) (kk : S M lvl mc ms Q pc' (lset lv i (vI (nI (a + 1)))) st h k n) : S M lvl mc ms Q pc lv st h k n := s_iinc d hl hi (by rw [show Int32.ofInt 1 = (1 : Int32) by decide, nI_1]; exact kk)
theorem s_mgi {idx kf : Nat} (d : Dc M pc (.getfield idx) 3 pc') (G : GF M.1.cls idx 12 kf) (ha : mArr kf = false) (kk : S M lvl mc ms Q pc' lv (vI (σ kf 0) :: st) (hM σ h) k n) : S M lvl mc ms Q pc lv (vR (100, 0, 0) :: st) (hM σ h) k n := by
  refine s_get d G hM_o ?_
  unfold mF
  rw [if_neg (by rw [ha]; decide)]
  exact kk
theorem s_mga {idx kf : Nat} (d : Dc M pc (.getfield idx) 3 pc') (G : GF M.1.cls idx 12 kf) (ha : mArr kf = true) (kk : S M lvl mc ms Q pc' lv (vR (101, kf, 0) :: st) (hM σ h) k n) : S M lvl mc ms Q pc lv (vR (100, 0, 0) :: st) (hM σ h) k n := by
  refine s_get d G hM_o ?_
  unfold mF
  rw [if_pos ha]
  exact kk
theorem s_mpi {idx kf : Nat} {x : Int32} (d : Dc M pc (.putfield idx) 3 pc') (G : GF M.1.cls idx 12 kf) (ha : mArr kf = false) (hf : (cT 12 kf).2.2.2 = false) (hv : fitV (cY 12 kf) (vI x)) (kk : S M lvl mc ms Q pc' lv st (hM (us σ kf 0 x) h) k n) : S M lvl mc ms Q pc lv (vI x :: vR (100, 0, 0) :: st) (hM σ h) k n := by
  refine s_put d G hM_o rfl (Or.inl hf) hv ?_
  rw [hM_put ha]
  exact kk
theorem s_mald {kf j : Nat} (d : Dc M pc .iaload 1 pc') (ha : mArr kf = true) (hk : mKd kf = 20) (hj : j < mLn kf) (hb : Nat.ble (mLn kf) 1000 = true) (kk : S M lvl mc ms Q pc' lv (vI (σ kf j) :: st) (hM σ h) k n) : S M lvl mc ms Q pc lv (vI (nI j) :: vR (101, kf, 0) :: st) (hM σ h) k n := by
  have hb := Nat.le_of_ble_eq_true hb
  refine s_iald d (by rw [hM_a ha, hk]) (vp_in_nI hj (by omega)) ?_
  rw [nI_clamp (by omega)]
  exact kk
theorem s_mast {kf j : Nat} {x : Int32} (d : Dc M pc .iastore 1 pc') (ha : mArr kf = true) (hk : mKd kf = 20) (hj : j < mLn kf) (hb : Nat.ble (mLn kf) 1000 = true) (kk : S M lvl mc ms Q pc' lv st (hM (us σ kf j x) h) k n) : S M lvl mc ms Q pc lv (vI x :: vI (nI j) :: vR (101, kf, 0) :: st) (hM σ h) k n := by
  have hb := Nat.le_of_ble_eq_true hb
  refine s_iast d (by rw [hM_a ha, hk]) rfl (vp_in_nI hj (by omega)) ?_
  rw [nI_clamp (by omega), ← hk, hM_up ha]
  exact kk
theorem s_mzld {kf j : Nat} (d : Dc M pc .baload 1 pc') (ha : mArr kf = true) (hk : mKd kf = 21) (hj : j < mLn kf) (hb : Nat.ble (mLn kf) 1000 = true) (kk : S M lvl mc ms Q pc' lv (vI (σ kf j) :: st) (hM σ h) k n) : S M lvl mc ms Q pc lv (vI (nI j) :: vR (101, kf, 0) :: st) (hM σ h) k n := by
  have hb := Nat.le_of_ble_eq_true hb
  refine s_zald d (by rw [hM_a ha, hk]) (vp_in_nI hj (by omega)) ?_
  rw [nI_clamp (by omega)]
  exact kk
theorem s_mzst {kf j : Nat} {x : Int32} (d : Dc M pc .bastore 1 pc') (ha : mArr kf = true) (hk : mKd kf = 21) (hx : x = 0 ∨ x = 1) (hj : j < mLn kf) (hb : Nat.ble (mLn kf) 1000 = true) (kk : S M lvl mc ms Q pc' lv st (hM (us σ kf j x) h) k n) : S M lvl mc ms Q pc lv (vI x :: vI (nI j) :: vR (101, kf, 0) :: st) (hM σ h) k n := by
  have hb := Nat.le_of_ble_eq_true hb
  refine s_zast d (by rw [hM_a ha, hk]) rfl hx (vp_in_nI hj (by omega)) ?_
  rw [nI_clamp (by omega), ← hk, hM_up ha]
  exact kk
theorem s_v0 {idx ci len : Nat} {nm : Nm} {f : Nat → PV} {r : PV} (d : Dc M pc (.invokevirtual idx) 3 pc') (V : CV M.1.cls idx ci M' 0) (hc : h nm = some (ci, len, f)) (K : ConF M' lvl' (vR nm :: []) h (some r) h1) (hl : Nat.blt lvl' lvl = true) (hk : Nat.ble (k + 0) mc = true) (hn : Nat.ble (n + 0) ms = true) (h8 : rest8 st = true) (kk : S M lvl mc ms Q pc' lv (r :: st) h1 k n) : S M lvl mc ms Q pc lv (vR nm :: st) h k n :=
  s_callV (As := []) d V hc K hl hk hn h8 (fun v h' q => by obtain ⟨rfl, rfl⟩ := q; exact kk)
theorem s_t0 {idx : Nat} {r : PV} (d : Dc M pc (.invokestatic idx) 3 pc') (V : CS M.1.cls idx M' 0) (K : ConF M' lvl' [] h (some r) h1) (hl : Nat.blt lvl' lvl = true) (hk : Nat.ble (k + 0) mc = true) (hn : Nat.ble (n + 0) ms = true) (h8 : rest8 st = true) (kk : S M lvl mc ms Q pc' lv (r :: st) h1 k n) : S M lvl mc ms Q pc lv (st) h k n :=
  s_callS (As := []) d V K hl hk hn h8 (fun v h' q => by obtain ⟨rfl, rfl⟩ := q; exact kk)
theorem s_v0v {idx ci len : Nat} {nm : Nm} {f : Nat → PV} (d : Dc M pc (.invokevirtual idx) 3 pc') (V : CV M.1.cls idx ci M' 0) (hc : h nm = some (ci, len, f)) (K : ConF M' lvl' (vR nm :: []) h none h1) (hl : Nat.blt lvl' lvl = true) (hk : Nat.ble (k + 0) mc = true) (hn : Nat.ble (n + 0) ms = true) (h8 : rest8 st = true) (kk : S M lvl mc ms Q pc' lv st h1 k n) : S M lvl mc ms Q pc lv (vR nm :: st) h k n :=
  s_callV (As := []) d V hc K hl hk hn h8 (fun v h' q => by obtain ⟨rfl, rfl⟩ := q; exact kk)
theorem s_t0v {idx : Nat} (d : Dc M pc (.invokestatic idx) 3 pc') (V : CS M.1.cls idx M' 0) (K : ConF M' lvl' [] h none h1) (hl : Nat.blt lvl' lvl = true) (hk : Nat.ble (k + 0) mc = true) (hn : Nat.ble (n + 0) ms = true) (h8 : rest8 st = true) (kk : S M lvl mc ms Q pc' lv st h1 k n) : S M lvl mc ms Q pc lv (st) h k n :=
  s_callS (As := []) d V K hl hk hn h8 (fun v h' q => by obtain ⟨rfl, rfl⟩ := q; exact kk)
theorem s_v1 {idx ci len : Nat} {nm : Nm} {f : Nat → PV} {a0 : PV} {r : PV} (d : Dc M pc (.invokevirtual idx) 3 pc') (V : CV M.1.cls idx ci M' 1) (hc : h nm = some (ci, len, f)) (K : ConF M' lvl' (vR nm :: [a0]) h (some r) h1) (hl : Nat.blt lvl' lvl = true) (hk : Nat.ble (k + 0) mc = true) (hn : Nat.ble (n + 0) ms = true) (h8 : rest8 st = true) (kk : S M lvl mc ms Q pc' lv (r :: st) h1 k n) : S M lvl mc ms Q pc lv (a0 :: vR nm :: st) h k n :=
  s_callV (As := [a0]) d V hc K hl hk hn h8 (fun v h' q => by obtain ⟨rfl, rfl⟩ := q; exact kk)
theorem s_t1 {idx : Nat} {a0 : PV} {r : PV} (d : Dc M pc (.invokestatic idx) 3 pc') (V : CS M.1.cls idx M' 1) (K : ConF M' lvl' [a0] h (some r) h1) (hl : Nat.blt lvl' lvl = true) (hk : Nat.ble (k + 0) mc = true) (hn : Nat.ble (n + 0) ms = true) (h8 : rest8 st = true) (kk : S M lvl mc ms Q pc' lv (r :: st) h1 k n) : S M lvl mc ms Q pc lv (a0 :: st) h k n :=
  s_callS (As := [a0]) d V K hl hk hn h8 (fun v h' q => by obtain ⟨rfl, rfl⟩ := q; exact kk)
theorem s_v1v {idx ci len : Nat} {nm : Nm} {f : Nat → PV} {a0 : PV} (d : Dc M pc (.invokevirtual idx) 3 pc') (V : CV M.1.cls idx ci M' 1) (hc : h nm = some (ci, len, f)) (K : ConF M' lvl' (vR nm :: [a0]) h none h1) (hl : Nat.blt lvl' lvl = true) (hk : Nat.ble (k + 0) mc = true) (hn : Nat.ble (n + 0) ms = true) (h8 : rest8 st = true) (kk : S M lvl mc ms Q pc' lv st h1 k n) : S M lvl mc ms Q pc lv (a0 :: vR nm :: st) h k n :=
  s_callV (As := [a0]) d V hc K hl hk hn h8 (fun v h' q => by obtain ⟨rfl, rfl⟩ := q; exact kk)
theorem s_t1v {idx : Nat} {a0 : PV} (d : Dc M pc (.invokestatic idx) 3 pc') (V : CS M.1.cls idx M' 1) (K : ConF M' lvl' [a0] h none h1) (hl : Nat.blt lvl' lvl = true) (hk : Nat.ble (k + 0) mc = true) (hn : Nat.ble (n + 0) ms = true) (h8 : rest8 st = true) (kk : S M lvl mc ms Q pc' lv st h1 k n) : S M lvl mc ms Q pc lv (a0 :: st) h k n :=
  s_callS (As := [a0]) d V K hl hk hn h8 (fun v h' q => by obtain ⟨rfl, rfl⟩ := q; exact kk)
theorem s_v2 {idx ci len : Nat} {nm : Nm} {f : Nat → PV} {a0 a1 : PV} {r : PV} (d : Dc M pc (.invokevirtual idx) 3 pc') (V : CV M.1.cls idx ci M' 2) (hc : h nm = some (ci, len, f)) (K : ConF M' lvl' (vR nm :: [a0, a1]) h (some r) h1) (hl : Nat.blt lvl' lvl = true) (hk : Nat.ble (k + 0) mc = true) (hn : Nat.ble (n + 0) ms = true) (h8 : rest8 st = true) (kk : S M lvl mc ms Q pc' lv (r :: st) h1 k n) : S M lvl mc ms Q pc lv (a1 :: a0 :: vR nm :: st) h k n :=
  s_callV (As := [a0, a1]) d V hc K hl hk hn h8 (fun v h' q => by obtain ⟨rfl, rfl⟩ := q; exact kk)
theorem s_t2 {idx : Nat} {a0 a1 : PV} {r : PV} (d : Dc M pc (.invokestatic idx) 3 pc') (V : CS M.1.cls idx M' 2) (K : ConF M' lvl' [a0, a1] h (some r) h1) (hl : Nat.blt lvl' lvl = true) (hk : Nat.ble (k + 0) mc = true) (hn : Nat.ble (n + 0) ms = true) (h8 : rest8 st = true) (kk : S M lvl mc ms Q pc' lv (r :: st) h1 k n) : S M lvl mc ms Q pc lv (a1 :: a0 :: st) h k n :=
  s_callS (As := [a0, a1]) d V K hl hk hn h8 (fun v h' q => by obtain ⟨rfl, rfl⟩ := q; exact kk)
theorem s_v2v {idx ci len : Nat} {nm : Nm} {f : Nat → PV} {a0 a1 : PV} (d : Dc M pc (.invokevirtual idx) 3 pc') (V : CV M.1.cls idx ci M' 2) (hc : h nm = some (ci, len, f)) (K : ConF M' lvl' (vR nm :: [a0, a1]) h none h1) (hl : Nat.blt lvl' lvl = true) (hk : Nat.ble (k + 0) mc = true) (hn : Nat.ble (n + 0) ms = true) (h8 : rest8 st = true) (kk : S M lvl mc ms Q pc' lv st h1 k n) : S M lvl mc ms Q pc lv (a1 :: a0 :: vR nm :: st) h k n :=
  s_callV (As := [a0, a1]) d V hc K hl hk hn h8 (fun v h' q => by obtain ⟨rfl, rfl⟩ := q; exact kk)
theorem s_t2v {idx : Nat} {a0 a1 : PV} (d : Dc M pc (.invokestatic idx) 3 pc') (V : CS M.1.cls idx M' 2) (K : ConF M' lvl' [a0, a1] h none h1) (hl : Nat.blt lvl' lvl = true) (hk : Nat.ble (k + 0) mc = true) (hn : Nat.ble (n + 0) ms = true) (h8 : rest8 st = true) (kk : S M lvl mc ms Q pc' lv st h1 k n) : S M lvl mc ms Q pc lv (a1 :: a0 :: st) h k n :=
  s_callS (As := [a0, a1]) d V K hl hk hn h8 (fun v h' q => by obtain ⟨rfl, rfl⟩ := q; exact kk)
theorem s_v3 {idx ci len : Nat} {nm : Nm} {f : Nat → PV} {a0 a1 a2 : PV} {r : PV} (d : Dc M pc (.invokevirtual idx) 3 pc') (V : CV M.1.cls idx ci M' 3) (hc : h nm = some (ci, len, f)) (K : ConF M' lvl' (vR nm :: [a0, a1, a2]) h (some r) h1) (hl : Nat.blt lvl' lvl = true) (hk : Nat.ble (k + 0) mc = true) (hn : Nat.ble (n + 0) ms = true) (h8 : rest8 st = true) (kk : S M lvl mc ms Q pc' lv (r :: st) h1 k n) : S M lvl mc ms Q pc lv (a2 :: a1 :: a0 :: vR nm :: st) h k n :=
  s_callV (As := [a0, a1, a2]) d V hc K hl hk hn h8 (fun v h' q => by obtain ⟨rfl, rfl⟩ := q; exact kk)
theorem s_t3 {idx : Nat} {a0 a1 a2 : PV} {r : PV} (d : Dc M pc (.invokestatic idx) 3 pc') (V : CS M.1.cls idx M' 3) (K : ConF M' lvl' [a0, a1, a2] h (some r) h1) (hl : Nat.blt lvl' lvl = true) (hk : Nat.ble (k + 0) mc = true) (hn : Nat.ble (n + 0) ms = true) (h8 : rest8 st = true) (kk : S M lvl mc ms Q pc' lv (r :: st) h1 k n) : S M lvl mc ms Q pc lv (a2 :: a1 :: a0 :: st) h k n :=
  s_callS (As := [a0, a1, a2]) d V K hl hk hn h8 (fun v h' q => by obtain ⟨rfl, rfl⟩ := q; exact kk)
theorem s_v3v {idx ci len : Nat} {nm : Nm} {f : Nat → PV} {a0 a1 a2 : PV} (d : Dc M pc (.invokevirtual idx) 3 pc') (V : CV M.1.cls idx ci M' 3) (hc : h nm = some (ci, len, f)) (K : ConF M' lvl' (vR nm :: [a0, a1, a2]) h none h1) (hl : Nat.blt lvl' lvl = true) (hk : Nat.ble (k + 0) mc = true) (hn : Nat.ble (n + 0) ms = true) (h8 : rest8 st = true) (kk : S M lvl mc ms Q pc' lv st h1 k n) : S M lvl mc ms Q pc lv (a2 :: a1 :: a0 :: vR nm :: st) h k n :=
  s_callV (As := [a0, a1, a2]) d V hc K hl hk hn h8 (fun v h' q => by obtain ⟨rfl, rfl⟩ := q; exact kk)
theorem s_t3v {idx : Nat} {a0 a1 a2 : PV} (d : Dc M pc (.invokestatic idx) 3 pc') (V : CS M.1.cls idx M' 3) (K : ConF M' lvl' [a0, a1, a2] h none h1) (hl : Nat.blt lvl' lvl = true) (hk : Nat.ble (k + 0) mc = true) (hn : Nat.ble (n + 0) ms = true) (h8 : rest8 st = true) (kk : S M lvl mc ms Q pc' lv st h1 k n) : S M lvl mc ms Q pc lv (a2 :: a1 :: a0 :: st) h k n :=
  s_callS (As := [a0, a1, a2]) d V K hl hk hn h8 (fun v h' q => by obtain ⟨rfl, rfl⟩ := q; exact kk)
theorem s_v4 {idx ci len : Nat} {nm : Nm} {f : Nat → PV} {a0 a1 a2 a3 : PV} {r : PV} (d : Dc M pc (.invokevirtual idx) 3 pc') (V : CV M.1.cls idx ci M' 4) (hc : h nm = some (ci, len, f)) (K : ConF M' lvl' (vR nm :: [a0, a1, a2, a3]) h (some r) h1) (hl : Nat.blt lvl' lvl = true) (hk : Nat.ble (k + 0) mc = true) (hn : Nat.ble (n + 0) ms = true) (h8 : rest8 st = true) (kk : S M lvl mc ms Q pc' lv (r :: st) h1 k n) : S M lvl mc ms Q pc lv (a3 :: a2 :: a1 :: a0 :: vR nm :: st) h k n :=
  s_callV (As := [a0, a1, a2, a3]) d V hc K hl hk hn h8 (fun v h' q => by obtain ⟨rfl, rfl⟩ := q; exact kk)
theorem s_t4 {idx : Nat} {a0 a1 a2 a3 : PV} {r : PV} (d : Dc M pc (.invokestatic idx) 3 pc') (V : CS M.1.cls idx M' 4) (K : ConF M' lvl' [a0, a1, a2, a3] h (some r) h1) (hl : Nat.blt lvl' lvl = true) (hk : Nat.ble (k + 0) mc = true) (hn : Nat.ble (n + 0) ms = true) (h8 : rest8 st = true) (kk : S M lvl mc ms Q pc' lv (r :: st) h1 k n) : S M lvl mc ms Q pc lv (a3 :: a2 :: a1 :: a0 :: st) h k n :=
  s_callS (As := [a0, a1, a2, a3]) d V K hl hk hn h8 (fun v h' q => by obtain ⟨rfl, rfl⟩ := q; exact kk)
theorem s_v4v {idx ci len : Nat} {nm : Nm} {f : Nat → PV} {a0 a1 a2 a3 : PV} (d : Dc M pc (.invokevirtual idx) 3 pc') (V : CV M.1.cls idx ci M' 4) (hc : h nm = some (ci, len, f)) (K : ConF M' lvl' (vR nm :: [a0, a1, a2, a3]) h none h1) (hl : Nat.blt lvl' lvl = true) (hk : Nat.ble (k + 0) mc = true) (hn : Nat.ble (n + 0) ms = true) (h8 : rest8 st = true) (kk : S M lvl mc ms Q pc' lv st h1 k n) : S M lvl mc ms Q pc lv (a3 :: a2 :: a1 :: a0 :: vR nm :: st) h k n :=
  s_callV (As := [a0, a1, a2, a3]) d V hc K hl hk hn h8 (fun v h' q => by obtain ⟨rfl, rfl⟩ := q; exact kk)
theorem s_t4v {idx : Nat} {a0 a1 a2 a3 : PV} (d : Dc M pc (.invokestatic idx) 3 pc') (V : CS M.1.cls idx M' 4) (K : ConF M' lvl' [a0, a1, a2, a3] h none h1) (hl : Nat.blt lvl' lvl = true) (hk : Nat.ble (k + 0) mc = true) (hn : Nat.ble (n + 0) ms = true) (h8 : rest8 st = true) (kk : S M lvl mc ms Q pc' lv st h1 k n) : S M lvl mc ms Q pc lv (a3 :: a2 :: a1 :: a0 :: st) h k n :=
  s_callS (As := [a0, a1, a2, a3]) d V K hl hk hn h8 (fun v h' q => by obtain ⟨rfl, rfl⟩ := q; exact kk)
theorem s_v5 {idx ci len : Nat} {nm : Nm} {f : Nat → PV} {a0 a1 a2 a3 a4 : PV} {r : PV} (d : Dc M pc (.invokevirtual idx) 3 pc') (V : CV M.1.cls idx ci M' 5) (hc : h nm = some (ci, len, f)) (K : ConF M' lvl' (vR nm :: [a0, a1, a2, a3, a4]) h (some r) h1) (hl : Nat.blt lvl' lvl = true) (hk : Nat.ble (k + 0) mc = true) (hn : Nat.ble (n + 0) ms = true) (h8 : rest8 st = true) (kk : S M lvl mc ms Q pc' lv (r :: st) h1 k n) : S M lvl mc ms Q pc lv (a4 :: a3 :: a2 :: a1 :: a0 :: vR nm :: st) h k n :=
  s_callV (As := [a0, a1, a2, a3, a4]) d V hc K hl hk hn h8 (fun v h' q => by obtain ⟨rfl, rfl⟩ := q; exact kk)
theorem s_t5 {idx : Nat} {a0 a1 a2 a3 a4 : PV} {r : PV} (d : Dc M pc (.invokestatic idx) 3 pc') (V : CS M.1.cls idx M' 5) (K : ConF M' lvl' [a0, a1, a2, a3, a4] h (some r) h1) (hl : Nat.blt lvl' lvl = true) (hk : Nat.ble (k + 0) mc = true) (hn : Nat.ble (n + 0) ms = true) (h8 : rest8 st = true) (kk : S M lvl mc ms Q pc' lv (r :: st) h1 k n) : S M lvl mc ms Q pc lv (a4 :: a3 :: a2 :: a1 :: a0 :: st) h k n :=
  s_callS (As := [a0, a1, a2, a3, a4]) d V K hl hk hn h8 (fun v h' q => by obtain ⟨rfl, rfl⟩ := q; exact kk)
theorem s_v5v {idx ci len : Nat} {nm : Nm} {f : Nat → PV} {a0 a1 a2 a3 a4 : PV} (d : Dc M pc (.invokevirtual idx) 3 pc') (V : CV M.1.cls idx ci M' 5) (hc : h nm = some (ci, len, f)) (K : ConF M' lvl' (vR nm :: [a0, a1, a2, a3, a4]) h none h1) (hl : Nat.blt lvl' lvl = true) (hk : Nat.ble (k + 0) mc = true) (hn : Nat.ble (n + 0) ms = true) (h8 : rest8 st = true) (kk : S M lvl mc ms Q pc' lv st h1 k n) : S M lvl mc ms Q pc lv (a4 :: a3 :: a2 :: a1 :: a0 :: vR nm :: st) h k n :=
  s_callV (As := [a0, a1, a2, a3, a4]) d V hc K hl hk hn h8 (fun v h' q => by obtain ⟨rfl, rfl⟩ := q; exact kk)
theorem s_t5v {idx : Nat} {a0 a1 a2 a3 a4 : PV} (d : Dc M pc (.invokestatic idx) 3 pc') (V : CS M.1.cls idx M' 5) (K : ConF M' lvl' [a0, a1, a2, a3, a4] h none h1) (hl : Nat.blt lvl' lvl = true) (hk : Nat.ble (k + 0) mc = true) (hn : Nat.ble (n + 0) ms = true) (h8 : rest8 st = true) (kk : S M lvl mc ms Q pc' lv st h1 k n) : S M lvl mc ms Q pc lv (a4 :: a3 :: a2 :: a1 :: a0 :: st) h k n :=
  s_callS (As := [a0, a1, a2, a3, a4]) d V K hl hk hn h8 (fun v h' q => by obtain ⟨rfl, rfl⟩ := q; exact kk)
theorem s_v6 {idx ci len : Nat} {nm : Nm} {f : Nat → PV} {a0 a1 a2 a3 a4 a5 : PV} {r : PV} (d : Dc M pc (.invokevirtual idx) 3 pc') (V : CV M.1.cls idx ci M' 6) (hc : h nm = some (ci, len, f)) (K : ConF M' lvl' (vR nm :: [a0, a1, a2, a3, a4, a5]) h (some r) h1) (hl : Nat.blt lvl' lvl = true) (hk : Nat.ble (k + 0) mc = true) (hn : Nat.ble (n + 0) ms = true) (h8 : rest8 st = true) (kk : S M lvl mc ms Q pc' lv (r :: st) h1 k n) : S M lvl mc ms Q pc lv (a5 :: a4 :: a3 :: a2 :: a1 :: a0 :: vR nm :: st) h k n :=
  s_callV (As := [a0, a1, a2, a3, a4, a5]) d V hc K hl hk hn h8 (fun v h' q => by obtain ⟨rfl, rfl⟩ := q; exact kk)
theorem s_t6 {idx : Nat} {a0 a1 a2 a3 a4 a5 : PV} {r : PV} (d : Dc M pc (.invokestatic idx) 3 pc') (V : CS M.1.cls idx M' 6) (K : ConF M' lvl' [a0, a1, a2, a3, a4, a5] h (some r) h1) (hl : Nat.blt lvl' lvl = true) (hk : Nat.ble (k + 0) mc = true) (hn : Nat.ble (n + 0) ms = true) (h8 : rest8 st = true) (kk : S M lvl mc ms Q pc' lv (r :: st) h1 k n) : S M lvl mc ms Q pc lv (a5 :: a4 :: a3 :: a2 :: a1 :: a0 :: st) h k n :=
  s_callS (As := [a0, a1, a2, a3, a4, a5]) d V K hl hk hn h8 (fun v h' q => by obtain ⟨rfl, rfl⟩ := q; exact kk)
theorem s_v6v {idx ci len : Nat} {nm : Nm} {f : Nat → PV} {a0 a1 a2 a3 a4 a5 : PV} (d : Dc M pc (.invokevirtual idx) 3 pc') (V : CV M.1.cls idx ci M' 6) (hc : h nm = some (ci, len, f)) (K : ConF M' lvl' (vR nm :: [a0, a1, a2, a3, a4, a5]) h none h1) (hl : Nat.blt lvl' lvl = true) (hk : Nat.ble (k + 0) mc = true) (hn : Nat.ble (n + 0) ms = true) (h8 : rest8 st = true) (kk : S M lvl mc ms Q pc' lv st h1 k n) : S M lvl mc ms Q pc lv (a5 :: a4 :: a3 :: a2 :: a1 :: a0 :: vR nm :: st) h k n :=
  s_callV (As := [a0, a1, a2, a3, a4, a5]) d V hc K hl hk hn h8 (fun v h' q => by obtain ⟨rfl, rfl⟩ := q; exact kk)
theorem s_t6v {idx : Nat} {a0 a1 a2 a3 a4 a5 : PV} (d : Dc M pc (.invokestatic idx) 3 pc') (V : CS M.1.cls idx M' 6) (K : ConF M' lvl' [a0, a1, a2, a3, a4, a5] h none h1) (hl : Nat.blt lvl' lvl = true) (hk : Nat.ble (k + 0) mc = true) (hn : Nat.ble (n + 0) ms = true) (h8 : rest8 st = true) (kk : S M lvl mc ms Q pc' lv st h1 k n) : S M lvl mc ms Q pc lv (a5 :: a4 :: a3 :: a2 :: a1 :: a0 :: st) h k n :=
  s_callS (As := [a0, a1, a2, a3, a4, a5]) d V K hl hk hn h8 (fun v h' q => by obtain ⟨rfl, rfl⟩ := q; exact kk)
end MR
end
section
/-- a number among 0 .. K-1, as one -/
def ix (p : Int32) (K : Nat) : Option Nat := if 0 ≤ p ∧ p < nI K then some p.toNatClampNeg else none
theorem ix_nI {j K : Nat} (h : j < K) (hK : K < 2 ^ 30) : ix (nI j) K = some j := by
  unfold ix
  rw [if_pos ⟨nI_pos' (by omega), nI_lt h (by omega)⟩, nI_clamp (by omega)]
theorem ix_cases (p : Int32) {K : Nat} (hK : K < 2 ^ 30) : (ix p K = none ∧ ¬ (0 ≤ p ∧ p < nI K) ∧ ¬ (0 ≤ p ∧ p ≤ nI K - 1)) ∨ ∃ j, j < K ∧ p = nI j ∧ ix p K = some j := by
  rcases pk_ix p (n := K) (by omega) with h | h | ⟨j, hj, rfl⟩
  · have h0 : ¬ 0 ≤ p := Int32.not_le.mpr h
    exact Or.inl ⟨if_neg fun q => h0 q.1, fun q => h0 q.1, fun q => h0 q.1⟩
  · refine Or.inl ⟨if_neg fun q => ?_, fun q => ?_, fun q => ?_⟩
    · exact absurd q.2 (Int32.not_lt.mpr h)
    · exact absurd q.2 (Int32.not_lt.mpr h)
    · obtain ⟨q1, q2⟩ := q
      rw [Int32.le_iff_toInt_le] at h q2
      have e1 : (nI K).toInt = (K : Int) := nI_toInt (by omega)
      have e2 : (nI K - 1).toInt = (K : Int) - 1 := by
        have := pk_sub_toInt (a := K) (b := 1) hK (by omega)
        rw [show nI 1 = (1 : Int32) by decide] at this
        exact this
      omega
  · exact Or.inr ⟨j, hj, rfl, ix_nI hj hK⟩
theorem in_ok {j K : Nat} (h : j < K) (hK : K < 2 ^ 30) : (0 : Int32) ≤ nI j ∧ nI j ≤ nI K - 1 := by
  refine ⟨nI_pos' (by omega), ?_⟩
  rw [show (1 : Int32) = nI 1 by decide, pk_sub (show 1 ≤ K by omega)]
  exact nI_le (by omega) (by omega)
theorem le_ok {a b : Nat} (h : a ≤ b) (hb : b < 2 ^ 30) : nI a ≤ nI b := nI_le h (by omega)
theorem c_isIn {v a b r : Int32} {h : Hp} (hr : (r = 1 ∧ a ≤ v ∧ v ≤ b) ∨ (r = 0 ∧ ¬ (a ≤ v ∧ v ≤ b))) : ConF mM_isIn 0 [vI v, vI a, vI b] h (some (vI r)) h := by
  refine c_enter (by decide +kernel) rfl rfl ?_
  refine s_iload_n dM_isIn_0 rfl rfl ?_
  refine s_iload_n dM_isIn_1 rfl rfl ?_
  rcases hr with ⟨rfl, h1, h2⟩ | ⟨rfl, h1⟩
  · refine s_icmp_lt dM_isIn_2 (fun q => absurd q (Int32.not_lt.mpr h1)) (fun _ => ?_)
    refine s_iload_n dM_isIn_5 rfl rfl ?_
    refine s_iload_n dM_isIn_6 rfl rfl ?_
    refine s_icmp_gt dM_isIn_7 (fun q => absurd q (Int32.not_lt.mpr h2)) (fun _ => ?_)
    refine s_iconst (v := 1) dM_isIn_10 (by decide) ?_
    refine s_goto dM_isIn_11 ?_
    refine s_zret dM_isIn_15 rfl (by first | exact Or.inl rfl | exact Or.inr rfl | assumption) (by first | exact Nat.le_refl _ | decide | omega) (by first | exact Nat.le_refl _ | decide | omega) ?_
    exact ⟨rfl, rfl⟩
  · by_cases h2 : v < a
    · refine s_icmp_lt dM_isIn_2 (fun _ => ?_) (fun q => absurd h2 q)
      refine s_iconst (v := 0) dM_isIn_14 (by decide) ?_
      refine s_zret dM_isIn_15 rfl (by first | exact Or.inl rfl | exact Or.inr rfl | assumption) (by first | exact Nat.le_refl _ | decide | omega) (by first | exact Nat.le_refl _ | decide | omega) ?_
      exact ⟨rfl, rfl⟩
    · refine s_icmp_lt dM_isIn_2 (fun q => absurd q h2) (fun _ => ?_)
      refine s_iload_n dM_isIn_5 rfl rfl ?_
      refine s_iload_n dM_isIn_6 rfl rfl ?_
      refine s_icmp_gt dM_isIn_7 (fun _ => ?_) (fun q => absurd (Int32.not_le.mp fun q => h1 ⟨Int32.not_lt.mp h2, q⟩) q)
      refine s_iconst (v := 0) dM_isIn_14 (by decide) ?_
      refine s_zret dM_isIn_15 rfl (by first | exact Or.inl rfl | exact Or.inr rfl | assumption) (by first | exact Nat.le_refl _ | decide | omega) (by first | exact Nat.le_refl _ | decide | omega) ?_
      exact ⟨rfl, rfl⟩
end
section
/-! the reference's simple methods -/
theorem nI_ne {a b : Nat} (h : a ≠ b) (ha : a < 2 ^ 30) (hb : b < 2 ^ 30) : ¬ nI a = nI b := fun q => h ((nI_eq (by omega) (by omega)).mp q)
theorem nI_sub1 {a : Nat} (h : 1 ≤ a) : nI a - 1 = nI (a - 1) := by rw [show (1 : Int32) = nI 1 by decide, pk_sub h]
/-- isIn of a counted thing -/
theorem c_isInK {p : Int32} {K : Nat} {h : Hp} (hK : K < 2 ^ 30) (o : Option Nat) (ho : ix p K = o) : ConF mM_isIn 0 [vI p, vI 0, vI (nI K - 1)] h (some (vI (if o.isSome then 1 else 0))) h := by
  subst ho
  rcases ix_cases p hK with ⟨e, -, hn⟩ | ⟨j, hj, rfl, e⟩
  · rw [e]; exact c_isIn (Or.inr ⟨rfl, hn⟩)
  · rw [e]; exact c_isIn (Or.inl ⟨rfl, in_ok hj hK⟩)
theorem c_in1 {p a : Int32} {K j : Nat} {h : Hp} (hK : K < 2 ^ 30) (hj : j < K) (hp : p = nI j := by rfl) (ha : a = nI K - 1 := by first | rfl | exact (nI_sub1 (by omega)).symm) : ConF mM_isIn 0 [vI p, vI 0, vI a] h (some (vI 1)) h := by
  subst hp; subst ha; exact c_isIn (Or.inl ⟨rfl, in_ok hj hK⟩)
theorem c_in0 {p a : Int32} {K : Nat} {h : Hp} (hn : ¬ (0 ≤ p ∧ p ≤ nI K - 1)) (ha : a = nI K - 1 := by first | rfl | exact (nI_sub1 (by omega)).symm) : ConF mM_isIn 0 [vI p, vI 0, vI a] h (some (vI 0)) h := by
  subst ha; exact c_isIn (Or.inr ⟨rfl, hn⟩)
def fKind (σ : Sg) (p : Int32) (K : Nat) : Int32 × Sg := match ix p K with
  | none => (-1, σ)
  | some _ => if K = 20 then (-3, σ) else (nI K, us (us σ 1 K p) 0 0 (nI (K + 1)))
theorem c_M_kind {σ : Sg} {h : Hp} {K : Nat} (p : Int32) (hK : σ 0 0 = nI K) (h1 : 1 ≤ K) (h2 : K ≤ 20) : ConF mM_kind 1 [vR (100, 0, 0), vI p] (hM σ h) (some (vI (fKind σ p K).1)) (hM (fKind σ p K).2 h) := by
  unfold fKind
  refine c_enter (by decide +kernel) rfl rfl ?_
  rcases ix_cases p (K := K) (by omega) with ⟨e, -, hn⟩ | ⟨j, hj, rfl, e⟩
  · rw [e]
    refine s_iload_n dM_kind_0 rfl rfl ?_
    refine s_iconst (v := 0) dM_kind_1 (by decide) ?_
    refine s_aload_n dM_kind_2 rfl rfl ?_
    refine s_mgi dM_kind_3 gf_M_110 rfl ?_
    refine s_top hK ?_
    refine s_iconst (v := 1) dM_kind_6 (by decide) ?_
    first | refine s_isubN dM_kind_7 (by omega) ?_ | refine s_isub dM_kind_7 ?_
    refine s_t3 dM_kind_8 cs_M_117 (c_in0 hn) rfl rfl rfl rfl ?_
    refine s_if_ne dM_kind_11 (fun q => absurd (by decide) q) (fun _ => ?_)
    refine s_iconst (v := (-1)) dM_kind_14 (by decide) ?_
    refine s_iret dM_kind_15 rfl (by first | exact Nat.le_refl _ | decide | omega) (by first | exact Nat.le_refl _ | decide | omega) ?_
    exact ⟨rfl, rfl⟩
  · rw [e]
    by_cases h20 : K = 20
    · subst h20
      refine s_iload_n dM_kind_0 rfl rfl ?_
      refine s_iconst (v := 0) dM_kind_1 (by decide) ?_
      refine s_aload_n dM_kind_2 rfl rfl ?_
      refine s_mgi dM_kind_3 gf_M_110 rfl ?_
      refine s_top hK ?_
      refine s_iconst (v := 1) dM_kind_6 (by decide) ?_
      first | refine s_isubN dM_kind_7 (by omega) ?_ | refine s_isub dM_kind_7 ?_
      refine s_t3 dM_kind_8 cs_M_117 (c_in1 (by omega) hj) rfl rfl rfl rfl ?_
      refine s_if_ne dM_kind_11 (fun _ => ?_) (fun q => absurd q (by decide))
      refine s_aload_n dM_kind_16 rfl rfl ?_
      refine s_mgi dM_kind_17 gf_M_110 rfl ?_
      refine s_top hK ?_
      refine s_bipush (v := nI 20) dM_kind_20 (by decide) ?_
      refine s_icmp_ne dM_kind_22 (fun q => absurd rfl q) (fun _ => ?_)
      refine s_bipush (v := (-3)) dM_kind_25 (by decide) ?_
      refine s_iret dM_kind_27 rfl (by first | exact Nat.le_refl _ | decide | omega) (by first | exact Nat.le_refl _ | decide | omega) ?_
      exact ⟨rfl, rfl⟩
    · refine s_iload_n dM_kind_0 rfl rfl ?_
      refine s_iconst (v := 0) dM_kind_1 (by decide) ?_
      refine s_aload_n dM_kind_2 rfl rfl ?_
      refine s_mgi dM_kind_3 gf_M_110 rfl ?_
      refine s_top hK ?_
      refine s_iconst (v := 1) dM_kind_6 (by decide) ?_
      first | refine s_isubN dM_kind_7 (by omega) ?_ | refine s_isub dM_kind_7 ?_
      refine s_t3 dM_kind_8 cs_M_117 (c_in1 (by omega) hj) rfl rfl rfl rfl ?_
      refine s_if_ne dM_kind_11 (fun _ => ?_) (fun q => absurd q (by decide))
      refine s_aload_n dM_kind_16 rfl rfl ?_
      refine s_mgi dM_kind_17 gf_M_110 rfl ?_
      refine s_top hK ?_
      refine s_bipush (v := nI 20) dM_kind_20 (by decide) ?_
      refine s_icmp_ne dM_kind_22 (fun _ => ?_) (fun q => absurd q (nI_ne h20 (by omega) (by omega)))
      refine s_aload_n dM_kind_28 rfl rfl ?_
      refine s_mga dM_kind_29 gf_M_7 rfl ?_
      refine s_aload_n dM_kind_32 rfl rfl ?_
      refine s_mgi dM_kind_33 gf_M_110 rfl ?_
      refine s_top hK ?_
      refine s_iload_n dM_kind_36 rfl rfl ?_
      refine s_mast dM_kind_37 rfl rfl (show _ < 20 by omega) rfl ?_
      refine s_aload_n dM_kind_38 rfl rfl ?_
      refine s_dup dM_kind_39 rfl ?_
      refine s_mgi dM_kind_40 gf_M_110 rfl ?_
      refine s_top hK ?_
      refine s_iconst (v := 1) dM_kind_43 (by decide) ?_
      first | refine s_iaddN dM_kind_44 ?_ | refine s_iadd dM_kind_44 ?_
      refine s_mpi dM_kind_45 gf_M_110 rfl rfl (by first | exact ⟨_, rfl⟩ | exact Or.inl rfl | exact Or.inr rfl) ?_
      refine s_aload_n dM_kind_48 rfl rfl ?_
      refine s_mgi dM_kind_49 gf_M_110 rfl ?_
      refine s_top (show _ = nI (K + 1) from rfl) ?_
      refine s_iconst (v := 1) dM_kind_52 (by decide) ?_
      first | refine s_isubN dM_kind_53 (by omega) ?_ | refine s_isub dM_kind_53 ?_
      refine s_iret dM_kind_54 rfl (by first | exact Nat.le_refl _ | decide | omega) (by first | exact Nat.le_refl _ | decide | omega) ?_
      rw [if_neg h20]
      exact ⟨by first | rfl | rw [nI_pred], rfl⟩

def Iz (r p : Int32) (K : Nat) : Prop := (r = 1 ∧ ∃ j, j < K ∧ p = nI j) ∨ (r = 0 ∧ ¬ (0 ≤ p ∧ p ≤ nI K - 1))
theorem Iz1 {j K : Nat} (h : j < K) : Iz 1 (nI j) K := Or.inl ⟨rfl, j, h, rfl⟩
theorem Iz0 {p : Int32} {K : Nat} (h : ¬ (0 ≤ p ∧ p ≤ nI K - 1)) : Iz 0 p K := Or.inr ⟨rfl, h⟩
theorem c_inZ {r p a : Int32} {K : Nat} {h : Hp} (hK : K < 2 ^ 30) (hz : Iz r p K) (ha : a = nI K - 1 := by first | rfl | exact (nI_sub1 (by omega)).symm) : ConF mM_isIn 0 [vI p, vI 0, vI a] h (some (vI r)) h := by
  rcases hz with ⟨rfl, j, hj, rfl⟩ | ⟨rfl, hn⟩
  · exact c_in1 hK hj rfl ha
  · exact c_in0 hn ha
theorem Iz.b {r p : Int32} {K : Nat} (h : Iz r p K) : r = 0 ∨ r = 1 := by rcases h with ⟨h, -⟩ | ⟨h, -⟩ <;> simp [h]
/-- the cases of an argument that counts -/
theorem iz_cases (p : Int32) {K : Nat} (hK : K < 2 ^ 30) : (ix p K = none ∧ Iz 0 p K) ∨ ∃ j, j < K ∧ p = nI j ∧ ix p K = some j := by
  rcases ix_cases p hK with ⟨e, -, hn⟩ | q
  · exact Or.inl ⟨e, Iz0 hn⟩
  · exact Or.inr q

theorem c_M_isSubject {σ : Sg} {h : Hp} {N : Nat} {r p : Int32} (hN : σ 2 0 = nI N) (h1 : N < 2 ^ 30) (hz : Iz r p N) : ConF mM_isSubject 1 [vR (100, 0, 0), vI p] (hM σ h) (some (vI r)) (hM σ h) := by
  have hr := hz.b
  refine c_enter (by decide +kernel) rfl rfl ?_
  refine s_iload_n dM_isSubject_0 rfl rfl ?_
  refine s_iconst (v := 0) dM_isSubject_1 (by decide) ?_
  refine s_aload_n dM_isSubject_2 rfl rfl ?_
  refine s_mgi dM_isSubject_3 gf_M_125 rfl ?_
  refine s_top hN ?_
  refine s_iconst (v := 1) dM_isSubject_6 (by decide) ?_
  first | refine s_isubN dM_isSubject_7 (by omega) ?_ | refine s_isub dM_isSubject_7 ?_
  refine s_t3 dM_isSubject_8 cs_M_117 (c_inZ h1 hz) rfl rfl rfl rfl ?_
  refine s_zret dM_isSubject_11 rfl (by first | exact Or.inl rfl | exact Or.inr rfl | assumption) (by first | exact Nat.le_refl _ | decide | omega) (by first | exact Nat.le_refl _ | decide | omega) ?_
  exact ⟨rfl, rfl⟩

theorem c_M_isBook {σ : Sg} {h : Hp} {N : Nat} {r p : Int32} (hN : σ 5 0 = nI N) (h1 : N < 2 ^ 30) (hz : Iz r p N) : ConF mM_isBook 1 [vR (100, 0, 0), vI p] (hM σ h) (some (vI r)) (hM σ h) := by
  have hr := hz.b
  refine c_enter (by decide +kernel) rfl rfl ?_
  refine s_iload_n dM_isBook_0 rfl rfl ?_
  refine s_iconst (v := 0) dM_isBook_1 (by decide) ?_
  refine s_aload_n dM_isBook_2 rfl rfl ?_
  refine s_mgi dM_isBook_3 gf_M_132 rfl ?_
  refine s_top hN ?_
  refine s_iconst (v := 1) dM_isBook_6 (by decide) ?_
  first | refine s_isubN dM_isBook_7 (by omega) ?_ | refine s_isub dM_isBook_7 ?_
  refine s_t3 dM_isBook_8 cs_M_117 (c_inZ h1 hz) rfl rfl rfl rfl ?_
  refine s_zret dM_isBook_11 rfl (by first | exact Or.inl rfl | exact Or.inr rfl | assumption) (by first | exact Nat.le_refl _ | decide | omega) (by first | exact Nat.le_refl _ | decide | omega) ?_
  exact ⟨rfl, rfl⟩

theorem c_M_isRule {σ : Sg} {h : Hp} {N : Nat} {r p : Int32} (hN : σ 8 0 = nI N) (h1 : N < 2 ^ 30) (hz : Iz r p N) : ConF mM_isRule 1 [vR (100, 0, 0), vI p] (hM σ h) (some (vI r)) (hM σ h) := by
  have hr := hz.b
  refine c_enter (by decide +kernel) rfl rfl ?_
  refine s_iload_n dM_isRule_0 rfl rfl ?_
  refine s_iconst (v := 0) dM_isRule_1 (by decide) ?_
  refine s_aload_n dM_isRule_2 rfl rfl ?_
  refine s_mgi dM_isRule_3 gf_M_138 rfl ?_
  refine s_top hN ?_
  refine s_iconst (v := 1) dM_isRule_6 (by decide) ?_
  first | refine s_isubN dM_isRule_7 (by omega) ?_ | refine s_isub dM_isRule_7 ?_
  refine s_t3 dM_isRule_8 cs_M_117 (c_inZ h1 hz) rfl rfl rfl rfl ?_
  refine s_zret dM_isRule_11 rfl (by first | exact Or.inl rfl | exact Or.inr rfl | assumption) (by first | exact Nat.le_refl _ | decide | omega) (by first | exact Nat.le_refl _ | decide | omega) ?_
  exact ⟨rfl, rfl⟩

def fSubject (σ : Sg) (p : Int32) (K N : Nat) : Int32 × Sg := match ix p K with
  | none => (-1, σ)
  | some _ => if N = 20 then (-3, σ) else (nI N, us (us σ 3 N p) 2 0 (nI (N + 1)))
theorem c_M_subject {σ : Sg} {h : Hp} {K N : Nat} (p : Int32) (hK : σ 0 0 = nI K) (h2 : K ≤ 20) (hN : σ 2 0 = nI N) (h3 : N ≤ 20) : ConF mM_subject 1 [vR (100, 0, 0), vI p] (hM σ h) (some (vI (fSubject σ p K N).1)) (hM (fSubject σ p K N).2 h) := by
  unfold fSubject
  refine c_enter (by decide +kernel) rfl rfl ?_
  rcases iz_cases p (K := K) (by omega) with ⟨e, hz⟩ | ⟨j, hj, rfl, e⟩
  · rw [e]
    refine s_iload_n dM_subject_0 rfl rfl ?_
    refine s_iconst (v := 0) dM_subject_1 (by decide) ?_
    refine s_aload_n dM_subject_2 rfl rfl ?_
    refine s_mgi dM_subject_3 gf_M_110 rfl ?_
    refine s_top hK ?_
    refine s_iconst (v := 1) dM_subject_6 (by decide) ?_
    first | refine s_isubN dM_subject_7 (by omega) ?_ | refine s_isub dM_subject_7 ?_
    refine s_t3 dM_subject_8 cs_M_117 (c_inZ (by omega) hz) rfl rfl rfl rfl ?_
    refine s_if_ne dM_subject_11 (fun q => absurd (by decide) q) (fun _ => ?_)
    refine s_iconst (v := (-1)) dM_subject_14 (by decide) ?_
    refine s_iret dM_subject_15 rfl (by first | exact Nat.le_refl _ | decide | omega) (by first | exact Nat.le_refl _ | decide | omega) ?_
    exact ⟨rfl, rfl⟩
  · rw [e]
    by_cases h20 : N = 20
    · subst h20
      refine s_iload_n dM_subject_0 rfl rfl ?_
      refine s_iconst (v := 0) dM_subject_1 (by decide) ?_
      refine s_aload_n dM_subject_2 rfl rfl ?_
      refine s_mgi dM_subject_3 gf_M_110 rfl ?_
      refine s_top hK ?_
      refine s_iconst (v := 1) dM_subject_6 (by decide) ?_
      first | refine s_isubN dM_subject_7 (by omega) ?_ | refine s_isub dM_subject_7 ?_
      refine s_t3 dM_subject_8 cs_M_117 (c_inZ (K := K) (by omega) (Iz1 hj)) rfl rfl rfl rfl ?_
      refine s_if_ne dM_subject_11 (fun _ => ?_) (fun q => absurd q (by decide))
      refine s_aload_n dM_subject_16 rfl rfl ?_
      refine s_mgi dM_subject_17 gf_M_125 rfl ?_
      refine s_top hN ?_
      refine s_bipush (v := nI 20) dM_subject_20 (by decide) ?_
      refine s_icmp_ne dM_subject_22 (fun q => absurd rfl q) (fun _ => ?_)
      refine s_bipush (v := (-3)) dM_subject_25 (by decide) ?_
      refine s_iret dM_subject_27 rfl (by first | exact Nat.le_refl _ | decide | omega) (by first | exact Nat.le_refl _ | decide | omega) ?_
      exact ⟨rfl, rfl⟩
    · refine s_iload_n dM_subject_0 rfl rfl ?_
      refine s_iconst (v := 0) dM_subject_1 (by decide) ?_
      refine s_aload_n dM_subject_2 rfl rfl ?_
      refine s_mgi dM_subject_3 gf_M_110 rfl ?_
      refine s_top hK ?_
      refine s_iconst (v := 1) dM_subject_6 (by decide) ?_
      first | refine s_isubN dM_subject_7 (by omega) ?_ | refine s_isub dM_subject_7 ?_
      refine s_t3 dM_subject_8 cs_M_117 (c_inZ (K := K) (by omega) (Iz1 hj)) rfl rfl rfl rfl ?_
      refine s_if_ne dM_subject_11 (fun _ => ?_) (fun q => absurd q (by decide))
      refine s_aload_n dM_subject_16 rfl rfl ?_
      refine s_mgi dM_subject_17 gf_M_125 rfl ?_
      refine s_top hN ?_
      refine s_bipush (v := nI 20) dM_subject_20 (by decide) ?_
      refine s_icmp_ne dM_subject_22 (fun _ => ?_) (fun q => absurd q (nI_ne h20 (by omega) (by omega)))
      refine s_aload_n dM_subject_28 rfl rfl ?_
      refine s_mga dM_subject_29 gf_M_13 rfl ?_
      refine s_aload_n dM_subject_32 rfl rfl ?_
      refine s_mgi dM_subject_33 gf_M_125 rfl ?_
      refine s_top hN ?_
      refine s_iload_n dM_subject_36 rfl rfl ?_
      refine s_mast dM_subject_37 rfl rfl (show _ < 20 by omega) rfl ?_
      refine s_aload_n dM_subject_38 rfl rfl ?_
      refine s_dup dM_subject_39 rfl ?_
      refine s_mgi dM_subject_40 gf_M_125 rfl ?_
      refine s_top hN ?_
      refine s_iconst (v := 1) dM_subject_43 (by decide) ?_
      first | refine s_iaddN dM_subject_44 ?_ | refine s_iadd dM_subject_44 ?_
      refine s_mpi dM_subject_45 gf_M_125 rfl rfl (by first | exact ⟨_, rfl⟩ | exact Or.inl rfl | exact Or.inr rfl) ?_
      refine s_aload_n dM_subject_48 rfl rfl ?_
      refine s_mgi dM_subject_49 gf_M_125 rfl ?_
      refine s_top (show _ = nI (N + 1) from rfl) ?_
      refine s_iconst (v := 1) dM_subject_52 (by decide) ?_
      first | refine s_isubN dM_subject_53 (by omega) ?_ | refine s_isub dM_subject_53 ?_
      refine s_iret dM_subject_54 rfl (by first | exact Nat.le_refl _ | decide | omega) (by first | exact Nat.le_refl _ | decide | omega) ?_
      rw [if_neg h20]
      exact ⟨by first | rfl | rw [nI_pred], rfl⟩
def fSet (σ : Sg) (p x v : Int32) (N : Nat) : Int32 × Sg := match ix p N, ix x 4 with
  | some j, some i => (σ 4 (4 * j + i), us σ 4 (4 * j + i) v)
  | _, _ => (-1, σ)
theorem c_M_set {σ : Sg} {h : Hp} {N : Nat} (p x v : Int32) (hN : σ 2 0 = nI N) (h3 : N ≤ 20) : ConF mM_set 2 [vR (100, 0, 0), vI p, vI x, vI v] (hM σ h) (some (vI (fSet σ p x v N).1)) (hM (fSet σ p x v N).2 h) := by
  unfold fSet
  refine c_enter (by decide +kernel) rfl rfl ?_
  rcases iz_cases p (K := N) (by omega) with ⟨e, hz⟩ | ⟨j, hj, rfl, e⟩
  · rw [e]
    refine s_aload_n dM_set_0 rfl rfl ?_
    refine s_iload_n dM_set_1 rfl rfl ?_
    refine s_v1 dM_set_2 cv_M_128 hM_o (c_M_isSubject hN (by omega) hz) rfl rfl rfl rfl ?_
    refine s_if_eq dM_set_5 (fun _ => ?_) (fun q => absurd rfl q)
    refine s_iconst (v := (-1)) dM_set_17 (by decide) ?_
    refine s_iret dM_set_18 rfl (by first | exact Nat.le_refl _ | decide | omega) (by first | exact Nat.le_refl _ | decide | omega) ?_
    exact ⟨rfl, rfl⟩
  · rcases iz_cases x (K := 4) (by omega) with ⟨e1, hz⟩ | ⟨i, hi, rfl, e1⟩
    · rw [e, e1]
      refine s_aload_n dM_set_0 rfl rfl ?_
      refine s_iload_n dM_set_1 rfl rfl ?_
      refine s_v1 dM_set_2 cv_M_128 hM_o (c_M_isSubject hN (by omega) (Iz1 hj)) rfl rfl rfl rfl ?_
      refine s_if_eq dM_set_5 (fun q => absurd q (by decide)) (fun _ => ?_)
      refine s_iload_n dM_set_8 rfl rfl ?_
      refine s_iconst (v := 0) dM_set_9 (by decide) ?_
      refine s_iconst (v := nI 3) dM_set_10 (by decide) ?_
      refine s_t3 dM_set_11 cs_M_117 (c_inZ (K := 4) (by omega) hz) rfl rfl rfl rfl ?_
      refine s_if_ne dM_set_14 (fun q => absurd (by decide) q) (fun _ => ?_)
      refine s_iconst (v := (-1)) dM_set_17 (by decide) ?_
      refine s_iret dM_set_18 rfl (by first | exact Nat.le_refl _ | decide | omega) (by first | exact Nat.le_refl _ | decide | omega) ?_
      exact ⟨rfl, rfl⟩
    · rw [e, e1]
      refine s_aload_n dM_set_0 rfl rfl ?_
      refine s_iload_n dM_set_1 rfl rfl ?_
      refine s_v1 dM_set_2 cv_M_128 hM_o (c_M_isSubject hN (by omega) (Iz1 hj)) rfl rfl rfl rfl ?_
      refine s_if_eq dM_set_5 (fun q => absurd q (by decide)) (fun _ => ?_)
      refine s_iload_n dM_set_8 rfl rfl ?_
      refine s_iconst (v := 0) dM_set_9 (by decide) ?_
      refine s_iconst (v := nI 3) dM_set_10 (by decide) ?_
      refine s_t3 dM_set_11 cs_M_117 (c_inZ (K := 4) (by omega) (Iz1 hi)) rfl rfl rfl rfl ?_
      refine s_if_ne dM_set_14 (fun _ => ?_) (fun q => absurd q (by decide))
      refine s_aload_n dM_set_19 rfl rfl ?_
      refine s_mga dM_set_20 gf_M_16 rfl ?_
      refine s_iconst (v := nI 4) dM_set_23 (by decide) ?_
      refine s_iload_n dM_set_24 rfl rfl ?_
      first | refine s_imulN dM_set_25 ?_ | refine s_imul dM_set_25 ?_
      refine s_iload_n dM_set_26 rfl rfl ?_
      first | refine s_iaddN dM_set_27 ?_ | refine s_iadd dM_set_27 ?_
      refine s_mald dM_set_28 rfl rfl (show _ < 80 by omega) rfl ?_
      refine s_istore dM_set_29 rfl ?_
      refine s_aload_n dM_set_31 rfl rfl ?_
      refine s_mga dM_set_32 gf_M_16 rfl ?_
      refine s_iconst (v := nI 4) dM_set_35 (by decide) ?_
      refine s_iload_n dM_set_36 rfl rfl ?_
      first | refine s_imulN dM_set_37 ?_ | refine s_imul dM_set_37 ?_
      refine s_iload_n dM_set_38 rfl rfl ?_
      first | refine s_iaddN dM_set_39 ?_ | refine s_iadd dM_set_39 ?_
      refine s_iload_n dM_set_40 rfl rfl ?_
      refine s_mast dM_set_41 rfl rfl (show _ < 80 by omega) rfl ?_
      refine s_iload dM_set_42 rfl ?_
      refine s_iret dM_set_44 rfl (by first | exact Nat.le_refl _ | decide | omega) (by first | exact Nat.le_refl _ | decide | omega) ?_
      exact ⟨rfl, rfl⟩
def fValue (σ : Sg) (p x : Int32) (N : Nat) : Int32 := match ix p N, ix x 4 with
  | some j, some i => σ 4 (4 * j + i)
  | _, _ => -1
theorem c_M_value {σ : Sg} {h : Hp} {N : Nat} (p x : Int32) (hN : σ 2 0 = nI N) (h3 : N ≤ 20) : ConF mM_value 2 [vR (100, 0, 0), vI p, vI x] (hM σ h) (some (vI (fValue σ p x N))) (hM σ h) := by
  unfold fValue
  refine c_enter (by decide +kernel) rfl rfl ?_
  rcases iz_cases p (K := N) (by omega) with ⟨e, hz⟩ | ⟨j, hj, rfl, e⟩
  · rw [e]
    refine s_aload_n dM_value_0 rfl rfl ?_
    refine s_iload_n dM_value_1 rfl rfl ?_
    refine s_v1 dM_value_2 cv_M_128 hM_o (c_M_isSubject hN (by omega) hz) rfl rfl rfl rfl ?_
    refine s_if_eq dM_value_5 (fun _ => ?_) (fun q => absurd rfl q)
    refine s_iconst (v := (-1)) dM_value_30 (by decide) ?_
    refine s_iret dM_value_31 rfl (by first | exact Nat.le_refl _ | decide | omega) (by first | exact Nat.le_refl _ | decide | omega) ?_
    exact ⟨rfl, rfl⟩
  · rcases iz_cases x (K := 4) (by omega) with ⟨e1, hz⟩ | ⟨i, hi, rfl, e1⟩
    · rw [e, e1]
      refine s_aload_n dM_value_0 rfl rfl ?_
      refine s_iload_n dM_value_1 rfl rfl ?_
      refine s_v1 dM_value_2 cv_M_128 hM_o (c_M_isSubject hN (by omega) (Iz1 hj)) rfl rfl rfl rfl ?_
      refine s_if_eq dM_value_5 (fun q => absurd q (by decide)) (fun _ => ?_)
      refine s_iload_n dM_value_8 rfl rfl ?_
      refine s_iconst (v := 0) dM_value_9 (by decide) ?_
      refine s_iconst (v := nI 3) dM_value_10 (by decide) ?_
      refine s_t3 dM_value_11 cs_M_117 (c_inZ (K := 4) (by omega) hz) rfl rfl rfl rfl ?_
      refine s_if_eq dM_value_14 (fun _ => ?_) (fun q => absurd rfl q)
      refine s_iconst (v := (-1)) dM_value_30 (by decide) ?_
      refine s_iret dM_value_31 rfl (by first | exact Nat.le_refl _ | decide | omega) (by first | exact Nat.le_refl _ | decide | omega) ?_
      exact ⟨rfl, rfl⟩
    · rw [e, e1]
      refine s_aload_n dM_value_0 rfl rfl ?_
      refine s_iload_n dM_value_1 rfl rfl ?_
      refine s_v1 dM_value_2 cv_M_128 hM_o (c_M_isSubject hN (by omega) (Iz1 hj)) rfl rfl rfl rfl ?_
      refine s_if_eq dM_value_5 (fun q => absurd q (by decide)) (fun _ => ?_)
      refine s_iload_n dM_value_8 rfl rfl ?_
      refine s_iconst (v := 0) dM_value_9 (by decide) ?_
      refine s_iconst (v := nI 3) dM_value_10 (by decide) ?_
      refine s_t3 dM_value_11 cs_M_117 (c_inZ (K := 4) (by omega) (Iz1 hi)) rfl rfl rfl rfl ?_
      refine s_if_eq dM_value_14 (fun q => absurd q (by decide)) (fun _ => ?_)
      refine s_aload_n dM_value_17 rfl rfl ?_
      refine s_mga dM_value_18 gf_M_16 rfl ?_
      refine s_iconst (v := nI 4) dM_value_21 (by decide) ?_
      refine s_iload_n dM_value_22 rfl rfl ?_
      first | refine s_imulN dM_value_23 ?_ | refine s_imul dM_value_23 ?_
      refine s_iload_n dM_value_24 rfl rfl ?_
      first | refine s_iaddN dM_value_25 ?_ | refine s_iadd dM_value_25 ?_
      refine s_mald dM_value_26 rfl rfl (show _ < 80 by omega) rfl ?_
      refine s_goto dM_value_27 ?_
      refine s_iret dM_value_31 rfl (by first | exact Nat.le_refl _ | decide | omega) (by first | exact Nat.le_refl _ | decide | omega) ?_
      exact ⟨rfl, rfl⟩
def fBook (σ : Sg) (p : Int32) (N : Nat) : Int32 × Sg := match ix p 100 with
  | none => (-1, σ)
  | some _ => if N = 12 then (-3, σ) else (nI N, us (us σ 6 N p) 5 0 (nI (N + 1)))
theorem c_M_book {σ : Sg} {h : Hp} {N : Nat} (p : Int32) (hN : σ 5 0 = nI N) (h3 : N ≤ 12) : ConF mM_book 1 [vR (100, 0, 0), vI p] (hM σ h) (some (vI (fBook σ p N).1)) (hM (fBook σ p N).2 h) := by
  unfold fBook
  refine c_enter (by decide +kernel) rfl rfl ?_
  rcases iz_cases p (K := 100) (by omega) with ⟨e, hz⟩ | ⟨j, hj, rfl, e⟩
  · rw [e]
    refine s_iload_n dM_book_0 rfl rfl ?_
    refine s_iconst (v := 0) dM_book_1 (by decide) ?_
    refine s_bipush (v := nI 99) dM_book_2 (by decide) ?_
    refine s_t3 dM_book_4 cs_M_117 (c_inZ (K := 100) (by omega) hz) rfl rfl rfl rfl ?_
    refine s_if_ne dM_book_7 (fun q => absurd (by decide) q) (fun _ => ?_)
    refine s_iconst (v := (-1)) dM_book_10 (by decide) ?_
    refine s_iret dM_book_11 rfl (by first | exact Nat.le_refl _ | decide | omega) (by first | exact Nat.le_refl _ | decide | omega) ?_
    exact ⟨rfl, rfl⟩
  · rw [e]
    by_cases h20 : N = 12
    · subst h20
      refine s_iload_n dM_book_0 rfl rfl ?_
      refine s_iconst (v := 0) dM_book_1 (by decide) ?_
      refine s_bipush (v := nI 99) dM_book_2 (by decide) ?_
      refine s_t3 dM_book_4 cs_M_117 (c_inZ (K := 100) (by omega) (Iz1 hj)) rfl rfl rfl rfl ?_
      refine s_if_ne dM_book_7 (fun _ => ?_) (fun q => absurd q (by decide))
      refine s_aload_n dM_book_12 rfl rfl ?_
      refine s_mgi dM_book_13 gf_M_132 rfl ?_
      refine s_top hN ?_
      refine s_bipush (v := nI 12) dM_book_16 (by decide) ?_
      refine s_icmp_ne dM_book_18 (fun q => absurd rfl q) (fun _ => ?_)
      refine s_bipush (v := (-3)) dM_book_21 (by decide) ?_
      refine s_iret dM_book_23 rfl (by first | exact Nat.le_refl _ | decide | omega) (by first | exact Nat.le_refl _ | decide | omega) ?_
      exact ⟨rfl, rfl⟩
    · refine s_iload_n dM_book_0 rfl rfl ?_
      refine s_iconst (v := 0) dM_book_1 (by decide) ?_
      refine s_bipush (v := nI 99) dM_book_2 (by decide) ?_
      refine s_t3 dM_book_4 cs_M_117 (c_inZ (K := 100) (by omega) (Iz1 hj)) rfl rfl rfl rfl ?_
      refine s_if_ne dM_book_7 (fun _ => ?_) (fun q => absurd q (by decide))
      refine s_aload_n dM_book_12 rfl rfl ?_
      refine s_mgi dM_book_13 gf_M_132 rfl ?_
      refine s_top hN ?_
      refine s_bipush (v := nI 12) dM_book_16 (by decide) ?_
      refine s_icmp_ne dM_book_18 (fun _ => ?_) (fun q => absurd q (nI_ne h20 (by omega) (by omega)))
      refine s_aload_n dM_book_24 rfl rfl ?_
      refine s_mga dM_book_25 gf_M_19 rfl ?_
      refine s_aload_n dM_book_28 rfl rfl ?_
      refine s_mgi dM_book_29 gf_M_132 rfl ?_
      refine s_top hN ?_
      refine s_iload_n dM_book_32 rfl rfl ?_
      refine s_mast dM_book_33 rfl rfl (show _ < 12 by omega) rfl ?_
      refine s_aload_n dM_book_34 rfl rfl ?_
      refine s_dup dM_book_35 rfl ?_
      refine s_mgi dM_book_36 gf_M_132 rfl ?_
      refine s_top hN ?_
      refine s_iconst (v := 1) dM_book_39 (by decide) ?_
      first | refine s_iaddN dM_book_40 ?_ | refine s_iadd dM_book_40 ?_
      refine s_mpi dM_book_41 gf_M_132 rfl rfl (by first | exact ⟨_, rfl⟩ | exact Or.inl rfl | exact Or.inr rfl) ?_
      refine s_aload_n dM_book_44 rfl rfl ?_
      refine s_mgi dM_book_45 gf_M_132 rfl ?_
      refine s_top (show _ = nI (N + 1) from rfl) ?_
      refine s_iconst (v := 1) dM_book_48 (by decide) ?_
      first | refine s_isubN dM_book_49 (by omega) ?_ | refine s_isub dM_book_49 ?_
      refine s_iret dM_book_50 rfl (by first | exact Nat.le_refl _ | decide | omega) (by first | exact Nat.le_refl _ | decide | omega) ?_
      rw [if_neg h20]
      exact ⟨by first | rfl | rw [nI_pred], rfl⟩
def fVariable (σ : Sg) (p x v : Int32) (N : Nat) : Int32 × Sg := match ix p N, ix x 4 with
  | some j, some i => (0, us σ 7 (4 * j + i) v)
  | _, _ => (-1, σ)
theorem c_M_variable {σ : Sg} {h : Hp} {N : Nat} (p x v : Int32) (hN : σ 5 0 = nI N) (h3 : N ≤ 12) : ConF mM_variable 2 [vR (100, 0, 0), vI p, vI x, vI v] (hM σ h) (some (vI (fVariable σ p x v N).1)) (hM (fVariable σ p x v N).2 h) := by
  unfold fVariable
  refine c_enter (by decide +kernel) rfl rfl ?_
  rcases iz_cases p (K := N) (by omega) with ⟨e, hz⟩ | ⟨j, hj, rfl, e⟩
  · rw [e]
    refine s_aload_n dM_variable_0 rfl rfl ?_
    refine s_iload_n dM_variable_1 rfl rfl ?_
    refine s_v1 dM_variable_2 cv_M_135 hM_o (c_M_isBook hN (by omega) hz) rfl rfl rfl rfl ?_
    refine s_if_eq dM_variable_5 (fun _ => ?_) (fun q => absurd rfl q)
    refine s_iconst (v := (-1)) dM_variable_17 (by decide) ?_
    refine s_iret dM_variable_18 rfl (by first | exact Nat.le_refl _ | decide | omega) (by first | exact Nat.le_refl _ | decide | omega) ?_
    exact ⟨rfl, rfl⟩
  · rcases iz_cases x (K := 4) (by omega) with ⟨e1, hz⟩ | ⟨i, hi, rfl, e1⟩
    · rw [e, e1]
      refine s_aload_n dM_variable_0 rfl rfl ?_
      refine s_iload_n dM_variable_1 rfl rfl ?_
      refine s_v1 dM_variable_2 cv_M_135 hM_o (c_M_isBook hN (by omega) (Iz1 hj)) rfl rfl rfl rfl ?_
      refine s_if_eq dM_variable_5 (fun q => absurd q (by decide)) (fun _ => ?_)
      refine s_iload_n dM_variable_8 rfl rfl ?_
      refine s_iconst (v := 0) dM_variable_9 (by decide) ?_
      refine s_iconst (v := nI 3) dM_variable_10 (by decide) ?_
      refine s_t3 dM_variable_11 cs_M_117 (c_inZ (K := 4) (by omega) hz) rfl rfl rfl rfl ?_
      refine s_if_ne dM_variable_14 (fun q => absurd (by decide) q) (fun _ => ?_)
      refine s_iconst (v := (-1)) dM_variable_17 (by decide) ?_
      refine s_iret dM_variable_18 rfl (by first | exact Nat.le_refl _ | decide | omega) (by first | exact Nat.le_refl _ | decide | omega) ?_
      exact ⟨rfl, rfl⟩
    · rw [e, e1]
      refine s_aload_n dM_variable_0 rfl rfl ?_
      refine s_iload_n dM_variable_1 rfl rfl ?_
      refine s_v1 dM_variable_2 cv_M_135 hM_o (c_M_isBook hN (by omega) (Iz1 hj)) rfl rfl rfl rfl ?_
      refine s_if_eq dM_variable_5 (fun q => absurd q (by decide)) (fun _ => ?_)
      refine s_iload_n dM_variable_8 rfl rfl ?_
      refine s_iconst (v := 0) dM_variable_9 (by decide) ?_
      refine s_iconst (v := nI 3) dM_variable_10 (by decide) ?_
      refine s_t3 dM_variable_11 cs_M_117 (c_inZ (K := 4) (by omega) (Iz1 hi)) rfl rfl rfl rfl ?_
      refine s_if_ne dM_variable_14 (fun _ => ?_) (fun q => absurd q (by decide))
      refine s_aload_n dM_variable_19 rfl rfl ?_
      refine s_mga dM_variable_20 gf_M_22 rfl ?_
      refine s_iconst (v := nI 4) dM_variable_23 (by decide) ?_
      refine s_iload_n dM_variable_24 rfl rfl ?_
      first | refine s_imulN dM_variable_25 ?_ | refine s_imul dM_variable_25 ?_
      refine s_iload_n dM_variable_26 rfl rfl ?_
      first | refine s_iaddN dM_variable_27 ?_ | refine s_iadd dM_variable_27 ?_
      refine s_iload_n dM_variable_28 rfl rfl ?_
      refine s_mast dM_variable_29 rfl rfl (show _ < 48 by omega) rfl ?_
      refine s_iconst (v := 0) dM_variable_30 (by decide) ?_
      refine s_iret dM_variable_31 rfl (by first | exact Nat.le_refl _ | decide | omega) (by first | exact Nat.le_refl _ | decide | omega) ?_
      exact ⟨rfl, rfl⟩
def fRule (σ : Sg) (b s p : Int32) (B N : Nat) : Int32 × Sg := match ix b B, ix s 3, ix p 10 with
  | some _, some _, some _ => if N = 60 then (-3, σ) else (nI N, us (us (us (us (us σ 9 N b) 10 N s) 11 N p) 15 N (-4)) 8 0 (nI (N + 1)))
  | _, _, _ => (-1, σ)
theorem c_M_rule {σ : Sg} {h : Hp} {B N : Nat} (b s p : Int32) (hB : σ 5 0 = nI B) (h2 : B ≤ 12) (hN : σ 8 0 = nI N) (h3 : N ≤ 60) : ConF mM_rule 2 [vR (100, 0, 0), vI b, vI s, vI p] (hM σ h) (some (vI (fRule σ b s p B N).1)) (hM (fRule σ b s p B N).2 h) := by
  unfold fRule
  refine c_enter (by decide +kernel) rfl rfl ?_
  rcases iz_cases b (K := B) (by omega) with ⟨e, hz⟩ | ⟨j, hj, rfl, e⟩
  · rw [e]
    refine s_aload_n dM_rule_0 rfl rfl ?_
    refine s_iload_n dM_rule_1 rfl rfl ?_
    refine s_v1 dM_rule_2 cv_M_135 hM_o (c_M_isBook hB (by omega) hz) rfl rfl rfl rfl ?_
    refine s_if_eq dM_rule_5 (fun _ => ?_) (fun q => absurd rfl q)
    refine s_iconst (v := (-1)) dM_rule_27 (by decide) ?_
    refine s_iret dM_rule_28 rfl (by first | exact Nat.le_refl _ | decide | omega) (by first | exact Nat.le_refl _ | decide | omega) ?_
    exact ⟨rfl, rfl⟩
  · rcases iz_cases s (K := 3) (by omega) with ⟨e1, hz⟩ | ⟨i, hi, rfl, e1⟩
    · rw [e, e1]
      refine s_aload_n dM_rule_0 rfl rfl ?_
      refine s_iload_n dM_rule_1 rfl rfl ?_
      refine s_v1 dM_rule_2 cv_M_135 hM_o (c_M_isBook hB (by omega) (Iz1 hj)) rfl rfl rfl rfl ?_
      refine s_if_eq dM_rule_5 (fun q => absurd q (by decide)) (fun _ => ?_)
      refine s_iload_n dM_rule_8 rfl rfl ?_
      refine s_iconst (v := 0) dM_rule_9 (by decide) ?_
      refine s_iconst (v := nI 2) dM_rule_10 (by decide) ?_
      refine s_t3 dM_rule_11 cs_M_117 (c_inZ (K := 3) (by omega) hz) rfl rfl rfl rfl ?_
      refine s_if_eq dM_rule_14 (fun _ => ?_) (fun q => absurd rfl q)
      refine s_iconst (v := (-1)) dM_rule_27 (by decide) ?_
      refine s_iret dM_rule_28 rfl (by first | exact Nat.le_refl _ | decide | omega) (by first | exact Nat.le_refl _ | decide | omega) ?_
      exact ⟨rfl, rfl⟩
    · rcases iz_cases p (K := 10) (by omega) with ⟨e2, hz⟩ | ⟨i2, hi2, rfl, e2⟩
      · rw [e, e1, e2]
        refine s_aload_n dM_rule_0 rfl rfl ?_
        refine s_iload_n dM_rule_1 rfl rfl ?_
        refine s_v1 dM_rule_2 cv_M_135 hM_o (c_M_isBook hB (by omega) (Iz1 hj)) rfl rfl rfl rfl ?_
        refine s_if_eq dM_rule_5 (fun q => absurd q (by decide)) (fun _ => ?_)
        refine s_iload_n dM_rule_8 rfl rfl ?_
        refine s_iconst (v := 0) dM_rule_9 (by decide) ?_
        refine s_iconst (v := nI 2) dM_rule_10 (by decide) ?_
        refine s_t3 dM_rule_11 cs_M_117 (c_inZ (K := 3) (by omega) (Iz1 hi)) rfl rfl rfl rfl ?_
        refine s_if_eq dM_rule_14 (fun q => absurd q (by decide)) (fun _ => ?_)
        refine s_iload_n dM_rule_17 rfl rfl ?_
        refine s_iconst (v := 0) dM_rule_18 (by decide) ?_
        refine s_bipush (v := nI 9) dM_rule_19 (by decide) ?_
        refine s_t3 dM_rule_21 cs_M_117 (c_inZ (K := 10) (by omega) hz) rfl rfl rfl rfl ?_
        refine s_if_ne dM_rule_24 (fun q => absurd (by decide) q) (fun _ => ?_)
        refine s_iconst (v := (-1)) dM_rule_27 (by decide) ?_
        refine s_iret dM_rule_28 rfl (by first | exact Nat.le_refl _ | decide | omega) (by first | exact Nat.le_refl _ | decide | omega) ?_
        exact ⟨rfl, rfl⟩
      · rw [e, e1, e2]
        by_cases h20 : N = 60
        · subst h20
          refine s_aload_n dM_rule_0 rfl rfl ?_
          refine s_iload_n dM_rule_1 rfl rfl ?_
          refine s_v1 dM_rule_2 cv_M_135 hM_o (c_M_isBook hB (by omega) (Iz1 hj)) rfl rfl rfl rfl ?_
          refine s_if_eq dM_rule_5 (fun q => absurd q (by decide)) (fun _ => ?_)
          refine s_iload_n dM_rule_8 rfl rfl ?_
          refine s_iconst (v := 0) dM_rule_9 (by decide) ?_
          refine s_iconst (v := nI 2) dM_rule_10 (by decide) ?_
          refine s_t3 dM_rule_11 cs_M_117 (c_inZ (K := 3) (by omega) (Iz1 hi)) rfl rfl rfl rfl ?_
          refine s_if_eq dM_rule_14 (fun q => absurd q (by decide)) (fun _ => ?_)
          refine s_iload_n dM_rule_17 rfl rfl ?_
          refine s_iconst (v := 0) dM_rule_18 (by decide) ?_
          refine s_bipush (v := nI 9) dM_rule_19 (by decide) ?_
          refine s_t3 dM_rule_21 cs_M_117 (c_inZ (K := 10) (by omega) (Iz1 hi2)) rfl rfl rfl rfl ?_
          refine s_if_ne dM_rule_24 (fun _ => ?_) (fun q => absurd q (by decide))
          refine s_aload_n dM_rule_29 rfl rfl ?_
          refine s_mgi dM_rule_30 gf_M_138 rfl ?_
          refine s_top hN ?_
          refine s_bipush (v := nI 60) dM_rule_33 (by decide) ?_
          refine s_icmp_ne dM_rule_35 (fun q => absurd rfl q) (fun _ => ?_)
          refine s_bipush (v := (-3)) dM_rule_38 (by decide) ?_
          refine s_iret dM_rule_40 rfl (by first | exact Nat.le_refl _ | decide | omega) (by first | exact Nat.le_refl _ | decide | omega) ?_
          exact ⟨rfl, rfl⟩
        · refine s_aload_n dM_rule_0 rfl rfl ?_
          refine s_iload_n dM_rule_1 rfl rfl ?_
          refine s_v1 dM_rule_2 cv_M_135 hM_o (c_M_isBook hB (by omega) (Iz1 hj)) rfl rfl rfl rfl ?_
          refine s_if_eq dM_rule_5 (fun q => absurd q (by decide)) (fun _ => ?_)
          refine s_iload_n dM_rule_8 rfl rfl ?_
          refine s_iconst (v := 0) dM_rule_9 (by decide) ?_
          refine s_iconst (v := nI 2) dM_rule_10 (by decide) ?_
          refine s_t3 dM_rule_11 cs_M_117 (c_inZ (K := 3) (by omega) (Iz1 hi)) rfl rfl rfl rfl ?_
          refine s_if_eq dM_rule_14 (fun q => absurd q (by decide)) (fun _ => ?_)
          refine s_iload_n dM_rule_17 rfl rfl ?_
          refine s_iconst (v := 0) dM_rule_18 (by decide) ?_
          refine s_bipush (v := nI 9) dM_rule_19 (by decide) ?_
          refine s_t3 dM_rule_21 cs_M_117 (c_inZ (K := 10) (by omega) (Iz1 hi2)) rfl rfl rfl rfl ?_
          refine s_if_ne dM_rule_24 (fun _ => ?_) (fun q => absurd q (by decide))
          refine s_aload_n dM_rule_29 rfl rfl ?_
          refine s_mgi dM_rule_30 gf_M_138 rfl ?_
          refine s_top hN ?_
          refine s_bipush (v := nI 60) dM_rule_33 (by decide) ?_
          refine s_icmp_ne dM_rule_35 (fun _ => ?_) (fun q => absurd q (nI_ne h20 (by omega) (by omega)))
          refine s_aload_n dM_rule_41 rfl rfl ?_
          refine s_mga dM_rule_42 gf_M_25 rfl ?_
          refine s_aload_n dM_rule_45 rfl rfl ?_
          refine s_mgi dM_rule_46 gf_M_138 rfl ?_
          refine s_top hN ?_
          refine s_iload_n dM_rule_49 rfl rfl ?_
          refine s_mast dM_rule_50 rfl rfl (show _ < 60 by omega) rfl ?_
          refine s_aload_n dM_rule_51 rfl rfl ?_
          refine s_mga dM_rule_52 gf_M_28 rfl ?_
          refine s_aload_n dM_rule_55 rfl rfl ?_
          refine s_mgi dM_rule_56 gf_M_138 rfl ?_
          refine s_top hN ?_
          refine s_iload_n dM_rule_59 rfl rfl ?_
          refine s_mast dM_rule_60 rfl rfl (show _ < 60 by omega) rfl ?_
          refine s_aload_n dM_rule_61 rfl rfl ?_
          refine s_mga dM_rule_62 gf_M_31 rfl ?_
          refine s_aload_n dM_rule_65 rfl rfl ?_
          refine s_mgi dM_rule_66 gf_M_138 rfl ?_
          refine s_top hN ?_
          refine s_iload_n dM_rule_69 rfl rfl ?_
          refine s_mast dM_rule_70 rfl rfl (show _ < 60 by omega) rfl ?_
          refine s_aload_n dM_rule_71 rfl rfl ?_
          refine s_mga dM_rule_72 gf_M_43 rfl ?_
          refine s_aload_n dM_rule_75 rfl rfl ?_
          refine s_mgi dM_rule_76 gf_M_138 rfl ?_
          refine s_top hN ?_
          refine s_bipush (v := (-4)) dM_rule_79 (by decide) ?_
          refine s_mast dM_rule_81 rfl rfl (show _ < 60 by omega) rfl ?_
          refine s_aload_n dM_rule_82 rfl rfl ?_
          refine s_dup dM_rule_83 rfl ?_
          refine s_mgi dM_rule_84 gf_M_138 rfl ?_
          refine s_top hN ?_
          refine s_iconst (v := 1) dM_rule_87 (by decide) ?_
          first | refine s_iaddN dM_rule_88 ?_ | refine s_iadd dM_rule_88 ?_
          refine s_mpi dM_rule_89 gf_M_138 rfl rfl (by first | exact ⟨_, rfl⟩ | exact Or.inl rfl | exact Or.inr rfl) ?_
          refine s_aload_n dM_rule_92 rfl rfl ?_
          refine s_mgi dM_rule_93 gf_M_138 rfl ?_
          refine s_top (show _ = nI (N + 1) from rfl) ?_
          refine s_iconst (v := 1) dM_rule_96 (by decide) ?_
          first | refine s_isubN dM_rule_97 (by omega) ?_ | refine s_isub dM_rule_97 ?_
          refine s_iret dM_rule_98 rfl (by first | exact Nat.le_refl _ | decide | omega) (by first | exact Nat.le_refl _ | decide | omega) ?_
          rw [if_neg h20]
          exact ⟨by first | rfl | rw [nI_pred], rfl⟩
end
section
def fTrace (σ : Sg) (i w : Int32) (N : Nat) : Int32 := match ix i N, ix w 3 with
  | some j, some k => σ 28 (3 * j + k)
  | _, _ => -4
theorem c_M_trace {σ : Sg} {h : Hp} {N : Nat} (i w : Int32) (hN : σ 29 0 = nI N) (h3 : N ≤ 300) : ConF mM_trace 1 [vR (100, 0, 0), vI i, vI w] (hM σ h) (some (vI (fTrace σ i w N))) (hM σ h) := by
  unfold fTrace
  refine c_enter (by decide +kernel) rfl rfl ?_
  rcases iz_cases i (K := N) (by omega) with ⟨e, hz⟩ | ⟨j, hj, rfl, e⟩
  · rw [e]
    refine s_iload_n dM_trace_0 rfl rfl ?_
    refine s_iconst (v := 0) dM_trace_1 (by decide) ?_
    refine s_aload_n dM_trace_2 rfl rfl ?_
    refine s_mgi dM_trace_3 gf_M_191 rfl ?_
    refine s_top hN ?_
    refine s_iconst (v := 1) dM_trace_6 (by decide) ?_
    first | refine s_isubN dM_trace_7 (by omega) ?_ | refine s_isub dM_trace_7 ?_
    refine s_t3 dM_trace_8 cs_M_117 (c_inZ (by omega) hz) rfl rfl rfl rfl ?_
    refine s_if_eq dM_trace_11 (fun _ => ?_) (fun q => absurd rfl q)
    refine s_bipush (v := (-4)) dM_trace_36 (by decide) ?_
    refine s_iret dM_trace_38 rfl (by first | exact Nat.le_refl _ | decide | omega) (by first | exact Nat.le_refl _ | decide | omega) ?_
    exact ⟨rfl, rfl⟩
  · rcases iz_cases w (K := 3) (by omega) with ⟨e1, hz⟩ | ⟨k, hk, rfl, e1⟩
    · rw [e, e1]
      refine s_iload_n dM_trace_0 rfl rfl ?_
      refine s_iconst (v := 0) dM_trace_1 (by decide) ?_
      refine s_aload_n dM_trace_2 rfl rfl ?_
      refine s_mgi dM_trace_3 gf_M_191 rfl ?_
      refine s_top hN ?_
      refine s_iconst (v := 1) dM_trace_6 (by decide) ?_
      first | refine s_isubN dM_trace_7 (by omega) ?_ | refine s_isub dM_trace_7 ?_
      refine s_t3 dM_trace_8 cs_M_117 (c_inZ (by omega) (Iz1 hj)) rfl rfl rfl rfl ?_
      refine s_if_eq dM_trace_11 (fun q => absurd q (by decide)) (fun _ => ?_)
      refine s_iload_n dM_trace_14 rfl rfl ?_
      refine s_iconst (v := 0) dM_trace_15 (by decide) ?_
      refine s_iconst (v := nI 2) dM_trace_16 (by decide) ?_
      refine s_t3 dM_trace_17 cs_M_117 (c_inZ (K := 3) (by omega) hz) rfl rfl rfl rfl ?_
      refine s_if_eq dM_trace_20 (fun _ => ?_) (fun q => absurd rfl q)
      refine s_bipush (v := (-4)) dM_trace_36 (by decide) ?_
      refine s_iret dM_trace_38 rfl (by first | exact Nat.le_refl _ | decide | omega) (by first | exact Nat.le_refl _ | decide | omega) ?_
      exact ⟨rfl, rfl⟩
    · rw [e, e1]
      refine s_iload_n dM_trace_0 rfl rfl ?_
      refine s_iconst (v := 0) dM_trace_1 (by decide) ?_
      refine s_aload_n dM_trace_2 rfl rfl ?_
      refine s_mgi dM_trace_3 gf_M_191 rfl ?_
      refine s_top hN ?_
      refine s_iconst (v := 1) dM_trace_6 (by decide) ?_
      first | refine s_isubN dM_trace_7 (by omega) ?_ | refine s_isub dM_trace_7 ?_
      refine s_t3 dM_trace_8 cs_M_117 (c_inZ (by omega) (Iz1 hj)) rfl rfl rfl rfl ?_
      refine s_if_eq dM_trace_11 (fun q => absurd q (by decide)) (fun _ => ?_)
      refine s_iload_n dM_trace_14 rfl rfl ?_
      refine s_iconst (v := 0) dM_trace_15 (by decide) ?_
      refine s_iconst (v := nI 2) dM_trace_16 (by decide) ?_
      refine s_t3 dM_trace_17 cs_M_117 (c_inZ (K := 3) (by omega) (Iz1 hk)) rfl rfl rfl rfl ?_
      refine s_if_eq dM_trace_20 (fun q => absurd q (by decide)) (fun _ => ?_)
      refine s_aload_n dM_trace_23 rfl rfl ?_
      refine s_mga dM_trace_24 gf_M_74 rfl ?_
      refine s_iconst (v := nI 3) dM_trace_27 (by decide) ?_
      refine s_iload_n dM_trace_28 rfl rfl ?_
      first | refine s_imulN dM_trace_29 ?_ | refine s_imul dM_trace_29 ?_
      refine s_iload_n dM_trace_30 rfl rfl ?_
      first | refine s_iaddN dM_trace_31 ?_ | refine s_iadd dM_trace_31 ?_
      refine s_mald dM_trace_32 rfl rfl (show _ < 900 by omega) rfl ?_
      refine s_goto dM_trace_33 ?_
      refine s_iret dM_trace_38 rfl (by first | exact Nat.le_refl _ | decide | omega) (by first | exact Nat.le_refl _ | decide | omega) ?_
      exact ⟨rfl, rfl⟩
theorem c_M_erred {σ : Sg} {h : Hp} : ConF mM_erred 1 [vR (100, 0, 0)] (hM σ h) (some (vI (σ 30 0))) (hM σ h) := by
  refine c_enter (by decide +kernel) rfl rfl ?_
  refine s_aload_n dM_erred_0 rfl rfl ?_
  refine s_mgi dM_erred_1 gf_M_194 rfl ?_
  refine s_iret dM_erred_4 rfl (by first | exact Nat.le_refl _ | decide | omega) (by first | exact Nat.le_refl _ | decide | omega) ?_
  exact ⟨rfl, rfl⟩
def fEvent (σ : Sg) (i : Int32) (N : Nat) : Int32 := match ix i N with
  | some j => σ 48 j
  | none => -4
theorem c_M_event {σ : Sg} {h : Hp} {N : Nat} (i : Int32) (hN : σ 49 0 = nI N) (h3 : N ≤ 16) : ConF mM_event 1 [vR (100, 0, 0), vI i] (hM σ h) (some (vI (fEvent σ i N))) (hM σ h) := by
  unfold fEvent
  refine c_enter (by decide +kernel) rfl rfl ?_
  rcases iz_cases i (K := N) (by omega) with ⟨e, hz⟩ | ⟨j, hj, rfl, e⟩
  · rw [e]
    refine s_iload_n dM_event_0 rfl rfl ?_
    refine s_iconst (v := 0) dM_event_1 (by decide) ?_
    refine s_aload_n dM_event_2 rfl rfl ?_
    refine s_mgi dM_event_3 gf_M_239 rfl ?_
    refine s_top hN ?_
    refine s_iconst (v := 1) dM_event_6 (by decide) ?_
    first | refine s_isubN dM_event_7 (by omega) ?_ | refine s_isub dM_event_7 ?_
    refine s_t3 dM_event_8 cs_M_117 (c_inZ (by omega) hz) rfl rfl rfl rfl ?_
    refine s_if_eq dM_event_11 (fun _ => ?_) (fun q => absurd rfl q)
    refine s_bipush (v := (-4)) dM_event_23 (by decide) ?_
    refine s_iret dM_event_25 rfl (by first | exact Nat.le_refl _ | decide | omega) (by first | exact Nat.le_refl _ | decide | omega) ?_
    exact ⟨rfl, rfl⟩
  · rw [e]
    refine s_iload_n dM_event_0 rfl rfl ?_
    refine s_iconst (v := 0) dM_event_1 (by decide) ?_
    refine s_aload_n dM_event_2 rfl rfl ?_
    refine s_mgi dM_event_3 gf_M_239 rfl ?_
    refine s_top hN ?_
    refine s_iconst (v := 1) dM_event_6 (by decide) ?_
    first | refine s_isubN dM_event_7 (by omega) ?_ | refine s_isub dM_event_7 ?_
    refine s_t3 dM_event_8 cs_M_117 (c_inZ (by omega) (Iz1 hj)) rfl rfl rfl rfl ?_
    refine s_if_eq dM_event_11 (fun q => absurd q (by decide)) (fun _ => ?_)
    refine s_aload_n dM_event_14 rfl rfl ?_
    refine s_mga dM_event_15 gf_M_104 rfl ?_
    refine s_iload_n dM_event_18 rfl rfl ?_
    refine s_mald dM_event_19 rfl rfl (show _ < 16 by omega) rfl ?_
    refine s_goto dM_event_20 ?_
    refine s_iret dM_event_25 rfl (by first | exact Nat.le_refl _ | decide | omega) (by first | exact Nat.le_refl _ | decide | omega) ?_
    exact ⟨rfl, rfl⟩
def fHappens (σ : Sg) (s w : Int32) (N : Nat) : Int32 := match ix s N, ix w 2 with
  | some j, some k => if k = 1 then σ 43 j else if σ 42 j = 0 then 0 else 1
  | _, _ => -1
theorem c_M_happens {σ : Sg} {h : Hp} {N : Nat} (s w : Int32) (hN : σ 40 0 = nI N) (h3 : N ≤ 8) : ConF mM_happens 1 [vR (100, 0, 0), vI s, vI w] (hM σ h) (some (vI (fHappens σ s w N))) (hM σ h) := by
  unfold fHappens
  refine c_enter (by decide +kernel) rfl rfl ?_
  rcases iz_cases s (K := N) (by omega) with ⟨e, hz⟩ | ⟨j, hj, rfl, e⟩
  · rw [e]
    refine s_iload_n dM_happens_0 rfl rfl ?_
    refine s_iconst (v := 0) dM_happens_1 (by decide) ?_
    refine s_aload_n dM_happens_2 rfl rfl ?_
    refine s_mgi dM_happens_3 gf_M_144 rfl ?_
    refine s_top hN ?_
    refine s_iconst (v := 1) dM_happens_6 (by decide) ?_
    first | refine s_isubN dM_happens_7 (by omega) ?_ | refine s_isub dM_happens_7 ?_
    refine s_t3 dM_happens_8 cs_M_117 (c_inZ (by omega) hz) rfl rfl rfl rfl ?_
    refine s_if_eq dM_happens_11 (fun _ => ?_) (fun q => absurd rfl q)
    refine s_iconst (v := (-1)) dM_happens_23 (by decide) ?_
    refine s_iret dM_happens_24 rfl (by first | exact Nat.le_refl _ | decide | omega) (by first | exact Nat.le_refl _ | decide | omega) ?_
    exact ⟨rfl, rfl⟩
  · rcases iz_cases w (K := 2) (by omega) with ⟨e1, hz⟩ | ⟨k, hk, rfl, e1⟩
    · rw [e, e1]
      refine s_iload_n dM_happens_0 rfl rfl ?_
      refine s_iconst (v := 0) dM_happens_1 (by decide) ?_
      refine s_aload_n dM_happens_2 rfl rfl ?_
      refine s_mgi dM_happens_3 gf_M_144 rfl ?_
      refine s_top hN ?_
      refine s_iconst (v := 1) dM_happens_6 (by decide) ?_
      first | refine s_isubN dM_happens_7 (by omega) ?_ | refine s_isub dM_happens_7 ?_
      refine s_t3 dM_happens_8 cs_M_117 (c_inZ (by omega) (Iz1 hj)) rfl rfl rfl rfl ?_
      refine s_if_eq dM_happens_11 (fun q => absurd q (by decide)) (fun _ => ?_)
      refine s_iload_n dM_happens_14 rfl rfl ?_
      refine s_iconst (v := 0) dM_happens_15 (by decide) ?_
      refine s_iconst (v := 1) dM_happens_16 (by decide) ?_
      refine s_t3 dM_happens_17 cs_M_117 (c_inZ (K := 2) (by omega) hz) rfl rfl rfl rfl ?_
      refine s_if_ne dM_happens_20 (fun q => absurd (by decide) q) (fun _ => ?_)
      refine s_iconst (v := (-1)) dM_happens_23 (by decide) ?_
      refine s_iret dM_happens_24 rfl (by first | exact Nat.le_refl _ | decide | omega) (by first | exact Nat.le_refl _ | decide | omega) ?_
      exact ⟨rfl, rfl⟩
    · rw [e, e1]
      by_cases h1 : k = 1
      · subst h1
        refine s_iload_n dM_happens_0 rfl rfl ?_
        refine s_iconst (v := 0) dM_happens_1 (by decide) ?_
        refine s_aload_n dM_happens_2 rfl rfl ?_
        refine s_mgi dM_happens_3 gf_M_144 rfl ?_
        refine s_top hN ?_
        refine s_iconst (v := 1) dM_happens_6 (by decide) ?_
        first | refine s_isubN dM_happens_7 (by omega) ?_ | refine s_isub dM_happens_7 ?_
        refine s_t3 dM_happens_8 cs_M_117 (c_inZ (by omega) (Iz1 hj)) rfl rfl rfl rfl ?_
        refine s_if_eq dM_happens_11 (fun q => absurd q (by decide)) (fun _ => ?_)
        refine s_iload_n dM_happens_14 rfl rfl ?_
        refine s_iconst (v := 0) dM_happens_15 (by decide) ?_
        refine s_iconst (v := 1) dM_happens_16 (by decide) ?_
        refine s_t3 dM_happens_17 cs_M_117 (c_inZ (K := 2) (by omega) (Iz1 hk)) rfl rfl rfl rfl ?_
        refine s_if_ne dM_happens_20 (fun _ => ?_) (fun q => absurd q (by decide))
        refine s_iload_n dM_happens_25 rfl rfl ?_
        refine s_iconst (v := 1) dM_happens_26 (by decide) ?_
        refine s_icmp_ne dM_happens_27 (fun q => absurd rfl q) (fun _ => ?_)
        refine s_aload_n dM_happens_30 rfl rfl ?_
        refine s_mga dM_happens_31 gf_M_95 rfl ?_
        refine s_iload_n dM_happens_34 rfl rfl ?_
        refine s_mald dM_happens_35 rfl rfl (show _ < 8 by omega) rfl ?_
        refine s_goto dM_happens_36 ?_
        refine s_iret dM_happens_53 rfl (by first | exact Nat.le_refl _ | decide | omega) (by first | exact Nat.le_refl _ | decide | omega) ?_
        exact ⟨rfl, rfl⟩
      · have h0 : k = 0 := by omega
        subst h0
        by_cases hz : σ 42 j = 0
        · refine s_iload_n dM_happens_0 rfl rfl ?_
          refine s_iconst (v := 0) dM_happens_1 (by decide) ?_
          refine s_aload_n dM_happens_2 rfl rfl ?_
          refine s_mgi dM_happens_3 gf_M_144 rfl ?_
          refine s_top hN ?_
          refine s_iconst (v := 1) dM_happens_6 (by decide) ?_
          first | refine s_isubN dM_happens_7 (by omega) ?_ | refine s_isub dM_happens_7 ?_
          refine s_t3 dM_happens_8 cs_M_117 (c_inZ (by omega) (Iz1 hj)) rfl rfl rfl rfl ?_
          refine s_if_eq dM_happens_11 (fun q => absurd q (by decide)) (fun _ => ?_)
          refine s_iload_n dM_happens_14 rfl rfl ?_
          refine s_iconst (v := 0) dM_happens_15 (by decide) ?_
          refine s_iconst (v := 1) dM_happens_16 (by decide) ?_
          refine s_t3 dM_happens_17 cs_M_117 (c_inZ (K := 2) (by omega) (Iz1 hk)) rfl rfl rfl rfl ?_
          refine s_if_ne dM_happens_20 (fun _ => ?_) (fun q => absurd q (by decide))
          refine s_iload_n dM_happens_25 rfl rfl ?_
          refine s_iconst (v := 1) dM_happens_26 (by decide) ?_
          refine s_icmp_ne dM_happens_27 (fun _ => ?_) (fun q => absurd q (by decide))
          refine s_aload_n dM_happens_39 rfl rfl ?_
          refine s_mga dM_happens_40 gf_M_92 rfl ?_
          refine s_iload_n dM_happens_43 rfl rfl ?_
          refine s_mzld dM_happens_44 rfl rfl (show _ < 8 by omega) rfl ?_
          refine s_if_eq dM_happens_45 (fun _ => ?_) (fun q => absurd hz q)
          refine s_iconst (v := 0) dM_happens_52 (by decide) ?_
          refine s_iret dM_happens_53 rfl (by first | exact Nat.le_refl _ | decide | omega) (by first | exact Nat.le_refl _ | decide | omega) ?_
          exact ⟨by simp [hz], rfl⟩
        · refine s_iload_n dM_happens_0 rfl rfl ?_
          refine s_iconst (v := 0) dM_happens_1 (by decide) ?_
          refine s_aload_n dM_happens_2 rfl rfl ?_
          refine s_mgi dM_happens_3 gf_M_144 rfl ?_
          refine s_top hN ?_
          refine s_iconst (v := 1) dM_happens_6 (by decide) ?_
          first | refine s_isubN dM_happens_7 (by omega) ?_ | refine s_isub dM_happens_7 ?_
          refine s_t3 dM_happens_8 cs_M_117 (c_inZ (by omega) (Iz1 hj)) rfl rfl rfl rfl ?_
          refine s_if_eq dM_happens_11 (fun q => absurd q (by decide)) (fun _ => ?_)
          refine s_iload_n dM_happens_14 rfl rfl ?_
          refine s_iconst (v := 0) dM_happens_15 (by decide) ?_
          refine s_iconst (v := 1) dM_happens_16 (by decide) ?_
          refine s_t3 dM_happens_17 cs_M_117 (c_inZ (K := 2) (by omega) (Iz1 hk)) rfl rfl rfl rfl ?_
          refine s_if_ne dM_happens_20 (fun _ => ?_) (fun q => absurd q (by decide))
          refine s_iload_n dM_happens_25 rfl rfl ?_
          refine s_iconst (v := 1) dM_happens_26 (by decide) ?_
          refine s_icmp_ne dM_happens_27 (fun _ => ?_) (fun q => absurd q (by decide))
          refine s_aload_n dM_happens_39 rfl rfl ?_
          refine s_mga dM_happens_40 gf_M_92 rfl ?_
          refine s_iload_n dM_happens_43 rfl rfl ?_
          refine s_mzld dM_happens_44 rfl rfl (show _ < 8 by omega) rfl ?_
          refine s_if_eq dM_happens_45 (fun q => absurd q hz) (fun _ => ?_)
          refine s_iconst (v := 1) dM_happens_48 (by decide) ?_
          refine s_goto dM_happens_49 ?_
          refine s_iret dM_happens_53 rfl (by first | exact Nat.le_refl _ | decide | omega) (by first | exact Nat.le_refl _ | decide | omega) ?_
          exact ⟨by simp [hz], rfl⟩
def fScene (σ : Sg) (a : Int32) (N : Nat) : Int32 × Sg := match ix a 2 with
  | none => (-1, σ)
  | some _ => if N = 8 then (-3, σ) else (nI N, us (us σ 41 N a) 40 0 (nI (N + 1)))
theorem c_M_scene {σ : Sg} {h : Hp} {N : Nat} (p : Int32) (hN : σ 40 0 = nI N) (h3 : N ≤ 8) : ConF mM_scene 1 [vR (100, 0, 0), vI p] (hM σ h) (some (vI (fScene σ p N).1)) (hM (fScene σ p N).2 h) := by
  unfold fScene
  refine c_enter (by decide +kernel) rfl rfl ?_
  rcases iz_cases p (K := 2) (by omega) with ⟨e, hz⟩ | ⟨j, hj, rfl, e⟩
  · rw [e]
    refine s_iload_n dM_scene_0 rfl rfl ?_
    refine s_iconst (v := 0) dM_scene_1 (by decide) ?_
    refine s_iconst (v := 1) dM_scene_2 (by decide) ?_
    refine s_t3 dM_scene_3 cs_M_117 (c_inZ (K := 2) (by omega) hz) rfl rfl rfl rfl ?_
    refine s_if_ne dM_scene_6 (fun q => absurd (by decide) q) (fun _ => ?_)
    refine s_iconst (v := (-1)) dM_scene_9 (by decide) ?_
    refine s_iret dM_scene_10 rfl (by first | exact Nat.le_refl _ | decide | omega) (by first | exact Nat.le_refl _ | decide | omega) ?_
    exact ⟨rfl, rfl⟩
  · rw [e]
    by_cases h20 : N = 8
    · subst h20
      refine s_iload_n dM_scene_0 rfl rfl ?_
      refine s_iconst (v := 0) dM_scene_1 (by decide) ?_
      refine s_iconst (v := 1) dM_scene_2 (by decide) ?_
      refine s_t3 dM_scene_3 cs_M_117 (c_inZ (K := 2) (by omega) (Iz1 hj)) rfl rfl rfl rfl ?_
      refine s_if_ne dM_scene_6 (fun _ => ?_) (fun q => absurd q (by decide))
      refine s_aload_n dM_scene_11 rfl rfl ?_
      refine s_mgi dM_scene_12 gf_M_144 rfl ?_
      refine s_top hN ?_
      refine s_bipush (v := nI 8) dM_scene_15 (by decide) ?_
      refine s_icmp_ne dM_scene_17 (fun q => absurd rfl q) (fun _ => ?_)
      refine s_bipush (v := (-3)) dM_scene_20 (by decide) ?_
      refine s_iret dM_scene_22 rfl (by first | exact Nat.le_refl _ | decide | omega) (by first | exact Nat.le_refl _ | decide | omega) ?_
      exact ⟨rfl, rfl⟩
    · refine s_iload_n dM_scene_0 rfl rfl ?_
      refine s_iconst (v := 0) dM_scene_1 (by decide) ?_
      refine s_iconst (v := 1) dM_scene_2 (by decide) ?_
      refine s_t3 dM_scene_3 cs_M_117 (c_inZ (K := 2) (by omega) (Iz1 hj)) rfl rfl rfl rfl ?_
      refine s_if_ne dM_scene_6 (fun _ => ?_) (fun q => absurd q (by decide))
      refine s_aload_n dM_scene_11 rfl rfl ?_
      refine s_mgi dM_scene_12 gf_M_144 rfl ?_
      refine s_top hN ?_
      refine s_bipush (v := nI 8) dM_scene_15 (by decide) ?_
      refine s_icmp_ne dM_scene_17 (fun _ => ?_) (fun q => absurd q (nI_ne h20 (by omega) (by omega)))
      refine s_aload_n dM_scene_23 rfl rfl ?_
      refine s_mga dM_scene_24 gf_M_89 rfl ?_
      refine s_aload_n dM_scene_27 rfl rfl ?_
      refine s_mgi dM_scene_28 gf_M_144 rfl ?_
      refine s_top hN ?_
      refine s_iload_n dM_scene_31 rfl rfl ?_
      refine s_mast dM_scene_32 rfl rfl (show _ < 8 by omega) rfl ?_
      refine s_aload_n dM_scene_33 rfl rfl ?_
      refine s_dup dM_scene_34 rfl ?_
      refine s_mgi dM_scene_35 gf_M_144 rfl ?_
      refine s_top hN ?_
      refine s_iconst (v := 1) dM_scene_38 (by decide) ?_
      first | refine s_iaddN dM_scene_39 ?_ | refine s_iadd dM_scene_39 ?_
      refine s_mpi dM_scene_40 gf_M_144 rfl rfl (by first | exact ⟨_, rfl⟩ | exact Or.inl rfl | exact Or.inr rfl) ?_
      refine s_aload_n dM_scene_43 rfl rfl ?_
      refine s_mgi dM_scene_44 gf_M_144 rfl ?_
      refine s_top (show _ = nI (N + 1) from rfl) ?_
      refine s_iconst (v := 1) dM_scene_47 (by decide) ?_
      first | refine s_isubN dM_scene_48 (by omega) ?_ | refine s_isub dM_scene_48 ?_
      refine s_iret dM_scene_49 rfl (by first | exact Nat.le_refl _ | decide | omega) (by first | exact Nat.le_refl _ | decide | omega) ?_
      rw [if_neg h20]
      exact ⟨by first | rfl | rw [nI_pred], rfl⟩
/-- a book's number, or NONE -/
def bN (b : Int32) (B : Nat) : Bool := decide (b = -4) || (ix b B).isSome
def Bz (r b : Int32) (B : Nat) : Prop := (r = 1 ∧ (b = -4 ∨ ∃ j, j < B ∧ b = nI j)) ∨ (r = 0 ∧ ¬ b = -4 ∧ Iz 0 b B)
theorem bz_cases (b : Int32) {B : Nat} (hB : B < 2 ^ 30) : (bN b B = true ∧ Bz 1 b B) ∨ (bN b B = false ∧ Bz 0 b B) := by
  unfold bN
  by_cases h : b = -4
  · exact Or.inl ⟨by simp [h], Or.inl ⟨rfl, Or.inl h⟩⟩
  · rcases iz_cases b hB with ⟨e, hz⟩ | ⟨j, hj, rfl, e⟩
    · exact Or.inr ⟨by simp [h, e], Or.inr ⟨rfl, h, hz⟩⟩
    · exact Or.inl ⟨by simp [e], Or.inl ⟨rfl, Or.inr ⟨j, hj, rfl⟩⟩⟩
theorem c_M_isBookOrNone {σ : Sg} {h : Hp} {B : Nat} {r b : Int32} (hB : σ 5 0 = nI B) (h1 : B < 2 ^ 30) (hz : Bz r b B) : ConF mM_isBookOrNone 2 [vR (100, 0, 0), vI b] (hM σ h) (some (vI r)) (hM σ h) := by
  refine c_enter (by decide +kernel) rfl rfl ?_
  rcases hz with ⟨rfl, rfl | ⟨j, hj, rfl⟩⟩ | ⟨rfl, hn, hz⟩
  · refine s_iload_n dM_isBookOrNone_0 rfl rfl ?_
    refine s_bipush (v := (-4)) dM_isBookOrNone_1 (by decide) ?_
    refine s_icmp_eq dM_isBookOrNone_3 (fun _ => ?_) (fun q => absurd rfl q)
    refine s_iconst (v := 1) dM_isBookOrNone_14 (by decide) ?_
    refine s_goto dM_isBookOrNone_15 ?_
    refine s_zret dM_isBookOrNone_19 rfl (by first | exact Or.inl rfl | exact Or.inr rfl | assumption) (by first | exact Nat.le_refl _ | decide | omega) (by first | exact Nat.le_refl _ | decide | omega) ?_
    exact ⟨rfl, rfl⟩
  · by_cases h4 : nI j = -4
    · refine s_iload_n dM_isBookOrNone_0 rfl rfl ?_
      refine s_bipush (v := (-4)) dM_isBookOrNone_1 (by decide) ?_
      refine s_icmp_eq dM_isBookOrNone_3 (fun _ => ?_) (fun q => absurd h4 q)
      refine s_iconst (v := 1) dM_isBookOrNone_14 (by decide) ?_
      refine s_goto dM_isBookOrNone_15 ?_
      refine s_zret dM_isBookOrNone_19 rfl (by first | exact Or.inl rfl | exact Or.inr rfl | assumption) (by first | exact Nat.le_refl _ | decide | omega) (by first | exact Nat.le_refl _ | decide | omega) ?_
      exact ⟨rfl, rfl⟩
    · refine s_iload_n dM_isBookOrNone_0 rfl rfl ?_
      refine s_bipush (v := (-4)) dM_isBookOrNone_1 (by decide) ?_
      refine s_icmp_eq dM_isBookOrNone_3 (fun q => absurd q h4) (fun _ => ?_)
      refine s_aload_n dM_isBookOrNone_6 rfl rfl ?_
      refine s_iload_n dM_isBookOrNone_7 rfl rfl ?_
      refine s_v1 dM_isBookOrNone_8 cv_M_135 hM_o (c_M_isBook hB h1 (Iz1 hj)) rfl rfl rfl rfl ?_
      refine s_if_eq dM_isBookOrNone_11 (fun q => absurd q (by decide)) (fun _ => ?_)
      refine s_iconst (v := 1) dM_isBookOrNone_14 (by decide) ?_
      refine s_goto dM_isBookOrNone_15 ?_
      refine s_zret dM_isBookOrNone_19 rfl (by first | exact Or.inl rfl | exact Or.inr rfl | assumption) (by first | exact Nat.le_refl _ | decide | omega) (by first | exact Nat.le_refl _ | decide | omega) ?_
      exact ⟨rfl, rfl⟩
  · refine s_iload_n dM_isBookOrNone_0 rfl rfl ?_
    refine s_bipush (v := (-4)) dM_isBookOrNone_1 (by decide) ?_
    refine s_icmp_eq dM_isBookOrNone_3 (fun q => absurd q hn) (fun _ => ?_)
    refine s_aload_n dM_isBookOrNone_6 rfl rfl ?_
    refine s_iload_n dM_isBookOrNone_7 rfl rfl ?_
    refine s_v1 dM_isBookOrNone_8 cv_M_135 hM_o (c_M_isBook hB h1 hz) rfl rfl rfl rfl ?_
    refine s_if_eq dM_isBookOrNone_11 (fun _ => ?_) (fun q => absurd rfl q)
    refine s_iconst (v := 0) dM_isBookOrNone_18 (by decide) ?_
    refine s_zret dM_isBookOrNone_19 rfl (by first | exact Or.inl rfl | exact Or.inr rfl | assumption) (by first | exact Nat.le_refl _ | decide | omega) (by first | exact Nat.le_refl _ | decide | omega) ?_
    exact ⟨rfl, rfl⟩
def fEvery (σ : Sg) (b : Int32) (B : Nat) : Int32 × Sg := if bN b B = true then (0, us σ 46 0 b) else (-1, σ)
theorem c_M_everyTurn {σ : Sg} {h : Hp} {B : Nat} (b : Int32) (hB : σ 5 0 = nI B) (h1 : B < 2 ^ 30) : ConF mM_everyTurn 3 [vR (100, 0, 0), vI b] (hM σ h) (some (vI (fEvery σ b B).1)) (hM (fEvery σ b B).2 h) := by
  unfold fEvery
  refine c_enter (by decide +kernel) rfl rfl ?_
  rcases bz_cases b h1 with ⟨e, hz⟩ | ⟨e, hz⟩
  · rw [e]
    refine s_aload_n dM_everyTurn_0 rfl rfl ?_
    refine s_iload_n dM_everyTurn_1 rfl rfl ?_
    refine s_v1 dM_everyTurn_2 cv_M_224 hM_o (c_M_isBookOrNone hB h1 hz) rfl rfl rfl rfl ?_
    refine s_if_ne dM_everyTurn_5 (fun _ => ?_) (fun q => absurd q (by decide))
    refine s_aload_n dM_everyTurn_10 rfl rfl ?_
    refine s_iload_n dM_everyTurn_11 rfl rfl ?_
    refine s_mpi dM_everyTurn_12 gf_M_114 rfl rfl (by first | exact ⟨_, rfl⟩ | exact Or.inl rfl | exact Or.inr rfl) ?_
    refine s_iconst (v := 0) dM_everyTurn_15 (by decide) ?_
    refine s_iret dM_everyTurn_16 rfl (by first | exact Nat.le_refl _ | decide | omega) (by first | exact Nat.le_refl _ | decide | omega) ?_
    exact ⟨rfl, rfl⟩
  · rw [e]
    refine s_aload_n dM_everyTurn_0 rfl rfl ?_
    refine s_iload_n dM_everyTurn_1 rfl rfl ?_
    refine s_v1 dM_everyTurn_2 cv_M_224 hM_o (c_M_isBookOrNone hB h1 hz) rfl rfl rfl rfl ?_
    refine s_if_ne dM_everyTurn_5 (fun q => absurd rfl q) (fun _ => ?_)
    refine s_iconst (v := (-1)) dM_everyTurn_8 (by decide) ?_
    refine s_iret dM_everyTurn_9 rfl (by first | exact Nat.le_refl _ | decide | omega) (by first | exact Nat.le_refl _ | decide | omega) ?_
    exact ⟨rfl, rfl⟩
def fAbandon (σ : Sg) (N : Nat) : Int32 × Sg := if N = 0 then (-2, σ) else (σ 38 (N - 1), us σ 37 0 (nI (N - 1)))
theorem c_M_abandon {σ : Sg} {h : Hp} {N : Nat} (hN : σ 37 0 = nI N) (h3 : N ≤ 4) : ConF mM_abandon 1 [vR (100, 0, 0)] (hM σ h) (some (vI (fAbandon σ N).1)) (hM (fAbandon σ N).2 h) := by
  unfold fAbandon
  refine c_enter (by decide +kernel) rfl rfl ?_
  by_cases h0 : N = 0
  · subst h0
    refine s_aload_n dM_abandon_0 rfl rfl ?_
    refine s_mgi dM_abandon_1 gf_M_233 rfl ?_
    refine s_top hN ?_
    refine s_if_ne dM_abandon_4 (fun q => absurd (by decide) q) (fun _ => ?_)
    refine s_bipush (v := (-2)) dM_abandon_7 (by decide) ?_
    refine s_iret dM_abandon_9 rfl (by first | exact Nat.le_refl _ | decide | omega) (by first | exact Nat.le_refl _ | decide | omega) ?_
    exact ⟨rfl, rfl⟩
  · refine s_aload_n dM_abandon_0 rfl rfl ?_
    refine s_mgi dM_abandon_1 gf_M_233 rfl ?_
    refine s_top hN ?_
    refine s_if_ne dM_abandon_4 (fun _ => ?_) (fun q => absurd q (nI_ne0 (by omega) (by omega)))
    refine s_aload_n dM_abandon_10 rfl rfl ?_
    refine s_dup dM_abandon_11 rfl ?_
    refine s_mgi dM_abandon_12 gf_M_233 rfl ?_
    refine s_top hN ?_
    refine s_iconst (v := 1) dM_abandon_15 (by decide) ?_
    first | refine s_isubN dM_abandon_16 (by omega) ?_ | refine s_isub dM_abandon_16 ?_
    refine s_top (nI_sub1 (by omega)) ?_
    refine s_mpi dM_abandon_17 gf_M_233 rfl rfl (by first | exact ⟨_, rfl⟩ | exact Or.inl rfl | exact Or.inr rfl) ?_
    refine s_aload_n dM_abandon_20 rfl rfl ?_
    refine s_mga dM_abandon_21 gf_M_83 rfl ?_
    refine s_aload_n dM_abandon_24 rfl rfl ?_
    refine s_mgi dM_abandon_25 gf_M_233 rfl ?_
    refine s_top (show _ = nI (N - 1) from rfl) ?_
    refine s_mald dM_abandon_28 rfl rfl (show _ < 4 by omega) rfl ?_
    refine s_iret dM_abandon_29 rfl (by first | exact Nat.le_refl _ | decide | omega) (by first | exact Nat.le_refl _ | decide | omega) ?_
    rw [if_neg h0]
    exact ⟨rfl, rfl⟩
end
