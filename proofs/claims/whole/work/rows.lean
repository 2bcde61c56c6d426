section
-- ===== PART A: goes FIRST, ahead of the names: the tables' words, and 'selects' of the private methods out of them =====
/-- a private method of a class that the tables say can be made, by its rows of tables_1 -/
def lw_okq (q : MethodName × Nat) : Prop := (q.1.cls ≠ "java/lang/invoke/MethodHandle" ∧ q.1.cls ≠ "java/lang/invoke/VarHandle") ∧ Cond.instantiable q.1.cls q.2 ∈ tables_1 ∧ Cond.privateMethod q.1 ∈ tables_1 ∧ Cond.instanceMethod q.1 ∈ tables_1
theorem lw_p0 : lw_okq (⟨"java/util/ArrayList", "add", "(Ljava/lang/Object;[Ljava/lang/Object;I)V"⟩, 3) := ⟨⟨by decide +kernel, by decide +kernel⟩, List.mem_of_getElem? (i := 50) (by decide +kernel), List.mem_of_getElem? (i := 294) (by decide +kernel), List.mem_of_getElem? (i := 295) (by decide +kernel)⟩
theorem lw_p1 : lw_okq (⟨"java/util/ArrayList", "grow", "()[Ljava/lang/Object;"⟩, 3) := ⟨⟨by decide +kernel, by decide +kernel⟩, List.mem_of_getElem? (i := 50) (by decide +kernel), List.mem_of_getElem? (i := 298) (by decide +kernel), List.mem_of_getElem? (i := 299) (by decide +kernel)⟩
theorem lw_p2 : lw_okq (⟨"java/util/ArrayList", "grow", "(I)[Ljava/lang/Object;"⟩, 3) := ⟨⟨by decide +kernel, by decide +kernel⟩, List.mem_of_getElem? (i := 50) (by decide +kernel), List.mem_of_getElem? (i := 302) (by decide +kernel), List.mem_of_getElem? (i := 303) (by decide +kernel)⟩
theorem lw_p3 : lw_okq (⟨"RuleBooks", "subjectAt", "(I)LRuleBooks$Subject;"⟩, 15) := ⟨⟨by decide +kernel, by decide +kernel⟩, List.mem_of_getElem? (i := 24) (by decide +kernel), List.mem_of_getElem? (i := 355) (by decide +kernel), List.mem_of_getElem? (i := 356) (by decide +kernel)⟩
theorem lw_p4 : lw_okq (⟨"RuleBooks", "bookAt", "(I)LRuleBooks$Book;"⟩, 15) := ⟨⟨by decide +kernel, by decide +kernel⟩, List.mem_of_getElem? (i := 24) (by decide +kernel), List.mem_of_getElem? (i := 417) (by decide +kernel), List.mem_of_getElem? (i := 418) (by decide +kernel)⟩
theorem lw_p5 : lw_okq (⟨"RuleBooks$Book", "putByRank", "(LRuleBooks$Rule;)V"⟩, 5) := ⟨⟨by decide +kernel, by decide +kernel⟩, List.mem_of_getElem? (i := 384) (by decide +kernel), List.mem_of_getElem? (i := 495) (by decide +kernel), List.mem_of_getElem? (i := 496) (by decide +kernel)⟩
theorem lw_p6 : lw_okq (⟨"java/util/ArrayList", "rangeCheckForAdd", "(I)V"⟩, 3) := ⟨⟨by decide +kernel, by decide +kernel⟩, List.mem_of_getElem? (i := 50) (by decide +kernel), List.mem_of_getElem? (i := 508) (by decide +kernel), List.mem_of_getElem? (i := 509) (by decide +kernel)⟩
theorem lw_p7 : lw_okq (⟨"RuleBooks$Book", "carryOutOrder", "(LRuleBooks$Rule;)V"⟩, 5) := ⟨⟨by decide +kernel, by decide +kernel⟩, List.mem_of_getElem? (i := 384) (by decide +kernel), List.mem_of_getElem? (i := 513) (by decide +kernel), List.mem_of_getElem? (i := 514) (by decide +kernel)⟩
theorem lw_p8 : lw_okq (⟨"java/util/ArrayList", "fastRemove", "([Ljava/lang/Object;I)V"⟩, 3) := ⟨⟨by decide +kernel, by decide +kernel⟩, List.mem_of_getElem? (i := 50) (by decide +kernel), List.mem_of_getElem? (i := 527) (by decide +kernel), List.mem_of_getElem? (i := 528) (by decide +kernel)⟩
theorem lw_p9 : lw_okq (⟨"RuleBooks", "ruleAt", "(I)LRuleBooks$Rule;"⟩, 15) := ⟨⟨by decide +kernel, by decide +kernel⟩, List.mem_of_getElem? (i := 24) (by decide +kernel), List.mem_of_getElem? (i := 539) (by decide +kernel), List.mem_of_getElem? (i := 540) (by decide +kernel)⟩
theorem lw_p10 : lw_okq (⟨"RuleBooks", "isConditionOf", "(LRuleBooks$Rule;II)Z"⟩, 15) := ⟨⟨by decide +kernel, by decide +kernel⟩, List.mem_of_getElem? (i := 24) (by decide +kernel), List.mem_of_getElem? (i := 543) (by decide +kernel), List.mem_of_getElem? (i := 544) (by decide +kernel)⟩
theorem lw_p11 : lw_okq (⟨"RuleBooks", "isDeed", "(III)Z"⟩, 15) := ⟨⟨by decide +kernel, by decide +kernel⟩, List.mem_of_getElem? (i := 24) (by decide +kernel), List.mem_of_getElem? (i := 584) (by decide +kernel), List.mem_of_getElem? (i := 585) (by decide +kernel)⟩
theorem lw_p12 : lw_okq (⟨"RuleBooks$Runner", "startCall", "()V"⟩, 7) := ⟨⟨by decide +kernel, by decide +kernel⟩, List.mem_of_getElem? (i := 129) (by decide +kernel), List.mem_of_getElem? (i := 609) (by decide +kernel), List.mem_of_getElem? (i := 610) (by decide +kernel)⟩
theorem lw_p13 : lw_okq (⟨"RuleBooks$Runner", "outcomeOf", "(LRuleBooks$Book;LRuleBooks$Subject;I)I"⟩, 7) := ⟨⟨by decide +kernel, by decide +kernel⟩, List.mem_of_getElem? (i := 129) (by decide +kernel), List.mem_of_getElem? (i := 613) (by decide +kernel), List.mem_of_getElem? (i := 614) (by decide +kernel)⟩
theorem lw_p14 : lw_okq (⟨"RuleBooks$Runner", "lookAt", "(LRuleBooks$Rule;LRuleBooks$Subject;LRuleBooks$OwnState;I)I"⟩, 7) := ⟨⟨by decide +kernel, by decide +kernel⟩, List.mem_of_getElem? (i := 129) (by decide +kernel), List.mem_of_getElem? (i := 625) (by decide +kernel), List.mem_of_getElem? (i := 626) (by decide +kernel)⟩
theorem lw_p15 : lw_okq (⟨"RuleBooks$Runner", "err", "(ILRuleBooks$Rule;)I"⟩, 7) := ⟨⟨by decide +kernel, by decide +kernel⟩, List.mem_of_getElem? (i := 129) (by decide +kernel), List.mem_of_getElem? (i := 633) (by decide +kernel), List.mem_of_getElem? (i := 634) (by decide +kernel)⟩
def lw_privs_1 : List (MethodName × Nat) := [(⟨"java/util/ArrayList", "add", "(Ljava/lang/Object;[Ljava/lang/Object;I)V"⟩, 3), (⟨"java/util/ArrayList", "grow", "()[Ljava/lang/Object;"⟩, 3), (⟨"java/util/ArrayList", "grow", "(I)[Ljava/lang/Object;"⟩, 3), (⟨"RuleBooks", "subjectAt", "(I)LRuleBooks$Subject;"⟩, 15), (⟨"RuleBooks", "bookAt", "(I)LRuleBooks$Book;"⟩, 15), (⟨"RuleBooks$Book", "putByRank", "(LRuleBooks$Rule;)V"⟩, 5), (⟨"java/util/ArrayList", "rangeCheckForAdd", "(I)V"⟩, 3), (⟨"RuleBooks$Book", "carryOutOrder", "(LRuleBooks$Rule;)V"⟩, 5), (⟨"java/util/ArrayList", "fastRemove", "([Ljava/lang/Object;I)V"⟩, 3), (⟨"RuleBooks", "ruleAt", "(I)LRuleBooks$Rule;"⟩, 15), (⟨"RuleBooks", "isConditionOf", "(LRuleBooks$Rule;II)Z"⟩, 15), (⟨"RuleBooks", "isDeed", "(III)Z"⟩, 15), (⟨"RuleBooks$Runner", "startCall", "()V"⟩, 7), (⟨"RuleBooks$Runner", "outcomeOf", "(LRuleBooks$Book;LRuleBooks$Subject;I)I"⟩, 7), (⟨"RuleBooks$Runner", "lookAt", "(LRuleBooks$Rule;LRuleBooks$Subject;LRuleBooks$OwnState;I)I"⟩, 7), (⟨"RuleBooks$Runner", "err", "(ILRuleBooks$Rule;)I"⟩, 7)]
theorem lw_r1 : ∀ q ∈ lw_privs_1, lw_okq q := List.forall_mem_cons.mpr ⟨lw_p0, List.forall_mem_cons.mpr ⟨lw_p1, List.forall_mem_cons.mpr ⟨lw_p2, List.forall_mem_cons.mpr ⟨lw_p3, List.forall_mem_cons.mpr ⟨lw_p4, List.forall_mem_cons.mpr ⟨lw_p5, List.forall_mem_cons.mpr ⟨lw_p6, List.forall_mem_cons.mpr ⟨lw_p7, List.forall_mem_cons.mpr ⟨lw_p8, List.forall_mem_cons.mpr ⟨lw_p9, List.forall_mem_cons.mpr ⟨lw_p10, List.forall_mem_cons.mpr ⟨lw_p11, List.forall_mem_cons.mpr ⟨lw_p12, List.forall_mem_cons.mpr ⟨lw_p13, List.forall_mem_cons.mpr ⟨lw_p14, List.forall_mem_cons.mpr ⟨lw_p15, fun _ h => absurd h List.not_mem_nil⟩⟩⟩⟩⟩⟩⟩⟩⟩⟩⟩⟩⟩⟩⟩⟩
theorem lw_p16 : lw_okq (⟨"RuleBooks$Runner", "areAllSo", "(Ljava/util/ArrayList;LRuleBooks$Subject;LRuleBooks$OwnState;)Z"⟩, 7) := ⟨⟨by decide +kernel, by decide +kernel⟩, List.mem_of_getElem? (i := 129) (by decide +kernel), List.mem_of_getElem? (i := 637) (by decide +kernel), List.mem_of_getElem? (i := 638) (by decide +kernel)⟩
theorem lw_p17 : lw_okq (⟨"RuleBooks$Runner", "isSo", "(LRuleBooks$Condition;LRuleBooks$Subject;LRuleBooks$OwnState;)Z"⟩, 7) := ⟨⟨by decide +kernel, by decide +kernel⟩, List.mem_of_getElem? (i := 129) (by decide +kernel), List.mem_of_getElem? (i := 642) (by decide +kernel), List.mem_of_getElem? (i := 643) (by decide +kernel)⟩
theorem lw_p18 : lw_okq (⟨"RuleBooks$Runner", "perform", "(LRuleBooks$Rule;LRuleBooks$Subject;LRuleBooks$OwnState;I)I"⟩, 7) := ⟨⟨by decide +kernel, by decide +kernel⟩, List.mem_of_getElem? (i := 129) (by decide +kernel), List.mem_of_getElem? (i := 666) (by decide +kernel), List.mem_of_getElem? (i := 667) (by decide +kernel)⟩
theorem lw_p19 : lw_okq (⟨"RuleBooks$Runner", "goToBook", "(LRuleBooks$Rule;LRuleBooks$Subject;I)I"⟩, 7) := ⟨⟨by decide +kernel, by decide +kernel⟩, List.mem_of_getElem? (i := 129) (by decide +kernel), List.mem_of_getElem? (i := 670) (by decide +kernel), List.mem_of_getElem? (i := 671) (by decide +kernel)⟩
theorem lw_p20 : lw_okq (⟨"RuleBooks$Runner", "hasErred", "()Z"⟩, 7) := ⟨⟨by decide +kernel, by decide +kernel⟩, List.mem_of_getElem? (i := 129) (by decide +kernel), List.mem_of_getElem? (i := 675) (by decide +kernel), List.mem_of_getElem? (i := 676) (by decide +kernel)⟩
theorem lw_p21 : lw_okq (⟨"RuleBooks$Runner", "errAnswer", "()I"⟩, 7) := ⟨⟨by decide +kernel, by decide +kernel⟩, List.mem_of_getElem? (i := 129) (by decide +kernel), List.mem_of_getElem? (i := 679) (by decide +kernel), List.mem_of_getElem? (i := 680) (by decide +kernel)⟩
theorem lw_p22 : lw_okq (⟨"RuleBooks", "areBooksOrNone", "([I)Z"⟩, 15) := ⟨⟨by decide +kernel, by decide +kernel⟩, List.mem_of_getElem? (i := 24) (by decide +kernel), List.mem_of_getElem? (i := 699) (by decide +kernel), List.mem_of_getElem? (i := 700) (by decide +kernel)⟩
theorem lw_p23 : lw_okq (⟨"RuleBooks", "isBookOrNone", "(I)Z"⟩, 15) := ⟨⟨by decide +kernel, by decide +kernel⟩, List.mem_of_getElem? (i := 24) (by decide +kernel), List.mem_of_getElem? (i := 703) (by decide +kernel), List.mem_of_getElem? (i := 704) (by decide +kernel)⟩
theorem lw_p24 : lw_okq (⟨"RuleBooks", "latestPart", "(I)LRuleBooks$Book;"⟩, 15) := ⟨⟨by decide +kernel, by decide +kernel⟩, List.mem_of_getElem? (i := 24) (by decide +kernel), List.mem_of_getElem? (i := 727) (by decide +kernel), List.mem_of_getElem? (i := 728) (by decide +kernel)⟩
theorem lw_p25 : lw_okq (⟨"RuleBooks", "latestSubject", "()LRuleBooks$Subject;"⟩, 15) := ⟨⟨by decide +kernel, by decide +kernel⟩, List.mem_of_getElem? (i := 24) (by decide +kernel), List.mem_of_getElem? (i := 731) (by decide +kernel), List.mem_of_getElem? (i := 732) (by decide +kernel)⟩
theorem lw_p26 : lw_okq (⟨"RuleBooks$Scenes", "goRound", "()V"⟩, 5) := ⟨⟨by decide +kernel, by decide +kernel⟩, List.mem_of_getElem? (i := 78) (by decide +kernel), List.mem_of_getElem? (i := 808) (by decide +kernel), List.mem_of_getElem? (i := 809) (by decide +kernel)⟩
theorem lw_p27 : lw_okq (⟨"RuleBooks$Scenes", "mayChange", "(II)Z"⟩, 5) := ⟨⟨by decide +kernel, by decide +kernel⟩, List.mem_of_getElem? (i := 78) (by decide +kernel), List.mem_of_getElem? (i := 812) (by decide +kernel), List.mem_of_getElem? (i := 813) (by decide +kernel)⟩
theorem lw_p28 : lw_okq (⟨"RuleBooks$Scenes", "wasInTurn", "(I)Z"⟩, 5) := ⟨⟨by decide +kernel, by decide +kernel⟩, List.mem_of_getElem? (i := 78) (by decide +kernel), List.mem_of_getElem? (i := 816) (by decide +kernel), List.mem_of_getElem? (i := 817) (by decide +kernel)⟩
theorem lw_p29 : lw_okq (⟨"RuleBooks$Scenes", "isMet", "(II)Z"⟩, 5) := ⟨⟨by decide +kernel, by decide +kernel⟩, List.mem_of_getElem? (i := 78) (by decide +kernel), List.mem_of_getElem? (i := 820) (by decide +kernel), List.mem_of_getElem? (i := 821) (by decide +kernel)⟩
theorem lw_p30 : lw_okq (⟨"RuleBooks$Scenes", "change", "(II)V"⟩, 5) := ⟨⟨by decide +kernel, by decide +kernel⟩, List.mem_of_getElem? (i := 78) (by decide +kernel), List.mem_of_getElem? (i := 825) (by decide +kernel), List.mem_of_getElem? (i := 826) (by decide +kernel)⟩
theorem lw_p31 : lw_okq (⟨"RuleBooks$Phrases", "isTold", "(III)Z"⟩, 5) := ⟨⟨by decide +kernel, by decide +kernel⟩, List.mem_of_getElem? (i := 106) (by decide +kernel), List.mem_of_getElem? (i := 853) (by decide +kernel), List.mem_of_getElem? (i := 854) (by decide +kernel)⟩
def lw_privs_2 : List (MethodName × Nat) := [(⟨"RuleBooks$Runner", "areAllSo", "(Ljava/util/ArrayList;LRuleBooks$Subject;LRuleBooks$OwnState;)Z"⟩, 7), (⟨"RuleBooks$Runner", "isSo", "(LRuleBooks$Condition;LRuleBooks$Subject;LRuleBooks$OwnState;)Z"⟩, 7), (⟨"RuleBooks$Runner", "perform", "(LRuleBooks$Rule;LRuleBooks$Subject;LRuleBooks$OwnState;I)I"⟩, 7), (⟨"RuleBooks$Runner", "goToBook", "(LRuleBooks$Rule;LRuleBooks$Subject;I)I"⟩, 7), (⟨"RuleBooks$Runner", "hasErred", "()Z"⟩, 7), (⟨"RuleBooks$Runner", "errAnswer", "()I"⟩, 7), (⟨"RuleBooks", "areBooksOrNone", "([I)Z"⟩, 15), (⟨"RuleBooks", "isBookOrNone", "(I)Z"⟩, 15), (⟨"RuleBooks", "latestPart", "(I)LRuleBooks$Book;"⟩, 15), (⟨"RuleBooks", "latestSubject", "()LRuleBooks$Subject;"⟩, 15), (⟨"RuleBooks$Scenes", "goRound", "()V"⟩, 5), (⟨"RuleBooks$Scenes", "mayChange", "(II)Z"⟩, 5), (⟨"RuleBooks$Scenes", "wasInTurn", "(I)Z"⟩, 5), (⟨"RuleBooks$Scenes", "isMet", "(II)Z"⟩, 5), (⟨"RuleBooks$Scenes", "change", "(II)V"⟩, 5), (⟨"RuleBooks$Phrases", "isTold", "(III)Z"⟩, 5)]
theorem lw_r2 : ∀ q ∈ lw_privs_2, lw_okq q := List.forall_mem_cons.mpr ⟨lw_p16, List.forall_mem_cons.mpr ⟨lw_p17, List.forall_mem_cons.mpr ⟨lw_p18, List.forall_mem_cons.mpr ⟨lw_p19, List.forall_mem_cons.mpr ⟨lw_p20, List.forall_mem_cons.mpr ⟨lw_p21, List.forall_mem_cons.mpr ⟨lw_p22, List.forall_mem_cons.mpr ⟨lw_p23, List.forall_mem_cons.mpr ⟨lw_p24, List.forall_mem_cons.mpr ⟨lw_p25, List.forall_mem_cons.mpr ⟨lw_p26, List.forall_mem_cons.mpr ⟨lw_p27, List.forall_mem_cons.mpr ⟨lw_p28, List.forall_mem_cons.mpr ⟨lw_p29, List.forall_mem_cons.mpr ⟨lw_p30, List.forall_mem_cons.mpr ⟨lw_p31, fun _ h => absurd h List.not_mem_nil⟩⟩⟩⟩⟩⟩⟩⟩⟩⟩⟩⟩⟩⟩⟩⟩
theorem lw_p32 : lw_okq (⟨"RuleBooks$Phrases", "isMeant", "(IIII)Z"⟩, 5) := ⟨⟨by decide +kernel, by decide +kernel⟩, List.mem_of_getElem? (i := 106) (by decide +kernel), List.mem_of_getElem? (i := 865) (by decide +kernel), List.mem_of_getElem? (i := 866) (by decide +kernel)⟩
theorem lw_p33 : lw_okq (⟨"RuleBooks$Phrases", "isUnderAllMeant", "(III)Z"⟩, 5) := ⟨⟨by decide +kernel, by decide +kernel⟩, List.mem_of_getElem? (i := 106) (by decide +kernel), List.mem_of_getElem? (i := 870) (by decide +kernel), List.mem_of_getElem? (i := 871) (by decide +kernel)⟩
theorem lw_p34 : lw_okq (⟨"RuleBooksModel", "isUnder", "(II)Z"⟩, 52) := ⟨⟨by decide +kernel, by decide +kernel⟩, List.mem_of_getElem? (i := 878) (by decide +kernel), List.mem_of_getElem? (i := 1053) (by decide +kernel), List.mem_of_getElem? (i := 1054) (by decide +kernel)⟩
theorem lw_p35 : lw_okq (⟨"RuleBooksModel", "isSubject", "(I)Z"⟩, 52) := ⟨⟨by decide +kernel, by decide +kernel⟩, List.mem_of_getElem? (i := 878) (by decide +kernel), List.mem_of_getElem? (i := 1065) (by decide +kernel), List.mem_of_getElem? (i := 1066) (by decide +kernel)⟩
theorem lw_p36 : lw_okq (⟨"RuleBooksModel", "isBook", "(I)Z"⟩, 52) := ⟨⟨by decide +kernel, by decide +kernel⟩, List.mem_of_getElem? (i := 878) (by decide +kernel), List.mem_of_getElem? (i := 1081) (by decide +kernel), List.mem_of_getElem? (i := 1082) (by decide +kernel)⟩
theorem lw_p37 : lw_okq (⟨"RuleBooksModel", "isRule", "(I)Z"⟩, 52) := ⟨⟨by decide +kernel, by decide +kernel⟩, List.mem_of_getElem? (i := 878) (by decide +kernel), List.mem_of_getElem? (i := 1093) (by decide +kernel), List.mem_of_getElem? (i := 1094) (by decide +kernel)⟩
theorem lw_p38 : lw_okq (⟨"RuleBooksModel", "makes", "(I)V"⟩, 52) := ⟨⟨by decide +kernel, by decide +kernel⟩, List.mem_of_getElem? (i := 878) (by decide +kernel), List.mem_of_getElem? (i := 1109) (by decide +kernel), List.mem_of_getElem? (i := 1110) (by decide +kernel)⟩
theorem lw_p39 : lw_okq (⟨"RuleBooksModel", "isAhead", "(II)Z"⟩, 52) := ⟨⟨by decide +kernel, by decide +kernel⟩, List.mem_of_getElem? (i := 878) (by decide +kernel), List.mem_of_getElem? (i := 1113) (by decide +kernel), List.mem_of_getElem? (i := 1114) (by decide +kernel)⟩
theorem lw_p40 : lw_okq (⟨"RuleBooksModel", "deeps", "(I)I"⟩, 52) := ⟨⟨by decide +kernel, by decide +kernel⟩, List.mem_of_getElem? (i := 878) (by decide +kernel), List.mem_of_getElem? (i := 1117) (by decide +kernel), List.mem_of_getElem? (i := 1118) (by decide +kernel)⟩
theorem lw_p41 : lw_okq (⟨"RuleBooksModel", "deep", "(I)I"⟩, 52) := ⟨⟨by decide +kernel, by decide +kernel⟩, List.mem_of_getElem? (i := 878) (by decide +kernel), List.mem_of_getElem? (i := 1121) (by decide +kernel), List.mem_of_getElem? (i := 1122) (by decide +kernel)⟩
theorem lw_p42 : lw_okq (⟨"RuleBooksModel", "comes", "(II)V"⟩, 52) := ⟨⟨by decide +kernel, by decide +kernel⟩, List.mem_of_getElem? (i := 878) (by decide +kernel), List.mem_of_getElem? (i := 1125) (by decide +kernel), List.mem_of_getElem? (i := 1126) (by decide +kernel)⟩
theorem lw_p43 : lw_okq (⟨"RuleBooksModel", "nextOrder", "(II)I"⟩, 52) := ⟨⟨by decide +kernel, by decide +kernel⟩, List.mem_of_getElem? (i := 878) (by decide +kernel), List.mem_of_getElem? (i := 1129) (by decide +kernel), List.mem_of_getElem? (i := 1130) (by decide +kernel)⟩
theorem lw_p44 : lw_okq (⟨"RuleBooksModel", "moves", "(I)V"⟩, 52) := ⟨⟨by decide +kernel, by decide +kernel⟩, List.mem_of_getElem? (i := 878) (by decide +kernel), List.mem_of_getElem? (i := 1133) (by decide +kernel), List.mem_of_getElem? (i := 1134) (by decide +kernel)⟩
theorem lw_p45 : lw_okq (⟨"RuleBooksModel", "placeOf", "(I)I"⟩, 52) := ⟨⟨by decide +kernel, by decide +kernel⟩, List.mem_of_getElem? (i := 878) (by decide +kernel), List.mem_of_getElem? (i := 1137) (by decide +kernel), List.mem_of_getElem? (i := 1138) (by decide +kernel)⟩
theorem lw_p46 : lw_okq (⟨"RuleBooksModel", "goes", "(I)V"⟩, 52) := ⟨⟨by decide +kernel, by decide +kernel⟩, List.mem_of_getElem? (i := 878) (by decide +kernel), List.mem_of_getElem? (i := 1141) (by decide +kernel), List.mem_of_getElem? (i := 1142) (by decide +kernel)⟩
theorem lw_p47 : lw_okq (⟨"RuleBooksModel", "answer", "(II)I"⟩, 52) := ⟨⟨by decide +kernel, by decide +kernel⟩, List.mem_of_getElem? (i := 878) (by decide +kernel), List.mem_of_getElem? (i := 1149) (by decide +kernel), List.mem_of_getElem? (i := 1150) (by decide +kernel)⟩
def lw_privs_3 : List (MethodName × Nat) := [(⟨"RuleBooks$Phrases", "isMeant", "(IIII)Z"⟩, 5), (⟨"RuleBooks$Phrases", "isUnderAllMeant", "(III)Z"⟩, 5), (⟨"RuleBooksModel", "isUnder", "(II)Z"⟩, 52), (⟨"RuleBooksModel", "isSubject", "(I)Z"⟩, 52), (⟨"RuleBooksModel", "isBook", "(I)Z"⟩, 52), (⟨"RuleBooksModel", "isRule", "(I)Z"⟩, 52), (⟨"RuleBooksModel", "makes", "(I)V"⟩, 52), (⟨"RuleBooksModel", "isAhead", "(II)Z"⟩, 52), (⟨"RuleBooksModel", "deeps", "(I)I"⟩, 52), (⟨"RuleBooksModel", "deep", "(I)I"⟩, 52), (⟨"RuleBooksModel", "comes", "(II)V"⟩, 52), (⟨"RuleBooksModel", "nextOrder", "(II)I"⟩, 52), (⟨"RuleBooksModel", "moves", "(I)V"⟩, 52), (⟨"RuleBooksModel", "placeOf", "(I)I"⟩, 52), (⟨"RuleBooksModel", "goes", "(I)V"⟩, 52), (⟨"RuleBooksModel", "answer", "(II)I"⟩, 52)]
theorem lw_r3 : ∀ q ∈ lw_privs_3, lw_okq q := List.forall_mem_cons.mpr ⟨lw_p32, List.forall_mem_cons.mpr ⟨lw_p33, List.forall_mem_cons.mpr ⟨lw_p34, List.forall_mem_cons.mpr ⟨lw_p35, List.forall_mem_cons.mpr ⟨lw_p36, List.forall_mem_cons.mpr ⟨lw_p37, List.forall_mem_cons.mpr ⟨lw_p38, List.forall_mem_cons.mpr ⟨lw_p39, List.forall_mem_cons.mpr ⟨lw_p40, List.forall_mem_cons.mpr ⟨lw_p41, List.forall_mem_cons.mpr ⟨lw_p42, List.forall_mem_cons.mpr ⟨lw_p43, List.forall_mem_cons.mpr ⟨lw_p44, List.forall_mem_cons.mpr ⟨lw_p45, List.forall_mem_cons.mpr ⟨lw_p46, List.forall_mem_cons.mpr ⟨lw_p47, fun _ h => absurd h List.not_mem_nil⟩⟩⟩⟩⟩⟩⟩⟩⟩⟩⟩⟩⟩⟩⟩⟩
theorem lw_p48 : lw_okq (⟨"RuleBooksModel", "runs", "(II)I"⟩, 52) := ⟨⟨by decide +kernel, by decide +kernel⟩, List.mem_of_getElem? (i := 878) (by decide +kernel), List.mem_of_getElem? (i := 1153) (by decide +kernel), List.mem_of_getElem? (i := 1154) (by decide +kernel)⟩
theorem lw_p49 : lw_okq (⟨"RuleBooksModel", "pushes", "(IZ)V"⟩, 52) := ⟨⟨by decide +kernel, by decide +kernel⟩, List.mem_of_getElem? (i := 878) (by decide +kernel), List.mem_of_getElem? (i := 1157) (by decide +kernel), List.mem_of_getElem? (i := 1158) (by decide +kernel)⟩
theorem lw_p50 : lw_okq (⟨"RuleBooksModel", "fails", "(II)I"⟩, 52) := ⟨⟨by decide +kernel, by decide +kernel⟩, List.mem_of_getElem? (i := 878) (by decide +kernel), List.mem_of_getElem? (i := 1161) (by decide +kernel), List.mem_of_getElem? (i := 1162) (by decide +kernel)⟩
theorem lw_p51 : lw_okq (⟨"RuleBooksModel", "applies", "(III)Z"⟩, 52) := ⟨⟨by decide +kernel, by decide +kernel⟩, List.mem_of_getElem? (i := 878) (by decide +kernel), List.mem_of_getElem? (i := 1165) (by decide +kernel), List.mem_of_getElem? (i := 1166) (by decide +kernel)⟩
theorem lw_p52 : lw_okq (⟨"RuleBooksModel", "isSo", "(IIIII)Z"⟩, 52) := ⟨⟨by decide +kernel, by decide +kernel⟩, List.mem_of_getElem? (i := 878) (by decide +kernel), List.mem_of_getElem? (i := 1169) (by decide +kernel), List.mem_of_getElem? (i := 1170) (by decide +kernel)⟩
theorem lw_p53 : lw_okq (⟨"RuleBooksModel", "works", "(III)I"⟩, 52) := ⟨⟨by decide +kernel, by decide +kernel⟩, List.mem_of_getElem? (i := 878) (by decide +kernel), List.mem_of_getElem? (i := 1173) (by decide +kernel), List.mem_of_getElem? (i := 1174) (by decide +kernel)⟩
theorem lw_p54 : lw_okq (⟨"RuleBooksModel", "isBookOrNone", "(I)Z"⟩, 52) := ⟨⟨by decide +kernel, by decide +kernel⟩, List.mem_of_getElem? (i := 878) (by decide +kernel), List.mem_of_getElem? (i := 1189) (by decide +kernel), List.mem_of_getElem? (i := 1190) (by decide +kernel)⟩
theorem lw_p55 : lw_okq (⟨"RuleBooksModel", "part", "(III)I"⟩, 52) := ⟨⟨by decide +kernel, by decide +kernel⟩, List.mem_of_getElem? (i := 878) (by decide +kernel), List.mem_of_getElem? (i := 1205) (by decide +kernel), List.mem_of_getElem? (i := 1206) (by decide +kernel)⟩
theorem lw_p56 : lw_okq (⟨"RuleBooksModel", "isEvent", "(I)Z"⟩, 52) := ⟨⟨by decide +kernel, by decide +kernel⟩, List.mem_of_getElem? (i := 878) (by decide +kernel), List.mem_of_getElem? (i := 1237) (by decide +kernel), List.mem_of_getElem? (i := 1238) (by decide +kernel)⟩
theorem lw_p57 : lw_okq (⟨"RuleBooksModel", "isMet", "(I)Z"⟩, 52) := ⟨⟨by decide +kernel, by decide +kernel⟩, List.mem_of_getElem? (i := 878) (by decide +kernel), List.mem_of_getElem? (i := 1241) (by decide +kernel), List.mem_of_getElem? (i := 1242) (by decide +kernel)⟩
theorem lw_p58 : lw_okq (⟨"RuleBooksModel", "isMeant", "(IIII)Z"⟩, 52) := ⟨⟨by decide +kernel, by decide +kernel⟩, List.mem_of_getElem? (i := 878) (by decide +kernel), List.mem_of_getElem? (i := 1261) (by decide +kernel), List.mem_of_getElem? (i := 1262) (by decide +kernel)⟩
def lw_privs_4 : List (MethodName × Nat) := [(⟨"RuleBooksModel", "runs", "(II)I"⟩, 52), (⟨"RuleBooksModel", "pushes", "(IZ)V"⟩, 52), (⟨"RuleBooksModel", "fails", "(II)I"⟩, 52), (⟨"RuleBooksModel", "applies", "(III)Z"⟩, 52), (⟨"RuleBooksModel", "isSo", "(IIIII)Z"⟩, 52), (⟨"RuleBooksModel", "works", "(III)I"⟩, 52), (⟨"RuleBooksModel", "isBookOrNone", "(I)Z"⟩, 52), (⟨"RuleBooksModel", "part", "(III)I"⟩, 52), (⟨"RuleBooksModel", "isEvent", "(I)Z"⟩, 52), (⟨"RuleBooksModel", "isMet", "(I)Z"⟩, 52), (⟨"RuleBooksModel", "isMeant", "(IIII)Z"⟩, 52)]
theorem lw_r4 : ∀ q ∈ lw_privs_4, lw_okq q := List.forall_mem_cons.mpr ⟨lw_p48, List.forall_mem_cons.mpr ⟨lw_p49, List.forall_mem_cons.mpr ⟨lw_p50, List.forall_mem_cons.mpr ⟨lw_p51, List.forall_mem_cons.mpr ⟨lw_p52, List.forall_mem_cons.mpr ⟨lw_p53, List.forall_mem_cons.mpr ⟨lw_p54, List.forall_mem_cons.mpr ⟨lw_p55, List.forall_mem_cons.mpr ⟨lw_p56, List.forall_mem_cons.mpr ⟨lw_p57, List.forall_mem_cons.mpr ⟨lw_p58, fun _ h => absurd h List.not_mem_nil⟩⟩⟩⟩⟩⟩⟩⟩⟩⟩⟩
def lw_privs : List (MethodName × Nat) := lw_privs_1 ++ (lw_privs_2 ++ (lw_privs_3 ++ (lw_privs_4)))
def lw_tbl : List Cond := k2_sels lw_privs ++ tables_1
theorem lw_privs_ok : ∀ q ∈ lw_privs, lw_okq q := by
  show ∀ q ∈ lw_privs_1 ++ (lw_privs_2 ++ (lw_privs_3 ++ (lw_privs_4))), lw_okq q
  exact List.forall_mem_append.mpr ⟨lw_r1, List.forall_mem_append.mpr ⟨lw_r2, List.forall_mem_append.mpr ⟨lw_r3, lw_r4⟩⟩⟩
end
section
def cT0 : u_T := fun k => match k with
  | 0 => ("RuleBooks$Book", "otherwise", "I", true)
  | 1 => ("RuleBooks$Book", "firstNumbers", "[I", true)
  | 2 => ("RuleBooks$Book", "own", "Ljava/util/ArrayList;", true)
  | 3 => ("RuleBooks$Book", "ordered", "Ljava/util/ArrayList;", true)
  | _ => ("RuleBooks$Book", "row", "Ljava/util/ArrayList;", true)
def cY0 : Nat → FieldType := fun k => match k with
  | 0 => .int
  | 1 => .array (.int)
  | 2 => .object "java/util/ArrayList"
  | 3 => .object "java/util/ArrayList"
  | _ => .object "java/util/ArrayList"
def cT1 : u_T := fun k => match k with
  | 0 => ("RuleBooks$Condition", "code", "I", true)
  | 1 => ("RuleBooks$Condition", "contrary", "Z", true)
  | 2 => ("RuleBooks$Condition", "x", "I", true)
  | _ => ("RuleBooks$Condition", "y", "I", true)
def cY1 : Nat → FieldType := fun k => match k with
  | 0 => .int
  | 1 => .boolean
  | 2 => .int
  | _ => .int
def cT2 : u_T := fun k => match k with
  | 0 => ("RuleBooks$Kinds", "parents", "[I", true)
  | 1 => ("RuleBooks$Kinds", "deeps", "[I", true)
  | _ => ("RuleBooks$Kinds", "told", "I", false)
def cY2 : Nat → FieldType := fun k => match k with
  | 0 => .array (.int)
  | 1 => .array (.int)
  | _ => .int
def cT3 : u_T := fun k => match k with
  | 0 => ("RuleBooks$OwnState", "variables", "[I", true)
  | _ => ("RuleBooks$OwnState", "applied", "J", false)
def cY3 : Nat → FieldType := fun k => match k with
  | 0 => .array (.int)
  | _ => .long
def cT4 : u_T := fun k => match k with
  | 0 => ("RuleBooks$Phrases", "kinds", "LRuleBooks$Kinds;", true)
  | 1 => ("RuleBooks$Phrases", "names", "[I", true)
  | 2 => ("RuleBooks$Phrases", "firsts", "[I", true)
  | 3 => ("RuleBooks$Phrases", "seconds", "[I", true)
  | _ => ("RuleBooks$Phrases", "told", "I", false)
def cY4 : Nat → FieldType := fun k => match k with
  | 0 => .object "RuleBooks$Kinds"
  | 1 => .array (.int)
  | 2 => .array (.int)
  | 3 => .array (.int)
  | _ => .int
def cT5 : u_T := fun k => match k with
  | 0 => ("RuleBooks$Rule", "number", "I", true)
  | 1 => ("RuleBooks$Rule", "owner", "LRuleBooks$Book;", true)
  | 2 => ("RuleBooks$Rule", "section", "I", true)
  | 3 => ("RuleBooks$Rule", "special", "I", true)
  | 4 => ("RuleBooks$Rule", "conditions", "Ljava/util/ArrayList;", true)
  | 5 => ("RuleBooks$Rule", "deepSum", "I", false)
  | 6 => ("RuleBooks$Rule", "deed", "I", false)
  | 7 => ("RuleBooks$Rule", "deedX", "I", false)
  | 8 => ("RuleBooks$Rule", "deedY", "I", false)
  | 9 => ("RuleBooks$Rule", "how", "I", false)
  | _ => ("RuleBooks$Rule", "mark", "LRuleBooks$Rule;", false)
def cY5 : Nat → FieldType := fun k => match k with
  | 0 => .int
  | 1 => .object "RuleBooks$Book"
  | 2 => .int
  | 3 => .int
  | 4 => .object "java/util/ArrayList"
  | 5 => .int
  | 6 => .int
  | 7 => .int
  | 8 => .int
  | 9 => .int
  | _ => .object "RuleBooks$Rule"
def cT6 : u_T := fun k => match k with
  | 0 => ("RuleBooks$Runner", "kinds", "LRuleBooks$Kinds;", true)
  | 1 => ("RuleBooks$Runner", "books", "Ljava/util/ArrayList;", true)
  | 2 => ("RuleBooks$Runner", "scenes", "LRuleBooks$Scenes;", true)
  | 3 => ("RuleBooks$Runner", "states", "[LRuleBooks$OwnState;", true)
  | 4 => ("RuleBooks$Runner", "trace", "LRuleBooks$Trace;", true)
  | 5 => ("RuleBooks$Runner", "errCode", "I", false)
  | _ => ("RuleBooks$Runner", "errRule", "I", false)
def cY6 : Nat → FieldType := fun k => match k with
  | 0 => .object "RuleBooks$Kinds"
  | 1 => .object "java/util/ArrayList"
  | 2 => .object "RuleBooks$Scenes"
  | 3 => .array (.object "RuleBooks$OwnState")
  | 4 => .object "RuleBooks$Trace"
  | 5 => .int
  | _ => .int
def cT7 : u_T := fun k => match k with
  | 0 => ("RuleBooks$Scene", "again", "Z", true)
  | 1 => ("RuleBooks$Scene", "on", "Z", false)
  | 2 => ("RuleBooks$Scene", "began", "I", false)
  | 3 => ("RuleBooks$Scene", "codes", "[I", true)
  | _ => ("RuleBooks$Scene", "xs", "[I", true)
def cY7 : Nat → FieldType := fun k => match k with
  | 0 => .boolean
  | 1 => .boolean
  | 2 => .int
  | 3 => .array (.int)
  | _ => .array (.int)
def cT8 : u_T := fun k => match k with
  | 0 => ("RuleBooks$Scenes", "subjects", "Ljava/util/ArrayList;", true)
  | 1 => ("RuleBooks$Scenes", "told", "Ljava/util/ArrayList;", true)
  | 2 => ("RuleBooks$Scenes", "events", "[I", true)
  | 3 => ("RuleBooks$Scenes", "eventCount", "I", false)
  | _ => ("RuleBooks$Scenes", "clock", "I", false)
def cY8 : Nat → FieldType := fun k => match k with
  | 0 => .object "java/util/ArrayList"
  | 1 => .object "java/util/ArrayList"
  | 2 => .array (.int)
  | 3 => .int
  | _ => .int
def cT9 : u_T := fun k => match k with
  | 0 => ("RuleBooks$Subject", "kind", "I", true)
  | _ => ("RuleBooks$Subject", "values", "[I", true)
def cY9 : Nat → FieldType := fun k => match k with
  | 0 => .int
  | _ => .array (.int)
def cT10 : u_T := fun k => match k with
  | 0 => ("RuleBooks$Trace", "looked", "[I", true)
  | 1 => ("RuleBooks$Trace", "applied", "[I", true)
  | 2 => ("RuleBooks$Trace", "depths", "[I", true)
  | _ => ("RuleBooks$Trace", "length", "I", false)
def cY10 : Nat → FieldType := fun k => match k with
  | 0 => .array (.int)
  | 1 => .array (.int)
  | 2 => .array (.int)
  | _ => .int
def cT11 : u_T := fun k => match k with
  | 0 => ("RuleBooks", "kinds", "LRuleBooks$Kinds;", true)
  | 1 => ("RuleBooks", "subjects", "Ljava/util/ArrayList;", true)
  | 2 => ("RuleBooks", "books", "Ljava/util/ArrayList;", true)
  | 3 => ("RuleBooks", "rules", "Ljava/util/ArrayList;", true)
  | 4 => ("RuleBooks", "actions", "[[I", true)
  | 5 => ("RuleBooks", "actionCount", "I", false)
  | 6 => ("RuleBooks", "activities", "[[I", true)
  | 7 => ("RuleBooks", "activityCount", "I", false)
  | 8 => ("RuleBooks", "openActivities", "[I", true)
  | 9 => ("RuleBooks", "openSubjects", "[I", true)
  | 10 => ("RuleBooks", "openCount", "I", false)
  | 11 => ("RuleBooks", "scenes", "LRuleBooks$Scenes;", true)
  | 12 => ("RuleBooks", "turnBook", "I", false)
  | 13 => ("RuleBooks", "phrases", "LRuleBooks$Phrases;", true)
  | _ => ("RuleBooks", "runner", "LRuleBooks$Runner;", true)
def cY11 : Nat → FieldType := fun k => match k with
  | 0 => .object "RuleBooks$Kinds"
  | 1 => .object "java/util/ArrayList"
  | 2 => .object "java/util/ArrayList"
  | 3 => .object "java/util/ArrayList"
  | 4 => .array (.array (.int))
  | 5 => .int
  | 6 => .array (.array (.int))
  | 7 => .int
  | 8 => .array (.int)
  | 9 => .array (.int)
  | 10 => .int
  | 11 => .object "RuleBooks$Scenes"
  | 12 => .int
  | 13 => .object "RuleBooks$Phrases"
  | _ => .object "RuleBooks$Runner"
def cT12 : u_T := fun k => match k with
  | 0 => ("RuleBooksModel", "kinds", "I", false)
  | 1 => ("RuleBooksModel", "parents", "[I", true)
  | 2 => ("RuleBooksModel", "subjects", "I", false)
  | 3 => ("RuleBooksModel", "subjectKinds", "[I", true)
  | 4 => ("RuleBooksModel", "values", "[I", true)
  | 5 => ("RuleBooksModel", "books", "I", false)
  | 6 => ("RuleBooksModel", "defaults", "[I", true)
  | 7 => ("RuleBooksModel", "firsts", "[I", true)
  | 8 => ("RuleBooksModel", "rules", "I", false)
  | 9 => ("RuleBooksModel", "bookOf", "[I", true)
  | 10 => ("RuleBooksModel", "sections", "[I", true)
  | 11 => ("RuleBooksModel", "specials", "[I", true)
  | 12 => ("RuleBooksModel", "conditions", "[I", true)
  | 13 => ("RuleBooksModel", "conditionMany", "[I", true)
  | 14 => ("RuleBooksModel", "doings", "[I", true)
  | 15 => ("RuleBooksModel", "hows", "[I", true)
  | 16 => ("RuleBooksModel", "others", "[I", true)
  | 17 => ("RuleBooksModel", "toldAt", "[I", true)
  | 18 => ("RuleBooksModel", "told", "I", false)
  | 19 => ("RuleBooksModel", "made", "[I", true)
  | 20 => ("RuleBooksModel", "madeMany", "I", false)
  | 21 => ("RuleBooksModel", "depth", "I", false)
  | 22 => ("RuleBooksModel", "rows", "[I", true)
  | 23 => ("RuleBooksModel", "rowSizes", "[I", true)
  | 24 => ("RuleBooksModel", "places", "[I", true)
  | 25 => ("RuleBooksModel", "variables", "[I", true)
  | 26 => ("RuleBooksModel", "applied", "[Z", true)
  | 27 => ("RuleBooksModel", "abides", "[Z", true)
  | 28 => ("RuleBooksModel", "trace", "[I", true)
  | 29 => ("RuleBooksModel", "traced", "I", false)
  | 30 => ("RuleBooksModel", "error", "I", false)
  | 31 => ("RuleBooksModel", "errs", "I", false)
  | 32 => ("RuleBooksModel", "isFresh", "Z", false)
  | 33 => ("RuleBooksModel", "actions", "I", false)
  | 34 => ("RuleBooksModel", "stages", "[I", true)
  | 35 => ("RuleBooksModel", "activities", "I", false)
  | 36 => ("RuleBooksModel", "parts", "[I", true)
  | 37 => ("RuleBooksModel", "open", "I", false)
  | 38 => ("RuleBooksModel", "openOnes", "[I", true)
  | 39 => ("RuleBooksModel", "openFor", "[I", true)
  | 40 => ("RuleBooksModel", "scenes", "I", false)
  | 41 => ("RuleBooksModel", "again", "[I", true)
  | 42 => ("RuleBooksModel", "happens", "[Z", true)
  | 43 => ("RuleBooksModel", "began", "[I", true)
  | 44 => ("RuleBooksModel", "codes", "[I", true)
  | 45 => ("RuleBooksModel", "anchors", "[I", true)
  | 46 => ("RuleBooksModel", "everyTurn", "I", false)
  | 47 => ("RuleBooksModel", "clock", "I", false)
  | 48 => ("RuleBooksModel", "events", "[I", true)
  | 49 => ("RuleBooksModel", "eventMany", "I", false)
  | 50 => ("RuleBooksModel", "phrases", "I", false)
  | _ => ("RuleBooksModel", "phrase", "[I", true)
def cY12 : Nat → FieldType := fun k => match k with
  | 0 => .int
  | 1 => .array (.int)
  | 2 => .int
  | 3 => .array (.int)
  | 4 => .array (.int)
  | 5 => .int
  | 6 => .array (.int)
  | 7 => .array (.int)
  | 8 => .int
  | 9 => .array (.int)
  | 10 => .array (.int)
  | 11 => .array (.int)
  | 12 => .array (.int)
  | 13 => .array (.int)
  | 14 => .array (.int)
  | 15 => .array (.int)
  | 16 => .array (.int)
  | 17 => .array (.int)
  | 18 => .int
  | 19 => .array (.int)
  | 20 => .int
  | 21 => .int
  | 22 => .array (.int)
  | 23 => .array (.int)
  | 24 => .array (.int)
  | 25 => .array (.int)
  | 26 => .array (.boolean)
  | 27 => .array (.boolean)
  | 28 => .array (.int)
  | 29 => .int
  | 30 => .int
  | 31 => .int
  | 32 => .boolean
  | 33 => .int
  | 34 => .array (.int)
  | 35 => .int
  | 36 => .array (.int)
  | 37 => .int
  | 38 => .array (.int)
  | 39 => .array (.int)
  | 40 => .int
  | 41 => .array (.int)
  | 42 => .array (.boolean)
  | 43 => .array (.int)
  | 44 => .array (.int)
  | 45 => .array (.int)
  | 46 => .int
  | 47 => .int
  | 48 => .array (.int)
  | 49 => .int
  | 50 => .int
  | _ => .array (.int)
def cT13 : u_T := fun k => match k with
  | 0 => ("java/util/ArrayList", "elementData", "[Ljava/lang/Object;", false)
  | 1 => ("java/util/ArrayList", "size", "I", false)
  | _ => ("java/util/AbstractList", "modCount", "I", false)
def cY13 : Nat → FieldType := fun k => match k with
  | 0 => .array (.object "java/lang/Object")
  | 1 => .int
  | _ => .int
def cS : Nat → String := fun k => match k with
  | 0 => "RuleBooks$Book"
  | 1 => "RuleBooks$Condition"
  | 2 => "RuleBooks$Kinds"
  | 3 => "RuleBooks$OwnState"
  | 4 => "RuleBooks$Phrases"
  | 5 => "RuleBooks$Rule"
  | 6 => "RuleBooks$Runner"
  | 7 => "RuleBooks$Scene"
  | 8 => "RuleBooks$Scenes"
  | 9 => "RuleBooks$Subject"
  | 10 => "RuleBooks$Trace"
  | 11 => "RuleBooks"
  | 12 => "RuleBooksModel"
  | _ => "java/util/ArrayList"
def cN : Nat → Nat := fun k => match k with
  | 0 => 5
  | 1 => 4
  | 2 => 3
  | 3 => 2
  | 4 => 5
  | 5 => 11
  | 6 => 7
  | 7 => 5
  | 8 => 5
  | 9 => 2
  | 10 => 4
  | 11 => 15
  | 12 => 52
  | _ => 3
def cT : Nat → u_T := fun k => match k with
  | 0 => cT0
  | 1 => cT1
  | 2 => cT2
  | 3 => cT3
  | 4 => cT4
  | 5 => cT5
  | 6 => cT6
  | 7 => cT7
  | 8 => cT8
  | 9 => cT9
  | 10 => cT10
  | 11 => cT11
  | 12 => cT12
  | _ => cT13
def cY : Nat → (Nat → FieldType) := fun k => match k with
  | 0 => cY0
  | 1 => cY1
  | 2 => cY2
  | 3 => cY3
  | 4 => cY4
  | 5 => cY5
  | 6 => cY6
  | 7 => cY7
  | 8 => cY8
  | 9 => cY9
  | 10 => cY10
  | 11 => cY11
  | 12 => cY12
  | _ => cY13
/-- the words that go along with every call -/
def TB : List Cond := lw_tbl.filter goodWord
/-- the words of the nest, of casts, of declared methods: moved by hand -/
def isMv : Cond → Bool
  | .fieldLinkNest .. => true
  | .methodLinkNest .. => true
  | .castable .. => true
  | .declares .. => true
  | _ => false
def NT : List Cond := tables_1.filter isMv
theorem tb_at {w : Cond} (i : Nat) (h : lw_tbl[i]? = some w) (g : goodWord w = true) : w ∈ TB := List.mem_filter.mpr ⟨List.mem_of_getElem? h, g⟩
theorem nt_at {w : Cond} (i : Nat) (h : tables_1[i]? = some w) (g : isMv w = true) : w ∈ NT := List.mem_filter.mpr ⟨List.mem_of_getElem? h, g⟩
theorem nt_mv {w : Cond} (h : isMv w = true) {s U : State} (hW : s.WarmedH U.vm) (hz : va_Nw w s) : va_Nw w U := by
  cases w <;> first | exact va_Nw.warmF hW hz | exact va_Nw.warmM hW hz | exact va_Nw.warmC hW hz | exact va_Nw.warmD hW hz | (simp [isMv] at h)
theorem nt_tab {w : Cond} (h : isMv w = true) : w.onTables = true := by
  cases w <;> first | rfl | (simp [isMv] at h)
/-- names of cells, values, cells, heaps -/
abbrev Nm : Type := Nat × Nat × Nat
abbrev PV : Type := Int32 ⊕ (Int64 ⊕ Option Nm)
abbrev vI (x : Int32) : PV := .inl x
abbrev vL (x : Int64) : PV := .inr (.inl x)
abbrev vN : PV := .inr (.inr none)
abbrev vR (n : Nm) : PV := .inr (.inr (some n))
abbrev vO (o : Option Nm) : PV := .inr (.inr o)
abbrev PC : Type := Nat × Nat × (Nat → PV)
abbrev Hp : Type := Nm → Option PC
def tr (ρ : Nm → Nat) : PV → Value
  | .inl x => .int x
  | .inr (.inl x) => .long x
  | .inr (.inr none) => .null
  | .inr (.inr (some n)) => .ref (ρ n)
def wfv (h : Hp) : PV → Prop
  | .inr (.inr (some n)) => h n ≠ none
  | _ => True
def Ws (h : Hp) (st : List PV) : Prop := ∀ v ∈ st, wfv h v
def up (h : Hp) (n : Nm) (c : PC) : Hp := fun m => if m = n then some c else h m
def upr (ρ : Nm → Nat) (n : Nm) (a : Nat) : Nm → Nat := fun m => if m = n then a else ρ m
def upf (f : Nat → PV) (k : Nat) (v : PV) : Nat → PV := fun j => if j = k then v else f j
def fl (l : List PV) : Nat → PV := fun k => l.getD k vN
/-- the launch's numbers: heap at the start, mirror, classes, slots, array classes -/
abbrev Gl : Type := Nat × Nat × (Nat → ClassId) × (Nat → Nat → Nat) × (Nat → ClassId)
abbrev gz (g : Gl) : Nat := g.1
abbrev gm (g : Gl) : Nat := g.2.1
abbrev gC (g : Gl) : Nat → ClassId := g.2.2.1
abbrev gI (g : Gl) : Nat → Nat → Nat := g.2.2.2.1
abbrev gA (g : Gl) : Nat → ClassId := g.2.2.2.2
/-- types of the components of arrays, by their kinds -/
def aY : Nat → FieldType := fun k => match k with
  | 20 => .int
  | 21 => .boolean
  | 22 => .object "java/lang/Object"
  | 23 => .array .int
  | 24 => .object "RuleBooks$OwnState"
  | 28 => .object "java/lang/Object"
  | _ => .int
def cOK (g : Gl) (ρ : Nm → Nat) (H : Heap) (a : Nat) (c : PC) : Prop :=
  if c.1 < 14 then t_OB a (gC g c.1) (cN c.1) (gI g c.1) H (fun j => tr ρ (c.2.2 j))
  else if c.1 < 25 then H[a]? = some (arrV (gA g c.1) c.2.1 (fun j => tr ρ (c.2.2 j)))
  else ∃ cell : Cell, H[a]? = some cell ∧ cell.cls = gA g c.1 ∧ cell.vm ≠ .unknown ∧ (∀ q, cell.vm ≠ .statics q) ∧ cell.slots.size = c.2.1 ∧ ∀ j : Nat, j < c.2.1 → cell.slots[j]? = some (tr ρ (c.2.2 j))
def eZ (g : Gl) (ρ : Nm → Nat) (U : State) (H : Heap) : Prop := va_Z "java/util/ArrayList" "DEFAULTCAPACITY_EMPTY_ELEMENTDATA" "[Ljava/lang/Object;" (.ref (ρ (1, 0, 0))) (fun q => gz g ≤ q) U H
def Wd (g : Gl) (ρ : Nm → Nat) (h : Hp) (U : State) (H : Heap) : Prop :=
  (∀ n c, h n = some c → cOK g ρ H (ρ n) c ∧ ∀ j, wfv h (c.2.2 j)) ∧
  (∀ n n', h n ≠ none → h n' ≠ none → ρ n = ρ n' → n = n') ∧
  (∀ n, h n ≠ none → 2 ≤ n.1 → gz g ≤ ρ n) ∧
  gz g ≤ H.size ∧ h (1, 0, 0) = some (28, 0, fun _ => vN) ∧ eZ g ρ U H
/-- what the tables say of an array class -/
def aK (U : State) (cA : ClassId) (ty : FieldType) : Prop := ∃ (kA : Class) (comp : ClassId), U.vm.classes[cA]? = some kA ∧ kA.kind = .array comp ty ∧ U.vm.findClass ("[" ++ ty.toString) = some cA ∧ (∀ C, ty = .object C → U.vm.findClass C = some comp) ∧ (∀ t, ty = .array t → U.vm.findClass ("[" ++ t.toString) = some comp)
def aX (U : State) (cA : ClassId) : Prop := ∃ (kA : Class) (comp : ClassId), U.vm.classes[cA]? = some kA ∧ kA.kind = .array comp .int
def KB (g : Gl) (U : State) : Prop :=
  (∀ k, k < 14 → u_Kn U (cS k) (cT k) (cN k) (gC g k) (gI g k)) ∧ (∀ k, 20 ≤ k → k < 25 → aK U (gA g k) (aY k)) ∧ gA g 28 = gA g 22 ∧ aX U (gA g 29) ∧ (∀ w ∈ NT, va_Nw w U) ∧ va_AO "java/lang/Object" U ∧ va_AO "RuleBooks$OwnState" U ∧ va_Mi "[Ljava/lang/Object;" (gm g) U
theorem aK.moved {u U : State} (hvm : u.vm.Alike U.vm) {cA : ClassId} {ty : FieldType} (h : aK u cA ty) : aK U cA ty := by
  obtain ⟨kA, comp, h1, h2, h3, h4, h5⟩ := h
  obtain ⟨k', hk', he⟩ := hvm.2.2 _ _ h1
  exact ⟨k', comp, hk', by rw [he]; exact h2, by rw [hvm.findClass]; exact h3, fun C hC => by rw [hvm.findClass]; exact h4 C hC, fun t ht => by rw [hvm.findClass]; exact h5 t ht⟩
theorem aX.moved {u U : State} (hvm : u.vm.Alike U.vm) {cA : ClassId} (h : aX u cA) : aX U cA := by
  obtain ⟨kA, comp, h1, h2⟩ := h
  obtain ⟨k', hk', he⟩ := hvm.2.2 _ _ h1
  exact ⟨k', comp, hk', by rw [he]; exact h2⟩
theorem KB.moved {g : Gl} {s U : State} (hW : s.WarmedH U.vm) (h : KB g s) : KB g U := by
  obtain ⟨h1, h2, h3, h4, h5, h6, h7, h8⟩ := h
  exact ⟨fun k hk => u_Kn_moved hW.alike (h1 k hk), fun k a b => (h2 k a b).moved hW.alike, h3, h4.moved hW.alike, fun w hw => nt_mv (List.mem_filter.mp hw).2 hW (h5 w hw), h6.moved hW.alike, h7.moved hW.alike, h8.moved hW.alike⟩
theorem KB.same {g : Gl} {s U : State} (e : s.vm = U.vm) (h : KB g s) : KB g U := by
  have ha : s.vm.Alike U.vm := by rw [e]; exact Vm.Alike.refl _
  obtain ⟨h1, h2, h3, h4, h5, h6, h7, h8⟩ := h
  exact ⟨fun k hk => u_Kn_moved ha (h1 k hk), fun k a b => (h2 k a b).moved ha, h3, h4.moved ha, fun w hw => va_Nw.same (nt_tab (List.mem_filter.mp hw).2) e (h5 w hw), h6.moved ha, h7.moved ha, h8.moved ha⟩
theorem Wd.moved {g : Gl} {ρ : Nm → Nat} {h : Hp} {u U : State} {H : Heap} (hvm : u.vm.Alike U.vm) (w : Wd g ρ h u H) : Wd g ρ h U H :=
  ⟨w.1, w.2.1, w.2.2.1, w.2.2.2.1, w.2.2.2.2.1, w.2.2.2.2.2.moved hvm⟩
theorem up_self {h : Hp} {n : Nm} {c : PC} : up h n c n = some c := if_pos rfl
theorem up_ne {h : Hp} {n m : Nm} {c : PC} (e : m ≠ n) : up h n c m = h m := if_neg e
theorem up_dom {h : Hp} {n m : Nm} {c : PC} (e : h m ≠ none) : up h n c m ≠ none := by
  unfold up
  split
  · exact fun q => by cases q
  · exact e
theorem wfv.up {h : Hp} {n : Nm} {c : PC} {v : PV} (w : wfv h v) : wfv (up h n c) v := by
  match v, w with
  | .inl _, _ => trivial
  | .inr (.inl _), _ => trivial
  | .inr (.inr none), _ => trivial
  | .inr (.inr (some m)), w => exact up_dom w
theorem wfv.mono {h h' : Hp} {v : PV} (w : wfv h v) (e : ∀ n, h n ≠ none → h' n ≠ none) : wfv h' v := by
  match v, w with
  | .inl _, _ => trivial
  | .inr (.inl _), _ => trivial
  | .inr (.inr none), _ => trivial
  | .inr (.inr (some m)), w => exact e m w
theorem trx {h : Hp} {ρ ρ' : Nm → Nat} {v : PV} (w : wfv h v) (e : ∀ n, h n ≠ none → ρ' n = ρ n) : tr ρ' v = tr ρ v := by
  match v, w with
  | .inl _, _ => rfl
  | .inr (.inl _), _ => rfl
  | .inr (.inr none), _ => rfl
  | .inr (.inr (some m)), w => exact congrArg Value.ref (e m w)
theorem Ws.trs {h : Hp} {ρ ρ' : Nm → Nat} {st : List PV} (w : Ws h st) (e : ∀ n, h n ≠ none → ρ' n = ρ n) : st.map (tr ρ') = st.map (tr ρ) :=
  List.map_congr_left fun v hv => trx (w v hv) e
theorem Ws.mono {h h' : Hp} {st : List PV} (w : Ws h st) (e : ∀ n, h n ≠ none → h' n ≠ none) : Ws h' st := fun v hv => (w v hv).mono e
theorem Ws.nil {h : Hp} : Ws h [] := fun v hv => by cases hv
theorem Ws.cons {h : Hp} {v : PV} {st : List PV} (a : wfv h v) (w : Ws h st) : Ws h (v :: st) := fun x hx => by
  rcases List.mem_cons.mp hx with rfl | hx
  · exact a
  · exact w x hx
theorem Ws.hd {h : Hp} {v : PV} {st : List PV} (w : Ws h (v :: st)) : wfv h v := w v List.mem_cons_self
theorem Ws.tl {h : Hp} {v : PV} {st : List PV} (w : Ws h (v :: st)) : Ws h st := fun x hx => w x (List.mem_cons_of_mem _ hx)
theorem Ws.app {h : Hp} {a b : List PV} (wa : Ws h a) (wb : Ws h b) : Ws h (a ++ b) := fun x hx => by
  rcases List.mem_append.mp hx with q | q
  · exact wa x q
  · exact wb x q
theorem Ws.left {h : Hp} {a b : List PV} (w : Ws h (a ++ b)) : Ws h a := fun x hx => w x (List.mem_append_left _ hx)
theorem Ws.right {h : Hp} {a b : List PV} (w : Ws h (a ++ b)) : Ws h b := fun x hx => w x (List.mem_append_right _ hx)
theorem Ws.rev {h : Hp} {a : List PV} (w : Ws h a.reverse) : Ws h a := fun x hx => w x (List.mem_reverse.mpr hx)
end
section
/-- a method: its name, its bytes, its locals, its answer's type -/
abbrev MD : Type := MethodName × ByteArray × Nat × Option FieldType
def Dc (M : MD) (pc : Nat) (i : Instr) (len pc' : Nat) : Prop := decode M.2.1 pc = .ok (i, len) ∧ pc + len = pc'
def Db (M : MD) (pc : Nat) (i : Int → Instr) (tgt pc' : Nat) : Prop := ∃ off : Int, decode M.2.1 pc = .ok (i off, 3) ∧ (pc : Int) + off = (tgt : Int) ∧ pc + 3 = pc'
def isL : PV → Bool
  | .inr (.inl _) => true
  | _ => false
theorem cat1 {ρ : Nm → Nat} {v : PV} (h : isL v = false) : (tr ρ v).category = 1 := by
  match v, h with
  | .inl _, _ => rfl
  | .inr (.inr none), _ => rfl
  | .inr (.inr (some _)), _ => rfl
/-- the locals -/
def Lo (nL : Nat) (ρ : Nm → Nat) (h : Hp) (ls : Array Slot) (lv : List (Option PV)) : Prop :=
  ls.size = nL ∧ lv_wf ls ∧ ∀ (k : Nat) (v : PV), lv[k]? = some (some v) → ls[k]? = some (.val (tr ρ v)) ∧ wfv h v ∧ isL v = false
def lset : List (Option PV) → Nat → PV → List (Option PV)
  | [], _, _ => []
  | _ :: l, 0, v => some v :: l
  | a :: l, k + 1, v => a :: lset l k v
theorem lset_get (l : List (Option PV)) (k j : Nat) (v : PV) : (lset l k v)[j]? = if j = k then (l[j]?).map (fun _ => some v) else l[j]? := by
  induction l generalizing k j with
  | nil => simp [lset]
  | cons a l ih =>
    cases k with
    | zero =>
      cases j with
      | zero => simp [lset]
      | succ j => simp [lset]
    | succ k =>
      cases j with
      | zero => simp [lset]
      | succ j => simp [lset, ih]
def loL (ρ : Nm → Nat) (lv : List (Option PV)) : List (Nat × Value) := (List.range lv.length).filterMap fun k => match lv[k]? with
  | some (some v) => some (k, tr ρ v)
  | _ => none
theorem Lo.has {nL : Nat} {ρ : Nm → Nat} {h : Hp} {ls : Array Slot} {lv : List (Option PV)} (H : Lo nL ρ h ls lv) : lv_has ls nL (loL ρ lv) := by
  refine ⟨H.1, H.2.1, fun q hq => ?_⟩
  obtain ⟨k, -, hk⟩ := List.mem_filterMap.mp hq
  cases hv : lv[k]? with
  | none => rw [hv] at hk; cases hk
  | some o =>
    cases o with
    | none => rw [hv] at hk; cases hk
    | some v =>
      rw [hv] at hk
      cases hk
      exact (H.2.2 k v hv).1
theorem loL_mem {ρ : Nm → Nat} {lv : List (Option PV)} {k : Nat} {v : PV} (h : lv[k]? = some (some v)) : (k, tr ρ v) ∈ loL ρ lv := by
  refine List.mem_filterMap.mpr ⟨k, List.mem_range.mpr (List.getElem?_eq_some_iff.mp h).1, ?_⟩
  rw [h]
theorem Lo.st {nL : Nat} {ρ : Nm → Nat} {h : Hp} {ls ls' : Array Slot} {lv : List (Option PV)} {i : Nat} {x : PV} (H : Lo nL ρ h ls lv) (hx : wfv h x) (hl : isL x = false)
    (H' : lv_has ls' nL ((i, tr ρ x) :: (loL ρ lv).filter (fun q => !(q.1 == i) && !(q.1 + 1 == i && q.2.category == 2)))) : Lo nL ρ h ls' (lset lv i x) := by
  refine ⟨H'.1, H'.2.1, fun k v hk => ?_⟩
  rw [lset_get] at hk
  by_cases e : k = i
  · subst e
    rw [if_pos rfl] at hk
    cases hv : lv[k]? with
    | none => rw [hv] at hk; cases hk
    | some o =>
      rw [hv] at hk
      cases hk
      exact ⟨H'.2.2 (k, tr ρ x) List.mem_cons_self, hx, hl⟩
  · rw [if_neg e] at hk
    obtain ⟨-, h2, h3⟩ := H.2.2 k v hk
    refine ⟨H'.2.2 (k, tr ρ v) (List.mem_cons_of_mem _ (List.mem_filter.mpr ⟨loL_mem hk, ?_⟩)), h2, h3⟩
    have hc : (tr ρ v).category = 1 := cat1 h3
    simp [e, hc]
theorem Lo.mono {nL : Nat} {ρ ρ' : Nm → Nat} {h h' : Hp} {ls : Array Slot} {lv : List (Option PV)} (H : Lo nL ρ h ls lv) (e : ∀ n, h n ≠ none → h' n ≠ none ∧ ρ' n = ρ n) : Lo nL ρ' h' ls lv := by
  refine ⟨H.1, H.2.1, fun k v hk => ?_⟩
  obtain ⟨h1, h2, h3⟩ := H.2.2 k v hk
  exact ⟨by rw [trx h2 fun n hn => (e n hn).2]; exact h1, h2.mono fun n hn => (e n hn).1, h3⟩
/-- what is known while a method runs -/
def Cx (M : MD) (lvl mc ms : Nat) (p : Program) (R : Room) (s : State) (m : MethodId) (args : Array Value) (meth : Method) (c : Code) (g : Gl) : Prop :=
  p.tables.exec = Jvm.exec ∧ c.code = M.2.1 ∧ c.maxLocals = M.2.2.1 ∧ s.vm.findClass M.1.cls = some m.cls ∧ (∀ w ∈ TB, w.before args s = true) ∧ KB g s ∧ meth.name = M.1.name ∧ (lvl ≤ R.frames ∧ 40 * lvl ≤ R.locals) ∧ mc ≤ R.cells ∧ ms ≤ R.slots
def rOK (ty : Option FieldType) (i : Instr) (v : Option PV) : Prop :=
  (i = .ireturn ∧ ∃ x, v = some (vI x) ∧ (ty = some .int ∨ (ty = some .boolean ∧ (x = 0 ∨ x = 1)))) ∨
  (i = .areturn ∧ ∃ o, v = some (vO o) ∧ ∃ rt, ty = some rt ∧ ((∃ n, rt = .object n) ∨ ∃ t, rt = .array t)) ∨ (i = .return_ ∧ v = none ∧ ty = none)
def Kp (D0 : Nm → Prop) (ρ0 : Nm → Nat) (h : Hp) (ρ : Nm → Nat) : Prop := ∀ n, D0 n → h n ≠ none ∧ ρ n = ρ0 n
def RetOK (M : MD) (mc ms : Nat) (Q : Option PV → Hp → Prop) (p : Program) (l : Launch) (e : Env) (R : Room) (s : State) (m : MethodId) (args : Array Value) (below : List Frame) (meth : Method) (c : Code) (g : Gl) (Qf : State → Prop) (D0 : Nm → Prop) (ρ0 : Nm → Nat) : Prop :=
  ∀ (ri : Instr) (v : Option PV) (ρ : Nm → Nat) (h : Hp) (H : Heap) (locs : List Loc) (pc : Nat) (ls : Array Slot), rOK M.2.2.2 ri v → decode M.2.1 pc = .ok (ri, 1) → Kp D0 ρ0 h ρ → Wd g ρ h s H → (∀ w, v = some w → wfv h w) → (∀ q ∈ locs, gz g ≤ q.base) → Q v h →
    W p l e R s m args below meth c H locs mc ms Qf (F0 m pc ls (v.map (tr ρ)).toList)
/-- from here the method comes to its end, with Q of its answer and the heap -/
def S (M : MD) (lvl mc ms : Nat) (Q : Option PV → Hp → Prop) (pc : Nat) (lv : List (Option PV)) (st : List PV) (h : Hp) (k n : Nat) : Prop :=
  ∀ (p : Program) (l : Launch) (e : Env) (R : Room) (s : State) (m : MethodId) (args : Array Value) (below : List Frame) (meth : Method) (c : Code) (g : Gl) (Qf : State → Prop) (D0 : Nm → Prop) (ρ0 : Nm → Nat),
    Cx M lvl mc ms p R s m args meth c g → RetOK M mc ms Q p l e R s m args below meth c g Qf D0 ρ0 →
    ∀ (ρ : Nm → Nat) (ls : Array Slot) (H : Heap) (locs : List Loc), Kp D0 ρ0 h ρ → Lo M.2.2.1 ρ h ls lv → Ws h st → Wd g ρ h s H → (∀ q ∈ locs, gz g ≤ q.base) →
    W p l e R s m args below meth c H locs k n Qf (F0 m pc ls (st.map (tr ρ)))
section SR
variable {M : MD} {lvl mc ms : Nat} {Q : Option PV → Hp → Prop} {pc pc' tgt : Nat} {lv : List (Option PV)} {st : List PV} {h : Hp} {k n : Nat}
theorem s_iload {i : Nat} {x : Int32} (d : Dc M pc (.iload i) 2 pc') (hl : lv[i]? = some (some (vI x))) (kk : S M lvl mc ms Q pc' lv (vI x :: st) h k n) : S M lvl mc ms Q pc lv st h k n := by
  intro p l e R s m args below meth c g Qf D0 ρ0 C hR ρ ls H locs hK hL hW hw hlo
  obtain ⟨d, rfl⟩ := d
  exact lv_iload C.1 C.2.1 d (hL.2.2 _ _ hl).1 (kk p l e R s m args below meth c g Qf D0 ρ0 C hR ρ ls H locs hK hL (hW.cons trivial) hw hlo)
theorem s_iload_n {j : Fin 4} {i : Nat} {x : Int32} (d : Dc M pc (.iload_n j) 1 pc') (hi : (j : Nat) = i) (hl : lv[i]? = some (some (vI x))) (kk : S M lvl mc ms Q pc' lv (vI x :: st) h k n) : S M lvl mc ms Q pc lv st h k n := by
  intro p l e R s m args below meth c g Qf D0 ρ0 C hR ρ ls H locs hK hL hW hw hlo
  obtain ⟨d, rfl⟩ := d
  exact lv_iload_n C.1 C.2.1 d hi (hL.2.2 _ _ hl).1 (kk p l e R s m args below meth c g Qf D0 ρ0 C hR ρ ls H locs hK hL (hW.cons trivial) hw hlo)
theorem s_aload {i : Nat} {o : Option Nm} (d : Dc M pc (.aload i) 2 pc') (hl : lv[i]? = some (some (vO o))) (kk : S M lvl mc ms Q pc' lv (vO o :: st) h k n) : S M lvl mc ms Q pc lv st h k n := by
  intro p l e R s m args below meth c g Qf D0 ρ0 C hR ρ ls H locs hK hL hW hw hlo
  obtain ⟨d, rfl⟩ := d
  obtain ⟨h1, h2, -⟩ := hL.2.2 _ _ hl
  have k1 := kk p l e R s m args below meth c g Qf D0 ρ0 C hR ρ ls H locs hK hL (hW.cons h2) hw hlo
  cases o with
  | none => exact lv_aloadN C.1 C.2.1 d h1 k1
  | some a => exact lv_aload C.1 C.2.1 d h1 k1
theorem s_aload_n {j : Fin 4} {i : Nat} {o : Option Nm} (d : Dc M pc (.aload_n j) 1 pc') (hi : (j : Nat) = i) (hl : lv[i]? = some (some (vO o))) (kk : S M lvl mc ms Q pc' lv (vO o :: st) h k n) : S M lvl mc ms Q pc lv st h k n := by
  intro p l e R s m args below meth c g Qf D0 ρ0 C hR ρ ls H locs hK hL hW hw hlo
  obtain ⟨d, rfl⟩ := d
  obtain ⟨h1, h2, -⟩ := hL.2.2 _ _ hl
  have k1 := kk p l e R s m args below meth c g Qf D0 ρ0 C hR ρ ls H locs hK hL (hW.cons h2) hw hlo
  cases o with
  | none => exact lv_aload_nN C.1 C.2.1 d hi h1 k1
  | some a => exact lv_aload_n C.1 C.2.1 d hi h1 k1
theorem s_istore {i : Nat} {x : Int32} (d : Dc M pc (.istore i) 2 pc') (hi : Nat.blt i M.2.2.1 = true) (kk : S M lvl mc ms Q pc' (lset lv i (vI x)) st h k n) : S M lvl mc ms Q pc lv (vI x :: st) h k n := by
  intro p l e R s m args below meth c g Qf D0 ρ0 C hR ρ ls H locs hK hL hW hw hlo
  obtain ⟨d, rfl⟩ := d
  exact lv_istore C.1 C.2.1 d hL.has (Nat.le_of_ble_eq_true hi) rfl (fun ls' hl' => kk p l e R s m args below meth c g Qf D0 ρ0 C hR ρ ls' H locs hK (hL.st (x := vI x) trivial rfl hl') hW.tl hw hlo)
theorem s_istore_n {j : Fin 4} {i : Nat} {x : Int32} (d : Dc M pc (.istore_n j) 1 pc') (hj : (j : Nat) = i) (hi : Nat.blt i M.2.2.1 = true) (kk : S M lvl mc ms Q pc' (lset lv i (vI x)) st h k n) : S M lvl mc ms Q pc lv (vI x :: st) h k n := by
  intro p l e R s m args below meth c g Qf D0 ρ0 C hR ρ ls H locs hK hL hW hw hlo
  obtain ⟨d, rfl⟩ := d
  exact lv_istore_n C.1 C.2.1 d hj hL.has (Nat.le_of_ble_eq_true hi) rfl (fun ls' hl' => kk p l e R s m args below meth c g Qf D0 ρ0 C hR ρ ls' H locs hK (hL.st (x := vI x) trivial rfl hl') hW.tl hw hlo)
theorem s_astore {i : Nat} {o : Option Nm} (d : Dc M pc (.astore i) 2 pc') (hi : Nat.blt i M.2.2.1 = true) (kk : S M lvl mc ms Q pc' (lset lv i (vO o)) st h k n) : S M lvl mc ms Q pc lv (vO o :: st) h k n := by
  intro p l e R s m args below meth c g Qf D0 ρ0 C hR ρ ls H locs hK hL hW hw hlo
  obtain ⟨d, rfl⟩ := d
  cases o with
  | none => exact lv_astoreN C.1 C.2.1 d hL.has (Nat.le_of_ble_eq_true hi) rfl (fun ls' hl' => kk p l e R s m args below meth c g Qf D0 ρ0 C hR ρ ls' H locs hK (hL.st (x := vO none) hW.hd rfl hl') hW.tl hw hlo)
  | some a => exact lv_astore C.1 C.2.1 d hL.has (Nat.le_of_ble_eq_true hi) rfl (fun ls' hl' => kk p l e R s m args below meth c g Qf D0 ρ0 C hR ρ ls' H locs hK (hL.st (x := vO (some a)) hW.hd rfl hl') hW.tl hw hlo)
theorem s_astore_n {j : Fin 4} {i : Nat} {o : Option Nm} (d : Dc M pc (.astore_n j) 1 pc') (hj : (j : Nat) = i) (hi : Nat.blt i M.2.2.1 = true) (kk : S M lvl mc ms Q pc' (lset lv i (vO o)) st h k n) : S M lvl mc ms Q pc lv (vO o :: st) h k n := by
  intro p l e R s m args below meth c g Qf D0 ρ0 C hR ρ ls H locs hK hL hW hw hlo
  obtain ⟨d, rfl⟩ := d
  cases o with
  | none => exact lv_astore_nN C.1 C.2.1 d hj hL.has (Nat.le_of_ble_eq_true hi) rfl (fun ls' hl' => kk p l e R s m args below meth c g Qf D0 ρ0 C hR ρ ls' H locs hK (hL.st (x := vO none) hW.hd rfl hl') hW.tl hw hlo)
  | some a => exact lv_astore_n C.1 C.2.1 d hj hL.has (Nat.le_of_ble_eq_true hi) rfl (fun ls' hl' => kk p l e R s m args below meth c g Qf D0 ρ0 C hR ρ ls' H locs hK (hL.st (x := vO (some a)) hW.hd rfl hl') hW.tl hw hlo)
theorem s_iinc {i : Nat} {z : Int} {x : Int32} (d : Dc M pc (.iinc i z) 3 pc') (hl : lv[i]? = some (some (vI x))) (hi : Nat.blt i M.2.2.1 = true) (kk : S M lvl mc ms Q pc' (lset lv i (vI (x + Int32.ofInt z))) st h k n) : S M lvl mc ms Q pc lv st h k n := by
  intro p l e R s m args below meth c g Qf D0 ρ0 C hR ρ ls H locs hK hL hW hw hlo
  obtain ⟨d, rfl⟩ := d
  obtain ⟨q, hq⟩ := List.getElem?_of_mem (loL_mem (ρ := ρ) hl)
  exact lv_iinc C.1 C.2.1 d hL.has hq rfl (Nat.le_of_ble_eq_true hi) rfl (fun ls' hl' => kk p l e R s m args below meth c g Qf D0 ρ0 C hR ρ ls' H locs hK (hL.st (x := vI (x + Int32.ofInt z)) trivial rfl hl') hW hw hlo)
theorem s_iconst {z : Int} {v : Int32} (d : Dc M pc (.iconst z) 1 pc') (hv : Int32.ofInt z = v) (kk : S M lvl mc ms Q pc' lv (vI v :: st) h k n) : S M lvl mc ms Q pc lv st h k n := by
  intro p l e R s m args below meth c g Qf D0 ρ0 C hR ρ ls H locs hK hL hW hw hlo
  obtain ⟨d, rfl⟩ := d
  exact lv_iconst C.1 C.2.1 d hv (kk p l e R s m args below meth c g Qf D0 ρ0 C hR ρ ls H locs hK hL (hW.cons trivial) hw hlo)
theorem s_bipush {z : Int} {v : Int32} (d : Dc M pc (.bipush z) 2 pc') (hv : (Int8.ofInt z).toInt32 = v) (kk : S M lvl mc ms Q pc' lv (vI v :: st) h k n) : S M lvl mc ms Q pc lv st h k n := by
  intro p l e R s m args below meth c g Qf D0 ρ0 C hR ρ ls H locs hK hL hW hw hlo
  obtain ⟨d, rfl⟩ := d
  exact lv_bipush C.1 C.2.1 d hv (kk p l e R s m args below meth c g Qf D0 ρ0 C hR ρ ls H locs hK hL (hW.cons trivial) hw hlo)
theorem s_sipush {z : Int} {v : Int32} (d : Dc M pc (.sipush z) 3 pc') (hv : (Int16.ofInt z).toInt32 = v) (kk : S M lvl mc ms Q pc' lv (vI v :: st) h k n) : S M lvl mc ms Q pc lv st h k n := by
  intro p l e R s m args below meth c g Qf D0 ρ0 C hR ρ ls H locs hK hL hW hw hlo
  obtain ⟨d, rfl⟩ := d
  exact lv_sipush C.1 C.2.1 d hv (kk p l e R s m args below meth c g Qf D0 ρ0 C hR ρ ls H locs hK hL (hW.cons trivial) hw hlo)
theorem s_lconst {z : Fin 2} {v : Int64} (d : Dc M pc (.lconst z) 1 pc') (hv : Int64.ofNat (z : Nat) = v) (kk : S M lvl mc ms Q pc' lv (vL v :: st) h k n) : S M lvl mc ms Q pc lv st h k n := by
  intro p l e R s m args below meth c g Qf D0 ρ0 C hR ρ ls H locs hK hL hW hw hlo
  obtain ⟨d, rfl⟩ := d
  exact lv_lconst C.1 C.2.1 d hv (kk p l e R s m args below meth c g Qf D0 ρ0 C hR ρ ls H locs hK hL (hW.cons trivial) hw hlo)
theorem s_null (d : Dc M pc .aconst_null 1 pc') (kk : S M lvl mc ms Q pc' lv (vN :: st) h k n) : S M lvl mc ms Q pc lv st h k n := by
  intro p l e R s m args below meth c g Qf D0 ρ0 C hR ρ ls H locs hK hL hW hw hlo
  obtain ⟨d, rfl⟩ := d
  exact lv_null C.1 C.2.1 d (kk p l e R s m args below meth c g Qf D0 ρ0 C hR ρ ls H locs hK hL (hW.cons trivial) hw hlo)
theorem s_iadd {x y : Int32} (d : Dc M pc .iadd 1 pc')  (kk : S M lvl mc ms Q pc' lv (vI (x + y) :: st) h k n) : S M lvl mc ms Q pc lv (vI y :: vI x :: st) h k n := by
  intro p l e R s m args below meth c g Qf D0 ρ0 C hR ρ ls H locs hK hL hW hw hlo
  obtain ⟨d, rfl⟩ := d
  exact lv_iadd C.1 C.2.1 d  (kk p l e R s m args below meth c g Qf D0 ρ0 C hR ρ ls H locs hK hL (hW.tl.tl.cons trivial) hw hlo)
theorem s_isub {x y : Int32} (d : Dc M pc .isub 1 pc')  (kk : S M lvl mc ms Q pc' lv (vI (x - y) :: st) h k n) : S M lvl mc ms Q pc lv (vI y :: vI x :: st) h k n := by
  intro p l e R s m args below meth c g Qf D0 ρ0 C hR ρ ls H locs hK hL hW hw hlo
  obtain ⟨d, rfl⟩ := d
  exact lv_isub C.1 C.2.1 d  (kk p l e R s m args below meth c g Qf D0 ρ0 C hR ρ ls H locs hK hL (hW.tl.tl.cons trivial) hw hlo)
theorem s_imul {x y : Int32} (d : Dc M pc .imul 1 pc')  (kk : S M lvl mc ms Q pc' lv (vI (x * y) :: st) h k n) : S M lvl mc ms Q pc lv (vI y :: vI x :: st) h k n := by
  intro p l e R s m args below meth c g Qf D0 ρ0 C hR ρ ls H locs hK hL hW hw hlo
  obtain ⟨d, rfl⟩ := d
  exact lv_imul C.1 C.2.1 d  (kk p l e R s m args below meth c g Qf D0 ρ0 C hR ρ ls H locs hK hL (hW.tl.tl.cons trivial) hw hlo)
theorem s_iand {x y : Int32} (d : Dc M pc .iand 1 pc')  (kk : S M lvl mc ms Q pc' lv (vI (x &&& y) :: st) h k n) : S M lvl mc ms Q pc lv (vI y :: vI x :: st) h k n := by
  intro p l e R s m args below meth c g Qf D0 ρ0 C hR ρ ls H locs hK hL hW hw hlo
  obtain ⟨d, rfl⟩ := d
  exact lv_iand C.1 C.2.1 d  (kk p l e R s m args below meth c g Qf D0 ρ0 C hR ρ ls H locs hK hL (hW.tl.tl.cons trivial) hw hlo)
theorem s_ishr {x y : Int32} (d : Dc M pc .ishr 1 pc')  (kk : S M lvl mc ms Q pc' lv (vI (x >>> (y &&& 31)) :: st) h k n) : S M lvl mc ms Q pc lv (vI y :: vI x :: st) h k n := by
  intro p l e R s m args below meth c g Qf D0 ρ0 C hR ρ ls H locs hK hL hW hw hlo
  obtain ⟨d, rfl⟩ := d
  exact lv_ishr C.1 C.2.1 d  (kk p l e R s m args below meth c g Qf D0 ρ0 C hR ρ ls H locs hK hL (hW.tl.tl.cons trivial) hw hlo)
theorem s_idiv {x y : Int32} (d : Dc M pc .idiv 1 pc') (hy : ¬ y = 0) (kk : S M lvl mc ms Q pc' lv (vI (x / y) :: st) h k n) : S M lvl mc ms Q pc lv (vI y :: vI x :: st) h k n := by
  intro p l e R s m args below meth c g Qf D0 ρ0 C hR ρ ls H locs hK hL hW hw hlo
  obtain ⟨d, rfl⟩ := d
  exact lv_idiv C.1 C.2.1 d hy (kk p l e R s m args below meth c g Qf D0 ρ0 C hR ρ ls H locs hK hL (hW.tl.tl.cons trivial) hw hlo)
theorem s_irem {x y : Int32} (d : Dc M pc .irem 1 pc') (hy : ¬ y = 0) (kk : S M lvl mc ms Q pc' lv (vI (x - x / y * y) :: st) h k n) : S M lvl mc ms Q pc lv (vI y :: vI x :: st) h k n := by
  intro p l e R s m args below meth c g Qf D0 ρ0 C hR ρ ls H locs hK hL hW hw hlo
  obtain ⟨d, rfl⟩ := d
  exact lv_irem C.1 C.2.1 d hy (kk p l e R s m args below meth c g Qf D0 ρ0 C hR ρ ls H locs hK hL (hW.tl.tl.cons trivial) hw hlo)
theorem s_lor {x y : Int64} (d : Dc M pc .lor 1 pc')  (kk : S M lvl mc ms Q pc' lv (vL (x ||| y) :: st) h k n) : S M lvl mc ms Q pc lv (vL y :: vL x :: st) h k n := by
  intro p l e R s m args below meth c g Qf D0 ρ0 C hR ρ ls H locs hK hL hW hw hlo
  obtain ⟨d, rfl⟩ := d
  exact lv_lor C.1 C.2.1 d  (kk p l e R s m args below meth c g Qf D0 ρ0 C hR ρ ls H locs hK hL (hW.tl.tl.cons trivial) hw hlo)
theorem s_land {x y : Int64} (d : Dc M pc .land 1 pc')  (kk : S M lvl mc ms Q pc' lv (vL (x &&& y) :: st) h k n) : S M lvl mc ms Q pc lv (vL y :: vL x :: st) h k n := by
  intro p l e R s m args below meth c g Qf D0 ρ0 C hR ρ ls H locs hK hL hW hw hlo
  obtain ⟨d, rfl⟩ := d
  exact lv_land C.1 C.2.1 d  (kk p l e R s m args below meth c g Qf D0 ρ0 C hR ρ ls H locs hK hL (hW.tl.tl.cons trivial) hw hlo)
theorem s_lshl {x : Int64} {y : Int32} (d : Dc M pc .lshl 1 pc') (kk : S M lvl mc ms Q pc' lv (vL (x <<< (y.toInt64 &&& 63)) :: st) h k n) : S M lvl mc ms Q pc lv (vI y :: vL x :: st) h k n := by
  intro p l e R s m args below meth c g Qf D0 ρ0 C hR ρ ls H locs hK hL hW hw hlo
  obtain ⟨d, rfl⟩ := d
  exact lv_lshl C.1 C.2.1 d rfl (kk p l e R s m args below meth c g Qf D0 ρ0 C hR ρ ls H locs hK hL (hW.tl.tl.cons trivial) hw hlo)
theorem s_lshr {x : Int64} {y : Int32} (d : Dc M pc .lshr 1 pc') (kk : S M lvl mc ms Q pc' lv (vL (x >>> (y.toInt64 &&& 63)) :: st) h k n) : S M lvl mc ms Q pc lv (vI y :: vL x :: st) h k n := by
  intro p l e R s m args below meth c g Qf D0 ρ0 C hR ρ ls H locs hK hL hW hw hlo
  obtain ⟨d, rfl⟩ := d
  exact lv_lshr C.1 C.2.1 d rfl (kk p l e R s m args below meth c g Qf D0 ρ0 C hR ρ ls H locs hK hL (hW.tl.tl.cons trivial) hw hlo)
theorem s_lcmp {x y : Int64} (d : Dc M pc .lcmp 1 pc') (kk : S M lvl mc ms Q pc' lv (vI (lg_cmp x y) :: st) h k n) : S M lvl mc ms Q pc lv (vL y :: vL x :: st) h k n := by
  intro p l e R s m args below meth c g Qf D0 ρ0 C hR ρ ls H locs hK hL hW hw hlo
  obtain ⟨d, rfl⟩ := d
  exact W.lcmp C.1 C.2.1 d (kk p l e R s m args below meth c g Qf D0 ρ0 C hR ρ ls H locs hK hL (hW.tl.tl.cons trivial) hw hlo)
theorem s_dup {v : PV} (d : Dc M pc .dup 1 pc') (hv : isL v = false) (kk : S M lvl mc ms Q pc' lv (v :: v :: st) h k n) : S M lvl mc ms Q pc lv (v :: st) h k n := by
  intro p l e R s m args below meth c g Qf D0 ρ0 C hR ρ ls H locs hK hL hW hw hlo
  obtain ⟨d, rfl⟩ := d
  exact lv_dup C.1 C.2.1 d (cat1 hv) (kk p l e R s m args below meth c g Qf D0 ρ0 C hR ρ ls H locs hK hL (hW.cons hW.hd) hw hlo)
theorem s_pop {v : PV} (d : Dc M pc .pop 1 pc') (hv : isL v = false) (kk : S M lvl mc ms Q pc' lv st h k n) : S M lvl mc ms Q pc lv (v :: st) h k n := by
  intro p l e R s m args below meth c g Qf D0 ρ0 C hR ρ ls H locs hK hL hW hw hlo
  obtain ⟨d, rfl⟩ := d
  exact lv_pop C.1 C.2.1 d (cat1 hv) (kk p l e R s m args below meth c g Qf D0 ρ0 C hR ρ ls H locs hK hL hW.tl hw hlo)
theorem s_dup_x1 {v w : PV} (d : Dc M pc .dup_x1 1 pc') (hv : isL v = false) (hu : isL w = false) (kk : S M lvl mc ms Q pc' lv (v :: w :: v :: st) h k n) : S M lvl mc ms Q pc lv (v :: w :: st) h k n := by
  intro p l e R s m args below meth c g Qf D0 ρ0 C hR ρ ls H locs hK hL hW hw hlo
  obtain ⟨d, rfl⟩ := d
  exact lv_dup_x1 C.1 C.2.1 d (cat1 hv) (cat1 hu) (kk p l e R s m args below meth c g Qf D0 ρ0 C hR ρ ls H locs hK hL (((hW.tl.tl.cons hW.hd).cons hW.tl.hd).cons hW.hd) hw hlo)
theorem s_dup2 {v w : PV} (d : Dc M pc .dup2 1 pc') (hv : isL v = false) (hu : isL w = false) (kk : S M lvl mc ms Q pc' lv (v :: w :: v :: w :: st) h k n) : S M lvl mc ms Q pc lv (v :: w :: st) h k n := by
  intro p l e R s m args below meth c g Qf D0 ρ0 C hR ρ ls H locs hK hL hW hw hlo
  obtain ⟨d, rfl⟩ := d
  exact lv_dup2_11 C.1 C.2.1 d (cat1 hv) (cat1 hu) (kk p l e R s m args below meth c g Qf D0 ρ0 C hR ρ ls H locs hK hL ((hW.cons hW.tl.hd).cons hW.hd) hw hlo)
theorem s_icmp_eq {x y : Int32} (d : Db M pc (.if_icmp .eq) tgt pc') (kt : x = y → S M lvl mc ms Q tgt lv st h k n) (kf : ¬ x = y → S M lvl mc ms Q pc' lv st h k n) : S M lvl mc ms Q pc lv (vI y :: vI x :: st) h k n := by
  intro p l e R s m args below meth c g Qf D0 ρ0 C hR ρ ls H locs hK hL hW hw hlo
  obtain ⟨off, d, ht, rfl⟩ := d
  exact lv_icmp_eq C.1 C.2.1 d ht (fun q => kt q p l e R s m args below meth c g Qf D0 ρ0 C hR ρ ls H locs hK hL hW.tl.tl hw hlo) (fun q => kf q p l e R s m args below meth c g Qf D0 ρ0 C hR ρ ls H locs hK hL hW.tl.tl hw hlo)
theorem s_if_eq {x : Int32} (d : Db M pc (.ifCond .eq) tgt pc') (kt : x = 0 → S M lvl mc ms Q tgt lv st h k n) (kf : ¬ x = 0 → S M lvl mc ms Q pc' lv st h k n) : S M lvl mc ms Q pc lv (vI x :: st) h k n := by
  intro p l e R s m args below meth c g Qf D0 ρ0 C hR ρ ls H locs hK hL hW hw hlo
  obtain ⟨off, d, ht, rfl⟩ := d
  exact lv_if_eq C.1 C.2.1 d ht (fun q => kt q p l e R s m args below meth c g Qf D0 ρ0 C hR ρ ls H locs hK hL hW.tl hw hlo) (fun q => kf q p l e R s m args below meth c g Qf D0 ρ0 C hR ρ ls H locs hK hL hW.tl hw hlo)
theorem s_icmp_ne {x y : Int32} (d : Db M pc (.if_icmp .ne) tgt pc') (kt : ¬ x = y → S M lvl mc ms Q tgt lv st h k n) (kf : x = y → S M lvl mc ms Q pc' lv st h k n) : S M lvl mc ms Q pc lv (vI y :: vI x :: st) h k n := by
  intro p l e R s m args below meth c g Qf D0 ρ0 C hR ρ ls H locs hK hL hW hw hlo
  obtain ⟨off, d, ht, rfl⟩ := d
  exact lv_icmp_ne C.1 C.2.1 d ht (fun q => kt q p l e R s m args below meth c g Qf D0 ρ0 C hR ρ ls H locs hK hL hW.tl.tl hw hlo) (fun q => kf q p l e R s m args below meth c g Qf D0 ρ0 C hR ρ ls H locs hK hL hW.tl.tl hw hlo)
theorem s_if_ne {x : Int32} (d : Db M pc (.ifCond .ne) tgt pc') (kt : ¬ x = 0 → S M lvl mc ms Q tgt lv st h k n) (kf : x = 0 → S M lvl mc ms Q pc' lv st h k n) : S M lvl mc ms Q pc lv (vI x :: st) h k n := by
  intro p l e R s m args below meth c g Qf D0 ρ0 C hR ρ ls H locs hK hL hW hw hlo
  obtain ⟨off, d, ht, rfl⟩ := d
  exact lv_if_ne C.1 C.2.1 d ht (fun q => kt q p l e R s m args below meth c g Qf D0 ρ0 C hR ρ ls H locs hK hL hW.tl hw hlo) (fun q => kf q p l e R s m args below meth c g Qf D0 ρ0 C hR ρ ls H locs hK hL hW.tl hw hlo)
theorem s_icmp_lt {x y : Int32} (d : Db M pc (.if_icmp .lt) tgt pc') (kt : x < y → S M lvl mc ms Q tgt lv st h k n) (kf : ¬ x < y → S M lvl mc ms Q pc' lv st h k n) : S M lvl mc ms Q pc lv (vI y :: vI x :: st) h k n := by
  intro p l e R s m args below meth c g Qf D0 ρ0 C hR ρ ls H locs hK hL hW hw hlo
  obtain ⟨off, d, ht, rfl⟩ := d
  exact lv_icmp_lt C.1 C.2.1 d ht (fun q => kt q p l e R s m args below meth c g Qf D0 ρ0 C hR ρ ls H locs hK hL hW.tl.tl hw hlo) (fun q => kf q p l e R s m args below meth c g Qf D0 ρ0 C hR ρ ls H locs hK hL hW.tl.tl hw hlo)
theorem s_if_lt {x : Int32} (d : Db M pc (.ifCond .lt) tgt pc') (kt : x < 0 → S M lvl mc ms Q tgt lv st h k n) (kf : ¬ x < 0 → S M lvl mc ms Q pc' lv st h k n) : S M lvl mc ms Q pc lv (vI x :: st) h k n := by
  intro p l e R s m args below meth c g Qf D0 ρ0 C hR ρ ls H locs hK hL hW hw hlo
  obtain ⟨off, d, ht, rfl⟩ := d
  exact lv_if_lt C.1 C.2.1 d ht (fun q => kt q p l e R s m args below meth c g Qf D0 ρ0 C hR ρ ls H locs hK hL hW.tl hw hlo) (fun q => kf q p l e R s m args below meth c g Qf D0 ρ0 C hR ρ ls H locs hK hL hW.tl hw hlo)
theorem s_icmp_ge {x y : Int32} (d : Db M pc (.if_icmp .ge) tgt pc') (kt : y ≤ x → S M lvl mc ms Q tgt lv st h k n) (kf : ¬ y ≤ x → S M lvl mc ms Q pc' lv st h k n) : S M lvl mc ms Q pc lv (vI y :: vI x :: st) h k n := by
  intro p l e R s m args below meth c g Qf D0 ρ0 C hR ρ ls H locs hK hL hW hw hlo
  obtain ⟨off, d, ht, rfl⟩ := d
  exact lv_icmp_ge C.1 C.2.1 d ht (fun q => kt q p l e R s m args below meth c g Qf D0 ρ0 C hR ρ ls H locs hK hL hW.tl.tl hw hlo) (fun q => kf q p l e R s m args below meth c g Qf D0 ρ0 C hR ρ ls H locs hK hL hW.tl.tl hw hlo)
theorem s_if_ge {x : Int32} (d : Db M pc (.ifCond .ge) tgt pc') (kt : 0 ≤ x → S M lvl mc ms Q tgt lv st h k n) (kf : ¬ 0 ≤ x → S M lvl mc ms Q pc' lv st h k n) : S M lvl mc ms Q pc lv (vI x :: st) h k n := by
  intro p l e R s m args below meth c g Qf D0 ρ0 C hR ρ ls H locs hK hL hW hw hlo
  obtain ⟨off, d, ht, rfl⟩ := d
  exact lv_if_ge C.1 C.2.1 d ht (fun q => kt q p l e R s m args below meth c g Qf D0 ρ0 C hR ρ ls H locs hK hL hW.tl hw hlo) (fun q => kf q p l e R s m args below meth c g Qf D0 ρ0 C hR ρ ls H locs hK hL hW.tl hw hlo)
theorem s_icmp_gt {x y : Int32} (d : Db M pc (.if_icmp .gt) tgt pc') (kt : y < x → S M lvl mc ms Q tgt lv st h k n) (kf : ¬ y < x → S M lvl mc ms Q pc' lv st h k n) : S M lvl mc ms Q pc lv (vI y :: vI x :: st) h k n := by
  intro p l e R s m args below meth c g Qf D0 ρ0 C hR ρ ls H locs hK hL hW hw hlo
  obtain ⟨off, d, ht, rfl⟩ := d
  exact lv_icmp_gt C.1 C.2.1 d ht (fun q => kt q p l e R s m args below meth c g Qf D0 ρ0 C hR ρ ls H locs hK hL hW.tl.tl hw hlo) (fun q => kf q p l e R s m args below meth c g Qf D0 ρ0 C hR ρ ls H locs hK hL hW.tl.tl hw hlo)
theorem s_if_gt {x : Int32} (d : Db M pc (.ifCond .gt) tgt pc') (kt : 0 < x → S M lvl mc ms Q tgt lv st h k n) (kf : ¬ 0 < x → S M lvl mc ms Q pc' lv st h k n) : S M lvl mc ms Q pc lv (vI x :: st) h k n := by
  intro p l e R s m args below meth c g Qf D0 ρ0 C hR ρ ls H locs hK hL hW hw hlo
  obtain ⟨off, d, ht, rfl⟩ := d
  exact lv_if_gt C.1 C.2.1 d ht (fun q => kt q p l e R s m args below meth c g Qf D0 ρ0 C hR ρ ls H locs hK hL hW.tl hw hlo) (fun q => kf q p l e R s m args below meth c g Qf D0 ρ0 C hR ρ ls H locs hK hL hW.tl hw hlo)
theorem s_icmp_le {x y : Int32} (d : Db M pc (.if_icmp .le) tgt pc') (kt : x ≤ y → S M lvl mc ms Q tgt lv st h k n) (kf : ¬ x ≤ y → S M lvl mc ms Q pc' lv st h k n) : S M lvl mc ms Q pc lv (vI y :: vI x :: st) h k n := by
  intro p l e R s m args below meth c g Qf D0 ρ0 C hR ρ ls H locs hK hL hW hw hlo
  obtain ⟨off, d, ht, rfl⟩ := d
  exact lv_icmp_le C.1 C.2.1 d ht (fun q => kt q p l e R s m args below meth c g Qf D0 ρ0 C hR ρ ls H locs hK hL hW.tl.tl hw hlo) (fun q => kf q p l e R s m args below meth c g Qf D0 ρ0 C hR ρ ls H locs hK hL hW.tl.tl hw hlo)
theorem s_if_le {x : Int32} (d : Db M pc (.ifCond .le) tgt pc') (kt : x ≤ 0 → S M lvl mc ms Q tgt lv st h k n) (kf : ¬ x ≤ 0 → S M lvl mc ms Q pc' lv st h k n) : S M lvl mc ms Q pc lv (vI x :: st) h k n := by
  intro p l e R s m args below meth c g Qf D0 ρ0 C hR ρ ls H locs hK hL hW hw hlo
  obtain ⟨off, d, ht, rfl⟩ := d
  exact lv_if_le C.1 C.2.1 d ht (fun q => kt q p l e R s m args below meth c g Qf D0 ρ0 C hR ρ ls H locs hK hL hW.tl hw hlo) (fun q => kf q p l e R s m args below meth c g Qf D0 ρ0 C hR ρ ls H locs hK hL hW.tl hw hlo)
theorem s_goto (d : Db M pc .goto tgt pc') (kk : S M lvl mc ms Q tgt lv st h k n) : S M lvl mc ms Q pc lv st h k n := by
  intro p l e R s m args below meth c g Qf D0 ρ0 C hR ρ ls H locs hK hL hW hw hlo
  obtain ⟨off, d, ht, -⟩ := d
  exact lv_goto C.1 C.2.1 d ht (kk p l e R s m args below meth c g Qf D0 ρ0 C hR ρ ls H locs hK hL hW hw hlo)
theorem s_ifnull {o : Option Nm} (d : Db M pc .ifnull tgt pc') (kt : o = none → S M lvl mc ms Q tgt lv st h k n) (kf : (∃ a, o = some a) → S M lvl mc ms Q pc' lv st h k n) : S M lvl mc ms Q pc lv (vO o :: st) h k n := by
  intro p l e R s m args below meth c g Qf D0 ρ0 C hR ρ ls H locs hK hL hW hw hlo
  obtain ⟨off, d, ht, rfl⟩ := d
  cases o with
  | none => exact lv_ifnullN C.1 C.2.1 d ht (kt rfl p l e R s m args below meth c g Qf D0 ρ0 C hR ρ ls H locs hK hL hW.tl hw hlo)
  | some a => exact lv_ifnull C.1 C.2.1 d (kf ⟨a, rfl⟩ p l e R s m args below meth c g Qf D0 ρ0 C hR ρ ls H locs hK hL hW.tl hw hlo)
theorem s_ifnonnull {o : Option Nm} (d : Db M pc .ifnonnull tgt pc') (kt : (∃ a, o = some a) → S M lvl mc ms Q tgt lv st h k n) (kf : o = none → S M lvl mc ms Q pc' lv st h k n) : S M lvl mc ms Q pc lv (vO o :: st) h k n := by
  intro p l e R s m args below meth c g Qf D0 ρ0 C hR ρ ls H locs hK hL hW hw hlo
  obtain ⟨off, d, ht, rfl⟩ := d
  cases o with
  | none => exact lv_ifnonnullN C.1 C.2.1 d (kf rfl p l e R s m args below meth c g Qf D0 ρ0 C hR ρ ls H locs hK hL hW.tl hw hlo)
  | some a => exact lv_ifnonnull C.1 C.2.1 d ht (kt ⟨a, rfl⟩ p l e R s m args below meth c g Qf D0 ρ0 C hR ρ ls H locs hK hL hW.tl hw hlo)
theorem oinj {g : Gl} {ρ : Nm → Nat} {h : Hp} {U : State} {H : Heap} (w : Wd g ρ h U H) {a b : Option Nm} (ha : wfv h (vO a)) (hb : wfv h (vO b)) : a.map ρ = b.map ρ ↔ a = b := by
  cases a with
  | none => cases b <;> simp
  | some a =>
    cases b with
    | none => simp
    | some b =>
      simp only [Option.map_some, Option.some.injEq]
      exact ⟨fun e => w.2.1 a b ha hb e, fun e => by rw [e]⟩
theorem tr_o (ρ : Nm → Nat) (o : Option Nm) : tr ρ (vO o) = va_rf (o.map ρ) := by cases o <;> rfl
theorem s_acmp_eq {a b : Option Nm} (d : Db M pc (.if_acmp .eq) tgt pc') (kt : a = b → S M lvl mc ms Q tgt lv st h k n) (kf : ¬ a = b → S M lvl mc ms Q pc' lv st h k n) : S M lvl mc ms Q pc lv (vO b :: vO a :: st) h k n := by
  intro p l e R s m args below meth c g Qf D0 ρ0 C hR ρ ls H locs hK hL hW hw hlo
  obtain ⟨off, d, ht, rfl⟩ := d
  have ee := oinj hw hW.tl.hd hW.hd
  show W p l e R s m args below meth c H locs k n Qf (F0 m pc ls (tr ρ (vO b) :: tr ρ (vO a) :: st.map (tr ρ)))
  rw [tr_o, tr_o]
  exact lv_acmp_eq C.1 C.2.1 d ht (fun q => kt (ee.mp q) p l e R s m args below meth c g Qf D0 ρ0 C hR ρ ls H locs hK hL hW.tl.tl hw hlo) (fun q => kf (fun z => q (ee.mpr z)) p l e R s m args below meth c g Qf D0 ρ0 C hR ρ ls H locs hK hL hW.tl.tl hw hlo)
theorem s_acmp_ne {a b : Option Nm} (d : Db M pc (.if_acmp .ne) tgt pc') (kt : ¬ a = b → S M lvl mc ms Q tgt lv st h k n) (kf : a = b → S M lvl mc ms Q pc' lv st h k n) : S M lvl mc ms Q pc lv (vO b :: vO a :: st) h k n := by
  intro p l e R s m args below meth c g Qf D0 ρ0 C hR ρ ls H locs hK hL hW hw hlo
  obtain ⟨off, d, ht, rfl⟩ := d
  have ee := oinj hw hW.tl.hd hW.hd
  show W p l e R s m args below meth c H locs k n Qf (F0 m pc ls (tr ρ (vO b) :: tr ρ (vO a) :: st.map (tr ρ)))
  rw [tr_o, tr_o]
  exact lv_acmp_ne C.1 C.2.1 d ht (fun q => kt (fun z => q (ee.mpr z)) p l e R s m args below meth c g Qf D0 ρ0 C hR ρ ls H locs hK hL hW.tl.tl hw hlo) (fun q => kf (ee.mp q) p l e R s m args below meth c g Qf D0 ρ0 C hR ρ ls H locs hK hL hW.tl.tl hw hlo)
theorem s_tabIn {dflt lo hi : Int} {offs : Array Int} {len : Nat} {x : Int32} {off : Int} (d : Dc M pc (.tableswitch dflt lo hi offs) len pc') (h1 : ¬ x.toInt < lo) (h2 : ¬ hi < x.toInt) (ho : offs[(x.toInt - lo).toNat]? = some off) (ht : (pc : Int) + off = (tgt : Int)) (kk : S M lvl mc ms Q tgt lv st h k n) : S M lvl mc ms Q pc lv (vI x :: st) h k n := by
  intro p l e R s m args below meth c g Qf D0 ρ0 C hR ρ ls H locs hK hL hW hw hlo
  exact lv_tableIn C.1 C.2.1 d.1 h1 h2 ho ht (kk p l e R s m args below meth c g Qf D0 ρ0 C hR ρ ls H locs hK hL hW.tl hw hlo)
theorem s_tabOut {dflt lo hi : Int} {offs : Array Int} {len : Nat} {x : Int32} (d : Dc M pc (.tableswitch dflt lo hi offs) len pc') (h1 : x.toInt < lo ∨ hi < x.toInt) (ht : (pc : Int) + dflt = (tgt : Int)) (kk : S M lvl mc ms Q tgt lv st h k n) : S M lvl mc ms Q pc lv (vI x :: st) h k n := by
  intro p l e R s m args below meth c g Qf D0 ρ0 C hR ρ ls H locs hK hL hW hw hlo
  exact lv_tableOut C.1 C.2.1 d.1 h1 ht (kk p l e R s m args below meth c g Qf D0 ρ0 C hR ρ ls H locs hK hL hW.tl hw hlo)
theorem s_lookup {dflt : Int} {ps : Array (Int × Int)} {len : Nat} {x : Int32} {off : Int} (d : Dc M pc (.lookupswitch dflt ps) len pc') (hp : (ps.toList.zip (ps.toList.drop 1)).all (fun (a, next) => a.1 < next.1) = true) (ho : Op.lookupswitch.offset ps.toList dflt x.toInt = off) (ht : (pc : Int) + off = (tgt : Int)) (kk : S M lvl mc ms Q tgt lv st h k n) : S M lvl mc ms Q pc lv (vI x :: st) h k n := by
  intro p l e R s m args below meth c g Qf D0 ρ0 C hR ρ ls H locs hK hL hW hw hlo
  exact lv_lookup C.1 C.2.1 d.1 hp ho ht (kk p l e R s m args below meth c g Qf D0 ρ0 C hR ρ ls H locs hK hL hW.tl hw hlo)
theorem s_widen {k' n' : Nat} (h1 : k ≤ k') (h2 : n ≤ n') (kk : S M lvl mc ms Q pc lv st h k' n') : S M lvl mc ms Q pc lv st h k n := by
  intro p l e R s m args below meth c g Qf D0 ρ0 C hR ρ ls H locs hK hL hW hw hlo
  exact W.widen h1 h2 (kk p l e R s m args below meth c g Qf D0 ρ0 C hR ρ ls H locs hK hL hW hw hlo)
theorem s_iret {x : Int32} (d : Dc M pc .ireturn 1 pc') (hr : M.2.2.2 = some .int) (h1 : k ≤ mc) (h2 : n ≤ ms) (hq : Q (some (vI x)) h) : S M lvl mc ms Q pc lv [vI x] h k n := by
  intro p l e R s m args below meth c g Qf D0 ρ0 C hR ρ ls H locs hK hL hW hw hlo
  exact W.widen h1 h2 (hR .ireturn (some (vI x)) ρ h H locs pc ls (Or.inl ⟨rfl, x, rfl, Or.inl hr⟩) d.1 hK hw (fun w e => by cases e; trivial) hlo hq)
theorem s_zret {x : Int32} (d : Dc M pc .ireturn 1 pc') (hr : M.2.2.2 = some .boolean) (hx : x = 0 ∨ x = 1) (h1 : k ≤ mc) (h2 : n ≤ ms) (hq : Q (some (vI x)) h) : S M lvl mc ms Q pc lv [vI x] h k n := by
  intro p l e R s m args below meth c g Qf D0 ρ0 C hR ρ ls H locs hK hL hW hw hlo
  exact W.widen h1 h2 (hR .ireturn (some (vI x)) ρ h H locs pc ls (Or.inl ⟨rfl, x, rfl, Or.inr ⟨hr, hx⟩⟩) d.1 hK hw (fun w e => by cases e; trivial) hlo hq)
theorem s_aret {o : Option Nm} {rt : FieldType} (d : Dc M pc .areturn 1 pc') (hr : M.2.2.2 = some rt) (hrt : (∃ n, rt = .object n) ∨ ∃ t, rt = .array t) (h1 : k ≤ mc) (h2 : n ≤ ms) (hq : Q (some (vO o)) h) : S M lvl mc ms Q pc lv [vO o] h k n := by
  intro p l e R s m args below meth c g Qf D0 ρ0 C hR ρ ls H locs hK hL hW hw hlo
  exact W.widen h1 h2 (hR .areturn (some (vO o)) ρ h H locs pc ls (Or.inr (Or.inl ⟨rfl, o, rfl, rt, hr, hrt⟩)) d.1 hK hw (fun w e => by cases e; exact hW.hd) hlo hq)
theorem s_vret (d : Dc M pc .return_ 1 pc') (hr : M.2.2.2 = none) (h1 : k ≤ mc) (h2 : n ≤ ms) (hq : Q none h) : S M lvl mc ms Q pc lv [] h k n := by
  intro p l e R s m args below meth c g Qf D0 ρ0 C hR ρ ls H locs hK hL hW hw hlo
  exact W.widen h1 h2 (hR .return_ none ρ h H locs pc ls (Or.inr (Or.inr ⟨rfl, rfl, hr⟩)) d.1 hK hw (fun w e => by cases e) hlo hq)
end SR
end
section
theorem cOK.eq {g : Gl} {ρ ρ' : Nm → Nat} {H H' : Heap} {a : Nat} {c : PC} (hc : cOK g ρ H a c) (hH : H'[a]? = H[a]?) (hv : ∀ j, tr ρ' (c.2.2 j) = tr ρ (c.2.2 j)) : cOK g ρ' H' a c := by
  have e : (fun j => tr ρ' (c.2.2 j)) = (fun j => tr ρ (c.2.2 j)) := funext hv
  unfold cOK at hc ⊢
  rw [e]
  split at hc
  · rename_i h1
    rw [if_pos h1]
    exact hc.kept hH
  · rename_i h1
    rw [if_neg h1]
    split at hc
    · rename_i h2
      rw [if_pos h2, hH]
      exact hc
    · rename_i h2
      rw [if_neg h2]
      obtain ⟨cell, q1, q2, q3, q4, q5, q6⟩ := hc
      exact ⟨cell, by rw [hH]; exact q1, q2, q3, q4, q5, fun j hj => by rw [hv]; exact q6 j hj⟩
theorem cOK.lt {g : Gl} {ρ : Nm → Nat} {H : Heap} {a : Nat} {c : PC} (hc : cOK g ρ H a c) : a < H.size := by
  unfold cOK at hc
  split at hc
  · obtain ⟨cell, q, -⟩ := hc
    exact (Array.getElem?_eq_some_iff.mp q).1
  · split at hc
    · exact (Array.getElem?_eq_some_iff.mp hc).1
    · obtain ⟨cell, q, -⟩ := hc
      exact (Array.getElem?_eq_some_iff.mp q).1
/-- one cell is written -/
theorem Wd.put {g : Gl} {ρ : Nm → Nat} {h : Hp} {U : State} {H H' : Heap} {n : Nm} {c' : PC} (w : Wd g ρ h U H) (hn : h n ≠ none) (h2 : 2 ≤ n.1) (hc : cOK g ρ H' (ρ n) c') (hv : ∀ j, wfv h (c'.2.2 j)) (hz : H'.size = H.size) (ho : ∀ q, q ≠ ρ n → H'[q]? = H[q]?) : Wd g ρ (up h n c') U H' := by
  obtain ⟨w1, w2, w3, w4, w5, w6⟩ := w
  have dm : ∀ m, up h n c' m ≠ none → h m ≠ none := fun m hm => by
    by_cases e : m = n
    · rw [e]; exact hn
    · rw [up_ne e] at hm; exact hm
  have n1 : ((1, 0, 0) : Nm) ≠ n := fun e => by rw [← e] at h2; exact absurd h2 (by decide)
  refine ⟨fun m c hm => ?_, fun m m' hm hm' e => w2 m m' (dm m hm) (dm m' hm') e, fun m hm hm2 => w3 m (dm m hm) hm2, by rw [hz]; exact w4, by rw [up_ne n1]; exact w5, w6.kept fun a _ ha => ho a fun e => ha (by rw [e]; exact w3 n hn h2)⟩
  by_cases e : m = n
  · subst e
    rw [up_self] at hm
    cases hm
    exact ⟨hc, fun j => (hv j).up⟩
  · rw [up_ne e] at hm
    obtain ⟨q1, q2⟩ := w1 m c hm
    exact ⟨q1.eq (ho _ fun z => e (w2 m n (by rw [hm]; exact fun q => by cases q) hn z)) (fun _ => rfl), fun j => (q2 j).up⟩
/-- a cell is made -/
theorem Wd.mk {g : Gl} {ρ : Nm → Nat} {h : Hp} {U : State} {H H' : Heap} {n : Nm} {c' : PC} (w : Wd g ρ h U H) (hn : h n = none) (hc : cOK g (upr ρ n H.size) H' H.size c') (hv : ∀ j, wfv h (c'.2.2 j)) (hz : H.size ≤ H'.size) (ho : ∀ q, q < H.size → H'[q]? = H[q]?) : Wd g (upr ρ n H.size) (up h n c') U H' := by
  obtain ⟨w1, w2, w3, w4, w5, w6⟩ := w
  have ne : ∀ m, h m ≠ none → m ≠ n := fun m hm e => hm (by rw [e]; exact hn)
  have re : ∀ m, h m ≠ none → upr ρ n H.size m = ρ m := fun m hm => if_neg (ne m hm)
  have rn : upr ρ n H.size n = H.size := if_pos rfl
  have lt : ∀ m, h m ≠ none → ρ m < H.size := fun m hm => by
    obtain ⟨c, hc⟩ := Option.ne_none_iff_exists'.mp hm
    exact (w1 m c hc).1.lt
  have dm : ∀ m, up h n c' m ≠ none → m = n ∨ h m ≠ none := fun m hm => by
    by_cases e : m = n
    · exact Or.inl e
    · rw [up_ne e] at hm; exact Or.inr hm
  have i1 : h (1, 0, 0) ≠ none := by rw [w5]; exact fun q => by cases q
  refine ⟨fun m c hm => ?_, fun m m' hm hm' e => ?_, fun m hm hm2 => ?_, Nat.le_trans w4 hz, by rw [up_ne (ne _ i1)]; exact w5, ?_⟩
  · by_cases e : m = n
    · subst e
      rw [up_self] at hm
      cases hm
      rw [rn]
      exact ⟨hc, fun j => (hv j).up⟩
    · rw [up_ne e] at hm
      have hm' : h m ≠ none := by rw [hm]; exact fun q => by cases q
      obtain ⟨q1, q2⟩ := w1 m c hm
      rw [re m hm']
      exact ⟨q1.eq (ho _ (lt m hm')) (fun j => trx (q2 j) re), fun j => (q2 j).up⟩
  · rcases dm m hm with a | a <;> rcases dm m' hm' with b | b
    · rw [a, b]
    · rw [a, rn, re m' b] at e
      exact absurd e (Nat.ne_of_gt (lt m' b))
    · rw [b, rn, re m a] at e
      exact absurd e (Nat.ne_of_lt (lt m a))
    · rw [re m a, re m' b] at e
      exact w2 m m' a b e
  · rcases dm m hm with a | a
    · rw [a, rn]; exact w4
    · rw [re m a]; exact w3 m a hm2
  · unfold eZ
    rw [re _ i1]
    exact w6.kept fun a ha _ => ho a ha
/-- a field by its table: link, class, place -/
def GF (own : String) (idx ci kf : Nat) : Prop := ci < 14 ∧ kf < cN ci ∧
  ((∃ ref, Cond.fieldLink own idx ref (cT ci kf).2.1 (cT ci kf).2.2.1 ∈ TB ∧ (ref = (cT ci kf).1 ∨ Cond.sameField ref (cT ci kf).1 (cT ci kf).2.1 (cT ci kf).2.2.1 ∈ TB)) ∨
   ∃ host, Cond.fieldLinkNest own idx (cT ci kf).1 (cT ci kf).2.1 (cT ci kf).2.2.1 host ∈ NT)
theorem cls_in : ∀ k, k < 14 → ∀ w ∈ u_ws (cS k) (cT k) (cN k), w ∈ TB := by decide +kernel
theorem cls_ty : ∀ k, k < 14 → ∀ j, j < cN k → parseFieldDescriptor (cT k j).2.2.1 = some (cY k j) := by decide +kernel
theorem cls_nm : ∀ k, k < 14 → ∀ a, a < cN k → ∀ b, b < cN k → a ≠ b → (cT k a).2.1 ≠ (cT k b).2.1 := by decide +kernel
end
section
theorem cOK.ob {g : Gl} {ρ : Nm → Nat} {H : Heap} {a : Nat} {c : PC} (hc : cOK g ρ H a c) (h : c.1 < 14) : t_OB a (gC g c.1) (cN c.1) (gI g c.1) H (fun j => tr ρ (c.2.2 j)) := by
  unfold cOK at hc
  rw [if_pos h] at hc
  exact hc
theorem cOK.mkOb {g : Gl} {ρ : Nm → Nat} {H : Heap} {a : Nat} {c : PC} (h : c.1 < 14) (hc : t_OB a (gC g c.1) (cN c.1) (gI g c.1) H (fun j => tr ρ (c.2.2 j))) : cOK g ρ H a c := by
  unfold cOK
  rw [if_pos h]
  exact hc
theorem cOK.ar {g : Gl} {ρ : Nm → Nat} {H : Heap} {a : Nat} {c : PC} (hc : cOK g ρ H a c) (h : ¬ c.1 < 14) (h' : c.1 < 25) : H[a]? = some (arrV (gA g c.1) c.2.1 (fun j => tr ρ (c.2.2 j))) := by
  unfold cOK at hc
  rw [if_neg h, if_pos h'] at hc
  exact hc
theorem cOK.mkAr {g : Gl} {ρ : Nm → Nat} {H : Heap} {a : Nat} {c : PC} (h : ¬ c.1 < 14) (h' : c.1 < 25) (hc : H[a]? = some (arrV (gA g c.1) c.2.1 (fun j => tr ρ (c.2.2 j)))) : cOK g ρ H a c := by
  unfold cOK
  rw [if_neg h, if_pos h']
  exact hc
theorem nw_use {g : Gl} {s : State} {args : Array Value} (hk : KB g s) {w : Cond} (hw : w ∈ NT) : w.before args s = true := va_Nw.use (nt_tab (List.mem_filter.mp hw).2) (hk.2.2.2.2.1 w hw)
section FR
variable {M : MD} {lvl mc ms : Nat} {Q : Option PV → Hp → Prop} {pc pc' tgt : Nat} {lv : List (Option PV)} {st : List PV} {h : Hp} {k n : Nat}
theorem s_get {idx ci kf : Nat} {nm : Nm} {len : Nat} {f : Nat → PV} (d : Dc M pc (.getfield idx) 3 pc') (G : GF M.1.cls idx ci kf) (hc : h nm = some (ci, len, f)) (kk : S M lvl mc ms Q pc' lv (f kf :: st) h k n) : S M lvl mc ms Q pc lv (vR nm :: st) h k n := by
  intro p l e R s m args below meth c g Qf D0 ρ0 C hR ρ ls H locs hK hL hW hw hlo
  obtain ⟨d, rfl⟩ := d
  obtain ⟨c1, c2, c3⟩ := G
  have k1 := kk p l e R s m args below meth c g Qf D0 ρ0 C hR ρ ls H locs hK hL (hW.tl.cons ((hw.1 nm _ hc).2 kf)) hw hlo
  obtain ⟨hx, hb, -, hown, hts, hkb, -⟩ := C
  obtain ⟨cell, q1, q2, q3, q4⟩ := (hw.1 nm _ hc).1.ob c1
  obtain ⟨hS, hfc, kC, hkC, hkind⟩ := hkb.1 ci c1
  obtain ⟨cf, kf', fi, fd, hi, hsl⟩ := hS kf c2
  have hst := (u_facts hfc hkC (u_lays hts (cls_in ci c1) c2) hi).1
  have hsl' : cell.slots[fd.slot]? = some (tr ρ (f kf)) := by rw [hsl]; exact q4 kf c2
  have hvm : cell.vm ≠ .unknown := by rw [q3]; exact fun h => by cases h
  rcases c3 with ⟨ref, l1, l2⟩ | ⟨host, l1⟩
  · refine W.getf hx hb hown (hts _ l1) (cf := cf) (k := kf') (i := fi) (f := fd) ?_ hst q1 hvm hsl' rfl rfl d k1
    rcases l2 with rfl | l2
    · exact hi
    · exact u_same (hts _ l2) _ hi
  · exact va_Wgetf hx hb hown (nw_use hkb l1) hi hst q1 hvm hsl' rfl rfl d k1
/-- which values a field takes -/
def fitV (ty : FieldType) (v : PV) : Prop := match ty with
  | .int => ∃ x, v = vI x
  | .boolean => v = vI 0 ∨ v = vI 1
  | .long => ∃ x, v = vL x
  | .object _ => ∃ o, v = vO o
  | .array _ => ∃ o, v = vO o
  | _ => False
theorem fitV.narrow {ty : FieldType} {v : PV} {ρ : Nm → Nat} (h : fitV ty v) : Jvm.narrow ty (tr ρ v) = tr ρ v ∧ fits ty (tr ρ v) = true := by
  cases ty with
  | int => obtain ⟨x, rfl⟩ := h; exact ⟨rfl, rfl⟩
  | boolean => 
    rcases h with rfl | rfl
    · exact ⟨(show Jvm.narrow .boolean (.int 0) = .int 0 by decide +kernel), (show fits .boolean (.int 0) = true by decide +kernel)⟩
    · exact ⟨(show Jvm.narrow .boolean (.int 1) = .int 1 by decide +kernel), (show fits .boolean (.int 1) = true by decide +kernel)⟩
  | long => obtain ⟨x, rfl⟩ := h; exact ⟨rfl, rfl⟩
  | object C => obtain ⟨o, rfl⟩ := h; cases o <;> exact ⟨rfl, rfl⟩
  | array t => obtain ⟨o, rfl⟩ := h; cases o <;> exact ⟨rfl, rfl⟩
  | _ => exact h.elim
theorem s_put {idx ci kf : Nat} {nm : Nm} {len : Nat} {f : Nat → PV} {v : PV} (d : Dc M pc (.putfield idx) 3 pc') (G : GF M.1.cls idx ci kf) (hc : h nm = some (ci, len, f)) (h2 : Nat.ble 2 nm.1 = true) (hf : (cT ci kf).2.2.2 = false ∨ (M.1.name = "<init>" ∧ (cT ci kf).1 = M.1.cls)) (hv : fitV (cY ci kf) v)
    (kk : S M lvl mc ms Q pc' lv st (up h nm (ci, len, upf f kf v)) k n) : S M lvl mc ms Q pc lv (v :: vR nm :: st) h k n := by
  intro p l e R s m args below meth c g Qf D0 ρ0 C hR ρ ls H locs hK hL hW hw hlo
  obtain ⟨d, rfl⟩ := d
  obtain ⟨c1, c2, c3⟩ := G
  have hn : h nm ≠ none := by rw [hc]; exact fun q => by cases q
  have h2 : 2 ≤ nm.1 := Nat.le_of_ble_eq_true h2
  have k1 : ∀ (H' : Heap) (i : Nat), cOK g ρ H' (ρ nm) (ci, len, upf f kf v) → H'.size = H.size → (∀ q, q ≠ ρ nm → H'[q]? = H[q]?) → W p l e R s m args below meth c H' (locs ++ [⟨ρ nm, i⟩]) k n Qf (F0 m (pc + 3) ls (st.map (tr ρ))) := fun H' i o1 o2 o3 =>
    kk p l e R s m args below meth c g Qf D0 ρ0 C hR ρ ls H' _ (fun x hx => ⟨up_dom (hK x hx).1, (hK x hx).2⟩) (hL.mono fun x hx => ⟨up_dom hx, rfl⟩) (hW.tl.tl.mono fun x hx => up_dom hx)
      (hw.put hn h2 o1 (fun j => by
        show wfv h (upf f kf v j)
        unfold upf
        split
        · exact hW.hd
        · exact (hw.1 nm _ hc).2 j) o2 o3) (t_lc hlo (hw.2.2.1 nm hn h2))
  obtain ⟨hx, hb, -, hown, hts, hkb, hnm, -⟩ := C
  obtain ⟨cell, q1, q2, q3, q4⟩ := (hw.1 nm _ hc).1.ob c1
  have hkb1 := hkb.1 ci c1
  obtain ⟨hS, hfc, kC, hkC, hkind⟩ := id hkb1
  obtain ⟨cf, kf', fi, fd, hi, hsl⟩ := hS kf c2
  have hla := u_lays hts (cls_in ci c1) c2
  have hst := (u_facts hfc hkC hla hi).1
  have hap : ∀ x y, x < cN ci → y < cN ci → x ≠ y → gI g ci x ≠ gI g ci y := by
    intro x y hx' hy hne
    obtain ⟨_, _, _, fa, hia, ea⟩ := hS x hx'
    obtain ⟨_, _, _, fb, hib, eb⟩ := hS y hy
    rw [← ea, ← eb]
    refine u_apart (u_lays hts (cls_in ci c1) hx') (u_lays hts (cls_in ci c1) hy) hia hib ?_
    rw [(State.fieldFound?_type hia (cls_ty ci c1 x hx')).1, (State.fieldFound?_type hib (cls_ty ci c1 y hy)).1]
    exact cls_nm ci c1 x hx' y hy hne
  have h6 := u_fits hfc hkC hkind hla hi (cls_ty ci c1 kf c2) (hv.narrow (ρ := ρ)).1 (hv.narrow (ρ := ρ)).2
  have hlay := hts _ (cls_in ci c1 _ (u_in_lay c2))
  unfold u_lay at hlay
  have hfin : hasFlag fd.accessFlags Acc.final = false ∨ (m.cls = cf ∧ meth.name = "<init>") := by
    rcases hf with hf | ⟨hf1, hf2⟩
    · rw [if_neg (by rw [hf]; decide)] at hlay
      exact Or.inl (u_store hfc hkC hkind hlay hi (cls_ty ci c1 kf c2) (hv.narrow (ρ := ρ)).1 (hv.narrow (ρ := ρ)).2).1
    · cases hb2 : (cT ci kf).2.2.2 with
      | false =>
        rw [if_neg (by rw [hb2]; decide)] at hlay
        exact Or.inl (u_store hfc hkC hkind hlay hi (cls_ty ci c1 kf c2) (hv.narrow (ρ := ρ)).1 (hv.narrow (ρ := ρ)).2).1
      | true =>
        rw [if_pos hb2] at hlay
        refine Or.inr ⟨?_, hnm.trans hf1⟩
        obtain ⟨_, _, c', _, _, _, -, -, hf', -, -, -, hown2, -⟩ := Cond.laysFinal_spec hlay
        have e1 : c' = cf := by have := hi.symm.trans hf'; simp at this; exact this.1.symm
        rw [hf2] at hown2
        rw [← e1]; exact Option.some.inj (hown.symm.trans hown2)
  have hvm : cell.vm ≠ .unknown := by rw [q3]; exact fun h => by cases h
  have hlt : fd.slot < cell.slots.size := by rw [hsl]; exact k2_hasslot (q4 kf c2)
  have ha : ρ nm < H.size := (Array.getElem?_eq_some_iff.mp q1).1
  have fin : W p l e R s m args below meth c (H.setIfInBounds (ρ nm) (cell.setSlot fd.slot (tr ρ v))) (locs ++ [⟨ρ nm, fd.slot⟩]) k n Qf (F0 m (pc + 3) ls (st.map (tr ρ))) := by
    refine k1 _ fd.slot (cOK.mkOb c1 ?_) (by simp) (fun q hq => by simp [Array.getElem?_setIfInBounds, Ne.symm hq])
    refine t_OB.to (V := updV (fun j => tr ρ (f j)) kf (tr ρ v)) ⟨cell.setSlot fd.slot (tr ρ v), by simp [Array.getElem?_setIfInBounds, ha], q2, q3, ?_⟩ (fun j _ => ?_)
    · rw [hsl]; exact t_set q4 hap c2 (tr ρ v)
    · show (if j = kf then tr ρ v else tr ρ (f j)) = tr ρ (upf f kf v j)
      unfold upf
      split <;> rfl
  rcases c3 with ⟨ref, l1, l2⟩ | ⟨host, l1⟩
  · refine W.putf hx hb hown (hts _ l1) (cf := cf) (k := kf') (i := fi) (f := fd) ?_ hst hfin q1 hvm hlt h6.1 (by rw [q2, q3]; exact h6.2) rfl rfl d fin
    rcases l2 with rfl | l2
    · exact hi
    · exact u_same (hts _ l2) _ hi
  · exact va_Wputf hx hb hown (nw_use hkb l1) hi hst hfin q1 hvm hlt h6.1 (by rw [q2, q3]; exact h6.2) rfl rfl d fin
/-- the empty row of ArrayList -/
theorem s_gets {idx : Nat} (d : Dc M pc (.getstatic idx) 3 pc') (G : Cond.fieldLink M.1.cls idx "java/util/ArrayList" "DEFAULTCAPACITY_EMPTY_ELEMENTDATA" "[Ljava/lang/Object;" ∈ TB) (kk : S M lvl mc ms Q pc' lv (vR (1, 0, 0) :: st) h k n) : S M lvl mc ms Q pc lv st h k n := by
  intro p l e R s m args below meth c g Qf D0 ρ0 C hR ρ ls H locs hK hL hW hw hlo
  obtain ⟨d, rfl⟩ := d
  have k1 := kk p l e R s m args below meth c g Qf D0 ρ0 C hR ρ ls H locs hK hL (hW.cons (show h (1, 0, 0) ≠ none by rw [hw.2.2.2.2.1]; exact fun q => by cases q)) hw hlo
  obtain ⟨hx, hb, -, hown, hts, hkb, -⟩ := C
  obtain ⟨cf, kf, fi, f, a, cell, h1, h2, h3, h4, h5, h6, h7, h8⟩ := hw.2.2.2.2.2
  exact W.gets hx hb hown (hts _ G) h1 h2 h3 h4 h5 (fun e => by rw [e] at h6; cases h6) h7 rfl d k1
end FR
end
section
theorem aK.of {g : Gl} {s : State} (hk : KB g s) {a : Nat} (h1 : Nat.ble 20 a = true) (h2 : Nat.ble a 24 = true) : aK s (gA g a) (aY a) := hk.2.1 a (Nat.le_of_ble_eq_true h1) (Nat.lt_succ_of_le (Nat.le_of_ble_eq_true h2))
theorem aK.is {s : State} {cA : ClassId} {ty : FieldType} (h : aK s cA ty) (n : Nat) (z : Nat → Value) : s.isArrayOf (arrV cA n z) ty := by
  obtain ⟨kA, comp, h1, h2, -⟩ := h
  exact ⟨fun q h => (by cases h), kA, h1, comp, h2⟩
theorem arr_in {cA : ClassId} {n : Nat} {z : Nat → Value} {i : Int32} (h : vp_in i n) : ¬ (i < 0 ∨ (arrV cA n z).slots.size ≤ i.toNatClampNeg) := by rw [arrV_size]; exact h
theorem vp_lt {i : Int32} {n : Nat} (h : vp_in i n) : i.toNatClampNeg < n := Nat.not_le.mp fun q => h (Or.inr q)
theorem upf_tr (ρ : Nm → Nat) (f : Nat → PV) (j : Nat) (v : PV) : (fun q => tr ρ (upf f j v q)) = updV (fun q => tr ρ (f q)) j (tr ρ v) := by
  funext q
  unfold upf updV
  split <;> rfl
section AR
variable {M : MD} {lvl mc ms : Nat} {Q : Option PV → Hp → Prop} {pc pc' tgt : Nat} {lv : List (Option PV)} {st : List PV} {h : Hp} {k n : Nat}
theorem s_ald0 {a len : Nat} {f : Nat → PV} {nm : Nm} {i : Int32} {ins : Instr} (hc : h nm = some (a, len, f)) (h1 : Nat.ble 20 a = true) (h2 : Nat.ble a 24 = true)
    (step : ∀ {p : Program} {l : Launch} {e : Env} {R : Room} {s : State} {m : MethodId} {args : Array Value} {below : List Frame} {meth : Method} {c : Code} {H : Heap} {locs : List Loc} {Qf : State → Prop} {ls : Array Slot} {rest : List Value} {x : Nat} {cell : Cell} {v : Value}, p.tables.exec = Jvm.exec → c.code = M.2.1 → H[x]? = some cell → s.isArrayOf cell (aY a) → cell.vm ≠ .unknown → ¬ (i < 0 ∨ cell.slots.size ≤ i.toNatClampNeg) → cell.slots[i.toNatClampNeg]? = some v → W p l e R s m args below meth c H locs k n Qf (F0 m (pc + 1) ls (v :: rest)) → W p l e R s m args below meth c H locs k n Qf (F0 m pc ls (.int i :: .ref x :: rest)))
    (hi : vp_in i len) (kk : S M lvl mc ms Q (pc + 1) lv (f i.toNatClampNeg :: st) h k n) : S M lvl mc ms Q pc lv (vI i :: vR nm :: st) h k n := by
  intro p l e R s m args below meth c g Qf D0 ρ0 C hR ρ ls H locs hK hL hW hw hlo
  have k1 := kk p l e R s m args below meth c g Qf D0 ρ0 C hR ρ ls H locs hK hL (hW.tl.tl.cons ((hw.1 nm _ hc).2 _)) hw hlo
  have hcell := (hw.1 nm _ hc).1.ar (Nat.not_lt.mpr (Nat.le_trans (by decide) (Nat.le_of_ble_eq_true h1))) (Nat.lt_succ_of_le (Nat.le_of_ble_eq_true h2))
  exact step C.1 C.2.1 hcell ((aK.of C.2.2.2.2.2.1 h1 h2).is _ _) (fun q => by cases q) (arr_in hi) (by rw [arrV_read _ _ (vp_lt hi)]) k1
theorem s_iald {len : Nat} {f : Nat → PV} {nm : Nm} {i : Int32} (d : Dc M pc .iaload 1 pc') (hc : h nm = some (20, len, f)) (hi : vp_in i len) (kk : S M lvl mc ms Q pc' lv (f i.toNatClampNeg :: st) h k n) : S M lvl mc ms Q pc lv (vI i :: vR nm :: st) h k n := by
  obtain ⟨d, rfl⟩ := d
  exact s_ald0 (ins := .iaload) hc rfl rfl (fun a1 a2 a3 a4 a5 a6 a7 a8 => W.iald a1 a2 a3 a4 a5 a6 a7 rfl rfl d a8) hi kk
theorem s_zald {len : Nat} {f : Nat → PV} {nm : Nm} {i : Int32} (d : Dc M pc .baload 1 pc') (hc : h nm = some (21, len, f)) (hi : vp_in i len) (kk : S M lvl mc ms Q pc' lv (f i.toNatClampNeg :: st) h k n) : S M lvl mc ms Q pc lv (vI i :: vR nm :: st) h k n := by
  obtain ⟨d, rfl⟩ := d
  exact s_ald0 (ins := .baload) hc rfl rfl (fun a1 a2 a3 a4 a5 a6 a7 a8 => W.zald a1 a2 a3 a4 a5 a6 a7 rfl rfl d a8) hi kk
theorem s_aald {a len : Nat} {f : Nat → PV} {nm : Nm} {i : Int32} (d : Dc M pc .aaload 1 pc') (hc : h nm = some (a, len, f)) (h1 : Nat.ble 22 a = true) (h2 : Nat.ble a 24 = true) (hi : vp_in i len) (kk : S M lvl mc ms Q pc' lv (f i.toNatClampNeg :: st) h k n) : S M lvl mc ms Q pc lv (vI i :: vR nm :: st) h k n := by
  obtain ⟨d, rfl⟩ := d
  have hy : (aY a).isReference = true := by
    have h3 := Nat.le_of_ble_eq_true h1
    have h4 := Nat.le_of_ble_eq_true h2
    rcases (show a = 22 ∨ a = 23 ∨ a = 24 by omega) with rfl | rfl | rfl <;> rfl
  exact s_ald0 (ins := .aaload) hc (Nat.ble_eq.mpr (Nat.le_trans (by decide) (Nat.le_of_ble_eq_true h1))) h2 (fun a1 a2 a3 a4 a5 a6 a7 a8 => W.aald a1 a2 a3 a4 hy a5 a6 a7 rfl rfl d a8) hi kk
/-- the script -/
theorem s_sald {len : Nat} {f : Nat → PV} {nm : Nm} {i : Int32} (d : Dc M pc .iaload 1 pc') (hc : h nm = some (29, len, f)) (hi : vp_in i len) (kk : S M lvl mc ms Q pc' lv (f i.toNatClampNeg :: st) h k n) : S M lvl mc ms Q pc lv (vI i :: vR nm :: st) h k n := by
  intro p l e R s m args below meth c g Qf D0 ρ0 C hR ρ ls H locs hK hL hW hw hlo
  obtain ⟨d, rfl⟩ := d
  have k1 := kk p l e R s m args below meth c g Qf D0 ρ0 C hR ρ ls H locs hK hL (hW.tl.tl.cons ((hw.1 nm _ hc).2 _)) hw hlo
  have hcell := (hw.1 nm _ hc).1
  unfold cOK at hcell
  rw [if_neg (show ¬ (29 < 14) by decide), if_neg (show ¬ (29 < 25) by decide)] at hcell
  obtain ⟨cell, q1, q2, q3, q4, q5, q6⟩ := hcell
  obtain ⟨kA, comp, r1, r2⟩ := C.2.2.2.2.2.1.2.2.2.1
  exact W.iald C.1 C.2.1 q1 ⟨q4, kA, by rw [q2]; exact r1, comp, r2⟩ q3 (by rw [q5]; exact hi) (q6 _ (vp_lt hi)) rfl rfl d k1
theorem s_alen {a len : Nat} {f : Nat → PV} {nm : Nm} (d : Dc M pc .arraylength 1 pc') (hc : h nm = some (a, len, f)) (h1 : Nat.ble 20 a = true) (h2 : Nat.ble a 24 = true ∨ a = 28 ∨ a = 29) (kk : S M lvl mc ms Q pc' lv (vI (nI len) :: st) h k n) : S M lvl mc ms Q pc lv (vR nm :: st) h k n := by
  intro p l e R s m args below meth c g Qf D0 ρ0 C hR ρ ls H locs hK hL hW hw hlo
  obtain ⟨d, rfl⟩ := d
  have k1 := kk p l e R s m args below meth c g Qf D0 ρ0 C hR ρ ls H locs hK hL (hW.tl.cons trivial) hw hlo
  have hcell := (hw.1 nm _ hc).1
  rcases h2 with h2 | h2
  · exact W.alen C.1 C.2.1 (hcell.ar (Nat.not_lt.mpr (Nat.le_trans (by decide) (Nat.le_of_ble_eq_true h1))) (Nat.lt_succ_of_le (Nat.le_of_ble_eq_true h2))) ((aK.of C.2.2.2.2.2.1 h1 h2).is _ _) (by rw [arrV_size]; rfl) rfl rfl d k1
  · unfold cOK at hcell
    rw [if_neg (show ¬ a < 14 by omega), if_neg (show ¬ a < 25 by omega)] at hcell
    obtain ⟨cell, q1, q2, q3, q4, q5, q6⟩ := hcell
    rcases h2 with rfl | rfl
    · obtain ⟨kA, comp, r1, r2, -⟩ := aK.of (a := 22) C.2.2.2.2.2.1 rfl rfl
      exact W.alen (ty := aY 22) C.1 C.2.1 q1 ⟨q4, kA, by rw [q2]; show s.vm.classes[gA g 28]? = _; rw [C.2.2.2.2.2.1.2.2.1]; exact r1, comp, r2⟩ (by rw [q5]; rfl) rfl rfl d k1
    · obtain ⟨kA, comp, r1, r2⟩ := C.2.2.2.2.2.1.2.2.2.1
      exact W.alen (ty := .int) C.1 C.2.1 q1 ⟨q4, kA, by rw [q2]; exact r1, comp, r2⟩ (by rw [q5]; rfl) rfl rfl d k1
theorem s_ast0 {a len : Nat} {f : Nat → PV} {nm : Nm} {i : Int32} {v w : PV} (hc : h nm = some (a, len, f)) (h1 : Nat.ble 20 a = true) (h2 : Nat.ble a 24 = true) (h3 : Nat.ble 2 nm.1 = true)
    (step : ∀ {p : Program} {l : Launch} {e : Env} {R : Room} {s : State} {m : MethodId} {args : Array Value} {below : List Frame} {meth : Method} {c : Code} {g : Gl} {ρ : Nm → Nat} {H : Heap} {locs : List Loc} {Qf : State → Prop} {ls : Array Slot} {rest : List Value} {x : Nat} {cell : Cell}, Cx M lvl mc ms p R s m args meth c g → Wd g ρ h s H → wfv h v → H[x]? = some cell → cell.cls = gA g a → cell.vm = .none → s.isArrayOf cell (aY a) → ¬ (i < 0 ∨ cell.slots.size ≤ i.toNatClampNeg) → (∀ H' : Heap, H'[x]? = some (cell.setSlot i.toNatClampNeg (tr ρ w)) → H'.size = H.size → (∀ q, q ≠ x → H'[q]? = H[q]?) → W p l e R s m args below meth c H' (locs ++ [⟨x, i.toNatClampNeg⟩]) k n Qf (F0 m (pc + 1) ls rest)) → W p l e R s m args below meth c H locs k n Qf (F0 m pc ls (tr ρ v :: .int i :: .ref x :: rest)))
    (hww : wfv h v → wfv h w) (hi : vp_in i len) (kk : S M lvl mc ms Q (pc + 1) lv st (up h nm (a, len, upf f i.toNatClampNeg w)) k n) : S M lvl mc ms Q pc lv (v :: vI i :: vR nm :: st) h k n := by
  intro p l e R s m args below meth c g Qf D0 ρ0 C hR ρ ls H locs hK hL hW hw hlo
  have hn : h nm ≠ none := by rw [hc]; exact fun q => by cases q
  have h3 : 2 ≤ nm.1 := Nat.le_of_ble_eq_true h3
  have a1 : ¬ a < 14 := Nat.not_lt.mpr (Nat.le_trans (by decide) (Nat.le_of_ble_eq_true h1))
  have a2 : a < 25 := Nat.lt_succ_of_le (Nat.le_of_ble_eq_true h2)
  have hcell := (hw.1 nm _ hc).1.ar a1 a2
  refine step (x := ρ nm) C hw hW.hd hcell rfl rfl ((aK.of C.2.2.2.2.2.1 h1 h2).is _ _) (arr_in hi) fun H' e1 e2 e3 => ?_
  refine kk p l e R s m args below meth c g Qf D0 ρ0 C hR ρ ls H' _ (fun x hx => ⟨up_dom (hK x hx).1, (hK x hx).2⟩) (hL.mono fun x hx => ⟨up_dom hx, rfl⟩) (hW.tl.tl.tl.mono fun x hx => up_dom hx) (hw.put hn h3 (cOK.mkAr a1 a2 ?_) (fun j => ?_) e2 e3) (t_lc hlo (hw.2.2.1 nm hn h3))
  · rw [e1, arrV_store]
    show some _ = some (arrV (gA g a) len (fun q => tr ρ (upf f i.toNatClampNeg w q)))
    rw [upf_tr]
  · show wfv h (upf f _ w j)
    unfold upf
    split
    · exact hww hW.hd
    · exact (hw.1 nm _ hc).2 j
theorem s_iast {len : Nat} {f : Nat → PV} {nm : Nm} {i x : Int32} (d : Dc M pc .iastore 1 pc') (hc : h nm = some (20, len, f)) (h3 : Nat.ble 2 nm.1 = true) (hi : vp_in i len) (kk : S M lvl mc ms Q pc' lv st (up h nm (20, len, upf f i.toNatClampNeg (vI x))) k n) : S M lvl mc ms Q pc lv (vI x :: vI i :: vR nm :: st) h k n := by
  obtain ⟨d, rfl⟩ := d
  exact s_ast0 (v := vI x) (w := vI x) hc rfl rfl h3 (fun C _ _ a3 _ a5 a6 a7 a8 => W.iast C.1 C.2.1 a3 a6 (by rw [a5]; exact fun q => by cases q) a7 rfl rfl d a8) id hi kk
theorem s_zast {len : Nat} {f : Nat → PV} {nm : Nm} {i x : Int32} (d : Dc M pc .bastore 1 pc') (hc : h nm = some (21, len, f)) (h3 : Nat.ble 2 nm.1 = true) (hx : x = 0 ∨ x = 1) (hi : vp_in i len) (kk : S M lvl mc ms Q pc' lv st (up h nm (21, len, upf f i.toNatClampNeg (vI x))) k n) : S M lvl mc ms Q pc lv (vI x :: vI i :: vR nm :: st) h k n := by
  obtain ⟨d, rfl⟩ := d
  have hb : narrow .boolean (.int x) = .int x := by rcases hx with rfl | rfl <;> decide +kernel
  exact s_ast0 (v := vI x) (w := vI x) hc rfl rfl h3 (fun C _ _ a3 _ a5 a6 a7 a8 => W.zast C.1 C.2.1 a3 a6 (by rw [a5]; exact fun q => by cases q) a7 rfl rfl d (fun H' q1 q2 q3 => a8 H' (by rw [q1]; show some (Cell.setSlot _ _ _) = some (Cell.setSlot _ _ (.int x)); first | rw [hb] | (congr 2)) q2 q3)) id hi kk
end AR
end
section
section MK
variable {M : MD} {lvl mc ms : Nat} {Q : Option PV → Hp → Prop} {pc pc' tgt : Nat} {lv : List (Option PV)} {st : List PV} {h : Hp} {k n : Nat}
/-- an object of class ci may lie in a row of kind a -/
def asT (a ci : Nat) : Prop := (a = 22 ∧ Cond.castable (cS ci) "java/lang/Object" ∈ NT) ∨ (a = 24 ∧ ci = 3)
theorem s_aast {a len : Nat} {f : Nat → PV} {nm vn : Nm} {ci ln : Nat} {fv : Nat → PV} {i : Int32} (d : Dc M pc .aastore 1 pc') (hc : h nm = some (a, len, f)) (h3 : Nat.ble 2 nm.1 = true) (hv : h vn = some (ci, ln, fv)) (hci : ci < 14) (ha : asT a ci) (hi : vp_in i len) (kk : S M lvl mc ms Q pc' lv st (up h nm (a, len, upf f i.toNatClampNeg (vR vn))) k n) : S M lvl mc ms Q pc lv (vR vn :: vI i :: vR nm :: st) h k n := by
  obtain ⟨d, rfl⟩ := d
  have h1 : Nat.ble 20 a = true := by rcases ha with ⟨rfl, -⟩ | ⟨rfl, -⟩ <;> rfl
  have h2 : Nat.ble a 24 = true := by rcases ha with ⟨rfl, -⟩ | ⟨rfl, -⟩ <;> rfl
  refine s_ast0 (v := vR vn) (w := vR vn) hc h1 h2 h3 (fun {p l e R s m args below meth c g ρ H locs Qf ls rest x cell} C hw _ a3 a4 a5 a6 a7 a8 => ?_) id hi kk
  obtain ⟨cv, q1, q2, q3, -⟩ := (hw.1 vn _ hv).1.ob hci
  obtain ⟨-, hfc, kC, hkC, hkind⟩ := C.2.2.2.2.2.1.1 ci hci
  obtain ⟨kA, comp, r1, r2, r3, r4, r5⟩ := aK.of C.2.2.2.2.2.1 h1 h2
  have hcls : s.vm.findClass (cS ci) = some cv.cls := by rw [q2]; exact hfc
  have key : ∃ E kE, aY a = .object E ∧ s.vm.findClass E = some comp ∧ s.vm.classes[comp]? = some kE ∧ s.vm.assignable cv.cls comp = true := by
    rcases ha with ⟨rfl, hca⟩ | ⟨rfl, rfl⟩
    · have f0 := r4 _ rfl
      obtain ⟨kE, hkE, -⟩ := Vm.findClass_spec f0
      obtain ⟨c0, t0, f1, f2, f3⟩ := Cond.castable_spec (nw_use (args := args) C.2.2.2.2.2.1 hca)
      cases hcls.symm.trans f1
      cases f0.symm.trans f2
      exact ⟨_, kE, rfl, f0, hkE, f3⟩
    · have f0 := r4 _ rfl
      have e0 : comp = cv.cls := Option.some.inj (f0.symm.trans hcls)
      subst e0
      refine ⟨_, kC, rfl, f0, by rw [q2]; exact hkC, ?_⟩
      exact va_assign (C := cS 3) ⟨hcls, kC, by rw [q2]; exact hkC, hkind⟩
  obtain ⟨E, kE, hE, f0, hkE, hasg⟩ := key
  exact W.aast C.1 C.2.1 a3 (by rw [a5]; exact fun q h => by cases h) (by rw [a5]; exact fun h => by cases h) (by rw [a4]; exact r1) r2 (by rw [hE]; rfl) hkE ⟨fun q => a7 (Or.inl q), Nat.not_le.mp fun q => a7 (Or.inr q)⟩ q1 (fun q h => by rw [q3] at h; cases h) (by rw [q2]; exact hkC) hasg rfl rfl d a8
theorem s_aastN {len : Nat} {f : Nat → PV} {nm : Nm} {i : Int32} (d : Dc M pc .aastore 1 pc') (hc : h nm = some (22, len, f)) (h3 : Nat.ble 2 nm.1 = true) (hi : vp_in i len) (kk : S M lvl mc ms Q pc' lv st (up h nm (22, len, upf f i.toNatClampNeg vN)) k n) : S M lvl mc ms Q pc lv (vN :: vI i :: vR nm :: st) h k n := by
  obtain ⟨d, rfl⟩ := d
  exact s_ast0 (v := vN) (w := vN) hc rfl rfl h3 (fun C hw _ a3 a4 a5 a6 a7 a8 => va_WaastN (C := "java/lang/Object") C.1 C.2.1 a3 a6 (by rw [a5]; exact fun q => by cases q) a7 rfl rfl d a8) id hi kk
/-- a row of ints into a row of rows of ints -/
theorem s_aastA {len ln : Nat} {f fv : Nat → PV} {nm vn : Nm} {i : Int32} (d : Dc M pc .aastore 1 pc') (hc : h nm = some (23, len, f)) (h3 : Nat.ble 2 nm.1 = true) (hv : h vn = some (20, ln, fv)) (hi : vp_in i len) (kk : S M lvl mc ms Q pc' lv st (up h nm (23, len, upf f i.toNatClampNeg (vR vn))) k n) : S M lvl mc ms Q pc lv (vR vn :: vI i :: vR nm :: st) h k n := by
  obtain ⟨d, rfl⟩ := d
  refine s_ast0 (v := vR vn) (w := vR vn) hc rfl rfl h3 (fun {p l e R s m args below meth c g ρ H locs Qf ls rest x cell} C hw _ a3 a4 a5 a6 a7 a8 => ?_) id hi kk
  have q1 := (hw.1 vn _ hv).1.ar (show ¬ (20 : Nat) < 14 by decide) (show (20 : Nat) < 25 by decide)
  obtain ⟨kA, comp, r1, r2, r3, r4, r5⟩ := aK.of (a := 23) C.2.2.2.2.2.1 rfl rfl
  obtain ⟨kB, comB, t1, t2, t3, -⟩ := aK.of (a := 20) C.2.2.2.2.2.1 rfl rfl
  have f0 := r5 _ rfl
  have e0 : gA g 20 = comp := Option.some.inj (t3.symm.trans f0)
  subst e0
  exact W.aast C.1 C.2.1 a3 (by rw [a5]; exact fun q h => by cases h) (by rw [a5]; exact fun h => by cases h) (by rw [a4]; exact r1) r2 rfl t1 ⟨fun q => a7 (Or.inl q), Nat.not_le.mp fun q => a7 (Or.inr q)⟩ q1 (fun q h => by cases h) t1 (show s.vm.assignable (gA g 20) (gA g 20) = true by show s.vm.assignableAux (255 + 1) _ _ = true; rw [Vm.assignableAux, beq_self_eq_true, Bool.true_or]) rfl rfl d a8
/-- new: a name is chosen -/
def dfl (ci : Nat) : Nat → PV := fun j => match cY ci j with
  | .int => vI 0
  | .boolean => vI 0
  | .long => vL 0
  | _ => vN
theorem cls_df : ∀ ci, ci < 14 → ∀ j, j < cN ci → ∀ ρ : Nm → Nat, tr ρ (dfl ci j) = defaultValue (cY ci j) := by
  have h : ∀ ci, ci < 14 → ∀ j, j < cN ci → (cY ci j = .int ∨ cY ci j = .boolean ∨ cY ci j = .long ∨ (∃ C, cY ci j = .object C) ∨ ∃ t, cY ci j = .array t) := by
    have h0 : ∀ ci, ci < 14 → ∀ j, j < cN ci → (match cY ci j with | .int => true | .boolean => true | .long => true | .object _ => true | .array _ => true | _ => false) = true := by decide +kernel
    intro ci hc j hj
    have h1 := h0 ci hc j hj
    cases hy : cY ci j <;> simp [hy] at h1 ⊢
  intro ci hc j hj ρ
  unfold dfl
  rcases h ci hc j hj with e | e | e | ⟨C, e⟩ | ⟨t, e⟩ <;> rw [e] <;> rfl
theorem dfl_wf (ci j : Nat) (h : Hp) : wfv h (dfl ci j) := by
  unfold dfl
  split <;> trivial
def NW (own : String) (idx ci : Nat) : Prop := ci < 14 ∧ Cond.classLink own idx (cS ci) ∈ TB ∧ Cond.instantiable (cS ci) (cN ci) ∈ TB ∧ Cond.initialized (cS ci) ∈ TB
theorem s_new {idx ci : Nat} (nm : Nm) (d : Dc M pc (.new idx) 3 pc') (N : NW M.1.cls idx ci) (hn : h nm = none) (h1 : Nat.ble (k + 1) mc = true) (h2 : Nat.ble (n + cN ci) ms = true) (kk : S M lvl mc ms Q pc' lv (vR nm :: st) (up h nm (ci, 0, dfl ci)) (k + 1) (n + cN ci)) : S M lvl mc ms Q pc lv st h k n := by
  intro p l e R s m args below meth c g Qf D0 ρ0 C hR ρ ls H locs hK hL hW hw hlo
  obtain ⟨d, rfl⟩ := d
  obtain ⟨n1, n2, n3, n4⟩ := N
  have re : ∀ m, h m ≠ none → upr ρ nm H.size m = ρ m := fun m hm => if_neg fun q => hm (by rw [q]; exact hn)
  obtain ⟨hx, hb, -, hown, hts, hkb, -, -, h9, h10⟩ := id C
  have hKn := hkb.1 ci n1
  refine W.newcK hx hb hown (hts _ n2) (hts _ n3) (hts _ n4) rfl d (Nat.le_trans (Nat.le_of_ble_eq_true h1) h9) (Nat.le_trans (Nat.le_of_ble_eq_true h2) h10) hKn.2.1 rfl fun H1 kC hkC e1 z1 o1 => ?_
  have hw' : Wd g (upr ρ nm H.size) (up h nm (ci, 0, dfl ci)) s H1 := hw.mk hn (cOK.mkOb n1 ((u_born (cY ci) hts (cls_in ci n1) hKn hkC e1 (cls_ty ci n1)).to fun j hj => (cls_df ci n1 j hj _).symm)) (fun j => dfl_wf ci j h) (by omega) o1
  have k1 := kk p l e R s m args below meth c g Qf D0 ρ0 C hR (upr ρ nm H.size) ls H1 locs (fun x hx => ⟨up_dom (hK x hx).1, by rw [re x (hK x hx).1]; exact (hK x hx).2⟩) (hL.mono fun x hx => ⟨up_dom hx, re x hx⟩) ((hW.mono fun x hx => up_dom hx).cons (show up h nm _ nm ≠ none by rw [up_self]; exact fun q => by cases q)) hw' hlo
  have e2 : (vR nm :: st).map (tr (upr ρ nm H.size)) = .ref H.size :: st.map (tr ρ) := by
    show tr _ (vR nm) :: _ = _
    rw [hW.trs re]
    show Value.ref (upr ρ nm H.size nm) :: _ = _
    unfold upr
    rw [if_pos rfl]
  rw [e2] at k1
  exact k1
theorem s_newa {a : Nat} {at0 : ArrayType} {x : Int32} (nm : Nm) (N : Nat) (d : Dc M pc (.newarray at0) 2 pc') (hy : newarray.typeOf at0 = aY a) (ha : (a = 20 ∨ a = 21) ∧ Cond.arrayClass (aY a) ∈ TB) (hx0 : x = nI N) (hN : Nat.ble N 10000 = true) (hn : h nm = none) (h1 : Nat.ble (k + 1) mc = true) (h2 : Nat.ble (n + N) ms = true) (kk : S M lvl mc ms Q pc' lv (vR nm :: st) (up h nm (a, N, fun _ => vI 0)) (k + 1) (n + N)) : S M lvl mc ms Q pc lv (vI x :: st) h k n := by
  intro p l e R s m args below meth c g Qf D0 ρ0 C hR ρ ls H locs hK hL hW hw hlo
  obtain ⟨d, rfl⟩ := d
  obtain ⟨a1, a2⟩ := ha
  have re : ∀ m, h m ≠ none → upr ρ nm H.size m = ρ m := fun m hm => if_neg fun q => hm (by rw [q]; exact hn)
  obtain ⟨hx, hb, -, hown, hts, hkb, -, -, h9, h10⟩ := id C
  have hN' : N ≤ 10000 := Nat.le_of_ble_eq_true hN
  have hcl : x.toNatClampNeg = N := by rw [hx0]; exact nI_clamp (by omega)
  have hcb : N * componentBytes (newarray.typeOf at0) ≤ 536870912 := by
    rw [hy]
    rcases a1 with rfl | rfl
    · show N * componentBytes .int ≤ _
      rw [show componentBytes .int = 4 by decide]
      omega
    · show N * componentBytes .boolean ≤ _
      rw [show componentBytes .boolean = 1 by decide]
      omega
  have h20 : Nat.ble 20 a = true := by rcases a1 with rfl | rfl <;> rfl
  have h24 : Nat.ble a 24 = true := by rcases a1 with rfl | rfl <;> rfl
  obtain ⟨kA, comp, r1, r2, r3, -⟩ := aK.of hkb h20 h24
  refine va_newaK hx hb (by rw [hy]; exact hts _ a2) rfl d rfl (by rw [hx0]; exact nI_pos (by omega)) hcl hcb (Nat.le_trans (Nat.le_of_ble_eq_true h1) h9) (Nat.le_trans (Nat.le_of_ble_eq_true h2) h10) rfl fun H1 cA e1 z1 o1 _ hNm => ?_
  rw [hy] at hNm e1
  have ecA : cA = gA g a := Option.some.inj (hNm.symm.trans r3)
  subst ecA
  have hdv : defaultValue (aY a) = .int 0 := by rcases a1 with rfl | rfl <;> rfl
  rw [hdv] at e1
  have hw' : Wd g (upr ρ nm H.size) (up h nm (a, N, fun _ => vI 0)) s H1 := hw.mk hn (cOK.mkAr (by show ¬ a < 14; omega) (by show a < 25; omega) e1) (fun j => trivial) (by omega) o1
  have k1 := kk p l e R s m args below meth c g Qf D0 ρ0 C hR (upr ρ nm H.size) ls H1 locs (fun x hx => ⟨up_dom (hK x hx).1, by rw [re x (hK x hx).1]; exact (hK x hx).2⟩) (hL.mono fun x hx => ⟨up_dom hx, re x hx⟩) ((hW.tl.mono fun x hx => up_dom hx).cons (show up h nm _ nm ≠ none by rw [up_self]; exact fun q => by cases q)) hw' hlo
  have e2 : (vR nm :: st).map (tr (upr ρ nm H.size)) = .ref H.size :: st.map (tr ρ) := by
    show tr _ (vR nm) :: _ = _
    rw [hW.tl.trs re]
    show Value.ref (upr ρ nm H.size nm) :: _ = _
    unfold upr
    rw [if_pos rfl]
  rw [e2] at k1
  exact k1
theorem s_anew {a idx : Nat} {C0 : String} {x : Int32} (nm : Nm) (N : Nat) (d : Dc M pc (.anewarray idx) 3 pc') (ha : (a = 22 ∨ a = 24) ∧ aY a = .object C0 ∧ Cond.classLink M.1.cls idx C0 ∈ TB) (hx0 : x = nI N) (hN : N ≤ 10000) (hn : h nm = none) (h1 : k + 1 ≤ mc) (h2 : n + N ≤ ms) (kk : S M lvl mc ms Q pc' lv (vR nm :: st) (up h nm (a, N, fun _ => vN)) (k + 1) (n + N)) : S M lvl mc ms Q pc lv (vI x :: st) h k n := by
  intro p l e R s m args below meth c g Qf D0 ρ0 C hR ρ ls H locs hK hL hW hw hlo
  obtain ⟨d, rfl⟩ := d
  obtain ⟨a1, a2, a3⟩ := ha
  have re : ∀ m, h m ≠ none → upr ρ nm H.size m = ρ m := fun m hm => if_neg fun q => hm (by rw [q]; exact hn)
  obtain ⟨hx, hb, -, hown, hts, hkb, -, -, h9, h10⟩ := id C
  have hcl : x.toNatClampNeg = N := by rw [hx0]; exact nI_clamp (by omega)
  have h20 : Nat.ble 20 a = true := by rcases a1 with rfl | rfl <;> rfl
  have h24 : Nat.ble a 24 = true := by rcases a1 with rfl | rfl <;> rfl
  obtain ⟨kA, comp, r1, r2, r3, -⟩ := aK.of hkb h20 h24
  have hov : va_AO C0 s := by
    rcases a1 with rfl | rfl
    · have e0 : FieldType.object "java/lang/Object" = .object C0 := a2
      cases e0
      exact hkb.2.2.2.2.2.1
    · have e0 : FieldType.object "RuleBooks$OwnState" = .object C0 := a2
      cases e0
      exact hkb.2.2.2.2.2.2.1
  refine W.anew hx hb hown (hts _ a3) (va_AO.use hov) rfl d rfl (by rw [hx0]; exact nI_pos (by omega)) (by rw [hcl]; omega) (Nat.le_trans h1 h9) (by rw [hcl]; exact Nat.le_trans h2 h10) fun cA kA' comp' f1 f2 f3 f4 => ?_
  rw [hcl]
  rw [← a2] at f1
  have ecA : cA = gA g a := Option.some.inj (f1.symm.trans r3)
  subst ecA
  generalize hH1 : H.push ({ cls := gA g a, slots := Array.replicate N .null, vm := .none } : Cell) = H1
  have z1 : H1.size = H.size + 1 := by rw [← hH1, Array.size_push]
  have e1 : H1[H.size]? = some (arrV (gA g a) N (fun _ => .null)) := by rw [← hH1, Array.getElem?_push_size, ← arrV_new]
  have o1 : ∀ q : Nat, q < H.size → H1[q]? = H[q]? := fun q hq => by rw [← hH1, Array.getElem?_push, if_neg (Nat.ne_of_lt hq)]
  have hw' : Wd g (upr ρ nm H.size) (up h nm (a, N, fun _ => vN)) s H1 := hw.mk hn (cOK.mkAr (by show ¬ a < 14; omega) (by show a < 25; omega) e1) (fun j => trivial) (by omega) o1
  have k1 := kk p l e R s m args below meth c g Qf D0 ρ0 C hR (upr ρ nm H.size) ls H1 locs (fun x hx => ⟨up_dom (hK x hx).1, by rw [re x (hK x hx).1]; exact (hK x hx).2⟩) (hL.mono fun x hx => ⟨up_dom hx, re x hx⟩) ((hW.tl.mono fun x hx => up_dom hx).cons (show up h nm _ nm ≠ none by rw [up_self]; exact fun q => by cases q)) hw' hlo
  have e2 : (vR nm :: st).map (tr (upr ρ nm H.size)) = .ref H.size :: st.map (tr ρ) := by
    show tr _ (vR nm) :: _ = _
    rw [hW.tl.trs re]
    show Value.ref (upr ρ nm H.size nm) :: _ = _
    unfold upr
    rw [if_pos rfl]
  rw [e2] at k1
  exact k1
/-- a cast of an object to its own class, or of null -/
theorem s_cast {idx ci ln : Nat} {nm : Nm} {f : Nat → PV} (d : Dc M pc (.checkcast idx) 3 pc') (hci : ci < 14) (hl : Cond.classLink M.1.cls idx (cS ci) ∈ TB) (hc : h nm = some (ci, ln, f)) (kk : S M lvl mc ms Q pc' lv (vR nm :: st) h k n) : S M lvl mc ms Q pc lv (vR nm :: st) h k n := by
  intro p l e R s m args below meth c g Qf D0 ρ0 C hR ρ ls H locs hK hL hW hw hlo
  obtain ⟨d, rfl⟩ := d
  obtain ⟨cv, q1, q2, q3, -⟩ := (hw.1 nm _ hc).1.ob hci
  obtain ⟨-, hfc⟩ := C.2.2.2.2.2.1.1 ci hci
  exact va_castS C.1 C.2.1 C.2.2.2.1 (C.2.2.2.2.1 _ hl) hfc ⟨cv, q1, by rw [q3]; rfl, by rw [q2]; exact hfc.1⟩ d (kk p l e R s m args below meth c g Qf D0 ρ0 C hR ρ ls H locs hK hL hW hw hlo)
end MK
end
section
/-- the room of a method -/
abbrev rmL (lvl mc ms : Nat) : Room := { frames := lvl, cells := mc, slots := ms, locals := 40 * lvl }
def PcL (g : Gl) (ρ : Nm → Nat) (h : Hp) (as : List PV) : Array Value → State → Prop := fun a U => a = (as.map (tr ρ)).toArray ∧ Wd g ρ h U U.heap ∧ KB g U
def QcL (g : Gl) (ρ : Nm → Nat) (h : Hp) (Q : Option PV → Hp → Prop) : Array Value → State → Outcome → State → Prop := fun _ _ o t => ∃ (ρ' : Nm → Nat) (v : Option PV) (h' : Hp), (∀ n, h n ≠ none → h' n ≠ none ∧ ρ' n = ρ n) ∧ o = .returned (v.map (tr ρ')) ∧ Wd g ρ' h' t t.heap ∧ (∀ w, v = some w → wfv h' w) ∧ Q v h'
/-- A CONTRACT: from the heap h, with these arguments, the method comes back, with Q of its answer and the heap -/
def Con (M : MD) (lvl mc ms : Nat) (as : List PV) (h : Hp) (Q : Option PV → Hp → Prop) : Prop :=
  ∀ (l : Launch) (g : Gl) (ρ : Nm → Nat), Ws h as → Met l M.1 (Cond.code M.1 M.2.1 M.2.2.1 M.2.2.2 :: TB) (rmL lvl mc ms) (PcL g ρ h as) (QcL g ρ h Q) mc ms (fun q => gz g ≤ q)
theorem Con.mono {M : MD} {lvl mc ms : Nat} {as : List PV} {h : Hp} {Q Q' : Option PV → Hp → Prop} (H : Con M lvl mc ms as h Q) (hq : ∀ v h', Q v h' → Q' v h') : Con M lvl mc ms as h Q' := by
  intro l g ρ hw
  have H1 := H l g ρ hw
  unfold Met at H1 ⊢
  intro p e ha hc hk s m args below hf happ hpre hK
  obtain ⟨k, o, h1, h2, h3, ⟨⟨ρ', v, h', q1, q2, q3, q4, q5⟩, hL⟩⟩ := H1 p e ha hc hk s m args below hf happ hpre hK
  exact ⟨k, o, h1, h2, h3, ⟨ρ', v, h', q1, q2, q3, q4, hq v h' q5⟩, hL⟩
theorem ret_narrow {x : Int32} (h : x = 0 ∨ x = 1) : narrow .boolean (.int x) = .int x := by rcases h with rfl | rfl <;> decide +kernel
theorem argsLo {ρ : Nm → Nat} {h : Hp} : ∀ (as : List PV) (i : Nat), (∀ v ∈ as, isL v = false) → ∀ (k : Nat) (v : PV), as[k]? = some v → (i + k, tr ρ v) ∈ lv_args i (as.map (tr ρ))
  | [], i, _, k, v, hk => by simp at hk
  | a :: as, i, ha, k, v, hk => by
    have hc : (tr ρ a).category = 1 := cat1 (ha a List.mem_cons_self)
    show (i + k, tr ρ v) ∈ (i, tr ρ a) :: lv_args (if (tr ρ a).category = 2 then i + 2 else i + 1) (as.map (tr ρ))
    rw [hc, if_neg (by decide)]
    cases k with
    | zero =>
      simp at hk
      subst hk
      exact List.mem_cons_self
    | succ k =>
      refine List.mem_cons_of_mem _ ?_
      have := argsLo (ρ := ρ) (h := h) as (i + 1) (fun v hv => ha v (List.mem_cons_of_mem _ hv)) k v (by simpa using hk)
      rw [show i + (k + 1) = i + 1 + k by omega]
      exact this
theorem argsLen {ρ : Nm → Nat} : ∀ (as : List PV), (∀ v ∈ as, isL v = false) → (lg_sl (as.map (tr ρ))).length = as.length
  | [], _ => rfl
  | a :: as, ha => by
    have hc : (tr ρ a).category = 1 := cat1 (ha a List.mem_cons_self)
    have ih := argsLen (ρ := ρ) as (fun v hv => ha v (List.mem_cons_of_mem _ hv))
    unfold lg_sl at ih ⊢
    simp [hc, ih]
def noL (as : List PV) : Bool := as.all fun v => !isL v
/-- the locals at the start -/
def lv0 (as : List PV) (nL : Nat) : List (Option PV) := as.map some ++ List.replicate (nL - as.length) none
theorem c_enter {M : MD} {lvl mc ms : Nat} {as : List PV} {h : Hp} {Q : Option PV → Hp → Prop} (hp : plainName M.1.cls = true) (hn : noL as = true) (hl : Nat.ble as.length M.2.2.1 = true) (kk : S M lvl mc ms Q 0 (lv0 as M.2.2.1) [] h 0 0) : Con M lvl mc ms as h Q := by
  intro l g ρ hws
  have hn' : ∀ v ∈ as, isL v = false := fun v hv => by
    have := List.all_eq_true.mp hn v hv
    simpa using this
  have hl' := Nat.le_of_ble_eq_true hl
  refine Met.ofW (cc := M.2.1) (maxL := M.2.2.1) (ret := M.2.2.2) hp rfl ?_
  intro p e s m args below meth c s₁ B hml hv
  obtain ⟨rfl, hw, hkb⟩ := hv
  have hts0 := atoms_spec (ws := Cond.code M.1 M.2.1 M.2.2.1 M.2.2.2 :: TB) B.pre
  have C : Cx M lvl mc ms p (headSpec (Cond.code M.1 M.2.1 M.2.2.1 M.2.2.2 :: TB) (rmL lvl mc ms)).room s m (as.map (tr ρ)).toArray meth c g :=
    ⟨B.exec, B.bytes, hml, findClass_of_methodNamed B.named, fun w hw => hts0 w (List.mem_cons_of_mem _ hw), hkb, (name_of_methodNamed B.named B.method).1, ⟨Nat.le_refl _, Nat.le_refl _⟩, Nat.le_refl _, Nat.le_refl _⟩
  have hlen := argsLen (ρ := ρ) as hn'
  have hent := lv_entry (as.map (tr ρ)) (n := M.2.2.1) (by rw [hlen]; exact hl')
  rw [lg_entry_eq]
  refine kk p l e _ s m _ below meth c g _ (fun n => h n ≠ none) ρ C ?_ ρ _ s.heap [] (fun n hn => ⟨hn, rfl⟩) ⟨hent.1, hent.2.1, fun k v hk => ?_⟩ Ws.nil hw (fun q hq => by cases hq)
  · intro ri v ρ' h' H locs pc ls hro hd hK hw' hwf hlo hq
    have hQ : ∀ t : State, t.heap = H → s.WarmedH t.vm → QcL g ρ h Q (as.map (tr ρ)).toArray s (.returned (v.map (tr ρ'))) t := fun t ht hW => ⟨ρ', v, h', hK, rfl, by rw [ht]; exact hw'.moved hW.alike, hwf, hq⟩
    rcases hro with ⟨rfl, x, rfl, hr | ⟨hr, hx⟩⟩ | ⟨rfl, o, rfl, rt, hr, hrt⟩ | ⟨rfl, rfl, hr⟩
    · exact W.iret B.exec B.bytes (B.returns.trans hr) hQ hlo hd B.notSynchronized
    · exact W.zret B.exec B.bytes (B.returns.trans hr) (ret_narrow hx) hQ hlo hd B.notSynchronized
    · exact W.aret B.exec B.bytes (B.returns.trans hr) hrt (by cases o with | none => exact Or.inl rfl | some a => exact Or.inr ⟨_, rfl⟩) hQ hlo hd B.notSynchronized
    · exact W.vret B.exec B.bytes (B.returns.trans hr) hQ hlo hd B.notSynchronized
  · have hka : as[k]? = some v := by
      unfold lv0 at hk
      by_cases hkl : k < as.length
      · rw [List.getElem?_append_left (by simpa using hkl), List.getElem?_map] at hk
        cases hv : as[k]? with
        | none => rw [hv] at hk; cases hk
        | some w => rw [hv] at hk; simp at hk; rw [hk]
      · rw [List.getElem?_append_right (by simpa using Nat.not_lt.mp hkl), List.getElem?_replicate] at hk
        split at hk <;> cases hk
    have hm := List.mem_of_getElem? hka
    refine ⟨?_, hws v hm, hn' v hm⟩
    have := hent.2.2 _ (argsLo (ρ := ρ) (h := h) as 0 hn' k v hka)
    simpa using this
/-- what a call needs of the tables -/
def CB (M' : MD) (na : Nat) : Prop := Cond.code M'.1 M'.2.1 M'.2.2.1 M'.2.2.2 ∈ TB ∧ Cond.initialized M'.1.cls ∈ TB ∧ (M'.1.cls ≠ "java/lang/invoke/MethodHandle" ∧ M'.1.cls ≠ "java/lang/invoke/VarHandle" ∧ (parseMethodDescriptor M'.1.desc).map (fun d => d.parameters.length) = some na) ∧ Nat.ble M'.2.2.1 21 = true
theorem tb_good : ∀ w ∈ TB, goodWord w = true := fun w hw => (List.mem_filter.mp hw).2
theorem cb_good {M' : MD} {na : Nat} (B : CB M' na) : GoodIn TB (Cond.code M'.1 M'.2.1 M'.2.2.1 M'.2.2.2 :: TB) := fun w hw => by
  have hm : w ∈ TB := by
    rcases List.mem_cons.mp hw with rfl | h
    · exact B.1
    · exact h
  exact ⟨hm, good_of_word (tb_good w hm)⟩
section CL
variable {M M' : MD} {lvl lvl' mc ms mc' ms' : Nat} {Q P : Option PV → Hp → Prop} {pc pc' tgt : Nat} {lv : List (Option PV)} {st : List PV} {h : Hp} {k n : Nat}
theorem pcL_blind {g : Gl} {ρ : Nm → Nat} {h : Hp} {as : List PV} : FrameBlind (PcL g ρ h as) := fun a U gg mk q => ⟨q.1, Wd.moved (u := U) (U := U.calling gg mk a) (Vm.Alike.refl U.vm) q.2.1, KB.same (s := U) (U := U.calling gg mk a) rfl q.2.2⟩
theorem pcL_pre {g : Gl} {ρ : Nm → Nat} {h : Hp} {as : List PV} {s : State} {H : Heap} (hw : Wd g ρ h s H) (hkb : KB g s) : ∀ U : State, U.heap = H → s.WarmedH U.vm → PcL g ρ h as (as.map (tr ρ)).toArray U := fun U hU hW => ⟨rfl, by rw [hU]; exact hw.moved hW.alike, hkb.moved hW⟩
/-- behind a call -/
theorem s_back {p : Program} {l : Launch} {e : Env} {R : Room} {s : State} {m : MethodId} {args : Array Value} {below : List Frame} {meth : Method} {c : Code} {g : Gl} {Qf : State → Prop} {D0 : Nm → Prop} {ρ0 ρ : Nm → Nat} {ls : Array Slot} {H : Heap} {locs : List Loc} {st0 : List Value} {a : Array Value}
    (C : Cx M lvl mc ms p R s m args meth c g) (hR : RetOK M mc ms Q p l e R s m args below meth c g Qf D0 ρ0) (hK : Kp D0 ρ0 h ρ) (hL : Lo M.2.2.1 ρ h ls lv) (hW : Ws h st) (hlo : ∀ q ∈ locs, gz g ≤ q.base)
    (hr : va_Run p l e R s m args below meth c H locs k n mc' ms' (F0 m pc ls st0) (st.map (tr ρ)) (QcL g ρ h P a) (fun q => gz g ≤ q)) (kk : ∀ v h', P v h' → S M lvl mc ms Q (pc + 3) lv (v.toList ++ st) h' (k + mc') (n + ms')) :
    W p l e R s m args below meth c H locs k n Qf (F0 m pc ls st0) := by
  intro T hT X
  obtain ⟨v, st₀, t, T', L, h0, X', hLq, e1, e2, ⟨ρ', v', h', q1, q2, q3, q4, q5⟩, go⟩ := hr T hT X
  cases q2
  have hvm : s.vm.Alike t.vm := by rw [← e2]; exact X'.warmed.alike
  have k1 := kk v' h' q5 p l e R s m args below meth c g Qf D0 ρ0 C hR ρ' ls T'.heap (locs ++ L) (fun x hx => ⟨(q1 x (hK x hx).1).1, by rw [(q1 x (hK x hx).1).2]; exact (hK x hx).2⟩) (hL.mono q1)
    (Ws.app (fun x hx => by cases v' with | none => cases hx | some w => rw [List.mem_singleton.mp hx]; exact q4 w rfl) (hW.mono fun x hx => (q1 x hx).1)) (by rw [e1]; exact q3.moved hvm.symm) (fun q hq => by
      rcases List.mem_append.mp hq with a | a
      · exact hlo q a
      · exact hLq q a)
  have e3 : (v'.toList ++ st).map (tr ρ') = (v'.map (tr ρ')).toList ++ st.map (tr ρ) := by
    rw [List.map_append, hW.trs fun x hx => (q1 x hx).2]
    cases v' <;> rfl
  rw [e3] at k1
  obtain ⟨t2, a1, b1⟩ := k1 T' rfl X'
  exact ⟨t2, go t2 a1, b1⟩
def rest8 (st : List PV) : Bool := Nat.ble ((st.map fun v => if isL v then 2 else 1).sum) 8
theorem rest_ok {ρ : Nm → Nat} {st : List PV} (h : rest8 st = true) {m : MethodId} {pc : Nat} {ls : Array Slot} {r0 : List Value} : 2 * (F0 m pc ls r0).monitorRoom + ((st.map (tr ρ)).map fun v => v.category).sum ≤ 8 := by
  refine lv_room ?_
  have e : (st.map (tr ρ)).map (fun v => v.category) = st.map fun v => if isL v then 2 else 1 := by
    rw [List.map_map]
    refine List.map_congr_left fun v _ => ?_
    match v with
    | .inl _ => rfl
    | .inr (.inl _) => rfl
    | .inr (.inr none) => rfl
    | .inr (.inr (some _)) => rfl
  rw [e]
  exact Nat.le_of_ble_eq_true h
def CV (own : String) (idx ci : Nat) (M' : MD) (na : Nat) : Prop := CB M' na ∧ ci < 14 ∧ M'.1.cls = cS ci ∧ Cond.instanceMethod M'.1 ∈ TB ∧ Cond.selects (cS ci) M'.1 M'.1 ∈ TB ∧ (Cond.methodLink own idx M'.1 ∈ TB ∨ ∃ host, Cond.methodLinkNest own idx M'.1 host ∈ NT)
def CS (own : String) (idx : Nat) (M' : MD) (na : Nat) : Prop := CB M' na ∧ Cond.static M'.1 ∈ TB ∧ (Cond.methodLink own idx M'.1 ∈ TB ∨ ∃ host, Cond.methodLinkNest own idx M'.1 host ∈ NT)
def CI (own : String) (idx : Nat) (M' : MD) (na : Nat) : Prop := CB M' na ∧ M'.1.name = "<init>" ∧ M'.2.2.2 = none ∧ Cond.instanceMethod M'.1 ∈ TB ∧ (Cond.methodLink own idx M'.1 ∈ TB ∨ ∃ host, Cond.methodLinkNest own idx M'.1 host ∈ NT)
theorem lvl_room {R : Room} {mL : Nat} (h : lvl ≤ R.frames ∧ 40 * lvl ≤ R.locals) (hl : lvl' < lvl) (hm : Nat.ble mL 21 = true) : (rmL lvl' mc' ms').frames + 1 ≤ R.frames ∧ 8 + (mL + 11) + (rmL lvl' mc' ms').locals ≤ R.locals := by
  have := Nat.le_of_ble_eq_true hm
  constructor
  · show lvl' + 1 ≤ _
    omega
  · show 8 + (mL + 11) + 40 * lvl' ≤ _
    omega
theorem s_callV {idx ci len : Nat} {As : List PV} {nm : Nm} {f : Nat → PV} (d : Dc M pc (.invokevirtual idx) 3 pc') (V : CV M.1.cls idx ci M' As.length) (hc : h nm = some (ci, len, f)) (K : Con M' lvl' mc' ms' (vR nm :: As) h P) (hl : Nat.blt lvl' lvl = true) (h1 : Nat.ble (k + mc') mc = true) (h2 : Nat.ble (n + ms') ms = true) (h8 : rest8 st = true)
    (kk : ∀ v h', P v h' → S M lvl mc ms Q pc' lv (v.toList ++ st) h' (k + mc') (n + ms')) : S M lvl mc ms Q pc lv (As.reverse ++ vR nm :: st) h k n := by
  intro p l e R s m args below meth c g Qf D0 ρ0 C hR ρ ls H locs hK hL hW hw hlo
  obtain ⟨d, rfl⟩ := d
  obtain ⟨vB, v1, v2, v3, v4, v5⟩ := V
  have hWa : Ws h As := (Ws.left hW).rev
  have hWr := (Ws.right hW)
  have hM := K l g ρ (hWa.cons hWr.hd)
  obtain ⟨hx, hb, hml, hown, hts, hkb, -, hlv, h9, h10⟩ := id C
  obtain ⟨cv, q1, q2, q3, -⟩ := (hw.1 nm _ hc).1.ob v1
  have hrec : ∃ cellB : Cell, H[ρ nm]? = some cellB ∧ cellB.vm.isStatics = false ∧ s.vm.findClass (cS ci) = some cellB.cls := ⟨cv, q1, by rw [q3]; rfl, by rw [q2]; exact (hkb.1 ci v1).2.1⟩
  have hpre : PreV s H (cS ci) (ρ nm) (PcL g ρ h (vR nm :: As)) (As.map (tr ρ)) := ⟨pcL_blind, hrec, fun U a b => pcL_pre hw hkb U a b⟩
  have hst : (As.reverse ++ vR nm :: st).map (tr ρ) = (As.map (tr ρ)).reverse ++ .ref (ρ nm) :: st.map (tr ρ) := by simp [List.map_reverse]; rfl
  rw [hst]
  have hrm := lvl_room (mc' := mc') (ms' := ms') hlv (Nat.le_of_ble_eq_true hl) vB.2.2.2
  have hf : k + mc' ≤ R.cells ∧ n + ms' ≤ R.slots := ⟨Nat.le_trans (Nat.le_of_ble_eq_true h1) h9, Nat.le_trans (Nat.le_of_ble_eq_true h2) h10⟩
  refine s_back (P := P) C hR hK hL hWr.tl hlo (a := (Value.ref (ρ nm) :: As.map (tr ρ)).toArray) ?_ kk
  rcases v5 with v5 | ⟨host, v5⟩
  · refine va_runV (Ts := TB) (own := M.1.cls) (n := As.length) ⟨hx, hb, hml, hown, hts⟩ hM ⟨callB_of _ hts (cb_good vB) rfl rfl rfl (hts _ vB.2.1) (hts _ v5) vB.2.2.1 hrm, hts _ v3, hts _ v4⟩ hpre rfl (by simp) hL.1 rfl (rest_ok h8) d hf
  · refine va_runVN (Ts := TB) (own := M.1.cls) (n := As.length) ⟨hx, hb, hml, hown, hts⟩ hM ⟨va_cnB _ hts (cb_good vB) rfl rfl rfl (hkb.2.2.2.2.1 _ v5) (hts _ vB.2.1) vB.2.2.1 hrm, hts _ v3, hts _ v4⟩ hpre rfl (by simp) hL.1 rfl (rest_ok h8) d hf
theorem s_callS {idx : Nat} {As : List PV} (d : Dc M pc (.invokestatic idx) 3 pc') (V : CS M.1.cls idx M' As.length) (K : Con M' lvl' mc' ms' As h P) (hl : Nat.blt lvl' lvl = true) (h1 : Nat.ble (k + mc') mc = true) (h2 : Nat.ble (n + ms') ms = true) (h8 : rest8 st = true)
    (kk : ∀ v h', P v h' → S M lvl mc ms Q pc' lv (v.toList ++ st) h' (k + mc') (n + ms')) : S M lvl mc ms Q pc lv (As.reverse ++ st) h k n := by
  intro p l e R s m args below meth c g Qf D0 ρ0 C hR ρ ls H locs hK hL hW hw hlo
  obtain ⟨d, rfl⟩ := d
  obtain ⟨vB, v3, v5⟩ := V
  have hWa : Ws h As := (Ws.left hW).rev
  have hWr := (Ws.right hW)
  have hM := K l g ρ hWa
  obtain ⟨hx, hb, hml, hown, hts, hkb, -, hlv, h9, h10⟩ := id C
  have hpre : PreS s H (PcL g ρ h As) (As.map (tr ρ)) := ⟨pcL_blind, fun U a b => pcL_pre hw hkb U a b⟩
  have hst : (As.reverse ++ st).map (tr ρ) = (As.map (tr ρ)).reverse ++ st.map (tr ρ) := by simp [List.map_reverse]
  rw [hst]
  have hrm := lvl_room (mc' := mc') (ms' := ms') hlv (Nat.le_of_ble_eq_true hl) vB.2.2.2
  have hf : k + mc' ≤ R.cells ∧ n + ms' ≤ R.slots := ⟨Nat.le_trans (Nat.le_of_ble_eq_true h1) h9, Nat.le_trans (Nat.le_of_ble_eq_true h2) h10⟩
  refine s_back (P := P) C hR hK hL hWr hlo (a := (As.map (tr ρ)).toArray) ?_ kk
  rcases v5 with v5 | ⟨host, v5⟩
  · refine va_runS (Ts := TB) (own := M.1.cls) (n := As.length) ⟨hx, hb, hml, hown, hts⟩ hM ⟨callB_of _ hts (cb_good vB) rfl rfl rfl (hts _ vB.2.1) (hts _ v5) vB.2.2.1 hrm, hts _ v3⟩ hpre rfl (by simp) hL.1 rfl (rest_ok h8) d hf
  · refine va_runSN (Ts := TB) (own := M.1.cls) (n := As.length) ⟨hx, hb, hml, hown, hts⟩ hM ⟨va_cnB _ hts (cb_good vB) rfl rfl rfl (hkb.2.2.2.2.1 _ v5) (hts _ vB.2.1) vB.2.2.1 hrm, hts _ v3, trivial⟩ hpre rfl (by simp) hL.1 rfl (rest_ok h8) d hf
theorem s_callI {idx : Nat} {As : List PV} {nm : Nm} (d : Dc M pc (.invokespecial idx) 3 pc') (V : CI M.1.cls idx M' As.length) (K : Con M' lvl' mc' ms' (vR nm :: As) h P) (hl : Nat.blt lvl' lvl = true) (h1 : Nat.ble (k + mc') mc = true) (h2 : Nat.ble (n + ms') ms = true) (h8 : rest8 st = true)
    (kk : ∀ v h', P v h' → S M lvl mc ms Q pc' lv (v.toList ++ st) h' (k + mc') (n + ms')) : S M lvl mc ms Q pc lv (As.reverse ++ vR nm :: st) h k n := by
  intro p l e R s m args below meth c g Qf D0 ρ0 C hR ρ ls H locs hK hL hW hw hlo
  obtain ⟨d, rfl⟩ := d
  obtain ⟨vB, v1, v2, v3, v5⟩ := V
  have hWa : Ws h As := (Ws.left hW).rev
  have hWr := (Ws.right hW)
  have hM := K l g ρ (hWa.cons hWr.hd)
  obtain ⟨hx, hb, hml, hown, hts, hkb, -, hlv, h9, h10⟩ := id C
  have hpre : PreS s H (PcL g ρ h (vR nm :: As)) (.ref (ρ nm) :: As.map (tr ρ)) := ⟨pcL_blind, fun U a b => pcL_pre hw hkb U a b⟩
  have hst : (As.reverse ++ vR nm :: st).map (tr ρ) = (As.map (tr ρ)).reverse ++ .ref (ρ nm) :: st.map (tr ρ) := by simp [List.map_reverse]; rfl
  rw [hst]
  have hrm := lvl_room (mc' := mc') (ms' := ms') hlv (Nat.le_of_ble_eq_true hl) vB.2.2.2
  have hf : k + mc' ≤ R.cells ∧ n + ms' ≤ R.slots := ⟨Nat.le_trans (Nat.le_of_ble_eq_true h1) h9, Nat.le_trans (Nat.le_of_ble_eq_true h2) h10⟩
  have hG := cb_good vB
  obtain ⟨vB1, vB2, vB3, vB4⟩ := vB
  rw [v2] at hM hG
  refine s_back (P := P) C hR hK hL hWr.tl hlo (a := (Value.ref (ρ nm) :: As.map (tr ρ)).toArray) ?_ kk
  rcases v5 with v5 | ⟨host, v5⟩
  · refine va_runI (Ts := TB) (own := M.1.cls) (n := As.length) ⟨hx, hb, hml, hown, hts⟩ hM ⟨callB_of _ hts hG rfl rfl rfl (hts _ vB2) (hts _ v5) vB3 hrm, v1, hts _ v3⟩ hpre rfl (by simp) hL.1 rfl (rest_ok h8) d hf
  · refine va_runIN (Ts := TB) (own := M.1.cls) (n := As.length) ⟨hx, hb, hml, hown, hts⟩ hM ⟨va_cnB _ hts hG rfl rfl rfl (hkb.2.2.2.2.1 _ v5) (hts _ vB2) vB3 hrm, v1, hts _ v3⟩ hpre rfl (by simp) hL.1 rfl (rest_ok h8) d hf
/-- Object's own constructor -/
theorem s_objInit {idx : Nat} {nm : Nm} (d : Dc M pc (.invokespecial idx) 3 pc') (V : Cond.methodLink M.1.cls idx objectInit ∈ TB ∧ Cond.instanceMethod objectInit ∈ TB ∧ Cond.code objectInit ⟨#[0xb1]⟩ 1 none ∈ TB) (hl : Nat.ble 1 lvl = true) (h8 : rest8 st = true) (kk : S M lvl mc ms Q pc' lv st h k n) : S M lvl mc ms Q pc lv (vR nm :: st) h k n := by
  intro p l e R s m args below meth c g Qf D0 ρ0 C hR ρ ls H locs hK hL hW hw hlo
  obtain ⟨d, rfl⟩ := d
  obtain ⟨hx, hb, hml, hown, hts, hkb, -, hlv, h9, h10⟩ := id C
  have hl' := Nat.le_of_ble_eq_true hl
  have h8' := rest_ok (ρ := ρ) h8 (m := m) (pc := pc) (ls := ls) (r0 := st.map (tr ρ))
  refine W.objInit hx hb hown (hts _ V.1) (hts _ V.2.1) (hts _ V.2.2) rfl (by rw [hml]; exact hL.1) rfl d (Nat.le_trans hl' hlv.1) ?_ (kk p l e R s m args below meth c g Qf D0 ρ0 C hR ρ ls H locs hK hL hW.tl hw hlo)
  have h9' : (F0 m pc ls (st.map (tr ρ))).monitorRoom = 0 := rfl
  show 2 * 0 + _ + 12 ≤ _
  rw [h9'] at h8'
  omega
end CL
end
section
/-- a run of a row copied into a row -/
def cpy (f g : Nat → PV) (sp dp n : Nat) : Nat → PV := fun j => if dp ≤ j ∧ j < dp + n then f (sp + (j - dp)) else g j
theorem cpy_tr (ρ : Nm → Nat) (f g : Nat → PV) (sp dp n : Nat) : (fun j => tr ρ (cpy f g sp dp n j)) = va_cpy (fun j => tr ρ (f j)) (fun j => tr ρ (g j)) sp dp n := by
  funext j
  unfold cpy va_cpy
  split <;> rfl
theorem cl_int (z : Int32) (hz : ¬ z < 0) : z.toInt = (z.toNatClampNeg : Int) := by
  have hz0 : (0 : Int) ≤ z.toInt := by
    have := Int32.not_lt.mp hz
    simpa using Int32.le_iff_toInt_le.mp this
  show z.toInt = ((z.toInt.toNat : Nat) : Int)
  omega
/-- an element of a row of objects -/
def isOb (h : Hp) (v : PV) : Prop := v = vN ∨ ∃ (y : Nm) (ci ln : Nat) (fv : Nat → PV), v = vR y ∧ h y = some (ci, ln, fv) ∧ ci < 14 ∧ Cond.castable (cS ci) "java/lang/Object" ∈ NT
section CP
variable {M : MD} {lvl mc ms : Nat} {Q : Option PV → Hp → Prop} {pc pc' tgt : Nat} {lv : List (Option PV)} {st : List PV} {h : Hp} {k n : Nat}
def CY (own : String) (idx : Nat) : Prop := Cond.methodLink own idx arraycopyName ∈ TB ∧ Cond.native arraycopyName ∈ TB ∧ Cond.static arraycopyName ∈ TB ∧ Cond.initialized "java/lang/System" ∈ TB
theorem s_copy0 {idx a ns nd : Nat} {f g0 : Nat → PV} {src dst : Nm} {sp dp m0 : Int32} (d : Dc M pc (.invokestatic idx) 3 pc') (Y : CY M.1.cls idx) (hs : h src = some (a, ns, f)) (hd : h dst = some (a, nd, g0)) (ha : a = 20 ∨ a = 22) (h3 : Nat.ble 2 dst.1 = true)
    (b1 : ¬ sp < 0) (b2 : ¬ dp < 0) (b3 : ¬ m0 < 0) (b4 : sp.toNatClampNeg + m0.toNatClampNeg ≤ ns) (b5 : dp.toNatClampNeg + m0.toNatClampNeg ≤ nd) (hel : ∀ i, i < m0.toNatClampNeg → (a = 20 → ∃ x, f (sp.toNatClampNeg + i) = vI x) ∧ (a = 22 → isOb h (f (sp.toNatClampNeg + i)))) (hl : Nat.ble 1 lvl = true) (h8 : rest8 st = true)
    (kk : S M lvl mc ms Q pc' lv st (up h dst (a, nd, cpy f g0 sp.toNatClampNeg dp.toNatClampNeg m0.toNatClampNeg)) k n) : S M lvl mc ms Q pc lv (vI m0 :: vI dp :: vR dst :: vI sp :: vR src :: st) h k n := by
  intro p l e R s m args below meth c g Qf D0 ρ0 C hR ρ ls H locs hK hL hW hw hlo
  obtain ⟨d, rfl⟩ := d
  have hn : h dst ≠ none := by rw [hd]; exact fun q => by cases q
  have h3 : 2 ≤ dst.1 := Nat.le_of_ble_eq_true h3
  have a1 : ¬ a < 14 := by omega
  have a2 : a < 25 := by omega
  have h20 : Nat.ble 20 a = true := by rcases ha with rfl | rfl <;> rfl
  have h24 : Nat.ble a 24 = true := by rcases ha with rfl | rfl <;> rfl
  obtain ⟨hx, hb, hml, hown, hts, hkb, -, hlv, h9, h10⟩ := id C
  obtain ⟨kA, comp, r1, r2, r3, r4, -⟩ := aK.of hkb h20 h24
  have hc0 := (hw.1 src _ hs).1.ar a1 a2
  have hc1 := (hw.1 dst _ hd).1.ar a1 a2
  have hl' := Nat.le_of_ble_eq_true hl
  have h8' := rest_ok (ρ := ρ) h8 (m := m) (pc := pc) (ls := ls) (r0 := st.map (tr ρ))
  have h9' : (F0 m pc ls (st.map (tr ρ))).monitorRoom = 0 := rfl
  rw [h9'] at h8'
  have hnf : nativeFrameWords "java/lang/System" "arraycopy" 5 ≤ 20 := by decide +kernel
  intro T hT X
  obtain ⟨vm', X', step⟩ := X.arraycopy hx hown (hts _ Y.1) (hts _ Y.2.1) (hts _ Y.2.2.1) (hts _ Y.2.2.2) (src := ρ src) (dst := ρ dst) (srcPos := sp) (destPos := dp) (n := m0) (by rw [hT]; exact hc0) (by rw [hT]; exact hc1)
    (fun _ h => by cases h) (fun _ h => by cases h) (fun h => by cases h) (fun h => by cases h) r1 r1 r2 r2 (by rcases ha with rfl | rfl <;> rfl) b1 b2 b3
    (by rw [cl_int sp b1, cl_int m0 b3, arrV_size]; show ¬ _ > (ns : Int); omega)
    (by rw [cl_int dp b2, cl_int m0 b3, arrV_size]; show ¬ _ > (nd : Int); omega)
    (fun vm₁ hal i hi => by
      have e0 : (arrV (gA g a) ns (fun j => tr ρ (f j))).slots.getD (sp.toNatClampNeg + i) .null = tr ρ (f (sp.toNatClampNeg + i)) := by
        rw [Array.getD_eq_getD_getElem?, arrV_read _ _ (by omega)]
        rfl
      rw [e0]
      rcases ha with rfl | rfl
      · obtain ⟨x, hx0⟩ := (hel i hi).1 rfl
        rw [hx0]
        exact ⟨rfl, trivial⟩
      · rcases (hel i hi).2 rfl with hv | ⟨y, ci, ln, fv, hv, hy, hci, hca⟩
        · rw [hv]
          exact ⟨rfl, trivial⟩
        · rw [hv]
          obtain ⟨cv, q1, q2, q3, -⟩ := (hw.1 y _ hy).1.ob hci
          obtain ⟨-, hfc, kC, hkC, hkind⟩ := hkb.1 ci hci
          have f0 := r4 _ rfl
          obtain ⟨kE, hkE, -⟩ := Vm.findClass_spec f0
          obtain ⟨c0, t0, f1, f2, f3⟩ := Cond.castable_spec (nw_use (args := args) hkb hca)
          cases hfc.symm.trans f1
          cases f0.symm.trans f2
          obtain ⟨kC', hkC', -⟩ := hal.2.2 _ _ hkC
          obtain ⟨kE', hkE', -⟩ := hal.2.2 _ _ hkE
          refine ⟨rfl, cv, (show T.heap[ρ y]? = some cv by rw [hT]; exact q1), (fun q h => by rw [q3] at h; cases h), ⟨kC', by rw [q2]; exact hkC'⟩, ⟨kE', hkE'⟩, ?_⟩
          show vm₁.assignable _ _ = true
          rw [hal.assignable, q2]
          exact f3)
    (g := F0 m pc ls (.int m0 :: .int dp :: .ref (ρ dst) :: .int sp :: .ref (ρ src) :: st.map (tr ρ))) rfl (by rw [hml]; exact hL.1) (rest := st.map (tr ρ)) rfl (by rw [hb]; exact d) (Nat.le_trans hl' hlv.1) (by show 2 * 0 + _ + _ ≤ _; omega)
  have e1 : copied (arrV (gA g a) ns (fun j => tr ρ (f j))) (arrV (gA g a) nd (fun j => tr ρ (g0 j))) sp dp m0 = arrV (gA g a) nd (fun j => tr ρ (cpy f g0 sp.toNatClampNeg dp.toNatClampNeg m0.toNatClampNeg j)) := by
    rw [cpy_tr]
    exact va_copied (fun z => z) (gA g a) (gA g a) (fun j => tr ρ (f j)) (fun j => tr ρ (g0 j)) b4
  have e1' : copied (arrV (gA g ((a, ns, f) : PC).1) ((a, ns, f) : PC).2.1 (fun j => tr ρ (((a, ns, f) : PC).2.2 j))) (arrV (gA g ((a, nd, g0) : PC).1) ((a, nd, g0) : PC).2.1 (fun j => tr ρ (((a, nd, g0) : PC).2.2 j))) sp dp m0 = _ := e1
  rw [e1'] at X' step
  have hlt : ρ dst < H.size := (Array.getElem?_eq_some_iff.mp hc1).1
  generalize hN : arrV (gA g a) nd (fun j => tr ρ (cpy f g0 sp.toNatClampNeg dp.toNatClampNeg m0.toNatClampNeg j)) = N0 at X' step
  have hheap : ((T.setVm vm').setCell (ρ dst) N0).heap = H.setIfInBounds (ρ dst) N0 := by rw [← hT]; rfl
  have oq : ∀ q : Nat, q ≠ ρ dst → (H.setIfInBounds (ρ dst) N0)[q]? = H[q]? := fun q hq => by simp [Array.getElem?_setIfInBounds, Ne.symm hq]
  have hw' : Wd g ρ (up h dst (a, nd, cpy f g0 sp.toNatClampNeg dp.toNatClampNeg m0.toNatClampNeg)) s (H.setIfInBounds (ρ dst) N0) := hw.put hn h3 (cOK.mkAr a1 a2 (by rw [← hN]; simp [Array.getElem?_setIfInBounds, hlt])) (fun j => by
      show wfv h (cpy _ _ _ _ _ j)
      unfold cpy
      split
      · exact (hw.1 src _ hs).2 _
      · exact (hw.1 dst _ hd).2 _) (by simp) oq
  obtain ⟨t, t1, t2⟩ := kk p l e R s m args below meth c g Qf D0 ρ0 C hR ρ ls _ _ (fun x hx => ⟨up_dom (hK x hx).1, (hK x hx).2⟩) (hL.mono fun x hx => ⟨up_dom hx, rfl⟩) (hW.tl.tl.tl.tl.tl.mono fun x hx => up_dom hx) hw' (fun q hq => by
      rcases List.mem_append.mp hq with h | h
      · exact hlo q h
      · obtain ⟨z, -, hz⟩ := List.mem_map.mp h
        rw [← hz]
        exact hw.2.2.1 dst hn h3) _ hheap X'
  exact ⟨t, step t t1, t2⟩
theorem s_ldcI {idx : Nat} {v : Int32} (d : Dc M pc (.ldc idx) 2 pc') (hc : Cond.constant M.1.cls idx v ∈ TB) (kk : S M lvl mc ms Q pc' lv (vI v :: st) h k n) : S M lvl mc ms Q pc lv st h k n := by
  intro p l e R s m args below meth c g Qf D0 ρ0 C hR ρ ls H locs hK hL hW hw hlo
  obtain ⟨d, rfl⟩ := d
  exact lv_ldc C.1 C.2.1 C.2.2.2.1 (C.2.2.2.2.1 _ hc) d (kk p l e R s m args below meth c g Qf D0 ρ0 C hR ρ ls H locs hK hL (hW.cons trivial) hw hlo)
end CP
end
