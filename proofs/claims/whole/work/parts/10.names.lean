set_option maxRecDepth 100000 in
theorem tb_1 {w : Cond} (i : Nat) (h : tables_1_1[i]? = some w) (g : goodWord w = true) : w ∈ TB := List.mem_filter.mpr ⟨List.mem_append_right _ (show w ∈ tables_1 from List.mem_append_left _ (List.mem_of_getElem? h)), g⟩
set_option maxRecDepth 100000 in
theorem nt_1 {w : Cond} (i : Nat) (h : tables_1_1[i]? = some w) (g : isMv w = true) : w ∈ NT := List.mem_filter.mpr ⟨show w ∈ tables_1 from List.mem_append_left _ (List.mem_of_getElem? h), g⟩
set_option maxRecDepth 100000 in
theorem tb_2 {w : Cond} (i : Nat) (h : tables_1_2[i]? = some w) (g : goodWord w = true) : w ∈ TB := List.mem_filter.mpr ⟨List.mem_append_right _ (show w ∈ tables_1 from List.mem_append_right _ (List.mem_append_left _ (List.mem_of_getElem? h))), g⟩
set_option maxRecDepth 100000 in
theorem nt_2 {w : Cond} (i : Nat) (h : tables_1_2[i]? = some w) (g : isMv w = true) : w ∈ NT := List.mem_filter.mpr ⟨show w ∈ tables_1 from List.mem_append_right _ (List.mem_append_left _ (List.mem_of_getElem? h)), g⟩
set_option maxRecDepth 100000 in
theorem tb_3 {w : Cond} (i : Nat) (h : tables_1_3[i]? = some w) (g : goodWord w = true) : w ∈ TB := List.mem_filter.mpr ⟨List.mem_append_right _ (show w ∈ tables_1 from List.mem_append_right _ (List.mem_append_right _ (List.mem_append_left _ (List.mem_of_getElem? h)))), g⟩
set_option maxRecDepth 100000 in
theorem nt_3 {w : Cond} (i : Nat) (h : tables_1_3[i]? = some w) (g : isMv w = true) : w ∈ NT := List.mem_filter.mpr ⟨show w ∈ tables_1 from List.mem_append_right _ (List.mem_append_right _ (List.mem_append_left _ (List.mem_of_getElem? h))), g⟩
set_option maxRecDepth 100000 in
theorem tb_4 {w : Cond} (i : Nat) (h : tables_1_4[i]? = some w) (g : goodWord w = true) : w ∈ TB := List.mem_filter.mpr ⟨List.mem_append_right _ (show w ∈ tables_1 from List.mem_append_right _ (List.mem_append_right _ (List.mem_append_right _ (List.mem_append_left _ (List.mem_of_getElem? h))))), g⟩
set_option maxRecDepth 100000 in
theorem nt_4 {w : Cond} (i : Nat) (h : tables_1_4[i]? = some w) (g : isMv w = true) : w ∈ NT := List.mem_filter.mpr ⟨show w ∈ tables_1 from List.mem_append_right _ (List.mem_append_right _ (List.mem_append_right _ (List.mem_append_left _ (List.mem_of_getElem? h)))), g⟩
set_option maxRecDepth 100000 in
theorem tb_5 {w : Cond} (i : Nat) (h : tables_1_5[i]? = some w) (g : goodWord w = true) : w ∈ TB := List.mem_filter.mpr ⟨List.mem_append_right _ (show w ∈ tables_1 from List.mem_append_right _ (List.mem_append_right _ (List.mem_append_right _ (List.mem_append_right _ (List.mem_append_left _ (List.mem_of_getElem? h)))))), g⟩
set_option maxRecDepth 100000 in
theorem nt_5 {w : Cond} (i : Nat) (h : tables_1_5[i]? = some w) (g : isMv w = true) : w ∈ NT := List.mem_filter.mpr ⟨show w ∈ tables_1 from List.mem_append_right _ (List.mem_append_right _ (List.mem_append_right _ (List.mem_append_right _ (List.mem_append_left _ (List.mem_of_getElem? h))))), g⟩
set_option maxRecDepth 100000 in
theorem tb_6 {w : Cond} (i : Nat) (h : tables_1_6[i]? = some w) (g : goodWord w = true) : w ∈ TB := List.mem_filter.mpr ⟨List.mem_append_right _ (show w ∈ tables_1 from List.mem_append_right _ (List.mem_append_right _ (List.mem_append_right _ (List.mem_append_right _ (List.mem_append_right _ (List.mem_of_getElem? h)))))), g⟩
set_option maxRecDepth 100000 in
theorem nt_6 {w : Cond} (i : Nat) (h : tables_1_6[i]? = some w) (g : isMv w = true) : w ∈ NT := List.mem_filter.mpr ⟨show w ∈ tables_1 from List.mem_append_right _ (List.mem_append_right _ (List.mem_append_right _ (List.mem_append_right _ (List.mem_append_right _ (List.mem_of_getElem? h))))), g⟩
def mAL_init : MD := (⟨"java/util/ArrayList", "<init>", "()V"⟩, prog_22_method_2_code, 1, none)
def mAbL_init : MD := (⟨"java/util/AbstractList", "<init>", "()V"⟩, prog_21_method_1_code, 1, none)
def mAbC_init : MD := (⟨"java/util/AbstractCollection", "<init>", "()V"⟩, prog_20_method_1_code, 1, none)
def mAL_size : MD := (⟨"java/util/ArrayList", "size", "()I"⟩, prog_22_method_8_code, 1, (some (.int)))
def mAL_add : MD := (⟨"java/util/ArrayList", "add", "(Ljava/lang/Object;)Z"⟩, prog_22_method_25_code, 2, (some (.boolean)))
def mAL_add1 : MD := (⟨"java/util/ArrayList", "add", "(Ljava/lang/Object;[Ljava/lang/Object;I)V"⟩, prog_22_method_24_code, 4, none)
def mAL_grow : MD := (⟨"java/util/ArrayList", "grow", "()[Ljava/lang/Object;"⟩, prog_22_method_7_code, 1, (some (.array (.object "java/lang/Object"))))
def mAL_grow1 : MD := (⟨"java/util/ArrayList", "grow", "(I)[Ljava/lang/Object;"⟩, prog_22_method_6_code, 4, (some (.array (.object "java/lang/Object"))))
def mASup_newLength : MD := (⟨"jdk/internal/util/ArraysSupport", "newLength", "(III)I"⟩, prog_29_method_27_code, 4, (some (.int)))
def mMth_max : MD := (⟨"java/lang/Math", "max", "(II)I"⟩, prog_18_method_65_code, 2, (some (.int)))
def mASup_hugeLength : MD := (⟨"jdk/internal/util/ArraysSupport", "hugeLength", "(II)I"⟩, prog_29_method_28_code, 3, (some (.int)))
def mArrs_copyOf : MD := (⟨"java/util/Arrays", "copyOf", "([Ljava/lang/Object;I)[Ljava/lang/Object;"⟩, prog_23_method_119_code, 2, (some (.array (.object "java/lang/Object"))))
def mArrs_copyOf1 : MD := (⟨"java/util/Arrays", "copyOf", "([Ljava/lang/Object;ILjava/lang/Class;)[Ljava/lang/Object;"⟩, prog_23_method_120_code, 4, (some (.array (.object "java/lang/Object"))))
def mMth_min : MD := (⟨"java/lang/Math", "min", "(II)I"⟩, prog_18_method_69_code, 2, (some (.int)))
def mAL_get : MD := (⟨"java/util/ArrayList", "get", "(I)Ljava/lang/Object;"⟩, prog_22_method_20_code, 2, (some (.object "java/lang/Object")))
def mObjs_checkIndex : MD := (⟨"java/util/Objects", "checkIndex", "(II)I"⟩, prog_26_method_17_code, 2, (some (.int)))
def mPrec_checkIndex : MD := (⟨"jdk/internal/util/Preconditions", "checkIndex", "(IILjava/util/function/BiFunction;)I"⟩, prog_30_method_11_code, 3, (some (.int)))
def mAL_elementData : MD := (⟨"java/util/ArrayList", "elementData", "(I)Ljava/lang/Object;"⟩, prog_22_method_18_code, 2, (some (.object "java/lang/Object")))
def mAL_clear : MD := (⟨"java/util/ArrayList", "clear", "()V"⟩, prog_22_method_40_code, 4, none)
def mAL_add2 : MD := (⟨"java/util/ArrayList", "add", "(ILjava/lang/Object;)V"⟩, prog_22_method_26_code, 5, none)
def mAL_rangeCheckForAdd : MD := (⟨"java/util/ArrayList", "rangeCheckForAdd", "(I)V"⟩, prog_22_method_45_code, 2, none)
def mAL_remove : MD := (⟨"java/util/ArrayList", "remove", "(I)Ljava/lang/Object;"⟩, prog_22_method_29_code, 4, (some (.object "java/lang/Object")))
def mAL_fastRemove : MD := (⟨"java/util/ArrayList", "fastRemove", "([Ljava/lang/Object;I)V"⟩, prog_22_method_39_code, 4, none)
def mAL_set : MD := (⟨"java/util/ArrayList", "set", "(ILjava/lang/Object;)Ljava/lang/Object;"⟩, prog_22_method_23_code, 4, (some (.object "java/lang/Object")))
set_option maxRecDepth 100000 in
theorem cb_AL_init : CB mAL_init 0 := ⟨tb_1 53 rfl rfl, tb_1 5 rfl rfl, by decide +kernel, by decide +kernel⟩
set_option maxRecDepth 100000 in
theorem cb_AbL_init : CB mAbL_init 0 := ⟨tb_1 56 rfl rfl, tb_1 4 rfl rfl, by decide +kernel, by decide +kernel⟩
set_option maxRecDepth 100000 in
theorem cb_AbC_init : CB mAbC_init 0 := ⟨tb_1 59 rfl rfl, tb_1 3 rfl rfl, by decide +kernel, by decide +kernel⟩
set_option maxRecDepth 100000 in
theorem cb_AL_size : CB mAL_size 0 := ⟨tb_2 30 rfl rfl, tb_1 5 rfl rfl, by decide +kernel, by decide +kernel⟩
set_option maxRecDepth 100000 in
theorem cb_AL_add : CB mAL_add 1 := ⟨tb_2 52 rfl rfl, tb_1 5 rfl rfl, by decide +kernel, by decide +kernel⟩
set_option maxRecDepth 100000 in
theorem cb_AL_add1 : CB mAL_add1 3 := ⟨tb_2 56 rfl rfl, tb_1 5 rfl rfl, by decide +kernel, by decide +kernel⟩
set_option maxRecDepth 100000 in
theorem cb_AL_grow : CB mAL_grow 0 := ⟨tb_2 60 rfl rfl, tb_1 5 rfl rfl, by decide +kernel, by decide +kernel⟩
set_option maxRecDepth 100000 in
theorem cb_AL_grow1 : CB mAL_grow1 1 := ⟨tb_2 64 rfl rfl, tb_1 5 rfl rfl, by decide +kernel, by decide +kernel⟩
set_option maxRecDepth 100000 in
theorem cb_ASup_newLength : CB mASup_newLength 3 := ⟨tb_2 67 rfl rfl, tb_1 13 rfl rfl, by decide +kernel, by decide +kernel⟩
set_option maxRecDepth 100000 in
theorem cb_Mth_max : CB mMth_max 2 := ⟨tb_2 70 rfl rfl, tb_1 14 rfl rfl, by decide +kernel, by decide +kernel⟩
set_option maxRecDepth 100000 in
theorem cb_ASup_hugeLength : CB mASup_hugeLength 2 := ⟨tb_2 74 rfl rfl, tb_1 13 rfl rfl, by decide +kernel, by decide +kernel⟩
set_option maxRecDepth 100000 in
theorem cb_Arrs_copyOf : CB mArrs_copyOf 2 := ⟨tb_2 77 rfl rfl, tb_1 15 rfl rfl, by decide +kernel, by decide +kernel⟩
set_option maxRecDepth 100000 in
theorem cb_Arrs_copyOf1 : CB mArrs_copyOf1 3 := ⟨tb_2 98 rfl rfl, tb_1 15 rfl rfl, by decide +kernel, by decide +kernel⟩
set_option maxRecDepth 100000 in
theorem cb_Mth_min : CB mMth_min 2 := ⟨tb_2 104 rfl rfl, tb_1 14 rfl rfl, by decide +kernel, by decide +kernel⟩
set_option maxRecDepth 100000 in
theorem cb_AL_get : CB mAL_get 1 := ⟨tb_2 121 rfl rfl, tb_1 5 rfl rfl, by decide +kernel, by decide +kernel⟩
set_option maxRecDepth 100000 in
theorem cb_Objs_checkIndex : CB mObjs_checkIndex 2 := ⟨tb_2 124 rfl rfl, tb_1 17 rfl rfl, by decide +kernel, by decide +kernel⟩
set_option maxRecDepth 100000 in
theorem cb_Prec_checkIndex : CB mPrec_checkIndex 3 := ⟨tb_2 127 rfl rfl, tb_1 18 rfl rfl, by decide +kernel, by decide +kernel⟩
set_option maxRecDepth 100000 in
theorem cb_AL_elementData : CB mAL_elementData 1 := ⟨tb_2 131 rfl rfl, tb_1 5 rfl rfl, by decide +kernel, by decide +kernel⟩
set_option maxRecDepth 100000 in
theorem cb_AL_clear : CB mAL_clear 0 := ⟨tb_3 10 rfl rfl, tb_1 5 rfl rfl, by decide +kernel, by decide +kernel⟩
set_option maxRecDepth 100000 in
theorem cb_AL_add2 : CB mAL_add2 2 := ⟨tb_3 26 rfl rfl, tb_1 5 rfl rfl, by decide +kernel, by decide +kernel⟩
set_option maxRecDepth 100000 in
theorem cb_AL_rangeCheckForAdd : CB mAL_rangeCheckForAdd 1 := ⟨tb_3 30 rfl rfl, tb_1 5 rfl rfl, by decide +kernel, by decide +kernel⟩
set_option maxRecDepth 100000 in
theorem cb_AL_remove : CB mAL_remove 1 := ⟨tb_3 45 rfl rfl, tb_1 5 rfl rfl, by decide +kernel, by decide +kernel⟩
set_option maxRecDepth 100000 in
theorem cb_AL_fastRemove : CB mAL_fastRemove 2 := ⟨tb_3 49 rfl rfl, tb_1 5 rfl rfl, by decide +kernel, by decide +kernel⟩
set_option maxRecDepth 100000 in
theorem cb_AL_set : CB mAL_set 2 := ⟨tb_3 53 rfl rfl, tb_1 5 rfl rfl, by decide +kernel, by decide +kernel⟩
def mM_init : MD := (⟨"RuleBooksModel", "<init>", "()V"⟩, prog_14_method_1_code, 1, none)
def mM_kind : MD := (⟨"RuleBooksModel", "kind", "(I)I"⟩, prog_14_method_3_code, 2, (some (.int)))
def mM_isIn : MD := (⟨"RuleBooksModel", "isIn", "(III)Z"⟩, prog_14_method_2_code, 3, (some (.boolean)))
def mM_under : MD := (⟨"RuleBooksModel", "under", "(II)I"⟩, prog_14_method_6_code, 3, (some (.int)))
def mM_isUnder : MD := (⟨"RuleBooksModel", "isUnder", "(II)Z"⟩, prog_14_method_4_code, 4, (some (.boolean)))
def mM_subject : MD := (⟨"RuleBooksModel", "subject", "(I)I"⟩, prog_14_method_7_code, 2, (some (.int)))
def mM_set : MD := (⟨"RuleBooksModel", "set", "(III)I"⟩, prog_14_method_9_code, 5, (some (.int)))
def mM_isSubject : MD := (⟨"RuleBooksModel", "isSubject", "(I)Z"⟩, prog_14_method_8_code, 2, (some (.boolean)))
def mM_value : MD := (⟨"RuleBooksModel", "value", "(II)I"⟩, prog_14_method_10_code, 3, (some (.int)))
def mM_book : MD := (⟨"RuleBooksModel", "book", "(I)I"⟩, prog_14_method_12_code, 2, (some (.int)))
def mM_variable : MD := (⟨"RuleBooksModel", "variable", "(III)I"⟩, prog_14_method_13_code, 4, (some (.int)))
def mM_isBook : MD := (⟨"RuleBooksModel", "isBook", "(I)Z"⟩, prog_14_method_11_code, 2, (some (.boolean)))
def mM_rule : MD := (⟨"RuleBooksModel", "rule", "(III)I"⟩, prog_14_method_14_code, 4, (some (.int)))
def mM_condition : MD := (⟨"RuleBooksModel", "condition", "(IIII)I"⟩, prog_14_method_16_code, 8, (some (.int)))
def mM_isRule : MD := (⟨"RuleBooksModel", "isRule", "(I)Z"⟩, prog_14_method_15_code, 2, (some (.boolean)))
def mM_does : MD := (⟨"RuleBooksModel", "does", "(IIII)I"⟩, prog_14_method_17_code, 6, (some (.int)))
def mM_order : MD := (⟨"RuleBooksModel", "order", "(III)I"⟩, prog_14_method_18_code, 4, (some (.int)))
def mM_row : MD := (⟨"RuleBooksModel", "row", "(II)I"⟩, prog_14_method_27_code, 3, (some (.int)))
def mM_makes : MD := (⟨"RuleBooksModel", "makes", "(I)V"⟩, prog_14_method_24_code, 4, none)
def mM_isAhead : MD := (⟨"RuleBooksModel", "isAhead", "(II)Z"⟩, prog_14_method_20_code, 5, (some (.boolean)))
def mM_deeps : MD := (⟨"RuleBooksModel", "deeps", "(I)I"⟩, prog_14_method_19_code, 5, (some (.int)))
def mM_deep : MD := (⟨"RuleBooksModel", "deep", "(I)I"⟩, prog_14_method_5_code, 4, (some (.int)))
def mM_comes : MD := (⟨"RuleBooksModel", "comes", "(II)V"⟩, prog_14_method_23_code, 4, none)
def mM_nextOrder : MD := (⟨"RuleBooksModel", "nextOrder", "(II)I"⟩, prog_14_method_25_code, 5, (some (.int)))
def mM_moves : MD := (⟨"RuleBooksModel", "moves", "(I)V"⟩, prog_14_method_26_code, 6, none)
def mM_placeOf : MD := (⟨"RuleBooksModel", "placeOf", "(I)I"⟩, prog_14_method_21_code, 3, (some (.int)))
def mM_goes : MD := (⟨"RuleBooksModel", "goes", "(I)V"⟩, prog_14_method_22_code, 3, none)
def mM_run : MD := (⟨"RuleBooksModel", "run", "(II)I"⟩, prog_14_method_34_code, 3, (some (.int)))
def mM_answer : MD := (⟨"RuleBooksModel", "answer", "(II)I"⟩, prog_14_method_35_code, 4, (some (.int)))
def mM_runs : MD := (⟨"RuleBooksModel", "runs", "(II)I"⟩, prog_14_method_29_code, 7, (some (.int)))
def mM_pushes : MD := (⟨"RuleBooksModel", "pushes", "(IZ)V"⟩, prog_14_method_28_code, 4, none)
def mM_fails : MD := (⟨"RuleBooksModel", "fails", "(II)I"⟩, prog_14_method_30_code, 3, (some (.int)))
def mM_applies : MD := (⟨"RuleBooksModel", "applies", "(III)Z"⟩, prog_14_method_31_code, 7, (some (.boolean)))
def mM_isSo : MD := (⟨"RuleBooksModel", "isSo", "(IIIII)Z"⟩, prog_14_method_32_code, 6, (some (.boolean)))
def mM_works : MD := (⟨"RuleBooksModel", "works", "(III)I"⟩, prog_14_method_33_code, 6, (some (.int)))
def mM_trace : MD := (⟨"RuleBooksModel", "trace", "(II)I"⟩, prog_14_method_36_code, 3, (some (.int)))
def mM_erred : MD := (⟨"RuleBooksModel", "erred", "()I"⟩, prog_14_method_37_code, 1, (some (.int)))
def mM_action : MD := (⟨"RuleBooksModel", "action", "(IIIIII)I"⟩, prog_14_method_39_code, 8, (some (.int)))
def mM_isBookOrNone : MD := (⟨"RuleBooksModel", "isBookOrNone", "(I)Z"⟩, prog_14_method_38_code, 2, (some (.boolean)))
def mM_act : MD := (⟨"RuleBooksModel", "act", "(II)I"⟩, prog_14_method_40_code, 6, (some (.int)))
def mM_activity : MD := (⟨"RuleBooksModel", "activity", "(III)I"⟩, prog_14_method_41_code, 4, (some (.int)))
def mM_begin : MD := (⟨"RuleBooksModel", "begin", "(II)I"⟩, prog_14_method_43_code, 4, (some (.int)))
def mM_part : MD := (⟨"RuleBooksModel", "part", "(III)I"⟩, prog_14_method_42_code, 5, (some (.int)))
def mM_middle : MD := (⟨"RuleBooksModel", "middle", "()I"⟩, prog_14_method_44_code, 1, (some (.int)))
def mM_finish : MD := (⟨"RuleBooksModel", "finish", "()I"⟩, prog_14_method_45_code, 1, (some (.int)))
def mM_abandon : MD := (⟨"RuleBooksModel", "abandon", "()I"⟩, prog_14_method_46_code, 1, (some (.int)))
def mM_scene : MD := (⟨"RuleBooksModel", "scene", "(I)I"⟩, prog_14_method_47_code, 2, (some (.int)))
def mM_anchor : MD := (⟨"RuleBooksModel", "anchor", "(IIII)I"⟩, prog_14_method_48_code, 7, (some (.int)))
def mM_everyTurn : MD := (⟨"RuleBooksModel", "everyTurn", "(I)I"⟩, prog_14_method_51_code, 2, (some (.int)))
def mM_turn : MD := (⟨"RuleBooksModel", "turn", "()I"⟩, prog_14_method_52_code, 5, (some (.int)))
def mM_isEvent : MD := (⟨"RuleBooksModel", "isEvent", "(I)Z"⟩, prog_14_method_49_code, 3, (some (.boolean)))
def mM_isMet : MD := (⟨"RuleBooksModel", "isMet", "(I)Z"⟩, prog_14_method_50_code, 3, (some (.boolean)))
def mM_event : MD := (⟨"RuleBooksModel", "event", "(I)I"⟩, prog_14_method_53_code, 2, (some (.int)))
def mM_happens : MD := (⟨"RuleBooksModel", "happens", "(II)I"⟩, prog_14_method_54_code, 3, (some (.int)))
def mM_phrase : MD := (⟨"RuleBooksModel", "phrase", "(III)I"⟩, prog_14_method_55_code, 5, (some (.int)))
def mM_choose : MD := (⟨"RuleBooksModel", "choose", "(III)I"⟩, prog_14_method_57_code, 8, (some (.int)))
def mM_isMeant : MD := (⟨"RuleBooksModel", "isMeant", "(IIII)Z"⟩, prog_14_method_56_code, 5, (some (.boolean)))
def mM_count : MD := (⟨"RuleBooksModel", "count", "(I)I"⟩, prog_14_method_58_code, 2, (some (.int)))
set_option maxRecDepth 100000 in
theorem cb_M_init : CB mM_init 0 := ⟨tb_4 162 rfl rfl, tb_1 11 rfl rfl, by decide +kernel, by decide +kernel⟩
set_option maxRecDepth 100000 in
theorem cb_M_kind : CB mM_kind 1 := ⟨tb_5 85 rfl rfl, tb_1 11 rfl rfl, by decide +kernel, by decide +kernel⟩
set_option maxRecDepth 100000 in
theorem cb_M_isIn : CB mM_isIn 3 := ⟨tb_5 88 rfl rfl, tb_1 11 rfl rfl, by decide +kernel, by decide +kernel⟩
set_option maxRecDepth 100000 in
theorem cb_M_under : CB mM_under 2 := ⟨tb_5 92 rfl rfl, tb_1 11 rfl rfl, by decide +kernel, by decide +kernel⟩
set_option maxRecDepth 100000 in
theorem cb_M_isUnder : CB mM_isUnder 2 := ⟨tb_5 96 rfl rfl, tb_1 11 rfl rfl, by decide +kernel, by decide +kernel⟩
set_option maxRecDepth 100000 in
theorem cb_M_subject : CB mM_subject 1 := ⟨tb_5 100 rfl rfl, tb_1 11 rfl rfl, by decide +kernel, by decide +kernel⟩
set_option maxRecDepth 100000 in
theorem cb_M_set : CB mM_set 3 := ⟨tb_5 104 rfl rfl, tb_1 11 rfl rfl, by decide +kernel, by decide +kernel⟩
set_option maxRecDepth 100000 in
theorem cb_M_isSubject : CB mM_isSubject 1 := ⟨tb_5 108 rfl rfl, tb_1 11 rfl rfl, by decide +kernel, by decide +kernel⟩
set_option maxRecDepth 100000 in
theorem cb_M_value : CB mM_value 2 := ⟨tb_5 112 rfl rfl, tb_1 11 rfl rfl, by decide +kernel, by decide +kernel⟩
set_option maxRecDepth 100000 in
theorem cb_M_book : CB mM_book 1 := ⟨tb_5 116 rfl rfl, tb_1 11 rfl rfl, by decide +kernel, by decide +kernel⟩
set_option maxRecDepth 100000 in
theorem cb_M_variable : CB mM_variable 3 := ⟨tb_5 120 rfl rfl, tb_1 11 rfl rfl, by decide +kernel, by decide +kernel⟩
set_option maxRecDepth 100000 in
theorem cb_M_isBook : CB mM_isBook 1 := ⟨tb_5 124 rfl rfl, tb_1 11 rfl rfl, by decide +kernel, by decide +kernel⟩
set_option maxRecDepth 100000 in
theorem cb_M_rule : CB mM_rule 3 := ⟨tb_5 128 rfl rfl, tb_1 11 rfl rfl, by decide +kernel, by decide +kernel⟩
set_option maxRecDepth 100000 in
theorem cb_M_condition : CB mM_condition 4 := ⟨tb_5 132 rfl rfl, tb_1 11 rfl rfl, by decide +kernel, by decide +kernel⟩
set_option maxRecDepth 100000 in
theorem cb_M_isRule : CB mM_isRule 1 := ⟨tb_5 136 rfl rfl, tb_1 11 rfl rfl, by decide +kernel, by decide +kernel⟩
set_option maxRecDepth 100000 in
theorem cb_M_does : CB mM_does 4 := ⟨tb_5 140 rfl rfl, tb_1 11 rfl rfl, by decide +kernel, by decide +kernel⟩
set_option maxRecDepth 100000 in
theorem cb_M_order : CB mM_order 3 := ⟨tb_5 144 rfl rfl, tb_1 11 rfl rfl, by decide +kernel, by decide +kernel⟩
set_option maxRecDepth 100000 in
theorem cb_M_row : CB mM_row 2 := ⟨tb_5 148 rfl rfl, tb_1 11 rfl rfl, by decide +kernel, by decide +kernel⟩
set_option maxRecDepth 100000 in
theorem cb_M_makes : CB mM_makes 1 := ⟨tb_5 152 rfl rfl, tb_1 11 rfl rfl, by decide +kernel, by decide +kernel⟩
set_option maxRecDepth 100000 in
theorem cb_M_isAhead : CB mM_isAhead 2 := ⟨tb_5 156 rfl rfl, tb_1 11 rfl rfl, by decide +kernel, by decide +kernel⟩
set_option maxRecDepth 100000 in
theorem cb_M_deeps : CB mM_deeps 1 := ⟨tb_5 160 rfl rfl, tb_1 11 rfl rfl, by decide +kernel, by decide +kernel⟩
set_option maxRecDepth 100000 in
theorem cb_M_deep : CB mM_deep 1 := ⟨tb_5 164 rfl rfl, tb_1 11 rfl rfl, by decide +kernel, by decide +kernel⟩
set_option maxRecDepth 100000 in
theorem cb_M_comes : CB mM_comes 2 := ⟨tb_5 168 rfl rfl, tb_1 11 rfl rfl, by decide +kernel, by decide +kernel⟩
set_option maxRecDepth 100000 in
theorem cb_M_nextOrder : CB mM_nextOrder 2 := ⟨tb_5 172 rfl rfl, tb_1 11 rfl rfl, by decide +kernel, by decide +kernel⟩
set_option maxRecDepth 100000 in
theorem cb_M_moves : CB mM_moves 1 := ⟨tb_5 176 rfl rfl, tb_1 11 rfl rfl, by decide +kernel, by decide +kernel⟩
set_option maxRecDepth 100000 in
theorem cb_M_placeOf : CB mM_placeOf 1 := ⟨tb_5 180 rfl rfl, tb_1 11 rfl rfl, by decide +kernel, by decide +kernel⟩
set_option maxRecDepth 100000 in
theorem cb_M_goes : CB mM_goes 1 := ⟨tb_5 184 rfl rfl, tb_1 11 rfl rfl, by decide +kernel, by decide +kernel⟩
set_option maxRecDepth 100000 in
theorem cb_M_run : CB mM_run 2 := ⟨tb_5 188 rfl rfl, tb_1 11 rfl rfl, by decide +kernel, by decide +kernel⟩
set_option maxRecDepth 100000 in
theorem cb_M_answer : CB mM_answer 2 := ⟨tb_5 192 rfl rfl, tb_1 11 rfl rfl, by decide +kernel, by decide +kernel⟩
set_option maxRecDepth 100000 in
theorem cb_M_runs : CB mM_runs 2 := ⟨tb_5 196 rfl rfl, tb_1 11 rfl rfl, by decide +kernel, by decide +kernel⟩
set_option maxRecDepth 100000 in
theorem cb_M_pushes : CB mM_pushes 2 := ⟨tb_5 200 rfl rfl, tb_1 11 rfl rfl, by decide +kernel, by decide +kernel⟩
set_option maxRecDepth 100000 in
theorem cb_M_fails : CB mM_fails 2 := ⟨tb_5 204 rfl rfl, tb_1 11 rfl rfl, by decide +kernel, by decide +kernel⟩
set_option maxRecDepth 100000 in
theorem cb_M_applies : CB mM_applies 3 := ⟨tb_5 208 rfl rfl, tb_1 11 rfl rfl, by decide +kernel, by decide +kernel⟩
set_option maxRecDepth 100000 in
theorem cb_M_isSo : CB mM_isSo 5 := ⟨tb_5 212 rfl rfl, tb_1 11 rfl rfl, by decide +kernel, by decide +kernel⟩
set_option maxRecDepth 100000 in
theorem cb_M_works : CB mM_works 3 := ⟨tb_5 216 rfl rfl, tb_1 11 rfl rfl, by decide +kernel, by decide +kernel⟩
set_option maxRecDepth 100000 in
theorem cb_M_trace : CB mM_trace 2 := ⟨tb_5 220 rfl rfl, tb_1 11 rfl rfl, by decide +kernel, by decide +kernel⟩
set_option maxRecDepth 100000 in
theorem cb_M_erred : CB mM_erred 0 := ⟨tb_5 224 rfl rfl, tb_1 11 rfl rfl, by decide +kernel, by decide +kernel⟩
set_option maxRecDepth 100000 in
theorem cb_M_action : CB mM_action 6 := ⟨tb_5 228 rfl rfl, tb_1 11 rfl rfl, by decide +kernel, by decide +kernel⟩
set_option maxRecDepth 100000 in
theorem cb_M_isBookOrNone : CB mM_isBookOrNone 1 := ⟨tb_5 232 rfl rfl, tb_1 11 rfl rfl, by decide +kernel, by decide +kernel⟩
set_option maxRecDepth 100000 in
theorem cb_M_act : CB mM_act 2 := ⟨tb_5 236 rfl rfl, tb_1 11 rfl rfl, by decide +kernel, by decide +kernel⟩
set_option maxRecDepth 100000 in
theorem cb_M_activity : CB mM_activity 3 := ⟨tb_6 0 rfl rfl, tb_1 11 rfl rfl, by decide +kernel, by decide +kernel⟩
set_option maxRecDepth 100000 in
theorem cb_M_begin : CB mM_begin 2 := ⟨tb_6 4 rfl rfl, tb_1 11 rfl rfl, by decide +kernel, by decide +kernel⟩
set_option maxRecDepth 100000 in
theorem cb_M_part : CB mM_part 3 := ⟨tb_6 8 rfl rfl, tb_1 11 rfl rfl, by decide +kernel, by decide +kernel⟩
set_option maxRecDepth 100000 in
theorem cb_M_middle : CB mM_middle 0 := ⟨tb_6 12 rfl rfl, tb_1 11 rfl rfl, by decide +kernel, by decide +kernel⟩
set_option maxRecDepth 100000 in
theorem cb_M_finish : CB mM_finish 0 := ⟨tb_6 16 rfl rfl, tb_1 11 rfl rfl, by decide +kernel, by decide +kernel⟩
set_option maxRecDepth 100000 in
theorem cb_M_abandon : CB mM_abandon 0 := ⟨tb_6 20 rfl rfl, tb_1 11 rfl rfl, by decide +kernel, by decide +kernel⟩
set_option maxRecDepth 100000 in
theorem cb_M_scene : CB mM_scene 1 := ⟨tb_6 24 rfl rfl, tb_1 11 rfl rfl, by decide +kernel, by decide +kernel⟩
set_option maxRecDepth 100000 in
theorem cb_M_anchor : CB mM_anchor 4 := ⟨tb_6 28 rfl rfl, tb_1 11 rfl rfl, by decide +kernel, by decide +kernel⟩
set_option maxRecDepth 100000 in
theorem cb_M_everyTurn : CB mM_everyTurn 1 := ⟨tb_6 32 rfl rfl, tb_1 11 rfl rfl, by decide +kernel, by decide +kernel⟩
set_option maxRecDepth 100000 in
theorem cb_M_turn : CB mM_turn 0 := ⟨tb_6 36 rfl rfl, tb_1 11 rfl rfl, by decide +kernel, by decide +kernel⟩
set_option maxRecDepth 100000 in
theorem cb_M_isEvent : CB mM_isEvent 1 := ⟨tb_6 40 rfl rfl, tb_1 11 rfl rfl, by decide +kernel, by decide +kernel⟩
set_option maxRecDepth 100000 in
theorem cb_M_isMet : CB mM_isMet 1 := ⟨tb_6 44 rfl rfl, tb_1 11 rfl rfl, by decide +kernel, by decide +kernel⟩
set_option maxRecDepth 100000 in
theorem cb_M_event : CB mM_event 1 := ⟨tb_6 48 rfl rfl, tb_1 11 rfl rfl, by decide +kernel, by decide +kernel⟩
set_option maxRecDepth 100000 in
theorem cb_M_happens : CB mM_happens 2 := ⟨tb_6 52 rfl rfl, tb_1 11 rfl rfl, by decide +kernel, by decide +kernel⟩
set_option maxRecDepth 100000 in
theorem cb_M_phrase : CB mM_phrase 3 := ⟨tb_6 56 rfl rfl, tb_1 11 rfl rfl, by decide +kernel, by decide +kernel⟩
set_option maxRecDepth 100000 in
theorem cb_M_choose : CB mM_choose 3 := ⟨tb_6 60 rfl rfl, tb_1 11 rfl rfl, by decide +kernel, by decide +kernel⟩
set_option maxRecDepth 100000 in
theorem cb_M_isMeant : CB mM_isMeant 4 := ⟨tb_6 64 rfl rfl, tb_1 11 rfl rfl, by decide +kernel, by decide +kernel⟩
set_option maxRecDepth 100000 in
theorem cb_M_count : CB mM_count 1 := ⟨tb_6 68 rfl rfl, tb_1 11 rfl rfl, by decide +kernel, by decide +kernel⟩
def mX_init : MD := (⟨"RuleBooks", "<init>", "()V"⟩, prog_1_method_1_code, 1, none)
def mKinds_init : MD := (⟨"RuleBooks$Kinds", "<init>", "()V"⟩, prog_4_method_1_code, 1, none)
def mScs_init : MD := (⟨"RuleBooks$Scenes", "<init>", "(Ljava/util/ArrayList;)V"⟩, prog_10_method_1_code, 2, none)
def mPhr_init : MD := (⟨"RuleBooks$Phrases", "<init>", "(LRuleBooks$Kinds;)V"⟩, prog_6_method_1_code, 2, none)
def mRun_init : MD := (⟨"RuleBooks$Runner", "<init>", "(LRuleBooks$Kinds;Ljava/util/ArrayList;LRuleBooks$Scenes;)V"⟩, prog_8_method_1_code, 5, none)
def mTrc_init : MD := (⟨"RuleBooks$Trace", "<init>", "()V"⟩, prog_12_method_1_code, 1, none)
def mOwn_init : MD := (⟨"RuleBooks$OwnState", "<init>", "()V"⟩, prog_5_method_1_code, 1, none)
def mX_kind : MD := (⟨"RuleBooks", "kind", "(I)I"⟩, prog_1_method_2_code, 2, (some (.int)))
def mKinds_has : MD := (⟨"RuleBooks$Kinds", "has", "(I)Z"⟩, prog_4_method_2_code, 2, (some (.boolean)))
def mKinds_add : MD := (⟨"RuleBooks$Kinds", "add", "(I)I"⟩, prog_4_method_3_code, 2, (some (.int)))
def mX_under : MD := (⟨"RuleBooks", "under", "(II)I"⟩, prog_1_method_3_code, 3, (some (.int)))
def mKinds_isUnder : MD := (⟨"RuleBooks$Kinds", "isUnder", "(II)Z"⟩, prog_4_method_5_code, 5, (some (.boolean)))
def mX_asNumber : MD := (⟨"RuleBooks", "asNumber", "(Z)I"⟩, prog_1_method_45_code, 1, (some (.int)))
def mX_subject : MD := (⟨"RuleBooks", "subject", "(I)I"⟩, prog_1_method_4_code, 2, (some (.int)))
def mSubj_init : MD := (⟨"RuleBooks$Subject", "<init>", "(I)V"⟩, prog_11_method_1_code, 2, none)
def mX_set : MD := (⟨"RuleBooks", "set", "(III)I"⟩, prog_1_method_5_code, 6, (some (.int)))
def mX_subjectAt : MD := (⟨"RuleBooks", "subjectAt", "(I)LRuleBooks$Subject;"⟩, prog_1_method_37_code, 2, (some (.object "RuleBooks$Subject")))
def mX_isSlot : MD := (⟨"RuleBooks", "isSlot", "(I)Z"⟩, prog_1_method_42_code, 1, (some (.boolean)))
def mX_value : MD := (⟨"RuleBooks", "value", "(II)I"⟩, prog_1_method_6_code, 4, (some (.int)))
def mX_book : MD := (⟨"RuleBooks", "book", "(I)I"⟩, prog_1_method_7_code, 2, (some (.int)))
def mBook_init : MD := (⟨"RuleBooks$Book", "<init>", "(I)V"⟩, prog_2_method_1_code, 2, none)
def mX_variable : MD := (⟨"RuleBooks", "variable", "(III)I"⟩, prog_1_method_8_code, 5, (some (.int)))
def mX_bookAt : MD := (⟨"RuleBooks", "bookAt", "(I)LRuleBooks$Book;"⟩, prog_1_method_38_code, 2, (some (.object "RuleBooks$Book")))
def mX_rule : MD := (⟨"RuleBooks", "rule", "(III)I"⟩, prog_1_method_9_code, 6, (some (.int)))
def mRule_init : MD := (⟨"RuleBooks$Rule", "<init>", "(ILRuleBooks$Book;II)V"⟩, prog_7_method_1_code, 5, none)
def mBook_takeRule : MD := (⟨"RuleBooks$Book", "takeRule", "(LRuleBooks$Rule;)V"⟩, prog_2_method_2_code, 2, none)
def mBook_arrangeRow : MD := (⟨"RuleBooks$Book", "arrangeRow", "()V"⟩, prog_2_method_4_code, 2, none)
def mBook_putByRank : MD := (⟨"RuleBooks$Book", "putByRank", "(LRuleBooks$Rule;)V"⟩, prog_2_method_5_code, 3, none)
def mRule_outranks : MD := (⟨"RuleBooks$Rule", "outranks", "(LRuleBooks$Rule;)Z"⟩, prog_7_method_2_code, 2, (some (.boolean)))
def mBook_carryOutOrder : MD := (⟨"RuleBooks$Book", "carryOutOrder", "(LRuleBooks$Rule;)V"⟩, prog_2_method_6_code, 3, none)
def mBook_placeIn : MD := (⟨"RuleBooks$Book", "placeIn", "(Ljava/util/ArrayList;LRuleBooks$Rule;)I"⟩, prog_2_method_7_code, 3, (some (.int)))
def mX_isAboutAnother : MD := (⟨"RuleBooks", "isAboutAnother", "(I)Z"⟩, prog_1_method_44_code, 1, (some (.boolean)))
def mX_condition : MD := (⟨"RuleBooks", "condition", "(IIII)I"⟩, prog_1_method_10_code, 6, (some (.int)))
def mX_ruleAt : MD := (⟨"RuleBooks", "ruleAt", "(I)LRuleBooks$Rule;"⟩, prog_1_method_39_code, 2, (some (.object "RuleBooks$Rule")))
def mX_isConditionOf : MD := (⟨"RuleBooks", "isConditionOf", "(LRuleBooks$Rule;II)Z"⟩, prog_1_method_11_code, 5, (some (.boolean)))
def mScs_has : MD := (⟨"RuleBooks$Scenes", "has", "(I)Z"⟩, prog_10_method_2_code, 2, (some (.boolean)))
def mCond_init : MD := (⟨"RuleBooks$Condition", "<init>", "(III)V"⟩, prog_3_method_1_code, 4, none)
def mKinds_deepOf : MD := (⟨"RuleBooks$Kinds", "deepOf", "(I)I"⟩, prog_4_method_4_code, 2, (some (.int)))
def mX_does : MD := (⟨"RuleBooks", "does", "(IIII)I"⟩, prog_1_method_12_code, 6, (some (.int)))
def mX_isDeed : MD := (⟨"RuleBooks", "isDeed", "(III)Z"⟩, prog_1_method_13_code, 4, (some (.boolean)))
def mX_order : MD := (⟨"RuleBooks", "order", "(III)I"⟩, prog_1_method_14_code, 6, (some (.int)))
def mBook_takeOrder : MD := (⟨"RuleBooks$Book", "takeOrder", "(LRuleBooks$Rule;)V"⟩, prog_2_method_3_code, 3, none)
def mX_row : MD := (⟨"RuleBooks", "row", "(II)I"⟩, prog_1_method_15_code, 4, (some (.int)))
def mX_run : MD := (⟨"RuleBooks", "run", "(II)I"⟩, prog_1_method_16_code, 5, (some (.int)))
def mRun_answerOf : MD := (⟨"RuleBooks$Runner", "answerOf", "(LRuleBooks$Book;LRuleBooks$Subject;)I"⟩, prog_8_method_2_code, 4, (some (.int)))
def mRun_startCall : MD := (⟨"RuleBooks$Runner", "startCall", "()V"⟩, prog_8_method_4_code, 1, none)
def mRun_outcomeOf : MD := (⟨"RuleBooks$Runner", "outcomeOf", "(LRuleBooks$Book;LRuleBooks$Subject;I)I"⟩, prog_8_method_7_code, 7, (some (.int)))
def mOwn_startWith : MD := (⟨"RuleBooks$OwnState", "startWith", "([I)V"⟩, prog_5_method_2_code, 2, none)
def mRun_lookAt : MD := (⟨"RuleBooks$Runner", "lookAt", "(LRuleBooks$Rule;LRuleBooks$Subject;LRuleBooks$OwnState;I)I"⟩, prog_8_method_8_code, 6, (some (.int)))
def mTrc_isFull : MD := (⟨"RuleBooks$Trace", "isFull", "()Z"⟩, prog_12_method_2_code, 1, (some (.boolean)))
def mRun_err : MD := (⟨"RuleBooks$Runner", "err", "(ILRuleBooks$Rule;)I"⟩, prog_8_method_13_code, 3, (some (.int)))
def mRun_areAllSo : MD := (⟨"RuleBooks$Runner", "areAllSo", "(Ljava/util/ArrayList;LRuleBooks$Subject;LRuleBooks$OwnState;)Z"⟩, prog_8_method_9_code, 6, (some (.boolean)))
def mRun_isSo : MD := (⟨"RuleBooks$Runner", "isSo", "(LRuleBooks$Condition;LRuleBooks$Subject;LRuleBooks$OwnState;)Z"⟩, prog_8_method_10_code, 5, (some (.boolean)))
def mScs_isOn : MD := (⟨"RuleBooks$Scenes", "isOn", "(I)Z"⟩, prog_10_method_4_code, 2, (some (.boolean)))
def mOwn_hasApplied : MD := (⟨"RuleBooks$OwnState", "hasApplied", "(I)Z"⟩, prog_5_method_4_code, 2, (some (.boolean)))
def mTrc_add : MD := (⟨"RuleBooks$Trace", "add", "(IZI)V"⟩, prog_12_method_3_code, 4, none)
def mOwn_noteApplied : MD := (⟨"RuleBooks$OwnState", "noteApplied", "(I)V"⟩, prog_5_method_3_code, 2, none)
def mRun_perform : MD := (⟨"RuleBooks$Runner", "perform", "(LRuleBooks$Rule;LRuleBooks$Subject;LRuleBooks$OwnState;I)I"⟩, prog_8_method_11_code, 7, (some (.int)))
def mRun_goToBook : MD := (⟨"RuleBooks$Runner", "goToBook", "(LRuleBooks$Rule;LRuleBooks$Subject;I)I"⟩, prog_8_method_12_code, 5, (some (.int)))
def mRun_hasErred : MD := (⟨"RuleBooks$Runner", "hasErred", "()Z"⟩, prog_8_method_5_code, 1, (some (.boolean)))
def mRun_errAnswer : MD := (⟨"RuleBooks$Runner", "errAnswer", "()I"⟩, prog_8_method_6_code, 1, (some (.int)))
def mX_trace : MD := (⟨"RuleBooks", "trace", "(II)I"⟩, prog_1_method_17_code, 3, (some (.int)))
def mTrc_at : MD := (⟨"RuleBooks$Trace", "at", "(II)I"⟩, prog_12_method_4_code, 3, (some (.int)))
def mX_erred : MD := (⟨"RuleBooks", "erred", "()I"⟩, prog_1_method_18_code, 1, (some (.int)))
def mX_action : MD := (⟨"RuleBooks", "action", "(IIIIII)I"⟩, prog_1_method_19_code, 8, (some (.int)))
def mX_areBooksOrNone : MD := (⟨"RuleBooks", "areBooksOrNone", "([I)Z"⟩, prog_1_method_41_code, 3, (some (.boolean)))
def mX_isBookOrNone : MD := (⟨"RuleBooks", "isBookOrNone", "(I)Z"⟩, prog_1_method_40_code, 2, (some (.boolean)))
def mX_act : MD := (⟨"RuleBooks", "act", "(II)I"⟩, prog_1_method_20_code, 4, (some (.int)))
def mRun_answerOfStages : MD := (⟨"RuleBooks$Runner", "answerOfStages", "([ILRuleBooks$Subject;)I"⟩, prog_8_method_3_code, 7, (some (.int)))
def mX_activity : MD := (⟨"RuleBooks", "activity", "(III)I"⟩, prog_1_method_21_code, 5, (some (.int)))
def mX_begin : MD := (⟨"RuleBooks", "begin", "(II)I"⟩, prog_1_method_22_code, 4, (some (.int)))
def mX_middle : MD := (⟨"RuleBooks", "middle", "()I"⟩, prog_1_method_23_code, 1, (some (.int)))
def mX_latestPart : MD := (⟨"RuleBooks", "latestPart", "(I)LRuleBooks$Book;"⟩, prog_1_method_26_code, 2, (some (.object "RuleBooks$Book")))
def mX_latestSubject : MD := (⟨"RuleBooks", "latestSubject", "()LRuleBooks$Subject;"⟩, prog_1_method_27_code, 1, (some (.object "RuleBooks$Subject")))
def mX_finish : MD := (⟨"RuleBooks", "finish", "()I"⟩, prog_1_method_24_code, 2, (some (.int)))
def mX_abandon : MD := (⟨"RuleBooks", "abandon", "()I"⟩, prog_1_method_25_code, 1, (some (.int)))
def mX_scene : MD := (⟨"RuleBooks", "scene", "(I)I"⟩, prog_1_method_28_code, 2, (some (.int)))
def mScs_add : MD := (⟨"RuleBooks$Scenes", "add", "(Z)I"⟩, prog_10_method_3_code, 2, (some (.int)))
def mScene_init : MD := (⟨"RuleBooks$Scene", "<init>", "(Z)V"⟩, prog_9_method_1_code, 2, none)
def mX_anchor : MD := (⟨"RuleBooks", "anchor", "(IIII)I"⟩, prog_1_method_29_code, 5, (some (.int)))
def mScs_isAnchor : MD := (⟨"RuleBooks$Scenes", "isAnchor", "(II)Z"⟩, prog_10_method_6_code, 3, (some (.boolean)))
def mScs_wouldRing : MD := (⟨"RuleBooks$Scenes", "wouldRing", "(III)Z"⟩, prog_10_method_8_code, 7, (some (.boolean)))
def mScs_eventOf : MD := (⟨"RuleBooks$Scenes", "eventOf", "(II)I"⟩, prog_10_method_9_code, 2, (some (.int)))
def mScs_setAnchor : MD := (⟨"RuleBooks$Scenes", "setAnchor", "(III)V"⟩, prog_10_method_7_code, 5, none)
def mX_everyTurn : MD := (⟨"RuleBooks", "everyTurn", "(I)I"⟩, prog_1_method_30_code, 2, (some (.int)))
def mX_turn : MD := (⟨"RuleBooks", "turn", "()I"⟩, prog_1_method_31_code, 2, (some (.int)))
def mScs_takeTurn : MD := (⟨"RuleBooks$Scenes", "takeTurn", "()V"⟩, prog_10_method_10_code, 3, none)
def mScs_goRound : MD := (⟨"RuleBooks$Scenes", "goRound", "()V"⟩, prog_10_method_11_code, 4, none)
def mScs_mayChange : MD := (⟨"RuleBooks$Scenes", "mayChange", "(II)Z"⟩, prog_10_method_12_code, 4, (some (.boolean)))
def mScs_wasInTurn : MD := (⟨"RuleBooks$Scenes", "wasInTurn", "(I)Z"⟩, prog_10_method_15_code, 3, (some (.boolean)))
def mScs_isMet : MD := (⟨"RuleBooks$Scenes", "isMet", "(II)Z"⟩, prog_10_method_14_code, 3, (some (.boolean)))
def mScs_change : MD := (⟨"RuleBooks$Scenes", "change", "(II)V"⟩, prog_10_method_13_code, 4, none)
def mX_event : MD := (⟨"RuleBooks", "event", "(I)I"⟩, prog_1_method_32_code, 2, (some (.int)))
def mX_happens : MD := (⟨"RuleBooks", "happens", "(II)I"⟩, prog_1_method_33_code, 3, (some (.int)))
def mScs_beganOften : MD := (⟨"RuleBooks$Scenes", "beganOften", "(I)I"⟩, prog_10_method_5_code, 2, (some (.int)))
def mX_phrase : MD := (⟨"RuleBooks", "phrase", "(III)I"⟩, prog_1_method_34_code, 4, (some (.int)))
def mX_isName : MD := (⟨"RuleBooks", "isName", "(I)Z"⟩, prog_1_method_43_code, 1, (some (.boolean)))
def mPhr_add : MD := (⟨"RuleBooks$Phrases", "add", "(III)I"⟩, prog_6_method_2_code, 4, (some (.int)))
def mPhr_isTold : MD := (⟨"RuleBooks$Phrases", "isTold", "(III)Z"⟩, prog_6_method_3_code, 5, (some (.boolean)))
def mX_choose : MD := (⟨"RuleBooks", "choose", "(III)I"⟩, prog_1_method_35_code, 6, (some (.int)))
def mPhr_mostSpecial : MD := (⟨"RuleBooks$Phrases", "mostSpecial", "(III)I"⟩, prog_6_method_4_code, 6, (some (.int)))
def mPhr_isMeant : MD := (⟨"RuleBooks$Phrases", "isMeant", "(IIII)Z"⟩, prog_6_method_5_code, 5, (some (.boolean)))
def mPhr_isUnderAllMeant : MD := (⟨"RuleBooks$Phrases", "isUnderAllMeant", "(III)Z"⟩, prog_6_method_6_code, 5, (some (.boolean)))
def mX_count : MD := (⟨"RuleBooks", "count", "(I)I"⟩, prog_1_method_36_code, 2, (some (.int)))
set_option maxRecDepth 100000 in
theorem cb_X_init : CB mX_init 0 := ⟨tb_1 27 rfl rfl, tb_1 1 rfl rfl, by decide +kernel, by decide +kernel⟩
set_option maxRecDepth 100000 in
theorem cb_Kinds_init : CB mKinds_init 0 := ⟨tb_1 35 rfl rfl, tb_1 2 rfl rfl, by decide +kernel, by decide +kernel⟩
set_option maxRecDepth 100000 in
theorem cb_Scs_init : CB mScs_init 1 := ⟨tb_1 81 rfl rfl, tb_1 6 rfl rfl, by decide +kernel, by decide +kernel⟩
set_option maxRecDepth 100000 in
theorem cb_Phr_init : CB mPhr_init 1 := ⟨tb_1 109 rfl rfl, tb_1 7 rfl rfl, by decide +kernel, by decide +kernel⟩
set_option maxRecDepth 100000 in
theorem cb_Run_init : CB mRun_init 3 := ⟨tb_1 132 rfl rfl, tb_1 8 rfl rfl, by decide +kernel, by decide +kernel⟩
set_option maxRecDepth 100000 in
theorem cb_Trc_init : CB mTrc_init 0 := ⟨tb_1 140 rfl rfl, tb_1 9 rfl rfl, by decide +kernel, by decide +kernel⟩
set_option maxRecDepth 100000 in
theorem cb_Own_init : CB mOwn_init 0 := ⟨tb_1 160 rfl rfl, tb_1 10 rfl rfl, by decide +kernel, by decide +kernel⟩
set_option maxRecDepth 100000 in
theorem cb_X_kind : CB mX_kind 1 := ⟨tb_2 3 rfl rfl, tb_1 1 rfl rfl, by decide +kernel, by decide +kernel⟩
set_option maxRecDepth 100000 in
theorem cb_Kinds_has : CB mKinds_has 1 := ⟨tb_2 7 rfl rfl, tb_1 2 rfl rfl, by decide +kernel, by decide +kernel⟩
set_option maxRecDepth 100000 in
theorem cb_Kinds_add : CB mKinds_add 1 := ⟨tb_2 11 rfl rfl, tb_1 2 rfl rfl, by decide +kernel, by decide +kernel⟩
set_option maxRecDepth 100000 in
theorem cb_X_under : CB mX_under 2 := ⟨tb_2 15 rfl rfl, tb_1 1 rfl rfl, by decide +kernel, by decide +kernel⟩
set_option maxRecDepth 100000 in
theorem cb_Kinds_isUnder : CB mKinds_isUnder 2 := ⟨tb_2 19 rfl rfl, tb_1 2 rfl rfl, by decide +kernel, by decide +kernel⟩
set_option maxRecDepth 100000 in
theorem cb_X_asNumber : CB mX_asNumber 1 := ⟨tb_2 22 rfl rfl, tb_1 1 rfl rfl, by decide +kernel, by decide +kernel⟩
set_option maxRecDepth 100000 in
theorem cb_X_subject : CB mX_subject 1 := ⟨tb_2 26 rfl rfl, tb_1 1 rfl rfl, by decide +kernel, by decide +kernel⟩
set_option maxRecDepth 100000 in
theorem cb_Subj_init : CB mSubj_init 1 := ⟨tb_2 35 rfl rfl, tb_1 12 rfl rfl, by decide +kernel, by decide +kernel⟩
set_option maxRecDepth 100000 in
theorem cb_X_set : CB mX_set 3 := ⟨tb_2 113 rfl rfl, tb_1 1 rfl rfl, by decide +kernel, by decide +kernel⟩
set_option maxRecDepth 100000 in
theorem cb_X_subjectAt : CB mX_subjectAt 1 := ⟨tb_2 117 rfl rfl, tb_1 1 rfl rfl, by decide +kernel, by decide +kernel⟩
set_option maxRecDepth 100000 in
theorem cb_X_isSlot : CB mX_isSlot 1 := ⟨tb_2 134 rfl rfl, tb_1 1 rfl rfl, by decide +kernel, by decide +kernel⟩
set_option maxRecDepth 100000 in
theorem cb_X_value : CB mX_value 2 := ⟨tb_2 138 rfl rfl, tb_1 1 rfl rfl, by decide +kernel, by decide +kernel⟩
set_option maxRecDepth 100000 in
theorem cb_X_book : CB mX_book 1 := ⟨tb_2 142 rfl rfl, tb_1 1 rfl rfl, by decide +kernel, by decide +kernel⟩
set_option maxRecDepth 100000 in
theorem cb_Book_init : CB mBook_init 1 := ⟨tb_2 147 rfl rfl, tb_1 19 rfl rfl, by decide +kernel, by decide +kernel⟩
set_option maxRecDepth 100000 in
theorem cb_X_variable : CB mX_variable 3 := ⟨tb_2 175 rfl rfl, tb_1 1 rfl rfl, by decide +kernel, by decide +kernel⟩
set_option maxRecDepth 100000 in
theorem cb_X_bookAt : CB mX_bookAt 1 := ⟨tb_2 179 rfl rfl, tb_1 1 rfl rfl, by decide +kernel, by decide +kernel⟩
set_option maxRecDepth 100000 in
theorem cb_X_rule : CB mX_rule 3 := ⟨tb_2 183 rfl rfl, tb_1 1 rfl rfl, by decide +kernel, by decide +kernel⟩
set_option maxRecDepth 100000 in
theorem cb_Rule_init : CB mRule_init 4 := ⟨tb_2 188 rfl rfl, tb_1 20 rfl rfl, by decide +kernel, by decide +kernel⟩
set_option maxRecDepth 100000 in
theorem cb_Book_takeRule : CB mBook_takeRule 1 := ⟨tb_3 1 rfl rfl, tb_1 19 rfl rfl, by decide +kernel, by decide +kernel⟩
set_option maxRecDepth 100000 in
theorem cb_Book_arrangeRow : CB mBook_arrangeRow 0 := ⟨tb_3 6 rfl rfl, tb_1 19 rfl rfl, by decide +kernel, by decide +kernel⟩
set_option maxRecDepth 100000 in
theorem cb_Book_putByRank : CB mBook_putByRank 1 := ⟨tb_3 17 rfl rfl, tb_1 19 rfl rfl, by decide +kernel, by decide +kernel⟩
set_option maxRecDepth 100000 in
theorem cb_Rule_outranks : CB mRule_outranks 1 := ⟨tb_3 21 rfl rfl, tb_1 20 rfl rfl, by decide +kernel, by decide +kernel⟩
set_option maxRecDepth 100000 in
theorem cb_Book_carryOutOrder : CB mBook_carryOutOrder 1 := ⟨tb_3 35 rfl rfl, tb_1 19 rfl rfl, by decide +kernel, by decide +kernel⟩
set_option maxRecDepth 100000 in
theorem cb_Book_placeIn : CB mBook_placeIn 2 := ⟨tb_3 38 rfl rfl, tb_1 19 rfl rfl, by decide +kernel, by decide +kernel⟩
set_option maxRecDepth 100000 in
theorem cb_X_isAboutAnother : CB mX_isAboutAnother 1 := ⟨tb_3 41 rfl rfl, tb_1 1 rfl rfl, by decide +kernel, by decide +kernel⟩
set_option maxRecDepth 100000 in
theorem cb_X_condition : CB mX_condition 4 := ⟨tb_3 57 rfl rfl, tb_1 1 rfl rfl, by decide +kernel, by decide +kernel⟩
set_option maxRecDepth 100000 in
theorem cb_X_ruleAt : CB mX_ruleAt 1 := ⟨tb_3 61 rfl rfl, tb_1 1 rfl rfl, by decide +kernel, by decide +kernel⟩
set_option maxRecDepth 100000 in
theorem cb_X_isConditionOf : CB mX_isConditionOf 3 := ⟨tb_3 65 rfl rfl, tb_1 1 rfl rfl, by decide +kernel, by decide +kernel⟩
set_option maxRecDepth 100000 in
theorem cb_Scs_has : CB mScs_has 1 := ⟨tb_3 69 rfl rfl, tb_1 6 rfl rfl, by decide +kernel, by decide +kernel⟩
set_option maxRecDepth 100000 in
theorem cb_Cond_init : CB mCond_init 3 := ⟨tb_3 75 rfl rfl, tb_1 21 rfl rfl, by decide +kernel, by decide +kernel⟩
set_option maxRecDepth 100000 in
theorem cb_Kinds_deepOf : CB mKinds_deepOf 1 := ⟨tb_3 97 rfl rfl, tb_1 2 rfl rfl, by decide +kernel, by decide +kernel⟩
set_option maxRecDepth 100000 in
theorem cb_X_does : CB mX_does 4 := ⟨tb_3 102 rfl rfl, tb_1 1 rfl rfl, by decide +kernel, by decide +kernel⟩
set_option maxRecDepth 100000 in
theorem cb_X_isDeed : CB mX_isDeed 3 := ⟨tb_3 106 rfl rfl, tb_1 1 rfl rfl, by decide +kernel, by decide +kernel⟩
set_option maxRecDepth 100000 in
theorem cb_X_order : CB mX_order 3 := ⟨tb_3 110 rfl rfl, tb_1 1 rfl rfl, by decide +kernel, by decide +kernel⟩
set_option maxRecDepth 100000 in
theorem cb_Book_takeOrder : CB mBook_takeOrder 1 := ⟨tb_3 115 rfl rfl, tb_1 19 rfl rfl, by decide +kernel, by decide +kernel⟩
set_option maxRecDepth 100000 in
theorem cb_X_row : CB mX_row 2 := ⟨tb_3 119 rfl rfl, tb_1 1 rfl rfl, by decide +kernel, by decide +kernel⟩
set_option maxRecDepth 100000 in
theorem cb_X_run : CB mX_run 2 := ⟨tb_3 123 rfl rfl, tb_1 1 rfl rfl, by decide +kernel, by decide +kernel⟩
set_option maxRecDepth 100000 in
theorem cb_Run_answerOf : CB mRun_answerOf 2 := ⟨tb_3 127 rfl rfl, tb_1 8 rfl rfl, by decide +kernel, by decide +kernel⟩
set_option maxRecDepth 100000 in
theorem cb_Run_startCall : CB mRun_startCall 0 := ⟨tb_3 131 rfl rfl, tb_1 8 rfl rfl, by decide +kernel, by decide +kernel⟩
set_option maxRecDepth 100000 in
theorem cb_Run_outcomeOf : CB mRun_outcomeOf 3 := ⟨tb_3 135 rfl rfl, tb_1 8 rfl rfl, by decide +kernel, by decide +kernel⟩
set_option maxRecDepth 100000 in
theorem cb_Own_startWith : CB mOwn_startWith 1 := ⟨tb_3 139 rfl rfl, tb_1 10 rfl rfl, by decide +kernel, by decide +kernel⟩
set_option maxRecDepth 100000 in
theorem cb_Run_lookAt : CB mRun_lookAt 4 := ⟨tb_3 147 rfl rfl, tb_1 8 rfl rfl, by decide +kernel, by decide +kernel⟩
set_option maxRecDepth 100000 in
theorem cb_Trc_isFull : CB mTrc_isFull 0 := ⟨tb_3 151 rfl rfl, tb_1 9 rfl rfl, by decide +kernel, by decide +kernel⟩
set_option maxRecDepth 100000 in
theorem cb_Run_err : CB mRun_err 2 := ⟨tb_3 155 rfl rfl, tb_1 8 rfl rfl, by decide +kernel, by decide +kernel⟩
set_option maxRecDepth 100000 in
theorem cb_Run_areAllSo : CB mRun_areAllSo 3 := ⟨tb_3 159 rfl rfl, tb_1 8 rfl rfl, by decide +kernel, by decide +kernel⟩
set_option maxRecDepth 100000 in
theorem cb_Run_isSo : CB mRun_isSo 3 := ⟨tb_3 164 rfl rfl, tb_1 8 rfl rfl, by decide +kernel, by decide +kernel⟩
set_option maxRecDepth 100000 in
theorem cb_Scs_isOn : CB mScs_isOn 1 := ⟨tb_3 169 rfl rfl, tb_1 6 rfl rfl, by decide +kernel, by decide +kernel⟩
set_option maxRecDepth 100000 in
theorem cb_Own_hasApplied : CB mOwn_hasApplied 1 := ⟨tb_3 175 rfl rfl, tb_1 10 rfl rfl, by decide +kernel, by decide +kernel⟩
set_option maxRecDepth 100000 in
theorem cb_Trc_add : CB mTrc_add 3 := ⟨tb_3 179 rfl rfl, tb_1 9 rfl rfl, by decide +kernel, by decide +kernel⟩
set_option maxRecDepth 100000 in
theorem cb_Own_noteApplied : CB mOwn_noteApplied 1 := ⟨tb_3 184 rfl rfl, tb_1 10 rfl rfl, by decide +kernel, by decide +kernel⟩
set_option maxRecDepth 100000 in
theorem cb_Run_perform : CB mRun_perform 4 := ⟨tb_3 188 rfl rfl, tb_1 8 rfl rfl, by decide +kernel, by decide +kernel⟩
set_option maxRecDepth 100000 in
theorem cb_Run_goToBook : CB mRun_goToBook 3 := ⟨tb_3 192 rfl rfl, tb_1 8 rfl rfl, by decide +kernel, by decide +kernel⟩
set_option maxRecDepth 100000 in
theorem cb_Run_hasErred : CB mRun_hasErred 0 := ⟨tb_3 197 rfl rfl, tb_1 8 rfl rfl, by decide +kernel, by decide +kernel⟩
set_option maxRecDepth 100000 in
theorem cb_Run_errAnswer : CB mRun_errAnswer 0 := ⟨tb_3 201 rfl rfl, tb_1 8 rfl rfl, by decide +kernel, by decide +kernel⟩
set_option maxRecDepth 100000 in
theorem cb_X_trace : CB mX_trace 2 := ⟨tb_3 205 rfl rfl, tb_1 1 rfl rfl, by decide +kernel, by decide +kernel⟩
set_option maxRecDepth 100000 in
theorem cb_Trc_at : CB mTrc_at 2 := ⟨tb_3 209 rfl rfl, tb_1 9 rfl rfl, by decide +kernel, by decide +kernel⟩
set_option maxRecDepth 100000 in
theorem cb_X_erred : CB mX_erred 0 := ⟨tb_3 213 rfl rfl, tb_1 1 rfl rfl, by decide +kernel, by decide +kernel⟩
set_option maxRecDepth 100000 in
theorem cb_X_action : CB mX_action 6 := ⟨tb_3 217 rfl rfl, tb_1 1 rfl rfl, by decide +kernel, by decide +kernel⟩
set_option maxRecDepth 100000 in
theorem cb_X_areBooksOrNone : CB mX_areBooksOrNone 1 := ⟨tb_3 221 rfl rfl, tb_1 1 rfl rfl, by decide +kernel, by decide +kernel⟩
set_option maxRecDepth 100000 in
theorem cb_X_isBookOrNone : CB mX_isBookOrNone 1 := ⟨tb_3 225 rfl rfl, tb_1 1 rfl rfl, by decide +kernel, by decide +kernel⟩
set_option maxRecDepth 100000 in
theorem cb_X_act : CB mX_act 2 := ⟨tb_3 230 rfl rfl, tb_1 1 rfl rfl, by decide +kernel, by decide +kernel⟩
set_option maxRecDepth 100000 in
theorem cb_Run_answerOfStages : CB mRun_answerOfStages 2 := ⟨tb_3 234 rfl rfl, tb_1 8 rfl rfl, by decide +kernel, by decide +kernel⟩
set_option maxRecDepth 100000 in
theorem cb_X_activity : CB mX_activity 3 := ⟨tb_3 238 rfl rfl, tb_1 1 rfl rfl, by decide +kernel, by decide +kernel⟩
set_option maxRecDepth 100000 in
theorem cb_X_begin : CB mX_begin 2 := ⟨tb_4 2 rfl rfl, tb_1 1 rfl rfl, by decide +kernel, by decide +kernel⟩
set_option maxRecDepth 100000 in
theorem cb_X_middle : CB mX_middle 0 := ⟨tb_4 6 rfl rfl, tb_1 1 rfl rfl, by decide +kernel, by decide +kernel⟩
set_option maxRecDepth 100000 in
theorem cb_X_latestPart : CB mX_latestPart 1 := ⟨tb_4 10 rfl rfl, tb_1 1 rfl rfl, by decide +kernel, by decide +kernel⟩
set_option maxRecDepth 100000 in
theorem cb_X_latestSubject : CB mX_latestSubject 0 := ⟨tb_4 14 rfl rfl, tb_1 1 rfl rfl, by decide +kernel, by decide +kernel⟩
set_option maxRecDepth 100000 in
theorem cb_X_finish : CB mX_finish 0 := ⟨tb_4 18 rfl rfl, tb_1 1 rfl rfl, by decide +kernel, by decide +kernel⟩
set_option maxRecDepth 100000 in
theorem cb_X_abandon : CB mX_abandon 0 := ⟨tb_4 22 rfl rfl, tb_1 1 rfl rfl, by decide +kernel, by decide +kernel⟩
set_option maxRecDepth 100000 in
theorem cb_X_scene : CB mX_scene 1 := ⟨tb_4 26 rfl rfl, tb_1 1 rfl rfl, by decide +kernel, by decide +kernel⟩
set_option maxRecDepth 100000 in
theorem cb_Scs_add : CB mScs_add 1 := ⟨tb_4 30 rfl rfl, tb_1 6 rfl rfl, by decide +kernel, by decide +kernel⟩
set_option maxRecDepth 100000 in
theorem cb_Scene_init : CB mScene_init 1 := ⟨tb_4 34 rfl rfl, tb_1 22 rfl rfl, by decide +kernel, by decide +kernel⟩
set_option maxRecDepth 100000 in
theorem cb_X_anchor : CB mX_anchor 4 := ⟨tb_4 59 rfl rfl, tb_1 1 rfl rfl, by decide +kernel, by decide +kernel⟩
set_option maxRecDepth 100000 in
theorem cb_Scs_isAnchor : CB mScs_isAnchor 2 := ⟨tb_4 63 rfl rfl, tb_1 6 rfl rfl, by decide +kernel, by decide +kernel⟩
set_option maxRecDepth 100000 in
theorem cb_Scs_wouldRing : CB mScs_wouldRing 3 := ⟨tb_4 68 rfl rfl, tb_1 6 rfl rfl, by decide +kernel, by decide +kernel⟩
set_option maxRecDepth 100000 in
theorem cb_Scs_eventOf : CB mScs_eventOf 2 := ⟨tb_4 71 rfl rfl, tb_1 6 rfl rfl, by decide +kernel, by decide +kernel⟩
set_option maxRecDepth 100000 in
theorem cb_Scs_setAnchor : CB mScs_setAnchor 3 := ⟨tb_4 75 rfl rfl, tb_1 6 rfl rfl, by decide +kernel, by decide +kernel⟩
set_option maxRecDepth 100000 in
theorem cb_X_everyTurn : CB mX_everyTurn 1 := ⟨tb_4 79 rfl rfl, tb_1 1 rfl rfl, by decide +kernel, by decide +kernel⟩
set_option maxRecDepth 100000 in
theorem cb_X_turn : CB mX_turn 0 := ⟨tb_4 83 rfl rfl, tb_1 1 rfl rfl, by decide +kernel, by decide +kernel⟩
set_option maxRecDepth 100000 in
theorem cb_Scs_takeTurn : CB mScs_takeTurn 0 := ⟨tb_4 87 rfl rfl, tb_1 6 rfl rfl, by decide +kernel, by decide +kernel⟩
set_option maxRecDepth 100000 in
theorem cb_Scs_goRound : CB mScs_goRound 0 := ⟨tb_4 91 rfl rfl, tb_1 6 rfl rfl, by decide +kernel, by decide +kernel⟩
set_option maxRecDepth 100000 in
theorem cb_Scs_mayChange : CB mScs_mayChange 2 := ⟨tb_4 95 rfl rfl, tb_1 6 rfl rfl, by decide +kernel, by decide +kernel⟩
set_option maxRecDepth 100000 in
theorem cb_Scs_wasInTurn : CB mScs_wasInTurn 1 := ⟨tb_4 99 rfl rfl, tb_1 6 rfl rfl, by decide +kernel, by decide +kernel⟩
set_option maxRecDepth 100000 in
theorem cb_Scs_isMet : CB mScs_isMet 2 := ⟨tb_4 103 rfl rfl, tb_1 6 rfl rfl, by decide +kernel, by decide +kernel⟩
set_option maxRecDepth 100000 in
theorem cb_Scs_change : CB mScs_change 2 := ⟨tb_4 108 rfl rfl, tb_1 6 rfl rfl, by decide +kernel, by decide +kernel⟩
set_option maxRecDepth 100000 in
theorem cb_X_event : CB mX_event 1 := ⟨tb_4 112 rfl rfl, tb_1 1 rfl rfl, by decide +kernel, by decide +kernel⟩
set_option maxRecDepth 100000 in
theorem cb_X_happens : CB mX_happens 2 := ⟨tb_4 116 rfl rfl, tb_1 1 rfl rfl, by decide +kernel, by decide +kernel⟩
set_option maxRecDepth 100000 in
theorem cb_Scs_beganOften : CB mScs_beganOften 1 := ⟨tb_4 121 rfl rfl, tb_1 6 rfl rfl, by decide +kernel, by decide +kernel⟩
set_option maxRecDepth 100000 in
theorem cb_X_phrase : CB mX_phrase 3 := ⟨tb_4 125 rfl rfl, tb_1 1 rfl rfl, by decide +kernel, by decide +kernel⟩
set_option maxRecDepth 100000 in
theorem cb_X_isName : CB mX_isName 1 := ⟨tb_4 128 rfl rfl, tb_1 1 rfl rfl, by decide +kernel, by decide +kernel⟩
set_option maxRecDepth 100000 in
theorem cb_Phr_add : CB mPhr_add 3 := ⟨tb_4 132 rfl rfl, tb_1 7 rfl rfl, by decide +kernel, by decide +kernel⟩
set_option maxRecDepth 100000 in
theorem cb_Phr_isTold : CB mPhr_isTold 3 := ⟨tb_4 136 rfl rfl, tb_1 7 rfl rfl, by decide +kernel, by decide +kernel⟩
set_option maxRecDepth 100000 in
theorem cb_X_choose : CB mX_choose 3 := ⟨tb_4 140 rfl rfl, tb_1 1 rfl rfl, by decide +kernel, by decide +kernel⟩
set_option maxRecDepth 100000 in
theorem cb_Phr_mostSpecial : CB mPhr_mostSpecial 3 := ⟨tb_4 144 rfl rfl, tb_1 7 rfl rfl, by decide +kernel, by decide +kernel⟩
set_option maxRecDepth 100000 in
theorem cb_Phr_isMeant : CB mPhr_isMeant 4 := ⟨tb_4 148 rfl rfl, tb_1 7 rfl rfl, by decide +kernel, by decide +kernel⟩
set_option maxRecDepth 100000 in
theorem cb_Phr_isUnderAllMeant : CB mPhr_isUnderAllMeant 3 := ⟨tb_4 153 rfl rfl, tb_1 7 rfl rfl, by decide +kernel, by decide +kernel⟩
set_option maxRecDepth 100000 in
theorem cb_X_count : CB mX_count 1 := ⟨tb_4 157 rfl rfl, tb_1 1 rfl rfl, by decide +kernel, by decide +kernel⟩
def mL_law : MD := (⟨"RuleBooksLaw", "law", "([I)Z"⟩, code, 4, (some (.boolean)))
