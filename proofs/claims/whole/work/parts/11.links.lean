set_option maxRecDepth 100000 in
theorem gs_AL_39 : Cond.fieldLink "java/util/ArrayList" 39 "java/util/ArrayList" "DEFAULTCAPACITY_EMPTY_ELEMENTDATA" "[Ljava/lang/Object;" ∈ TB := tb_1 61 rfl rfl
set_option maxRecDepth 100000 in
theorem gf_AL_9 : GF "java/util/ArrayList" 9 13 0 := ⟨by decide, by decide, Or.inl ⟨"java/util/ArrayList", tb_1 63 rfl rfl, Or.inl rfl⟩⟩
set_option maxRecDepth 100000 in
theorem gf_AL_48 : GF "java/util/ArrayList" 48 13 1 := ⟨by decide, by decide, Or.inl ⟨"java/util/ArrayList", tb_1 64 rfl rfl, Or.inl rfl⟩⟩
set_option maxRecDepth 100000 in
theorem gf_AL_63 : GF "java/util/ArrayList" 63 13 2 := ⟨by decide, by decide, Or.inl ⟨"java/util/ArrayList", tb_1 66 rfl rfl, Or.inr (tb_1 67 rfl rfl)⟩⟩
set_option maxRecDepth 100000 in
theorem ci_AL_1 : CI "java/util/ArrayList" 1 mAbL_init 0 := ⟨cb_AbL_init, rfl, rfl, tb_1 55 rfl rfl, Or.inl (tb_1 54 rfl rfl)⟩
set_option maxRecDepth 100000 in
theorem cv_AL_131 : CV "java/util/ArrayList" 131 13 mAL_add1 3 := ⟨cb_AL_add1, by decide, rfl, tb_2 55 rfl rfl, tb_at 0 rfl rfl, Or.inl (tb_2 53 rfl rfl)⟩
set_option maxRecDepth 100000 in
theorem cv_AL_129 : CV "java/util/ArrayList" 129 13 mAL_grow 0 := ⟨cb_AL_grow, by decide, rfl, tb_2 59 rfl rfl, tb_at 1 rfl rfl, Or.inl (tb_2 57 rfl rfl)⟩
set_option maxRecDepth 100000 in
theorem cv_AL_69 : CV "java/util/ArrayList" 69 13 mAL_grow1 1 := ⟨cb_AL_grow1, by decide, rfl, tb_2 63 rfl rfl, tb_at 2 rfl rfl, Or.inl (tb_2 61 rfl rfl)⟩
set_option maxRecDepth 100000 in
theorem cs_AL_73 : CS "java/util/ArrayList" 73 mASup_newLength 3 := ⟨cb_ASup_newLength, tb_2 66 rfl rfl, Or.inl (tb_2 65 rfl rfl)⟩
set_option maxRecDepth 100000 in
theorem cs_AL_66 : CS "java/util/ArrayList" 66 mArrs_copyOf 2 := ⟨cb_Arrs_copyOf, tb_2 76 rfl rfl, Or.inl (tb_2 75 rfl rfl)⟩
set_option maxRecDepth 100000 in
theorem cs_AL_79 : CS "java/util/ArrayList" 79 mMth_max 2 := ⟨cb_Mth_max, tb_2 69 rfl rfl, Or.inl (tb_2 108 rfl rfl)⟩
set_option maxRecDepth 100000 in
theorem cs_AL_118 : CS "java/util/ArrayList" 118 mObjs_checkIndex 2 := ⟨cb_Objs_checkIndex, tb_2 123 rfl rfl, Or.inl (tb_2 122 rfl rfl)⟩
set_option maxRecDepth 100000 in
theorem cv_AL_123 : CV "java/util/ArrayList" 123 13 mAL_elementData 1 := ⟨cb_AL_elementData, by decide, rfl, tb_2 129 rfl rfl, tb_2 130 rfl rfl, Or.inl (tb_2 128 rfl rfl)⟩
set_option maxRecDepth 100000 in
theorem cv_AL_135 : CV "java/util/ArrayList" 135 13 mAL_rangeCheckForAdd 1 := ⟨cb_AL_rangeCheckForAdd, by decide, rfl, tb_3 29 rfl rfl, tb_at 6 rfl rfl, Or.inl (tb_3 27 rfl rfl)⟩
set_option maxRecDepth 100000 in
theorem cy_AL_112 : CY "java/util/ArrayList" 112 := ⟨tb_3 31 rfl rfl, tb_2 107 rfl rfl, tb_2 106 rfl rfl, tb_1 16 rfl rfl⟩
set_option maxRecDepth 100000 in
theorem cv_AL_144 : CV "java/util/ArrayList" 144 13 mAL_fastRemove 2 := ⟨cb_AL_fastRemove, by decide, rfl, tb_3 48 rfl rfl, tb_at 8 rfl rfl, Or.inl (tb_3 46 rfl rfl)⟩
set_option maxRecDepth 100000 in
theorem cl_AL_7 : Cond.classLink "java/util/ArrayList" 7 "java/lang/Object" ∈ TB := tb_2 109 rfl rfl
set_option maxRecDepth 100000 in
theorem gf_AbL_7 : GF "java/util/AbstractList" 7 13 2 := ⟨by decide, by decide, Or.inl ⟨"java/util/AbstractList", tb_1 65 rfl rfl, Or.inl rfl⟩⟩
set_option maxRecDepth 100000 in
theorem ci_AbL_1 : CI "java/util/AbstractList" 1 mAbC_init 0 := ⟨cb_AbC_init, rfl, rfl, tb_1 58 rfl rfl, Or.inl (tb_1 57 rfl rfl)⟩
set_option maxRecDepth 100000 in
theorem ob_AbC_1 : Cond.methodLink "java/util/AbstractCollection" 1 objectInit ∈ TB ∧ Cond.instanceMethod objectInit ∈ TB ∧ Cond.code objectInit ⟨#[0xb1]⟩ 1 none ∈ TB := ⟨tb_1 60 rfl rfl, tb_1 29 rfl rfl, tb_1 30 rfl rfl⟩
set_option maxRecDepth 100000 in
theorem cs_ASup_194 : CS "jdk/internal/util/ArraysSupport" 194 mMth_max 2 := ⟨cb_Mth_max, tb_2 69 rfl rfl, Or.inl (tb_2 68 rfl rfl)⟩
set_option maxRecDepth 100000 in
theorem cs_ASup_201 : CS "jdk/internal/util/ArraysSupport" 201 mASup_hugeLength 2 := ⟨cb_ASup_hugeLength, tb_2 73 rfl rfl, Or.inl (tb_2 72 rfl rfl)⟩
set_option maxRecDepth 100000 in
theorem cs_Arrs_300 : CS "java/util/Arrays" 300 mArrs_copyOf1 3 := ⟨cb_Arrs_copyOf1, tb_2 97 rfl rfl, Or.inl (tb_2 96 rfl rfl)⟩
set_option maxRecDepth 100000 in
theorem cs_Arrs_304 : CS "java/util/Arrays" 304 mMth_min 2 := ⟨cb_Mth_min, tb_2 103 rfl rfl, Or.inl (tb_2 102 rfl rfl)⟩
set_option maxRecDepth 100000 in
theorem cy_Arrs_150 : CY "java/util/Arrays" 150 := ⟨tb_2 105 rfl rfl, tb_2 107 rfl rfl, tb_2 106 rfl rfl, tb_1 16 rfl rfl⟩
set_option maxRecDepth 100000 in
theorem cl_Arrs_110 : Cond.classLink "java/util/Arrays" 110 "[Ljava/lang/Object;" ∈ TB := tb_2 99 rfl rfl
set_option maxRecDepth 100000 in
theorem cl_Arrs_2 : Cond.classLink "java/util/Arrays" 2 "java/lang/Object" ∈ TB := tb_2 101 rfl rfl
set_option maxRecDepth 100000 in
theorem cs_Objs_105 : CS "java/util/Objects" 105 mPrec_checkIndex 3 := ⟨cb_Prec_checkIndex, tb_2 126 rfl rfl, Or.inl (tb_2 125 rfl rfl)⟩
set_option maxRecDepth 100000 in
theorem gf_M_110 : GF "RuleBooksModel" 110 12 0 := ⟨by decide, by decide, Or.inl ⟨"RuleBooksModel", tb_4 164 rfl rfl, Or.inl rfl⟩⟩
set_option maxRecDepth 100000 in
theorem gf_M_7 : GF "RuleBooksModel" 7 12 1 := ⟨by decide, by decide, Or.inl ⟨"RuleBooksModel", tb_4 165 rfl rfl, Or.inl rfl⟩⟩
set_option maxRecDepth 100000 in
theorem gf_M_125 : GF "RuleBooksModel" 125 12 2 := ⟨by decide, by decide, Or.inl ⟨"RuleBooksModel", tb_4 166 rfl rfl, Or.inl rfl⟩⟩
set_option maxRecDepth 100000 in
theorem gf_M_13 : GF "RuleBooksModel" 13 12 3 := ⟨by decide, by decide, Or.inl ⟨"RuleBooksModel", tb_4 167 rfl rfl, Or.inl rfl⟩⟩
set_option maxRecDepth 100000 in
theorem gf_M_16 : GF "RuleBooksModel" 16 12 4 := ⟨by decide, by decide, Or.inl ⟨"RuleBooksModel", tb_4 168 rfl rfl, Or.inl rfl⟩⟩
set_option maxRecDepth 100000 in
theorem gf_M_132 : GF "RuleBooksModel" 132 12 5 := ⟨by decide, by decide, Or.inl ⟨"RuleBooksModel", tb_4 169 rfl rfl, Or.inl rfl⟩⟩
set_option maxRecDepth 100000 in
theorem gf_M_19 : GF "RuleBooksModel" 19 12 6 := ⟨by decide, by decide, Or.inl ⟨"RuleBooksModel", tb_4 170 rfl rfl, Or.inl rfl⟩⟩
set_option maxRecDepth 100000 in
theorem gf_M_22 : GF "RuleBooksModel" 22 12 7 := ⟨by decide, by decide, Or.inl ⟨"RuleBooksModel", tb_4 171 rfl rfl, Or.inl rfl⟩⟩
set_option maxRecDepth 100000 in
theorem gf_M_138 : GF "RuleBooksModel" 138 12 8 := ⟨by decide, by decide, Or.inl ⟨"RuleBooksModel", tb_4 172 rfl rfl, Or.inl rfl⟩⟩
set_option maxRecDepth 100000 in
theorem gf_M_25 : GF "RuleBooksModel" 25 12 9 := ⟨by decide, by decide, Or.inl ⟨"RuleBooksModel", tb_4 173 rfl rfl, Or.inl rfl⟩⟩
set_option maxRecDepth 100000 in
theorem gf_M_28 : GF "RuleBooksModel" 28 12 10 := ⟨by decide, by decide, Or.inl ⟨"RuleBooksModel", tb_4 174 rfl rfl, Or.inl rfl⟩⟩
set_option maxRecDepth 100000 in
theorem gf_M_31 : GF "RuleBooksModel" 31 12 11 := ⟨by decide, by decide, Or.inl ⟨"RuleBooksModel", tb_4 175 rfl rfl, Or.inl rfl⟩⟩
set_option maxRecDepth 100000 in
theorem gf_M_34 : GF "RuleBooksModel" 34 12 12 := ⟨by decide, by decide, Or.inl ⟨"RuleBooksModel", tb_4 176 rfl rfl, Or.inl rfl⟩⟩
set_option maxRecDepth 100000 in
theorem gf_M_37 : GF "RuleBooksModel" 37 12 13 := ⟨by decide, by decide, Or.inl ⟨"RuleBooksModel", tb_4 177 rfl rfl, Or.inl rfl⟩⟩
set_option maxRecDepth 100000 in
theorem gf_M_40 : GF "RuleBooksModel" 40 12 14 := ⟨by decide, by decide, Or.inl ⟨"RuleBooksModel", tb_4 178 rfl rfl, Or.inl rfl⟩⟩
set_option maxRecDepth 100000 in
theorem gf_M_43 : GF "RuleBooksModel" 43 12 15 := ⟨by decide, by decide, Or.inl ⟨"RuleBooksModel", tb_4 179 rfl rfl, Or.inl rfl⟩⟩
set_option maxRecDepth 100000 in
theorem gf_M_46 : GF "RuleBooksModel" 46 12 16 := ⟨by decide, by decide, Or.inl ⟨"RuleBooksModel", tb_4 180 rfl rfl, Or.inl rfl⟩⟩
set_option maxRecDepth 100000 in
theorem gf_M_49 : GF "RuleBooksModel" 49 12 17 := ⟨by decide, by decide, Or.inl ⟨"RuleBooksModel", tb_4 181 rfl rfl, Or.inl rfl⟩⟩
set_option maxRecDepth 100000 in
theorem gf_M_147 : GF "RuleBooksModel" 147 12 18 := ⟨by decide, by decide, Or.inl ⟨"RuleBooksModel", tb_4 182 rfl rfl, Or.inl rfl⟩⟩
set_option maxRecDepth 100000 in
theorem gf_M_52 : GF "RuleBooksModel" 52 12 19 := ⟨by decide, by decide, Or.inl ⟨"RuleBooksModel", tb_4 183 rfl rfl, Or.inl rfl⟩⟩
set_option maxRecDepth 100000 in
theorem gf_M_157 : GF "RuleBooksModel" 157 12 20 := ⟨by decide, by decide, Or.inl ⟨"RuleBooksModel", tb_4 184 rfl rfl, Or.inl rfl⟩⟩
set_option maxRecDepth 100000 in
theorem gf_M_184 : GF "RuleBooksModel" 184 12 21 := ⟨by decide, by decide, Or.inl ⟨"RuleBooksModel", tb_4 185 rfl rfl, Or.inl rfl⟩⟩
set_option maxRecDepth 100000 in
theorem gf_M_55 : GF "RuleBooksModel" 55 12 22 := ⟨by decide, by decide, Or.inl ⟨"RuleBooksModel", tb_4 186 rfl rfl, Or.inl rfl⟩⟩
set_option maxRecDepth 100000 in
theorem gf_M_58 : GF "RuleBooksModel" 58 12 23 := ⟨by decide, by decide, Or.inl ⟨"RuleBooksModel", tb_4 187 rfl rfl, Or.inl rfl⟩⟩
set_option maxRecDepth 100000 in
theorem gf_M_61 : GF "RuleBooksModel" 61 12 24 := ⟨by decide, by decide, Or.inl ⟨"RuleBooksModel", tb_4 188 rfl rfl, Or.inl rfl⟩⟩
set_option maxRecDepth 100000 in
theorem gf_M_64 : GF "RuleBooksModel" 64 12 25 := ⟨by decide, by decide, Or.inl ⟨"RuleBooksModel", tb_4 189 rfl rfl, Or.inl rfl⟩⟩
set_option maxRecDepth 100000 in
theorem gf_M_67 : GF "RuleBooksModel" 67 12 26 := ⟨by decide, by decide, Or.inl ⟨"RuleBooksModel", tb_4 190 rfl rfl, Or.inl rfl⟩⟩
set_option maxRecDepth 100000 in
theorem gf_M_71 : GF "RuleBooksModel" 71 12 27 := ⟨by decide, by decide, Or.inl ⟨"RuleBooksModel", tb_4 191 rfl rfl, Or.inl rfl⟩⟩
set_option maxRecDepth 100000 in
theorem gf_M_74 : GF "RuleBooksModel" 74 12 28 := ⟨by decide, by decide, Or.inl ⟨"RuleBooksModel", tb_4 192 rfl rfl, Or.inl rfl⟩⟩
set_option maxRecDepth 100000 in
theorem gf_M_191 : GF "RuleBooksModel" 191 12 29 := ⟨by decide, by decide, Or.inl ⟨"RuleBooksModel", tb_4 193 rfl rfl, Or.inl rfl⟩⟩
set_option maxRecDepth 100000 in
theorem gf_M_194 : GF "RuleBooksModel" 194 12 30 := ⟨by decide, by decide, Or.inl ⟨"RuleBooksModel", tb_4 194 rfl rfl, Or.inl rfl⟩⟩
set_option maxRecDepth 100000 in
theorem gf_M_211 : GF "RuleBooksModel" 211 12 31 := ⟨by decide, by decide, Or.inl ⟨"RuleBooksModel", tb_4 195 rfl rfl, Or.inl rfl⟩⟩
set_option maxRecDepth 100000 in
theorem gf_M_187 : GF "RuleBooksModel" 187 12 32 := ⟨by decide, by decide, Or.inl ⟨"RuleBooksModel", tb_4 196 rfl rfl, Or.inl rfl⟩⟩
set_option maxRecDepth 100000 in
theorem gf_M_227 : GF "RuleBooksModel" 227 12 33 := ⟨by decide, by decide, Or.inl ⟨"RuleBooksModel", tb_4 197 rfl rfl, Or.inl rfl⟩⟩
set_option maxRecDepth 100000 in
theorem gf_M_77 : GF "RuleBooksModel" 77 12 34 := ⟨by decide, by decide, Or.inl ⟨"RuleBooksModel", tb_4 198 rfl rfl, Or.inl rfl⟩⟩
set_option maxRecDepth 100000 in
theorem gf_M_230 : GF "RuleBooksModel" 230 12 35 := ⟨by decide, by decide, Or.inl ⟨"RuleBooksModel", tb_4 199 rfl rfl, Or.inl rfl⟩⟩
set_option maxRecDepth 100000 in
theorem gf_M_80 : GF "RuleBooksModel" 80 12 36 := ⟨by decide, by decide, Or.inl ⟨"RuleBooksModel", tb_4 200 rfl rfl, Or.inl rfl⟩⟩
set_option maxRecDepth 100000 in
theorem gf_M_233 : GF "RuleBooksModel" 233 12 37 := ⟨by decide, by decide, Or.inl ⟨"RuleBooksModel", tb_4 201 rfl rfl, Or.inl rfl⟩⟩
set_option maxRecDepth 100000 in
theorem gf_M_83 : GF "RuleBooksModel" 83 12 38 := ⟨by decide, by decide, Or.inl ⟨"RuleBooksModel", tb_4 202 rfl rfl, Or.inl rfl⟩⟩
set_option maxRecDepth 100000 in
theorem gf_M_86 : GF "RuleBooksModel" 86 12 39 := ⟨by decide, by decide, Or.inl ⟨"RuleBooksModel", tb_4 203 rfl rfl, Or.inl rfl⟩⟩
set_option maxRecDepth 100000 in
theorem gf_M_144 : GF "RuleBooksModel" 144 12 40 := ⟨by decide, by decide, Or.inl ⟨"RuleBooksModel", tb_4 204 rfl rfl, Or.inl rfl⟩⟩
set_option maxRecDepth 100000 in
theorem gf_M_89 : GF "RuleBooksModel" 89 12 41 := ⟨by decide, by decide, Or.inl ⟨"RuleBooksModel", tb_4 205 rfl rfl, Or.inl rfl⟩⟩
set_option maxRecDepth 100000 in
theorem gf_M_92 : GF "RuleBooksModel" 92 12 42 := ⟨by decide, by decide, Or.inl ⟨"RuleBooksModel", tb_4 206 rfl rfl, Or.inl rfl⟩⟩
set_option maxRecDepth 100000 in
theorem gf_M_95 : GF "RuleBooksModel" 95 12 43 := ⟨by decide, by decide, Or.inl ⟨"RuleBooksModel", tb_4 207 rfl rfl, Or.inl rfl⟩⟩
set_option maxRecDepth 100000 in
theorem gf_M_98 : GF "RuleBooksModel" 98 12 44 := ⟨by decide, by decide, Or.inl ⟨"RuleBooksModel", tb_4 208 rfl rfl, Or.inl rfl⟩⟩
set_option maxRecDepth 100000 in
theorem gf_M_101 : GF "RuleBooksModel" 101 12 45 := ⟨by decide, by decide, Or.inl ⟨"RuleBooksModel", tb_4 209 rfl rfl, Or.inl rfl⟩⟩
set_option maxRecDepth 100000 in
theorem gf_M_114 : GF "RuleBooksModel" 114 12 46 := ⟨by decide, by decide, Or.inl ⟨"RuleBooksModel", tb_4 210 rfl rfl, Or.inl rfl⟩⟩
set_option maxRecDepth 100000 in
theorem gf_M_242 : GF "RuleBooksModel" 242 12 47 := ⟨by decide, by decide, Or.inl ⟨"RuleBooksModel", tb_4 211 rfl rfl, Or.inl rfl⟩⟩
set_option maxRecDepth 100000 in
theorem gf_M_104 : GF "RuleBooksModel" 104 12 48 := ⟨by decide, by decide, Or.inl ⟨"RuleBooksModel", tb_4 212 rfl rfl, Or.inl rfl⟩⟩
set_option maxRecDepth 100000 in
theorem gf_M_239 : GF "RuleBooksModel" 239 12 49 := ⟨by decide, by decide, Or.inl ⟨"RuleBooksModel", tb_4 213 rfl rfl, Or.inl rfl⟩⟩
set_option maxRecDepth 100000 in
theorem gf_M_251 : GF "RuleBooksModel" 251 12 50 := ⟨by decide, by decide, Or.inl ⟨"RuleBooksModel", tb_4 214 rfl rfl, Or.inl rfl⟩⟩
set_option maxRecDepth 100000 in
theorem gf_M_107 : GF "RuleBooksModel" 107 12 51 := ⟨by decide, by decide, Or.inl ⟨"RuleBooksModel", tb_4 215 rfl rfl, Or.inl rfl⟩⟩
set_option maxRecDepth 100000 in
theorem ob_M_1 : Cond.methodLink "RuleBooksModel" 1 objectInit ∈ TB ∧ Cond.instanceMethod objectInit ∈ TB ∧ Cond.code objectInit ⟨#[0xb1]⟩ 1 none ∈ TB := ⟨tb_4 163 rfl rfl, tb_1 29 rfl rfl, tb_1 30 rfl rfl⟩
set_option maxRecDepth 100000 in
theorem cs_M_117 : CS "RuleBooksModel" 117 mM_isIn 3 := ⟨cb_M_isIn, tb_5 87 rfl rfl, Or.inl (tb_5 86 rfl rfl)⟩
set_option maxRecDepth 100000 in
theorem cv_M_121 : CV "RuleBooksModel" 121 12 mM_isUnder 2 := ⟨cb_M_isUnder, by decide, rfl, tb_5 95 rfl rfl, tb_at 34 rfl rfl, Or.inl (tb_5 93 rfl rfl)⟩
set_option maxRecDepth 100000 in
theorem cv_M_128 : CV "RuleBooksModel" 128 12 mM_isSubject 1 := ⟨cb_M_isSubject, by decide, rfl, tb_5 107 rfl rfl, tb_at 35 rfl rfl, Or.inl (tb_5 105 rfl rfl)⟩
set_option maxRecDepth 100000 in
theorem cv_M_135 : CV "RuleBooksModel" 135 12 mM_isBook 1 := ⟨cb_M_isBook, by decide, rfl, tb_5 123 rfl rfl, tb_at 36 rfl rfl, Or.inl (tb_5 121 rfl rfl)⟩
set_option maxRecDepth 100000 in
theorem cv_M_141 : CV "RuleBooksModel" 141 12 mM_isRule 1 := ⟨cb_M_isRule, by decide, rfl, tb_5 135 rfl rfl, tb_at 37 rfl rfl, Or.inl (tb_5 133 rfl rfl)⟩
set_option maxRecDepth 100000 in
theorem cv_M_181 : CV "RuleBooksModel" 181 12 mM_makes 1 := ⟨cb_M_makes, by decide, rfl, tb_5 151 rfl rfl, tb_at 38 rfl rfl, Or.inl (tb_5 149 rfl rfl)⟩
set_option maxRecDepth 100000 in
theorem cv_M_160 : CV "RuleBooksModel" 160 12 mM_isAhead 2 := ⟨cb_M_isAhead, by decide, rfl, tb_5 155 rfl rfl, tb_at 39 rfl rfl, Or.inl (tb_5 153 rfl rfl)⟩
set_option maxRecDepth 100000 in
theorem cv_M_154 : CV "RuleBooksModel" 154 12 mM_deeps 1 := ⟨cb_M_deeps, by decide, rfl, tb_5 159 rfl rfl, tb_at 40 rfl rfl, Or.inl (tb_5 157 rfl rfl)⟩
set_option maxRecDepth 100000 in
theorem cv_M_150 : CV "RuleBooksModel" 150 12 mM_deep 1 := ⟨cb_M_deep, by decide, rfl, tb_5 163 rfl rfl, tb_at 41 rfl rfl, Or.inl (tb_5 161 rfl rfl)⟩
set_option maxRecDepth 100000 in
theorem cv_M_163 : CV "RuleBooksModel" 163 12 mM_comes 2 := ⟨cb_M_comes, by decide, rfl, tb_5 167 rfl rfl, tb_at 42 rfl rfl, Or.inl (tb_5 165 rfl rfl)⟩
set_option maxRecDepth 100000 in
theorem cv_M_167 : CV "RuleBooksModel" 167 12 mM_nextOrder 2 := ⟨cb_M_nextOrder, by decide, rfl, tb_5 171 rfl rfl, tb_at 43 rfl rfl, Or.inl (tb_5 169 rfl rfl)⟩
set_option maxRecDepth 100000 in
theorem cv_M_171 : CV "RuleBooksModel" 171 12 mM_moves 1 := ⟨cb_M_moves, by decide, rfl, tb_5 175 rfl rfl, tb_at 44 rfl rfl, Or.inl (tb_5 173 rfl rfl)⟩
set_option maxRecDepth 100000 in
theorem cv_M_175 : CV "RuleBooksModel" 175 12 mM_placeOf 1 := ⟨cb_M_placeOf, by decide, rfl, tb_5 179 rfl rfl, tb_at 45 rfl rfl, Or.inl (tb_5 177 rfl rfl)⟩
set_option maxRecDepth 100000 in
theorem cv_M_178 : CV "RuleBooksModel" 178 12 mM_goes 1 := ⟨cb_M_goes, by decide, rfl, tb_5 183 rfl rfl, tb_at 46 rfl rfl, Or.inl (tb_5 181 rfl rfl)⟩
set_option maxRecDepth 100000 in
theorem cv_M_218 : CV "RuleBooksModel" 218 12 mM_answer 2 := ⟨cb_M_answer, by decide, rfl, tb_5 191 rfl rfl, tb_at 47 rfl rfl, Or.inl (tb_5 189 rfl rfl)⟩
set_option maxRecDepth 100000 in
theorem cv_M_221 : CV "RuleBooksModel" 221 12 mM_runs 2 := ⟨cb_M_runs, by decide, rfl, tb_5 195 rfl rfl, tb_at 48 rfl rfl, Or.inl (tb_5 193 rfl rfl)⟩
set_option maxRecDepth 100000 in
theorem cv_M_197 : CV "RuleBooksModel" 197 12 mM_pushes 2 := ⟨cb_M_pushes, by decide, rfl, tb_5 199 rfl rfl, tb_at 49 rfl rfl, Or.inl (tb_5 197 rfl rfl)⟩
set_option maxRecDepth 100000 in
theorem cv_M_201 : CV "RuleBooksModel" 201 12 mM_fails 2 := ⟨cb_M_fails, by decide, rfl, tb_5 203 rfl rfl, tb_at 50 rfl rfl, Or.inl (tb_5 201 rfl rfl)⟩
set_option maxRecDepth 100000 in
theorem cv_M_204 : CV "RuleBooksModel" 204 12 mM_applies 3 := ⟨cb_M_applies, by decide, rfl, tb_5 207 rfl rfl, tb_at 51 rfl rfl, Or.inl (tb_5 205 rfl rfl)⟩
set_option maxRecDepth 100000 in
theorem cv_M_214 : CV "RuleBooksModel" 214 12 mM_isSo 5 := ⟨cb_M_isSo, by decide, rfl, tb_5 211 rfl rfl, tb_at 52 rfl rfl, Or.inl (tb_5 209 rfl rfl)⟩
set_option maxRecDepth 100000 in
theorem cv_M_207 : CV "RuleBooksModel" 207 12 mM_works 3 := ⟨cb_M_works, by decide, rfl, tb_5 215 rfl rfl, tb_at 53 rfl rfl, Or.inl (tb_5 213 rfl rfl)⟩
set_option maxRecDepth 100000 in
theorem cv_M_224 : CV "RuleBooksModel" 224 12 mM_isBookOrNone 1 := ⟨cb_M_isBookOrNone, by decide, rfl, tb_5 231 rfl rfl, tb_at 54 rfl rfl, Or.inl (tb_5 229 rfl rfl)⟩
set_option maxRecDepth 100000 in
theorem cv_M_236 : CV "RuleBooksModel" 236 12 mM_part 3 := ⟨cb_M_part, by decide, rfl, tb_6 7 rfl rfl, tb_at 55 rfl rfl, Or.inl (tb_6 5 rfl rfl)⟩
set_option maxRecDepth 100000 in
theorem cv_M_245 : CV "RuleBooksModel" 245 12 mM_isEvent 1 := ⟨cb_M_isEvent, by decide, rfl, tb_6 39 rfl rfl, tb_at 56 rfl rfl, Or.inl (tb_6 37 rfl rfl)⟩
set_option maxRecDepth 100000 in
theorem cv_M_248 : CV "RuleBooksModel" 248 12 mM_isMet 1 := ⟨cb_M_isMet, by decide, rfl, tb_6 43 rfl rfl, tb_at 57 rfl rfl, Or.inl (tb_6 41 rfl rfl)⟩
set_option maxRecDepth 100000 in
theorem cv_M_254 : CV "RuleBooksModel" 254 12 mM_isMeant 4 := ⟨cb_M_isMeant, by decide, rfl, tb_6 63 rfl rfl, tb_at 58 rfl rfl, Or.inl (tb_6 61 rfl rfl)⟩
set_option maxRecDepth 100000 in
theorem gf_Book_28 : GF "RuleBooks$Book" 28 0 0 := ⟨by decide, by decide, Or.inl ⟨"RuleBooks$Book", tb_2 151 rfl rfl, Or.inl rfl⟩⟩
set_option maxRecDepth 100000 in
theorem gf_Book_9 : GF "RuleBooks$Book" 9 0 1 := ⟨by decide, by decide, Or.inl ⟨"RuleBooks$Book", tb_2 153 rfl rfl, Or.inl rfl⟩⟩
set_option maxRecDepth 100000 in
theorem gf_Book_18 : GF "RuleBooks$Book" 18 0 2 := ⟨by decide, by decide, Or.inl ⟨"RuleBooks$Book", tb_2 156 rfl rfl, Or.inl rfl⟩⟩
set_option maxRecDepth 100000 in
theorem gf_Book_22 : GF "RuleBooks$Book" 22 0 3 := ⟨by decide, by decide, Or.inl ⟨"RuleBooks$Book", tb_2 157 rfl rfl, Or.inl rfl⟩⟩
set_option maxRecDepth 100000 in
theorem gf_Book_25 : GF "RuleBooks$Book" 25 0 4 := ⟨by decide, by decide, Or.inl ⟨"RuleBooks$Book", tb_2 158 rfl rfl, Or.inl rfl⟩⟩
set_option maxRecDepth 100000 in
theorem gf_Book_73 : GF "RuleBooks$Book" 73 5 9 := ⟨by decide, by decide, Or.inr ⟨"RuleBooks", nt_2 211 rfl rfl⟩⟩
set_option maxRecDepth 100000 in
theorem gf_Book_80 : GF "RuleBooks$Book" 80 5 10 := ⟨by decide, by decide, Or.inr ⟨"RuleBooks", nt_2 213 rfl rfl⟩⟩
set_option maxRecDepth 100000 in
theorem ob_Book_3 : Cond.methodLink "RuleBooks$Book" 3 objectInit ∈ TB ∧ Cond.instanceMethod objectInit ∈ TB ∧ Cond.code objectInit ⟨#[0xb1]⟩ 1 none ∈ TB := ⟨tb_2 148 rfl rfl, tb_1 29 rfl rfl, tb_1 30 rfl rfl⟩
set_option maxRecDepth 100000 in
theorem ci_Book_17 : CI "RuleBooks$Book" 17 mAL_init 0 := ⟨cb_AL_init, rfl, rfl, tb_1 52 rfl rfl, Or.inl (tb_2 150 rfl rfl)⟩
set_option maxRecDepth 100000 in
theorem cv_Book_32 : CV "RuleBooks$Book" 32 13 mAL_add 1 := ⟨cb_AL_add, by decide, rfl, tb_2 50 rfl rfl, tb_2 51 rfl rfl, Or.inl (tb_3 2 rfl rfl)⟩
set_option maxRecDepth 100000 in
theorem cv_Book_36 : CV "RuleBooks$Book" 36 0 mBook_arrangeRow 0 := ⟨cb_Book_arrangeRow, by decide, rfl, tb_3 4 rfl rfl, tb_3 5 rfl rfl, Or.inl (tb_3 3 rfl rfl)⟩
set_option maxRecDepth 100000 in
theorem cv_Book_47 : CV "RuleBooks$Book" 47 13 mAL_clear 0 := ⟨cb_AL_clear, by decide, rfl, tb_3 8 rfl rfl, tb_3 9 rfl rfl, Or.inl (tb_3 7 rfl rfl)⟩
set_option maxRecDepth 100000 in
theorem cv_Book_50 : CV "RuleBooks$Book" 50 13 mAL_size 0 := ⟨cb_AL_size, by decide, rfl, tb_2 28 rfl rfl, tb_2 29 rfl rfl, Or.inl (tb_3 11 rfl rfl)⟩
set_option maxRecDepth 100000 in
theorem cv_Book_54 : CV "RuleBooks$Book" 54 13 mAL_get 1 := ⟨cb_AL_get, by decide, rfl, tb_2 119 rfl rfl, tb_2 120 rfl rfl, Or.inl (tb_3 12 rfl rfl)⟩
set_option maxRecDepth 100000 in
theorem cv_Book_59 : CV "RuleBooks$Book" 59 0 mBook_putByRank 1 := ⟨cb_Book_putByRank, by decide, rfl, tb_3 16 rfl rfl, tb_at 5 rfl rfl, Or.inl (tb_3 14 rfl rfl)⟩
set_option maxRecDepth 100000 in
theorem cv_Book_66 : CV "RuleBooks$Book" 66 5 mRule_outranks 1 := ⟨cb_Rule_outranks, by decide, rfl, tb_3 19 rfl rfl, tb_3 20 rfl rfl, Or.inl (tb_3 18 rfl rfl)⟩
set_option maxRecDepth 100000 in
theorem cv_Book_70 : CV "RuleBooks$Book" 70 13 mAL_add2 2 := ⟨cb_AL_add2, by decide, rfl, tb_3 24 rfl rfl, tb_3 25 rfl rfl, Or.inl (tb_3 23 rfl rfl)⟩
set_option maxRecDepth 100000 in
theorem cv_Book_63 : CV "RuleBooks$Book" 63 0 mBook_carryOutOrder 1 := ⟨cb_Book_carryOutOrder, by decide, rfl, tb_3 34 rfl rfl, tb_at 7 rfl rfl, Or.inl (tb_3 32 rfl rfl)⟩
set_option maxRecDepth 100000 in
theorem cs_Book_39 : CS "RuleBooks$Book" 39 mBook_placeIn 2 := ⟨cb_Book_placeIn, tb_3 37 rfl rfl, Or.inl (tb_3 36 rfl rfl)⟩
set_option maxRecDepth 100000 in
theorem cs_Book_76 : CS "RuleBooks$Book" 76 mX_isAboutAnother 1 := ⟨cb_X_isAboutAnother, tb_3 40 rfl rfl, Or.inr ⟨"RuleBooks", nt_3 39 rfl rfl⟩⟩
set_option maxRecDepth 100000 in
theorem cv_Book_43 : CV "RuleBooks$Book" 43 13 mAL_remove 1 := ⟨cb_AL_remove, by decide, rfl, tb_3 43 rfl rfl, tb_3 44 rfl rfl, Or.inl (tb_3 42 rfl rfl)⟩
set_option maxRecDepth 100000 in
theorem cv_Book_84 : CV "RuleBooks$Book" 84 13 mAL_set 2 := ⟨cb_AL_set, by decide, rfl, tb_3 51 rfl rfl, tb_3 52 rfl rfl, Or.inl (tb_3 50 rfl rfl)⟩
set_option maxRecDepth 100000 in
theorem nw_Book_15 : NW "RuleBooks$Book" 15 13 := ⟨by decide, tb_2 149 rfl rfl, tb_1 50 rfl rfl, tb_1 5 rfl rfl⟩
set_option maxRecDepth 100000 in
theorem nw_Book_57 : NW "RuleBooks$Book" 57 5 := ⟨by decide, tb_3 13 rfl rfl, tb_2 185 rfl rfl, tb_1 20 rfl rfl⟩
set_option maxRecDepth 100000 in
theorem gf_Cond_15 : GF "RuleBooks$Condition" 15 1 0 := ⟨by decide, by decide, Or.inl ⟨"RuleBooks$Condition", tb_3 77 rfl rfl, Or.inl rfl⟩⟩
set_option maxRecDepth 100000 in
theorem gf_Cond_9 : GF "RuleBooks$Condition" 9 1 1 := ⟨by decide, by decide, Or.inl ⟨"RuleBooks$Condition", tb_3 79 rfl rfl, Or.inl rfl⟩⟩
set_option maxRecDepth 100000 in
theorem gf_Cond_19 : GF "RuleBooks$Condition" 19 1 2 := ⟨by decide, by decide, Or.inl ⟨"RuleBooks$Condition", tb_3 81 rfl rfl, Or.inl rfl⟩⟩
set_option maxRecDepth 100000 in
theorem gf_Cond_22 : GF "RuleBooks$Condition" 22 1 3 := ⟨by decide, by decide, Or.inl ⟨"RuleBooks$Condition", tb_3 83 rfl rfl, Or.inl rfl⟩⟩
set_option maxRecDepth 100000 in
theorem ob_Cond_3 : Cond.methodLink "RuleBooks$Condition" 3 objectInit ∈ TB ∧ Cond.instanceMethod objectInit ∈ TB ∧ Cond.code objectInit ⟨#[0xb1]⟩ 1 none ∈ TB := ⟨tb_3 76 rfl rfl, tb_1 29 rfl rfl, tb_1 30 rfl rfl⟩
set_option maxRecDepth 100000 in
theorem gf_Kinds_9 : GF "RuleBooks$Kinds" 9 2 0 := ⟨by decide, by decide, Or.inl ⟨"RuleBooks$Kinds", tb_1 37 rfl rfl, Or.inl rfl⟩⟩
set_option maxRecDepth 100000 in
theorem gf_Kinds_15 : GF "RuleBooks$Kinds" 15 2 1 := ⟨by decide, by decide, Or.inl ⟨"RuleBooks$Kinds", tb_1 38 rfl rfl, Or.inl rfl⟩⟩
set_option maxRecDepth 100000 in
theorem gf_Kinds_18 : GF "RuleBooks$Kinds" 18 2 2 := ⟨by decide, by decide, Or.inl ⟨"RuleBooks$Kinds", tb_1 39 rfl rfl, Or.inl rfl⟩⟩
set_option maxRecDepth 100000 in
theorem ob_Kinds_3 : Cond.methodLink "RuleBooks$Kinds" 3 objectInit ∈ TB ∧ Cond.instanceMethod objectInit ∈ TB ∧ Cond.code objectInit ⟨#[0xb1]⟩ 1 none ∈ TB := ⟨tb_1 36 rfl rfl, tb_1 29 rfl rfl, tb_1 30 rfl rfl⟩
set_option maxRecDepth 100000 in
theorem gf_Own_9 : GF "RuleBooks$OwnState" 9 3 0 := ⟨by decide, by decide, Or.inl ⟨"RuleBooks$OwnState", tb_1 162 rfl rfl, Or.inl rfl⟩⟩
set_option maxRecDepth 100000 in
theorem gf_Own_21 : GF "RuleBooks$OwnState" 21 3 1 := ⟨by decide, by decide, Or.inl ⟨"RuleBooks$OwnState", tb_1 164 rfl rfl, Or.inl rfl⟩⟩
set_option maxRecDepth 100000 in
theorem ob_Own_3 : Cond.methodLink "RuleBooks$OwnState" 3 objectInit ∈ TB ∧ Cond.instanceMethod objectInit ∈ TB ∧ Cond.code objectInit ⟨#[0xb1]⟩ 1 none ∈ TB := ⟨tb_1 161 rfl rfl, tb_1 29 rfl rfl, tb_1 30 rfl rfl⟩
set_option maxRecDepth 100000 in
theorem cy_Own_15 : CY "RuleBooks$OwnState" 15 := ⟨tb_3 140 rfl rfl, tb_2 107 rfl rfl, tb_2 106 rfl rfl, tb_1 16 rfl rfl⟩
set_option maxRecDepth 100000 in
theorem gf_Phr_21 : GF "RuleBooks$Phrases" 21 4 0 := ⟨by decide, by decide, Or.inl ⟨"RuleBooks$Phrases", tb_1 111 rfl rfl, Or.inl rfl⟩⟩
set_option maxRecDepth 100000 in
theorem gf_Phr_9 : GF "RuleBooks$Phrases" 9 4 1 := ⟨by decide, by decide, Or.inl ⟨"RuleBooks$Phrases", tb_1 112 rfl rfl, Or.inl rfl⟩⟩
set_option maxRecDepth 100000 in
theorem gf_Phr_15 : GF "RuleBooks$Phrases" 15 4 2 := ⟨by decide, by decide, Or.inl ⟨"RuleBooks$Phrases", tb_1 113 rfl rfl, Or.inl rfl⟩⟩
set_option maxRecDepth 100000 in
theorem gf_Phr_18 : GF "RuleBooks$Phrases" 18 4 3 := ⟨by decide, by decide, Or.inl ⟨"RuleBooks$Phrases", tb_1 114 rfl rfl, Or.inl rfl⟩⟩
set_option maxRecDepth 100000 in
theorem gf_Phr_29 : GF "RuleBooks$Phrases" 29 4 4 := ⟨by decide, by decide, Or.inl ⟨"RuleBooks$Phrases", tb_1 115 rfl rfl, Or.inl rfl⟩⟩
set_option maxRecDepth 100000 in
theorem ob_Phr_3 : Cond.methodLink "RuleBooks$Phrases" 3 objectInit ∈ TB ∧ Cond.instanceMethod objectInit ∈ TB ∧ Cond.code objectInit ⟨#[0xb1]⟩ 1 none ∈ TB := ⟨tb_1 110 rfl rfl, tb_1 29 rfl rfl, tb_1 30 rfl rfl⟩
set_option maxRecDepth 100000 in
theorem cv_Phr_25 : CV "RuleBooks$Phrases" 25 4 mPhr_isTold 3 := ⟨cb_Phr_isTold, by decide, rfl, tb_4 135 rfl rfl, tb_at 31 rfl rfl, Or.inl (tb_4 133 rfl rfl)⟩
set_option maxRecDepth 100000 in
theorem cv_Phr_33 : CV "RuleBooks$Phrases" 33 4 mPhr_isMeant 4 := ⟨cb_Phr_isMeant, by decide, rfl, tb_4 147 rfl rfl, tb_at 32 rfl rfl, Or.inl (tb_4 145 rfl rfl)⟩
set_option maxRecDepth 100000 in
theorem cv_Phr_40 : CV "RuleBooks$Phrases" 40 2 mKinds_isUnder 2 := ⟨cb_Kinds_isUnder, by decide, rfl, tb_2 17 rfl rfl, tb_2 18 rfl rfl, Or.inl (tb_4 149 rfl rfl)⟩
set_option maxRecDepth 100000 in
theorem cv_Phr_37 : CV "RuleBooks$Phrases" 37 4 mPhr_isUnderAllMeant 3 := ⟨cb_Phr_isUnderAllMeant, by decide, rfl, tb_4 152 rfl rfl, tb_at 33 rfl rfl, Or.inl (tb_4 150 rfl rfl)⟩
set_option maxRecDepth 100000 in
theorem gf_Rule_22 : GF "RuleBooks$Rule" 22 5 0 := ⟨by decide, by decide, Or.inl ⟨"RuleBooks$Rule", tb_2 192 rfl rfl, Or.inl rfl⟩⟩
set_option maxRecDepth 100000 in
theorem gf_Rule_25 : GF "RuleBooks$Rule" 25 5 1 := ⟨by decide, by decide, Or.inl ⟨"RuleBooks$Rule", tb_2 195 rfl rfl, Or.inl rfl⟩⟩
set_option maxRecDepth 100000 in
theorem gf_Rule_29 : GF "RuleBooks$Rule" 29 5 2 := ⟨by decide, by decide, Or.inl ⟨"RuleBooks$Rule", tb_2 197 rfl rfl, Or.inl rfl⟩⟩
set_option maxRecDepth 100000 in
theorem gf_Rule_32 : GF "RuleBooks$Rule" 32 5 3 := ⟨by decide, by decide, Or.inl ⟨"RuleBooks$Rule", tb_2 198 rfl rfl, Or.inl rfl⟩⟩
set_option maxRecDepth 100000 in
theorem gf_Rule_12 : GF "RuleBooks$Rule" 12 5 4 := ⟨by decide, by decide, Or.inl ⟨"RuleBooks$Rule", tb_2 199 rfl rfl, Or.inl rfl⟩⟩
set_option maxRecDepth 100000 in
theorem gf_Rule_39 : GF "RuleBooks$Rule" 39 5 5 := ⟨by decide, by decide, Or.inl ⟨"RuleBooks$Rule", tb_2 202 rfl rfl, Or.inl rfl⟩⟩
set_option maxRecDepth 100000 in
theorem gf_Rule_18 : GF "RuleBooks$Rule" 18 5 6 := ⟨by decide, by decide, Or.inl ⟨"RuleBooks$Rule", tb_2 204 rfl rfl, Or.inl rfl⟩⟩
set_option maxRecDepth 100000 in
theorem ob_Rule_3 : Cond.methodLink "RuleBooks$Rule" 3 objectInit ∈ TB ∧ Cond.instanceMethod objectInit ∈ TB ∧ Cond.code objectInit ⟨#[0xb1]⟩ 1 none ∈ TB := ⟨tb_2 189 rfl rfl, tb_1 29 rfl rfl, tb_1 30 rfl rfl⟩
set_option maxRecDepth 100000 in
theorem ci_Rule_11 : CI "RuleBooks$Rule" 11 mAL_init 0 := ⟨cb_AL_init, rfl, rfl, tb_1 52 rfl rfl, Or.inl (tb_2 191 rfl rfl)⟩
set_option maxRecDepth 100000 in
theorem cv_Rule_35 : CV "RuleBooks$Rule" 35 13 mAL_size 0 := ⟨cb_AL_size, by decide, rfl, tb_2 28 rfl rfl, tb_2 29 rfl rfl, Or.inl (tb_3 22 rfl rfl)⟩
set_option maxRecDepth 100000 in
theorem nw_Rule_9 : NW "RuleBooks$Rule" 9 13 := ⟨by decide, tb_2 190 rfl rfl, tb_1 50 rfl rfl, tb_1 5 rfl rfl⟩
set_option maxRecDepth 100000 in
theorem gf_Run_67 : GF "RuleBooks$Runner" 67 10 3 := ⟨by decide, by decide, Or.inr ⟨"RuleBooks", nt_1 146 rfl rfl⟩⟩
set_option maxRecDepth 100000 in
theorem gf_Run_154 : GF "RuleBooks$Runner" 154 3 0 := ⟨by decide, by decide, Or.inr ⟨"RuleBooks", nt_1 163 rfl rfl⟩⟩
set_option maxRecDepth 100000 in
theorem gf_Run_24 : GF "RuleBooks$Runner" 24 6 0 := ⟨by decide, by decide, Or.inl ⟨"RuleBooks$Runner", tb_1 170 rfl rfl, Or.inl rfl⟩⟩
set_option maxRecDepth 100000 in
theorem gf_Run_28 : GF "RuleBooks$Runner" 28 6 1 := ⟨by decide, by decide, Or.inl ⟨"RuleBooks$Runner", tb_1 171 rfl rfl, Or.inl rfl⟩⟩
set_option maxRecDepth 100000 in
theorem gf_Run_32 : GF "RuleBooks$Runner" 32 6 2 := ⟨by decide, by decide, Or.inl ⟨"RuleBooks$Runner", tb_1 172 rfl rfl, Or.inl rfl⟩⟩
set_option maxRecDepth 100000 in
theorem gf_Run_11 : GF "RuleBooks$Runner" 11 6 3 := ⟨by decide, by decide, Or.inl ⟨"RuleBooks$Runner", tb_1 173 rfl rfl, Or.inl rfl⟩⟩
set_option maxRecDepth 100000 in
theorem gf_Run_20 : GF "RuleBooks$Runner" 20 6 4 := ⟨by decide, by decide, Or.inl ⟨"RuleBooks$Runner", tb_1 174 rfl rfl, Or.inl rfl⟩⟩
set_option maxRecDepth 100000 in
theorem gf_Run_70 : GF "RuleBooks$Runner" 70 6 5 := ⟨by decide, by decide, Or.inl ⟨"RuleBooks$Runner", tb_1 176 rfl rfl, Or.inl rfl⟩⟩
set_option maxRecDepth 100000 in
theorem gf_Run_73 : GF "RuleBooks$Runner" 73 6 6 := ⟨by decide, by decide, Or.inl ⟨"RuleBooks$Runner", tb_1 178 rfl rfl, Or.inl rfl⟩⟩
set_option maxRecDepth 100000 in
theorem gf_Run_137 : GF "RuleBooks$Runner" 137 9 0 := ⟨by decide, by decide, Or.inr ⟨"RuleBooks", nt_2 38 rfl rfl⟩⟩
set_option maxRecDepth 100000 in
theorem gf_Run_148 : GF "RuleBooks$Runner" 148 9 1 := ⟨by decide, by decide, Or.inr ⟨"RuleBooks", nt_2 42 rfl rfl⟩⟩
set_option maxRecDepth 100000 in
theorem gf_Run_52 : GF "RuleBooks$Runner" 52 0 0 := ⟨by decide, by decide, Or.inr ⟨"RuleBooks", nt_2 152 rfl rfl⟩⟩
set_option maxRecDepth 100000 in
theorem gf_Run_76 : GF "RuleBooks$Runner" 76 0 1 := ⟨by decide, by decide, Or.inr ⟨"RuleBooks", nt_2 154 rfl rfl⟩⟩
set_option maxRecDepth 100000 in
theorem gf_Run_84 : GF "RuleBooks$Runner" 84 0 4 := ⟨by decide, by decide, Or.inr ⟨"RuleBooks", nt_2 159 rfl rfl⟩⟩
set_option maxRecDepth 100000 in
theorem gf_Run_107 : GF "RuleBooks$Runner" 107 5 0 := ⟨by decide, by decide, Or.inr ⟨"RuleBooks", nt_2 193 rfl rfl⟩⟩
set_option maxRecDepth 100000 in
theorem gf_Run_100 : GF "RuleBooks$Runner" 100 5 4 := ⟨by decide, by decide, Or.inr ⟨"RuleBooks", nt_2 200 rfl rfl⟩⟩
set_option maxRecDepth 100000 in
theorem gf_Run_172 : GF "RuleBooks$Runner" 172 5 6 := ⟨by decide, by decide, Or.inr ⟨"RuleBooks", nt_2 205 rfl rfl⟩⟩
set_option maxRecDepth 100000 in
theorem gf_Run_166 : GF "RuleBooks$Runner" 166 5 7 := ⟨by decide, by decide, Or.inr ⟨"RuleBooks", nt_2 207 rfl rfl⟩⟩
set_option maxRecDepth 100000 in
theorem gf_Run_169 : GF "RuleBooks$Runner" 169 5 8 := ⟨by decide, by decide, Or.inr ⟨"RuleBooks", nt_2 209 rfl rfl⟩⟩
set_option maxRecDepth 100000 in
theorem gf_Run_134 : GF "RuleBooks$Runner" 134 1 0 := ⟨by decide, by decide, Or.inr ⟨"RuleBooks", nt_3 78 rfl rfl⟩⟩
set_option maxRecDepth 100000 in
theorem gf_Run_127 : GF "RuleBooks$Runner" 127 1 1 := ⟨by decide, by decide, Or.inr ⟨"RuleBooks", nt_3 80 rfl rfl⟩⟩
set_option maxRecDepth 100000 in
theorem gf_Run_131 : GF "RuleBooks$Runner" 131 1 2 := ⟨by decide, by decide, Or.inr ⟨"RuleBooks", nt_3 82 rfl rfl⟩⟩
set_option maxRecDepth 100000 in
theorem gf_Run_151 : GF "RuleBooks$Runner" 151 1 3 := ⟨by decide, by decide, Or.inr ⟨"RuleBooks", nt_3 84 rfl rfl⟩⟩
set_option maxRecDepth 100000 in
theorem ob_Run_3 : Cond.methodLink "RuleBooks$Runner" 3 objectInit ∈ TB ∧ Cond.instanceMethod objectInit ∈ TB ∧ Cond.code objectInit ⟨#[0xb1]⟩ 1 none ∈ TB := ⟨tb_1 133 rfl rfl, tb_1 29 rfl rfl, tb_1 30 rfl rfl⟩
set_option maxRecDepth 100000 in
theorem ci_Run_19 : CI "RuleBooks$Runner" 19 mTrc_init 0 := ⟨cb_Trc_init, rfl, rfl, tb_1 139 rfl rfl, Or.inr ⟨"RuleBooks", nt_1 138 rfl rfl⟩⟩
set_option maxRecDepth 100000 in
theorem ci_Run_36 : CI "RuleBooks$Runner" 36 mOwn_init 0 := ⟨cb_Own_init, rfl, rfl, tb_1 159 rfl rfl, Or.inr ⟨"RuleBooks", nt_1 158 rfl rfl⟩⟩
set_option maxRecDepth 100000 in
theorem cv_Run_37 : CV "RuleBooks$Runner" 37 6 mRun_startCall 0 := ⟨cb_Run_startCall, by decide, rfl, tb_3 130 rfl rfl, tb_at 12 rfl rfl, Or.inl (tb_3 128 rfl rfl)⟩
set_option maxRecDepth 100000 in
theorem cv_Run_40 : CV "RuleBooks$Runner" 40 6 mRun_outcomeOf 3 := ⟨cb_Run_outcomeOf, by decide, rfl, tb_3 134 rfl rfl, tb_at 13 rfl rfl, Or.inl (tb_3 132 rfl rfl)⟩
set_option maxRecDepth 100000 in
theorem cv_Run_80 : CV "RuleBooks$Runner" 80 3 mOwn_startWith 1 := ⟨cb_Own_startWith, by decide, rfl, tb_3 137 rfl rfl, tb_3 138 rfl rfl, Or.inl (tb_3 136 rfl rfl)⟩
set_option maxRecDepth 100000 in
theorem cv_Run_58 : CV "RuleBooks$Runner" 58 13 mAL_size 0 := ⟨cb_AL_size, by decide, rfl, tb_2 28 rfl rfl, tb_2 29 rfl rfl, Or.inl (tb_3 141 rfl rfl)⟩
set_option maxRecDepth 100000 in
theorem cv_Run_63 : CV "RuleBooks$Runner" 63 13 mAL_get 1 := ⟨cb_AL_get, by decide, rfl, tb_2 119 rfl rfl, tb_2 120 rfl rfl, Or.inl (tb_3 142 rfl rfl)⟩
set_option maxRecDepth 100000 in
theorem cv_Run_89 : CV "RuleBooks$Runner" 89 6 mRun_lookAt 4 := ⟨cb_Run_lookAt, by decide, rfl, tb_3 146 rfl rfl, tb_at 14 rfl rfl, Or.inl (tb_3 144 rfl rfl)⟩
set_option maxRecDepth 100000 in
theorem cv_Run_93 : CV "RuleBooks$Runner" 93 10 mTrc_isFull 0 := ⟨cb_Trc_isFull, by decide, rfl, tb_3 149 rfl rfl, tb_3 150 rfl rfl, Or.inl (tb_3 148 rfl rfl)⟩
set_option maxRecDepth 100000 in
theorem cv_Run_96 : CV "RuleBooks$Runner" 96 6 mRun_err 2 := ⟨cb_Run_err, by decide, rfl, tb_3 154 rfl rfl, tb_at 15 rfl rfl, Or.inl (tb_3 152 rfl rfl)⟩
set_option maxRecDepth 100000 in
theorem cv_Run_103 : CV "RuleBooks$Runner" 103 6 mRun_areAllSo 3 := ⟨cb_Run_areAllSo, by decide, rfl, tb_3 158 rfl rfl, tb_at 16 rfl rfl, Or.inl (tb_3 156 rfl rfl)⟩
set_option maxRecDepth 100000 in
theorem cv_Run_123 : CV "RuleBooks$Runner" 123 6 mRun_isSo 3 := ⟨cb_Run_isSo, by decide, rfl, tb_3 163 rfl rfl, tb_at 17 rfl rfl, Or.inl (tb_3 161 rfl rfl)⟩
set_option maxRecDepth 100000 in
theorem cv_Run_142 : CV "RuleBooks$Runner" 142 2 mKinds_isUnder 2 := ⟨cb_Kinds_isUnder, by decide, rfl, tb_2 17 rfl rfl, tb_2 18 rfl rfl, Or.inl (tb_3 165 rfl rfl)⟩
set_option maxRecDepth 100000 in
theorem cv_Run_157 : CV "RuleBooks$Runner" 157 8 mScs_isOn 1 := ⟨cb_Scs_isOn, by decide, rfl, tb_3 167 rfl rfl, tb_3 168 rfl rfl, Or.inl (tb_3 166 rfl rfl)⟩
set_option maxRecDepth 100000 in
theorem cv_Run_163 : CV "RuleBooks$Runner" 163 3 mOwn_hasApplied 1 := ⟨cb_Own_hasApplied, by decide, rfl, tb_3 173 rfl rfl, tb_3 174 rfl rfl, Or.inl (tb_3 172 rfl rfl)⟩
set_option maxRecDepth 100000 in
theorem cv_Run_110 : CV "RuleBooks$Runner" 110 10 mTrc_add 3 := ⟨cb_Trc_add, by decide, rfl, tb_3 177 rfl rfl, tb_3 178 rfl rfl, Or.inl (tb_3 176 rfl rfl)⟩
set_option maxRecDepth 100000 in
theorem cv_Run_114 : CV "RuleBooks$Runner" 114 3 mOwn_noteApplied 1 := ⟨cb_Own_noteApplied, by decide, rfl, tb_3 182 rfl rfl, tb_3 183 rfl rfl, Or.inl (tb_3 181 rfl rfl)⟩
set_option maxRecDepth 100000 in
theorem cv_Run_118 : CV "RuleBooks$Runner" 118 6 mRun_perform 4 := ⟨cb_Run_perform, by decide, rfl, tb_3 187 rfl rfl, tb_at 18 rfl rfl, Or.inl (tb_3 185 rfl rfl)⟩
set_option maxRecDepth 100000 in
theorem cv_Run_175 : CV "RuleBooks$Runner" 175 6 mRun_goToBook 3 := ⟨cb_Run_goToBook, by decide, rfl, tb_3 191 rfl rfl, tb_at 19 rfl rfl, Or.inl (tb_3 189 rfl rfl)⟩
set_option maxRecDepth 100000 in
theorem cv_Run_44 : CV "RuleBooks$Runner" 44 6 mRun_hasErred 0 := ⟨cb_Run_hasErred, by decide, rfl, tb_3 196 rfl rfl, tb_at 20 rfl rfl, Or.inl (tb_3 194 rfl rfl)⟩
set_option maxRecDepth 100000 in
theorem cv_Run_48 : CV "RuleBooks$Runner" 48 6 mRun_errAnswer 0 := ⟨cb_Run_errAnswer, by decide, rfl, tb_3 200 rfl rfl, tb_at 21 rfl rfl, Or.inl (tb_3 198 rfl rfl)⟩
set_option maxRecDepth 100000 in
theorem nw_Run_9 : NW "RuleBooks$Runner" 9 3 := ⟨by decide, tb_1 134 rfl rfl, tb_1 157 rfl rfl, tb_1 10 rfl rfl⟩
set_option maxRecDepth 100000 in
theorem nw_Run_17 : NW "RuleBooks$Runner" 17 10 := ⟨by decide, tb_1 136 rfl rfl, tb_1 137 rfl rfl, tb_1 9 rfl rfl⟩
set_option maxRecDepth 100000 in
theorem nw_Run_87 : NW "RuleBooks$Runner" 87 5 := ⟨by decide, tb_3 143 rfl rfl, tb_2 185 rfl rfl, tb_1 20 rfl rfl⟩
set_option maxRecDepth 100000 in
theorem nw_Run_121 : NW "RuleBooks$Runner" 121 1 := ⟨by decide, tb_3 160 rfl rfl, tb_3 72 rfl rfl, tb_1 21 rfl rfl⟩
set_option maxRecDepth 100000 in
theorem nw_Run_53 : NW "RuleBooks$Runner" 53 0 := ⟨by decide, tb_3 193 rfl rfl, tb_2 144 rfl rfl, tb_1 19 rfl rfl⟩
set_option maxRecDepth 100000 in
theorem gf_Scene_18 : GF "RuleBooks$Scene" 18 7 0 := ⟨by decide, by decide, Or.inl ⟨"RuleBooks$Scene", tb_4 36 rfl rfl, Or.inl rfl⟩⟩
set_option maxRecDepth 100000 in
theorem gf_Scene_9 : GF "RuleBooks$Scene" 9 7 3 := ⟨by decide, by decide, Or.inl ⟨"RuleBooks$Scene", tb_4 40 rfl rfl, Or.inl rfl⟩⟩
set_option maxRecDepth 100000 in
theorem gf_Scene_15 : GF "RuleBooks$Scene" 15 7 4 := ⟨by decide, by decide, Or.inl ⟨"RuleBooks$Scene", tb_4 42 rfl rfl, Or.inl rfl⟩⟩
set_option maxRecDepth 100000 in
theorem ob_Scene_3 : Cond.methodLink "RuleBooks$Scene" 3 objectInit ∈ TB ∧ Cond.instanceMethod objectInit ∈ TB ∧ Cond.code objectInit ⟨#[0xb1]⟩ 1 none ∈ TB := ⟨tb_4 35 rfl rfl, tb_1 29 rfl rfl, tb_1 30 rfl rfl⟩
set_option maxRecDepth 100000 in
theorem gf_Scs_22 : GF "RuleBooks$Scenes" 22 8 0 := ⟨by decide, by decide, Or.inl ⟨"RuleBooks$Scenes", tb_1 85 rfl rfl, Or.inl rfl⟩⟩
set_option maxRecDepth 100000 in
theorem gf_Scs_12 : GF "RuleBooks$Scenes" 12 8 1 := ⟨by decide, by decide, Or.inl ⟨"RuleBooks$Scenes", tb_1 86 rfl rfl, Or.inl rfl⟩⟩
set_option maxRecDepth 100000 in
theorem gf_Scs_18 : GF "RuleBooks$Scenes" 18 8 2 := ⟨by decide, by decide, Or.inl ⟨"RuleBooks$Scenes", tb_1 88 rfl rfl, Or.inl rfl⟩⟩
set_option maxRecDepth 100000 in
theorem gf_Scs_67 : GF "RuleBooks$Scenes" 67 8 3 := ⟨by decide, by decide, Or.inl ⟨"RuleBooks$Scenes", tb_1 90 rfl rfl, Or.inl rfl⟩⟩
set_option maxRecDepth 100000 in
theorem gf_Scs_64 : GF "RuleBooks$Scenes" 64 8 4 := ⟨by decide, by decide, Or.inl ⟨"RuleBooks$Scenes", tb_1 92 rfl rfl, Or.inl rfl⟩⟩
set_option maxRecDepth 100000 in
theorem gf_Scs_92 : GF "RuleBooks$Scenes" 92 9 1 := ⟨by decide, by decide, Or.inr ⟨"RuleBooks", nt_2 43 rfl rfl⟩⟩
set_option maxRecDepth 100000 in
theorem gf_Scs_87 : GF "RuleBooks$Scenes" 87 7 0 := ⟨by decide, by decide, Or.inr ⟨"RuleBooks", nt_4 37 rfl rfl⟩⟩
set_option maxRecDepth 100000 in
theorem gf_Scs_42 : GF "RuleBooks$Scenes" 42 7 1 := ⟨by decide, by decide, Or.inr ⟨"RuleBooks", nt_4 38 rfl rfl⟩⟩
set_option maxRecDepth 100000 in
theorem gf_Scs_46 : GF "RuleBooks$Scenes" 46 7 2 := ⟨by decide, by decide, Or.inr ⟨"RuleBooks", nt_4 39 rfl rfl⟩⟩
set_option maxRecDepth 100000 in
theorem gf_Scs_54 : GF "RuleBooks$Scenes" 54 7 3 := ⟨by decide, by decide, Or.inr ⟨"RuleBooks", nt_4 41 rfl rfl⟩⟩
set_option maxRecDepth 100000 in
theorem gf_Scs_57 : GF "RuleBooks$Scenes" 57 7 4 := ⟨by decide, by decide, Or.inr ⟨"RuleBooks", nt_4 43 rfl rfl⟩⟩
set_option maxRecDepth 100000 in
theorem ob_Scs_3 : Cond.methodLink "RuleBooks$Scenes" 3 objectInit ∈ TB ∧ Cond.instanceMethod objectInit ∈ TB ∧ Cond.code objectInit ⟨#[0xb1]⟩ 1 none ∈ TB := ⟨tb_1 82 rfl rfl, tb_1 29 rfl rfl, tb_1 30 rfl rfl⟩
set_option maxRecDepth 100000 in
theorem ci_Scs_11 : CI "RuleBooks$Scenes" 11 mAL_init 0 := ⟨cb_AL_init, rfl, rfl, tb_1 52 rfl rfl, Or.inl (tb_1 84 rfl rfl)⟩
set_option maxRecDepth 100000 in
theorem cv_Scs_25 : CV "RuleBooks$Scenes" 25 13 mAL_size 0 := ⟨cb_AL_size, by decide, rfl, tb_2 28 rfl rfl, tb_2 29 rfl rfl, Or.inl (tb_3 70 rfl rfl)⟩
set_option maxRecDepth 100000 in
theorem cv_Scs_38 : CV "RuleBooks$Scenes" 38 13 mAL_get 1 := ⟨cb_AL_get, by decide, rfl, tb_2 119 rfl rfl, tb_2 120 rfl rfl, Or.inl (tb_3 170 rfl rfl)⟩
set_option maxRecDepth 100000 in
theorem ci_Scs_31 : CI "RuleBooks$Scenes" 31 mScene_init 1 := ⟨cb_Scene_init, rfl, rfl, tb_4 33 rfl rfl, Or.inl (tb_4 32 rfl rfl)⟩
set_option maxRecDepth 100000 in
theorem cv_Scs_34 : CV "RuleBooks$Scenes" 34 13 mAL_add 1 := ⟨cb_AL_add, by decide, rfl, tb_2 50 rfl rfl, tb_2 51 rfl rfl, Or.inl (tb_4 55 rfl rfl)⟩
set_option maxRecDepth 100000 in
theorem cv_Scs_50 : CV "RuleBooks$Scenes" 50 8 mScs_has 1 := ⟨cb_Scs_has, by decide, rfl, tb_3 67 rfl rfl, tb_3 68 rfl rfl, Or.inl (tb_4 64 rfl rfl)⟩
set_option maxRecDepth 100000 in
theorem cs_Scs_60 : CS "RuleBooks$Scenes" 60 mScs_eventOf 2 := ⟨cb_Scs_eventOf, tb_4 70 rfl rfl, Or.inl (tb_4 69 rfl rfl)⟩
set_option maxRecDepth 100000 in
theorem cv_Scs_70 : CV "RuleBooks$Scenes" 70 8 mScs_goRound 0 := ⟨cb_Scs_goRound, by decide, rfl, tb_4 90 rfl rfl, tb_at 26 rfl rfl, Or.inl (tb_4 88 rfl rfl)⟩
set_option maxRecDepth 100000 in
theorem cv_Scs_73 : CV "RuleBooks$Scenes" 73 8 mScs_mayChange 2 := ⟨cb_Scs_mayChange, by decide, rfl, tb_4 94 rfl rfl, tb_at 27 rfl rfl, Or.inl (tb_4 92 rfl rfl)⟩
set_option maxRecDepth 100000 in
theorem cv_Scs_84 : CV "RuleBooks$Scenes" 84 8 mScs_wasInTurn 1 := ⟨cb_Scs_wasInTurn, by decide, rfl, tb_4 98 rfl rfl, tb_at 28 rfl rfl, Or.inl (tb_4 96 rfl rfl)⟩
set_option maxRecDepth 100000 in
theorem cv_Scs_77 : CV "RuleBooks$Scenes" 77 8 mScs_isMet 2 := ⟨cb_Scs_isMet, by decide, rfl, tb_4 102 rfl rfl, tb_at 29 rfl rfl, Or.inl (tb_4 100 rfl rfl)⟩
set_option maxRecDepth 100000 in
theorem cv_Scs_80 : CV "RuleBooks$Scenes" 80 8 mScs_change 2 := ⟨cb_Scs_change, by decide, rfl, tb_4 107 rfl rfl, tb_at 30 rfl rfl, Or.inl (tb_4 105 rfl rfl)⟩
set_option maxRecDepth 100000 in
theorem nw_Scs_9 : NW "RuleBooks$Scenes" 9 13 := ⟨by decide, tb_1 83 rfl rfl, tb_1 50 rfl rfl, tb_1 5 rfl rfl⟩
set_option maxRecDepth 100000 in
theorem nw_Scs_29 : NW "RuleBooks$Scenes" 29 7 := ⟨by decide, tb_3 171 rfl rfl, tb_4 31 rfl rfl, tb_1 22 rfl rfl⟩
set_option maxRecDepth 100000 in
theorem nw_Scs_90 : NW "RuleBooks$Scenes" 90 9 := ⟨by decide, tb_4 104 rfl rfl, tb_2 32 rfl rfl, tb_1 12 rfl rfl⟩
set_option maxRecDepth 100000 in
theorem gf_Subj_15 : GF "RuleBooks$Subject" 15 9 0 := ⟨by decide, by decide, Or.inl ⟨"RuleBooks$Subject", tb_2 37 rfl rfl, Or.inl rfl⟩⟩
set_option maxRecDepth 100000 in
theorem gf_Subj_9 : GF "RuleBooks$Subject" 9 9 1 := ⟨by decide, by decide, Or.inl ⟨"RuleBooks$Subject", tb_2 40 rfl rfl, Or.inl rfl⟩⟩
set_option maxRecDepth 100000 in
theorem ob_Subj_3 : Cond.methodLink "RuleBooks$Subject" 3 objectInit ∈ TB ∧ Cond.instanceMethod objectInit ∈ TB ∧ Cond.code objectInit ⟨#[0xb1]⟩ 1 none ∈ TB := ⟨tb_2 36 rfl rfl, tb_1 29 rfl rfl, tb_1 30 rfl rfl⟩
set_option maxRecDepth 100000 in
theorem gf_Trc_9 : GF "RuleBooks$Trace" 9 10 0 := ⟨by decide, by decide, Or.inl ⟨"RuleBooks$Trace", tb_1 142 rfl rfl, Or.inl rfl⟩⟩
set_option maxRecDepth 100000 in
theorem gf_Trc_15 : GF "RuleBooks$Trace" 15 10 1 := ⟨by decide, by decide, Or.inl ⟨"RuleBooks$Trace", tb_1 143 rfl rfl, Or.inl rfl⟩⟩
set_option maxRecDepth 100000 in
theorem gf_Trc_18 : GF "RuleBooks$Trace" 18 10 2 := ⟨by decide, by decide, Or.inl ⟨"RuleBooks$Trace", tb_1 144 rfl rfl, Or.inl rfl⟩⟩
set_option maxRecDepth 100000 in
theorem gf_Trc_21 : GF "RuleBooks$Trace" 21 10 3 := ⟨by decide, by decide, Or.inl ⟨"RuleBooks$Trace", tb_1 145 rfl rfl, Or.inl rfl⟩⟩
set_option maxRecDepth 100000 in
theorem ob_Trc_3 : Cond.methodLink "RuleBooks$Trace" 3 objectInit ∈ TB ∧ Cond.instanceMethod objectInit ∈ TB ∧ Cond.code objectInit ⟨#[0xb1]⟩ 1 none ∈ TB := ⟨tb_1 141 rfl rfl, tb_1 29 rfl rfl, tb_1 30 rfl rfl⟩
set_option maxRecDepth 100000 in
theorem cs_Trc_25 : CS "RuleBooks$Trace" 25 mX_asNumber 1 := ⟨cb_X_asNumber, tb_2 21 rfl rfl, Or.inr ⟨"RuleBooks", nt_3 180 rfl rfl⟩⟩
set_option maxRecDepth 100000 in
theorem gf_X_286 : GF "RuleBooks" 286 2 2 := ⟨by decide, by decide, Or.inr ⟨"RuleBooks", nt_1 40 rfl rfl⟩⟩
set_option maxRecDepth 100000 in
theorem gf_X_289 : GF "RuleBooks" 289 8 1 := ⟨by decide, by decide, Or.inr ⟨"RuleBooks", nt_1 87 rfl rfl⟩⟩
set_option maxRecDepth 100000 in
theorem gf_X_265 : GF "RuleBooks" 265 8 2 := ⟨by decide, by decide, Or.inr ⟨"RuleBooks", nt_1 89 rfl rfl⟩⟩
set_option maxRecDepth 100000 in
theorem gf_X_262 : GF "RuleBooks" 262 8 3 := ⟨by decide, by decide, Or.inr ⟨"RuleBooks", nt_1 91 rfl rfl⟩⟩
set_option maxRecDepth 100000 in
theorem gf_X_295 : GF "RuleBooks" 295 8 4 := ⟨by decide, by decide, Or.inr ⟨"RuleBooks", nt_1 93 rfl rfl⟩⟩
set_option maxRecDepth 100000 in
theorem gf_X_291 : GF "RuleBooks" 291 4 4 := ⟨by decide, by decide, Or.inr ⟨"RuleBooks", nt_1 116 rfl rfl⟩⟩
set_option maxRecDepth 100000 in
theorem gf_X_292 : GF "RuleBooks" 292 10 3 := ⟨by decide, by decide, Or.inr ⟨"RuleBooks", nt_1 147 rfl rfl⟩⟩
set_option maxRecDepth 100000 in
theorem gf_X_202 : GF "RuleBooks" 202 6 4 := ⟨by decide, by decide, Or.inr ⟨"RuleBooks", nt_1 175 rfl rfl⟩⟩
set_option maxRecDepth 100000 in
theorem gf_X_212 : GF "RuleBooks" 212 6 5 := ⟨by decide, by decide, Or.inr ⟨"RuleBooks", nt_1 177 rfl rfl⟩⟩
set_option maxRecDepth 100000 in
theorem gf_X_10 : GF "RuleBooks" 10 11 0 := ⟨by decide, by decide, Or.inl ⟨"RuleBooks", tb_1 194 rfl rfl, Or.inl rfl⟩⟩
set_option maxRecDepth 100000 in
theorem gf_X_19 : GF "RuleBooks" 19 11 1 := ⟨by decide, by decide, Or.inl ⟨"RuleBooks", tb_1 195 rfl rfl, Or.inl rfl⟩⟩
set_option maxRecDepth 100000 in
theorem gf_X_23 : GF "RuleBooks" 23 11 2 := ⟨by decide, by decide, Or.inl ⟨"RuleBooks", tb_1 196 rfl rfl, Or.inl rfl⟩⟩
set_option maxRecDepth 100000 in
theorem gf_X_26 : GF "RuleBooks" 26 11 3 := ⟨by decide, by decide, Or.inl ⟨"RuleBooks", tb_1 197 rfl rfl, Or.inl rfl⟩⟩
set_option maxRecDepth 100000 in
theorem gf_X_31 : GF "RuleBooks" 31 11 4 := ⟨by decide, by decide, Or.inl ⟨"RuleBooks", tb_1 198 rfl rfl, Or.inl rfl⟩⟩
set_option maxRecDepth 100000 in
theorem gf_X_219 : GF "RuleBooks" 219 11 5 := ⟨by decide, by decide, Or.inl ⟨"RuleBooks", tb_1 199 rfl rfl, Or.inl rfl⟩⟩
set_option maxRecDepth 100000 in
theorem gf_X_34 : GF "RuleBooks" 34 11 6 := ⟨by decide, by decide, Or.inl ⟨"RuleBooks", tb_1 200 rfl rfl, Or.inl rfl⟩⟩
set_option maxRecDepth 100000 in
theorem gf_X_232 : GF "RuleBooks" 232 11 7 := ⟨by decide, by decide, Or.inl ⟨"RuleBooks", tb_1 201 rfl rfl, Or.inl rfl⟩⟩
set_option maxRecDepth 100000 in
theorem gf_X_37 : GF "RuleBooks" 37 11 8 := ⟨by decide, by decide, Or.inl ⟨"RuleBooks", tb_1 202 rfl rfl, Or.inl rfl⟩⟩
set_option maxRecDepth 100000 in
theorem gf_X_41 : GF "RuleBooks" 41 11 9 := ⟨by decide, by decide, Or.inl ⟨"RuleBooks", tb_1 203 rfl rfl, Or.inl rfl⟩⟩
set_option maxRecDepth 100000 in
theorem gf_X_235 : GF "RuleBooks" 235 11 10 := ⟨by decide, by decide, Or.inl ⟨"RuleBooks", tb_1 204 rfl rfl, Or.inl rfl⟩⟩
set_option maxRecDepth 100000 in
theorem gf_X_49 : GF "RuleBooks" 49 11 11 := ⟨by decide, by decide, Or.inl ⟨"RuleBooks", tb_1 205 rfl rfl, Or.inl rfl⟩⟩
set_option maxRecDepth 100000 in
theorem gf_X_53 : GF "RuleBooks" 53 11 12 := ⟨by decide, by decide, Or.inl ⟨"RuleBooks", tb_1 206 rfl rfl, Or.inl rfl⟩⟩
set_option maxRecDepth 100000 in
theorem gf_X_62 : GF "RuleBooks" 62 11 13 := ⟨by decide, by decide, Or.inl ⟨"RuleBooks", tb_1 207 rfl rfl, Or.inl rfl⟩⟩
set_option maxRecDepth 100000 in
theorem gf_X_71 : GF "RuleBooks" 71 11 14 := ⟨by decide, by decide, Or.inl ⟨"RuleBooks", tb_1 208 rfl rfl, Or.inl rfl⟩⟩
set_option maxRecDepth 100000 in
theorem gf_X_280 : GF "RuleBooks" 280 9 0 := ⟨by decide, by decide, Or.inr ⟨"RuleBooks", nt_2 39 rfl rfl⟩⟩
set_option maxRecDepth 100000 in
theorem gf_X_110 : GF "RuleBooks" 110 9 1 := ⟨by decide, by decide, Or.inr ⟨"RuleBooks", nt_2 41 rfl rfl⟩⟩
set_option maxRecDepth 100000 in
theorem gf_X_120 : GF "RuleBooks" 120 0 1 := ⟨by decide, by decide, Or.inr ⟨"RuleBooks", nt_2 155 rfl rfl⟩⟩
set_option maxRecDepth 100000 in
theorem gf_X_191 : GF "RuleBooks" 191 0 4 := ⟨by decide, by decide, Or.inr ⟨"RuleBooks", nt_2 160 rfl rfl⟩⟩
set_option maxRecDepth 100000 in
theorem gf_X_132 : GF "RuleBooks" 132 5 0 := ⟨by decide, by decide, Or.inr ⟨"RuleBooks", nt_2 194 rfl rfl⟩⟩
set_option maxRecDepth 100000 in
theorem gf_X_157 : GF "RuleBooks" 157 5 1 := ⟨by decide, by decide, Or.inr ⟨"RuleBooks", nt_2 196 rfl rfl⟩⟩
set_option maxRecDepth 100000 in
theorem gf_X_143 : GF "RuleBooks" 143 5 4 := ⟨by decide, by decide, Or.inr ⟨"RuleBooks", nt_2 201 rfl rfl⟩⟩
set_option maxRecDepth 100000 in
theorem gf_X_151 : GF "RuleBooks" 151 5 5 := ⟨by decide, by decide, Or.inr ⟨"RuleBooks", nt_2 203 rfl rfl⟩⟩
set_option maxRecDepth 100000 in
theorem gf_X_169 : GF "RuleBooks" 169 5 6 := ⟨by decide, by decide, Or.inr ⟨"RuleBooks", nt_2 206 rfl rfl⟩⟩
set_option maxRecDepth 100000 in
theorem gf_X_172 : GF "RuleBooks" 172 5 7 := ⟨by decide, by decide, Or.inr ⟨"RuleBooks", nt_2 208 rfl rfl⟩⟩
set_option maxRecDepth 100000 in
theorem gf_X_175 : GF "RuleBooks" 175 5 8 := ⟨by decide, by decide, Or.inr ⟨"RuleBooks", nt_2 210 rfl rfl⟩⟩
set_option maxRecDepth 100000 in
theorem gf_X_181 : GF "RuleBooks" 181 5 9 := ⟨by decide, by decide, Or.inr ⟨"RuleBooks", nt_2 212 rfl rfl⟩⟩
set_option maxRecDepth 100000 in
theorem gf_X_184 : GF "RuleBooks" 184 5 10 := ⟨by decide, by decide, Or.inr ⟨"RuleBooks", nt_2 214 rfl rfl⟩⟩
set_option maxRecDepth 100000 in
theorem ob_X_1 : Cond.methodLink "RuleBooks" 1 objectInit ∈ TB ∧ Cond.instanceMethod objectInit ∈ TB ∧ Cond.code objectInit ⟨#[0xb1]⟩ 1 none ∈ TB := ⟨tb_1 28 rfl rfl, tb_1 29 rfl rfl, tb_1 30 rfl rfl⟩
set_option maxRecDepth 100000 in
theorem ci_X_9 : CI "RuleBooks" 9 mKinds_init 0 := ⟨cb_Kinds_init, rfl, rfl, tb_1 34 rfl rfl, Or.inr ⟨"RuleBooks", nt_1 33 rfl rfl⟩⟩
set_option maxRecDepth 100000 in
theorem ci_X_18 : CI "RuleBooks" 18 mAL_init 0 := ⟨cb_AL_init, rfl, rfl, tb_1 52 rfl rfl, Or.inl (tb_1 51 rfl rfl)⟩
set_option maxRecDepth 100000 in
theorem ci_X_46 : CI "RuleBooks" 46 mScs_init 1 := ⟨cb_Scs_init, rfl, rfl, tb_1 80 rfl rfl, Or.inl (tb_1 79 rfl rfl)⟩
set_option maxRecDepth 100000 in
theorem ci_X_59 : CI "RuleBooks" 59 mPhr_init 1 := ⟨cb_Phr_init, rfl, rfl, tb_1 108 rfl rfl, Or.inl (tb_1 107 rfl rfl)⟩
set_option maxRecDepth 100000 in
theorem ci_X_68 : CI "RuleBooks" 68 mRun_init 3 := ⟨cb_Run_init, rfl, rfl, tb_1 131 rfl rfl, Or.inl (tb_1 130 rfl rfl)⟩
set_option maxRecDepth 100000 in
theorem cv_X_75 : CV "RuleBooks" 75 2 mKinds_has 1 := ⟨cb_Kinds_has, by decide, rfl, tb_2 5 rfl rfl, tb_2 6 rfl rfl, Or.inl (tb_2 4 rfl rfl)⟩
set_option maxRecDepth 100000 in
theorem cv_X_79 : CV "RuleBooks" 79 2 mKinds_add 1 := ⟨cb_Kinds_add, by decide, rfl, tb_2 9 rfl rfl, tb_2 10 rfl rfl, Or.inl (tb_2 8 rfl rfl)⟩
set_option maxRecDepth 100000 in
theorem cv_X_83 : CV "RuleBooks" 83 2 mKinds_isUnder 2 := ⟨cb_Kinds_isUnder, by decide, rfl, tb_2 17 rfl rfl, tb_2 18 rfl rfl, Or.inl (tb_2 16 rfl rfl)⟩
set_option maxRecDepth 100000 in
theorem cs_X_87 : CS "RuleBooks" 87 mX_asNumber 1 := ⟨cb_X_asNumber, tb_2 21 rfl rfl, Or.inl (tb_2 20 rfl rfl)⟩
set_option maxRecDepth 100000 in
theorem cv_X_91 : CV "RuleBooks" 91 13 mAL_size 0 := ⟨cb_AL_size, by decide, rfl, tb_2 28 rfl rfl, tb_2 29 rfl rfl, Or.inl (tb_2 27 rfl rfl)⟩
set_option maxRecDepth 100000 in
theorem ci_X_97 : CI "RuleBooks" 97 mSubj_init 1 := ⟨cb_Subj_init, rfl, rfl, tb_2 34 rfl rfl, Or.inl (tb_2 33 rfl rfl)⟩
set_option maxRecDepth 100000 in
theorem cv_X_100 : CV "RuleBooks" 100 13 mAL_add 1 := ⟨cb_AL_add, by decide, rfl, tb_2 50 rfl rfl, tb_2 51 rfl rfl, Or.inl (tb_2 49 rfl rfl)⟩
set_option maxRecDepth 100000 in
theorem cv_X_103 : CV "RuleBooks" 103 11 mX_subjectAt 1 := ⟨cb_X_subjectAt, by decide, rfl, tb_2 116 rfl rfl, tb_at 3 rfl rfl, Or.inl (tb_2 114 rfl rfl)⟩
set_option maxRecDepth 100000 in
theorem cv_X_194 : CV "RuleBooks" 194 13 mAL_get 1 := ⟨cb_AL_get, by decide, rfl, tb_2 119 rfl rfl, tb_2 120 rfl rfl, Or.inl (tb_2 118 rfl rfl)⟩
set_option maxRecDepth 100000 in
theorem cs_X_107 : CS "RuleBooks" 107 mX_isSlot 1 := ⟨cb_X_isSlot, tb_2 133 rfl rfl, Or.inl (tb_2 132 rfl rfl)⟩
set_option maxRecDepth 100000 in
theorem ci_X_115 : CI "RuleBooks" 115 mBook_init 1 := ⟨cb_Book_init, rfl, rfl, tb_2 146 rfl rfl, Or.inl (tb_2 145 rfl rfl)⟩
set_option maxRecDepth 100000 in
theorem cv_X_116 : CV "RuleBooks" 116 11 mX_bookAt 1 := ⟨cb_X_bookAt, by decide, rfl, tb_2 178 rfl rfl, tb_at 4 rfl rfl, Or.inl (tb_2 176 rfl rfl)⟩
set_option maxRecDepth 100000 in
theorem ci_X_125 : CI "RuleBooks" 125 mRule_init 4 := ⟨cb_Rule_init, rfl, rfl, tb_2 187 rfl rfl, Or.inl (tb_2 186 rfl rfl)⟩
set_option maxRecDepth 100000 in
theorem cv_X_128 : CV "RuleBooks" 128 0 mBook_takeRule 1 := ⟨cb_Book_takeRule, by decide, rfl, tb_2 239 rfl rfl, tb_3 0 rfl rfl, Or.inl (tb_2 238 rfl rfl)⟩
set_option maxRecDepth 100000 in
theorem cv_X_135 : CV "RuleBooks" 135 11 mX_ruleAt 1 := ⟨cb_X_ruleAt, by decide, rfl, tb_3 60 rfl rfl, tb_at 9 rfl rfl, Or.inl (tb_3 58 rfl rfl)⟩
set_option maxRecDepth 100000 in
theorem cv_X_139 : CV "RuleBooks" 139 11 mX_isConditionOf 3 := ⟨cb_X_isConditionOf, by decide, rfl, tb_3 64 rfl rfl, tb_at 10 rfl rfl, Or.inl (tb_3 62 rfl rfl)⟩
set_option maxRecDepth 100000 in
theorem cv_X_164 : CV "RuleBooks" 164 8 mScs_has 1 := ⟨cb_Scs_has, by decide, rfl, tb_3 67 rfl rfl, tb_3 68 rfl rfl, Or.inl (tb_3 66 rfl rfl)⟩
set_option maxRecDepth 100000 in
theorem ci_X_148 : CI "RuleBooks" 148 mCond_init 3 := ⟨cb_Cond_init, rfl, rfl, tb_3 74 rfl rfl, Or.inl (tb_3 73 rfl rfl)⟩
set_option maxRecDepth 100000 in
theorem cv_X_154 : CV "RuleBooks" 154 2 mKinds_deepOf 1 := ⟨cb_Kinds_deepOf, by decide, rfl, tb_3 95 rfl rfl, tb_3 96 rfl rfl, Or.inl (tb_3 94 rfl rfl)⟩
set_option maxRecDepth 100000 in
theorem cv_X_161 : CV "RuleBooks" 161 0 mBook_arrangeRow 0 := ⟨cb_Book_arrangeRow, by decide, rfl, tb_3 4 rfl rfl, tb_3 5 rfl rfl, Or.inl (tb_3 98 rfl rfl)⟩
set_option maxRecDepth 100000 in
theorem cv_X_165 : CV "RuleBooks" 165 11 mX_isDeed 3 := ⟨cb_X_isDeed, by decide, rfl, tb_3 105 rfl rfl, tb_at 11 rfl rfl, Or.inl (tb_3 103 rfl rfl)⟩
set_option maxRecDepth 100000 in
theorem cs_X_178 : CS "RuleBooks" 178 mX_isAboutAnother 1 := ⟨cb_X_isAboutAnother, tb_3 40 rfl rfl, Or.inl (tb_3 111 rfl rfl)⟩
set_option maxRecDepth 100000 in
theorem cv_X_188 : CV "RuleBooks" 188 0 mBook_takeOrder 1 := ⟨cb_Book_takeOrder, by decide, rfl, tb_3 113 rfl rfl, tb_3 114 rfl rfl, Or.inl (tb_3 112 rfl rfl)⟩
set_option maxRecDepth 100000 in
theorem cv_X_198 : CV "RuleBooks" 198 6 mRun_answerOf 2 := ⟨cb_Run_answerOf, by decide, rfl, tb_3 125 rfl rfl, tb_3 126 rfl rfl, Or.inl (tb_3 124 rfl rfl)⟩
set_option maxRecDepth 100000 in
theorem cv_X_206 : CV "RuleBooks" 206 10 mTrc_at 2 := ⟨cb_Trc_at, by decide, rfl, tb_3 207 rfl rfl, tb_3 208 rfl rfl, Or.inl (tb_3 206 rfl rfl)⟩
set_option maxRecDepth 100000 in
theorem cv_X_215 : CV "RuleBooks" 215 11 mX_areBooksOrNone 1 := ⟨cb_X_areBooksOrNone, by decide, rfl, tb_3 220 rfl rfl, tb_at 22 rfl rfl, Or.inl (tb_3 218 rfl rfl)⟩
set_option maxRecDepth 100000 in
theorem cv_X_256 : CV "RuleBooks" 256 11 mX_isBookOrNone 1 := ⟨cb_X_isBookOrNone, by decide, rfl, tb_3 224 rfl rfl, tb_at 23 rfl rfl, Or.inl (tb_3 222 rfl rfl)⟩
set_option maxRecDepth 100000 in
theorem cy_X_222 : CY "RuleBooks" 222 := ⟨tb_3 226 rfl rfl, tb_2 107 rfl rfl, tb_2 106 rfl rfl, tb_1 16 rfl rfl⟩
set_option maxRecDepth 100000 in
theorem cv_X_228 : CV "RuleBooks" 228 6 mRun_answerOfStages 2 := ⟨cb_Run_answerOfStages, by decide, rfl, tb_3 232 rfl rfl, tb_3 233 rfl rfl, Or.inl (tb_3 231 rfl rfl)⟩
set_option maxRecDepth 100000 in
theorem cv_X_238 : CV "RuleBooks" 238 11 mX_latestPart 1 := ⟨cb_X_latestPart, by decide, rfl, tb_4 9 rfl rfl, tb_at 24 rfl rfl, Or.inl (tb_4 7 rfl rfl)⟩
set_option maxRecDepth 100000 in
theorem cv_X_241 : CV "RuleBooks" 241 11 mX_latestSubject 0 := ⟨cb_X_latestSubject, by decide, rfl, tb_4 13 rfl rfl, tb_at 25 rfl rfl, Or.inl (tb_4 11 rfl rfl)⟩
set_option maxRecDepth 100000 in
theorem cv_X_245 : CV "RuleBooks" 245 8 mScs_add 1 := ⟨cb_Scs_add, by decide, rfl, tb_4 28 rfl rfl, tb_4 29 rfl rfl, Or.inl (tb_4 27 rfl rfl)⟩
set_option maxRecDepth 100000 in
theorem cv_X_247 : CV "RuleBooks" 247 8 mScs_isAnchor 2 := ⟨cb_Scs_isAnchor, by decide, rfl, tb_4 61 rfl rfl, tb_4 62 rfl rfl, Or.inl (tb_4 60 rfl rfl)⟩
set_option maxRecDepth 100000 in
theorem cv_X_250 : CV "RuleBooks" 250 8 mScs_wouldRing 3 := ⟨cb_Scs_wouldRing, by decide, rfl, tb_4 66 rfl rfl, tb_4 67 rfl rfl, Or.inl (tb_4 65 rfl rfl)⟩
set_option maxRecDepth 100000 in
theorem cv_X_253 : CV "RuleBooks" 253 8 mScs_setAnchor 3 := ⟨cb_Scs_setAnchor, by decide, rfl, tb_4 73 rfl rfl, tb_4 74 rfl rfl, Or.inl (tb_4 72 rfl rfl)⟩
set_option maxRecDepth 100000 in
theorem cv_X_259 : CV "RuleBooks" 259 8 mScs_takeTurn 0 := ⟨cb_Scs_takeTurn, by decide, rfl, tb_4 85 rfl rfl, tb_4 86 rfl rfl, Or.inl (tb_4 84 rfl rfl)⟩
set_option maxRecDepth 100000 in
theorem cv_X_268 : CV "RuleBooks" 268 8 mScs_isOn 1 := ⟨cb_Scs_isOn, by decide, rfl, tb_3 167 rfl rfl, tb_3 168 rfl rfl, Or.inl (tb_4 117 rfl rfl)⟩
set_option maxRecDepth 100000 in
theorem cv_X_271 : CV "RuleBooks" 271 8 mScs_beganOften 1 := ⟨cb_Scs_beganOften, by decide, rfl, tb_4 119 rfl rfl, tb_4 120 rfl rfl, Or.inl (tb_4 118 rfl rfl)⟩
set_option maxRecDepth 100000 in
theorem cs_X_274 : CS "RuleBooks" 274 mX_isName 1 := ⟨cb_X_isName, tb_4 127 rfl rfl, Or.inl (tb_4 126 rfl rfl)⟩
set_option maxRecDepth 100000 in
theorem cv_X_277 : CV "RuleBooks" 277 4 mPhr_add 3 := ⟨cb_Phr_add, by decide, rfl, tb_4 130 rfl rfl, tb_4 131 rfl rfl, Or.inl (tb_4 129 rfl rfl)⟩
set_option maxRecDepth 100000 in
theorem cv_X_283 : CV "RuleBooks" 283 4 mPhr_mostSpecial 3 := ⟨cb_Phr_mostSpecial, by decide, rfl, tb_4 142 rfl rfl, tb_4 143 rfl rfl, Or.inl (tb_4 141 rfl rfl)⟩
set_option maxRecDepth 100000 in
theorem nw_X_7 : NW "RuleBooks" 7 2 := ⟨by decide, tb_1 31 rfl rfl, tb_1 32 rfl rfl, tb_1 2 rfl rfl⟩
set_option maxRecDepth 100000 in
theorem nw_X_16 : NW "RuleBooks" 16 13 := ⟨by decide, tb_1 49 rfl rfl, tb_1 50 rfl rfl, tb_1 5 rfl rfl⟩
set_option maxRecDepth 100000 in
theorem cl_X_29 : Cond.classLink "RuleBooks" 29 "[[I" ∈ TB := tb_1 75 rfl rfl
set_option maxRecDepth 100000 in
theorem nw_X_44 : NW "RuleBooks" 44 8 := ⟨by decide, tb_1 77 rfl rfl, tb_1 78 rfl rfl, tb_1 6 rfl rfl⟩
set_option maxRecDepth 100000 in
theorem nw_X_57 : NW "RuleBooks" 57 4 := ⟨by decide, tb_1 105 rfl rfl, tb_1 106 rfl rfl, tb_1 7 rfl rfl⟩
set_option maxRecDepth 100000 in
theorem nw_X_66 : NW "RuleBooks" 66 6 := ⟨by decide, tb_1 128 rfl rfl, tb_1 129 rfl rfl, tb_1 8 rfl rfl⟩
set_option maxRecDepth 100000 in
theorem nw_X_95 : NW "RuleBooks" 95 9 := ⟨by decide, tb_2 31 rfl rfl, tb_2 32 rfl rfl, tb_1 12 rfl rfl⟩
set_option maxRecDepth 100000 in
theorem nw_X_113 : NW "RuleBooks" 113 0 := ⟨by decide, tb_2 143 rfl rfl, tb_2 144 rfl rfl, tb_1 19 rfl rfl⟩
set_option maxRecDepth 100000 in
theorem nw_X_123 : NW "RuleBooks" 123 5 := ⟨by decide, tb_2 184 rfl rfl, tb_2 185 rfl rfl, tb_1 20 rfl rfl⟩
set_option maxRecDepth 100000 in
theorem nw_X_146 : NW "RuleBooks" 146 1 := ⟨by decide, tb_3 71 rfl rfl, tb_3 72 rfl rfl, tb_1 21 rfl rfl⟩
set_option maxRecDepth 100000 in
theorem ci_L_9 : CI "RuleBooksLaw" 9 mX_init 0 := ⟨cb_X_init, rfl, rfl, tb_1 26 rfl rfl, Or.inl (tb_1 25 rfl rfl)⟩
set_option maxRecDepth 100000 in
theorem cv_L_13 : CV "RuleBooksLaw" 13 11 mX_kind 1 := ⟨cb_X_kind, by decide, rfl, tb_2 1 rfl rfl, tb_2 2 rfl rfl, Or.inl (tb_2 0 rfl rfl)⟩
set_option maxRecDepth 100000 in
theorem cv_L_18 : CV "RuleBooksLaw" 18 11 mX_under 2 := ⟨cb_X_under, by decide, rfl, tb_2 13 rfl rfl, tb_2 14 rfl rfl, Or.inl (tb_2 12 rfl rfl)⟩
set_option maxRecDepth 100000 in
theorem cv_L_23 : CV "RuleBooksLaw" 23 11 mX_subject 1 := ⟨cb_X_subject, by decide, rfl, tb_2 24 rfl rfl, tb_2 25 rfl rfl, Or.inl (tb_2 23 rfl rfl)⟩
set_option maxRecDepth 100000 in
theorem cv_L_27 : CV "RuleBooksLaw" 27 11 mX_set 3 := ⟨cb_X_set, by decide, rfl, tb_2 111 rfl rfl, tb_2 112 rfl rfl, Or.inl (tb_2 110 rfl rfl)⟩
set_option maxRecDepth 100000 in
theorem cv_L_32 : CV "RuleBooksLaw" 32 11 mX_value 2 := ⟨cb_X_value, by decide, rfl, tb_2 136 rfl rfl, tb_2 137 rfl rfl, Or.inl (tb_2 135 rfl rfl)⟩
set_option maxRecDepth 100000 in
theorem cv_L_36 : CV "RuleBooksLaw" 36 11 mX_book 1 := ⟨cb_X_book, by decide, rfl, tb_2 140 rfl rfl, tb_2 141 rfl rfl, Or.inl (tb_2 139 rfl rfl)⟩
set_option maxRecDepth 100000 in
theorem cv_L_40 : CV "RuleBooksLaw" 40 11 mX_variable 3 := ⟨cb_X_variable, by decide, rfl, tb_2 173 rfl rfl, tb_2 174 rfl rfl, Or.inl (tb_2 172 rfl rfl)⟩
set_option maxRecDepth 100000 in
theorem cv_L_44 : CV "RuleBooksLaw" 44 11 mX_rule 3 := ⟨cb_X_rule, by decide, rfl, tb_2 181 rfl rfl, tb_2 182 rfl rfl, Or.inl (tb_2 180 rfl rfl)⟩
set_option maxRecDepth 100000 in
theorem cv_L_48 : CV "RuleBooksLaw" 48 11 mX_condition 4 := ⟨cb_X_condition, by decide, rfl, tb_3 55 rfl rfl, tb_3 56 rfl rfl, Or.inl (tb_3 54 rfl rfl)⟩
set_option maxRecDepth 100000 in
theorem cv_L_53 : CV "RuleBooksLaw" 53 11 mX_does 4 := ⟨cb_X_does, by decide, rfl, tb_3 100 rfl rfl, tb_3 101 rfl rfl, Or.inl (tb_3 99 rfl rfl)⟩
set_option maxRecDepth 100000 in
theorem cv_L_57 : CV "RuleBooksLaw" 57 11 mX_order 3 := ⟨cb_X_order, by decide, rfl, tb_3 108 rfl rfl, tb_3 109 rfl rfl, Or.inl (tb_3 107 rfl rfl)⟩
set_option maxRecDepth 100000 in
theorem cv_L_61 : CV "RuleBooksLaw" 61 11 mX_row 2 := ⟨cb_X_row, by decide, rfl, tb_3 117 rfl rfl, tb_3 118 rfl rfl, Or.inl (tb_3 116 rfl rfl)⟩
set_option maxRecDepth 100000 in
theorem cv_L_65 : CV "RuleBooksLaw" 65 11 mX_run 2 := ⟨cb_X_run, by decide, rfl, tb_3 121 rfl rfl, tb_3 122 rfl rfl, Or.inl (tb_3 120 rfl rfl)⟩
set_option maxRecDepth 100000 in
theorem cv_L_69 : CV "RuleBooksLaw" 69 11 mX_trace 2 := ⟨cb_X_trace, by decide, rfl, tb_3 203 rfl rfl, tb_3 204 rfl rfl, Or.inl (tb_3 202 rfl rfl)⟩
set_option maxRecDepth 100000 in
theorem cv_L_73 : CV "RuleBooksLaw" 73 11 mX_erred 0 := ⟨cb_X_erred, by decide, rfl, tb_3 211 rfl rfl, tb_3 212 rfl rfl, Or.inl (tb_3 210 rfl rfl)⟩
set_option maxRecDepth 100000 in
theorem cv_L_78 : CV "RuleBooksLaw" 78 11 mX_action 6 := ⟨cb_X_action, by decide, rfl, tb_3 215 rfl rfl, tb_3 216 rfl rfl, Or.inl (tb_3 214 rfl rfl)⟩
set_option maxRecDepth 100000 in
theorem cv_L_83 : CV "RuleBooksLaw" 83 11 mX_act 2 := ⟨cb_X_act, by decide, rfl, tb_3 228 rfl rfl, tb_3 229 rfl rfl, Or.inl (tb_3 227 rfl rfl)⟩
set_option maxRecDepth 100000 in
theorem cv_L_87 : CV "RuleBooksLaw" 87 11 mX_activity 3 := ⟨cb_X_activity, by decide, rfl, tb_3 236 rfl rfl, tb_3 237 rfl rfl, Or.inl (tb_3 235 rfl rfl)⟩
set_option maxRecDepth 100000 in
theorem cv_L_91 : CV "RuleBooksLaw" 91 11 mX_begin 2 := ⟨cb_X_begin, by decide, rfl, tb_4 0 rfl rfl, tb_4 1 rfl rfl, Or.inl (tb_3 239 rfl rfl)⟩
set_option maxRecDepth 100000 in
theorem cv_L_95 : CV "RuleBooksLaw" 95 11 mX_middle 0 := ⟨cb_X_middle, by decide, rfl, tb_4 4 rfl rfl, tb_4 5 rfl rfl, Or.inl (tb_4 3 rfl rfl)⟩
set_option maxRecDepth 100000 in
theorem cv_L_99 : CV "RuleBooksLaw" 99 11 mX_finish 0 := ⟨cb_X_finish, by decide, rfl, tb_4 16 rfl rfl, tb_4 17 rfl rfl, Or.inl (tb_4 15 rfl rfl)⟩
set_option maxRecDepth 100000 in
theorem cv_L_103 : CV "RuleBooksLaw" 103 11 mX_abandon 0 := ⟨cb_X_abandon, by decide, rfl, tb_4 20 rfl rfl, tb_4 21 rfl rfl, Or.inl (tb_4 19 rfl rfl)⟩
set_option maxRecDepth 100000 in
theorem cv_L_107 : CV "RuleBooksLaw" 107 11 mX_scene 1 := ⟨cb_X_scene, by decide, rfl, tb_4 24 rfl rfl, tb_4 25 rfl rfl, Or.inl (tb_4 23 rfl rfl)⟩
set_option maxRecDepth 100000 in
theorem cv_L_111 : CV "RuleBooksLaw" 111 11 mX_anchor 4 := ⟨cb_X_anchor, by decide, rfl, tb_4 57 rfl rfl, tb_4 58 rfl rfl, Or.inl (tb_4 56 rfl rfl)⟩
set_option maxRecDepth 100000 in
theorem cv_L_115 : CV "RuleBooksLaw" 115 11 mX_everyTurn 1 := ⟨cb_X_everyTurn, by decide, rfl, tb_4 77 rfl rfl, tb_4 78 rfl rfl, Or.inl (tb_4 76 rfl rfl)⟩
set_option maxRecDepth 100000 in
theorem cv_L_119 : CV "RuleBooksLaw" 119 11 mX_turn 0 := ⟨cb_X_turn, by decide, rfl, tb_4 81 rfl rfl, tb_4 82 rfl rfl, Or.inl (tb_4 80 rfl rfl)⟩
set_option maxRecDepth 100000 in
theorem cv_L_123 : CV "RuleBooksLaw" 123 11 mX_event 1 := ⟨cb_X_event, by decide, rfl, tb_4 110 rfl rfl, tb_4 111 rfl rfl, Or.inl (tb_4 109 rfl rfl)⟩
set_option maxRecDepth 100000 in
theorem cv_L_127 : CV "RuleBooksLaw" 127 11 mX_happens 2 := ⟨cb_X_happens, by decide, rfl, tb_4 114 rfl rfl, tb_4 115 rfl rfl, Or.inl (tb_4 113 rfl rfl)⟩
set_option maxRecDepth 100000 in
theorem cv_L_131 : CV "RuleBooksLaw" 131 11 mX_phrase 3 := ⟨cb_X_phrase, by decide, rfl, tb_4 123 rfl rfl, tb_4 124 rfl rfl, Or.inl (tb_4 122 rfl rfl)⟩
set_option maxRecDepth 100000 in
theorem cv_L_135 : CV "RuleBooksLaw" 135 11 mX_choose 3 := ⟨cb_X_choose, by decide, rfl, tb_4 138 rfl rfl, tb_4 139 rfl rfl, Or.inl (tb_4 137 rfl rfl)⟩
set_option maxRecDepth 100000 in
theorem cv_L_139 : CV "RuleBooksLaw" 139 11 mX_count 1 := ⟨cb_X_count, by decide, rfl, tb_4 155 rfl rfl, tb_4 156 rfl rfl, Or.inl (tb_4 154 rfl rfl)⟩
set_option maxRecDepth 100000 in
theorem ci_L_12 : CI "RuleBooksLaw" 12 mM_init 0 := ⟨cb_M_init, rfl, rfl, tb_4 161 rfl rfl, Or.inl (tb_4 160 rfl rfl)⟩
set_option maxRecDepth 100000 in
theorem cv_L_17 : CV "RuleBooksLaw" 17 12 mM_kind 1 := ⟨cb_M_kind, by decide, rfl, tb_5 83 rfl rfl, tb_5 84 rfl rfl, Or.inl (tb_5 82 rfl rfl)⟩
set_option maxRecDepth 100000 in
theorem cv_L_22 : CV "RuleBooksLaw" 22 12 mM_under 2 := ⟨cb_M_under, by decide, rfl, tb_5 90 rfl rfl, tb_5 91 rfl rfl, Or.inl (tb_5 89 rfl rfl)⟩
set_option maxRecDepth 100000 in
theorem cv_L_26 : CV "RuleBooksLaw" 26 12 mM_subject 1 := ⟨cb_M_subject, by decide, rfl, tb_5 98 rfl rfl, tb_5 99 rfl rfl, Or.inl (tb_5 97 rfl rfl)⟩
set_option maxRecDepth 100000 in
theorem cv_L_31 : CV "RuleBooksLaw" 31 12 mM_set 3 := ⟨cb_M_set, by decide, rfl, tb_5 102 rfl rfl, tb_5 103 rfl rfl, Or.inl (tb_5 101 rfl rfl)⟩
set_option maxRecDepth 100000 in
theorem cv_L_35 : CV "RuleBooksLaw" 35 12 mM_value 2 := ⟨cb_M_value, by decide, rfl, tb_5 110 rfl rfl, tb_5 111 rfl rfl, Or.inl (tb_5 109 rfl rfl)⟩
set_option maxRecDepth 100000 in
theorem cv_L_39 : CV "RuleBooksLaw" 39 12 mM_book 1 := ⟨cb_M_book, by decide, rfl, tb_5 114 rfl rfl, tb_5 115 rfl rfl, Or.inl (tb_5 113 rfl rfl)⟩
set_option maxRecDepth 100000 in
theorem cv_L_43 : CV "RuleBooksLaw" 43 12 mM_variable 3 := ⟨cb_M_variable, by decide, rfl, tb_5 118 rfl rfl, tb_5 119 rfl rfl, Or.inl (tb_5 117 rfl rfl)⟩
set_option maxRecDepth 100000 in
theorem cv_L_47 : CV "RuleBooksLaw" 47 12 mM_rule 3 := ⟨cb_M_rule, by decide, rfl, tb_5 126 rfl rfl, tb_5 127 rfl rfl, Or.inl (tb_5 125 rfl rfl)⟩
set_option maxRecDepth 100000 in
theorem cv_L_52 : CV "RuleBooksLaw" 52 12 mM_condition 4 := ⟨cb_M_condition, by decide, rfl, tb_5 130 rfl rfl, tb_5 131 rfl rfl, Or.inl (tb_5 129 rfl rfl)⟩
set_option maxRecDepth 100000 in
theorem cv_L_56 : CV "RuleBooksLaw" 56 12 mM_does 4 := ⟨cb_M_does, by decide, rfl, tb_5 138 rfl rfl, tb_5 139 rfl rfl, Or.inl (tb_5 137 rfl rfl)⟩
set_option maxRecDepth 100000 in
theorem cv_L_60 : CV "RuleBooksLaw" 60 12 mM_order 3 := ⟨cb_M_order, by decide, rfl, tb_5 142 rfl rfl, tb_5 143 rfl rfl, Or.inl (tb_5 141 rfl rfl)⟩
set_option maxRecDepth 100000 in
theorem cv_L_64 : CV "RuleBooksLaw" 64 12 mM_row 2 := ⟨cb_M_row, by decide, rfl, tb_5 146 rfl rfl, tb_5 147 rfl rfl, Or.inl (tb_5 145 rfl rfl)⟩
set_option maxRecDepth 100000 in
theorem cv_L_68 : CV "RuleBooksLaw" 68 12 mM_run 2 := ⟨cb_M_run, by decide, rfl, tb_5 186 rfl rfl, tb_5 187 rfl rfl, Or.inl (tb_5 185 rfl rfl)⟩
set_option maxRecDepth 100000 in
theorem cv_L_72 : CV "RuleBooksLaw" 72 12 mM_trace 2 := ⟨cb_M_trace, by decide, rfl, tb_5 218 rfl rfl, tb_5 219 rfl rfl, Or.inl (tb_5 217 rfl rfl)⟩
set_option maxRecDepth 100000 in
theorem cv_L_77 : CV "RuleBooksLaw" 77 12 mM_erred 0 := ⟨cb_M_erred, by decide, rfl, tb_5 222 rfl rfl, tb_5 223 rfl rfl, Or.inl (tb_5 221 rfl rfl)⟩
set_option maxRecDepth 100000 in
theorem cv_L_82 : CV "RuleBooksLaw" 82 12 mM_action 6 := ⟨cb_M_action, by decide, rfl, tb_5 226 rfl rfl, tb_5 227 rfl rfl, Or.inl (tb_5 225 rfl rfl)⟩
set_option maxRecDepth 100000 in
theorem cv_L_86 : CV "RuleBooksLaw" 86 12 mM_act 2 := ⟨cb_M_act, by decide, rfl, tb_5 234 rfl rfl, tb_5 235 rfl rfl, Or.inl (tb_5 233 rfl rfl)⟩
set_option maxRecDepth 100000 in
theorem cv_L_90 : CV "RuleBooksLaw" 90 12 mM_activity 3 := ⟨cb_M_activity, by decide, rfl, tb_5 238 rfl rfl, tb_5 239 rfl rfl, Or.inl (tb_5 237 rfl rfl)⟩
set_option maxRecDepth 100000 in
theorem cv_L_94 : CV "RuleBooksLaw" 94 12 mM_begin 2 := ⟨cb_M_begin, by decide, rfl, tb_6 2 rfl rfl, tb_6 3 rfl rfl, Or.inl (tb_6 1 rfl rfl)⟩
set_option maxRecDepth 100000 in
theorem cv_L_98 : CV "RuleBooksLaw" 98 12 mM_middle 0 := ⟨cb_M_middle, by decide, rfl, tb_6 10 rfl rfl, tb_6 11 rfl rfl, Or.inl (tb_6 9 rfl rfl)⟩
set_option maxRecDepth 100000 in
theorem cv_L_102 : CV "RuleBooksLaw" 102 12 mM_finish 0 := ⟨cb_M_finish, by decide, rfl, tb_6 14 rfl rfl, tb_6 15 rfl rfl, Or.inl (tb_6 13 rfl rfl)⟩
set_option maxRecDepth 100000 in
theorem cv_L_106 : CV "RuleBooksLaw" 106 12 mM_abandon 0 := ⟨cb_M_abandon, by decide, rfl, tb_6 18 rfl rfl, tb_6 19 rfl rfl, Or.inl (tb_6 17 rfl rfl)⟩
set_option maxRecDepth 100000 in
theorem cv_L_110 : CV "RuleBooksLaw" 110 12 mM_scene 1 := ⟨cb_M_scene, by decide, rfl, tb_6 22 rfl rfl, tb_6 23 rfl rfl, Or.inl (tb_6 21 rfl rfl)⟩
set_option maxRecDepth 100000 in
theorem cv_L_114 : CV "RuleBooksLaw" 114 12 mM_anchor 4 := ⟨cb_M_anchor, by decide, rfl, tb_6 26 rfl rfl, tb_6 27 rfl rfl, Or.inl (tb_6 25 rfl rfl)⟩
set_option maxRecDepth 100000 in
theorem cv_L_118 : CV "RuleBooksLaw" 118 12 mM_everyTurn 1 := ⟨cb_M_everyTurn, by decide, rfl, tb_6 30 rfl rfl, tb_6 31 rfl rfl, Or.inl (tb_6 29 rfl rfl)⟩
set_option maxRecDepth 100000 in
theorem cv_L_122 : CV "RuleBooksLaw" 122 12 mM_turn 0 := ⟨cb_M_turn, by decide, rfl, tb_6 34 rfl rfl, tb_6 35 rfl rfl, Or.inl (tb_6 33 rfl rfl)⟩
set_option maxRecDepth 100000 in
theorem cv_L_126 : CV "RuleBooksLaw" 126 12 mM_event 1 := ⟨cb_M_event, by decide, rfl, tb_6 46 rfl rfl, tb_6 47 rfl rfl, Or.inl (tb_6 45 rfl rfl)⟩
set_option maxRecDepth 100000 in
theorem cv_L_130 : CV "RuleBooksLaw" 130 12 mM_happens 2 := ⟨cb_M_happens, by decide, rfl, tb_6 50 rfl rfl, tb_6 51 rfl rfl, Or.inl (tb_6 49 rfl rfl)⟩
set_option maxRecDepth 100000 in
theorem cv_L_134 : CV "RuleBooksLaw" 134 12 mM_phrase 3 := ⟨cb_M_phrase, by decide, rfl, tb_6 54 rfl rfl, tb_6 55 rfl rfl, Or.inl (tb_6 53 rfl rfl)⟩
set_option maxRecDepth 100000 in
theorem cv_L_138 : CV "RuleBooksLaw" 138 12 mM_choose 3 := ⟨cb_M_choose, by decide, rfl, tb_6 58 rfl rfl, tb_6 59 rfl rfl, Or.inl (tb_6 57 rfl rfl)⟩
set_option maxRecDepth 100000 in
theorem cv_L_142 : CV "RuleBooksLaw" 142 12 mM_count 1 := ⟨cb_M_count, by decide, rfl, tb_6 66 rfl rfl, tb_6 67 rfl rfl, Or.inl (tb_6 65 rfl rfl)⟩
set_option maxRecDepth 100000 in
theorem nw_L_7 : NW "RuleBooksLaw" 7 11 := ⟨by decide, tb_1 23 rfl rfl, tb_1 24 rfl rfl, tb_1 1 rfl rfl⟩
set_option maxRecDepth 100000 in
theorem nw_L_10 : NW "RuleBooksLaw" 10 12 := ⟨by decide, tb_4 158 rfl rfl, tb_4 159 rfl rfl, tb_1 11 rfl rfl⟩
