theorem wf_X8_60 : Cond.fieldLink RX8 60 "LawHoles$Search" "isKnown" "Z" ∈ gT := gU_2 55 rfl rfl
theorem wm_X3_1 : Cond.methodLink RX3 1 objectInit ∈ gT := gU_4 55 rfl rfl
theorem wi_objInit : Cond.instanceMethod objectInit ∈ gT := gU_1 34 rfl rfl
theorem wc_objInit : Cond.code objectInit ⟨#[0xb1]⟩ 1 none ∈ gT := gU_1 35 rfl rfl
theorem wf_X3_7 : Cond.fieldLink RX3 7 "LawHoles$Cure" "actNumber" "I" ∈ gT := gU_4 56 rfl rfl
theorem wf_X3_13 : Cond.fieldLink RX3 13 "LawHoles$Cure" "need" "LLawHoles$Clause;" ∈ gT := gU_4 58 rfl rfl
theorem wm_X5_66 : Cond.methodLink RX5 66 yX5_kind ∈ gT := gU_3 76 rfl rfl
theorem wf_X5_18 : Cond.fieldLink RX5 18 "LawHoles$Reader" "next" "I" ∈ gT := gU_1 155 rfl rfl
theorem wf_X5_12 : Cond.fieldLink RX5 12 "LawHoles$Reader" "tokens" "LLawHoles$Tokens;" ∈ gT := gU_1 154 rfl rfl
theorem wf_X5_56 : Cond.fieldLink RX5 56 "LawHoles$Tokens" "count" "I" ∈ gT := gU_1 113 rfl rfl
theorem wf_X5_59 : Cond.fieldLink RX5 59 "LawHoles$Tokens" "kinds" "[I" ∈ gT := gU_1 107 rfl rfl
theorem cf_X5_kind : Cf yX5_kind cX5_kind 1 (some .int) 0 := ⟨gU_3 63 rfl rfl, gU_1 2 rfl rfl, by decide +kernel, by decide +kernel, by decide +kernel⟩
theorem wi_X5_kind : Cond.instanceMethod yX5_kind ∈ gT := gU_3 61 rfl rfl
theorem ws_X5_kind : Cond.selects yX5_kind.cls yX5_kind yX5_kind ∈ gT := gU_3 62 rfl rfl
theorem wm_X5_70 : Cond.methodLink RX5 70 yX5_refuse ∈ gT := gU_3 72 rfl rfl
theorem wf_X5_43 : Cond.fieldLink RX5 43 "LawHoles$Reader" "fault" "I" ∈ gT := gU_1 162 rfl rfl
theorem wf_X5_46 : Cond.fieldLink RX5 46 "LawHoles$Reader" "faultPlace" "I" ∈ gT := gU_1 164 rfl rfl
theorem wf_X5_168 : Cond.fieldLink RX5 168 "LawHoles$Tokens" "places" "[I" ∈ gT := gU_1 109 rfl rfl
theorem cf_X5_refuse : Cf yX5_refuse cX5_refuse 2 (some .boolean) 1 := ⟨gU_3 75 rfl rfl, gU_1 2 rfl rfl, by decide +kernel, by decide +kernel, by decide +kernel⟩
theorem wi_X5_refuse : Cond.instanceMethod yX5_refuse ∈ gT := gU_3 74 rfl rfl
theorem ws_X5_refuse : Cond.selects yX5_refuse.cls yX5_refuse yX5_refuse ∈ gT := gT_of 6 (by decide +kernel) (by decide +kernel)
theorem wk_X5_74 : Cond.classLink RX5 74 RX1 ∈ gT := gU_3 166 rfl rfl
theorem wn_X1 : Cond.instantiable RX1 3 ∈ gT := gU_3 167 rfl rfl
theorem w0_X1 : Cond.initialized RX1 ∈ gT := gU_1 22 rfl rfl
theorem wf_X5_22 : Cond.fieldLink RX5 22 "LawHoles$Reader" "ops" "[I" ∈ gT := gU_1 156 rfl rfl
theorem wf_X5_26 : Cond.fieldLink RX5 26 "LawHoles$Reader" "length" "I" ∈ gT := gU_1 157 rfl rfl
theorem wm_X5_76 : Cond.methodLink RX5 76 yJ7_copyOf_59c91 ∈ gT := gU_3 168 rfl rfl
theorem wa_int : Cond.arrayClass .int ∈ gT := gU_1 125 rfl rfl
theorem wm_J7_304 : Cond.methodLink RJ7 304 yJ9_min_7cf53 ∈ gT := gU_3 178 rfl rfl
theorem wL_J7_304 : Cond.methodLink RJ7 304 Lib.Math.min.name ∈ gT := gU_3 178 rfl rfl
theorem wLs_mmin : Cond.static Lib.Math.min.name ∈ gT := gU_2 219 rfl rfl
theorem wi_Math : Cond.initialized "java/lang/Math" ∈ gT := gU_1 17 rfl rfl
theorem wLc_mmin : Cond.code Lib.Math.min.name Lib.Math.min.code 2 (some .int) ∈ gT := gU_2 220 rfl rfl
theorem wm_J7_150 : Cond.methodLink RJ7 150 arraycopyName ∈ gT := gU_3 179 rfl rfl
theorem wn_arraycopy : Cond.native arraycopyName ∈ gT := gU_3 181 rfl rfl
theorem ws_arraycopy : Cond.static arraycopyName ∈ gT := gU_3 180 rfl rfl
theorem wi_System : Cond.initialized "java/lang/System" ∈ gT := gU_1 24 rfl rfl
theorem cf_J7_copyOf_59c91 : Cf yJ7_copyOf_59c91 cJ7_copyOf_59c91 3 (some (.array .int)) 2 := ⟨gU_3 170 rfl rfl, gU_1 23 rfl rfl, by decide +kernel, by decide +kernel, by decide +kernel⟩
theorem ws_J7_copyOf_59c91 : Cond.static yJ7_copyOf_59c91 ∈ gT := gU_3 169 rfl rfl
theorem wm_X5_82 : Cond.methodLink RX5 82 yX1_init ∈ gT := gU_3 182 rfl rfl
theorem wm_X1_1 : Cond.methodLink RX1 1 objectInit ∈ gT := gU_3 185 rfl rfl
theorem wf_X1_7 : Cond.fieldLink RX1 7 "LawHoles$Clause" "kind" "I" ∈ gT := gU_3 186 rfl rfl
theorem wf_X1_13 : Cond.fieldLink RX1 13 "LawHoles$Clause" "first" "I" ∈ gT := gU_3 188 rfl rfl
theorem wf_X1_16 : Cond.fieldLink RX1 16 "LawHoles$Clause" "ops" "[I" ∈ gT := gU_3 190 rfl rfl
theorem cf_X1_init : Cf yX1_init cX1_init 4 none 3 := ⟨gU_3 184 rfl rfl, gU_1 22 rfl rfl, by decide +kernel, by decide +kernel, by decide +kernel⟩
theorem wi_X1_init : Cond.instanceMethod yX1_init ∈ gT := gU_3 183 rfl rfl
theorem wm_X5_112 : Cond.methodLink RX5 112 yX5_readEither ∈ gT := gU_4 12 rfl rfl
theorem wm_X5_158 : Cond.methodLink RX5 158 yX5_readClaim ∈ gT := gU_4 16 rfl rfl
theorem cf_X5_readClaim : Cf yX5_readClaim cX5_readClaim 4 (some .boolean) 1 := ⟨gU_4 19 rfl rfl, gU_1 2 rfl rfl, by decide +kernel, by decide +kernel, by decide +kernel⟩
theorem wi_X5_readClaim : Cond.instanceMethod yX5_readClaim ∈ gT := gU_4 18 rfl rfl
theorem ws_X5_readClaim : Cond.selects yX5_readClaim.cls yX5_readClaim yX5_readClaim ∈ gT := gT_of 20 (by decide +kernel) (by decide +kernel)
theorem wm_X5_147 : Cond.methodLink RX5 147 yX5_emit ∈ gT := gU_3 150 rfl rfl
theorem cf_X5_emit : Cf yX5_emit cX5_emit 3 none 2 := ⟨gU_3 153 rfl rfl, gU_1 2 rfl rfl, by decide +kernel, by decide +kernel, by decide +kernel⟩
theorem wi_X5_emit : Cond.instanceMethod yX5_emit ∈ gT := gU_3 152 rfl rfl
theorem ws_X5_emit : Cond.selects yX5_emit.cls yX5_emit yX5_emit ∈ gT := gT_of 13 (by decide +kernel) (by decide +kernel)
theorem cf_X5_readEither : Cf yX5_readEither cX5_readEither 5 (some .boolean) 1 := ⟨gU_4 15 rfl rfl, gU_1 2 rfl rfl, by decide +kernel, by decide +kernel, by decide +kernel⟩
theorem wi_X5_readEither : Cond.instanceMethod yX5_readEither ∈ gT := gU_4 14 rfl rfl
theorem ws_X5_readEither : Cond.selects yX5_readEither.cls yX5_readEither yX5_readEither ∈ gT := gT_of 19 (by decide +kernel) (by decide +kernel)
theorem wm_X5_161 : Cond.methodLink RX5 161 yX5_readOpened ∈ gT := gU_4 20 rfl rfl
theorem cf_X5_readOpened : Cf yX5_readOpened cX5_readOpened 3 (some .boolean) 2 := ⟨gU_4 23 rfl rfl, gU_1 2 rfl rfl, by decide +kernel, by decide +kernel, by decide +kernel⟩
theorem wi_X5_readOpened : Cond.instanceMethod yX5_readOpened ∈ gT := gU_4 22 rfl rfl
theorem ws_X5_readOpened : Cond.selects yX5_readOpened.cls yX5_readOpened yX5_readOpened ∈ gT := gT_of 21 (by decide +kernel) (by decide +kernel)
theorem wm_X5_151 : Cond.methodLink RX5 151 yX5_readSum ∈ gT := gU_3 154 rfl rfl
theorem wm_X5_165 : Cond.methodLink RX5 165 yX5_readOperand ∈ gT := gU_3 158 rfl rfl
theorem wm_X5_90 : Cond.methodLink RX5 90 yX5_value ∈ gT := gU_3 79 rfl rfl
theorem wf_X5_62 : Cond.fieldLink RX5 62 "LawHoles$Tokens" "values" "[J" ∈ gT := gU_1 111 rfl rfl
theorem cf_X5_value : Cf yX5_value cX5_value 1 (some .long) 0 := ⟨gU_3 82 rfl rfl, gU_1 2 rfl rfl, by decide +kernel, by decide +kernel, by decide +kernel⟩
theorem wi_X5_value : Cond.instanceMethod yX5_value ∈ gT := gU_3 81 rfl rfl
theorem ws_X5_value : Cond.selects yX5_value.cls yX5_value yX5_value ∈ gT := gT_of 7 (by decide +kernel) (by decide +kernel)
theorem wf_X5_33 : Cond.fieldLink RX5 33 "LawHoles$Reader" "thingStands" "Z" ∈ gT := gU_1 159 rfl rfl
theorem wm_X5_144 : Cond.methodLink RX5 144 yX5_readPersons ∈ gT := gU_3 142 rfl rfl
theorem wf_X5_29 : Cond.fieldLink RX5 29 "LawHoles$Reader" "otherStands" "Z" ∈ gT := gU_1 158 rfl rfl
theorem cf_X5_readPersons : Cf yX5_readPersons cX5_readPersons 3 (some .int) 1 := ⟨gU_3 145 rfl rfl, gU_1 2 rfl rfl, by decide +kernel, by decide +kernel, by decide +kernel⟩
theorem wi_X5_readPersons : Cond.instanceMethod yX5_readPersons ∈ gT := gU_3 144 rfl rfl
theorem ws_X5_readPersons : Cond.selects yX5_readPersons.cls yX5_readPersons yX5_readPersons ∈ gT := gT_of 11 (by decide +kernel) (by decide +kernel)
theorem cf_X5_readOperand : Cf yX5_readOperand cX5_readOperand 3 (some .boolean) 0 := ⟨gU_3 161 rfl rfl, gU_1 2 rfl rfl, by decide +kernel, by decide +kernel, by decide +kernel⟩
theorem wi_X5_readOperand : Cond.instanceMethod yX5_readOperand ∈ gT := gU_3 160 rfl rfl
theorem ws_X5_readOperand : Cond.selects yX5_readOperand.cls yX5_readOperand yX5_readOperand ∈ gT := gT_of 15 (by decide +kernel) (by decide +kernel)
theorem cf_X5_readSum : Cf yX5_readSum cX5_readSum 4 (some .boolean) 0 := ⟨gU_3 157 rfl rfl, gU_1 2 rfl rfl, by decide +kernel, by decide +kernel, by decide +kernel⟩
theorem wi_X5_readSum : Cond.instanceMethod yX5_readSum ∈ gT := gU_3 156 rfl rfl
theorem ws_X5_readSum : Cond.selects yX5_readSum.cls yX5_readSum yX5_readSum ∈ gT := gT_of 14 (by decide +kernel) (by decide +kernel)
theorem wm_X5_155 : Cond.methodLink RX5 155 yX5_isAtEnd ∈ gT := gU_4 43 rfl rfl
theorem cf_X5_isAtEnd : Cf yX5_isAtEnd cX5_isAtEnd 1 (some .boolean) 0 := ⟨gU_4 27 rfl rfl, gU_1 2 rfl rfl, by decide +kernel, by decide +kernel, by decide +kernel⟩
theorem wi_X5_isAtEnd : Cond.instanceMethod yX5_isAtEnd ∈ gT := gU_4 25 rfl rfl
theorem ws_X5_isAtEnd : Cond.selects yX5_isAtEnd.cls yX5_isAtEnd yX5_isAtEnd ∈ gT := gU_4 26 rfl rfl
theorem wf_X9_11 : Cond.fieldLink RX9 11 "LawHoles$State" "at" "[I" ∈ gT := gU_1 215 rfl rfl
theorem wm_X9_26 : Cond.methodLink RX9 26 arraycopyName ∈ gT := gU_4 111 rfl rfl
theorem wl_X10_79 : Cond.constantLong RX10 79 32 ∈ gT := gU_1 103 rfl rfl
theorem wl_X10_81 : Cond.constantLong RX10 81 97 ∈ gT := gU_1 104 rfl rfl
theorem wm_X11_73 : Cond.methodLink RX11 73 yX11_isWithin ∈ gT := gU_2 157 rfl rfl
theorem cf_X11_isWithin : Cf yX11_isWithin cX11_isWithin 2 (some .boolean) 2 := ⟨gU_2 159 rfl rfl, gU_1 1 rfl rfl, by decide +kernel, by decide +kernel, by decide +kernel⟩
theorem ws_X11_isWithin : Cond.static yX11_isWithin ∈ gT := gU_2 158 rfl rfl
theorem wf_X11_65 : Cond.fieldLink RX11 65 "LawHoles" "history" "LLawHoles$Row;" ∈ gT := gU_2 130 rfl rfl
theorem wm_X11_172 : Cond.methodLink RX11 172 yX7_add ∈ gT := gU_4 84 rfl rfl
theorem wf_X7_9 : Cond.fieldLink RX7 9 "LawHoles$Row" "count" "I" ∈ gT := gU_2 110 rfl rfl
theorem wf_X7_25 : Cond.fieldLink RX7 25 "LawHoles$Row" "codes" "[I" ∈ gT := gU_2 109 rfl rfl
theorem cf_X7_add : Cf yX7_add cX7_add 2 (some .int) 1 := ⟨gU_4 87 rfl rfl, gU_1 16 rfl rfl, by decide +kernel, by decide +kernel, by decide +kernel⟩
theorem wi_X7_add : Cond.instanceMethod yX7_add ∈ gT := gU_4 85 rfl rfl
theorem ws_X7_add : Cond.selects yX7_add.cls yX7_add yX7_add ∈ gT := gU_4 86 rfl rfl
theorem wf_X11_20 : Cond.fieldLink RX11 20 "LawHoles" "reader" "LLawHoles$Reader;" ∈ gT := gU_2 124 rfl rfl
theorem wf_X11_9 : Cond.fieldLink RX11 9 "LawHoles" "tape" "[I" ∈ gT := gU_2 122 rfl rfl
theorem wf_X11_13 : Cond.fieldLink RX11 13 "LawHoles" "tapeLength" "I" ∈ gT := gU_2 123 rfl rfl
theorem wm_X11_261 : Cond.methodLink RX11 261 yX5_open ∈ gT := gU_2 210 rfl rfl
theorem wm_X5_49 : Cond.methodLink RX5 49 yX10_read ∈ gT := gU_2 214 rfl rfl
theorem wf_X10_25 : Cond.fieldLink RX10 25 "LawHoles$Tokens" "count" "I" ∈ gT := gU_1 112 rfl rfl
theorem wm_X10_49 : Cond.methodLink RX10 49 yJ9_min_7cf53 ∈ gT := gU_2 218 rfl rfl
theorem wL_X10_49 : Cond.methodLink RX10 49 Lib.Math.min.name ∈ gT := gU_2 218 rfl rfl
theorem wm_X10_41 : Cond.methodLink RX10 41 yX10_isLetter ∈ gT := gU_1 97 rfl rfl
theorem cf_X10_isLetter : Cf yX10_isLetter cX10_isLetter 1 (some .boolean) 1 := ⟨gU_1 99 rfl rfl, gU_1 3 rfl rfl, by decide +kernel, by decide +kernel, by decide +kernel⟩
theorem ws_X10_isLetter : Cond.static yX10_isLetter ∈ gT := gU_1 98 rfl rfl
theorem wm_X10_59 : Cond.methodLink RX10 59 yX10_isDigit ∈ gT := gU_2 233 rfl rfl
theorem cf_X10_isDigit : Cf yX10_isDigit cX10_isDigit 1 (some .boolean) 1 := ⟨gU_2 235 rfl rfl, gU_1 3 rfl rfl, by decide +kernel, by decide +kernel, by decide +kernel⟩
theorem ws_X10_isDigit : Cond.static yX10_isDigit ∈ gT := gU_2 234 rfl rfl
theorem wm_X10_67 : Cond.methodLink RX10 67 yJ0_indexOf_0f7a4 ∈ gT := gU_3 1 rfl rfl
theorem cf_J0_indexOf_0f7a4 : Cf yJ0_indexOf_0f7a4 cJ0_indexOf_0f7a4 2 (some .int) 1 := ⟨gU_3 4 rfl rfl, gU_1 4 rfl rfl, by decide +kernel, by decide +kernel, by decide +kernel⟩
theorem wi_J0_indexOf_0f7a4 : Cond.instanceMethod yJ0_indexOf_0f7a4 ∈ gT := gU_3 2 rfl rfl
theorem ws_J0_indexOf_0f7a4 : Cond.selects yJ0_indexOf_0f7a4.cls yJ0_indexOf_0f7a4 yJ0_indexOf_0f7a4 ∈ gT := gU_3 3 rfl rfl
theorem wm_X10_71 : Cond.methodLink RX10 71 yX10_add ∈ gT := gU_2 229 rfl rfl
theorem wf_X10_15 : Cond.fieldLink RX10 15 "LawHoles$Tokens" "kinds" "[I" ∈ gT := gU_1 106 rfl rfl
theorem wf_X10_19 : Cond.fieldLink RX10 19 "LawHoles$Tokens" "places" "[I" ∈ gT := gU_1 108 rfl rfl
theorem wf_X10_22 : Cond.fieldLink RX10 22 "LawHoles$Tokens" "values" "[J" ∈ gT := gU_1 110 rfl rfl
theorem cf_X10_add : Cf yX10_add cX10_add 5 none 3 := ⟨gU_2 232 rfl rfl, gU_1 3 rfl rfl, by decide +kernel, by decide +kernel, by decide +kernel⟩
theorem wi_X10_add : Cond.instanceMethod yX10_add ∈ gT := gU_2 231 rfl rfl
theorem ws_X10_add : Cond.selects yX10_add.cls yX10_add yX10_add ∈ gT := gT_of 4 (by decide +kernel) (by decide +kernel)
theorem wm_X10_62 : Cond.methodLink RX10 62 yX10_readNumber ∈ gT := gU_2 236 rfl rfl
theorem cf_X10_readNumber : Cf yX10_readNumber cX10_readNumber 6 (some .int) 3 := ⟨gU_2 239 rfl rfl, gU_1 3 rfl rfl, by decide +kernel, by decide +kernel, by decide +kernel⟩
theorem wi_X10_readNumber : Cond.instanceMethod yX10_readNumber ∈ gT := gU_2 238 rfl rfl
theorem ws_X10_readNumber : Cond.selects yX10_readNumber.cls yX10_readNumber yX10_readNumber ∈ gT := gT_of 5 (by decide +kernel) (by decide +kernel)
theorem wm_X10_55 : Cond.methodLink RX10 55 yX10_readWord ∈ gT := gU_2 221 rfl rfl
theorem wm_X10_45 : Cond.methodLink RX10 45 yX10_withLetter ∈ gT := gU_1 100 rfl rfl
theorem cf_X10_withLetter : Cf yX10_withLetter cX10_withLetter 3 (some .long) 2 := ⟨gU_1 102 rfl rfl, gU_1 3 rfl rfl, by decide +kernel, by decide +kernel, by decide +kernel⟩
theorem ws_X10_withLetter : Cond.static yX10_withLetter ∈ gT := gU_1 101 rfl rfl
theorem wm_X10_75 : Cond.methodLink RX10 75 yX10_kindOfWord ∈ gT := gU_2 225 rfl rfl
theorem wf_X10_11 : Cond.fieldLink RX10 11 "LawHoles$Tokens" "words" "[J" ∈ gT := gU_1 105 rfl rfl
theorem cf_X10_kindOfWord : Cf yX10_kindOfWord cX10_kindOfWord 5 (some .int) 2 := ⟨gU_2 228 rfl rfl, gU_1 3 rfl rfl, by decide +kernel, by decide +kernel, by decide +kernel⟩
theorem wi_X10_kindOfWord : Cond.instanceMethod yX10_kindOfWord ∈ gT := gU_2 227 rfl rfl
theorem ws_X10_kindOfWord : Cond.selects yX10_kindOfWord.cls yX10_kindOfWord yX10_kindOfWord ∈ gT := gT_of 3 (by decide +kernel) (by decide +kernel)
theorem cf_X10_readWord : Cf yX10_readWord cX10_readWord 7 (some .int) 3 := ⟨gU_2 224 rfl rfl, gU_1 3 rfl rfl, by decide +kernel, by decide +kernel, by decide +kernel⟩
theorem wi_X10_readWord : Cond.instanceMethod yX10_readWord ∈ gT := gU_2 223 rfl rfl
theorem ws_X10_readWord : Cond.selects yX10_readWord.cls yX10_readWord yX10_readWord ∈ gT := gT_of 2 (by decide +kernel) (by decide +kernel)
theorem cf_X10_read : Cf yX10_read cX10_read 9 none 2 := ⟨gU_2 217 rfl rfl, gU_1 3 rfl rfl, by decide +kernel, by decide +kernel, by decide +kernel⟩
theorem wi_X10_read : Cond.instanceMethod yX10_read ∈ gT := gU_2 215 rfl rfl
theorem ws_X10_read : Cond.selects yX10_read.cls yX10_read yX10_read ∈ gT := gU_2 216 rfl rfl
theorem wf_X5_39 : Cond.fieldLink RX5 39 "LawHoles$Reader" "acts" "Ljava/util/ArrayList;" ∈ gT := gU_1 160 rfl rfl
theorem wm_X5_53 : Cond.methodLink RX5 53 yJx4a65c_clear_da8c8 ∈ gT := gU_3 56 rfl rfl
theorem wf_Jx4a65c_63 : Cond.fieldLink RJx4a65c 63 "java/util/ArrayList" "modCount" "I" ∈ gT := gU_1 145 rfl rfl
theorem wsf_mod : Cond.sameField "java/util/ArrayList" "java/util/AbstractList" "modCount" "I" ∈ gT := gU_1 146 rfl rfl
theorem wf_Jx4a65c_9 : Cond.fieldLink RJx4a65c 9 "java/util/ArrayList" "elementData" "[Ljava/lang/Object;" ∈ gT := gU_1 142 rfl rfl
theorem wf_Jx4a65c_48 : Cond.fieldLink RJx4a65c 48 "java/util/ArrayList" "size" "I" ∈ gT := gU_1 143 rfl rfl
theorem cf_Jx4a65c_clear_da8c8 : Cf yJx4a65c_clear_da8c8 cJx4a65c_clear_da8c8 4 none 0 := ⟨gU_3 59 rfl rfl, gU_1 10 rfl rfl, by decide +kernel, by decide +kernel, by decide +kernel⟩
theorem wi_Jx4a65c_clear_da8c8 : Cond.instanceMethod yJx4a65c_clear_da8c8 ∈ gT := gU_3 57 rfl rfl
theorem ws_Jx4a65c_clear_da8c8 : Cond.selects yJx4a65c_clear_da8c8.cls yJx4a65c_clear_da8c8 yJx4a65c_clear_da8c8 ∈ gT := gU_3 58 rfl rfl
theorem cf_X5_open : Cf yX5_open cX5_open 3 none 2 := ⟨gU_2 213 rfl rfl, gU_1 2 rfl rfl, by decide +kernel, by decide +kernel, by decide +kernel⟩
theorem wi_X5_open : Cond.instanceMethod yX5_open ∈ gT := gU_2 211 rfl rfl
theorem ws_X5_open : Cond.selects yX5_open.cls yX5_open yX5_open ∈ gT := gU_2 212 rfl rfl
theorem wf_X11_27 : Cond.fieldLink RX11 27 "LawHoles" "law" "LLawHoles$Law;" ∈ gT := gU_2 125 rfl rfl
theorem wf_X11_122 : Cond.fieldLink RX11 122 "LawHoles$Law" "nevers" "Ljava/util/ArrayList;" ∈ gT := gU_1 198 rfl rfl
theorem wm_X11_117 : Cond.methodLink RX11 117 yJx4a65c_size_8abf5 ∈ gT := gU_4 34 rfl rfl
theorem cf_Jx4a65c_size_8abf5 : Cf yJx4a65c_size_8abf5 cJx4a65c_size_8abf5 1 (some .int) 0 := ⟨gU_3 71 rfl rfl, gU_1 10 rfl rfl, by decide +kernel, by decide +kernel, by decide +kernel⟩
theorem wi_Jx4a65c_size_8abf5 : Cond.instanceMethod yJx4a65c_size_8abf5 ∈ gT := gU_3 69 rfl rfl
theorem ws_Jx4a65c_size_8abf5 : Cond.selects yJx4a65c_size_8abf5.cls yJx4a65c_size_8abf5 yJx4a65c_size_8abf5 ∈ gT := gU_3 70 rfl rfl
theorem wf_X6_26 : Cond.fieldLink RX6 26 "LawHoles$Reckoner" "b" "I" ∈ gT := gU_1 236 rfl rfl
theorem wf_X6_22 : Cond.fieldLink RX6 22 "LawHoles$Reckoner" "a" "I" ∈ gT := gU_1 235 rfl rfl
theorem wf_X8_64 : Cond.fieldLink RX8 64 "LawHoles$Search" "count" "I" ∈ gT := gU_2 56 rfl rfl
theorem wf_X8_22 : Cond.fieldLink RX8 22 "LawHoles$Search" "depths" "[I" ∈ gT := gU_2 43 rfl rfl
theorem wm_X11_69 : Cond.methodLink RX11 69 yX11_isPerson ∈ gT := gU_2 154 rfl rfl
theorem cf_X11_isPerson : Cf yX11_isPerson cX11_isPerson 1 (some .boolean) 1 := ⟨gU_2 156 rfl rfl, gU_1 1 rfl rfl, by decide +kernel, by decide +kernel, by decide +kernel⟩
theorem ws_X11_isPerson : Cond.static yX11_isPerson ∈ gT := gU_2 155 rfl rfl
theorem wf_X4_11 : Cond.fieldLink RX4 11 "LawHoles$Law" "acts" "[LLawHoles$Act;" ∈ gT := gU_1 195 rfl rfl
theorem wf_X8_12 : Cond.fieldLink RX8 12 "LawHoles$Search" "now" "LLawHoles$State;" ∈ gT := gU_2 41 rfl rfl
theorem wf_X8_18 : Cond.fieldLink RX8 18 "LawHoles$Search" "states" "[J" ∈ gT := gU_2 42 rfl rfl
theorem wm_X8_122 : Cond.methodLink RX8 122 yX9_unpack ∈ gT := gU_5 23 rfl rfl
theorem wl_X9_58 : Cond.constantLong RX9 58 15 ∈ gT := gU_5 27 rfl rfl
theorem wm_X9_49 : Cond.methodLink RX9 49 yX9_ownerShift ∈ gT := gU_4 230 rfl rfl
theorem cf_X9_ownerShift : Cf yX9_ownerShift cX9_ownerShift 1 (some .int) 1 := ⟨gU_4 232 rfl rfl, gU_1 12 rfl rfl, by decide +kernel, by decide +kernel, by decide +kernel⟩
theorem ws_X9_ownerShift : Cond.static yX9_ownerShift ∈ gT := gU_4 231 rfl rfl
theorem wl_X9_60 : Cond.constantLong RX9 60 3 ∈ gT := gU_5 28 rfl rfl
theorem wm_X9_52 : Cond.methodLink RX9 52 yX9_coinShift ∈ gT := gU_4 233 rfl rfl
theorem cf_X9_coinShift : Cf yX9_coinShift cX9_coinShift 1 (some .int) 1 := ⟨gU_4 235 rfl rfl, gU_1 12 rfl rfl, by decide +kernel, by decide +kernel, by decide +kernel⟩
theorem ws_X9_coinShift : Cond.static yX9_coinShift ∈ gT := gU_4 234 rfl rfl
theorem wm_X9_55 : Cond.methodLink RX9 55 yX9_pairShift ∈ gT := gU_4 236 rfl rfl
theorem cf_X9_pairShift : Cf yX9_pairShift cX9_pairShift 2 (some .int) 2 := ⟨gU_4 238 rfl rfl, gU_1 12 rfl rfl, by decide +kernel, by decide +kernel, by decide +kernel⟩
theorem ws_X9_pairShift : Cond.static yX9_pairShift ∈ gT := gU_4 237 rfl rfl
theorem wl_X9_62 : Cond.constantLong RX9 62 31 ∈ gT := gU_5 29 rfl rfl
theorem cf_X9_unpack : Cf yX9_unpack cX9_unpack 7 none 1 := ⟨gU_5 26 rfl rfl, gU_1 12 rfl rfl, by decide +kernel, by decide +kernel, by decide +kernel⟩
theorem wi_X9_unpack : Cond.instanceMethod yX9_unpack ∈ gT := gU_5 24 rfl rfl
theorem ws_X9_unpack : Cond.selects yX9_unpack.cls yX9_unpack yX9_unpack ∈ gT := gU_5 25 rfl rfl
theorem wm_X8_133 : Cond.methodLink RX8 133 yX8_grow ∈ gT := gU_5 34 rfl rfl
theorem wf_X8_67 : Cond.fieldLink RX8 67 "LawHoles$Search" "isSpent" "Z" ∈ gT := gU_2 58 rfl rfl
theorem wf_X8_57 : Cond.fieldLink RX8 57 "LawHoles$Search" "done" "I" ∈ gT := gU_2 54 rfl rfl
theorem wf_X8_48 : Cond.fieldLink RX8 48 "LawHoles$Search" "most" "I" ∈ gT := gU_2 51 rfl rfl
theorem wf_X8_41 : Cond.fieldLink RX8 41 "LawHoles$Search" "codeCount" "I" ∈ gT := gU_2 49 rfl rfl
theorem wf_X8_70 : Cond.fieldLink RX8 70 "LawHoles$Search" "court" "LLawHoles$Court;" ∈ gT := gU_2 39 rfl rfl
theorem wf_X8_38 : Cond.fieldLink RX8 38 "LawHoles$Search" "codes" "[I" ∈ gT := gU_2 48 rfl rfl
theorem wf_X8_45 : Cond.fieldLink RX8 45 "LawHoles$Search" "laws" "I" ∈ gT := gU_2 50 rfl rfl
theorem wf_X8_54 : Cond.fieldLink RX8 54 "LawHoles$Search" "cures" "I" ∈ gT := gU_2 53 rfl rfl
theorem wm_X8_126 : Cond.methodLink RX8 126 yX2_why ∈ gT := gU_5 38 rfl rfl
theorem wf_X2_32 : Cond.fieldLink RX2 32 "LawHoles$Court" "law" "LLawHoles$Law;" ∈ gT := gU_2 11 rfl rfl
theorem wm_X2_36 : Cond.methodLink RX2 36 yX4_actOf ∈ gT := gU_4 120 rfl rfl
theorem wm_X4_35 : Cond.methodLink RX4 35 yX4_actAt ∈ gT := gU_4 124 rfl rfl
theorem cf_X4_actAt : Cf yX4_actAt cX4_actAt 2 (some (.object "LawHoles$Act")) 1 := ⟨gU_4 76 rfl rfl, gU_1 11 rfl rfl, by decide +kernel, by decide +kernel, by decide +kernel⟩
theorem wi_X4_actAt : Cond.instanceMethod yX4_actAt ∈ gT := gU_4 74 rfl rfl
theorem ws_X4_actAt : Cond.selects yX4_actAt.cls yX4_actAt yX4_actAt ∈ gT := gU_4 75 rfl rfl
theorem cf_X11_doerOf : Cf yX11_doerOf cX11_doerOf 1 (some .int) 1 := ⟨gU_4 127 rfl rfl, gU_1 1 rfl rfl, by decide +kernel, by decide +kernel, by decide +kernel⟩
theorem ws_X11_doerOf : Cond.static yX11_doerOf ∈ gT := gU_4 126 rfl rfl
theorem cf_X11_otherOf : Cf yX11_otherOf cX11_otherOf 1 (some .int) 1 := ⟨gU_4 130 rfl rfl, gU_1 1 rfl rfl, by decide +kernel, by decide +kernel, by decide +kernel⟩
theorem ws_X11_otherOf : Cond.static yX11_otherOf ∈ gT := gU_4 129 rfl rfl
theorem wf_X4_50 : Cond.fieldLink RX4 50 "LawHoles$Act" "withOther" "Z" ∈ gT := gU_3 100 rfl rfl
theorem wf_X4_54 : Cond.fieldLink RX4 54 "LawHoles$Act" "withThing" "Z" ∈ gT := gU_3 104 rfl rfl
theorem cf_X11_thingOf : Cf yX11_thingOf cX11_thingOf 1 (some .int) 1 := ⟨gU_4 134 rfl rfl, gU_1 1 rfl rfl, by decide +kernel, by decide +kernel, by decide +kernel⟩
theorem ws_X11_thingOf : Cond.static yX11_thingOf ∈ gT := gU_4 133 rfl rfl
theorem cf_X11_isThing : Cf yX11_isThing cX11_isThing 1 (some .boolean) 1 := ⟨gU_2 185 rfl rfl, gU_1 1 rfl rfl, by decide +kernel, by decide +kernel, by decide +kernel⟩
theorem ws_X11_isThing : Cond.static yX11_isThing ∈ gT := gU_2 184 rfl rfl
theorem cf_X4_actOf : Cf yX4_actOf cX4_actOf 8 (some (.object "LawHoles$Act")) 2 := ⟨gU_4 123 rfl rfl, gU_1 11 rfl rfl, by decide +kernel, by decide +kernel, by decide +kernel⟩
theorem wi_X4_actOf : Cond.instanceMethod yX4_actOf ∈ gT := gU_4 121 rfl rfl
theorem ws_X4_actOf : Cond.selects yX4_actOf.cls yX4_actOf yX4_actOf ∈ gT := gU_4 122 rfl rfl
theorem wf_X2_12 : Cond.fieldLink RX2 12 "LawHoles$Court" "reckoner" "LLawHoles$Reckoner;" ∈ gT := gU_2 13 rfl rfl
theorem wm_X2_42 : Cond.methodLink RX2 42 yX6_look ∈ gT := gU_4 136 rfl rfl
theorem wf_X6_18 : Cond.fieldLink RX6 18 "LawHoles$Reckoner" "state" "LLawHoles$State;" ∈ gT := gU_1 234 rfl rfl
theorem wf_X6_29 : Cond.fieldLink RX6 29 "LawHoles$Reckoner" "t" "I" ∈ gT := gU_1 237 rfl rfl
theorem cf_X6_look : Cf yX6_look cX6_look 3 none 2 := ⟨gU_4 139 rfl rfl, gU_1 14 rfl rfl, by decide +kernel, by decide +kernel, by decide +kernel⟩
theorem wi_X6_look : Cond.instanceMethod yX6_look ∈ gT := gU_4 137 rfl rfl
theorem ws_X6_look : Cond.selects yX6_look.cls yX6_look yX6_look ∈ gT := gU_4 138 rfl rfl
theorem wf_X2_46 : Cond.fieldLink RX2 46 "LawHoles$Act" "needs" "Ljava/util/ArrayList;" ∈ gT := gU_3 92 rfl rfl
theorem wm_X2_52 : Cond.methodLink RX2 52 yJx4a65c_size_8abf5 ∈ gT := gU_4 143 rfl rfl
theorem wm_X2_58 : Cond.methodLink RX2 58 yJx4a65c_get_915e3 ∈ gT := gU_4 144 rfl rfl
theorem wm_Jx4a65c_118 : Cond.methodLink RJx4a65c 118 yJ15_checkIndex_7cf53 ∈ gT := gU_3 126 rfl rfl
theorem wm_J15_105 : Cond.methodLink RJ15 105 yJ3_checkIndex_8e157 ∈ gT := gU_3 129 rfl rfl
theorem cf_J15_checkIndex_7cf53 : Cf yJ15_checkIndex_7cf53 cJ15_checkIndex_7cf53 2 (some .int) 2 := ⟨gU_3 128 rfl rfl, gU_1 21 rfl rfl, by decide +kernel, by decide +kernel, by decide +kernel⟩
theorem ws_J15_checkIndex_7cf53 : Cond.static yJ15_checkIndex_7cf53 ∈ gT := gU_3 127 rfl rfl
theorem wm_Jx4a65c_123 : Cond.methodLink RJx4a65c 123 yJx4a65c_elementData_915e3 ∈ gT := gU_3 130 rfl rfl
theorem cf_Jx4a65c_elementData_915e3 : Cf yJx4a65c_elementData_915e3 cJx4a65c_elementData_915e3 2 (some (.object "java/lang/Object")) 1 := ⟨gU_3 133 rfl rfl, gU_1 10 rfl rfl, by decide +kernel, by decide +kernel, by decide +kernel⟩
theorem wi_Jx4a65c_elementData_915e3 : Cond.instanceMethod yJx4a65c_elementData_915e3 ∈ gT := gU_3 131 rfl rfl
theorem ws_Jx4a65c_elementData_915e3 : Cond.selects yJx4a65c_elementData_915e3.cls yJx4a65c_elementData_915e3 yJx4a65c_elementData_915e3 ∈ gT := gU_3 132 rfl rfl
theorem cf_Jx4a65c_get_915e3 : Cf yJx4a65c_get_915e3 cJx4a65c_get_915e3 2 (some (.object "java/lang/Object")) 1 := ⟨gU_3 125 rfl rfl, gU_1 10 rfl rfl, by decide +kernel, by decide +kernel, by decide +kernel⟩
theorem wi_Jx4a65c_get_915e3 : Cond.instanceMethod yJx4a65c_get_915e3 ∈ gT := gU_3 123 rfl rfl
theorem ws_Jx4a65c_get_915e3 : Cond.selects yJx4a65c_get_915e3.cls yJx4a65c_get_915e3 yJx4a65c_get_915e3 ∈ gT := gU_3 124 rfl rfl
theorem wk_X2_62 : Cond.classLink RX2 62 RX1 ∈ gT := gU_4 145 rfl rfl
theorem wm_X2_64 : Cond.methodLink RX2 64 yX6_value ∈ gT := gU_4 146 rfl rfl
theorem wf_X6_42 : Cond.fieldLink RX6 42 "LawHoles$Clause" "ops" "[I" ∈ gT := gU_3 191 rfl rfl
theorem wm_X6_49 : Cond.methodLink RX6 49 yX6_isJoint ∈ gT := gU_4 150 rfl rfl
theorem cf_X6_isJoint : Cf yX6_isJoint cX6_isJoint 1 (some .boolean) 1 := ⟨gU_4 152 rfl rfl, gU_1 14 rfl rfl, by decide +kernel, by decide +kernel, by decide +kernel⟩
theorem ws_X6_isJoint : Cond.static yX6_isJoint ∈ gT := gU_4 151 rfl rfl
theorem wf_X6_11 : Cond.fieldLink RX6 11 "LawHoles$Reckoner" "waiting" "[I" ∈ gT := gU_1 233 rfl rfl
theorem wm_X6_57 : Cond.methodLink RX6 57 yX6_operand ∈ gT := gU_4 156 rfl rfl
theorem wm_X6_61 : Cond.methodLink RX6 61 yX9_get ∈ gT := gU_4 160 rfl rfl
theorem cf_X9_get : Cf yX9_get cX9_get 2 (some .int) 1 := ⟨gU_4 163 rfl rfl, gU_1 12 rfl rfl, by decide +kernel, by decide +kernel, by decide +kernel⟩
theorem wi_X9_get : Cond.instanceMethod yX9_get ∈ gT := gU_4 161 rfl rfl
theorem ws_X9_get : Cond.selects yX9_get.cls yX9_get yX9_get ∈ gT := gU_4 162 rfl rfl
theorem wm_X6_64 : Cond.methodLink RX6 64 yX9_thingsOf ∈ gT := gU_4 164 rfl rfl
theorem cf_X9_thingsOf : Cf yX9_thingsOf cX9_thingsOf 4 (some .int) 1 := ⟨gU_4 167 rfl rfl, gU_1 12 rfl rfl, by decide +kernel, by decide +kernel, by decide +kernel⟩
theorem wi_X9_thingsOf : Cond.instanceMethod yX9_thingsOf ∈ gT := gU_4 165 rfl rfl
theorem ws_X9_thingsOf : Cond.selects yX9_thingsOf.cls yX9_thingsOf yX9_thingsOf ∈ gT := gU_4 166 rfl rfl
theorem cf_X6_operand : Cf yX6_operand cX6_operand 5 (some .int) 2 := ⟨gU_4 159 rfl rfl, gU_1 14 rfl rfl, by decide +kernel, by decide +kernel, by decide +kernel⟩
theorem wi_X6_operand : Cond.instanceMethod yX6_operand ∈ gT := gU_4 158 rfl rfl
theorem ws_X6_operand : Cond.selects yX6_operand.cls yX6_operand yX6_operand ∈ gT := gT_of 22 (by decide +kernel) (by decide +kernel)
theorem wm_X6_53 : Cond.methodLink RX6 53 yX6_joined ∈ gT := gU_4 153 rfl rfl
theorem cf_X6_joined : Cf yX6_joined cX6_joined 3 (some .int) 3 := ⟨gU_4 155 rfl rfl, gU_1 14 rfl rfl, by decide +kernel, by decide +kernel, by decide +kernel⟩
theorem ws_X6_joined : Cond.static yX6_joined ∈ gT := gU_4 154 rfl rfl
theorem cf_X6_value : Cf yX6_value cX6_value 6 (some .int) 1 := ⟨gU_4 149 rfl rfl, gU_1 14 rfl rfl, by decide +kernel, by decide +kernel, by decide +kernel⟩
theorem wi_X6_value : Cond.instanceMethod yX6_value ∈ gT := gU_4 147 rfl rfl
theorem ws_X6_value : Cond.selects yX6_value.cls yX6_value yX6_value ∈ gT := gU_4 148 rfl rfl
theorem wf_X2_68 : Cond.fieldLink RX2 68 "LawHoles$Law" "cures" "Ljava/util/ArrayList;" ∈ gT := gU_1 200 rfl rfl
theorem wk_X2_71 : Cond.classLink RX2 71 RX3 ∈ gT := gU_4 168 rfl rfl
theorem wf_X2_76 : Cond.fieldLink RX2 76 "LawHoles$Cure" "need" "LLawHoles$Clause;" ∈ gT := gU_4 59 rfl rfl
theorem wf_X2_73 : Cond.fieldLink RX2 73 "LawHoles$Cure" "actNumber" "I" ∈ gT := gU_4 57 rfl rfl
theorem wf_X2_21 : Cond.fieldLink RX2 21 "LawHoles$Court" "next" "LLawHoles$State;" ∈ gT := gU_2 14 rfl rfl
theorem wm_X2_80 : Cond.methodLink RX2 80 yX9_copy ∈ gT := gU_4 107 rfl rfl
theorem cf_X9_copy : Cf yX9_copy cX9_copy 2 none 1 := ⟨gU_4 110 rfl rfl, gU_1 12 rfl rfl, by decide +kernel, by decide +kernel, by decide +kernel⟩
theorem wi_X9_copy : Cond.instanceMethod yX9_copy ∈ gT := gU_4 108 rfl rfl
theorem ws_X9_copy : Cond.selects yX9_copy.cls yX9_copy yX9_copy ∈ gT := gU_4 109 rfl rfl
theorem wf_X2_84 : Cond.fieldLink RX2 84 "LawHoles$Act" "makes" "Ljava/util/ArrayList;" ∈ gT := gU_3 96 rfl rfl
theorem wf_X2_87 : Cond.fieldLink RX2 87 "LawHoles$Clause" "first" "I" ∈ gT := gU_3 189 rfl rfl
theorem wm_X2_90 : Cond.methodLink RX2 90 yX6_person ∈ gT := gU_4 169 rfl rfl
theorem cf_X6_person : Cf yX6_person cX6_person 2 (some .int) 1 := ⟨gU_4 172 rfl rfl, gU_1 14 rfl rfl, by decide +kernel, by decide +kernel, by decide +kernel⟩
theorem wi_X6_person : Cond.instanceMethod yX6_person ∈ gT := gU_4 170 rfl rfl
theorem ws_X6_person : Cond.selects yX6_person.cls yX6_person yX6_person ∈ gT := gU_4 171 rfl rfl
theorem wf_X2_94 : Cond.fieldLink RX2 94 "LawHoles$Clause" "kind" "I" ∈ gT := gU_3 187 rfl rfl
theorem wm_X2_100 : Cond.methodLink RX2 100 yX9_change ∈ gT := gU_4 174 rfl rfl
theorem wm_X9_32 : Cond.methodLink RX9 32 yX9_get ∈ gT := gU_4 178 rfl rfl
theorem wm_X9_36 : Cond.methodLink RX9 36 yX9_set ∈ gT := gU_4 179 rfl rfl
theorem cf_X9_set : Cf yX9_set cX9_set 3 none 2 := ⟨gU_2 163 rfl rfl, gU_1 12 rfl rfl, by decide +kernel, by decide +kernel, by decide +kernel⟩
theorem wi_X9_set : Cond.instanceMethod yX9_set ∈ gT := gU_2 161 rfl rfl
theorem ws_X9_set : Cond.selects yX9_set.cls yX9_set yX9_set ∈ gT := gU_2 162 rfl rfl
theorem cf_X9_change : Cf yX9_change cX9_change 7 none 5 := ⟨gU_4 177 rfl rfl, gU_1 12 rfl rfl, by decide +kernel, by decide +kernel, by decide +kernel⟩
theorem wi_X9_change : Cond.instanceMethod yX9_change ∈ gT := gU_4 175 rfl rfl
theorem ws_X9_change : Cond.selects yX9_change.cls yX9_change yX9_change ∈ gT := gU_4 176 rfl rfl
theorem wm_X2_104 : Cond.methodLink RX2 104 yX9_isInBounds ∈ gT := gU_4 180 rfl rfl
theorem cf_X9_isInBounds : Cf yX9_isInBounds cX9_isInBounds 2 (some .boolean) 0 := ⟨gU_4 183 rfl rfl, gU_1 12 rfl rfl, by decide +kernel, by decide +kernel, by decide +kernel⟩
theorem wi_X9_isInBounds : Cond.instanceMethod yX9_isInBounds ∈ gT := gU_4 181 rfl rfl
theorem ws_X9_isInBounds : Cond.selects yX9_isInBounds.cls yX9_isInBounds yX9_isInBounds ∈ gT := gU_4 182 rfl rfl
theorem cf_X2_why : Cf yX2_why cX2_why 10 (some .int) 4 := ⟨gU_4 119 rfl rfl, gU_1 13 rfl rfl, by decide +kernel, by decide +kernel, by decide +kernel⟩
theorem wi_X2_why : Cond.instanceMethod yX2_why ∈ gT := gU_4 117 rfl rfl
theorem ws_X2_why : Cond.selects yX2_why.cls yX2_why yX2_why ∈ gT := gU_4 118 rfl rfl
theorem wf_X8_130 : Cond.fieldLink RX8 130 "LawHoles$Court" "next" "LLawHoles$State;" ∈ gT := gU_2 15 rfl rfl
theorem wm_X8_86 : Cond.methodLink RX8 86 yX9_packed ∈ gT := gU_4 221 rfl rfl
theorem wf_X11_255 : Cond.fieldLink RX11 255 "LawHoles" "BECOME" "[I" ∈ gT := gU_4 228 rfl rfl
theorem cf_X11_become : Cf yX11_become cX11_become 3 (some .int) 2 := ⟨gU_4 227 rfl rfl, gU_1 1 rfl rfl, by decide +kernel, by decide +kernel, by decide +kernel⟩
theorem ws_X11_become : Cond.static yX11_become ∈ gT := gU_4 226 rfl rfl
theorem cf_X9_packed : Cf yX9_packed cX9_packed 10 (some .long) 2 := ⟨gU_4 224 rfl rfl, gU_1 12 rfl rfl, by decide +kernel, by decide +kernel, by decide +kernel⟩
theorem wi_X9_packed : Cond.instanceMethod yX9_packed ∈ gT := gU_4 222 rfl rfl
theorem ws_X9_packed : Cond.selects yX9_packed.cls yX9_packed yX9_packed ∈ gT := gU_4 223 rfl rfl
theorem wm_X8_90 : Cond.methodLink RX8 90 yX8_meet ∈ gT := gU_4 239 rfl rfl
theorem wm_X8_113 : Cond.methodLink RX8 113 yX8_slotOf ∈ gT := gU_5 3 rfl rfl
theorem wl_X8_120 : Cond.constantLong RX8 120 (-7046029254386353131) ∈ gT := gU_5 7 rfl rfl
theorem wf_X8_32 : Cond.fieldLink RX8 32 "LawHoles$Search" "slots" "[I" ∈ gT := gU_2 46 rfl rfl
theorem cf_X8_slotOf : Cf yX8_slotOf cX8_slotOf 7 (some .int) 1 := ⟨gU_5 6 rfl rfl, gU_1 15 rfl rfl, by decide +kernel, by decide +kernel, by decide +kernel⟩
theorem wi_X8_slotOf : Cond.instanceMethod yX8_slotOf ∈ gT := gU_5 5 rfl rfl
theorem ws_X8_slotOf : Cond.selects yX8_slotOf.cls yX8_slotOf yX8_slotOf ∈ gT := gT_of 26 (by decide +kernel) (by decide +kernel)
theorem wf_X8_26 : Cond.fieldLink RX8 26 "LawHoles$Search" "from" "[I" ∈ gT := gU_2 44 rfl rfl
theorem wf_X8_29 : Cond.fieldLink RX8 29 "LawHoles$Search" "by" "[I" ∈ gT := gU_2 45 rfl rfl
theorem wm_X8_117 : Cond.methodLink RX8 117 yX8_acts ∈ gT := gU_5 8 rfl rfl
theorem cf_X8_acts : Cf yX8_acts cX8_acts 2 (some .int) 1 := ⟨gU_5 11 rfl rfl, gU_1 15 rfl rfl, by decide +kernel, by decide +kernel, by decide +kernel⟩
theorem wi_X8_acts : Cond.instanceMethod yX8_acts ∈ gT := gU_5 9 rfl rfl
theorem ws_X8_acts : Cond.selects yX8_acts.cls yX8_acts yX8_acts ∈ gT := gU_5 10 rfl rfl
theorem cf_X8_meet : Cf yX8_meet cX8_meet 6 none 3 := ⟨gU_5 2 rfl rfl, gU_1 15 rfl rfl, by decide +kernel, by decide +kernel, by decide +kernel⟩
theorem wi_X8_meet : Cond.instanceMethod yX8_meet ∈ gT := gU_5 1 rfl rfl
theorem ws_X8_meet : Cond.selects yX8_meet.cls yX8_meet yX8_meet ∈ gT := gT_of 25 (by decide +kernel) (by decide +kernel)
theorem cf_X8_grow : Cf yX8_grow cX8_grow 2 (some .boolean) 0 := ⟨gU_5 37 rfl rfl, gU_1 15 rfl rfl, by decide +kernel, by decide +kernel, by decide +kernel⟩
theorem wi_X8_grow : Cond.instanceMethod yX8_grow ∈ gT := gU_5 36 rfl rfl
theorem ws_X8_grow : Cond.selects yX8_grow.cls yX8_grow yX8_grow ∈ gT := gT_of 28 (by decide +kernel) (by decide +kernel)
theorem wf_X11_147 : Cond.fieldLink RX11 147 "LawHoles$Reader" "faultPlace" "I" ∈ gT := gU_1 165 rfl rfl
theorem wf_X11_144 : Cond.fieldLink RX11 144 "LawHoles$Reader" "fault" "I" ∈ gT := gU_1 163 rfl rfl
theorem wf_X11_34 : Cond.fieldLink RX11 34 "LawHoles" "beginning" "LLawHoles$State;" ∈ gT := gU_2 126 rfl rfl
theorem wm_X11_77 : Cond.methodLink RX11 77 yX9_set ∈ gT := gU_2 160 rfl rfl
theorem wf_X11_52 : Cond.fieldLink RX11 52 "LawHoles" "search" "LLawHoles$Search;" ∈ gT := gU_2 128 rfl rfl
theorem wm_X11_81 : Cond.methodLink RX11 81 yX8_forget ∈ gT := gU_2 164 rfl rfl
theorem cf_X8_forget : Cf yX8_forget cX8_forget 1 none 0 := ⟨gU_2 167 rfl rfl, gU_1 15 rfl rfl, by decide +kernel, by decide +kernel, by decide +kernel⟩
theorem wi_X8_forget : Cond.instanceMethod yX8_forget ∈ gT := gU_2 165 rfl rfl
theorem ws_X8_forget : Cond.selects yX8_forget.cls yX8_forget yX8_forget ∈ gT := gU_2 166 rfl rfl
theorem wm_X11_169 : Cond.methodLink RX11 169 yX11_isRow ∈ gT := gU_4 81 rfl rfl
theorem cf_X11_isRow : Cf yX11_isRow cX11_isRow 1 (some .boolean) 1 := ⟨gU_4 83 rfl rfl, gU_1 1 rfl rfl, by decide +kernel, by decide +kernel, by decide +kernel⟩
theorem ws_X11_isRow : Cond.static yX11_isRow ∈ gT := gU_4 82 rfl rfl
theorem wf_X11_58 : Cond.fieldLink RX11 58 "LawHoles" "rows" "[LLawHoles$Row;" ∈ gT := gU_2 129 rfl rfl
theorem wm_X11_258 : Cond.methodLink RX11 258 yX11_become ∈ gT := gU_5 126 rfl rfl
theorem wf_X11_175 : Cond.fieldLink RX11 175 "LawHoles$Row" "count" "I" ∈ gT := gU_2 112 rfl rfl
theorem wf_X11_178 : Cond.fieldLink RX11 178 "LawHoles$Row" "isHonest" "Z" ∈ gT := gU_2 114 rfl rfl
theorem wm_X11_87 : Cond.methodLink RX11 87 yX11_isThing ∈ gT := gU_2 183 rfl rfl
theorem wm_X0_1 : Cond.methodLink RX0 1 objectInit ∈ gT := gU_3 86 rfl rfl
theorem wk_X0_7 : Cond.classLink RX0 7 RJx4a65c ∈ gT := gU_3 87 rfl rfl
theorem wn_Jx4a65c : Cond.instantiable RJx4a65c 3 ∈ gT := gU_1 129 rfl rfl
theorem w0_Jx4a65c : Cond.initialized RJx4a65c ∈ gT := gU_1 10 rfl rfl
theorem wm_X0_9 : Cond.methodLink RX0 9 yJx4a65c_init_da8c8 ∈ gT := gU_3 88 rfl rfl
theorem wm_Jx4a65c_1 : Cond.methodLink RJx4a65c 1 yJxc12de_init_da8c8 ∈ gT := gU_1 133 rfl rfl
theorem wm_Jxc12de_1 : Cond.methodLink RJxc12de 1 yJxa1e45_init_da8c8 ∈ gT := gU_1 136 rfl rfl
theorem wm_Jxa1e45_1 : Cond.methodLink RJxa1e45 1 objectInit ∈ gT := gU_1 139 rfl rfl
theorem cf_Jxa1e45_init_da8c8 : Cf yJxa1e45_init_da8c8 cJxa1e45_init_da8c8 1 none 0 := ⟨gU_1 138 rfl rfl, gU_1 8 rfl rfl, by decide +kernel, by decide +kernel, by decide +kernel⟩
theorem wi_Jxa1e45_init_da8c8 : Cond.instanceMethod yJxa1e45_init_da8c8 ∈ gT := gU_1 137 rfl rfl
theorem wf_Jxc12de_7 : Cond.fieldLink RJxc12de 7 "java/util/AbstractList" "modCount" "I" ∈ gT := gU_1 144 rfl rfl
theorem cf_Jxc12de_init_da8c8 : Cf yJxc12de_init_da8c8 cJxc12de_init_da8c8 1 none 0 := ⟨gU_1 135 rfl rfl, gU_1 9 rfl rfl, by decide +kernel, by decide +kernel, by decide +kernel⟩
theorem wi_Jxc12de_init_da8c8 : Cond.instanceMethod yJxc12de_init_da8c8 ∈ gT := gU_1 134 rfl rfl
theorem wf_Jx4a65c_39 : Cond.fieldLink RJx4a65c 39 "java/util/ArrayList" "DEFAULTCAPACITY_EMPTY_ELEMENTDATA" "[Ljava/lang/Object;" ∈ gT := gU_1 140 rfl rfl
theorem cf_Jx4a65c_init_da8c8 : Cf yJx4a65c_init_da8c8 cJx4a65c_init_da8c8 1 none 0 := ⟨gU_1 132 rfl rfl, gU_1 10 rfl rfl, by decide +kernel, by decide +kernel, by decide +kernel⟩
theorem wi_Jx4a65c_init_da8c8 : Cond.instanceMethod yJx4a65c_init_da8c8 ∈ gT := gU_1 131 rfl rfl
theorem wf_X0_10 : Cond.fieldLink RX0 10 "LawHoles$Act" "needs" "Ljava/util/ArrayList;" ∈ gT := gU_3 91 rfl rfl
theorem wf_X0_16 : Cond.fieldLink RX0 16 "LawHoles$Act" "makes" "Ljava/util/ArrayList;" ∈ gT := gU_3 95 rfl rfl
theorem wf_X0_19 : Cond.fieldLink RX0 19 "LawHoles$Act" "withOther" "Z" ∈ gT := gU_3 99 rfl rfl
theorem wf_X0_23 : Cond.fieldLink RX0 23 "LawHoles$Act" "withThing" "Z" ∈ gT := gU_3 103 rfl rfl
theorem wf_X0_26 : Cond.fieldLink RX0 26 "LawHoles$Act" "name" "J" ∈ gT := gU_3 89 rfl rfl
theorem wm_X5_85 : Cond.methodLink RX5 85 yJx4a65c_size_8abf5 ∈ gT := gU_3 68 rfl rfl
theorem wm_X5_129 : Cond.methodLink RX5 129 yJx4a65c_get_915e3 ∈ gT := gU_3 122 rfl rfl
theorem wk_X5_88 : Cond.classLink RX5 88 RX0 ∈ gT := gU_3 77 rfl rfl
theorem wf_X5_97 : Cond.fieldLink RX5 97 "LawHoles$Act" "name" "J" ∈ gT := gU_3 90 rfl rfl
theorem wm_X11_206 : Cond.methodLink RX11 206 yX8_begin ∈ gT := gU_4 207 rfl rfl
theorem wf_X8_51 : Cond.fieldLink RX8 51 "LawHoles$Search" "persons" "I" ∈ gT := gU_2 52 rfl rfl
theorem wm_X8_77 : Cond.methodLink RX8 77 yX8_listCodes ∈ gT := gU_4 211 rfl rfl
theorem wf_X8_101 : Cond.fieldLink RX8 101 "LawHoles$Court" "law" "LLawHoles$Law;" ∈ gT := gU_2 12 rfl rfl
theorem wm_X8_107 : Cond.methodLink RX8 107 yX4_actOf ∈ gT := gU_4 217 rfl rfl
theorem cf_X8_listCodes : Cf yX8_listCodes cX8_listCodes 4 none 0 := ⟨gU_4 214 rfl rfl, gU_1 15 rfl rfl, by decide +kernel, by decide +kernel, by decide +kernel⟩
theorem wi_X8_listCodes : Cond.instanceMethod yX8_listCodes ∈ gT := gU_4 213 rfl rfl
theorem ws_X8_listCodes : Cond.selects yX8_listCodes.cls yX8_listCodes yX8_listCodes ∈ gT := gT_of 24 (by decide +kernel) (by decide +kernel)
theorem wm_X8_80 : Cond.methodLink RX8 80 yJ7_fill_53178 ∈ gT := gU_4 218 rfl rfl
theorem cf_J7_fill_53178 : Cf yJ7_fill_53178 cJ7_fill_53178 4 none 2 := ⟨gU_4 220 rfl rfl, gU_1 23 rfl rfl, by decide +kernel, by decide +kernel, by decide +kernel⟩
theorem ws_J7_fill_53178 : Cond.static yJ7_fill_53178 ∈ gT := gU_4 219 rfl rfl
theorem wf_X8_74 : Cond.fieldLink RX8 74 "LawHoles$Search" "beginning" "LLawHoles$State;" ∈ gT := gU_2 40 rfl rfl
theorem cf_X8_begin : Cf yX8_begin cX8_begin 6 none 4 := ⟨gU_4 210 rfl rfl, gU_1 15 rfl rfl, by decide +kernel, by decide +kernel, by decide +kernel⟩
theorem wi_X8_begin : Cond.instanceMethod yX8_begin ∈ gT := gU_4 208 rfl rfl
theorem ws_X8_begin : Cond.selects yX8_begin.cls yX8_begin yX8_begin ∈ gT := gU_4 209 rfl rfl
theorem wm_X11_210 : Cond.methodLink RX11 210 yX8_first ∈ gT := gU_5 12 rfl rfl
theorem wf_X8_137 : Cond.fieldLink RX8 137 "LawHoles$Law" "nevers" "Ljava/util/ArrayList;" ∈ gT := gU_1 197 rfl rfl
theorem wm_X8_141 : Cond.methodLink RX8 141 yJx4a65c_size_8abf5 ∈ gT := gU_5 16 rfl rfl
theorem wm_X8_147 : Cond.methodLink RX8 147 yJx4a65c_get_915e3 ∈ gT := gU_5 17 rfl rfl
theorem wk_X8_151 : Cond.classLink RX8 151 RX1 ∈ gT := gU_5 18 rfl rfl
theorem wm_X8_153 : Cond.methodLink RX8 153 yX8_load ∈ gT := gU_5 19 rfl rfl
theorem cf_X8_load : Cf yX8_load cX8_load 2 none 1 := ⟨gU_5 22 rfl rfl, gU_1 15 rfl rfl, by decide +kernel, by decide +kernel, by decide +kernel⟩
theorem wi_X8_load : Cond.instanceMethod yX8_load ∈ gT := gU_5 21 rfl rfl
theorem ws_X8_load : Cond.selects yX8_load.cls yX8_load yX8_load ∈ gT := gT_of 27 (by decide +kernel) (by decide +kernel)
theorem wm_X8_157 : Cond.methodLink RX8 157 yX2_isNever ∈ gT := gU_5 30 rfl rfl
theorem cf_X2_isNever : Cf yX2_isNever cX2_isNever 6 (some .boolean) 2 := ⟨gU_5 33 rfl rfl, gU_1 13 rfl rfl, by decide +kernel, by decide +kernel, by decide +kernel⟩
theorem wi_X2_isNever : Cond.instanceMethod yX2_isNever ∈ gT := gU_5 31 rfl rfl
theorem ws_X2_isNever : Cond.selects yX2_isNever.cls yX2_isNever yX2_isNever ∈ gT := gU_5 32 rfl rfl
theorem cf_X8_first : Cf yX8_first cX8_first 5 (some .int) 1 := ⟨gU_5 15 rfl rfl, gU_1 15 rfl rfl, by decide +kernel, by decide +kernel, by decide +kernel⟩
theorem wi_X8_first : Cond.instanceMethod yX8_first ∈ gT := gU_5 13 rfl rfl
theorem ws_X8_first : Cond.selects yX8_first.cls yX8_first yX8_first ∈ gT := gU_5 14 rfl rfl
theorem wf_X11_214 : Cond.fieldLink RX11 214 "LawHoles$Search" "isSpent" "Z" ∈ gT := gU_2 59 rfl rfl
theorem wm_X11_84 : Cond.methodLink RX11 84 yX11_arePair ∈ gT := gU_2 172 rfl rfl
theorem cf_X11_arePair : Cf yX11_arePair cX11_arePair 2 (some .boolean) 2 := ⟨gU_2 174 rfl rfl, gU_1 1 rfl rfl, by decide +kernel, by decide +kernel, by decide +kernel⟩
theorem ws_X11_arePair : Cond.static yX11_arePair ∈ gT := gU_2 173 rfl rfl
theorem wm_X11_90 : Cond.methodLink RX11 90 yX11_feedFour ∈ gT := gU_2 194 rfl rfl
theorem cf_X11_feedFour : Cf yX11_feedFour cX11_feedFour 3 none 1 := ⟨gU_2 197 rfl rfl, gU_1 1 rfl rfl, by decide +kernel, by decide +kernel, by decide +kernel⟩
theorem wi_X11_feedFour : Cond.instanceMethod yX11_feedFour ∈ gT := gU_2 196 rfl rfl
theorem ws_X11_feedFour : Cond.selects yX11_feedFour.cls yX11_feedFour yX11_feedFour ∈ gT := gT_of 0 (by decide +kernel) (by decide +kernel)
theorem wm_X11_191 : Cond.methodLink RX11 191 yX9_has ∈ gT := gU_4 189 rfl rfl
theorem cf_X9_has : Cf yX9_has cX9_has 2 (some .boolean) 1 := ⟨gU_4 191 rfl rfl, gU_1 12 rfl rfl, by decide +kernel, by decide +kernel, by decide +kernel⟩
theorem ws_X9_has : Cond.static yX9_has ∈ gT := gU_4 190 rfl rfl
theorem wf_X11_43 : Cond.fieldLink RX11 43 "LawHoles" "court" "LLawHoles$Court;" ∈ gT := gU_2 127 rfl rfl
theorem wm_X11_184 : Cond.methodLink RX11 184 yX2_follow ∈ gT := gU_4 103 rfl rfl
theorem wf_X2_25 : Cond.fieldLink RX2 25 "LawHoles$Court" "here" "LLawHoles$State;" ∈ gT := gU_2 16 rfl rfl
theorem wf_X2_28 : Cond.fieldLink RX2 28 "LawHoles$Court" "reason" "I" ∈ gT := gU_2 18 rfl rfl
theorem wf_X2_108 : Cond.fieldLink RX2 108 "LawHoles$Row" "count" "I" ∈ gT := gU_2 111 rfl rfl
theorem wm_X2_113 : Cond.methodLink RX2 113 yX7_get ∈ gT := gU_4 112 rfl rfl
theorem cf_X7_get : Cf yX7_get cX7_get 2 (some .int) 1 := ⟨gU_4 115 rfl rfl, gU_1 16 rfl rfl, by decide +kernel, by decide +kernel, by decide +kernel⟩
theorem wi_X7_get : Cond.instanceMethod yX7_get ∈ gT := gU_4 113 rfl rfl
theorem ws_X7_get : Cond.selects yX7_get.cls yX7_get yX7_get ∈ gT := gU_4 114 rfl rfl
theorem wm_X2_115 : Cond.methodLink RX2 115 yX2_why ∈ gT := gU_4 116 rfl rfl
theorem cf_X2_follow : Cf yX2_follow cX2_follow 6 (some .int) 4 := ⟨gU_4 106 rfl rfl, gU_1 13 rfl rfl, by decide +kernel, by decide +kernel, by decide +kernel⟩
theorem wi_X2_follow : Cond.instanceMethod yX2_follow ∈ gT := gU_4 104 rfl rfl
theorem ws_X2_follow : Cond.selects yX2_follow.cls yX2_follow yX2_follow ∈ gT := gU_4 105 rfl rfl
theorem wf_X11_194 : Cond.fieldLink RX11 194 "LawHoles$Court" "here" "LLawHoles$State;" ∈ gT := gU_2 17 rfl rfl
theorem wm_X11_197 : Cond.methodLink RX11 197 yX9_get ∈ gT := gU_4 195 rfl rfl
theorem wm_X8_171 : Cond.methodLink RX8 171 yJ9_min_f86c9 ∈ gT := gU_5 78 rfl rfl
theorem wL_X8_171 : Cond.methodLink RX8 171 Lib.MathLoose.min_long.x ∈ gT := gU_5 78 rfl rfl
theorem wLs_mminl : Cond.static Lib.MathLoose.min_long.x ∈ gT := gU_5 79 rfl rfl
theorem wLc_mminl : Cond.code Lib.MathLoose.min_long.x Lib.MathLoose.min_long.code 4 (some .long) ∈ gT := gU_5 80 rfl rfl
theorem wm_X11_93 : Cond.methodLink RX11 93 yX11_takeTape ∈ gT := gU_2 206 rfl rfl
theorem cf_X11_takeTape : Cf yX11_takeTape cX11_takeTape 1 none 0 := ⟨gU_2 209 rfl rfl, gU_1 1 rfl rfl, by decide +kernel, by decide +kernel, by decide +kernel⟩
theorem wi_X11_takeTape : Cond.instanceMethod yX11_takeTape ∈ gT := gU_2 208 rfl rfl
theorem ws_X11_takeTape : Cond.selects yX11_takeTape.cls yX11_takeTape yX11_takeTape ∈ gT := gT_of 1 (by decide +kernel) (by decide +kernel)
theorem wm_X11_125 : Cond.methodLink RX11 125 yX5_readCondition ∈ gT := gU_4 39 rfl rfl
theorem cf_X5_readCondition : Cf yX5_readCondition cX5_readCondition 1 (some .boolean) 0 := ⟨gU_4 42 rfl rfl, gU_1 2 rfl rfl, by decide +kernel, by decide +kernel, by decide +kernel⟩
theorem wi_X5_readCondition : Cond.instanceMethod yX5_readCondition ∈ gT := gU_4 40 rfl rfl
theorem ws_X5_readCondition : Cond.selects yX5_readCondition.cls yX5_readCondition yX5_readCondition ∈ gT := gU_4 41 rfl rfl
theorem wm_X11_128 : Cond.methodLink RX11 128 yX5_clause ∈ gT := gU_4 44 rfl rfl
theorem cf_X5_clause : Cf yX5_clause cX5_clause 3 (some (.object "LawHoles$Clause")) 2 := ⟨gU_3 165 rfl rfl, gU_1 2 rfl rfl, by decide +kernel, by decide +kernel, by decide +kernel⟩
theorem wi_X5_clause : Cond.instanceMethod yX5_clause ∈ gT := gU_3 163 rfl rfl
theorem ws_X5_clause : Cond.selects yX5_clause.cls yX5_clause yX5_clause ∈ gT := gU_3 164 rfl rfl
theorem wm_X11_132 : Cond.methodLink RX11 132 yJx4a65c_add_9ea2d ∈ gT := gU_4 45 rfl rfl
theorem wm_Jx4a65c_131 : Cond.methodLink RJx4a65c 131 yJx4a65c_add_72be8 ∈ gT := gU_3 203 rfl rfl
theorem wm_Jx4a65c_129 : Cond.methodLink RJx4a65c 129 yJx4a65c_grow_d5877 ∈ gT := gU_3 207 rfl rfl
theorem wm_Jx4a65c_69 : Cond.methodLink RJx4a65c 69 yJx4a65c_grow_92f84 ∈ gT := gU_3 211 rfl rfl
theorem wm_Jx4a65c_79 : Cond.methodLink RJx4a65c 79 yJ9_max_7cf53 ∈ gT := gU_4 10 rfl rfl
theorem wL_Jx4a65c_79 : Cond.methodLink RJx4a65c 79 Lib.Math.max.name ∈ gT := gU_4 10 rfl rfl
theorem wLs_mmax : Cond.static Lib.Math.max.name ∈ gT := gU_2 107 rfl rfl
theorem wLc_mmax : Cond.code Lib.Math.max.name Lib.Math.max.code 2 (some .int) ∈ gT := gU_2 108 rfl rfl
theorem wk_Jx4a65c_7 : Cond.classLink RJx4a65c 7 "java/lang/Object" ∈ gT := gU_4 11 rfl rfl
theorem cf_Jx4a65c_grow_92f84 : Cf yJx4a65c_grow_92f84 cJx4a65c_grow_92f84 4 (some (.array (.object "java/lang/Object"))) 1 := ⟨gU_3 214 rfl rfl, gU_1 10 rfl rfl, by decide +kernel, by decide +kernel, by decide +kernel⟩
theorem wi_Jx4a65c_grow_92f84 : Cond.instanceMethod yJx4a65c_grow_92f84 ∈ gT := gU_3 213 rfl rfl
theorem ws_Jx4a65c_grow_92f84 : Cond.selects yJx4a65c_grow_92f84.cls yJx4a65c_grow_92f84 yJx4a65c_grow_92f84 ∈ gT := gT_of 18 (by decide +kernel) (by decide +kernel)
theorem cf_Jx4a65c_grow_d5877 : Cf yJx4a65c_grow_d5877 cJx4a65c_grow_d5877 1 (some (.array (.object "java/lang/Object"))) 0 := ⟨gU_3 210 rfl rfl, gU_1 10 rfl rfl, by decide +kernel, by decide +kernel, by decide +kernel⟩
theorem wi_Jx4a65c_grow_d5877 : Cond.instanceMethod yJx4a65c_grow_d5877 ∈ gT := gU_3 209 rfl rfl
theorem ws_Jx4a65c_grow_d5877 : Cond.selects yJx4a65c_grow_d5877.cls yJx4a65c_grow_d5877 yJx4a65c_grow_d5877 ∈ gT := gT_of 17 (by decide +kernel) (by decide +kernel)
theorem cf_Jx4a65c_add_72be8 : Cf yJx4a65c_add_72be8 cJx4a65c_add_72be8 4 none 3 := ⟨gU_3 206 rfl rfl, gU_1 10 rfl rfl, by decide +kernel, by decide +kernel, by decide +kernel⟩
theorem wi_Jx4a65c_add_72be8 : Cond.instanceMethod yJx4a65c_add_72be8 ∈ gT := gU_3 205 rfl rfl
theorem ws_Jx4a65c_add_72be8 : Cond.selects yJx4a65c_add_72be8.cls yJx4a65c_add_72be8 yJx4a65c_add_72be8 ∈ gT := gT_of 16 (by decide +kernel) (by decide +kernel)
theorem cf_Jx4a65c_add_9ea2d : Cf yJx4a65c_add_9ea2d cJx4a65c_add_9ea2d 2 (some .boolean) 1 := ⟨gU_3 202 rfl rfl, gU_1 10 rfl rfl, by decide +kernel, by decide +kernel, by decide +kernel⟩
theorem wi_Jx4a65c_add_9ea2d : Cond.instanceMethod yJx4a65c_add_9ea2d ∈ gT := gU_3 200 rfl rfl
theorem ws_Jx4a65c_add_9ea2d : Cond.selects yJx4a65c_add_9ea2d.cls yJx4a65c_add_9ea2d yJx4a65c_add_9ea2d ∈ gT := gU_3 201 rfl rfl
theorem wm_X8_163 : Cond.methodLink RX8 163 yX8_wealth ∈ gT := gU_5 89 rfl rfl
theorem wm_X8_161 : Cond.methodLink RX8 161 yX9_get ∈ gT := gU_5 93 rfl rfl
theorem cf_X8_wealth : Cf yX8_wealth cX8_wealth 5 (some .int) 2 := ⟨gU_5 92 rfl rfl, gU_1 15 rfl rfl, by decide +kernel, by decide +kernel, by decide +kernel⟩
theorem wi_X8_wealth : Cond.instanceMethod yX8_wealth ∈ gT := gU_5 90 rfl rfl
theorem ws_X8_wealth : Cond.selects yX8_wealth.cls yX8_wealth yX8_wealth ∈ gT := gU_5 91 rfl rfl
theorem wm_X7_29 : Cond.methodLink RX7 29 yX7_get ∈ gT := gU_5 115 rfl rfl
theorem wm_X7_33 : Cond.methodLink RX7 33 yX7_renamed ∈ gT := gU_5 116 rfl rfl
theorem cf_X7_renamed : Cf yX7_renamed cX7_renamed 6 (some .int) 3 := ⟨gU_5 118 rfl rfl, gU_1 16 rfl rfl, by decide +kernel, by decide +kernel, by decide +kernel⟩
theorem ws_X7_renamed : Cond.static yX7_renamed ∈ gT := gU_5 117 rfl rfl
theorem wm_X11_181 : Cond.methodLink RX11 181 yX11_areLaws ∈ gT := gU_4 100 rfl rfl
theorem cf_X11_areLaws : Cf yX11_areLaws cX11_areLaws 1 (some .boolean) 1 := ⟨gU_4 102 rfl rfl, gU_1 1 rfl rfl, by decide +kernel, by decide +kernel, by decide +kernel⟩
theorem ws_X11_areLaws : Cond.static yX11_areLaws ∈ gT := gU_4 101 rfl rfl
theorem wm_X11_203 : Cond.methodLink RX11 203 yX11_isDepth ∈ gT := gU_4 204 rfl rfl
theorem cf_X11_isDepth : Cf yX11_isDepth cX11_isDepth 1 (some .boolean) 1 := ⟨gU_4 206 rfl rfl, gU_1 1 rfl rfl, by decide +kernel, by decide +kernel, by decide +kernel⟩
theorem ws_X11_isDepth : Cond.static yX11_isDepth ∈ gT := gU_4 205 rfl rfl
theorem wm_X11_232 : Cond.methodLink RX11 232 yX8_finish ∈ gT := gU_5 66 rfl rfl
theorem cf_X8_finish : Cf yX8_finish cX8_finish 3 none 0 := ⟨gU_5 69 rfl rfl, gU_1 15 rfl rfl, by decide +kernel, by decide +kernel, by decide +kernel⟩
theorem wi_X8_finish : Cond.instanceMethod yX8_finish ∈ gT := gU_5 67 rfl rfl
theorem ws_X8_finish : Cond.selects yX8_finish.cls yX8_finish yX8_finish ∈ gT := gU_5 68 rfl rfl
theorem wf_X11_213 : Cond.fieldLink RX11 213 "LawHoles$Search" "count" "I" ∈ gT := gU_2 57 rfl rfl
theorem wm_X11_235 : Cond.methodLink RX11 235 yX8_unlike ∈ gT := gU_5 70 rfl rfl
theorem wm_X8_167 : Cond.methodLink RX8 167 yX8_leastName ∈ gT := gU_5 74 rfl rfl
theorem cf_X8_leastName : Cf yX8_leastName cX8_leastName 4 (some .long) 0 := ⟨gU_5 77 rfl rfl, gU_1 15 rfl rfl, by decide +kernel, by decide +kernel, by decide +kernel⟩
theorem wi_X8_leastName : Cond.instanceMethod yX8_leastName ∈ gT := gU_5 76 rfl rfl
theorem ws_X8_leastName : Cond.selects yX8_leastName.cls yX8_leastName yX8_leastName ∈ gT := gT_of 30 (by decide +kernel) (by decide +kernel)
theorem wf_X8_35 : Cond.fieldLink RX8 35 "LawHoles$Search" "names" "[J" ∈ gT := gU_2 47 rfl rfl
theorem cf_X8_unlike : Cf yX8_unlike cX8_unlike 7 (some .int) 0 := ⟨gU_5 73 rfl rfl, gU_1 15 rfl rfl, by decide +kernel, by decide +kernel, by decide +kernel⟩
theorem wi_X8_unlike : Cond.instanceMethod yX8_unlike ∈ gT := gU_5 71 rfl rfl
theorem ws_X8_unlike : Cond.selects yX8_unlike.cls yX8_unlike yX8_unlike ∈ gT := gU_5 72 rfl rfl
theorem wm_X4_27 : Cond.methodLink RX4 27 yJx4a65c_size_8abf5 ∈ gT := gU_4 32 rfl rfl
theorem wm_X4_31 : Cond.methodLink RX4 31 yJx4a65c_get_915e3 ∈ gT := gU_4 33 rfl rfl
theorem wk_X4_9 : Cond.classLink RX4 9 RX0 ∈ gT := gU_1 191 rfl rfl
theorem wm_X11_150 : Cond.methodLink RX11 150 yX4_actAt ∈ gT := gU_4 73 rfl rfl
theorem wf_X11_154 : Cond.fieldLink RX11 154 "LawHoles$Act" "withOther" "Z" ∈ gT := gU_3 102 rfl rfl
theorem wf_X11_160 : Cond.fieldLink RX11 160 "LawHoles$Act" "withThing" "Z" ∈ gT := gU_3 106 rfl rfl
theorem wf_X11_163 : Cond.fieldLink RX11 163 "LawHoles$Act" "needs" "Ljava/util/ArrayList;" ∈ gT := gU_3 94 rfl rfl
theorem wf_X11_166 : Cond.fieldLink RX11 166 "LawHoles$Act" "makes" "Ljava/util/ArrayList;" ∈ gT := gU_3 98 rfl rfl
theorem wf_X11_188 : Cond.fieldLink RX11 188 "LawHoles$Court" "reason" "I" ∈ gT := gU_2 19 rfl rfl
theorem wf_X11_136 : Cond.fieldLink RX11 136 "LawHoles$Law" "cures" "Ljava/util/ArrayList;" ∈ gT := gU_1 201 rfl rfl
theorem wk_X11_139 : Cond.classLink RX11 139 RX3 ∈ gT := gU_4 50 rfl rfl
theorem wn_X3 : Cond.instantiable RX3 2 ∈ gT := gU_4 51 rfl rfl
theorem w0_X3 : Cond.initialized RX3 ∈ gT := gU_1 26 rfl rfl
theorem wm_X11_141 : Cond.methodLink RX11 141 yX3_init ∈ gT := gU_4 52 rfl rfl
theorem cf_X3_init : Cf yX3_init cX3_init 3 none 2 := ⟨gU_4 54 rfl rfl, gU_1 26 rfl rfl, by decide +kernel, by decide +kernel, by decide +kernel⟩
theorem wi_X3_init : Cond.instanceMethod yX3_init ∈ gT := gU_4 53 rfl rfl
theorem wm_X11_96 : Cond.methodLink RX11 96 yX5_kind ∈ gT := gU_3 60 rfl rfl
theorem wm_X11_102 : Cond.methodLink RX11 102 yX5_readAct ∈ gT := gU_3 64 rfl rfl
theorem wn_X0 : Cond.instantiable RX0 5 ∈ gT := gU_3 78 rfl rfl
theorem w0_X0 : Cond.initialized RX0 ∈ gT := gU_1 20 rfl rfl
theorem wm_X5_94 : Cond.methodLink RX5 94 yX0_init ∈ gT := gU_3 83 rfl rfl
theorem cf_X0_init : Cf yX0_init cX0_init 3 none 1 := ⟨gU_3 85 rfl rfl, gU_1 20 rfl rfl, by decide +kernel, by decide +kernel, by decide +kernel⟩
theorem wi_X0_init : Cond.instanceMethod yX0_init ∈ gT := gU_3 84 rfl rfl
theorem wm_X5_101 : Cond.methodLink RX5 101 yX5_isNamed ∈ gT := gU_3 118 rfl rfl
theorem cf_X5_isNamed : Cf yX5_isNamed cX5_isNamed 4 (some .boolean) 1 := ⟨gU_3 121 rfl rfl, gU_1 2 rfl rfl, by decide +kernel, by decide +kernel, by decide +kernel⟩
theorem wi_X5_isNamed : Cond.instanceMethod yX5_isNamed ∈ gT := gU_3 120 rfl rfl
theorem ws_X5_isNamed : Cond.selects yX5_isNamed.cls yX5_isNamed yX5_isNamed ∈ gT := gT_of 8 (by decide +kernel) (by decide +kernel)
theorem wf_X5_109 : Cond.fieldLink RX5 109 "LawHoles$Act" "needs" "Ljava/util/ArrayList;" ∈ gT := gU_3 93 rfl rfl
theorem wm_X5_115 : Cond.methodLink RX5 115 yX5_clause ∈ gT := gU_3 162 rfl rfl
theorem wm_X5_119 : Cond.methodLink RX5 119 yJx4a65c_add_9ea2d ∈ gT := gU_3 199 rfl rfl
theorem wm_X5_105 : Cond.methodLink RX5 105 yX5_readMake ∈ gT := gU_3 134 rfl rfl
theorem wf_X5_133 : Cond.fieldLink RX5 133 "LawHoles$Act" "makes" "Ljava/util/ArrayList;" ∈ gT := gU_3 97 rfl rfl
theorem wm_X5_136 : Cond.methodLink RX5 136 yX5_readChanged ∈ gT := gU_3 138 rfl rfl
theorem cf_X5_readChanged : Cf yX5_readChanged cX5_readChanged 2 (some .int) 1 := ⟨gU_3 141 rfl rfl, gU_1 2 rfl rfl, by decide +kernel, by decide +kernel, by decide +kernel⟩
theorem wi_X5_readChanged : Cond.instanceMethod yX5_readChanged ∈ gT := gU_3 140 rfl rfl
theorem ws_X5_readChanged : Cond.selects yX5_readChanged.cls yX5_readChanged yX5_readChanged ∈ gT := gT_of 10 (by decide +kernel) (by decide +kernel)
theorem wm_X5_140 : Cond.methodLink RX5 140 yX5_readAmount ∈ gT := gU_3 146 rfl rfl
theorem cf_X5_readAmount : Cf yX5_readAmount cX5_readAmount 3 (some .boolean) 1 := ⟨gU_3 149 rfl rfl, gU_1 2 rfl rfl, by decide +kernel, by decide +kernel, by decide +kernel⟩
theorem wi_X5_readAmount : Cond.instanceMethod yX5_readAmount ∈ gT := gU_3 148 rfl rfl
theorem ws_X5_readAmount : Cond.selects yX5_readAmount.cls yX5_readAmount yX5_readAmount ∈ gT := gT_of 12 (by decide +kernel) (by decide +kernel)
theorem cf_X5_readMake : Cf yX5_readMake cX5_readMake 5 (some .boolean) 1 := ⟨gU_3 137 rfl rfl, gU_1 2 rfl rfl, by decide +kernel, by decide +kernel, by decide +kernel⟩
theorem wi_X5_readMake : Cond.instanceMethod yX5_readMake ∈ gT := gU_3 136 rfl rfl
theorem ws_X5_readMake : Cond.selects yX5_readMake.cls yX5_readMake yX5_readMake ∈ gT := gT_of 9 (by decide +kernel) (by decide +kernel)
theorem wf_X5_123 : Cond.fieldLink RX5 123 "LawHoles$Act" "withOther" "Z" ∈ gT := gU_3 101 rfl rfl
theorem wf_X5_126 : Cond.fieldLink RX5 126 "LawHoles$Act" "withThing" "Z" ∈ gT := gU_3 105 rfl rfl
theorem cf_X5_readAct : Cf yX5_readAct cX5_readAct 3 (some .boolean) 0 := ⟨gU_3 67 rfl rfl, gU_1 2 rfl rfl, by decide +kernel, by decide +kernel, by decide +kernel⟩
theorem wi_X5_readAct : Cond.instanceMethod yX5_readAct ∈ gT := gU_3 65 rfl rfl
theorem ws_X5_readAct : Cond.selects yX5_readAct.cls yX5_readAct yX5_readAct ∈ gT := gU_3 66 rfl rfl
theorem wm_X11_106 : Cond.methodLink RX11 106 yX5_isAtEnd ∈ gT := gU_4 24 rfl rfl
theorem wf_X11_109 : Cond.fieldLink RX11 109 "LawHoles$Reader" "acts" "Ljava/util/ArrayList;" ∈ gT := gU_1 161 rfl rfl
theorem wm_X11_113 : Cond.methodLink RX11 113 yX4_enact ∈ gT := gU_4 28 rfl rfl
theorem cf_X4_enact : Cf yX4_enact cX4_enact 5 none 2 := ⟨gU_4 31 rfl rfl, gU_1 11 rfl rfl, by decide +kernel, by decide +kernel, by decide +kernel⟩
theorem wi_X4_enact : Cond.instanceMethod yX4_enact ∈ gT := gU_4 29 rfl rfl
theorem ws_X4_enact : Cond.selects yX4_enact.cls yX4_enact yX4_enact ∈ gT := gU_4 30 rfl rfl
theorem wm_X11_200 : Cond.methodLink RX11 200 yX11_isNever ∈ gT := gU_4 200 rfl rfl
theorem cf_X11_isNever : Cf yX11_isNever cX11_isNever 2 (some .boolean) 1 := ⟨gU_4 203 rfl rfl, gU_1 1 rfl rfl, by decide +kernel, by decide +kernel, by decide +kernel⟩
theorem wi_X11_isNever : Cond.instanceMethod yX11_isNever ∈ gT := gU_4 202 rfl rfl
theorem ws_X11_isNever : Cond.selects yX11_isNever.cls yX11_isNever yX11_isNever ∈ gT := gT_of 23 (by decide +kernel) (by decide +kernel)
theorem wm_X11_223 : Cond.methodLink RX11 223 yJ6_bitCount_0f7a4 ∈ gT := gU_5 48 rfl rfl
theorem wc_J6_265 : Cond.constant RJ6 265 1431655765 ∈ gT := gU_5 51 rfl rfl
theorem wc_J6_266 : Cond.constant RJ6 266 858993459 ∈ gT := gU_5 52 rfl rfl
theorem wc_J6_267 : Cond.constant RJ6 267 252645135 ∈ gT := gU_5 53 rfl rfl
theorem cf_J6_bitCount_0f7a4 : Cf yJ6_bitCount_0f7a4 cJ6_bitCount_0f7a4 1 (some .int) 1 := ⟨gU_5 50 rfl rfl, gU_1 27 rfl rfl, by decide +kernel, by decide +kernel, by decide +kernel⟩
theorem ws_J6_bitCount_0f7a4 : Cond.static yJ6_bitCount_0f7a4 ∈ gT := gU_5 49 rfl rfl
theorem wm_X11_228 : Cond.methodLink RX11 228 yX11_hasHole ∈ gT := gU_5 58 rfl rfl
theorem cf_X11_hasHole : Cf yX11_hasHole cX11_hasHole 4 (some .int) 3 := ⟨gU_5 61 rfl rfl, gU_1 1 rfl rfl, by decide +kernel, by decide +kernel, by decide +kernel⟩
theorem wi_X11_hasHole : Cond.instanceMethod yX11_hasHole ∈ gT := gU_5 60 rfl rfl
theorem ws_X11_hasHole : Cond.selects yX11_hasHole.cls yX11_hasHole yX11_hasHole ∈ gT := gT_of 29 (by decide +kernel) (by decide +kernel)
theorem wm_X11_244 : Cond.methodLink RX11 244 yX11_stopsWith ∈ gT := gU_5 99 rfl rfl
theorem cf_X11_stopsWith : Cf yX11_stopsWith cX11_stopsWith 5 (some .boolean) 3 := ⟨gU_5 102 rfl rfl, gU_1 1 rfl rfl, by decide +kernel, by decide +kernel, by decide +kernel⟩
theorem wi_X11_stopsWith : Cond.instanceMethod yX11_stopsWith ∈ gT := gU_5 101 rfl rfl
theorem ws_X11_stopsWith : Cond.selects yX11_stopsWith.cls yX11_stopsWith yX11_stopsWith ∈ gT := gT_of 31 (by decide +kernel) (by decide +kernel)
theorem wm_X11_238 : Cond.methodLink RX11 238 yX8_richest ∈ gT := gU_5 85 rfl rfl
theorem cf_X8_richest : Cf yX8_richest cX8_richest 6 (some .int) 1 := ⟨gU_5 88 rfl rfl, gU_1 15 rfl rfl, by decide +kernel, by decide +kernel, by decide +kernel⟩
theorem wi_X8_richest : Cond.instanceMethod yX8_richest ∈ gT := gU_5 86 rfl rfl
theorem ws_X8_richest : Cond.selects yX8_richest.cls yX8_richest yX8_richest ∈ gT := gU_5 87 rfl rfl
theorem wm_X11_219 : Cond.methodLink RX11 219 yX8_code ∈ gT := gU_5 40 rfl rfl
theorem cf_X8_code : Cf yX8_code cX8_code 5 (some .int) 2 := ⟨gU_5 43 rfl rfl, gU_1 15 rfl rfl, by decide +kernel, by decide +kernel, by decide +kernel⟩
theorem wi_X8_code : Cond.instanceMethod yX8_code ∈ gT := gU_5 41 rfl rfl
theorem ws_X8_code : Cond.selects yX8_code.cls yX8_code yX8_code ∈ gT := gU_5 42 rfl rfl
theorem wm_X11_217 : Cond.methodLink RX11 217 yX8_acts ∈ gT := gU_5 39 rfl rfl
theorem wm_X11_241 : Cond.methodLink RX11 241 yX8_wealth ∈ gT := gU_5 94 rfl rfl
theorem wm_X11_248 : Cond.methodLink RX11 248 yX7_endOf ∈ gT := gU_5 111 rfl rfl
theorem cf_X7_endOf : Cf yX7_endOf cX7_endOf 6 (some .int) 3 := ⟨gU_5 114 rfl rfl, gU_1 16 rfl rfl, by decide +kernel, by decide +kernel, by decide +kernel⟩
theorem wi_X7_endOf : Cond.instanceMethod yX7_endOf ∈ gT := gU_5 112 rfl rfl
theorem ws_X7_endOf : Cond.selects yX7_endOf.cls yX7_endOf yX7_endOf ∈ gT := gU_5 113 rfl rfl
theorem wm_X11_252 : Cond.methodLink RX11 252 yX11_digits ∈ gT := gU_5 123 rfl rfl
theorem cf_X11_digits : Cf yX11_digits cX11_digits 1 (some .int) 1 := ⟨gU_5 125 rfl rfl, gU_1 1 rfl rfl, by decide +kernel, by decide +kernel, by decide +kernel⟩
theorem ws_X11_digits : Cond.static yX11_digits ∈ gT := gU_5 124 rfl rfl
theorem cf_J0_indexOf_7cf53 : Cf yJ0_indexOf_7cf53 cJ0_indexOf_7cf53 3 (some .int) 2 := ⟨gU_3 8 rfl rfl, gU_1 4 rfl rfl, by decide +kernel, by decide +kernel, by decide +kernel⟩
theorem cf_J1_canEncode_9a6ad : Cf yJ1_canEncode_9a6ad cJ1_canEncode_9a6ad 1 (some .boolean) 1 := ⟨gU_3 15 rfl rfl, gU_1 5 rfl rfl, by decide +kernel, by decide +kernel, by decide +kernel⟩
theorem cf_J1_indexOf_4cfef : Cf yJ1_indexOf_4cfef cJ1_indexOf_4cfef 4 (some .int) 4 := ⟨gU_3 12 rfl rfl, gU_1 5 rfl rfl, by decide +kernel, by decide +kernel, by decide +kernel⟩
theorem cf_J1_indexOfChar_4cfef : Cf yJ1_indexOfChar_4cfef cJ1_indexOfChar_4cfef 6 (some .int) 4 := ⟨gU_3 20 rfl rfl, gU_1 5 rfl rfl, by decide +kernel, by decide +kernel, by decide +kernel⟩
theorem ws_J1_canEncode_9a6ad : Cond.static yJ1_canEncode_9a6ad ∈ gT := gU_3 14 rfl rfl
theorem ws_J1_indexOf_4cfef : Cond.static yJ1_indexOf_4cfef ∈ gT := gU_3 11 rfl rfl
theorem ws_J1_indexOfChar_4cfef : Cond.static yJ1_indexOfChar_4cfef ∈ gT := gU_3 19 rfl rfl
theorem wi_J0_indexOf_7cf53 : Cond.instanceMethod yJ0_indexOf_7cf53 ∈ gT := gU_3 6 rfl rfl
theorem ws_J0_indexOf_7cf53 : Cond.selects yJ0_indexOf_7cf53.cls yJ0_indexOf_7cf53 yJ0_indexOf_7cf53 ∈ gT := gU_3 7 rfl rfl
theorem wm_J0_633 : Cond.methodLink RJ0 633 yJ0_indexOf_7cf53 ∈ gT := gU_3 5 rfl rfl
theorem wm_J0_505 : Cond.methodLink RJ0 505 yJ0_length_8abf5 ∈ gT := gU_3 9 rfl rfl
theorem wm_J0_637 : Cond.methodLink RJ0 637 yJ1_indexOf_4cfef ∈ gT := gU_3 10 rfl rfl
theorem wm_J1_88 : Cond.methodLink RJ1 88 yJ1_canEncode_9a6ad ∈ gT := gU_3 13 rfl rfl
theorem wm_J1_95 : Cond.methodLink RJ1 95 yJ1_indexOfChar_4cfef ∈ gT := gU_3 18 rfl rfl
theorem wL_J1_92 : Cond.methodLink RJ1 92 Lib.Math.max.name ∈ gT := gU_3 16 rfl rfl
theorem wL_J1_38 : Cond.methodLink RJ1 38 Lib.Math.min.name ∈ gT := gU_3 17 rfl rfl
theorem dJ0_indexOf_0f7a4_0 : decode cJ0_indexOf_0f7a4 0 = .ok (.aload_n 0, 1) := by decide +kernel
theorem dJ0_indexOf_0f7a4_1 : decode cJ0_indexOf_0f7a4 1 = .ok (.iload_n 1, 1) := by decide +kernel
theorem dJ0_indexOf_0f7a4_2 : decode cJ0_indexOf_0f7a4 2 = .ok (.iconst 0, 1) := by decide +kernel
theorem dJ0_indexOf_0f7a4_3 : decode cJ0_indexOf_0f7a4 3 = .ok (.invokevirtual 633, 3) := by decide +kernel
theorem dJ0_indexOf_0f7a4_6 : decode cJ0_indexOf_0f7a4 6 = .ok (.ireturn, 1) := by decide +kernel
theorem dJ0_indexOf_7cf53_0 : decode cJ0_indexOf_7cf53 0 = .ok (.aload_n 0, 1) := by decide +kernel
theorem dJ0_indexOf_7cf53_1 : decode cJ0_indexOf_7cf53 1 = .ok (.invokevirtual 492, 3) := by decide +kernel
theorem dJ0_indexOf_7cf53_4 : decode cJ0_indexOf_7cf53 4 = .ok (.ifCond .eq 19, 3) := by decide +kernel
theorem dJ0_indexOf_7cf53_7 : decode cJ0_indexOf_7cf53 7 = .ok (.aload_n 0, 1) := by decide +kernel
theorem dJ0_indexOf_7cf53_8 : decode cJ0_indexOf_7cf53 8 = .ok (.getfield 9, 3) := by decide +kernel
theorem dJ0_indexOf_7cf53_11 : decode cJ0_indexOf_7cf53 11 = .ok (.iload_n 1, 1) := by decide +kernel
theorem dJ0_indexOf_7cf53_12 : decode cJ0_indexOf_7cf53 12 = .ok (.iload_n 2, 1) := by decide +kernel
theorem dJ0_indexOf_7cf53_13 : decode cJ0_indexOf_7cf53 13 = .ok (.aload_n 0, 1) := by decide +kernel
theorem dJ0_indexOf_7cf53_14 : decode cJ0_indexOf_7cf53 14 = .ok (.invokevirtual 505, 3) := by decide +kernel
theorem dJ0_indexOf_7cf53_17 : decode cJ0_indexOf_7cf53 17 = .ok (.invokestatic 637, 3) := by decide +kernel
theorem dJ0_indexOf_7cf53_20 : decode cJ0_indexOf_7cf53 20 = .ok (.goto 16, 3) := by decide +kernel
theorem dJ0_indexOf_7cf53_23 : decode cJ0_indexOf_7cf53 23 = .ok (.aload_n 0, 1) := by decide +kernel
theorem dJ0_indexOf_7cf53_24 : decode cJ0_indexOf_7cf53 24 = .ok (.getfield 9, 3) := by decide +kernel
theorem dJ0_indexOf_7cf53_27 : decode cJ0_indexOf_7cf53 27 = .ok (.iload_n 1, 1) := by decide +kernel
theorem dJ0_indexOf_7cf53_28 : decode cJ0_indexOf_7cf53 28 = .ok (.iload_n 2, 1) := by decide +kernel
theorem dJ0_indexOf_7cf53_29 : decode cJ0_indexOf_7cf53 29 = .ok (.aload_n 0, 1) := by decide +kernel
theorem dJ0_indexOf_7cf53_30 : decode cJ0_indexOf_7cf53 30 = .ok (.invokevirtual 505, 3) := by decide +kernel
theorem dJ0_indexOf_7cf53_33 : decode cJ0_indexOf_7cf53 33 = .ok (.invokestatic 640, 3) := by decide +kernel
theorem dJ0_indexOf_7cf53_36 : decode cJ0_indexOf_7cf53 36 = .ok (.ireturn, 1) := by decide +kernel
theorem dJ15_checkIndex_7cf53_0 : decode cJ15_checkIndex_7cf53 0 = .ok (.iload_n 0, 1) := by decide +kernel
theorem dJ15_checkIndex_7cf53_1 : decode cJ15_checkIndex_7cf53 1 = .ok (.iload_n 1, 1) := by decide +kernel
theorem dJ15_checkIndex_7cf53_2 : decode cJ15_checkIndex_7cf53 2 = .ok (.aconst_null, 1) := by decide +kernel
theorem dJ15_checkIndex_7cf53_3 : decode cJ15_checkIndex_7cf53 3 = .ok (.invokestatic 105, 3) := by decide +kernel
theorem dJ15_checkIndex_7cf53_6 : decode cJ15_checkIndex_7cf53 6 = .ok (.ireturn, 1) := by decide +kernel
theorem dJ1_canEncode_9a6ad_0 : decode cJ1_canEncode_9a6ad 0 = .ok (.iload_n 0, 1) := by decide +kernel
theorem dJ1_canEncode_9a6ad_1 : decode cJ1_canEncode_9a6ad 1 = .ok (.ifCond .lt 14, 3) := by decide +kernel
theorem dJ1_canEncode_9a6ad_4 : decode cJ1_canEncode_9a6ad 4 = .ok (.iload_n 0, 1) := by decide +kernel
theorem dJ1_canEncode_9a6ad_5 : decode cJ1_canEncode_9a6ad 5 = .ok (.sipush 255, 3) := by decide +kernel
theorem dJ1_canEncode_9a6ad_8 : decode cJ1_canEncode_9a6ad 8 = .ok (.if_icmp .gt 7, 3) := by decide +kernel
theorem dJ1_canEncode_9a6ad_11 : decode cJ1_canEncode_9a6ad 11 = .ok (.iconst 1, 1) := by decide +kernel
theorem dJ1_canEncode_9a6ad_12 : decode cJ1_canEncode_9a6ad 12 = .ok (.goto 4, 3) := by decide +kernel
theorem dJ1_canEncode_9a6ad_15 : decode cJ1_canEncode_9a6ad 15 = .ok (.iconst 0, 1) := by decide +kernel
theorem dJ1_canEncode_9a6ad_16 : decode cJ1_canEncode_9a6ad 16 = .ok (.ireturn, 1) := by decide +kernel
theorem dJ1_indexOfChar_4cfef_0 : decode cJ1_indexOfChar_4cfef 0 = .ok (.iload_n 1, 1) := by decide +kernel
theorem dJ1_indexOfChar_4cfef_1 : decode cJ1_indexOfChar_4cfef 1 = .ok (.i2b, 1) := by decide +kernel
theorem dJ1_indexOfChar_4cfef_2 : decode cJ1_indexOfChar_4cfef 2 = .ok (.istore 4, 2) := by decide +kernel
theorem dJ1_indexOfChar_4cfef_4 : decode cJ1_indexOfChar_4cfef 4 = .ok (.iload_n 2, 1) := by decide +kernel
theorem dJ1_indexOfChar_4cfef_5 : decode cJ1_indexOfChar_4cfef 5 = .ok (.istore 5, 2) := by decide +kernel
theorem dJ1_indexOfChar_4cfef_7 : decode cJ1_indexOfChar_4cfef 7 = .ok (.iload 5, 2) := by decide +kernel
theorem dJ1_indexOfChar_4cfef_9 : decode cJ1_indexOfChar_4cfef 9 = .ok (.iload_n 3, 1) := by decide +kernel
theorem dJ1_indexOfChar_4cfef_10 : decode cJ1_indexOfChar_4cfef 10 = .ok (.if_icmp .ge 21, 3) := by decide +kernel
theorem dJ1_indexOfChar_4cfef_13 : decode cJ1_indexOfChar_4cfef 13 = .ok (.aload_n 0, 1) := by decide +kernel
theorem dJ1_indexOfChar_4cfef_14 : decode cJ1_indexOfChar_4cfef 14 = .ok (.iload 5, 2) := by decide +kernel
theorem dJ1_indexOfChar_4cfef_16 : decode cJ1_indexOfChar_4cfef 16 = .ok (.baload, 1) := by decide +kernel
theorem dJ1_indexOfChar_4cfef_17 : decode cJ1_indexOfChar_4cfef 17 = .ok (.iload 4, 2) := by decide +kernel
theorem dJ1_indexOfChar_4cfef_19 : decode cJ1_indexOfChar_4cfef 19 = .ok (.if_icmp .ne 6, 3) := by decide +kernel
theorem dJ1_indexOfChar_4cfef_22 : decode cJ1_indexOfChar_4cfef 22 = .ok (.iload 5, 2) := by decide +kernel
theorem dJ1_indexOfChar_4cfef_24 : decode cJ1_indexOfChar_4cfef 24 = .ok (.ireturn, 1) := by decide +kernel
theorem dJ1_indexOfChar_4cfef_25 : decode cJ1_indexOfChar_4cfef 25 = .ok (.iinc 5 1, 3) := by decide +kernel
theorem dJ1_indexOfChar_4cfef_28 : decode cJ1_indexOfChar_4cfef 28 = .ok (.goto (-21), 3) := by decide +kernel
theorem dJ1_indexOfChar_4cfef_31 : decode cJ1_indexOfChar_4cfef 31 = .ok (.iconst (-1), 1) := by decide +kernel
theorem dJ1_indexOfChar_4cfef_32 : decode cJ1_indexOfChar_4cfef 32 = .ok (.ireturn, 1) := by decide +kernel
theorem dJ1_indexOf_4cfef_0 : decode cJ1_indexOf_4cfef 0 = .ok (.iload_n 1, 1) := by decide +kernel
theorem dJ1_indexOf_4cfef_1 : decode cJ1_indexOf_4cfef 1 = .ok (.invokestatic 88, 3) := by decide +kernel
theorem dJ1_indexOf_4cfef_4 : decode cJ1_indexOf_4cfef 4 = .ok (.ifCond .ne 5, 3) := by decide +kernel
theorem dJ1_indexOf_4cfef_7 : decode cJ1_indexOf_4cfef 7 = .ok (.iconst (-1), 1) := by decide +kernel
theorem dJ1_indexOf_4cfef_8 : decode cJ1_indexOf_4cfef 8 = .ok (.ireturn, 1) := by decide +kernel
theorem dJ1_indexOf_4cfef_9 : decode cJ1_indexOf_4cfef 9 = .ok (.iload_n 2, 1) := by decide +kernel
theorem dJ1_indexOf_4cfef_10 : decode cJ1_indexOf_4cfef 10 = .ok (.iconst 0, 1) := by decide +kernel
theorem dJ1_indexOf_4cfef_11 : decode cJ1_indexOf_4cfef 11 = .ok (.invokestatic 92, 3) := by decide +kernel
theorem dJ1_indexOf_4cfef_14 : decode cJ1_indexOf_4cfef 14 = .ok (.istore_n 2, 1) := by decide +kernel
theorem dJ1_indexOf_4cfef_15 : decode cJ1_indexOf_4cfef 15 = .ok (.iload_n 3, 1) := by decide +kernel
theorem dJ1_indexOf_4cfef_16 : decode cJ1_indexOf_4cfef 16 = .ok (.aload_n 0, 1) := by decide +kernel
theorem dJ1_indexOf_4cfef_17 : decode cJ1_indexOf_4cfef 17 = .ok (.arraylength, 1) := by decide +kernel
theorem dJ1_indexOf_4cfef_18 : decode cJ1_indexOf_4cfef 18 = .ok (.invokestatic 38, 3) := by decide +kernel
theorem dJ1_indexOf_4cfef_21 : decode cJ1_indexOf_4cfef 21 = .ok (.istore_n 3, 1) := by decide +kernel
theorem dJ1_indexOf_4cfef_22 : decode cJ1_indexOf_4cfef 22 = .ok (.iload_n 2, 1) := by decide +kernel
theorem dJ1_indexOf_4cfef_23 : decode cJ1_indexOf_4cfef 23 = .ok (.iload_n 3, 1) := by decide +kernel
theorem dJ1_indexOf_4cfef_24 : decode cJ1_indexOf_4cfef 24 = .ok (.if_icmp .lt 5, 3) := by decide +kernel
theorem dJ1_indexOf_4cfef_27 : decode cJ1_indexOf_4cfef 27 = .ok (.iconst (-1), 1) := by decide +kernel
theorem dJ1_indexOf_4cfef_28 : decode cJ1_indexOf_4cfef 28 = .ok (.ireturn, 1) := by decide +kernel
theorem dJ1_indexOf_4cfef_29 : decode cJ1_indexOf_4cfef 29 = .ok (.aload_n 0, 1) := by decide +kernel
theorem dJ1_indexOf_4cfef_30 : decode cJ1_indexOf_4cfef 30 = .ok (.iload_n 1, 1) := by decide +kernel
theorem dJ1_indexOf_4cfef_31 : decode cJ1_indexOf_4cfef 31 = .ok (.iload_n 2, 1) := by decide +kernel
theorem dJ1_indexOf_4cfef_32 : decode cJ1_indexOf_4cfef 32 = .ok (.iload_n 3, 1) := by decide +kernel
theorem dJ1_indexOf_4cfef_33 : decode cJ1_indexOf_4cfef 33 = .ok (.invokestatic 95, 3) := by decide +kernel
theorem dJ1_indexOf_4cfef_36 : decode cJ1_indexOf_4cfef 36 = .ok (.ireturn, 1) := by decide +kernel
theorem dJ6_bitCount_0f7a4_0 : decode cJ6_bitCount_0f7a4 0 = .ok (.iload_n 0, 1) := by decide +kernel
theorem dJ6_bitCount_0f7a4_1 : decode cJ6_bitCount_0f7a4 1 = .ok (.iload_n 0, 1) := by decide +kernel
theorem dJ6_bitCount_0f7a4_2 : decode cJ6_bitCount_0f7a4 2 = .ok (.iconst 1, 1) := by decide +kernel
theorem dJ6_bitCount_0f7a4_3 : decode cJ6_bitCount_0f7a4 3 = .ok (.iushr, 1) := by decide +kernel
theorem dJ6_bitCount_0f7a4_4 : decode cJ6_bitCount_0f7a4 4 = .ok (.ldc_w 265, 3) := by decide +kernel
theorem dJ6_bitCount_0f7a4_7 : decode cJ6_bitCount_0f7a4 7 = .ok (.iand, 1) := by decide +kernel
theorem dJ6_bitCount_0f7a4_8 : decode cJ6_bitCount_0f7a4 8 = .ok (.isub, 1) := by decide +kernel
theorem dJ6_bitCount_0f7a4_9 : decode cJ6_bitCount_0f7a4 9 = .ok (.istore_n 0, 1) := by decide +kernel
theorem dJ6_bitCount_0f7a4_10 : decode cJ6_bitCount_0f7a4 10 = .ok (.iload_n 0, 1) := by decide +kernel
theorem dJ6_bitCount_0f7a4_11 : decode cJ6_bitCount_0f7a4 11 = .ok (.ldc_w 266, 3) := by decide +kernel
theorem dJ6_bitCount_0f7a4_14 : decode cJ6_bitCount_0f7a4 14 = .ok (.iand, 1) := by decide +kernel
theorem dJ6_bitCount_0f7a4_15 : decode cJ6_bitCount_0f7a4 15 = .ok (.iload_n 0, 1) := by decide +kernel
theorem dJ6_bitCount_0f7a4_16 : decode cJ6_bitCount_0f7a4 16 = .ok (.iconst 2, 1) := by decide +kernel
theorem dJ6_bitCount_0f7a4_17 : decode cJ6_bitCount_0f7a4 17 = .ok (.iushr, 1) := by decide +kernel
theorem dJ6_bitCount_0f7a4_18 : decode cJ6_bitCount_0f7a4 18 = .ok (.ldc_w 266, 3) := by decide +kernel
theorem dJ6_bitCount_0f7a4_21 : decode cJ6_bitCount_0f7a4 21 = .ok (.iand, 1) := by decide +kernel
theorem dJ6_bitCount_0f7a4_22 : decode cJ6_bitCount_0f7a4 22 = .ok (.iadd, 1) := by decide +kernel
theorem dJ6_bitCount_0f7a4_23 : decode cJ6_bitCount_0f7a4 23 = .ok (.istore_n 0, 1) := by decide +kernel
theorem dJ6_bitCount_0f7a4_24 : decode cJ6_bitCount_0f7a4 24 = .ok (.iload_n 0, 1) := by decide +kernel
theorem dJ6_bitCount_0f7a4_25 : decode cJ6_bitCount_0f7a4 25 = .ok (.iload_n 0, 1) := by decide +kernel
theorem dJ6_bitCount_0f7a4_26 : decode cJ6_bitCount_0f7a4 26 = .ok (.iconst 4, 1) := by decide +kernel
theorem dJ6_bitCount_0f7a4_27 : decode cJ6_bitCount_0f7a4 27 = .ok (.iushr, 1) := by decide +kernel
theorem dJ6_bitCount_0f7a4_28 : decode cJ6_bitCount_0f7a4 28 = .ok (.iadd, 1) := by decide +kernel
theorem dJ6_bitCount_0f7a4_29 : decode cJ6_bitCount_0f7a4 29 = .ok (.ldc_w 267, 3) := by decide +kernel
theorem dJ6_bitCount_0f7a4_32 : decode cJ6_bitCount_0f7a4 32 = .ok (.iand, 1) := by decide +kernel
theorem dJ6_bitCount_0f7a4_33 : decode cJ6_bitCount_0f7a4 33 = .ok (.istore_n 0, 1) := by decide +kernel
theorem dJ6_bitCount_0f7a4_34 : decode cJ6_bitCount_0f7a4 34 = .ok (.iload_n 0, 1) := by decide +kernel
theorem dJ6_bitCount_0f7a4_35 : decode cJ6_bitCount_0f7a4 35 = .ok (.iload_n 0, 1) := by decide +kernel
theorem dJ6_bitCount_0f7a4_36 : decode cJ6_bitCount_0f7a4 36 = .ok (.bipush 8, 2) := by decide +kernel
theorem dJ6_bitCount_0f7a4_38 : decode cJ6_bitCount_0f7a4 38 = .ok (.iushr, 1) := by decide +kernel
theorem dJ6_bitCount_0f7a4_39 : decode cJ6_bitCount_0f7a4 39 = .ok (.iadd, 1) := by decide +kernel
theorem dJ6_bitCount_0f7a4_40 : decode cJ6_bitCount_0f7a4 40 = .ok (.istore_n 0, 1) := by decide +kernel
theorem dJ6_bitCount_0f7a4_41 : decode cJ6_bitCount_0f7a4 41 = .ok (.iload_n 0, 1) := by decide +kernel
theorem dJ6_bitCount_0f7a4_42 : decode cJ6_bitCount_0f7a4 42 = .ok (.iload_n 0, 1) := by decide +kernel
theorem dJ6_bitCount_0f7a4_43 : decode cJ6_bitCount_0f7a4 43 = .ok (.bipush 16, 2) := by decide +kernel
theorem dJ6_bitCount_0f7a4_45 : decode cJ6_bitCount_0f7a4 45 = .ok (.iushr, 1) := by decide +kernel
theorem dJ6_bitCount_0f7a4_46 : decode cJ6_bitCount_0f7a4 46 = .ok (.iadd, 1) := by decide +kernel
theorem dJ6_bitCount_0f7a4_47 : decode cJ6_bitCount_0f7a4 47 = .ok (.istore_n 0, 1) := by decide +kernel
theorem dJ6_bitCount_0f7a4_48 : decode cJ6_bitCount_0f7a4 48 = .ok (.iload_n 0, 1) := by decide +kernel
theorem dJ6_bitCount_0f7a4_49 : decode cJ6_bitCount_0f7a4 49 = .ok (.bipush 63, 2) := by decide +kernel
theorem dJ6_bitCount_0f7a4_51 : decode cJ6_bitCount_0f7a4 51 = .ok (.iand, 1) := by decide +kernel
theorem dJ6_bitCount_0f7a4_52 : decode cJ6_bitCount_0f7a4 52 = .ok (.ireturn, 1) := by decide +kernel
theorem dJ7_copyOf_59c91_0 : decode cJ7_copyOf_59c91 0 = .ok (.iload_n 1, 1) := by decide +kernel
theorem dJ7_copyOf_59c91_1 : decode cJ7_copyOf_59c91 1 = .ok (.aload_n 0, 1) := by decide +kernel
theorem dJ7_copyOf_59c91_2 : decode cJ7_copyOf_59c91 2 = .ok (.arraylength, 1) := by decide +kernel
theorem dJ7_copyOf_59c91_3 : decode cJ7_copyOf_59c91 3 = .ok (.if_icmp .ne 11, 3) := by decide +kernel
theorem dJ7_copyOf_59c91_6 : decode cJ7_copyOf_59c91 6 = .ok (.aload_n 0, 1) := by decide +kernel
theorem dJ7_copyOf_59c91_7 : decode cJ7_copyOf_59c91 7 = .ok (.invokevirtual 316, 3) := by decide +kernel
theorem dJ7_copyOf_59c91_10 : decode cJ7_copyOf_59c91 10 = .ok (.checkcast 317, 3) := by decide +kernel
theorem dJ7_copyOf_59c91_13 : decode cJ7_copyOf_59c91 13 = .ok (.areturn, 1) := by decide +kernel
theorem dJ7_copyOf_59c91_14 : decode cJ7_copyOf_59c91 14 = .ok (.iload_n 1, 1) := by decide +kernel
theorem dJ7_copyOf_59c91_15 : decode cJ7_copyOf_59c91 15 = .ok (.newarray .int, 2) := by decide +kernel
theorem dJ7_copyOf_59c91_17 : decode cJ7_copyOf_59c91 17 = .ok (.astore_n 2, 1) := by decide +kernel
theorem dJ7_copyOf_59c91_18 : decode cJ7_copyOf_59c91 18 = .ok (.aload_n 0, 1) := by decide +kernel
theorem dJ7_copyOf_59c91_19 : decode cJ7_copyOf_59c91 19 = .ok (.iconst 0, 1) := by decide +kernel
theorem dJ7_copyOf_59c91_20 : decode cJ7_copyOf_59c91 20 = .ok (.aload_n 2, 1) := by decide +kernel
theorem dJ7_copyOf_59c91_21 : decode cJ7_copyOf_59c91 21 = .ok (.iconst 0, 1) := by decide +kernel
theorem dJ7_copyOf_59c91_22 : decode cJ7_copyOf_59c91 22 = .ok (.aload_n 0, 1) := by decide +kernel
theorem dJ7_copyOf_59c91_23 : decode cJ7_copyOf_59c91 23 = .ok (.arraylength, 1) := by decide +kernel
theorem dJ7_copyOf_59c91_24 : decode cJ7_copyOf_59c91 24 = .ok (.iload_n 1, 1) := by decide +kernel
theorem dJ7_copyOf_59c91_25 : decode cJ7_copyOf_59c91 25 = .ok (.invokestatic 304, 3) := by decide +kernel
theorem dJ7_copyOf_59c91_28 : decode cJ7_copyOf_59c91 28 = .ok (.invokestatic 150, 3) := by decide +kernel
theorem dJ7_copyOf_59c91_31 : decode cJ7_copyOf_59c91 31 = .ok (.aload_n 2, 1) := by decide +kernel
theorem dJ7_copyOf_59c91_32 : decode cJ7_copyOf_59c91 32 = .ok (.areturn, 1) := by decide +kernel
theorem dJ7_fill_53178_0 : decode cJ7_fill_53178 0 = .ok (.iconst 0, 1) := by decide +kernel
theorem dJ7_fill_53178_1 : decode cJ7_fill_53178 1 = .ok (.istore_n 2, 1) := by decide +kernel
theorem dJ7_fill_53178_2 : decode cJ7_fill_53178 2 = .ok (.aload_n 0, 1) := by decide +kernel
theorem dJ7_fill_53178_3 : decode cJ7_fill_53178 3 = .ok (.arraylength, 1) := by decide +kernel
theorem dJ7_fill_53178_4 : decode cJ7_fill_53178 4 = .ok (.istore_n 3, 1) := by decide +kernel
theorem dJ7_fill_53178_5 : decode cJ7_fill_53178 5 = .ok (.iload_n 2, 1) := by decide +kernel
theorem dJ7_fill_53178_6 : decode cJ7_fill_53178 6 = .ok (.iload_n 3, 1) := by decide +kernel
theorem dJ7_fill_53178_7 : decode cJ7_fill_53178 7 = .ok (.if_icmp .ge 13, 3) := by decide +kernel
theorem dJ7_fill_53178_10 : decode cJ7_fill_53178 10 = .ok (.aload_n 0, 1) := by decide +kernel
theorem dJ7_fill_53178_11 : decode cJ7_fill_53178 11 = .ok (.iload_n 2, 1) := by decide +kernel
theorem dJ7_fill_53178_12 : decode cJ7_fill_53178 12 = .ok (.iload_n 1, 1) := by decide +kernel
theorem dJ7_fill_53178_13 : decode cJ7_fill_53178 13 = .ok (.iastore, 1) := by decide +kernel
theorem dJ7_fill_53178_14 : decode cJ7_fill_53178 14 = .ok (.iinc 2 1, 3) := by decide +kernel
theorem dJ7_fill_53178_17 : decode cJ7_fill_53178 17 = .ok (.goto (-12), 3) := by decide +kernel
theorem dJ7_fill_53178_20 : decode cJ7_fill_53178 20 = .ok (.return_, 1) := by decide +kernel
theorem dJx4a65c_add_72be8_0 : decode cJx4a65c_add_72be8 0 = .ok (.iload_n 3, 1) := by decide +kernel
theorem dJx4a65c_add_72be8_1 : decode cJx4a65c_add_72be8 1 = .ok (.aload_n 2, 1) := by decide +kernel
theorem dJx4a65c_add_72be8_2 : decode cJx4a65c_add_72be8 2 = .ok (.arraylength, 1) := by decide +kernel
theorem dJx4a65c_add_72be8_3 : decode cJx4a65c_add_72be8 3 = .ok (.if_icmp .ne 8, 3) := by decide +kernel
theorem dJx4a65c_add_72be8_6 : decode cJx4a65c_add_72be8 6 = .ok (.aload_n 0, 1) := by decide +kernel
theorem dJx4a65c_add_72be8_7 : decode cJx4a65c_add_72be8 7 = .ok (.invokevirtual 129, 3) := by decide +kernel
theorem dJx4a65c_add_72be8_10 : decode cJx4a65c_add_72be8 10 = .ok (.astore_n 2, 1) := by decide +kernel
theorem dJx4a65c_add_72be8_11 : decode cJx4a65c_add_72be8 11 = .ok (.aload_n 2, 1) := by decide +kernel
theorem dJx4a65c_add_72be8_12 : decode cJx4a65c_add_72be8 12 = .ok (.iload_n 3, 1) := by decide +kernel
theorem dJx4a65c_add_72be8_13 : decode cJx4a65c_add_72be8 13 = .ok (.aload_n 1, 1) := by decide +kernel
theorem dJx4a65c_add_72be8_14 : decode cJx4a65c_add_72be8 14 = .ok (.aastore, 1) := by decide +kernel
theorem dJx4a65c_add_72be8_15 : decode cJx4a65c_add_72be8 15 = .ok (.aload_n 0, 1) := by decide +kernel
theorem dJx4a65c_add_72be8_16 : decode cJx4a65c_add_72be8 16 = .ok (.iload_n 3, 1) := by decide +kernel
theorem dJx4a65c_add_72be8_17 : decode cJx4a65c_add_72be8 17 = .ok (.iconst 1, 1) := by decide +kernel
theorem dJx4a65c_add_72be8_18 : decode cJx4a65c_add_72be8 18 = .ok (.iadd, 1) := by decide +kernel
theorem dJx4a65c_add_72be8_19 : decode cJx4a65c_add_72be8 19 = .ok (.putfield 48, 3) := by decide +kernel
theorem dJx4a65c_add_72be8_22 : decode cJx4a65c_add_72be8 22 = .ok (.return_, 1) := by decide +kernel
theorem dJx4a65c_add_9ea2d_0 : decode cJx4a65c_add_9ea2d 0 = .ok (.aload_n 0, 1) := by decide +kernel
theorem dJx4a65c_add_9ea2d_1 : decode cJx4a65c_add_9ea2d 1 = .ok (.dup, 1) := by decide +kernel
theorem dJx4a65c_add_9ea2d_2 : decode cJx4a65c_add_9ea2d 2 = .ok (.getfield 63, 3) := by decide +kernel
theorem dJx4a65c_add_9ea2d_5 : decode cJx4a65c_add_9ea2d 5 = .ok (.iconst 1, 1) := by decide +kernel
theorem dJx4a65c_add_9ea2d_6 : decode cJx4a65c_add_9ea2d 6 = .ok (.iadd, 1) := by decide +kernel
theorem dJx4a65c_add_9ea2d_7 : decode cJx4a65c_add_9ea2d 7 = .ok (.putfield 63, 3) := by decide +kernel
theorem dJx4a65c_add_9ea2d_10 : decode cJx4a65c_add_9ea2d 10 = .ok (.aload_n 0, 1) := by decide +kernel
theorem dJx4a65c_add_9ea2d_11 : decode cJx4a65c_add_9ea2d 11 = .ok (.aload_n 1, 1) := by decide +kernel
theorem dJx4a65c_add_9ea2d_12 : decode cJx4a65c_add_9ea2d 12 = .ok (.aload_n 0, 1) := by decide +kernel
theorem dJx4a65c_add_9ea2d_13 : decode cJx4a65c_add_9ea2d 13 = .ok (.getfield 9, 3) := by decide +kernel
theorem dJx4a65c_add_9ea2d_16 : decode cJx4a65c_add_9ea2d 16 = .ok (.aload_n 0, 1) := by decide +kernel
theorem dJx4a65c_add_9ea2d_17 : decode cJx4a65c_add_9ea2d 17 = .ok (.getfield 48, 3) := by decide +kernel
theorem dJx4a65c_add_9ea2d_20 : decode cJx4a65c_add_9ea2d 20 = .ok (.invokevirtual 131, 3) := by decide +kernel
theorem dJx4a65c_add_9ea2d_23 : decode cJx4a65c_add_9ea2d 23 = .ok (.iconst 1, 1) := by decide +kernel
theorem dJx4a65c_add_9ea2d_24 : decode cJx4a65c_add_9ea2d 24 = .ok (.ireturn, 1) := by decide +kernel
theorem dJx4a65c_clear_da8c8_0 : decode cJx4a65c_clear_da8c8 0 = .ok (.aload_n 0, 1) := by decide +kernel
theorem dJx4a65c_clear_da8c8_1 : decode cJx4a65c_clear_da8c8 1 = .ok (.dup, 1) := by decide +kernel
theorem dJx4a65c_clear_da8c8_2 : decode cJx4a65c_clear_da8c8 2 = .ok (.getfield 63, 3) := by decide +kernel
theorem dJx4a65c_clear_da8c8_5 : decode cJx4a65c_clear_da8c8 5 = .ok (.iconst 1, 1) := by decide +kernel
theorem dJx4a65c_clear_da8c8_6 : decode cJx4a65c_clear_da8c8 6 = .ok (.iadd, 1) := by decide +kernel
theorem dJx4a65c_clear_da8c8_7 : decode cJx4a65c_clear_da8c8 7 = .ok (.putfield 63, 3) := by decide +kernel
theorem dJx4a65c_clear_da8c8_10 : decode cJx4a65c_clear_da8c8 10 = .ok (.aload_n 0, 1) := by decide +kernel
theorem dJx4a65c_clear_da8c8_11 : decode cJx4a65c_clear_da8c8 11 = .ok (.getfield 9, 3) := by decide +kernel
theorem dJx4a65c_clear_da8c8_14 : decode cJx4a65c_clear_da8c8 14 = .ok (.astore_n 1, 1) := by decide +kernel
theorem dJx4a65c_clear_da8c8_15 : decode cJx4a65c_clear_da8c8 15 = .ok (.aload_n 0, 1) := by decide +kernel
theorem dJx4a65c_clear_da8c8_16 : decode cJx4a65c_clear_da8c8 16 = .ok (.getfield 48, 3) := by decide +kernel
theorem dJx4a65c_clear_da8c8_19 : decode cJx4a65c_clear_da8c8 19 = .ok (.istore_n 2, 1) := by decide +kernel
theorem dJx4a65c_clear_da8c8_20 : decode cJx4a65c_clear_da8c8 20 = .ok (.aload_n 0, 1) := by decide +kernel
theorem dJx4a65c_clear_da8c8_21 : decode cJx4a65c_clear_da8c8 21 = .ok (.iconst 0, 1) := by decide +kernel
theorem dJx4a65c_clear_da8c8_22 : decode cJx4a65c_clear_da8c8 22 = .ok (.dup_x1, 1) := by decide +kernel
theorem dJx4a65c_clear_da8c8_23 : decode cJx4a65c_clear_da8c8 23 = .ok (.putfield 48, 3) := by decide +kernel
theorem dJx4a65c_clear_da8c8_26 : decode cJx4a65c_clear_da8c8 26 = .ok (.istore_n 3, 1) := by decide +kernel
theorem dJx4a65c_clear_da8c8_27 : decode cJx4a65c_clear_da8c8 27 = .ok (.iload_n 3, 1) := by decide +kernel
theorem dJx4a65c_clear_da8c8_28 : decode cJx4a65c_clear_da8c8 28 = .ok (.iload_n 2, 1) := by decide +kernel
theorem dJx4a65c_clear_da8c8_29 : decode cJx4a65c_clear_da8c8 29 = .ok (.if_icmp .ge 13, 3) := by decide +kernel
theorem dJx4a65c_clear_da8c8_32 : decode cJx4a65c_clear_da8c8 32 = .ok (.aload_n 1, 1) := by decide +kernel
theorem dJx4a65c_clear_da8c8_33 : decode cJx4a65c_clear_da8c8 33 = .ok (.iload_n 3, 1) := by decide +kernel
theorem dJx4a65c_clear_da8c8_34 : decode cJx4a65c_clear_da8c8 34 = .ok (.aconst_null, 1) := by decide +kernel
theorem dJx4a65c_clear_da8c8_35 : decode cJx4a65c_clear_da8c8 35 = .ok (.aastore, 1) := by decide +kernel
theorem dJx4a65c_clear_da8c8_36 : decode cJx4a65c_clear_da8c8 36 = .ok (.iinc 3 1, 3) := by decide +kernel
theorem dJx4a65c_clear_da8c8_39 : decode cJx4a65c_clear_da8c8 39 = .ok (.goto (-12), 3) := by decide +kernel
theorem dJx4a65c_clear_da8c8_42 : decode cJx4a65c_clear_da8c8 42 = .ok (.return_, 1) := by decide +kernel
theorem dJx4a65c_elementData_915e3_0 : decode cJx4a65c_elementData_915e3 0 = .ok (.aload_n 0, 1) := by decide +kernel
theorem dJx4a65c_elementData_915e3_1 : decode cJx4a65c_elementData_915e3 1 = .ok (.getfield 9, 3) := by decide +kernel
theorem dJx4a65c_elementData_915e3_4 : decode cJx4a65c_elementData_915e3 4 = .ok (.iload_n 1, 1) := by decide +kernel
theorem dJx4a65c_elementData_915e3_5 : decode cJx4a65c_elementData_915e3 5 = .ok (.aaload, 1) := by decide +kernel
theorem dJx4a65c_elementData_915e3_6 : decode cJx4a65c_elementData_915e3 6 = .ok (.areturn, 1) := by decide +kernel
theorem dJx4a65c_get_915e3_0 : decode cJx4a65c_get_915e3 0 = .ok (.iload_n 1, 1) := by decide +kernel
theorem dJx4a65c_get_915e3_1 : decode cJx4a65c_get_915e3 1 = .ok (.aload_n 0, 1) := by decide +kernel
theorem dJx4a65c_get_915e3_2 : decode cJx4a65c_get_915e3 2 = .ok (.getfield 48, 3) := by decide +kernel
theorem dJx4a65c_get_915e3_5 : decode cJx4a65c_get_915e3 5 = .ok (.invokestatic 118, 3) := by decide +kernel
theorem dJx4a65c_get_915e3_8 : decode cJx4a65c_get_915e3 8 = .ok (.pop, 1) := by decide +kernel
theorem dJx4a65c_get_915e3_9 : decode cJx4a65c_get_915e3 9 = .ok (.aload_n 0, 1) := by decide +kernel
theorem dJx4a65c_get_915e3_10 : decode cJx4a65c_get_915e3 10 = .ok (.iload_n 1, 1) := by decide +kernel
theorem dJx4a65c_get_915e3_11 : decode cJx4a65c_get_915e3 11 = .ok (.invokevirtual 123, 3) := by decide +kernel
theorem dJx4a65c_get_915e3_14 : decode cJx4a65c_get_915e3 14 = .ok (.areturn, 1) := by decide +kernel
theorem dJx4a65c_grow_92f84_0 : decode cJx4a65c_grow_92f84 0 = .ok (.aload_n 0, 1) := by decide +kernel
theorem dJx4a65c_grow_92f84_1 : decode cJx4a65c_grow_92f84 1 = .ok (.getfield 9, 3) := by decide +kernel
theorem dJx4a65c_grow_92f84_4 : decode cJx4a65c_grow_92f84 4 = .ok (.arraylength, 1) := by decide +kernel
theorem dJx4a65c_grow_92f84_5 : decode cJx4a65c_grow_92f84 5 = .ok (.istore_n 2, 1) := by decide +kernel
theorem dJx4a65c_grow_92f84_6 : decode cJx4a65c_grow_92f84 6 = .ok (.iload_n 2, 1) := by decide +kernel
theorem dJx4a65c_grow_92f84_7 : decode cJx4a65c_grow_92f84 7 = .ok (.ifCond .gt 13, 3) := by decide +kernel
theorem dJx4a65c_grow_92f84_10 : decode cJx4a65c_grow_92f84 10 = .ok (.aload_n 0, 1) := by decide +kernel
theorem dJx4a65c_grow_92f84_11 : decode cJx4a65c_grow_92f84 11 = .ok (.getfield 9, 3) := by decide +kernel
theorem dJx4a65c_grow_92f84_14 : decode cJx4a65c_grow_92f84 14 = .ok (.getstatic 39, 3) := by decide +kernel
theorem dJx4a65c_grow_92f84_17 : decode cJx4a65c_grow_92f84 17 = .ok (.if_acmp .eq 28, 3) := by decide +kernel
theorem dJx4a65c_grow_92f84_20 : decode cJx4a65c_grow_92f84 20 = .ok (.iload_n 2, 1) := by decide +kernel
theorem dJx4a65c_grow_92f84_21 : decode cJx4a65c_grow_92f84 21 = .ok (.iload_n 1, 1) := by decide +kernel
theorem dJx4a65c_grow_92f84_22 : decode cJx4a65c_grow_92f84 22 = .ok (.iload_n 2, 1) := by decide +kernel
theorem dJx4a65c_grow_92f84_23 : decode cJx4a65c_grow_92f84 23 = .ok (.isub, 1) := by decide +kernel
theorem dJx4a65c_grow_92f84_24 : decode cJx4a65c_grow_92f84 24 = .ok (.iload_n 2, 1) := by decide +kernel
theorem dJx4a65c_grow_92f84_25 : decode cJx4a65c_grow_92f84 25 = .ok (.iconst 1, 1) := by decide +kernel
theorem dJx4a65c_grow_92f84_26 : decode cJx4a65c_grow_92f84 26 = .ok (.ishr, 1) := by decide +kernel
theorem dJx4a65c_grow_92f84_27 : decode cJx4a65c_grow_92f84 27 = .ok (.invokestatic 73, 3) := by decide +kernel
theorem dJx4a65c_grow_92f84_30 : decode cJx4a65c_grow_92f84 30 = .ok (.istore_n 3, 1) := by decide +kernel
theorem dJx4a65c_grow_92f84_31 : decode cJx4a65c_grow_92f84 31 = .ok (.aload_n 0, 1) := by decide +kernel
theorem dJx4a65c_grow_92f84_32 : decode cJx4a65c_grow_92f84 32 = .ok (.aload_n 0, 1) := by decide +kernel
theorem dJx4a65c_grow_92f84_33 : decode cJx4a65c_grow_92f84 33 = .ok (.getfield 9, 3) := by decide +kernel
theorem dJx4a65c_grow_92f84_36 : decode cJx4a65c_grow_92f84 36 = .ok (.iload_n 3, 1) := by decide +kernel
theorem dJx4a65c_grow_92f84_37 : decode cJx4a65c_grow_92f84 37 = .ok (.invokestatic 66, 3) := by decide +kernel
theorem dJx4a65c_grow_92f84_40 : decode cJx4a65c_grow_92f84 40 = .ok (.dup_x1, 1) := by decide +kernel
theorem dJx4a65c_grow_92f84_41 : decode cJx4a65c_grow_92f84 41 = .ok (.putfield 9, 3) := by decide +kernel
theorem dJx4a65c_grow_92f84_44 : decode cJx4a65c_grow_92f84 44 = .ok (.areturn, 1) := by decide +kernel
theorem dJx4a65c_grow_92f84_45 : decode cJx4a65c_grow_92f84 45 = .ok (.aload_n 0, 1) := by decide +kernel
theorem dJx4a65c_grow_92f84_46 : decode cJx4a65c_grow_92f84 46 = .ok (.bipush 10, 2) := by decide +kernel
theorem dJx4a65c_grow_92f84_48 : decode cJx4a65c_grow_92f84 48 = .ok (.iload_n 1, 1) := by decide +kernel
theorem dJx4a65c_grow_92f84_49 : decode cJx4a65c_grow_92f84 49 = .ok (.invokestatic 79, 3) := by decide +kernel
theorem dJx4a65c_grow_92f84_52 : decode cJx4a65c_grow_92f84 52 = .ok (.anewarray 7, 3) := by decide +kernel
theorem dJx4a65c_grow_92f84_55 : decode cJx4a65c_grow_92f84 55 = .ok (.dup_x1, 1) := by decide +kernel
theorem dJx4a65c_grow_92f84_56 : decode cJx4a65c_grow_92f84 56 = .ok (.putfield 9, 3) := by decide +kernel
theorem dJx4a65c_grow_92f84_59 : decode cJx4a65c_grow_92f84 59 = .ok (.areturn, 1) := by decide +kernel
theorem dJx4a65c_grow_d5877_0 : decode cJx4a65c_grow_d5877 0 = .ok (.aload_n 0, 1) := by decide +kernel
theorem dJx4a65c_grow_d5877_1 : decode cJx4a65c_grow_d5877 1 = .ok (.aload_n 0, 1) := by decide +kernel
theorem dJx4a65c_grow_d5877_2 : decode cJx4a65c_grow_d5877 2 = .ok (.getfield 48, 3) := by decide +kernel
theorem dJx4a65c_grow_d5877_5 : decode cJx4a65c_grow_d5877 5 = .ok (.iconst 1, 1) := by decide +kernel
theorem dJx4a65c_grow_d5877_6 : decode cJx4a65c_grow_d5877 6 = .ok (.iadd, 1) := by decide +kernel
theorem dJx4a65c_grow_d5877_7 : decode cJx4a65c_grow_d5877 7 = .ok (.invokevirtual 69, 3) := by decide +kernel
theorem dJx4a65c_grow_d5877_10 : decode cJx4a65c_grow_d5877 10 = .ok (.areturn, 1) := by decide +kernel
theorem dJx4a65c_init_da8c8_0 : decode cJx4a65c_init_da8c8 0 = .ok (.aload_n 0, 1) := by decide +kernel
theorem dJx4a65c_init_da8c8_1 : decode cJx4a65c_init_da8c8 1 = .ok (.invokespecial 1, 3) := by decide +kernel
theorem dJx4a65c_init_da8c8_4 : decode cJx4a65c_init_da8c8 4 = .ok (.aload_n 0, 1) := by decide +kernel
theorem dJx4a65c_init_da8c8_5 : decode cJx4a65c_init_da8c8 5 = .ok (.getstatic 39, 3) := by decide +kernel
theorem dJx4a65c_init_da8c8_8 : decode cJx4a65c_init_da8c8 8 = .ok (.putfield 9, 3) := by decide +kernel
theorem dJx4a65c_init_da8c8_11 : decode cJx4a65c_init_da8c8 11 = .ok (.return_, 1) := by decide +kernel
theorem dJx4a65c_size_8abf5_0 : decode cJx4a65c_size_8abf5 0 = .ok (.aload_n 0, 1) := by decide +kernel
theorem dJx4a65c_size_8abf5_1 : decode cJx4a65c_size_8abf5 1 = .ok (.getfield 48, 3) := by decide +kernel
theorem dJx4a65c_size_8abf5_4 : decode cJx4a65c_size_8abf5 4 = .ok (.ireturn, 1) := by decide +kernel
theorem dJxa1e45_init_da8c8_0 : decode cJxa1e45_init_da8c8 0 = .ok (.aload_n 0, 1) := by decide +kernel
theorem dJxa1e45_init_da8c8_1 : decode cJxa1e45_init_da8c8 1 = .ok (.invokespecial 1, 3) := by decide +kernel
theorem dJxa1e45_init_da8c8_4 : decode cJxa1e45_init_da8c8 4 = .ok (.return_, 1) := by decide +kernel
theorem dJxc12de_init_da8c8_0 : decode cJxc12de_init_da8c8 0 = .ok (.aload_n 0, 1) := by decide +kernel
theorem dJxc12de_init_da8c8_1 : decode cJxc12de_init_da8c8 1 = .ok (.invokespecial 1, 3) := by decide +kernel
theorem dJxc12de_init_da8c8_4 : decode cJxc12de_init_da8c8 4 = .ok (.aload_n 0, 1) := by decide +kernel
theorem dJxc12de_init_da8c8_5 : decode cJxc12de_init_da8c8 5 = .ok (.iconst 0, 1) := by decide +kernel
theorem dJxc12de_init_da8c8_6 : decode cJxc12de_init_da8c8 6 = .ok (.putfield 7, 3) := by decide +kernel
theorem dJxc12de_init_da8c8_9 : decode cJxc12de_init_da8c8 9 = .ok (.return_, 1) := by decide +kernel
theorem dX0_init_0 : decode cX0_init 0 = .ok (.aload_n 0, 1) := by decide +kernel
theorem dX0_init_1 : decode cX0_init 1 = .ok (.invokespecial 1, 3) := by decide +kernel
theorem dX0_init_4 : decode cX0_init 4 = .ok (.aload_n 0, 1) := by decide +kernel
theorem dX0_init_5 : decode cX0_init 5 = .ok (.new 7, 3) := by decide +kernel
theorem dX0_init_8 : decode cX0_init 8 = .ok (.dup, 1) := by decide +kernel
theorem dX0_init_9 : decode cX0_init 9 = .ok (.invokespecial 9, 3) := by decide +kernel
theorem dX0_init_12 : decode cX0_init 12 = .ok (.putfield 10, 3) := by decide +kernel
theorem dX0_init_15 : decode cX0_init 15 = .ok (.aload_n 0, 1) := by decide +kernel
theorem dX0_init_16 : decode cX0_init 16 = .ok (.new 7, 3) := by decide +kernel
theorem dX0_init_19 : decode cX0_init 19 = .ok (.dup, 1) := by decide +kernel
theorem dX0_init_20 : decode cX0_init 20 = .ok (.invokespecial 9, 3) := by decide +kernel
theorem dX0_init_23 : decode cX0_init 23 = .ok (.putfield 16, 3) := by decide +kernel
theorem dX0_init_26 : decode cX0_init 26 = .ok (.aload_n 0, 1) := by decide +kernel
theorem dX0_init_27 : decode cX0_init 27 = .ok (.iconst 0, 1) := by decide +kernel
theorem dX0_init_28 : decode cX0_init 28 = .ok (.putfield 19, 3) := by decide +kernel
theorem dX0_init_31 : decode cX0_init 31 = .ok (.aload_n 0, 1) := by decide +kernel
theorem dX0_init_32 : decode cX0_init 32 = .ok (.iconst 0, 1) := by decide +kernel
theorem dX0_init_33 : decode cX0_init 33 = .ok (.putfield 23, 3) := by decide +kernel
theorem dX0_init_36 : decode cX0_init 36 = .ok (.aload_n 0, 1) := by decide +kernel
theorem dX0_init_37 : decode cX0_init 37 = .ok (.lload_n 1, 1) := by decide +kernel
theorem dX0_init_38 : decode cX0_init 38 = .ok (.putfield 26, 3) := by decide +kernel
theorem dX0_init_41 : decode cX0_init 41 = .ok (.return_, 1) := by decide +kernel
theorem dX10_add_0 : decode cX10_add 0 = .ok (.aload_n 0, 1) := by decide +kernel
theorem dX10_add_1 : decode cX10_add 1 = .ok (.getfield 25, 3) := by decide +kernel
theorem dX10_add_4 : decode cX10_add 4 = .ok (.aload_n 0, 1) := by decide +kernel
theorem dX10_add_5 : decode cX10_add 5 = .ok (.getfield 15, 3) := by decide +kernel
theorem dX10_add_8 : decode cX10_add 8 = .ok (.arraylength, 1) := by decide +kernel
theorem dX10_add_9 : decode cX10_add 9 = .ok (.if_icmp .ge 43, 3) := by decide +kernel
theorem dX10_add_12 : decode cX10_add 12 = .ok (.aload_n 0, 1) := by decide +kernel
theorem dX10_add_13 : decode cX10_add 13 = .ok (.getfield 15, 3) := by decide +kernel
theorem dX10_add_16 : decode cX10_add 16 = .ok (.aload_n 0, 1) := by decide +kernel
theorem dX10_add_17 : decode cX10_add 17 = .ok (.getfield 25, 3) := by decide +kernel
theorem dX10_add_20 : decode cX10_add 20 = .ok (.iload_n 1, 1) := by decide +kernel
theorem dX10_add_21 : decode cX10_add 21 = .ok (.iastore, 1) := by decide +kernel
theorem dX10_add_22 : decode cX10_add 22 = .ok (.aload_n 0, 1) := by decide +kernel
theorem dX10_add_23 : decode cX10_add 23 = .ok (.getfield 19, 3) := by decide +kernel
theorem dX10_add_26 : decode cX10_add 26 = .ok (.aload_n 0, 1) := by decide +kernel
theorem dX10_add_27 : decode cX10_add 27 = .ok (.getfield 25, 3) := by decide +kernel
theorem dX10_add_30 : decode cX10_add 30 = .ok (.iload_n 2, 1) := by decide +kernel
theorem dX10_add_31 : decode cX10_add 31 = .ok (.iastore, 1) := by decide +kernel
theorem dX10_add_32 : decode cX10_add 32 = .ok (.aload_n 0, 1) := by decide +kernel
theorem dX10_add_33 : decode cX10_add 33 = .ok (.getfield 22, 3) := by decide +kernel
theorem dX10_add_36 : decode cX10_add 36 = .ok (.aload_n 0, 1) := by decide +kernel
theorem dX10_add_37 : decode cX10_add 37 = .ok (.getfield 25, 3) := by decide +kernel
theorem dX10_add_40 : decode cX10_add 40 = .ok (.lload_n 3, 1) := by decide +kernel
theorem dX10_add_41 : decode cX10_add 41 = .ok (.lastore, 1) := by decide +kernel
theorem dX10_add_42 : decode cX10_add 42 = .ok (.aload_n 0, 1) := by decide +kernel
theorem dX10_add_43 : decode cX10_add 43 = .ok (.dup, 1) := by decide +kernel
theorem dX10_add_44 : decode cX10_add 44 = .ok (.getfield 25, 3) := by decide +kernel
theorem dX10_add_47 : decode cX10_add 47 = .ok (.iconst 1, 1) := by decide +kernel
theorem dX10_add_48 : decode cX10_add 48 = .ok (.iadd, 1) := by decide +kernel
theorem dX10_add_49 : decode cX10_add 49 = .ok (.putfield 25, 3) := by decide +kernel
theorem dX10_add_52 : decode cX10_add 52 = .ok (.return_, 1) := by decide +kernel
theorem dX10_isDigit_0 : decode cX10_isDigit 0 = .ok (.iload_n 0, 1) := by decide +kernel
theorem dX10_isDigit_1 : decode cX10_isDigit 1 = .ok (.bipush 48, 2) := by decide +kernel
theorem dX10_isDigit_3 : decode cX10_isDigit 3 = .ok (.if_icmp .lt 13, 3) := by decide +kernel
theorem dX10_isDigit_6 : decode cX10_isDigit 6 = .ok (.iload_n 0, 1) := by decide +kernel
theorem dX10_isDigit_7 : decode cX10_isDigit 7 = .ok (.bipush 57, 2) := by decide +kernel
theorem dX10_isDigit_9 : decode cX10_isDigit 9 = .ok (.if_icmp .gt 7, 3) := by decide +kernel
theorem dX10_isDigit_12 : decode cX10_isDigit 12 = .ok (.iconst 1, 1) := by decide +kernel
theorem dX10_isDigit_13 : decode cX10_isDigit 13 = .ok (.goto 4, 3) := by decide +kernel
theorem dX10_isDigit_16 : decode cX10_isDigit 16 = .ok (.iconst 0, 1) := by decide +kernel
theorem dX10_isDigit_17 : decode cX10_isDigit 17 = .ok (.ireturn, 1) := by decide +kernel
theorem dX10_isLetter_0 : decode cX10_isLetter 0 = .ok (.iload_n 0, 1) := by decide +kernel
theorem dX10_isLetter_1 : decode cX10_isLetter 1 = .ok (.bipush 97, 2) := by decide +kernel
theorem dX10_isLetter_3 : decode cX10_isLetter 3 = .ok (.if_icmp .lt 13, 3) := by decide +kernel
theorem dX10_isLetter_6 : decode cX10_isLetter 6 = .ok (.iload_n 0, 1) := by decide +kernel
theorem dX10_isLetter_7 : decode cX10_isLetter 7 = .ok (.bipush 122, 2) := by decide +kernel
theorem dX10_isLetter_9 : decode cX10_isLetter 9 = .ok (.if_icmp .gt 7, 3) := by decide +kernel
theorem dX10_isLetter_12 : decode cX10_isLetter 12 = .ok (.iconst 1, 1) := by decide +kernel
theorem dX10_isLetter_13 : decode cX10_isLetter 13 = .ok (.goto 4, 3) := by decide +kernel
theorem dX10_isLetter_16 : decode cX10_isLetter 16 = .ok (.iconst 0, 1) := by decide +kernel
theorem dX10_isLetter_17 : decode cX10_isLetter 17 = .ok (.ireturn, 1) := by decide +kernel
theorem dX10_kindOfWord_0 : decode cX10_kindOfWord 0 = .ok (.iload_n 3, 1) := by decide +kernel
theorem dX10_kindOfWord_1 : decode cX10_kindOfWord 1 = .ok (.bipush 8, 2) := by decide +kernel
theorem dX10_kindOfWord_3 : decode cX10_kindOfWord 3 = .ok (.if_icmp .le 5, 3) := by decide +kernel
theorem dX10_kindOfWord_6 : decode cX10_kindOfWord 6 = .ok (.iconst 1, 1) := by decide +kernel
theorem dX10_kindOfWord_7 : decode cX10_kindOfWord 7 = .ok (.ireturn, 1) := by decide +kernel
theorem dX10_kindOfWord_8 : decode cX10_kindOfWord 8 = .ok (.iconst 0, 1) := by decide +kernel
theorem dX10_kindOfWord_9 : decode cX10_kindOfWord 9 = .ok (.istore 4, 2) := by decide +kernel
theorem dX10_kindOfWord_11 : decode cX10_kindOfWord 11 = .ok (.iload 4, 2) := by decide +kernel
theorem dX10_kindOfWord_13 : decode cX10_kindOfWord 13 = .ok (.aload_n 0, 1) := by decide +kernel
theorem dX10_kindOfWord_14 : decode cX10_kindOfWord 14 = .ok (.getfield 11, 3) := by decide +kernel
theorem dX10_kindOfWord_17 : decode cX10_kindOfWord 17 = .ok (.arraylength, 1) := by decide +kernel
theorem dX10_kindOfWord_18 : decode cX10_kindOfWord 18 = .ok (.if_icmp .ge 26, 3) := by decide +kernel
theorem dX10_kindOfWord_21 : decode cX10_kindOfWord 21 = .ok (.aload_n 0, 1) := by decide +kernel
theorem dX10_kindOfWord_22 : decode cX10_kindOfWord 22 = .ok (.getfield 11, 3) := by decide +kernel
theorem dX10_kindOfWord_25 : decode cX10_kindOfWord 25 = .ok (.iload 4, 2) := by decide +kernel
theorem dX10_kindOfWord_27 : decode cX10_kindOfWord 27 = .ok (.laload, 1) := by decide +kernel
theorem dX10_kindOfWord_28 : decode cX10_kindOfWord 28 = .ok (.lload_n 1, 1) := by decide +kernel
theorem dX10_kindOfWord_29 : decode cX10_kindOfWord 29 = .ok (.lcmp, 1) := by decide +kernel
theorem dX10_kindOfWord_30 : decode cX10_kindOfWord 30 = .ok (.ifCond .ne 8, 3) := by decide +kernel
theorem dX10_kindOfWord_33 : decode cX10_kindOfWord 33 = .ok (.iconst 4, 1) := by decide +kernel
theorem dX10_kindOfWord_34 : decode cX10_kindOfWord 34 = .ok (.iload 4, 2) := by decide +kernel
theorem dX10_kindOfWord_36 : decode cX10_kindOfWord 36 = .ok (.iadd, 1) := by decide +kernel
theorem dX10_kindOfWord_37 : decode cX10_kindOfWord 37 = .ok (.ireturn, 1) := by decide +kernel
theorem dX10_kindOfWord_38 : decode cX10_kindOfWord 38 = .ok (.iinc 4 1, 3) := by decide +kernel
theorem dX10_kindOfWord_41 : decode cX10_kindOfWord 41 = .ok (.goto (-30), 3) := by decide +kernel
theorem dX10_kindOfWord_44 : decode cX10_kindOfWord 44 = .ok (.iload_n 3, 1) := by decide +kernel
theorem dX10_kindOfWord_45 : decode cX10_kindOfWord 45 = .ok (.iconst 1, 1) := by decide +kernel
theorem dX10_kindOfWord_46 : decode cX10_kindOfWord 46 = .ok (.if_icmp .le 7, 3) := by decide +kernel
theorem dX10_kindOfWord_49 : decode cX10_kindOfWord 49 = .ok (.iconst 3, 1) := by decide +kernel
theorem dX10_kindOfWord_50 : decode cX10_kindOfWord 50 = .ok (.goto 4, 3) := by decide +kernel
theorem dX10_kindOfWord_53 : decode cX10_kindOfWord 53 = .ok (.iconst 1, 1) := by decide +kernel
theorem dX10_kindOfWord_54 : decode cX10_kindOfWord 54 = .ok (.ireturn, 1) := by decide +kernel
theorem dX10_read_0 : decode cX10_read 0 = .ok (.aload_n 0, 1) := by decide +kernel
theorem dX10_read_1 : decode cX10_read 1 = .ok (.iconst 0, 1) := by decide +kernel
theorem dX10_read_2 : decode cX10_read 2 = .ok (.putfield 25, 3) := by decide +kernel
theorem dX10_read_5 : decode cX10_read 5 = .ok (.iload_n 2, 1) := by decide +kernel
theorem dX10_read_6 : decode cX10_read 6 = .ok (.aload_n 1, 1) := by decide +kernel
theorem dX10_read_7 : decode cX10_read 7 = .ok (.arraylength, 1) := by decide +kernel
theorem dX10_read_8 : decode cX10_read 8 = .ok (.invokestatic 49, 3) := by decide +kernel
theorem dX10_read_11 : decode cX10_read 11 = .ok (.istore_n 3, 1) := by decide +kernel
theorem dX10_read_12 : decode cX10_read 12 = .ok (.iconst 0, 1) := by decide +kernel
theorem dX10_read_13 : decode cX10_read 13 = .ok (.istore 4, 2) := by decide +kernel
theorem dX10_read_15 : decode cX10_read 15 = .ok (.iconst 0, 1) := by decide +kernel
theorem dX10_read_16 : decode cX10_read 16 = .ok (.istore 5, 2) := by decide +kernel
theorem dX10_read_18 : decode cX10_read 18 = .ok (.iload 5, 2) := by decide +kernel
theorem dX10_read_20 : decode cX10_read 20 = .ok (.iload_n 3, 1) := by decide +kernel
theorem dX10_read_21 : decode cX10_read 21 = .ok (.if_icmp .ge 118, 3) := by decide +kernel
theorem dX10_read_24 : decode cX10_read 24 = .ok (.iload 4, 2) := by decide +kernel
theorem dX10_read_26 : decode cX10_read 26 = .ok (.iload_n 3, 1) := by decide +kernel
theorem dX10_read_27 : decode cX10_read 27 = .ok (.if_icmp .ge 112, 3) := by decide +kernel
theorem dX10_read_30 : decode cX10_read 30 = .ok (.aload_n 1, 1) := by decide +kernel
theorem dX10_read_31 : decode cX10_read 31 = .ok (.iload 4, 2) := by decide +kernel
theorem dX10_read_33 : decode cX10_read 33 = .ok (.iaload, 1) := by decide +kernel
theorem dX10_read_34 : decode cX10_read 34 = .ok (.istore 6, 2) := by decide +kernel
theorem dX10_read_36 : decode cX10_read 36 = .ok (.iload 4, 2) := by decide +kernel
theorem dX10_read_38 : decode cX10_read 38 = .ok (.iconst 1, 1) := by decide +kernel
theorem dX10_read_39 : decode cX10_read 39 = .ok (.iadd, 1) := by decide +kernel
theorem dX10_read_40 : decode cX10_read 40 = .ok (.istore 7, 2) := by decide +kernel
theorem dX10_read_42 : decode cX10_read 42 = .ok (.iload 6, 2) := by decide +kernel
theorem dX10_read_44 : decode cX10_read 44 = .ok (.invokestatic 41, 3) := by decide +kernel
theorem dX10_read_47 : decode cX10_read 47 = .ok (.ifCond .eq 16, 3) := by decide +kernel
theorem dX10_read_50 : decode cX10_read 50 = .ok (.aload_n 0, 1) := by decide +kernel
theorem dX10_read_51 : decode cX10_read 51 = .ok (.aload_n 1, 1) := by decide +kernel
theorem dX10_read_52 : decode cX10_read 52 = .ok (.iload 4, 2) := by decide +kernel
theorem dX10_read_54 : decode cX10_read 54 = .ok (.iload_n 3, 1) := by decide +kernel
theorem dX10_read_55 : decode cX10_read 55 = .ok (.invokevirtual 55, 3) := by decide +kernel
theorem dX10_read_58 : decode cX10_read 58 = .ok (.istore 7, 2) := by decide +kernel
theorem dX10_read_60 : decode cX10_read 60 = .ok (.goto 69, 3) := by decide +kernel
theorem dX10_read_63 : decode cX10_read 63 = .ok (.iload 6, 2) := by decide +kernel
theorem dX10_read_65 : decode cX10_read 65 = .ok (.invokestatic 59, 3) := by decide +kernel
theorem dX10_read_68 : decode cX10_read 68 = .ok (.ifCond .eq 16, 3) := by decide +kernel
theorem dX10_read_71 : decode cX10_read 71 = .ok (.aload_n 0, 1) := by decide +kernel
theorem dX10_read_72 : decode cX10_read 72 = .ok (.aload_n 1, 1) := by decide +kernel
theorem dX10_read_73 : decode cX10_read 73 = .ok (.iload 4, 2) := by decide +kernel
theorem dX10_read_75 : decode cX10_read 75 = .ok (.iload_n 3, 1) := by decide +kernel
theorem dX10_read_76 : decode cX10_read 76 = .ok (.invokevirtual 62, 3) := by decide +kernel
theorem dX10_read_79 : decode cX10_read 79 = .ok (.istore 7, 2) := by decide +kernel
theorem dX10_read_81 : decode cX10_read 81 = .ok (.goto 48, 3) := by decide +kernel
theorem dX10_read_84 : decode cX10_read 84 = .ok (.iload 6, 2) := by decide +kernel
theorem dX10_read_86 : decode cX10_read 86 = .ok (.bipush 32, 2) := by decide +kernel
theorem dX10_read_88 : decode cX10_read 88 = .ok (.if_icmp .eq 41, 3) := by decide +kernel
theorem dX10_read_91 : decode cX10_read 91 = .ok (.iload 6, 2) := by decide +kernel
theorem dX10_read_93 : decode cX10_read 93 = .ok (.bipush 10, 2) := by decide +kernel
theorem dX10_read_95 : decode cX10_read 95 = .ok (.if_icmp .eq 34, 3) := by decide +kernel
theorem dX10_read_98 : decode cX10_read 98 = .ok (.ldc 65, 2) := by decide +kernel
theorem dX10_read_100 : decode cX10_read 100 = .ok (.iload 6, 2) := by decide +kernel
theorem dX10_read_102 : decode cX10_read 102 = .ok (.i2c, 1) := by decide +kernel
theorem dX10_read_103 : decode cX10_read 103 = .ok (.invokevirtual 67, 3) := by decide +kernel
theorem dX10_read_106 : decode cX10_read 106 = .ok (.istore 8, 2) := by decide +kernel
theorem dX10_read_108 : decode cX10_read 108 = .ok (.aload_n 0, 1) := by decide +kernel
theorem dX10_read_109 : decode cX10_read 109 = .ok (.iload 8, 2) := by decide +kernel
theorem dX10_read_111 : decode cX10_read 111 = .ok (.ifCond .ge 7, 3) := by decide +kernel
theorem dX10_read_114 : decode cX10_read 114 = .ok (.iconst 1, 1) := by decide +kernel
theorem dX10_read_115 : decode cX10_read 115 = .ok (.goto 8, 3) := by decide +kernel
theorem dX10_read_118 : decode cX10_read 118 = .ok (.bipush 23, 2) := by decide +kernel
theorem dX10_read_120 : decode cX10_read 120 = .ok (.iload 8, 2) := by decide +kernel
theorem dX10_read_122 : decode cX10_read 122 = .ok (.iadd, 1) := by decide +kernel
theorem dX10_read_123 : decode cX10_read 123 = .ok (.iload 4, 2) := by decide +kernel
theorem dX10_read_125 : decode cX10_read 125 = .ok (.lconst 0, 1) := by decide +kernel
theorem dX10_read_126 : decode cX10_read 126 = .ok (.invokevirtual 71, 3) := by decide +kernel
theorem dX10_read_129 : decode cX10_read 129 = .ok (.iload 7, 2) := by decide +kernel
theorem dX10_read_131 : decode cX10_read 131 = .ok (.istore 4, 2) := by decide +kernel
theorem dX10_read_133 : decode cX10_read 133 = .ok (.iinc 5 1, 3) := by decide +kernel
theorem dX10_read_136 : decode cX10_read 136 = .ok (.goto (-118), 3) := by decide +kernel
theorem dX10_read_139 : decode cX10_read 139 = .ok (.aload_n 0, 1) := by decide +kernel
theorem dX10_read_140 : decode cX10_read 140 = .ok (.iconst 0, 1) := by decide +kernel
theorem dX10_read_141 : decode cX10_read 141 = .ok (.iload_n 3, 1) := by decide +kernel
theorem dX10_read_142 : decode cX10_read 142 = .ok (.lconst 0, 1) := by decide +kernel
theorem dX10_read_143 : decode cX10_read 143 = .ok (.invokevirtual 71, 3) := by decide +kernel
theorem dX10_read_146 : decode cX10_read 146 = .ok (.return_, 1) := by decide +kernel
theorem dX10_readNumber_0 : decode cX10_readNumber 0 = .ok (.iconst 0, 1) := by decide +kernel
theorem dX10_readNumber_1 : decode cX10_readNumber 1 = .ok (.istore 4, 2) := by decide +kernel
theorem dX10_readNumber_3 : decode cX10_readNumber 3 = .ok (.iload_n 2, 1) := by decide +kernel
theorem dX10_readNumber_4 : decode cX10_readNumber 4 = .ok (.istore 5, 2) := by decide +kernel
theorem dX10_readNumber_6 : decode cX10_readNumber 6 = .ok (.iload 5, 2) := by decide +kernel
theorem dX10_readNumber_8 : decode cX10_readNumber 8 = .ok (.iload_n 3, 1) := by decide +kernel
theorem dX10_readNumber_9 : decode cX10_readNumber 9 = .ok (.if_icmp .ge 34, 3) := by decide +kernel
theorem dX10_readNumber_12 : decode cX10_readNumber 12 = .ok (.aload_n 1, 1) := by decide +kernel
theorem dX10_readNumber_13 : decode cX10_readNumber 13 = .ok (.iload 5, 2) := by decide +kernel
theorem dX10_readNumber_15 : decode cX10_readNumber 15 = .ok (.iaload, 1) := by decide +kernel
theorem dX10_readNumber_16 : decode cX10_readNumber 16 = .ok (.invokestatic 59, 3) := by decide +kernel
theorem dX10_readNumber_19 : decode cX10_readNumber 19 = .ok (.ifCond .eq 24, 3) := by decide +kernel
theorem dX10_readNumber_22 : decode cX10_readNumber 22 = .ok (.bipush 10, 2) := by decide +kernel
theorem dX10_readNumber_24 : decode cX10_readNumber 24 = .ok (.iload 4, 2) := by decide +kernel
theorem dX10_readNumber_26 : decode cX10_readNumber 26 = .ok (.imul, 1) := by decide +kernel
theorem dX10_readNumber_27 : decode cX10_readNumber 27 = .ok (.aload_n 1, 1) := by decide +kernel
theorem dX10_readNumber_28 : decode cX10_readNumber 28 = .ok (.iload 5, 2) := by decide +kernel
theorem dX10_readNumber_30 : decode cX10_readNumber 30 = .ok (.iaload, 1) := by decide +kernel
theorem dX10_readNumber_31 : decode cX10_readNumber 31 = .ok (.iadd, 1) := by decide +kernel
theorem dX10_readNumber_32 : decode cX10_readNumber 32 = .ok (.bipush 48, 2) := by decide +kernel
theorem dX10_readNumber_34 : decode cX10_readNumber 34 = .ok (.isub, 1) := by decide +kernel
theorem dX10_readNumber_35 : decode cX10_readNumber 35 = .ok (.istore 4, 2) := by decide +kernel
theorem dX10_readNumber_37 : decode cX10_readNumber 37 = .ok (.iinc 5 1, 3) := by decide +kernel
theorem dX10_readNumber_40 : decode cX10_readNumber 40 = .ok (.goto (-34), 3) := by decide +kernel
theorem dX10_readNumber_43 : decode cX10_readNumber 43 = .ok (.aload_n 0, 1) := by decide +kernel
theorem dX10_readNumber_44 : decode cX10_readNumber 44 = .ok (.iload 5, 2) := by decide +kernel
theorem dX10_readNumber_46 : decode cX10_readNumber 46 = .ok (.iload_n 2, 1) := by decide +kernel
theorem dX10_readNumber_47 : decode cX10_readNumber 47 = .ok (.isub, 1) := by decide +kernel
theorem dX10_readNumber_48 : decode cX10_readNumber 48 = .ok (.iconst 3, 1) := by decide +kernel
theorem dX10_readNumber_49 : decode cX10_readNumber 49 = .ok (.if_icmp .gt 7, 3) := by decide +kernel
theorem dX10_readNumber_52 : decode cX10_readNumber 52 = .ok (.iconst 2, 1) := by decide +kernel
theorem dX10_readNumber_53 : decode cX10_readNumber 53 = .ok (.goto 4, 3) := by decide +kernel
theorem dX10_readNumber_56 : decode cX10_readNumber 56 = .ok (.iconst 1, 1) := by decide +kernel
theorem dX10_readNumber_57 : decode cX10_readNumber 57 = .ok (.iload_n 2, 1) := by decide +kernel
theorem dX10_readNumber_58 : decode cX10_readNumber 58 = .ok (.iload 4, 2) := by decide +kernel
theorem dX10_readNumber_60 : decode cX10_readNumber 60 = .ok (.i2l, 1) := by decide +kernel
theorem dX10_readNumber_61 : decode cX10_readNumber 61 = .ok (.invokevirtual 71, 3) := by decide +kernel
theorem dX10_readNumber_64 : decode cX10_readNumber 64 = .ok (.iload 5, 2) := by decide +kernel
theorem dX10_readNumber_66 : decode cX10_readNumber 66 = .ok (.ireturn, 1) := by decide +kernel
theorem dX10_readWord_0 : decode cX10_readWord 0 = .ok (.lconst 0, 1) := by decide +kernel
theorem dX10_readWord_1 : decode cX10_readWord 1 = .ok (.lstore 4, 2) := by decide +kernel
theorem dX10_readWord_3 : decode cX10_readWord 3 = .ok (.iload_n 2, 1) := by decide +kernel
theorem dX10_readWord_4 : decode cX10_readWord 4 = .ok (.istore 6, 2) := by decide +kernel
theorem dX10_readWord_6 : decode cX10_readWord 6 = .ok (.iload 6, 2) := by decide +kernel
theorem dX10_readWord_8 : decode cX10_readWord 8 = .ok (.iload_n 3, 1) := by decide +kernel
theorem dX10_readWord_9 : decode cX10_readWord 9 = .ok (.if_icmp .ge 39, 3) := by decide +kernel
theorem dX10_readWord_12 : decode cX10_readWord 12 = .ok (.aload_n 1, 1) := by decide +kernel
theorem dX10_readWord_13 : decode cX10_readWord 13 = .ok (.iload 6, 2) := by decide +kernel
theorem dX10_readWord_15 : decode cX10_readWord 15 = .ok (.iaload, 1) := by decide +kernel
theorem dX10_readWord_16 : decode cX10_readWord 16 = .ok (.invokestatic 41, 3) := by decide +kernel
theorem dX10_readWord_19 : decode cX10_readWord 19 = .ok (.ifCond .eq 29, 3) := by decide +kernel
theorem dX10_readWord_22 : decode cX10_readWord 22 = .ok (.iload 6, 2) := by decide +kernel
theorem dX10_readWord_24 : decode cX10_readWord 24 = .ok (.iload_n 2, 1) := by decide +kernel
theorem dX10_readWord_25 : decode cX10_readWord 25 = .ok (.isub, 1) := by decide +kernel
theorem dX10_readWord_26 : decode cX10_readWord 26 = .ok (.bipush 8, 2) := by decide +kernel
theorem dX10_readWord_28 : decode cX10_readWord 28 = .ok (.if_icmp .ge 14, 3) := by decide +kernel
theorem dX10_readWord_31 : decode cX10_readWord 31 = .ok (.lload 4, 2) := by decide +kernel
theorem dX10_readWord_33 : decode cX10_readWord 33 = .ok (.aload_n 1, 1) := by decide +kernel
theorem dX10_readWord_34 : decode cX10_readWord 34 = .ok (.iload 6, 2) := by decide +kernel
theorem dX10_readWord_36 : decode cX10_readWord 36 = .ok (.iaload, 1) := by decide +kernel
theorem dX10_readWord_37 : decode cX10_readWord 37 = .ok (.invokestatic 45, 3) := by decide +kernel
theorem dX10_readWord_40 : decode cX10_readWord 40 = .ok (.lstore 4, 2) := by decide +kernel
theorem dX10_readWord_42 : decode cX10_readWord 42 = .ok (.iinc 6 1, 3) := by decide +kernel
theorem dX10_readWord_45 : decode cX10_readWord 45 = .ok (.goto (-39), 3) := by decide +kernel
theorem dX10_readWord_48 : decode cX10_readWord 48 = .ok (.aload_n 0, 1) := by decide +kernel
theorem dX10_readWord_49 : decode cX10_readWord 49 = .ok (.aload_n 0, 1) := by decide +kernel
theorem dX10_readWord_50 : decode cX10_readWord 50 = .ok (.lload 4, 2) := by decide +kernel
theorem dX10_readWord_52 : decode cX10_readWord 52 = .ok (.iload 6, 2) := by decide +kernel
theorem dX10_readWord_54 : decode cX10_readWord 54 = .ok (.iload_n 2, 1) := by decide +kernel
theorem dX10_readWord_55 : decode cX10_readWord 55 = .ok (.isub, 1) := by decide +kernel
theorem dX10_readWord_56 : decode cX10_readWord 56 = .ok (.invokevirtual 75, 3) := by decide +kernel
theorem dX10_readWord_59 : decode cX10_readWord 59 = .ok (.iload_n 2, 1) := by decide +kernel
theorem dX10_readWord_60 : decode cX10_readWord 60 = .ok (.lload 4, 2) := by decide +kernel
theorem dX10_readWord_62 : decode cX10_readWord 62 = .ok (.invokevirtual 71, 3) := by decide +kernel
theorem dX10_readWord_65 : decode cX10_readWord 65 = .ok (.iload 6, 2) := by decide +kernel
theorem dX10_readWord_67 : decode cX10_readWord 67 = .ok (.ireturn, 1) := by decide +kernel
theorem dX10_withLetter_0 : decode cX10_withLetter 0 = .ok (.lload_n 0, 1) := by decide +kernel
theorem dX10_withLetter_1 : decode cX10_withLetter 1 = .ok (.ldc2_w 79, 3) := by decide +kernel
theorem dX10_withLetter_4 : decode cX10_withLetter 4 = .ok (.lmul, 1) := by decide +kernel
theorem dX10_withLetter_5 : decode cX10_withLetter 5 = .ok (.iload_n 2, 1) := by decide +kernel
theorem dX10_withLetter_6 : decode cX10_withLetter 6 = .ok (.i2l, 1) := by decide +kernel
theorem dX10_withLetter_7 : decode cX10_withLetter 7 = .ok (.ladd, 1) := by decide +kernel
theorem dX10_withLetter_8 : decode cX10_withLetter 8 = .ok (.ldc2_w 81, 3) := by decide +kernel
theorem dX10_withLetter_11 : decode cX10_withLetter 11 = .ok (.lsub, 1) := by decide +kernel
theorem dX10_withLetter_12 : decode cX10_withLetter 12 = .ok (.lconst 1, 1) := by decide +kernel
theorem dX10_withLetter_13 : decode cX10_withLetter 13 = .ok (.ladd, 1) := by decide +kernel
theorem dX10_withLetter_14 : decode cX10_withLetter 14 = .ok (.lreturn, 1) := by decide +kernel
theorem dX11_act_0 : decode cX11_act 0 = .ok (.aload_n 0, 1) := by decide +kernel
theorem dX11_act_1 : decode cX11_act 1 = .ok (.getfield 27, 3) := by decide +kernel
theorem dX11_act_4 : decode cX11_act 4 = .ok (.iload_n 1, 1) := by decide +kernel
theorem dX11_act_5 : decode cX11_act 5 = .ok (.invokevirtual 150, 3) := by decide +kernel
theorem dX11_act_8 : decode cX11_act 8 = .ok (.astore_n 3, 1) := by decide +kernel
theorem dX11_act_9 : decode cX11_act 9 = .ok (.aload_n 3, 1) := by decide +kernel
theorem dX11_act_10 : decode cX11_act 10 = .ok (.ifnonnull 5, 3) := by decide +kernel
theorem dX11_act_13 : decode cX11_act 13 = .ok (.iconst (-1), 1) := by decide +kernel
theorem dX11_act_14 : decode cX11_act 14 = .ok (.ireturn, 1) := by decide +kernel
theorem dX11_act_15 : decode cX11_act 15 = .ok (.iload_n 2, 1) := by decide +kernel
theorem dX11_act_16 : decode cX11_act 16 = .ok (.tableswitch 74 0 3 #[32, 45, 58, 66], 32) := by decide +kernel
theorem dX11_act_48 : decode cX11_act 48 = .ok (.aload_n 3, 1) := by decide +kernel
theorem dX11_act_49 : decode cX11_act 49 = .ok (.getfield 154, 3) := by decide +kernel
theorem dX11_act_52 : decode cX11_act 52 = .ok (.ifCond .eq 7, 3) := by decide +kernel
theorem dX11_act_55 : decode cX11_act 55 = .ok (.iconst 1, 1) := by decide +kernel
theorem dX11_act_56 : decode cX11_act 56 = .ok (.goto 4, 3) := by decide +kernel
theorem dX11_act_59 : decode cX11_act 59 = .ok (.iconst 0, 1) := by decide +kernel
theorem dX11_act_60 : decode cX11_act 60 = .ok (.ireturn, 1) := by decide +kernel
theorem dX11_act_61 : decode cX11_act 61 = .ok (.aload_n 3, 1) := by decide +kernel
theorem dX11_act_62 : decode cX11_act 62 = .ok (.getfield 160, 3) := by decide +kernel
theorem dX11_act_65 : decode cX11_act 65 = .ok (.ifCond .eq 7, 3) := by decide +kernel
theorem dX11_act_68 : decode cX11_act 68 = .ok (.iconst 1, 1) := by decide +kernel
theorem dX11_act_69 : decode cX11_act 69 = .ok (.goto 4, 3) := by decide +kernel
theorem dX11_act_72 : decode cX11_act 72 = .ok (.iconst 0, 1) := by decide +kernel
theorem dX11_act_73 : decode cX11_act 73 = .ok (.ireturn, 1) := by decide +kernel
theorem dX11_act_74 : decode cX11_act 74 = .ok (.aload_n 3, 1) := by decide +kernel
theorem dX11_act_75 : decode cX11_act 75 = .ok (.getfield 163, 3) := by decide +kernel
theorem dX11_act_78 : decode cX11_act 78 = .ok (.invokevirtual 117, 3) := by decide +kernel
theorem dX11_act_81 : decode cX11_act 81 = .ok (.ireturn, 1) := by decide +kernel
theorem dX11_act_82 : decode cX11_act 82 = .ok (.aload_n 3, 1) := by decide +kernel
theorem dX11_act_83 : decode cX11_act 83 = .ok (.getfield 166, 3) := by decide +kernel
theorem dX11_act_86 : decode cX11_act 86 = .ok (.invokevirtual 117, 3) := by decide +kernel
theorem dX11_act_89 : decode cX11_act 89 = .ok (.ireturn, 1) := by decide +kernel
theorem dX11_act_90 : decode cX11_act 90 = .ok (.iconst (-1), 1) := by decide +kernel
theorem dX11_act_91 : decode cX11_act 91 = .ok (.ireturn, 1) := by decide +kernel
theorem dX11_after_0 : decode cX11_after 0 = .ok (.iload_n 1, 1) := by decide +kernel
theorem dX11_after_1 : decode cX11_after 1 = .ok (.invokestatic 169, 3) := by decide +kernel
theorem dX11_after_4 : decode cX11_after 4 = .ok (.ifCond .eq 10, 3) := by decide +kernel
theorem dX11_after_7 : decode cX11_after 7 = .ok (.iload_n 2, 1) := by decide +kernel
theorem dX11_after_8 : decode cX11_after 8 = .ok (.invokestatic 191, 3) := by decide +kernel
theorem dX11_after_11 : decode cX11_after 11 = .ok (.ifCond .ne 5, 3) := by decide +kernel
theorem dX11_after_14 : decode cX11_after 14 = .ok (.iconst (-1), 1) := by decide +kernel
theorem dX11_after_15 : decode cX11_after 15 = .ok (.ireturn, 1) := by decide +kernel
theorem dX11_after_16 : decode cX11_after 16 = .ok (.aload_n 0, 1) := by decide +kernel
theorem dX11_after_17 : decode cX11_after 17 = .ok (.getfield 43, 3) := by decide +kernel
theorem dX11_after_20 : decode cX11_after 20 = .ok (.aload_n 0, 1) := by decide +kernel
theorem dX11_after_21 : decode cX11_after 21 = .ok (.getfield 58, 3) := by decide +kernel
theorem dX11_after_24 : decode cX11_after 24 = .ok (.iload_n 1, 1) := by decide +kernel
theorem dX11_after_25 : decode cX11_after 25 = .ok (.aaload, 1) := by decide +kernel
theorem dX11_after_26 : decode cX11_after 26 = .ok (.aload_n 0, 1) := by decide +kernel
theorem dX11_after_27 : decode cX11_after 27 = .ok (.getfield 34, 3) := by decide +kernel
theorem dX11_after_30 : decode cX11_after 30 = .ok (.iconst 3, 1) := by decide +kernel
theorem dX11_after_31 : decode cX11_after 31 = .ok (.iconst 0, 1) := by decide +kernel
theorem dX11_after_32 : decode cX11_after 32 = .ok (.invokevirtual 184, 3) := by decide +kernel
theorem dX11_after_35 : decode cX11_after 35 = .ok (.pop, 1) := by decide +kernel
theorem dX11_after_36 : decode cX11_after 36 = .ok (.aload_n 0, 1) := by decide +kernel
theorem dX11_after_37 : decode cX11_after 37 = .ok (.getfield 43, 3) := by decide +kernel
theorem dX11_after_40 : decode cX11_after 40 = .ok (.getfield 194, 3) := by decide +kernel
theorem dX11_after_43 : decode cX11_after 43 = .ok (.iload_n 2, 1) := by decide +kernel
theorem dX11_after_44 : decode cX11_after 44 = .ok (.invokevirtual 197, 3) := by decide +kernel
theorem dX11_after_47 : decode cX11_after 47 = .ok (.ireturn, 1) := by decide +kernel
theorem dX11_areLaws_0 : decode cX11_areLaws 0 = .ok (.iload_n 0, 1) := by decide +kernel
theorem dX11_areLaws_1 : decode cX11_areLaws 1 = .ok (.iconst 1, 1) := by decide +kernel
theorem dX11_areLaws_2 : decode cX11_areLaws 2 = .ok (.if_icmp .lt 12, 3) := by decide +kernel
theorem dX11_areLaws_5 : decode cX11_areLaws 5 = .ok (.iload_n 0, 1) := by decide +kernel
theorem dX11_areLaws_6 : decode cX11_areLaws 6 = .ok (.iconst 3, 1) := by decide +kernel
theorem dX11_areLaws_7 : decode cX11_areLaws 7 = .ok (.if_icmp .gt 7, 3) := by decide +kernel
theorem dX11_areLaws_10 : decode cX11_areLaws 10 = .ok (.iconst 1, 1) := by decide +kernel
theorem dX11_areLaws_11 : decode cX11_areLaws 11 = .ok (.goto 4, 3) := by decide +kernel
theorem dX11_areLaws_14 : decode cX11_areLaws 14 = .ok (.iconst 0, 1) := by decide +kernel
theorem dX11_areLaws_15 : decode cX11_areLaws 15 = .ok (.ireturn, 1) := by decide +kernel
theorem dX11_arePair_0 : decode cX11_arePair 0 = .ok (.iload_n 0, 1) := by decide +kernel
theorem dX11_arePair_1 : decode cX11_arePair 1 = .ok (.invokestatic 69, 3) := by decide +kernel
theorem dX11_arePair_4 : decode cX11_arePair 4 = .ok (.ifCond .eq 19, 3) := by decide +kernel
theorem dX11_arePair_7 : decode cX11_arePair 7 = .ok (.iload_n 1, 1) := by decide +kernel
theorem dX11_arePair_8 : decode cX11_arePair 8 = .ok (.invokestatic 69, 3) := by decide +kernel
theorem dX11_arePair_11 : decode cX11_arePair 11 = .ok (.ifCond .eq 12, 3) := by decide +kernel
theorem dX11_arePair_14 : decode cX11_arePair 14 = .ok (.iload_n 0, 1) := by decide +kernel
theorem dX11_arePair_15 : decode cX11_arePair 15 = .ok (.iload_n 1, 1) := by decide +kernel
theorem dX11_arePair_16 : decode cX11_arePair 16 = .ok (.if_icmp .eq 7, 3) := by decide +kernel
theorem dX11_arePair_19 : decode cX11_arePair 19 = .ok (.iconst 1, 1) := by decide +kernel
theorem dX11_arePair_20 : decode cX11_arePair 20 = .ok (.goto 4, 3) := by decide +kernel
theorem dX11_arePair_23 : decode cX11_arePair 23 = .ok (.iconst 0, 1) := by decide +kernel
theorem dX11_arePair_24 : decode cX11_arePair 24 = .ok (.ireturn, 1) := by decide +kernel
theorem dX11_become_0 : decode cX11_become 0 = .ok (.iload_n 0, 1) := by decide +kernel
theorem dX11_become_1 : decode cX11_become 1 = .ok (.ifCond .lt 22, 3) := by decide +kernel
theorem dX11_become_4 : decode cX11_become 4 = .ok (.iload_n 0, 1) := by decide +kernel
theorem dX11_become_5 : decode cX11_become 5 = .ok (.bipush 6, 2) := by decide +kernel
theorem dX11_become_7 : decode cX11_become 7 = .ok (.if_icmp .ge 16, 3) := by decide +kernel
theorem dX11_become_10 : decode cX11_become 10 = .ok (.iload_n 1, 1) := by decide +kernel
theorem dX11_become_11 : decode cX11_become 11 = .ok (.ifCond .lt 12, 3) := by decide +kernel
theorem dX11_become_14 : decode cX11_become 14 = .ok (.iload_n 1, 1) := by decide +kernel
theorem dX11_become_15 : decode cX11_become 15 = .ok (.iconst 3, 1) := by decide +kernel
theorem dX11_become_16 : decode cX11_become 16 = .ok (.if_icmp .ge 7, 3) := by decide +kernel
theorem dX11_become_19 : decode cX11_become 19 = .ok (.iconst 1, 1) := by decide +kernel
theorem dX11_become_20 : decode cX11_become 20 = .ok (.goto 4, 3) := by decide +kernel
theorem dX11_become_23 : decode cX11_become 23 = .ok (.iconst 0, 1) := by decide +kernel
theorem dX11_become_24 : decode cX11_become 24 = .ok (.istore_n 2, 1) := by decide +kernel
theorem dX11_become_25 : decode cX11_become 25 = .ok (.iload_n 2, 1) := by decide +kernel
theorem dX11_become_26 : decode cX11_become 26 = .ok (.ifCond .eq 15, 3) := by decide +kernel
theorem dX11_become_29 : decode cX11_become 29 = .ok (.getstatic 255, 3) := by decide +kernel
theorem dX11_become_32 : decode cX11_become 32 = .ok (.iconst 3, 1) := by decide +kernel
theorem dX11_become_33 : decode cX11_become 33 = .ok (.iload_n 0, 1) := by decide +kernel
theorem dX11_become_34 : decode cX11_become 34 = .ok (.imul, 1) := by decide +kernel
theorem dX11_become_35 : decode cX11_become 35 = .ok (.iload_n 1, 1) := by decide +kernel
theorem dX11_become_36 : decode cX11_become 36 = .ok (.iadd, 1) := by decide +kernel
theorem dX11_become_37 : decode cX11_become 37 = .ok (.iaload, 1) := by decide +kernel
theorem dX11_become_38 : decode cX11_become 38 = .ok (.goto 4, 3) := by decide +kernel
theorem dX11_become_41 : decode cX11_become 41 = .ok (.iconst 3, 1) := by decide +kernel
theorem dX11_become_42 : decode cX11_become 42 = .ok (.ireturn, 1) := by decide +kernel
theorem dX11_clear_0 : decode cX11_clear 0 = .ok (.iload_n 1, 1) := by decide +kernel
theorem dX11_clear_1 : decode cX11_clear 1 = .ok (.invokestatic 169, 3) := by decide +kernel
theorem dX11_clear_4 : decode cX11_clear 4 = .ok (.ifCond .ne 5, 3) := by decide +kernel
theorem dX11_clear_7 : decode cX11_clear 7 = .ok (.iconst 0, 1) := by decide +kernel
theorem dX11_clear_8 : decode cX11_clear 8 = .ok (.ireturn, 1) := by decide +kernel
theorem dX11_clear_9 : decode cX11_clear 9 = .ok (.aload_n 0, 1) := by decide +kernel
theorem dX11_clear_10 : decode cX11_clear 10 = .ok (.getfield 58, 3) := by decide +kernel
theorem dX11_clear_13 : decode cX11_clear 13 = .ok (.iload_n 1, 1) := by decide +kernel
theorem dX11_clear_14 : decode cX11_clear 14 = .ok (.aaload, 1) := by decide +kernel
theorem dX11_clear_15 : decode cX11_clear 15 = .ok (.iconst 0, 1) := by decide +kernel
theorem dX11_clear_16 : decode cX11_clear 16 = .ok (.putfield 175, 3) := by decide +kernel
theorem dX11_clear_19 : decode cX11_clear 19 = .ok (.aload_n 0, 1) := by decide +kernel
theorem dX11_clear_20 : decode cX11_clear 20 = .ok (.getfield 58, 3) := by decide +kernel
theorem dX11_clear_23 : decode cX11_clear 23 = .ok (.iload_n 1, 1) := by decide +kernel
theorem dX11_clear_24 : decode cX11_clear 24 = .ok (.aaload, 1) := by decide +kernel
theorem dX11_clear_25 : decode cX11_clear 25 = .ok (.iconst 0, 1) := by decide +kernel
theorem dX11_clear_26 : decode cX11_clear 26 = .ok (.putfield 178, 3) := by decide +kernel
theorem dX11_clear_29 : decode cX11_clear 29 = .ok (.iconst 1, 1) := by decide +kernel
theorem dX11_clear_30 : decode cX11_clear 30 = .ok (.ireturn, 1) := by decide +kernel
theorem dX11_coin_0 : decode cX11_coin 0 = .ok (.iload_n 1, 1) := by decide +kernel
theorem dX11_coin_1 : decode cX11_coin 1 = .ok (.invokestatic 69, 3) := by decide +kernel
theorem dX11_coin_4 : decode cX11_coin 4 = .ok (.ifCond .eq 12, 3) := by decide +kernel
theorem dX11_coin_7 : decode cX11_coin 7 = .ok (.iload_n 2, 1) := by decide +kernel
theorem dX11_coin_8 : decode cX11_coin 8 = .ok (.bipush 15, 2) := by decide +kernel
theorem dX11_coin_10 : decode cX11_coin 10 = .ok (.invokestatic 73, 3) := by decide +kernel
theorem dX11_coin_13 : decode cX11_coin 13 = .ok (.ifCond .ne 5, 3) := by decide +kernel
theorem dX11_coin_16 : decode cX11_coin 16 = .ok (.iconst 0, 1) := by decide +kernel
theorem dX11_coin_17 : decode cX11_coin 17 = .ok (.ireturn, 1) := by decide +kernel
theorem dX11_coin_18 : decode cX11_coin 18 = .ok (.aload_n 0, 1) := by decide +kernel
theorem dX11_coin_19 : decode cX11_coin 19 = .ok (.getfield 34, 3) := by decide +kernel
theorem dX11_coin_22 : decode cX11_coin 22 = .ok (.iload_n 1, 1) := by decide +kernel
theorem dX11_coin_23 : decode cX11_coin 23 = .ok (.iload_n 2, 1) := by decide +kernel
theorem dX11_coin_24 : decode cX11_coin 24 = .ok (.invokevirtual 77, 3) := by decide +kernel
theorem dX11_coin_27 : decode cX11_coin 27 = .ok (.aload_n 0, 1) := by decide +kernel
theorem dX11_coin_28 : decode cX11_coin 28 = .ok (.getfield 52, 3) := by decide +kernel
theorem dX11_coin_31 : decode cX11_coin 31 = .ok (.invokevirtual 81, 3) := by decide +kernel
theorem dX11_coin_34 : decode cX11_coin 34 = .ok (.iconst 1, 1) := by decide +kernel
theorem dX11_coin_35 : decode cX11_coin 35 = .ok (.ireturn, 1) := by decide +kernel
theorem dX11_cure_0 : decode cX11_cure 0 = .ok (.aload_n 0, 1) := by decide +kernel
theorem dX11_cure_1 : decode cX11_cure 1 = .ok (.invokevirtual 93, 3) := by decide +kernel
theorem dX11_cure_4 : decode cX11_cure 4 = .ok (.aload_n 0, 1) := by decide +kernel
theorem dX11_cure_5 : decode cX11_cure 5 = .ok (.getfield 27, 3) := by decide +kernel
theorem dX11_cure_8 : decode cX11_cure 8 = .ok (.getfield 136, 3) := by decide +kernel
theorem dX11_cure_11 : decode cX11_cure 11 = .ok (.invokevirtual 117, 3) := by decide +kernel
theorem dX11_cure_14 : decode cX11_cure 14 = .ok (.iconst 5, 1) := by decide +kernel
theorem dX11_cure_15 : decode cX11_cure 15 = .ok (.if_icmp .ge 22, 3) := by decide +kernel
theorem dX11_cure_18 : decode cX11_cure 18 = .ok (.iload_n 1, 1) := by decide +kernel
theorem dX11_cure_19 : decode cX11_cure 19 = .ok (.bipush 11, 2) := by decide +kernel
theorem dX11_cure_21 : decode cX11_cure 21 = .ok (.invokestatic 73, 3) := by decide +kernel
theorem dX11_cure_24 : decode cX11_cure 24 = .ok (.ifCond .eq 13, 3) := by decide +kernel
theorem dX11_cure_27 : decode cX11_cure 27 = .ok (.aload_n 0, 1) := by decide +kernel
theorem dX11_cure_28 : decode cX11_cure 28 = .ok (.getfield 20, 3) := by decide +kernel
theorem dX11_cure_31 : decode cX11_cure 31 = .ok (.invokevirtual 125, 3) := by decide +kernel
theorem dX11_cure_34 : decode cX11_cure 34 = .ok (.ifCond .ne 5, 3) := by decide +kernel
theorem dX11_cure_37 : decode cX11_cure 37 = .ok (.iconst (-1), 1) := by decide +kernel
theorem dX11_cure_38 : decode cX11_cure 38 = .ok (.ireturn, 1) := by decide +kernel
theorem dX11_cure_39 : decode cX11_cure 39 = .ok (.aload_n 0, 1) := by decide +kernel
theorem dX11_cure_40 : decode cX11_cure 40 = .ok (.getfield 27, 3) := by decide +kernel
theorem dX11_cure_43 : decode cX11_cure 43 = .ok (.getfield 136, 3) := by decide +kernel
theorem dX11_cure_46 : decode cX11_cure 46 = .ok (.new 139, 3) := by decide +kernel
theorem dX11_cure_49 : decode cX11_cure 49 = .ok (.dup, 1) := by decide +kernel
theorem dX11_cure_50 : decode cX11_cure 50 = .ok (.iload_n 1, 1) := by decide +kernel
theorem dX11_cure_51 : decode cX11_cure 51 = .ok (.aload_n 0, 1) := by decide +kernel
theorem dX11_cure_52 : decode cX11_cure 52 = .ok (.getfield 20, 3) := by decide +kernel
theorem dX11_cure_55 : decode cX11_cure 55 = .ok (.iconst 5, 1) := by decide +kernel
theorem dX11_cure_56 : decode cX11_cure 56 = .ok (.iconst 0, 1) := by decide +kernel
theorem dX11_cure_57 : decode cX11_cure 57 = .ok (.invokevirtual 128, 3) := by decide +kernel
theorem dX11_cure_60 : decode cX11_cure 60 = .ok (.invokespecial 141, 3) := by decide +kernel
theorem dX11_cure_63 : decode cX11_cure 63 = .ok (.invokevirtual 132, 3) := by decide +kernel
theorem dX11_cure_66 : decode cX11_cure 66 = .ok (.pop, 1) := by decide +kernel
theorem dX11_cure_67 : decode cX11_cure 67 = .ok (.aload_n 0, 1) := by decide +kernel
theorem dX11_cure_68 : decode cX11_cure 68 = .ok (.getfield 52, 3) := by decide +kernel
theorem dX11_cure_71 : decode cX11_cure 71 = .ok (.invokevirtual 81, 3) := by decide +kernel
theorem dX11_cure_74 : decode cX11_cure 74 = .ok (.aload_n 0, 1) := by decide +kernel
theorem dX11_cure_75 : decode cX11_cure 75 = .ok (.getfield 27, 3) := by decide +kernel
theorem dX11_cure_78 : decode cX11_cure 78 = .ok (.getfield 136, 3) := by decide +kernel
theorem dX11_cure_81 : decode cX11_cure 81 = .ok (.invokevirtual 117, 3) := by decide +kernel
theorem dX11_cure_84 : decode cX11_cure 84 = .ok (.iconst 1, 1) := by decide +kernel
theorem dX11_cure_85 : decode cX11_cure 85 = .ok (.isub, 1) := by decide +kernel
theorem dX11_cure_86 : decode cX11_cure 86 = .ok (.ireturn, 1) := by decide +kernel
theorem dX11_day_0 : decode cX11_day 0 = .ok (.iload_n 1, 1) := by decide +kernel
theorem dX11_day_1 : decode cX11_day 1 = .ok (.bipush 15, 2) := by decide +kernel
theorem dX11_day_3 : decode cX11_day 3 = .ok (.invokestatic 73, 3) := by decide +kernel
theorem dX11_day_6 : decode cX11_day 6 = .ok (.ifCond .ne 5, 3) := by decide +kernel
theorem dX11_day_9 : decode cX11_day 9 = .ok (.iconst 0, 1) := by decide +kernel
theorem dX11_day_10 : decode cX11_day 10 = .ok (.ireturn, 1) := by decide +kernel
theorem dX11_day_11 : decode cX11_day 11 = .ok (.aload_n 0, 1) := by decide +kernel
theorem dX11_day_12 : decode cX11_day 12 = .ok (.getfield 34, 3) := by decide +kernel
theorem dX11_day_15 : decode cX11_day 15 = .ok (.bipush 50, 2) := by decide +kernel
theorem dX11_day_17 : decode cX11_day 17 = .ok (.iload_n 1, 1) := by decide +kernel
theorem dX11_day_18 : decode cX11_day 18 = .ok (.invokevirtual 77, 3) := by decide +kernel
theorem dX11_day_21 : decode cX11_day 21 = .ok (.aload_n 0, 1) := by decide +kernel
theorem dX11_day_22 : decode cX11_day 22 = .ok (.getfield 52, 3) := by decide +kernel
theorem dX11_day_25 : decode cX11_day 25 = .ok (.invokevirtual 81, 3) := by decide +kernel
theorem dX11_day_28 : decode cX11_day 28 = .ok (.iconst 1, 1) := by decide +kernel
theorem dX11_day_29 : decode cX11_day 29 = .ok (.ireturn, 1) := by decide +kernel
theorem dX11_debt_0 : decode cX11_debt 0 = .ok (.iload_n 1, 1) := by decide +kernel
theorem dX11_debt_1 : decode cX11_debt 1 = .ok (.iload_n 2, 1) := by decide +kernel
theorem dX11_debt_2 : decode cX11_debt 2 = .ok (.invokestatic 84, 3) := by decide +kernel
theorem dX11_debt_5 : decode cX11_debt 5 = .ok (.ifCond .eq 12, 3) := by decide +kernel
theorem dX11_debt_8 : decode cX11_debt 8 = .ok (.iload_n 3, 1) := by decide +kernel
theorem dX11_debt_9 : decode cX11_debt 9 = .ok (.bipush 7, 2) := by decide +kernel
theorem dX11_debt_11 : decode cX11_debt 11 = .ok (.invokestatic 73, 3) := by decide +kernel
theorem dX11_debt_14 : decode cX11_debt 14 = .ok (.ifCond .ne 5, 3) := by decide +kernel
theorem dX11_debt_17 : decode cX11_debt 17 = .ok (.iconst 0, 1) := by decide +kernel
theorem dX11_debt_18 : decode cX11_debt 18 = .ok (.ireturn, 1) := by decide +kernel
theorem dX11_debt_19 : decode cX11_debt 19 = .ok (.aload_n 0, 1) := by decide +kernel
theorem dX11_debt_20 : decode cX11_debt 20 = .ok (.getfield 34, 3) := by decide +kernel
theorem dX11_debt_23 : decode cX11_debt 23 = .ok (.bipush 10, 2) := by decide +kernel
theorem dX11_debt_25 : decode cX11_debt 25 = .ok (.iconst 3, 1) := by decide +kernel
theorem dX11_debt_26 : decode cX11_debt 26 = .ok (.iload_n 1, 1) := by decide +kernel
theorem dX11_debt_27 : decode cX11_debt 27 = .ok (.imul, 1) := by decide +kernel
theorem dX11_debt_28 : decode cX11_debt 28 = .ok (.iadd, 1) := by decide +kernel
theorem dX11_debt_29 : decode cX11_debt 29 = .ok (.iload_n 2, 1) := by decide +kernel
theorem dX11_debt_30 : decode cX11_debt 30 = .ok (.iadd, 1) := by decide +kernel
theorem dX11_debt_31 : decode cX11_debt 31 = .ok (.iload_n 3, 1) := by decide +kernel
theorem dX11_debt_32 : decode cX11_debt 32 = .ok (.invokevirtual 77, 3) := by decide +kernel
theorem dX11_debt_35 : decode cX11_debt 35 = .ok (.aload_n 0, 1) := by decide +kernel
theorem dX11_debt_36 : decode cX11_debt 36 = .ok (.getfield 52, 3) := by decide +kernel
theorem dX11_debt_39 : decode cX11_debt 39 = .ok (.invokevirtual 81, 3) := by decide +kernel
theorem dX11_debt_42 : decode cX11_debt 42 = .ok (.iconst 1, 1) := by decide +kernel
theorem dX11_debt_43 : decode cX11_debt 43 = .ok (.ireturn, 1) := by decide +kernel
theorem dX11_digits_0 : decode cX11_digits 0 = .ok (.bipush 100, 2) := by decide +kernel
theorem dX11_digits_2 : decode cX11_digits 2 = .ok (.iload_n 0, 1) := by decide +kernel
theorem dX11_digits_3 : decode cX11_digits 3 = .ok (.iconst 0, 1) := by decide +kernel
theorem dX11_digits_4 : decode cX11_digits 4 = .ok (.invokestatic 258, 3) := by decide +kernel
theorem dX11_digits_7 : decode cX11_digits 7 = .ok (.imul, 1) := by decide +kernel
theorem dX11_digits_8 : decode cX11_digits 8 = .ok (.bipush 10, 2) := by decide +kernel
theorem dX11_digits_10 : decode cX11_digits 10 = .ok (.iload_n 0, 1) := by decide +kernel
theorem dX11_digits_11 : decode cX11_digits 11 = .ok (.iconst 1, 1) := by decide +kernel
theorem dX11_digits_12 : decode cX11_digits 12 = .ok (.invokestatic 258, 3) := by decide +kernel
theorem dX11_digits_15 : decode cX11_digits 15 = .ok (.imul, 1) := by decide +kernel
theorem dX11_digits_16 : decode cX11_digits 16 = .ok (.iadd, 1) := by decide +kernel
theorem dX11_digits_17 : decode cX11_digits 17 = .ok (.iload_n 0, 1) := by decide +kernel
theorem dX11_digits_18 : decode cX11_digits 18 = .ok (.iconst 2, 1) := by decide +kernel
theorem dX11_digits_19 : decode cX11_digits 19 = .ok (.invokestatic 258, 3) := by decide +kernel
theorem dX11_digits_22 : decode cX11_digits 22 = .ok (.iadd, 1) := by decide +kernel
theorem dX11_digits_23 : decode cX11_digits 23 = .ok (.ireturn, 1) := by decide +kernel
theorem dX11_doerOf_0 : decode cX11_doerOf 0 = .ok (.iload_n 0, 1) := by decide +kernel
theorem dX11_doerOf_1 : decode cX11_doerOf 1 = .ok (.iconst 4, 1) := by decide +kernel
theorem dX11_doerOf_2 : decode cX11_doerOf 2 = .ok (.ishr, 1) := by decide +kernel
theorem dX11_doerOf_3 : decode cX11_doerOf 3 = .ok (.iconst 3, 1) := by decide +kernel
theorem dX11_doerOf_4 : decode cX11_doerOf 4 = .ok (.iand, 1) := by decide +kernel
theorem dX11_doerOf_5 : decode cX11_doerOf 5 = .ok (.ireturn, 1) := by decide +kernel
theorem dX11_end_0 : decode cX11_end 0 = .ok (.iload_n 1, 1) := by decide +kernel
theorem dX11_end_1 : decode cX11_end 1 = .ok (.aload_n 0, 1) := by decide +kernel
theorem dX11_end_2 : decode cX11_end 2 = .ok (.getfield 13, 3) := by decide +kernel
theorem dX11_end_5 : decode cX11_end 5 = .ok (.invokestatic 73, 3) := by decide +kernel
theorem dX11_end_8 : decode cX11_end 8 = .ok (.ifCond .ne 5, 3) := by decide +kernel
theorem dX11_end_11 : decode cX11_end 11 = .ok (.iconst 0, 1) := by decide +kernel
theorem dX11_end_12 : decode cX11_end 12 = .ok (.ireturn, 1) := by decide +kernel
theorem dX11_end_13 : decode cX11_end 13 = .ok (.aload_n 0, 1) := by decide +kernel
theorem dX11_end_14 : decode cX11_end 14 = .ok (.iload_n 1, 1) := by decide +kernel
theorem dX11_end_15 : decode cX11_end 15 = .ok (.putfield 13, 3) := by decide +kernel
theorem dX11_end_18 : decode cX11_end 18 = .ok (.iconst 1, 1) := by decide +kernel
theorem dX11_end_19 : decode cX11_end 19 = .ok (.ireturn, 1) := by decide +kernel
theorem dX11_fault_0 : decode cX11_fault 0 = .ok (.iload_n 1, 1) := by decide +kernel
theorem dX11_fault_1 : decode cX11_fault 1 = .ok (.ifCond .ne 11, 3) := by decide +kernel
theorem dX11_fault_4 : decode cX11_fault 4 = .ok (.aload_n 0, 1) := by decide +kernel
theorem dX11_fault_5 : decode cX11_fault 5 = .ok (.getfield 20, 3) := by decide +kernel
theorem dX11_fault_8 : decode cX11_fault 8 = .ok (.getfield 144, 3) := by decide +kernel
theorem dX11_fault_11 : decode cX11_fault 11 = .ok (.ireturn, 1) := by decide +kernel
theorem dX11_fault_12 : decode cX11_fault 12 = .ok (.iload_n 1, 1) := by decide +kernel
theorem dX11_fault_13 : decode cX11_fault 13 = .ok (.iconst 1, 1) := by decide +kernel
theorem dX11_fault_14 : decode cX11_fault 14 = .ok (.if_icmp .ne 13, 3) := by decide +kernel
theorem dX11_fault_17 : decode cX11_fault 17 = .ok (.aload_n 0, 1) := by decide +kernel
theorem dX11_fault_18 : decode cX11_fault 18 = .ok (.getfield 20, 3) := by decide +kernel
theorem dX11_fault_21 : decode cX11_fault 21 = .ok (.getfield 147, 3) := by decide +kernel
theorem dX11_fault_24 : decode cX11_fault 24 = .ok (.goto 4, 3) := by decide +kernel
theorem dX11_fault_27 : decode cX11_fault 27 = .ok (.iconst (-1), 1) := by decide +kernel
theorem dX11_fault_28 : decode cX11_fault 28 = .ok (.ireturn, 1) := by decide +kernel
theorem dX11_feed_0 : decode cX11_feed 0 = .ok (.aload_n 0, 1) := by decide +kernel
theorem dX11_feed_1 : decode cX11_feed 1 = .ok (.getfield 13, 3) := by decide +kernel
theorem dX11_feed_4 : decode cX11_feed 4 = .ok (.bipush 20, 2) := by decide +kernel
theorem dX11_feed_6 : decode cX11_feed 6 = .ok (.iadd, 1) := by decide +kernel
theorem dX11_feed_7 : decode cX11_feed 7 = .ok (.sipush 700, 3) := by decide +kernel
theorem dX11_feed_10 : decode cX11_feed 10 = .ok (.if_icmp .le 5, 3) := by decide +kernel
theorem dX11_feed_13 : decode cX11_feed 13 = .ok (.iconst (-1), 1) := by decide +kernel
theorem dX11_feed_14 : decode cX11_feed 14 = .ok (.ireturn, 1) := by decide +kernel
theorem dX11_feed_15 : decode cX11_feed 15 = .ok (.aload_n 0, 1) := by decide +kernel
theorem dX11_feed_16 : decode cX11_feed 16 = .ok (.iload_n 1, 1) := by decide +kernel
theorem dX11_feed_17 : decode cX11_feed 17 = .ok (.invokevirtual 90, 3) := by decide +kernel
theorem dX11_feed_20 : decode cX11_feed 20 = .ok (.aload_n 0, 1) := by decide +kernel
theorem dX11_feed_21 : decode cX11_feed 21 = .ok (.iload_n 2, 1) := by decide +kernel
theorem dX11_feed_22 : decode cX11_feed 22 = .ok (.invokevirtual 90, 3) := by decide +kernel
theorem dX11_feed_25 : decode cX11_feed 25 = .ok (.aload_n 0, 1) := by decide +kernel
theorem dX11_feed_26 : decode cX11_feed 26 = .ok (.iload_n 3, 1) := by decide +kernel
theorem dX11_feed_27 : decode cX11_feed 27 = .ok (.invokevirtual 90, 3) := by decide +kernel
theorem dX11_feed_30 : decode cX11_feed 30 = .ok (.aload_n 0, 1) := by decide +kernel
theorem dX11_feed_31 : decode cX11_feed 31 = .ok (.iload 4, 2) := by decide +kernel
theorem dX11_feed_33 : decode cX11_feed 33 = .ok (.invokevirtual 90, 3) := by decide +kernel
theorem dX11_feed_36 : decode cX11_feed 36 = .ok (.aload_n 0, 1) := by decide +kernel
theorem dX11_feed_37 : decode cX11_feed 37 = .ok (.iload 5, 2) := by decide +kernel
theorem dX11_feed_39 : decode cX11_feed 39 = .ok (.invokevirtual 90, 3) := by decide +kernel
theorem dX11_feed_42 : decode cX11_feed 42 = .ok (.aload_n 0, 1) := by decide +kernel
theorem dX11_feed_43 : decode cX11_feed 43 = .ok (.getfield 13, 3) := by decide +kernel
theorem dX11_feed_46 : decode cX11_feed 46 = .ok (.ireturn, 1) := by decide +kernel
theorem dX11_feedFour_0 : decode cX11_feedFour 0 = .ok (.bipush 24, 2) := by decide +kernel
theorem dX11_feedFour_2 : decode cX11_feedFour 2 = .ok (.istore_n 2, 1) := by decide +kernel
theorem dX11_feedFour_3 : decode cX11_feedFour 3 = .ok (.iload_n 2, 1) := by decide +kernel
theorem dX11_feedFour_4 : decode cX11_feedFour 4 = .ok (.ifCond .lt 47, 3) := by decide +kernel
theorem dX11_feedFour_7 : decode cX11_feedFour 7 = .ok (.aload_n 0, 1) := by decide +kernel
theorem dX11_feedFour_8 : decode cX11_feedFour 8 = .ok (.getfield 13, 3) := by decide +kernel
theorem dX11_feedFour_11 : decode cX11_feedFour 11 = .ok (.aload_n 0, 1) := by decide +kernel
theorem dX11_feedFour_12 : decode cX11_feedFour 12 = .ok (.getfield 9, 3) := by decide +kernel
theorem dX11_feedFour_15 : decode cX11_feedFour 15 = .ok (.arraylength, 1) := by decide +kernel
theorem dX11_feedFour_16 : decode cX11_feedFour 16 = .ok (.if_icmp .ge 29, 3) := by decide +kernel
theorem dX11_feedFour_19 : decode cX11_feedFour 19 = .ok (.aload_n 0, 1) := by decide +kernel
theorem dX11_feedFour_20 : decode cX11_feedFour 20 = .ok (.getfield 9, 3) := by decide +kernel
theorem dX11_feedFour_23 : decode cX11_feedFour 23 = .ok (.aload_n 0, 1) := by decide +kernel
theorem dX11_feedFour_24 : decode cX11_feedFour 24 = .ok (.getfield 13, 3) := by decide +kernel
theorem dX11_feedFour_27 : decode cX11_feedFour 27 = .ok (.iload_n 1, 1) := by decide +kernel
theorem dX11_feedFour_28 : decode cX11_feedFour 28 = .ok (.iload_n 2, 1) := by decide +kernel
theorem dX11_feedFour_29 : decode cX11_feedFour 29 = .ok (.iushr, 1) := by decide +kernel
theorem dX11_feedFour_30 : decode cX11_feedFour 30 = .ok (.sipush 255, 3) := by decide +kernel
theorem dX11_feedFour_33 : decode cX11_feedFour 33 = .ok (.iand, 1) := by decide +kernel
theorem dX11_feedFour_34 : decode cX11_feedFour 34 = .ok (.iastore, 1) := by decide +kernel
theorem dX11_feedFour_35 : decode cX11_feedFour 35 = .ok (.aload_n 0, 1) := by decide +kernel
theorem dX11_feedFour_36 : decode cX11_feedFour 36 = .ok (.dup, 1) := by decide +kernel
theorem dX11_feedFour_37 : decode cX11_feedFour 37 = .ok (.getfield 13, 3) := by decide +kernel
theorem dX11_feedFour_40 : decode cX11_feedFour 40 = .ok (.iconst 1, 1) := by decide +kernel
theorem dX11_feedFour_41 : decode cX11_feedFour 41 = .ok (.iadd, 1) := by decide +kernel
theorem dX11_feedFour_42 : decode cX11_feedFour 42 = .ok (.putfield 13, 3) := by decide +kernel
theorem dX11_feedFour_45 : decode cX11_feedFour 45 = .ok (.iinc 2 (-8), 3) := by decide +kernel
theorem dX11_feedFour_48 : decode cX11_feedFour 48 = .ok (.goto (-45), 3) := by decide +kernel
theorem dX11_feedFour_51 : decode cX11_feedFour 51 = .ok (.return_, 1) := by decide +kernel
theorem dX11_friends_0 : decode cX11_friends 0 = .ok (.aload_n 0, 1) := by decide +kernel
theorem dX11_friends_1 : decode cX11_friends 1 = .ok (.iload_n 1, 1) := by decide +kernel
theorem dX11_friends_2 : decode cX11_friends 2 = .ok (.invokevirtual 200, 3) := by decide +kernel
theorem dX11_friends_5 : decode cX11_friends 5 = .ok (.ifCond .eq 17, 3) := by decide +kernel
theorem dX11_friends_8 : decode cX11_friends 8 = .ok (.iload_n 2, 1) := by decide +kernel
theorem dX11_friends_9 : decode cX11_friends 9 = .ok (.invokestatic 181, 3) := by decide +kernel
theorem dX11_friends_12 : decode cX11_friends 12 = .ok (.ifCond .eq 10, 3) := by decide +kernel
theorem dX11_friends_15 : decode cX11_friends 15 = .ok (.iload_n 3, 1) := by decide +kernel
theorem dX11_friends_16 : decode cX11_friends 16 = .ok (.invokestatic 203, 3) := by decide +kernel
theorem dX11_friends_19 : decode cX11_friends 19 = .ok (.ifCond .ne 5, 3) := by decide +kernel
theorem dX11_friends_22 : decode cX11_friends 22 = .ok (.iconst (-1), 1) := by decide +kernel
theorem dX11_friends_23 : decode cX11_friends 23 = .ok (.ireturn, 1) := by decide +kernel
theorem dX11_friends_24 : decode cX11_friends 24 = .ok (.iconst 1, 1) := by decide +kernel
theorem dX11_friends_25 : decode cX11_friends 25 = .ok (.istore 4, 2) := by decide +kernel
theorem dX11_friends_27 : decode cX11_friends 27 = .ok (.iload 4, 2) := by decide +kernel
theorem dX11_friends_29 : decode cX11_friends 29 = .ok (.iconst 3, 1) := by decide +kernel
theorem dX11_friends_30 : decode cX11_friends 30 = .ok (.if_icmp .gt 65, 3) := by decide +kernel
theorem dX11_friends_33 : decode cX11_friends 33 = .ok (.iconst 1, 1) := by decide +kernel
theorem dX11_friends_34 : decode cX11_friends 34 = .ok (.istore 5, 2) := by decide +kernel
theorem dX11_friends_36 : decode cX11_friends 36 = .ok (.iload 5, 2) := by decide +kernel
theorem dX11_friends_38 : decode cX11_friends 38 = .ok (.bipush 7, 2) := by decide +kernel
theorem dX11_friends_40 : decode cX11_friends 40 = .ok (.if_icmp .gt 49, 3) := by decide +kernel
theorem dX11_friends_43 : decode cX11_friends 43 = .ok (.iload 5, 2) := by decide +kernel
theorem dX11_friends_45 : decode cX11_friends 45 = .ok (.invokestatic 223, 3) := by decide +kernel
theorem dX11_friends_48 : decode cX11_friends 48 = .ok (.iload 4, 2) := by decide +kernel
theorem dX11_friends_50 : decode cX11_friends 50 = .ok (.if_icmp .eq 6, 3) := by decide +kernel
theorem dX11_friends_53 : decode cX11_friends 53 = .ok (.goto 30, 3) := by decide +kernel
theorem dX11_friends_56 : decode cX11_friends 56 = .ok (.aload_n 0, 1) := by decide +kernel
theorem dX11_friends_57 : decode cX11_friends 57 = .ok (.getfield 52, 3) := by decide +kernel
theorem dX11_friends_60 : decode cX11_friends 60 = .ok (.iload_n 2, 1) := by decide +kernel
theorem dX11_friends_61 : decode cX11_friends 61 = .ok (.iload_n 3, 1) := by decide +kernel
theorem dX11_friends_62 : decode cX11_friends 62 = .ok (.iload 5, 2) := by decide +kernel
theorem dX11_friends_64 : decode cX11_friends 64 = .ok (.iconst 0, 1) := by decide +kernel
theorem dX11_friends_65 : decode cX11_friends 65 = .ok (.invokevirtual 206, 3) := by decide +kernel
theorem dX11_friends_68 : decode cX11_friends 68 = .ok (.aload_n 0, 1) := by decide +kernel
theorem dX11_friends_69 : decode cX11_friends 69 = .ok (.getfield 52, 3) := by decide +kernel
theorem dX11_friends_72 : decode cX11_friends 72 = .ok (.iload_n 1, 1) := by decide +kernel
theorem dX11_friends_73 : decode cX11_friends 73 = .ok (.invokevirtual 210, 3) := by decide +kernel
theorem dX11_friends_76 : decode cX11_friends 76 = .ok (.iconst (-1), 1) := by decide +kernel
theorem dX11_friends_77 : decode cX11_friends 77 = .ok (.if_icmp .eq 6, 3) := by decide +kernel
theorem dX11_friends_80 : decode cX11_friends 80 = .ok (.iload 5, 2) := by decide +kernel
theorem dX11_friends_82 : decode cX11_friends 82 = .ok (.ireturn, 1) := by decide +kernel
theorem dX11_friends_83 : decode cX11_friends 83 = .ok (.iinc 5 1, 3) := by decide +kernel
theorem dX11_friends_86 : decode cX11_friends 86 = .ok (.goto (-50), 3) := by decide +kernel
theorem dX11_friends_89 : decode cX11_friends 89 = .ok (.iinc 4 1, 3) := by decide +kernel
theorem dX11_friends_92 : decode cX11_friends 92 = .ok (.goto (-65), 3) := by decide +kernel
theorem dX11_friends_95 : decode cX11_friends 95 = .ok (.iconst (-1), 1) := by decide +kernel
theorem dX11_friends_96 : decode cX11_friends 96 = .ok (.ireturn, 1) := by decide +kernel
theorem dX11_gain_0 : decode cX11_gain 0 = .ok (.iload_n 1, 1) := by decide +kernel
theorem dX11_gain_1 : decode cX11_gain 1 = .ok (.invokestatic 69, 3) := by decide +kernel
theorem dX11_gain_4 : decode cX11_gain 4 = .ok (.ifCond .eq 22, 3) := by decide +kernel
theorem dX11_gain_7 : decode cX11_gain 7 = .ok (.iload_n 2, 1) := by decide +kernel
theorem dX11_gain_8 : decode cX11_gain 8 = .ok (.invokestatic 181, 3) := by decide +kernel
theorem dX11_gain_11 : decode cX11_gain 11 = .ok (.ifCond .eq 15, 3) := by decide +kernel
theorem dX11_gain_14 : decode cX11_gain 14 = .ok (.iload_n 3, 1) := by decide +kernel
theorem dX11_gain_15 : decode cX11_gain 15 = .ok (.invokestatic 203, 3) := by decide +kernel
theorem dX11_gain_18 : decode cX11_gain 18 = .ok (.ifCond .eq 8, 3) := by decide +kernel
theorem dX11_gain_21 : decode cX11_gain 21 = .ok (.iload 4, 2) := by decide +kernel
theorem dX11_gain_23 : decode cX11_gain 23 = .ok (.ifCond .ge 6, 3) := by decide +kernel
theorem dX11_gain_26 : decode cX11_gain 26 = .ok (.bipush (-100), 2) := by decide +kernel
theorem dX11_gain_28 : decode cX11_gain 28 = .ok (.ireturn, 1) := by decide +kernel
theorem dX11_gain_29 : decode cX11_gain 29 = .ok (.aload_n 0, 1) := by decide +kernel
theorem dX11_gain_30 : decode cX11_gain 30 = .ok (.getfield 52, 3) := by decide +kernel
theorem dX11_gain_33 : decode cX11_gain 33 = .ok (.iload_n 2, 1) := by decide +kernel
theorem dX11_gain_34 : decode cX11_gain 34 = .ok (.iload_n 3, 1) := by decide +kernel
theorem dX11_gain_35 : decode cX11_gain 35 = .ok (.bipush 7, 2) := by decide +kernel
theorem dX11_gain_37 : decode cX11_gain 37 = .ok (.iconst 0, 1) := by decide +kernel
theorem dX11_gain_38 : decode cX11_gain 38 = .ok (.invokevirtual 206, 3) := by decide +kernel
theorem dX11_gain_41 : decode cX11_gain 41 = .ok (.aload_n 0, 1) := by decide +kernel
theorem dX11_gain_42 : decode cX11_gain 42 = .ok (.getfield 52, 3) := by decide +kernel
theorem dX11_gain_45 : decode cX11_gain 45 = .ok (.invokevirtual 232, 3) := by decide +kernel
theorem dX11_gain_48 : decode cX11_gain 48 = .ok (.aload_n 0, 1) := by decide +kernel
theorem dX11_gain_49 : decode cX11_gain 49 = .ok (.getfield 52, 3) := by decide +kernel
theorem dX11_gain_52 : decode cX11_gain 52 = .ok (.getfield 214, 3) := by decide +kernel
theorem dX11_gain_55 : decode cX11_gain 55 = .ok (.ifCond .eq 6, 3) := by decide +kernel
theorem dX11_gain_58 : decode cX11_gain 58 = .ok (.bipush (-101), 2) := by decide +kernel
theorem dX11_gain_60 : decode cX11_gain 60 = .ok (.ireturn, 1) := by decide +kernel
theorem dX11_gain_61 : decode cX11_gain 61 = .ok (.aload_n 0, 1) := by decide +kernel
theorem dX11_gain_62 : decode cX11_gain 62 = .ok (.getfield 52, 3) := by decide +kernel
theorem dX11_gain_65 : decode cX11_gain 65 = .ok (.iload_n 1, 1) := by decide +kernel
theorem dX11_gain_66 : decode cX11_gain 66 = .ok (.invokevirtual 238, 3) := by decide +kernel
theorem dX11_gain_69 : decode cX11_gain 69 = .ok (.istore 5, 2) := by decide +kernel
theorem dX11_gain_71 : decode cX11_gain 71 = .ok (.iload 4, 2) := by decide +kernel
theorem dX11_gain_73 : decode cX11_gain 73 = .ok (.ifCond .ne 14, 3) := by decide +kernel
theorem dX11_gain_76 : decode cX11_gain 76 = .ok (.aload_n 0, 1) := by decide +kernel
theorem dX11_gain_77 : decode cX11_gain 77 = .ok (.getfield 52, 3) := by decide +kernel
theorem dX11_gain_80 : decode cX11_gain 80 = .ok (.iload 5, 2) := by decide +kernel
theorem dX11_gain_82 : decode cX11_gain 82 = .ok (.iload_n 1, 1) := by decide +kernel
theorem dX11_gain_83 : decode cX11_gain 83 = .ok (.invokevirtual 241, 3) := by decide +kernel
theorem dX11_gain_86 : decode cX11_gain 86 = .ok (.ireturn, 1) := by decide +kernel
theorem dX11_gain_87 : decode cX11_gain 87 = .ok (.iload 4, 2) := by decide +kernel
theorem dX11_gain_89 : decode cX11_gain 89 = .ok (.iconst 1, 1) := by decide +kernel
theorem dX11_gain_90 : decode cX11_gain 90 = .ok (.if_icmp .ne 13, 3) := by decide +kernel
theorem dX11_gain_93 : decode cX11_gain 93 = .ok (.aload_n 0, 1) := by decide +kernel
theorem dX11_gain_94 : decode cX11_gain 94 = .ok (.getfield 52, 3) := by decide +kernel
theorem dX11_gain_97 : decode cX11_gain 97 = .ok (.iload 5, 2) := by decide +kernel
theorem dX11_gain_99 : decode cX11_gain 99 = .ok (.invokevirtual 217, 3) := by decide +kernel
theorem dX11_gain_102 : decode cX11_gain 102 = .ok (.ireturn, 1) := by decide +kernel
theorem dX11_gain_103 : decode cX11_gain 103 = .ok (.aload_n 0, 1) := by decide +kernel
theorem dX11_gain_104 : decode cX11_gain 104 = .ok (.getfield 52, 3) := by decide +kernel
theorem dX11_gain_107 : decode cX11_gain 107 = .ok (.iload 5, 2) := by decide +kernel
theorem dX11_gain_109 : decode cX11_gain 109 = .ok (.iload 4, 2) := by decide +kernel
theorem dX11_gain_111 : decode cX11_gain 111 = .ok (.iconst 2, 1) := by decide +kernel
theorem dX11_gain_112 : decode cX11_gain 112 = .ok (.isub, 1) := by decide +kernel
theorem dX11_gain_113 : decode cX11_gain 113 = .ok (.invokevirtual 219, 3) := by decide +kernel
theorem dX11_gain_116 : decode cX11_gain 116 = .ok (.istore 6, 2) := by decide +kernel
theorem dX11_gain_118 : decode cX11_gain 118 = .ok (.iload 6, 2) := by decide +kernel
theorem dX11_gain_120 : decode cX11_gain 120 = .ok (.iconst (-1), 1) := by decide +kernel
theorem dX11_gain_121 : decode cX11_gain 121 = .ok (.if_icmp .ne 8, 3) := by decide +kernel
theorem dX11_gain_124 : decode cX11_gain 124 = .ok (.bipush (-100), 2) := by decide +kernel
theorem dX11_gain_126 : decode cX11_gain 126 = .ok (.goto 5, 3) := by decide +kernel
theorem dX11_gain_129 : decode cX11_gain 129 = .ok (.iload 6, 2) := by decide +kernel
theorem dX11_gain_131 : decode cX11_gain 131 = .ok (.ireturn, 1) := by decide +kernel
theorem dX11_hasHole_0 : decode cX11_hasHole 0 = .ok (.aload_n 0, 1) := by decide +kernel
theorem dX11_hasHole_1 : decode cX11_hasHole 1 = .ok (.getfield 52, 3) := by decide +kernel
theorem dX11_hasHole_4 : decode cX11_hasHole 4 = .ok (.iload_n 2, 1) := by decide +kernel
theorem dX11_hasHole_5 : decode cX11_hasHole 5 = .ok (.iload_n 3, 1) := by decide +kernel
theorem dX11_hasHole_6 : decode cX11_hasHole 6 = .ok (.bipush 7, 2) := by decide +kernel
theorem dX11_hasHole_8 : decode cX11_hasHole 8 = .ok (.iconst 0, 1) := by decide +kernel
theorem dX11_hasHole_9 : decode cX11_hasHole 9 = .ok (.invokevirtual 206, 3) := by decide +kernel
theorem dX11_hasHole_12 : decode cX11_hasHole 12 = .ok (.aload_n 0, 1) := by decide +kernel
theorem dX11_hasHole_13 : decode cX11_hasHole 13 = .ok (.getfield 52, 3) := by decide +kernel
theorem dX11_hasHole_16 : decode cX11_hasHole 16 = .ok (.iload_n 1, 1) := by decide +kernel
theorem dX11_hasHole_17 : decode cX11_hasHole 17 = .ok (.invokevirtual 210, 3) := by decide +kernel
theorem dX11_hasHole_20 : decode cX11_hasHole 20 = .ok (.iconst (-1), 1) := by decide +kernel
theorem dX11_hasHole_21 : decode cX11_hasHole 21 = .ok (.if_icmp .eq 5, 3) := by decide +kernel
theorem dX11_hasHole_24 : decode cX11_hasHole 24 = .ok (.iconst 1, 1) := by decide +kernel
theorem dX11_hasHole_25 : decode cX11_hasHole 25 = .ok (.ireturn, 1) := by decide +kernel
theorem dX11_hasHole_26 : decode cX11_hasHole 26 = .ok (.aload_n 0, 1) := by decide +kernel
theorem dX11_hasHole_27 : decode cX11_hasHole 27 = .ok (.getfield 52, 3) := by decide +kernel
theorem dX11_hasHole_30 : decode cX11_hasHole 30 = .ok (.getfield 214, 3) := by decide +kernel
theorem dX11_hasHole_33 : decode cX11_hasHole 33 = .ok (.ifCond .eq 8, 3) := by decide +kernel
theorem dX11_hasHole_36 : decode cX11_hasHole 36 = .ok (.bipush (-2), 2) := by decide +kernel
theorem dX11_hasHole_38 : decode cX11_hasHole 38 = .ok (.goto 4, 3) := by decide +kernel
theorem dX11_hasHole_41 : decode cX11_hasHole 41 = .ok (.iconst 0, 1) := by decide +kernel
theorem dX11_hasHole_42 : decode cX11_hasHole 42 = .ok (.ireturn, 1) := by decide +kernel
theorem dX11_hole_0 : decode cX11_hole 0 = .ok (.aload_n 0, 1) := by decide +kernel
theorem dX11_hole_1 : decode cX11_hole 1 = .ok (.iload_n 1, 1) := by decide +kernel
theorem dX11_hole_2 : decode cX11_hole 2 = .ok (.invokevirtual 200, 3) := by decide +kernel
theorem dX11_hole_5 : decode cX11_hole 5 = .ok (.ifCond .eq 17, 3) := by decide +kernel
theorem dX11_hole_8 : decode cX11_hole 8 = .ok (.iload_n 2, 1) := by decide +kernel
theorem dX11_hole_9 : decode cX11_hole 9 = .ok (.invokestatic 181, 3) := by decide +kernel
theorem dX11_hole_12 : decode cX11_hole 12 = .ok (.ifCond .eq 10, 3) := by decide +kernel
theorem dX11_hole_15 : decode cX11_hole 15 = .ok (.iload_n 3, 1) := by decide +kernel
theorem dX11_hole_16 : decode cX11_hole 16 = .ok (.invokestatic 203, 3) := by decide +kernel
theorem dX11_hole_19 : decode cX11_hole 19 = .ok (.ifCond .ne 5, 3) := by decide +kernel
theorem dX11_hole_22 : decode cX11_hole 22 = .ok (.iconst (-1), 1) := by decide +kernel
theorem dX11_hole_23 : decode cX11_hole 23 = .ok (.ireturn, 1) := by decide +kernel
theorem dX11_hole_24 : decode cX11_hole 24 = .ok (.iload 4, 2) := by decide +kernel
theorem dX11_hole_26 : decode cX11_hole 26 = .ok (.iconst 1, 1) := by decide +kernel
theorem dX11_hole_27 : decode cX11_hole 27 = .ok (.if_icmp .lt 20, 3) := by decide +kernel
theorem dX11_hole_30 : decode cX11_hole 30 = .ok (.iload 4, 2) := by decide +kernel
theorem dX11_hole_32 : decode cX11_hole 32 = .ok (.bipush 7, 2) := by decide +kernel
theorem dX11_hole_34 : decode cX11_hole 34 = .ok (.if_icmp .gt 13, 3) := by decide +kernel
theorem dX11_hole_37 : decode cX11_hole 37 = .ok (.iload 5, 2) := by decide +kernel
theorem dX11_hole_39 : decode cX11_hole 39 = .ok (.bipush 20, 2) := by decide +kernel
theorem dX11_hole_41 : decode cX11_hole 41 = .ok (.invokestatic 73, 3) := by decide +kernel
theorem dX11_hole_44 : decode cX11_hole 44 = .ok (.ifCond .ne 5, 3) := by decide +kernel
theorem dX11_hole_47 : decode cX11_hole 47 = .ok (.iconst (-1), 1) := by decide +kernel
theorem dX11_hole_48 : decode cX11_hole 48 = .ok (.ireturn, 1) := by decide +kernel
theorem dX11_hole_49 : decode cX11_hole 49 = .ok (.aload_n 0, 1) := by decide +kernel
theorem dX11_hole_50 : decode cX11_hole 50 = .ok (.getfield 52, 3) := by decide +kernel
theorem dX11_hole_53 : decode cX11_hole 53 = .ok (.iload_n 2, 1) := by decide +kernel
theorem dX11_hole_54 : decode cX11_hole 54 = .ok (.iload_n 3, 1) := by decide +kernel
theorem dX11_hole_55 : decode cX11_hole 55 = .ok (.iload 4, 2) := by decide +kernel
theorem dX11_hole_57 : decode cX11_hole 57 = .ok (.iconst 0, 1) := by decide +kernel
theorem dX11_hole_58 : decode cX11_hole 58 = .ok (.invokevirtual 206, 3) := by decide +kernel
theorem dX11_hole_61 : decode cX11_hole 61 = .ok (.aload_n 0, 1) := by decide +kernel
theorem dX11_hole_62 : decode cX11_hole 62 = .ok (.getfield 52, 3) := by decide +kernel
theorem dX11_hole_65 : decode cX11_hole 65 = .ok (.iload_n 1, 1) := by decide +kernel
theorem dX11_hole_66 : decode cX11_hole 66 = .ok (.invokevirtual 210, 3) := by decide +kernel
theorem dX11_hole_69 : decode cX11_hole 69 = .ok (.istore 6, 2) := by decide +kernel
theorem dX11_hole_71 : decode cX11_hole 71 = .ok (.iload 5, 2) := by decide +kernel
theorem dX11_hole_73 : decode cX11_hole 73 = .ok (.bipush 20, 2) := by decide +kernel
theorem dX11_hole_75 : decode cX11_hole 75 = .ok (.if_icmp .ne 24, 3) := by decide +kernel
theorem dX11_hole_78 : decode cX11_hole 78 = .ok (.iload 6, 2) := by decide +kernel
theorem dX11_hole_80 : decode cX11_hole 80 = .ok (.iconst (-1), 1) := by decide +kernel
theorem dX11_hole_81 : decode cX11_hole 81 = .ok (.if_icmp .ne 13, 3) := by decide +kernel
theorem dX11_hole_84 : decode cX11_hole 84 = .ok (.aload_n 0, 1) := by decide +kernel
theorem dX11_hole_85 : decode cX11_hole 85 = .ok (.getfield 52, 3) := by decide +kernel
theorem dX11_hole_88 : decode cX11_hole 88 = .ok (.getfield 213, 3) := by decide +kernel
theorem dX11_hole_91 : decode cX11_hole 91 = .ok (.goto 7, 3) := by decide +kernel
theorem dX11_hole_94 : decode cX11_hole 94 = .ok (.iload 6, 2) := by decide +kernel
theorem dX11_hole_96 : decode cX11_hole 96 = .ok (.iconst 1, 1) := by decide +kernel
theorem dX11_hole_97 : decode cX11_hole 97 = .ok (.iadd, 1) := by decide +kernel
theorem dX11_hole_98 : decode cX11_hole 98 = .ok (.ireturn, 1) := by decide +kernel
theorem dX11_hole_99 : decode cX11_hole 99 = .ok (.iload 6, 2) := by decide +kernel
theorem dX11_hole_101 : decode cX11_hole 101 = .ok (.iconst (-1), 1) := by decide +kernel
theorem dX11_hole_102 : decode cX11_hole 102 = .ok (.if_icmp .ne 20, 3) := by decide +kernel
theorem dX11_hole_105 : decode cX11_hole 105 = .ok (.aload_n 0, 1) := by decide +kernel
theorem dX11_hole_106 : decode cX11_hole 106 = .ok (.getfield 52, 3) := by decide +kernel
theorem dX11_hole_109 : decode cX11_hole 109 = .ok (.getfield 214, 3) := by decide +kernel
theorem dX11_hole_112 : decode cX11_hole 112 = .ok (.ifCond .eq 8, 3) := by decide +kernel
theorem dX11_hole_115 : decode cX11_hole 115 = .ok (.bipush (-2), 2) := by decide +kernel
theorem dX11_hole_117 : decode cX11_hole 117 = .ok (.goto 4, 3) := by decide +kernel
theorem dX11_hole_120 : decode cX11_hole 120 = .ok (.iconst (-1), 1) := by decide +kernel
theorem dX11_hole_121 : decode cX11_hole 121 = .ok (.ireturn, 1) := by decide +kernel
theorem dX11_hole_122 : decode cX11_hole 122 = .ok (.iload 5, 2) := by decide +kernel
theorem dX11_hole_124 : decode cX11_hole 124 = .ok (.ifCond .ne 15, 3) := by decide +kernel
theorem dX11_hole_127 : decode cX11_hole 127 = .ok (.aload_n 0, 1) := by decide +kernel
theorem dX11_hole_128 : decode cX11_hole 128 = .ok (.getfield 52, 3) := by decide +kernel
theorem dX11_hole_131 : decode cX11_hole 131 = .ok (.iload 6, 2) := by decide +kernel
theorem dX11_hole_133 : decode cX11_hole 133 = .ok (.invokevirtual 217, 3) := by decide +kernel
theorem dX11_hole_136 : decode cX11_hole 136 = .ok (.goto 16, 3) := by decide +kernel
theorem dX11_hole_139 : decode cX11_hole 139 = .ok (.aload_n 0, 1) := by decide +kernel
theorem dX11_hole_140 : decode cX11_hole 140 = .ok (.getfield 52, 3) := by decide +kernel
theorem dX11_hole_143 : decode cX11_hole 143 = .ok (.iload 6, 2) := by decide +kernel
theorem dX11_hole_145 : decode cX11_hole 145 = .ok (.iload 5, 2) := by decide +kernel
theorem dX11_hole_147 : decode cX11_hole 147 = .ok (.iconst 1, 1) := by decide +kernel
theorem dX11_hole_148 : decode cX11_hole 148 = .ok (.isub, 1) := by decide +kernel
theorem dX11_hole_149 : decode cX11_hole 149 = .ok (.invokevirtual 219, 3) := by decide +kernel
theorem dX11_hole_152 : decode cX11_hole 152 = .ok (.ireturn, 1) := by decide +kernel
theorem dX11_honest_0 : decode cX11_honest 0 = .ok (.iload_n 1, 1) := by decide +kernel
theorem dX11_honest_1 : decode cX11_honest 1 = .ok (.invokestatic 169, 3) := by decide +kernel
theorem dX11_honest_4 : decode cX11_honest 4 = .ok (.ifCond .eq 16, 3) := by decide +kernel
theorem dX11_honest_7 : decode cX11_honest 7 = .ok (.aload_n 0, 1) := by decide +kernel
theorem dX11_honest_8 : decode cX11_honest 8 = .ok (.getfield 58, 3) := by decide +kernel
theorem dX11_honest_11 : decode cX11_honest 11 = .ok (.iload_n 1, 1) := by decide +kernel
theorem dX11_honest_12 : decode cX11_honest 12 = .ok (.aaload, 1) := by decide +kernel
theorem dX11_honest_13 : decode cX11_honest 13 = .ok (.getfield 178, 3) := by decide +kernel
theorem dX11_honest_16 : decode cX11_honest 16 = .ok (.iload_n 2, 1) := by decide +kernel
theorem dX11_honest_17 : decode cX11_honest 17 = .ok (.if_icmp .ne 5, 3) := by decide +kernel
theorem dX11_honest_20 : decode cX11_honest 20 = .ok (.iconst 0, 1) := by decide +kernel
theorem dX11_honest_21 : decode cX11_honest 21 = .ok (.ireturn, 1) := by decide +kernel
theorem dX11_honest_22 : decode cX11_honest 22 = .ok (.aload_n 0, 1) := by decide +kernel
theorem dX11_honest_23 : decode cX11_honest 23 = .ok (.getfield 58, 3) := by decide +kernel
theorem dX11_honest_26 : decode cX11_honest 26 = .ok (.iload_n 1, 1) := by decide +kernel
theorem dX11_honest_27 : decode cX11_honest 27 = .ok (.aaload, 1) := by decide +kernel
theorem dX11_honest_28 : decode cX11_honest 28 = .ok (.iload_n 2, 1) := by decide +kernel
theorem dX11_honest_29 : decode cX11_honest 29 = .ok (.putfield 178, 3) := by decide +kernel
theorem dX11_honest_32 : decode cX11_honest 32 = .ok (.iconst 1, 1) := by decide +kernel
theorem dX11_honest_33 : decode cX11_honest 33 = .ok (.ireturn, 1) := by decide +kernel
theorem dX11_isDepth_0 : decode cX11_isDepth 0 = .ok (.iload_n 0, 1) := by decide +kernel
theorem dX11_isDepth_1 : decode cX11_isDepth 1 = .ok (.ifCond .lt 13, 3) := by decide +kernel
theorem dX11_isDepth_4 : decode cX11_isDepth 4 = .ok (.iload_n 0, 1) := by decide +kernel
theorem dX11_isDepth_5 : decode cX11_isDepth 5 = .ok (.bipush 6, 2) := by decide +kernel
theorem dX11_isDepth_7 : decode cX11_isDepth 7 = .ok (.if_icmp .gt 7, 3) := by decide +kernel
theorem dX11_isDepth_10 : decode cX11_isDepth 10 = .ok (.iconst 1, 1) := by decide +kernel
theorem dX11_isDepth_11 : decode cX11_isDepth 11 = .ok (.goto 4, 3) := by decide +kernel
theorem dX11_isDepth_14 : decode cX11_isDepth 14 = .ok (.iconst 0, 1) := by decide +kernel
theorem dX11_isDepth_15 : decode cX11_isDepth 15 = .ok (.ireturn, 1) := by decide +kernel
theorem dX11_isNever_0 : decode cX11_isNever 0 = .ok (.iload_n 1, 1) := by decide +kernel
theorem dX11_isNever_1 : decode cX11_isNever 1 = .ok (.ifCond .lt 21, 3) := by decide +kernel
theorem dX11_isNever_4 : decode cX11_isNever 4 = .ok (.iload_n 1, 1) := by decide +kernel
theorem dX11_isNever_5 : decode cX11_isNever 5 = .ok (.aload_n 0, 1) := by decide +kernel
theorem dX11_isNever_6 : decode cX11_isNever 6 = .ok (.getfield 27, 3) := by decide +kernel
theorem dX11_isNever_9 : decode cX11_isNever 9 = .ok (.getfield 122, 3) := by decide +kernel
theorem dX11_isNever_12 : decode cX11_isNever 12 = .ok (.invokevirtual 117, 3) := by decide +kernel
theorem dX11_isNever_15 : decode cX11_isNever 15 = .ok (.if_icmp .ge 7, 3) := by decide +kernel
theorem dX11_isNever_18 : decode cX11_isNever 18 = .ok (.iconst 1, 1) := by decide +kernel
theorem dX11_isNever_19 : decode cX11_isNever 19 = .ok (.goto 4, 3) := by decide +kernel
theorem dX11_isNever_22 : decode cX11_isNever 22 = .ok (.iconst 0, 1) := by decide +kernel
theorem dX11_isNever_23 : decode cX11_isNever 23 = .ok (.ireturn, 1) := by decide +kernel
theorem dX11_isPerson_0 : decode cX11_isPerson 0 = .ok (.iload_n 0, 1) := by decide +kernel
theorem dX11_isPerson_1 : decode cX11_isPerson 1 = .ok (.ifCond .lt 12, 3) := by decide +kernel
theorem dX11_isPerson_4 : decode cX11_isPerson 4 = .ok (.iload_n 0, 1) := by decide +kernel
theorem dX11_isPerson_5 : decode cX11_isPerson 5 = .ok (.iconst 3, 1) := by decide +kernel
theorem dX11_isPerson_6 : decode cX11_isPerson 6 = .ok (.if_icmp .ge 7, 3) := by decide +kernel
theorem dX11_isPerson_9 : decode cX11_isPerson 9 = .ok (.iconst 1, 1) := by decide +kernel
theorem dX11_isPerson_10 : decode cX11_isPerson 10 = .ok (.goto 4, 3) := by decide +kernel
theorem dX11_isPerson_13 : decode cX11_isPerson 13 = .ok (.iconst 0, 1) := by decide +kernel
theorem dX11_isPerson_14 : decode cX11_isPerson 14 = .ok (.ireturn, 1) := by decide +kernel
theorem dX11_isRow_0 : decode cX11_isRow 0 = .ok (.iload_n 0, 1) := by decide +kernel
theorem dX11_isRow_1 : decode cX11_isRow 1 = .ok (.ifCond .lt 13, 3) := by decide +kernel
theorem dX11_isRow_4 : decode cX11_isRow 4 = .ok (.iload_n 0, 1) := by decide +kernel
theorem dX11_isRow_5 : decode cX11_isRow 5 = .ok (.bipush 6, 2) := by decide +kernel
theorem dX11_isRow_7 : decode cX11_isRow 7 = .ok (.if_icmp .ge 7, 3) := by decide +kernel
theorem dX11_isRow_10 : decode cX11_isRow 10 = .ok (.iconst 1, 1) := by decide +kernel
theorem dX11_isRow_11 : decode cX11_isRow 11 = .ok (.goto 4, 3) := by decide +kernel
theorem dX11_isRow_14 : decode cX11_isRow 14 = .ok (.iconst 0, 1) := by decide +kernel
theorem dX11_isRow_15 : decode cX11_isRow 15 = .ok (.ireturn, 1) := by decide +kernel
theorem dX11_isThing_0 : decode cX11_isThing 0 = .ok (.iload_n 0, 1) := by decide +kernel
theorem dX11_isThing_1 : decode cX11_isThing 1 = .ok (.ifCond .lt 12, 3) := by decide +kernel
theorem dX11_isThing_4 : decode cX11_isThing 4 = .ok (.iload_n 0, 1) := by decide +kernel
theorem dX11_isThing_5 : decode cX11_isThing 5 = .ok (.iconst 3, 1) := by decide +kernel
theorem dX11_isThing_6 : decode cX11_isThing 6 = .ok (.if_icmp .ge 7, 3) := by decide +kernel
theorem dX11_isThing_9 : decode cX11_isThing 9 = .ok (.iconst 1, 1) := by decide +kernel
theorem dX11_isThing_10 : decode cX11_isThing 10 = .ok (.goto 4, 3) := by decide +kernel
theorem dX11_isThing_13 : decode cX11_isThing 13 = .ok (.iconst 0, 1) := by decide +kernel
theorem dX11_isThing_14 : decode cX11_isThing 14 = .ok (.ireturn, 1) := by decide +kernel
theorem dX11_isWithin_0 : decode cX11_isWithin 0 = .ok (.iload_n 0, 1) := by decide +kernel
theorem dX11_isWithin_1 : decode cX11_isWithin 1 = .ok (.ifCond .lt 12, 3) := by decide +kernel
theorem dX11_isWithin_4 : decode cX11_isWithin 4 = .ok (.iload_n 0, 1) := by decide +kernel
theorem dX11_isWithin_5 : decode cX11_isWithin 5 = .ok (.iload_n 1, 1) := by decide +kernel
theorem dX11_isWithin_6 : decode cX11_isWithin 6 = .ok (.if_icmp .gt 7, 3) := by decide +kernel
theorem dX11_isWithin_9 : decode cX11_isWithin 9 = .ok (.iconst 1, 1) := by decide +kernel
theorem dX11_isWithin_10 : decode cX11_isWithin 10 = .ok (.goto 4, 3) := by decide +kernel
theorem dX11_isWithin_13 : decode cX11_isWithin 13 = .ok (.iconst 0, 1) := by decide +kernel
theorem dX11_isWithin_14 : decode cX11_isWithin 14 = .ok (.ireturn, 1) := by decide +kernel
theorem dX11_kin_0 : decode cX11_kin 0 = .ok (.iload_n 1, 1) := by decide +kernel
theorem dX11_kin_1 : decode cX11_kin 1 = .ok (.iload_n 2, 1) := by decide +kernel
theorem dX11_kin_2 : decode cX11_kin 2 = .ok (.invokestatic 84, 3) := by decide +kernel
theorem dX11_kin_5 : decode cX11_kin 5 = .ok (.ifCond .eq 11, 3) := by decide +kernel
theorem dX11_kin_8 : decode cX11_kin 8 = .ok (.iload_n 3, 1) := by decide +kernel
theorem dX11_kin_9 : decode cX11_kin 9 = .ok (.iconst 1, 1) := by decide +kernel
theorem dX11_kin_10 : decode cX11_kin 10 = .ok (.invokestatic 73, 3) := by decide +kernel
theorem dX11_kin_13 : decode cX11_kin 13 = .ok (.ifCond .ne 5, 3) := by decide +kernel
theorem dX11_kin_16 : decode cX11_kin 16 = .ok (.iconst 0, 1) := by decide +kernel
theorem dX11_kin_17 : decode cX11_kin 17 = .ok (.ireturn, 1) := by decide +kernel
theorem dX11_kin_18 : decode cX11_kin 18 = .ok (.iload 4, 2) := by decide +kernel
theorem dX11_kin_20 : decode cX11_kin 20 = .ok (.ifCond .eq 7, 3) := by decide +kernel
theorem dX11_kin_23 : decode cX11_kin 23 = .ok (.iconst 1, 1) := by decide +kernel
theorem dX11_kin_24 : decode cX11_kin 24 = .ok (.goto 4, 3) := by decide +kernel
theorem dX11_kin_27 : decode cX11_kin 27 = .ok (.iconst 0, 1) := by decide +kernel
theorem dX11_kin_28 : decode cX11_kin 28 = .ok (.istore 5, 2) := by decide +kernel
theorem dX11_kin_30 : decode cX11_kin 30 = .ok (.iload_n 3, 1) := by decide +kernel
theorem dX11_kin_31 : decode cX11_kin 31 = .ok (.ifCond .ne 40, 3) := by decide +kernel
theorem dX11_kin_34 : decode cX11_kin 34 = .ok (.aload_n 0, 1) := by decide +kernel
theorem dX11_kin_35 : decode cX11_kin 35 = .ok (.getfield 34, 3) := by decide +kernel
theorem dX11_kin_38 : decode cX11_kin 38 = .ok (.bipush 20, 2) := by decide +kernel
theorem dX11_kin_40 : decode cX11_kin 40 = .ok (.iconst 3, 1) := by decide +kernel
theorem dX11_kin_41 : decode cX11_kin 41 = .ok (.iload_n 1, 1) := by decide +kernel
theorem dX11_kin_42 : decode cX11_kin 42 = .ok (.imul, 1) := by decide +kernel
theorem dX11_kin_43 : decode cX11_kin 43 = .ok (.iadd, 1) := by decide +kernel
theorem dX11_kin_44 : decode cX11_kin 44 = .ok (.iload_n 2, 1) := by decide +kernel
theorem dX11_kin_45 : decode cX11_kin 45 = .ok (.iadd, 1) := by decide +kernel
theorem dX11_kin_46 : decode cX11_kin 46 = .ok (.iload 5, 2) := by decide +kernel
theorem dX11_kin_48 : decode cX11_kin 48 = .ok (.invokevirtual 77, 3) := by decide +kernel
theorem dX11_kin_51 : decode cX11_kin 51 = .ok (.aload_n 0, 1) := by decide +kernel
theorem dX11_kin_52 : decode cX11_kin 52 = .ok (.getfield 34, 3) := by decide +kernel
theorem dX11_kin_55 : decode cX11_kin 55 = .ok (.bipush 20, 2) := by decide +kernel
theorem dX11_kin_57 : decode cX11_kin 57 = .ok (.iconst 3, 1) := by decide +kernel
theorem dX11_kin_58 : decode cX11_kin 58 = .ok (.iload_n 2, 1) := by decide +kernel
theorem dX11_kin_59 : decode cX11_kin 59 = .ok (.imul, 1) := by decide +kernel
theorem dX11_kin_60 : decode cX11_kin 60 = .ok (.iadd, 1) := by decide +kernel
theorem dX11_kin_61 : decode cX11_kin 61 = .ok (.iload_n 1, 1) := by decide +kernel
theorem dX11_kin_62 : decode cX11_kin 62 = .ok (.iadd, 1) := by decide +kernel
theorem dX11_kin_63 : decode cX11_kin 63 = .ok (.iload 5, 2) := by decide +kernel
theorem dX11_kin_65 : decode cX11_kin 65 = .ok (.invokevirtual 77, 3) := by decide +kernel
theorem dX11_kin_68 : decode cX11_kin 68 = .ok (.goto 20, 3) := by decide +kernel
theorem dX11_kin_71 : decode cX11_kin 71 = .ok (.aload_n 0, 1) := by decide +kernel
theorem dX11_kin_72 : decode cX11_kin 72 = .ok (.getfield 34, 3) := by decide +kernel
theorem dX11_kin_75 : decode cX11_kin 75 = .ok (.bipush 30, 2) := by decide +kernel
theorem dX11_kin_77 : decode cX11_kin 77 = .ok (.iconst 3, 1) := by decide +kernel
theorem dX11_kin_78 : decode cX11_kin 78 = .ok (.iload_n 1, 1) := by decide +kernel
theorem dX11_kin_79 : decode cX11_kin 79 = .ok (.imul, 1) := by decide +kernel
theorem dX11_kin_80 : decode cX11_kin 80 = .ok (.iadd, 1) := by decide +kernel
theorem dX11_kin_81 : decode cX11_kin 81 = .ok (.iload_n 2, 1) := by decide +kernel
theorem dX11_kin_82 : decode cX11_kin 82 = .ok (.iadd, 1) := by decide +kernel
theorem dX11_kin_83 : decode cX11_kin 83 = .ok (.iload 5, 2) := by decide +kernel
theorem dX11_kin_85 : decode cX11_kin 85 = .ok (.invokevirtual 77, 3) := by decide +kernel
theorem dX11_kin_88 : decode cX11_kin 88 = .ok (.aload_n 0, 1) := by decide +kernel
theorem dX11_kin_89 : decode cX11_kin 89 = .ok (.getfield 52, 3) := by decide +kernel
theorem dX11_kin_92 : decode cX11_kin 92 = .ok (.invokevirtual 81, 3) := by decide +kernel
theorem dX11_kin_95 : decode cX11_kin 95 = .ok (.iconst 1, 1) := by decide +kernel
theorem dX11_kin_96 : decode cX11_kin 96 = .ok (.ireturn, 1) := by decide +kernel
theorem dX11_lawful_0 : decode cX11_lawful 0 = .ok (.iload_n 1, 1) := by decide +kernel
theorem dX11_lawful_1 : decode cX11_lawful 1 = .ok (.invokestatic 169, 3) := by decide +kernel
theorem dX11_lawful_4 : decode cX11_lawful 4 = .ok (.ifCond .eq 28, 3) := by decide +kernel
theorem dX11_lawful_7 : decode cX11_lawful 7 = .ok (.iload_n 2, 1) := by decide +kernel
theorem dX11_lawful_8 : decode cX11_lawful 8 = .ok (.invokestatic 181, 3) := by decide +kernel
theorem dX11_lawful_11 : decode cX11_lawful 11 = .ok (.ifCond .eq 21, 3) := by decide +kernel
theorem dX11_lawful_14 : decode cX11_lawful 14 = .ok (.iload_n 3, 1) := by decide +kernel
theorem dX11_lawful_15 : decode cX11_lawful 15 = .ok (.bipush 31, 2) := by decide +kernel
theorem dX11_lawful_17 : decode cX11_lawful 17 = .ok (.invokestatic 73, 3) := by decide +kernel
theorem dX11_lawful_20 : decode cX11_lawful 20 = .ok (.ifCond .eq 12, 3) := by decide +kernel
theorem dX11_lawful_23 : decode cX11_lawful 23 = .ok (.iload 4, 2) := by decide +kernel
theorem dX11_lawful_25 : decode cX11_lawful 25 = .ok (.iconst 1, 1) := by decide +kernel
theorem dX11_lawful_26 : decode cX11_lawful 26 = .ok (.invokestatic 73, 3) := by decide +kernel
theorem dX11_lawful_29 : decode cX11_lawful 29 = .ok (.ifCond .ne 5, 3) := by decide +kernel
theorem dX11_lawful_32 : decode cX11_lawful 32 = .ok (.iconst (-1), 1) := by decide +kernel
theorem dX11_lawful_33 : decode cX11_lawful 33 = .ok (.ireturn, 1) := by decide +kernel
theorem dX11_lawful_34 : decode cX11_lawful 34 = .ok (.aload_n 0, 1) := by decide +kernel
theorem dX11_lawful_35 : decode cX11_lawful 35 = .ok (.getfield 43, 3) := by decide +kernel
theorem dX11_lawful_38 : decode cX11_lawful 38 = .ok (.aload_n 0, 1) := by decide +kernel
theorem dX11_lawful_39 : decode cX11_lawful 39 = .ok (.getfield 58, 3) := by decide +kernel
theorem dX11_lawful_42 : decode cX11_lawful 42 = .ok (.iload_n 1, 1) := by decide +kernel
theorem dX11_lawful_43 : decode cX11_lawful 43 = .ok (.aaload, 1) := by decide +kernel
theorem dX11_lawful_44 : decode cX11_lawful 44 = .ok (.aload_n 0, 1) := by decide +kernel
theorem dX11_lawful_45 : decode cX11_lawful 45 = .ok (.getfield 34, 3) := by decide +kernel
theorem dX11_lawful_48 : decode cX11_lawful 48 = .ok (.iload_n 2, 1) := by decide +kernel
theorem dX11_lawful_49 : decode cX11_lawful 49 = .ok (.iload_n 3, 1) := by decide +kernel
theorem dX11_lawful_50 : decode cX11_lawful 50 = .ok (.invokevirtual 184, 3) := by decide +kernel
theorem dX11_lawful_53 : decode cX11_lawful 53 = .ok (.istore 5, 2) := by decide +kernel
theorem dX11_lawful_55 : decode cX11_lawful 55 = .ok (.iload 4, 2) := by decide +kernel
theorem dX11_lawful_57 : decode cX11_lawful 57 = .ok (.ifCond .ne 8, 3) := by decide +kernel
theorem dX11_lawful_60 : decode cX11_lawful 60 = .ok (.iload 5, 2) := by decide +kernel
theorem dX11_lawful_62 : decode cX11_lawful 62 = .ok (.goto 10, 3) := by decide +kernel
theorem dX11_lawful_65 : decode cX11_lawful 65 = .ok (.aload_n 0, 1) := by decide +kernel
theorem dX11_lawful_66 : decode cX11_lawful 66 = .ok (.getfield 43, 3) := by decide +kernel
theorem dX11_lawful_69 : decode cX11_lawful 69 = .ok (.getfield 188, 3) := by decide +kernel
theorem dX11_lawful_72 : decode cX11_lawful 72 = .ok (.ireturn, 1) := by decide +kernel
theorem dX11_met_0 : decode cX11_met 0 = .ok (.iload_n 1, 1) := by decide +kernel
theorem dX11_met_1 : decode cX11_met 1 = .ok (.invokestatic 181, 3) := by decide +kernel
theorem dX11_met_4 : decode cX11_met 4 = .ok (.ifCond .eq 10, 3) := by decide +kernel
theorem dX11_met_7 : decode cX11_met 7 = .ok (.iload_n 2, 1) := by decide +kernel
theorem dX11_met_8 : decode cX11_met 8 = .ok (.invokestatic 203, 3) := by decide +kernel
theorem dX11_met_11 : decode cX11_met 11 = .ok (.ifCond .ne 5, 3) := by decide +kernel
theorem dX11_met_14 : decode cX11_met 14 = .ok (.iconst (-1), 1) := by decide +kernel
theorem dX11_met_15 : decode cX11_met 15 = .ok (.ireturn, 1) := by decide +kernel
theorem dX11_met_16 : decode cX11_met 16 = .ok (.aload_n 0, 1) := by decide +kernel
theorem dX11_met_17 : decode cX11_met 17 = .ok (.getfield 52, 3) := by decide +kernel
theorem dX11_met_20 : decode cX11_met 20 = .ok (.iload_n 1, 1) := by decide +kernel
theorem dX11_met_21 : decode cX11_met 21 = .ok (.iload_n 2, 1) := by decide +kernel
theorem dX11_met_22 : decode cX11_met 22 = .ok (.bipush 7, 2) := by decide +kernel
theorem dX11_met_24 : decode cX11_met 24 = .ok (.iconst 0, 1) := by decide +kernel
theorem dX11_met_25 : decode cX11_met 25 = .ok (.invokevirtual 206, 3) := by decide +kernel
theorem dX11_met_28 : decode cX11_met 28 = .ok (.aload_n 0, 1) := by decide +kernel
theorem dX11_met_29 : decode cX11_met 29 = .ok (.getfield 52, 3) := by decide +kernel
theorem dX11_met_32 : decode cX11_met 32 = .ok (.invokevirtual 232, 3) := by decide +kernel
theorem dX11_met_35 : decode cX11_met 35 = .ok (.aload_n 0, 1) := by decide +kernel
theorem dX11_met_36 : decode cX11_met 36 = .ok (.getfield 52, 3) := by decide +kernel
theorem dX11_met_39 : decode cX11_met 39 = .ok (.getfield 214, 3) := by decide +kernel
theorem dX11_met_42 : decode cX11_met 42 = .ok (.ifCond .eq 6, 3) := by decide +kernel
theorem dX11_met_45 : decode cX11_met 45 = .ok (.bipush (-2), 2) := by decide +kernel
theorem dX11_met_47 : decode cX11_met 47 = .ok (.ireturn, 1) := by decide +kernel
theorem dX11_met_48 : decode cX11_met 48 = .ok (.iload_n 3, 1) := by decide +kernel
theorem dX11_met_49 : decode cX11_met 49 = .ok (.ifCond .eq 13, 3) := by decide +kernel
theorem dX11_met_52 : decode cX11_met 52 = .ok (.aload_n 0, 1) := by decide +kernel
theorem dX11_met_53 : decode cX11_met 53 = .ok (.getfield 52, 3) := by decide +kernel
theorem dX11_met_56 : decode cX11_met 56 = .ok (.invokevirtual 235, 3) := by decide +kernel
theorem dX11_met_59 : decode cX11_met 59 = .ok (.goto 10, 3) := by decide +kernel
theorem dX11_met_62 : decode cX11_met 62 = .ok (.aload_n 0, 1) := by decide +kernel
theorem dX11_met_63 : decode cX11_met 63 = .ok (.getfield 52, 3) := by decide +kernel
theorem dX11_met_66 : decode cX11_met 66 = .ok (.getfield 213, 3) := by decide +kernel
theorem dX11_met_69 : decode cX11_met 69 = .ok (.ireturn, 1) := by decide +kernel
theorem dX11_never_0 : decode cX11_never 0 = .ok (.aload_n 0, 1) := by decide +kernel
theorem dX11_never_1 : decode cX11_never 1 = .ok (.invokevirtual 93, 3) := by decide +kernel
theorem dX11_never_4 : decode cX11_never 4 = .ok (.aload_n 0, 1) := by decide +kernel
theorem dX11_never_5 : decode cX11_never 5 = .ok (.getfield 27, 3) := by decide +kernel
theorem dX11_never_8 : decode cX11_never 8 = .ok (.getfield 122, 3) := by decide +kernel
theorem dX11_never_11 : decode cX11_never 11 = .ok (.invokevirtual 117, 3) := by decide +kernel
theorem dX11_never_14 : decode cX11_never 14 = .ok (.bipush 6, 2) := by decide +kernel
theorem dX11_never_16 : decode cX11_never 16 = .ok (.if_icmp .ge 13, 3) := by decide +kernel
theorem dX11_never_19 : decode cX11_never 19 = .ok (.aload_n 0, 1) := by decide +kernel
theorem dX11_never_20 : decode cX11_never 20 = .ok (.getfield 20, 3) := by decide +kernel
theorem dX11_never_23 : decode cX11_never 23 = .ok (.invokevirtual 125, 3) := by decide +kernel
theorem dX11_never_26 : decode cX11_never 26 = .ok (.ifCond .ne 5, 3) := by decide +kernel
theorem dX11_never_29 : decode cX11_never 29 = .ok (.iconst (-1), 1) := by decide +kernel
theorem dX11_never_30 : decode cX11_never 30 = .ok (.ireturn, 1) := by decide +kernel
theorem dX11_never_31 : decode cX11_never 31 = .ok (.aload_n 0, 1) := by decide +kernel
theorem dX11_never_32 : decode cX11_never 32 = .ok (.getfield 27, 3) := by decide +kernel
theorem dX11_never_35 : decode cX11_never 35 = .ok (.getfield 122, 3) := by decide +kernel
theorem dX11_never_38 : decode cX11_never 38 = .ok (.aload_n 0, 1) := by decide +kernel
theorem dX11_never_39 : decode cX11_never 39 = .ok (.getfield 20, 3) := by decide +kernel
theorem dX11_never_42 : decode cX11_never 42 = .ok (.iconst 5, 1) := by decide +kernel
theorem dX11_never_43 : decode cX11_never 43 = .ok (.iconst 0, 1) := by decide +kernel
theorem dX11_never_44 : decode cX11_never 44 = .ok (.invokevirtual 128, 3) := by decide +kernel
theorem dX11_never_47 : decode cX11_never 47 = .ok (.invokevirtual 132, 3) := by decide +kernel
theorem dX11_never_50 : decode cX11_never 50 = .ok (.pop, 1) := by decide +kernel
theorem dX11_never_51 : decode cX11_never 51 = .ok (.aload_n 0, 1) := by decide +kernel
theorem dX11_never_52 : decode cX11_never 52 = .ok (.getfield 27, 3) := by decide +kernel
theorem dX11_never_55 : decode cX11_never 55 = .ok (.getfield 122, 3) := by decide +kernel
theorem dX11_never_58 : decode cX11_never 58 = .ok (.invokevirtual 117, 3) := by decide +kernel
theorem dX11_never_61 : decode cX11_never 61 = .ok (.iconst 1, 1) := by decide +kernel
theorem dX11_never_62 : decode cX11_never 62 = .ok (.isub, 1) := by decide +kernel
theorem dX11_never_63 : decode cX11_never 63 = .ok (.ireturn, 1) := by decide +kernel
theorem dX11_only_0 : decode cX11_only 0 = .ok (.aload_n 0, 1) := by decide +kernel
theorem dX11_only_1 : decode cX11_only 1 = .ok (.iload_n 1, 1) := by decide +kernel
theorem dX11_only_2 : decode cX11_only 2 = .ok (.invokevirtual 200, 3) := by decide +kernel
theorem dX11_only_5 : decode cX11_only 5 = .ok (.ifCond .eq 10, 3) := by decide +kernel
theorem dX11_only_8 : decode cX11_only 8 = .ok (.iload_n 2, 1) := by decide +kernel
theorem dX11_only_9 : decode cX11_only 9 = .ok (.invokestatic 203, 3) := by decide +kernel
theorem dX11_only_12 : decode cX11_only 12 = .ok (.ifCond .ne 5, 3) := by decide +kernel
theorem dX11_only_15 : decode cX11_only 15 = .ok (.iconst (-1), 1) := by decide +kernel
theorem dX11_only_16 : decode cX11_only 16 = .ok (.ireturn, 1) := by decide +kernel
theorem dX11_only_17 : decode cX11_only 17 = .ok (.aload_n 0, 1) := by decide +kernel
theorem dX11_only_18 : decode cX11_only 18 = .ok (.iload_n 1, 1) := by decide +kernel
theorem dX11_only_19 : decode cX11_only 19 = .ok (.iconst 3, 1) := by decide +kernel
theorem dX11_only_20 : decode cX11_only 20 = .ok (.iload_n 2, 1) := by decide +kernel
theorem dX11_only_21 : decode cX11_only 21 = .ok (.invokevirtual 228, 3) := by decide +kernel
theorem dX11_only_24 : decode cX11_only 24 = .ok (.istore_n 3, 1) := by decide +kernel
theorem dX11_only_25 : decode cX11_only 25 = .ok (.aload_n 0, 1) := by decide +kernel
theorem dX11_only_26 : decode cX11_only 26 = .ok (.iload_n 1, 1) := by decide +kernel
theorem dX11_only_27 : decode cX11_only 27 = .ok (.iconst 1, 1) := by decide +kernel
theorem dX11_only_28 : decode cX11_only 28 = .ok (.iload_n 2, 1) := by decide +kernel
theorem dX11_only_29 : decode cX11_only 29 = .ok (.invokevirtual 228, 3) := by decide +kernel
theorem dX11_only_32 : decode cX11_only 32 = .ok (.istore 4, 2) := by decide +kernel
theorem dX11_only_34 : decode cX11_only 34 = .ok (.aload_n 0, 1) := by decide +kernel
theorem dX11_only_35 : decode cX11_only 35 = .ok (.iload_n 1, 1) := by decide +kernel
theorem dX11_only_36 : decode cX11_only 36 = .ok (.iconst 2, 1) := by decide +kernel
theorem dX11_only_37 : decode cX11_only 37 = .ok (.iload_n 2, 1) := by decide +kernel
theorem dX11_only_38 : decode cX11_only 38 = .ok (.invokevirtual 228, 3) := by decide +kernel
theorem dX11_only_41 : decode cX11_only 41 = .ok (.istore 5, 2) := by decide +kernel
theorem dX11_only_43 : decode cX11_only 43 = .ok (.iload_n 3, 1) := by decide +kernel
theorem dX11_only_44 : decode cX11_only 44 = .ok (.bipush (-2), 2) := by decide +kernel
theorem dX11_only_46 : decode cX11_only 46 = .ok (.if_icmp .eq 17, 3) := by decide +kernel
theorem dX11_only_49 : decode cX11_only 49 = .ok (.iload 4, 2) := by decide +kernel
theorem dX11_only_51 : decode cX11_only 51 = .ok (.bipush (-2), 2) := by decide +kernel
theorem dX11_only_53 : decode cX11_only 53 = .ok (.if_icmp .eq 10, 3) := by decide +kernel
theorem dX11_only_56 : decode cX11_only 56 = .ok (.iload 5, 2) := by decide +kernel
theorem dX11_only_58 : decode cX11_only 58 = .ok (.bipush (-2), 2) := by decide +kernel
theorem dX11_only_60 : decode cX11_only 60 = .ok (.if_icmp .ne 6, 3) := by decide +kernel
theorem dX11_only_63 : decode cX11_only 63 = .ok (.bipush (-2), 2) := by decide +kernel
theorem dX11_only_65 : decode cX11_only 65 = .ok (.ireturn, 1) := by decide +kernel
theorem dX11_only_66 : decode cX11_only 66 = .ok (.iload_n 3, 1) := by decide +kernel
theorem dX11_only_67 : decode cX11_only 67 = .ok (.iconst 1, 1) := by decide +kernel
theorem dX11_only_68 : decode cX11_only 68 = .ok (.if_icmp .ne 17, 3) := by decide +kernel
theorem dX11_only_71 : decode cX11_only 71 = .ok (.iload 4, 2) := by decide +kernel
theorem dX11_only_73 : decode cX11_only 73 = .ok (.ifCond .ne 12, 3) := by decide +kernel
theorem dX11_only_76 : decode cX11_only 76 = .ok (.iload 5, 2) := by decide +kernel
theorem dX11_only_78 : decode cX11_only 78 = .ok (.ifCond .ne 7, 3) := by decide +kernel
theorem dX11_only_81 : decode cX11_only 81 = .ok (.iconst 1, 1) := by decide +kernel
theorem dX11_only_82 : decode cX11_only 82 = .ok (.goto 4, 3) := by decide +kernel
theorem dX11_only_85 : decode cX11_only 85 = .ok (.iconst 0, 1) := by decide +kernel
theorem dX11_only_86 : decode cX11_only 86 = .ok (.ireturn, 1) := by decide +kernel
theorem dX11_otherOf_0 : decode cX11_otherOf 0 = .ok (.iload_n 0, 1) := by decide +kernel
theorem dX11_otherOf_1 : decode cX11_otherOf 1 = .ok (.iconst 2, 1) := by decide +kernel
theorem dX11_otherOf_2 : decode cX11_otherOf 2 = .ok (.ishr, 1) := by decide +kernel
theorem dX11_otherOf_3 : decode cX11_otherOf 3 = .ok (.iconst 3, 1) := by decide +kernel
theorem dX11_otherOf_4 : decode cX11_otherOf 4 = .ok (.iand, 1) := by decide +kernel
theorem dX11_otherOf_5 : decode cX11_otherOf 5 = .ok (.ireturn, 1) := by decide +kernel
theorem dX11_owner_0 : decode cX11_owner 0 = .ok (.iload_n 1, 1) := by decide +kernel
theorem dX11_owner_1 : decode cX11_owner 1 = .ok (.invokestatic 87, 3) := by decide +kernel
theorem dX11_owner_4 : decode cX11_owner 4 = .ok (.ifCond .eq 11, 3) := by decide +kernel
theorem dX11_owner_7 : decode cX11_owner 7 = .ok (.iload_n 2, 1) := by decide +kernel
theorem dX11_owner_8 : decode cX11_owner 8 = .ok (.iconst 3, 1) := by decide +kernel
theorem dX11_owner_9 : decode cX11_owner 9 = .ok (.invokestatic 73, 3) := by decide +kernel
theorem dX11_owner_12 : decode cX11_owner 12 = .ok (.ifCond .ne 5, 3) := by decide +kernel
theorem dX11_owner_15 : decode cX11_owner 15 = .ok (.iconst 0, 1) := by decide +kernel
theorem dX11_owner_16 : decode cX11_owner 16 = .ok (.ireturn, 1) := by decide +kernel
theorem dX11_owner_17 : decode cX11_owner 17 = .ok (.aload_n 0, 1) := by decide +kernel
theorem dX11_owner_18 : decode cX11_owner 18 = .ok (.getfield 34, 3) := by decide +kernel
theorem dX11_owner_21 : decode cX11_owner 21 = .ok (.bipush 40, 2) := by decide +kernel
theorem dX11_owner_23 : decode cX11_owner 23 = .ok (.iload_n 1, 1) := by decide +kernel
theorem dX11_owner_24 : decode cX11_owner 24 = .ok (.iadd, 1) := by decide +kernel
theorem dX11_owner_25 : decode cX11_owner 25 = .ok (.iload_n 2, 1) := by decide +kernel
theorem dX11_owner_26 : decode cX11_owner 26 = .ok (.invokevirtual 77, 3) := by decide +kernel
theorem dX11_owner_29 : decode cX11_owner 29 = .ok (.aload_n 0, 1) := by decide +kernel
theorem dX11_owner_30 : decode cX11_owner 30 = .ok (.getfield 52, 3) := by decide +kernel
theorem dX11_owner_33 : decode cX11_owner 33 = .ok (.invokevirtual 81, 3) := by decide +kernel
theorem dX11_owner_36 : decode cX11_owner 36 = .ok (.iconst 1, 1) := by decide +kernel
theorem dX11_owner_37 : decode cX11_owner 37 = .ok (.ireturn, 1) := by decide +kernel
theorem dX11_past_0 : decode cX11_past 0 = .ok (.iload_n 1, 1) := by decide +kernel
theorem dX11_past_1 : decode cX11_past 1 = .ok (.sipush 767, 3) := by decide +kernel
theorem dX11_past_4 : decode cX11_past 4 = .ok (.invokestatic 73, 3) := by decide +kernel
theorem dX11_past_7 : decode cX11_past 7 = .ok (.ifCond .eq 14, 3) := by decide +kernel
theorem dX11_past_10 : decode cX11_past 10 = .ok (.aload_n 0, 1) := by decide +kernel
theorem dX11_past_11 : decode cX11_past 11 = .ok (.getfield 65, 3) := by decide +kernel
theorem dX11_past_14 : decode cX11_past 14 = .ok (.iload_n 1, 1) := by decide +kernel
theorem dX11_past_15 : decode cX11_past 15 = .ok (.invokevirtual 172, 3) := by decide +kernel
theorem dX11_past_18 : decode cX11_past 18 = .ok (.goto 4, 3) := by decide +kernel
theorem dX11_past_21 : decode cX11_past 21 = .ok (.iconst (-1), 1) := by decide +kernel
theorem dX11_past_22 : decode cX11_past 22 = .ok (.ireturn, 1) := by decide +kernel
theorem dX11_put_0 : decode cX11_put 0 = .ok (.iload_n 1, 1) := by decide +kernel
theorem dX11_put_1 : decode cX11_put 1 = .ok (.invokestatic 169, 3) := by decide +kernel
theorem dX11_put_4 : decode cX11_put 4 = .ok (.ifCond .eq 13, 3) := by decide +kernel
theorem dX11_put_7 : decode cX11_put 7 = .ok (.iload_n 2, 1) := by decide +kernel
theorem dX11_put_8 : decode cX11_put 8 = .ok (.sipush 767, 3) := by decide +kernel
theorem dX11_put_11 : decode cX11_put 11 = .ok (.invokestatic 73, 3) := by decide +kernel
theorem dX11_put_14 : decode cX11_put 14 = .ok (.ifCond .ne 5, 3) := by decide +kernel
theorem dX11_put_17 : decode cX11_put 17 = .ok (.iconst (-1), 1) := by decide +kernel
theorem dX11_put_18 : decode cX11_put 18 = .ok (.ireturn, 1) := by decide +kernel
theorem dX11_put_19 : decode cX11_put 19 = .ok (.aload_n 0, 1) := by decide +kernel
theorem dX11_put_20 : decode cX11_put 20 = .ok (.getfield 58, 3) := by decide +kernel
theorem dX11_put_23 : decode cX11_put 23 = .ok (.iload_n 1, 1) := by decide +kernel
theorem dX11_put_24 : decode cX11_put 24 = .ok (.aaload, 1) := by decide +kernel
theorem dX11_put_25 : decode cX11_put 25 = .ok (.iload_n 2, 1) := by decide +kernel
theorem dX11_put_26 : decode cX11_put 26 = .ok (.invokevirtual 172, 3) := by decide +kernel
theorem dX11_put_29 : decode cX11_put 29 = .ok (.ireturn, 1) := by decide +kernel
theorem dX11_statute_0 : decode cX11_statute 0 = .ok (.aload_n 0, 1) := by decide +kernel
theorem dX11_statute_1 : decode cX11_statute 1 = .ok (.invokevirtual 93, 3) := by decide +kernel
theorem dX11_statute_4 : decode cX11_statute 4 = .ok (.iload_n 1, 1) := by decide +kernel
theorem dX11_statute_5 : decode cX11_statute 5 = .ok (.iconst 1, 1) := by decide +kernel
theorem dX11_statute_6 : decode cX11_statute 6 = .ok (.invokestatic 73, 3) := by decide +kernel
theorem dX11_statute_9 : decode cX11_statute 9 = .ok (.ifCond .ne 5, 3) := by decide +kernel
theorem dX11_statute_12 : decode cX11_statute 12 = .ok (.iconst (-1), 1) := by decide +kernel
theorem dX11_statute_13 : decode cX11_statute 13 = .ok (.ireturn, 1) := by decide +kernel
theorem dX11_statute_14 : decode cX11_statute 14 = .ok (.iconst 0, 1) := by decide +kernel
theorem dX11_statute_15 : decode cX11_statute 15 = .ok (.istore_n 2, 1) := by decide +kernel
theorem dX11_statute_16 : decode cX11_statute 16 = .ok (.iload_n 2, 1) := by decide +kernel
theorem dX11_statute_17 : decode cX11_statute 17 = .ok (.bipush 6, 2) := by decide +kernel
theorem dX11_statute_19 : decode cX11_statute 19 = .ok (.if_icmp .gt 32, 3) := by decide +kernel
theorem dX11_statute_22 : decode cX11_statute 22 = .ok (.aload_n 0, 1) := by decide +kernel
theorem dX11_statute_23 : decode cX11_statute 23 = .ok (.getfield 20, 3) := by decide +kernel
theorem dX11_statute_26 : decode cX11_statute 26 = .ok (.invokevirtual 96, 3) := by decide +kernel
theorem dX11_statute_29 : decode cX11_statute 29 = .ok (.iconst 4, 1) := by decide +kernel
theorem dX11_statute_30 : decode cX11_statute 30 = .ok (.if_icmp .ne 21, 3) := by decide +kernel
theorem dX11_statute_33 : decode cX11_statute 33 = .ok (.aload_n 0, 1) := by decide +kernel
theorem dX11_statute_34 : decode cX11_statute 34 = .ok (.getfield 20, 3) := by decide +kernel
theorem dX11_statute_37 : decode cX11_statute 37 = .ok (.invokevirtual 102, 3) := by decide +kernel
theorem dX11_statute_40 : decode cX11_statute 40 = .ok (.ifCond .ne 5, 3) := by decide +kernel
theorem dX11_statute_43 : decode cX11_statute 43 = .ok (.iconst (-1), 1) := by decide +kernel
theorem dX11_statute_44 : decode cX11_statute 44 = .ok (.ireturn, 1) := by decide +kernel
theorem dX11_statute_45 : decode cX11_statute 45 = .ok (.iinc 2 1, 3) := by decide +kernel
theorem dX11_statute_48 : decode cX11_statute 48 = .ok (.goto (-32), 3) := by decide +kernel
theorem dX11_statute_51 : decode cX11_statute 51 = .ok (.aload_n 0, 1) := by decide +kernel
theorem dX11_statute_52 : decode cX11_statute 52 = .ok (.getfield 20, 3) := by decide +kernel
theorem dX11_statute_55 : decode cX11_statute 55 = .ok (.invokevirtual 106, 3) := by decide +kernel
theorem dX11_statute_58 : decode cX11_statute 58 = .ok (.ifCond .ne 5, 3) := by decide +kernel
theorem dX11_statute_61 : decode cX11_statute 61 = .ok (.iconst (-1), 1) := by decide +kernel
theorem dX11_statute_62 : decode cX11_statute 62 = .ok (.ireturn, 1) := by decide +kernel
theorem dX11_statute_63 : decode cX11_statute 63 = .ok (.aload_n 0, 1) := by decide +kernel
theorem dX11_statute_64 : decode cX11_statute 64 = .ok (.getfield 27, 3) := by decide +kernel
theorem dX11_statute_67 : decode cX11_statute 67 = .ok (.iload_n 1, 1) := by decide +kernel
theorem dX11_statute_68 : decode cX11_statute 68 = .ok (.aload_n 0, 1) := by decide +kernel
theorem dX11_statute_69 : decode cX11_statute 69 = .ok (.getfield 20, 3) := by decide +kernel
theorem dX11_statute_72 : decode cX11_statute 72 = .ok (.getfield 109, 3) := by decide +kernel
theorem dX11_statute_75 : decode cX11_statute 75 = .ok (.invokevirtual 113, 3) := by decide +kernel
theorem dX11_statute_78 : decode cX11_statute 78 = .ok (.aload_n 0, 1) := by decide +kernel
theorem dX11_statute_79 : decode cX11_statute 79 = .ok (.getfield 52, 3) := by decide +kernel
theorem dX11_statute_82 : decode cX11_statute 82 = .ok (.invokevirtual 81, 3) := by decide +kernel
theorem dX11_statute_85 : decode cX11_statute 85 = .ok (.aload_n 0, 1) := by decide +kernel
theorem dX11_statute_86 : decode cX11_statute 86 = .ok (.getfield 20, 3) := by decide +kernel
theorem dX11_statute_89 : decode cX11_statute 89 = .ok (.getfield 109, 3) := by decide +kernel
theorem dX11_statute_92 : decode cX11_statute 92 = .ok (.invokevirtual 117, 3) := by decide +kernel
theorem dX11_statute_95 : decode cX11_statute 95 = .ok (.ireturn, 1) := by decide +kernel
theorem dX11_stop_0 : decode cX11_stop 0 = .ok (.aload_n 0, 1) := by decide +kernel
theorem dX11_stop_1 : decode cX11_stop 1 = .ok (.iload_n 1, 1) := by decide +kernel
theorem dX11_stop_2 : decode cX11_stop 2 = .ok (.invokevirtual 200, 3) := by decide +kernel
theorem dX11_stop_5 : decode cX11_stop 5 = .ok (.ifCond .eq 18, 3) := by decide +kernel
theorem dX11_stop_8 : decode cX11_stop 8 = .ok (.iload_n 2, 1) := by decide +kernel
theorem dX11_stop_9 : decode cX11_stop 9 = .ok (.invokestatic 203, 3) := by decide +kernel
theorem dX11_stop_12 : decode cX11_stop 12 = .ok (.ifCond .eq 11, 3) := by decide +kernel
theorem dX11_stop_15 : decode cX11_stop 15 = .ok (.iload_n 3, 1) := by decide +kernel
theorem dX11_stop_16 : decode cX11_stop 16 = .ok (.iconst 1, 1) := by decide +kernel
theorem dX11_stop_17 : decode cX11_stop 17 = .ok (.invokestatic 73, 3) := by decide +kernel
theorem dX11_stop_20 : decode cX11_stop 20 = .ok (.ifCond .ne 5, 3) := by decide +kernel
theorem dX11_stop_23 : decode cX11_stop 23 = .ok (.iconst (-1), 1) := by decide +kernel
theorem dX11_stop_24 : decode cX11_stop 24 = .ok (.ireturn, 1) := by decide +kernel
theorem dX11_stop_25 : decode cX11_stop 25 = .ok (.iconst 1, 1) := by decide +kernel
theorem dX11_stop_26 : decode cX11_stop 26 = .ok (.aload_n 0, 1) := by decide +kernel
theorem dX11_stop_27 : decode cX11_stop 27 = .ok (.getfield 27, 3) := by decide +kernel
theorem dX11_stop_30 : decode cX11_stop 30 = .ok (.getfield 136, 3) := by decide +kernel
theorem dX11_stop_33 : decode cX11_stop 33 = .ok (.invokevirtual 117, 3) := by decide +kernel
theorem dX11_stop_36 : decode cX11_stop 36 = .ok (.ishl, 1) := by decide +kernel
theorem dX11_stop_37 : decode cX11_stop 37 = .ok (.istore 4, 2) := by decide +kernel
theorem dX11_stop_39 : decode cX11_stop 39 = .ok (.iconst 0, 1) := by decide +kernel
theorem dX11_stop_40 : decode cX11_stop 40 = .ok (.istore 5, 2) := by decide +kernel
theorem dX11_stop_42 : decode cX11_stop 42 = .ok (.iload 5, 2) := by decide +kernel
theorem dX11_stop_44 : decode cX11_stop 44 = .ok (.aload_n 0, 1) := by decide +kernel
theorem dX11_stop_45 : decode cX11_stop 45 = .ok (.getfield 27, 3) := by decide +kernel
theorem dX11_stop_48 : decode cX11_stop 48 = .ok (.getfield 136, 3) := by decide +kernel
theorem dX11_stop_51 : decode cX11_stop 51 = .ok (.invokevirtual 117, 3) := by decide +kernel
theorem dX11_stop_54 : decode cX11_stop 54 = .ok (.if_icmp .gt 58, 3) := by decide +kernel
theorem dX11_stop_57 : decode cX11_stop 57 = .ok (.iconst 0, 1) := by decide +kernel
theorem dX11_stop_58 : decode cX11_stop 58 = .ok (.istore 6, 2) := by decide +kernel
theorem dX11_stop_60 : decode cX11_stop 60 = .ok (.iload 6, 2) := by decide +kernel
theorem dX11_stop_62 : decode cX11_stop 62 = .ok (.iload 4, 2) := by decide +kernel
theorem dX11_stop_64 : decode cX11_stop 64 = .ok (.if_icmp .ge 42, 3) := by decide +kernel
theorem dX11_stop_67 : decode cX11_stop 67 = .ok (.iload 6, 2) := by decide +kernel
theorem dX11_stop_69 : decode cX11_stop 69 = .ok (.invokestatic 223, 3) := by decide +kernel
theorem dX11_stop_72 : decode cX11_stop 72 = .ok (.iload 5, 2) := by decide +kernel
theorem dX11_stop_74 : decode cX11_stop 74 = .ok (.if_icmp .ne 26, 3) := by decide +kernel
theorem dX11_stop_77 : decode cX11_stop 77 = .ok (.aload_n 0, 1) := by decide +kernel
theorem dX11_stop_78 : decode cX11_stop 78 = .ok (.iload_n 1, 1) := by decide +kernel
theorem dX11_stop_79 : decode cX11_stop 79 = .ok (.iload_n 2, 1) := by decide +kernel
theorem dX11_stop_80 : decode cX11_stop 80 = .ok (.iload 6, 2) := by decide +kernel
theorem dX11_stop_82 : decode cX11_stop 82 = .ok (.invokevirtual 244, 3) := by decide +kernel
theorem dX11_stop_85 : decode cX11_stop 85 = .ok (.ifCond .eq 15, 3) := by decide +kernel
theorem dX11_stop_88 : decode cX11_stop 88 = .ok (.iload_n 3, 1) := by decide +kernel
theorem dX11_stop_89 : decode cX11_stop 89 = .ok (.ifCond .ne 8, 3) := by decide +kernel
theorem dX11_stop_92 : decode cX11_stop 92 = .ok (.iload 6, 2) := by decide +kernel
theorem dX11_stop_94 : decode cX11_stop 94 = .ok (.goto 5, 3) := by decide +kernel
theorem dX11_stop_97 : decode cX11_stop 97 = .ok (.iload 5, 2) := by decide +kernel
theorem dX11_stop_99 : decode cX11_stop 99 = .ok (.ireturn, 1) := by decide +kernel
theorem dX11_stop_100 : decode cX11_stop 100 = .ok (.iinc 6 1, 3) := by decide +kernel
theorem dX11_stop_103 : decode cX11_stop 103 = .ok (.goto (-43), 3) := by decide +kernel
theorem dX11_stop_106 : decode cX11_stop 106 = .ok (.iinc 5 1, 3) := by decide +kernel
theorem dX11_stop_109 : decode cX11_stop 109 = .ok (.goto (-67), 3) := by decide +kernel
theorem dX11_stop_112 : decode cX11_stop 112 = .ok (.iconst (-1), 1) := by decide +kernel
theorem dX11_stop_113 : decode cX11_stop 113 = .ok (.ireturn, 1) := by decide +kernel
theorem dX11_stopsWith_0 : decode cX11_stopsWith 0 = .ok (.iconst 0, 1) := by decide +kernel
theorem dX11_stopsWith_1 : decode cX11_stopsWith 1 = .ok (.istore 4, 2) := by decide +kernel
theorem dX11_stopsWith_3 : decode cX11_stopsWith 3 = .ok (.iload 4, 2) := by decide +kernel
theorem dX11_stopsWith_5 : decode cX11_stopsWith 5 = .ok (.bipush 6, 2) := by decide +kernel
theorem dX11_stopsWith_7 : decode cX11_stopsWith 7 = .ok (.if_icmp .ge 57, 3) := by decide +kernel
theorem dX11_stopsWith_10 : decode cX11_stopsWith 10 = .ok (.aload_n 0, 1) := by decide +kernel
theorem dX11_stopsWith_11 : decode cX11_stopsWith 11 = .ok (.getfield 58, 3) := by decide +kernel
theorem dX11_stopsWith_14 : decode cX11_stopsWith 14 = .ok (.iload 4, 2) := by decide +kernel
theorem dX11_stopsWith_16 : decode cX11_stopsWith 16 = .ok (.aaload, 1) := by decide +kernel
theorem dX11_stopsWith_17 : decode cX11_stopsWith 17 = .ok (.getfield 178, 3) := by decide +kernel
theorem dX11_stopsWith_20 : decode cX11_stopsWith 20 = .ok (.ifCond .eq 38, 3) := by decide +kernel
theorem dX11_stopsWith_23 : decode cX11_stopsWith 23 = .ok (.aload_n 0, 1) := by decide +kernel
theorem dX11_stopsWith_24 : decode cX11_stopsWith 24 = .ok (.getfield 43, 3) := by decide +kernel
theorem dX11_stopsWith_27 : decode cX11_stopsWith 27 = .ok (.aload_n 0, 1) := by decide +kernel
theorem dX11_stopsWith_28 : decode cX11_stopsWith 28 = .ok (.getfield 58, 3) := by decide +kernel
theorem dX11_stopsWith_31 : decode cX11_stopsWith 31 = .ok (.iload 4, 2) := by decide +kernel
theorem dX11_stopsWith_33 : decode cX11_stopsWith 33 = .ok (.aaload, 1) := by decide +kernel
theorem dX11_stopsWith_34 : decode cX11_stopsWith 34 = .ok (.aload_n 0, 1) := by decide +kernel
theorem dX11_stopsWith_35 : decode cX11_stopsWith 35 = .ok (.getfield 34, 3) := by decide +kernel
theorem dX11_stopsWith_38 : decode cX11_stopsWith 38 = .ok (.iconst 3, 1) := by decide +kernel
theorem dX11_stopsWith_39 : decode cX11_stopsWith 39 = .ok (.iload_n 3, 1) := by decide +kernel
theorem dX11_stopsWith_40 : decode cX11_stopsWith 40 = .ok (.invokevirtual 184, 3) := by decide +kernel
theorem dX11_stopsWith_43 : decode cX11_stopsWith 43 = .ok (.aload_n 0, 1) := by decide +kernel
theorem dX11_stopsWith_44 : decode cX11_stopsWith 44 = .ok (.getfield 58, 3) := by decide +kernel
theorem dX11_stopsWith_47 : decode cX11_stopsWith 47 = .ok (.iload 4, 2) := by decide +kernel
theorem dX11_stopsWith_49 : decode cX11_stopsWith 49 = .ok (.aaload, 1) := by decide +kernel
theorem dX11_stopsWith_50 : decode cX11_stopsWith 50 = .ok (.getfield 175, 3) := by decide +kernel
theorem dX11_stopsWith_53 : decode cX11_stopsWith 53 = .ok (.if_icmp .ge 5, 3) := by decide +kernel
theorem dX11_stopsWith_56 : decode cX11_stopsWith 56 = .ok (.iconst 0, 1) := by decide +kernel
theorem dX11_stopsWith_57 : decode cX11_stopsWith 57 = .ok (.ireturn, 1) := by decide +kernel
theorem dX11_stopsWith_58 : decode cX11_stopsWith 58 = .ok (.iinc 4 1, 3) := by decide +kernel
theorem dX11_stopsWith_61 : decode cX11_stopsWith 61 = .ok (.goto (-58), 3) := by decide +kernel
theorem dX11_stopsWith_64 : decode cX11_stopsWith 64 = .ok (.aload_n 0, 1) := by decide +kernel
theorem dX11_stopsWith_65 : decode cX11_stopsWith 65 = .ok (.getfield 52, 3) := by decide +kernel
theorem dX11_stopsWith_68 : decode cX11_stopsWith 68 = .ok (.iconst 3, 1) := by decide +kernel
theorem dX11_stopsWith_69 : decode cX11_stopsWith 69 = .ok (.iload_n 2, 1) := by decide +kernel
theorem dX11_stopsWith_70 : decode cX11_stopsWith 70 = .ok (.bipush 7, 2) := by decide +kernel
theorem dX11_stopsWith_72 : decode cX11_stopsWith 72 = .ok (.iload_n 3, 1) := by decide +kernel
theorem dX11_stopsWith_73 : decode cX11_stopsWith 73 = .ok (.invokevirtual 206, 3) := by decide +kernel
theorem dX11_stopsWith_76 : decode cX11_stopsWith 76 = .ok (.aload_n 0, 1) := by decide +kernel
theorem dX11_stopsWith_77 : decode cX11_stopsWith 77 = .ok (.getfield 52, 3) := by decide +kernel
theorem dX11_stopsWith_80 : decode cX11_stopsWith 80 = .ok (.iload_n 1, 1) := by decide +kernel
theorem dX11_stopsWith_81 : decode cX11_stopsWith 81 = .ok (.invokevirtual 210, 3) := by decide +kernel
theorem dX11_stopsWith_84 : decode cX11_stopsWith 84 = .ok (.iconst (-1), 1) := by decide +kernel
theorem dX11_stopsWith_85 : decode cX11_stopsWith 85 = .ok (.if_icmp .ne 17, 3) := by decide +kernel
theorem dX11_stopsWith_88 : decode cX11_stopsWith 88 = .ok (.aload_n 0, 1) := by decide +kernel
theorem dX11_stopsWith_89 : decode cX11_stopsWith 89 = .ok (.getfield 52, 3) := by decide +kernel
theorem dX11_stopsWith_92 : decode cX11_stopsWith 92 = .ok (.getfield 214, 3) := by decide +kernel
theorem dX11_stopsWith_95 : decode cX11_stopsWith 95 = .ok (.ifCond .ne 7, 3) := by decide +kernel
theorem dX11_stopsWith_98 : decode cX11_stopsWith 98 = .ok (.iconst 1, 1) := by decide +kernel
theorem dX11_stopsWith_99 : decode cX11_stopsWith 99 = .ok (.goto 4, 3) := by decide +kernel
theorem dX11_stopsWith_102 : decode cX11_stopsWith 102 = .ok (.iconst 0, 1) := by decide +kernel
theorem dX11_stopsWith_103 : decode cX11_stopsWith 103 = .ok (.ireturn, 1) := by decide +kernel
theorem dX11_takeTape_0 : decode cX11_takeTape 0 = .ok (.aload_n 0, 1) := by decide +kernel
theorem dX11_takeTape_1 : decode cX11_takeTape 1 = .ok (.getfield 20, 3) := by decide +kernel
theorem dX11_takeTape_4 : decode cX11_takeTape 4 = .ok (.aload_n 0, 1) := by decide +kernel
theorem dX11_takeTape_5 : decode cX11_takeTape 5 = .ok (.getfield 9, 3) := by decide +kernel
theorem dX11_takeTape_8 : decode cX11_takeTape 8 = .ok (.aload_n 0, 1) := by decide +kernel
theorem dX11_takeTape_9 : decode cX11_takeTape 9 = .ok (.getfield 13, 3) := by decide +kernel
theorem dX11_takeTape_12 : decode cX11_takeTape 12 = .ok (.invokevirtual 261, 3) := by decide +kernel
theorem dX11_takeTape_15 : decode cX11_takeTape 15 = .ok (.aload_n 0, 1) := by decide +kernel
theorem dX11_takeTape_16 : decode cX11_takeTape 16 = .ok (.iconst 0, 1) := by decide +kernel
theorem dX11_takeTape_17 : decode cX11_takeTape 17 = .ok (.putfield 13, 3) := by decide +kernel
theorem dX11_takeTape_20 : decode cX11_takeTape 20 = .ok (.return_, 1) := by decide +kernel
theorem dX11_thingOf_0 : decode cX11_thingOf 0 = .ok (.iload_n 0, 1) := by decide +kernel
theorem dX11_thingOf_1 : decode cX11_thingOf 1 = .ok (.iconst 3, 1) := by decide +kernel
theorem dX11_thingOf_2 : decode cX11_thingOf 2 = .ok (.iand, 1) := by decide +kernel
theorem dX11_thingOf_3 : decode cX11_thingOf 3 = .ok (.ireturn, 1) := by decide +kernel
theorem dX11_through_0 : decode cX11_through 0 = .ok (.iload_n 1, 1) := by decide +kernel
theorem dX11_through_1 : decode cX11_through 1 = .ok (.invokestatic 169, 3) := by decide +kernel
theorem dX11_through_4 : decode cX11_through 4 = .ok (.ifCond .eq 23, 3) := by decide +kernel
theorem dX11_through_7 : decode cX11_through 7 = .ok (.aload_n 0, 1) := by decide +kernel
theorem dX11_through_8 : decode cX11_through 8 = .ok (.getfield 58, 3) := by decide +kernel
theorem dX11_through_11 : decode cX11_through 11 = .ok (.iload_n 1, 1) := by decide +kernel
theorem dX11_through_12 : decode cX11_through 12 = .ok (.aaload, 1) := by decide +kernel
theorem dX11_through_13 : decode cX11_through 13 = .ok (.getfield 175, 3) := by decide +kernel
theorem dX11_through_16 : decode cX11_through 16 = .ok (.ifCond .eq 11, 3) := by decide +kernel
theorem dX11_through_19 : decode cX11_through 19 = .ok (.iload_n 2, 1) := by decide +kernel
theorem dX11_through_20 : decode cX11_through 20 = .ok (.iconst 1, 1) := by decide +kernel
theorem dX11_through_21 : decode cX11_through 21 = .ok (.invokestatic 73, 3) := by decide +kernel
theorem dX11_through_24 : decode cX11_through 24 = .ok (.ifCond .ne 5, 3) := by decide +kernel
theorem dX11_through_27 : decode cX11_through 27 = .ok (.iconst (-1), 1) := by decide +kernel
theorem dX11_through_28 : decode cX11_through 28 = .ok (.ireturn, 1) := by decide +kernel
theorem dX11_through_29 : decode cX11_through 29 = .ok (.iconst (-1), 1) := by decide +kernel
theorem dX11_through_30 : decode cX11_through 30 = .ok (.istore_n 3, 1) := by decide +kernel
theorem dX11_through_31 : decode cX11_through 31 = .ok (.iconst (-1), 1) := by decide +kernel
theorem dX11_through_32 : decode cX11_through 32 = .ok (.istore 4, 2) := by decide +kernel
theorem dX11_through_34 : decode cX11_through 34 = .ok (.iconst 0, 1) := by decide +kernel
theorem dX11_through_35 : decode cX11_through 35 = .ok (.istore 5, 2) := by decide +kernel
theorem dX11_through_37 : decode cX11_through 37 = .ok (.iload 5, 2) := by decide +kernel
theorem dX11_through_39 : decode cX11_through 39 = .ok (.bipush 36, 2) := by decide +kernel
theorem dX11_through_41 : decode cX11_through 41 = .ok (.if_icmp .ge 58, 3) := by decide +kernel
theorem dX11_through_44 : decode cX11_through 44 = .ok (.aload_n 0, 1) := by decide +kernel
theorem dX11_through_45 : decode cX11_through 45 = .ok (.getfield 65, 3) := by decide +kernel
theorem dX11_through_48 : decode cX11_through 48 = .ok (.aload_n 0, 1) := by decide +kernel
theorem dX11_through_49 : decode cX11_through 49 = .ok (.getfield 58, 3) := by decide +kernel
theorem dX11_through_52 : decode cX11_through 52 = .ok (.iload_n 1, 1) := by decide +kernel
theorem dX11_through_53 : decode cX11_through 53 = .ok (.aaload, 1) := by decide +kernel
theorem dX11_through_54 : decode cX11_through 54 = .ok (.iload 5, 2) := by decide +kernel
theorem dX11_through_56 : decode cX11_through 56 = .ok (.bipush 6, 2) := by decide +kernel
theorem dX11_through_58 : decode cX11_through 58 = .ok (.idiv, 1) := by decide +kernel
theorem dX11_through_59 : decode cX11_through 59 = .ok (.iload 5, 2) := by decide +kernel
theorem dX11_through_61 : decode cX11_through 61 = .ok (.bipush 6, 2) := by decide +kernel
theorem dX11_through_63 : decode cX11_through 63 = .ok (.irem, 1) := by decide +kernel
theorem dX11_through_64 : decode cX11_through 64 = .ok (.invokevirtual 248, 3) := by decide +kernel
theorem dX11_through_67 : decode cX11_through 67 = .ok (.istore 6, 2) := by decide +kernel
theorem dX11_through_69 : decode cX11_through 69 = .ok (.iload 6, 2) := by decide +kernel
theorem dX11_through_71 : decode cX11_through 71 = .ok (.iconst (-1), 1) := by decide +kernel
theorem dX11_through_72 : decode cX11_through 72 = .ok (.if_icmp .eq 21, 3) := by decide +kernel
theorem dX11_through_75 : decode cX11_through 75 = .ok (.iload_n 3, 1) := by decide +kernel
theorem dX11_through_76 : decode cX11_through 76 = .ok (.iconst (-1), 1) := by decide +kernel
theorem dX11_through_77 : decode cX11_through 77 = .ok (.if_icmp .eq 9, 3) := by decide +kernel
theorem dX11_through_80 : decode cX11_through 80 = .ok (.iload 6, 2) := by decide +kernel
theorem dX11_through_82 : decode cX11_through 82 = .ok (.iload_n 3, 1) := by decide +kernel
theorem dX11_through_83 : decode cX11_through 83 = .ok (.if_icmp .ge 10, 3) := by decide +kernel
theorem dX11_through_86 : decode cX11_through 86 = .ok (.iload 6, 2) := by decide +kernel
theorem dX11_through_88 : decode cX11_through 88 = .ok (.istore_n 3, 1) := by decide +kernel
theorem dX11_through_89 : decode cX11_through 89 = .ok (.iload 5, 2) := by decide +kernel
theorem dX11_through_91 : decode cX11_through 91 = .ok (.istore 4, 2) := by decide +kernel
theorem dX11_through_93 : decode cX11_through 93 = .ok (.iinc 5 1, 3) := by decide +kernel
theorem dX11_through_96 : decode cX11_through 96 = .ok (.goto (-59), 3) := by decide +kernel
theorem dX11_through_99 : decode cX11_through 99 = .ok (.iload_n 3, 1) := by decide +kernel
theorem dX11_through_100 : decode cX11_through 100 = .ok (.iconst (-1), 1) := by decide +kernel
theorem dX11_through_101 : decode cX11_through 101 = .ok (.if_icmp .eq 7, 3) := by decide +kernel
theorem dX11_through_104 : decode cX11_through 104 = .ok (.iload_n 2, 1) := by decide +kernel
theorem dX11_through_105 : decode cX11_through 105 = .ok (.ifCond .ne 5, 3) := by decide +kernel
theorem dX11_through_108 : decode cX11_through 108 = .ok (.iload_n 3, 1) := by decide +kernel
theorem dX11_through_109 : decode cX11_through 109 = .ok (.ireturn, 1) := by decide +kernel
theorem dX11_through_110 : decode cX11_through 110 = .ok (.sipush 1000, 3) := by decide +kernel
theorem dX11_through_113 : decode cX11_through 113 = .ok (.iload 4, 2) := by decide +kernel
theorem dX11_through_115 : decode cX11_through 115 = .ok (.bipush 6, 2) := by decide +kernel
theorem dX11_through_117 : decode cX11_through 117 = .ok (.idiv, 1) := by decide +kernel
theorem dX11_through_118 : decode cX11_through 118 = .ok (.invokestatic 252, 3) := by decide +kernel
theorem dX11_through_121 : decode cX11_through 121 = .ok (.imul, 1) := by decide +kernel
theorem dX11_through_122 : decode cX11_through 122 = .ok (.iload 4, 2) := by decide +kernel
theorem dX11_through_124 : decode cX11_through 124 = .ok (.bipush 6, 2) := by decide +kernel
theorem dX11_through_126 : decode cX11_through 126 = .ok (.irem, 1) := by decide +kernel
theorem dX11_through_127 : decode cX11_through 127 = .ok (.invokestatic 252, 3) := by decide +kernel
theorem dX11_through_130 : decode cX11_through 130 = .ok (.iadd, 1) := by decide +kernel
theorem dX11_through_131 : decode cX11_through 131 = .ok (.ireturn, 1) := by decide +kernel
theorem dX1_init_0 : decode cX1_init 0 = .ok (.aload_n 0, 1) := by decide +kernel
theorem dX1_init_1 : decode cX1_init 1 = .ok (.invokespecial 1, 3) := by decide +kernel
theorem dX1_init_4 : decode cX1_init 4 = .ok (.aload_n 0, 1) := by decide +kernel
theorem dX1_init_5 : decode cX1_init 5 = .ok (.iload_n 1, 1) := by decide +kernel
theorem dX1_init_6 : decode cX1_init 6 = .ok (.putfield 7, 3) := by decide +kernel
theorem dX1_init_9 : decode cX1_init 9 = .ok (.aload_n 0, 1) := by decide +kernel
theorem dX1_init_10 : decode cX1_init 10 = .ok (.iload_n 2, 1) := by decide +kernel
theorem dX1_init_11 : decode cX1_init 11 = .ok (.putfield 13, 3) := by decide +kernel
theorem dX1_init_14 : decode cX1_init 14 = .ok (.aload_n 0, 1) := by decide +kernel
theorem dX1_init_15 : decode cX1_init 15 = .ok (.aload_n 3, 1) := by decide +kernel
theorem dX1_init_16 : decode cX1_init 16 = .ok (.putfield 16, 3) := by decide +kernel
theorem dX1_init_19 : decode cX1_init 19 = .ok (.return_, 1) := by decide +kernel
theorem dX2_follow_0 : decode cX2_follow 0 = .ok (.aload_n 0, 1) := by decide +kernel
theorem dX2_follow_1 : decode cX2_follow 1 = .ok (.getfield 25, 3) := by decide +kernel
theorem dX2_follow_4 : decode cX2_follow 4 = .ok (.aload_n 2, 1) := by decide +kernel
theorem dX2_follow_5 : decode cX2_follow 5 = .ok (.invokevirtual 80, 3) := by decide +kernel
theorem dX2_follow_8 : decode cX2_follow 8 = .ok (.aload_n 0, 1) := by decide +kernel
theorem dX2_follow_9 : decode cX2_follow 9 = .ok (.iconst (-1), 1) := by decide +kernel
theorem dX2_follow_10 : decode cX2_follow 10 = .ok (.putfield 28, 3) := by decide +kernel
theorem dX2_follow_13 : decode cX2_follow 13 = .ok (.iconst 0, 1) := by decide +kernel
theorem dX2_follow_14 : decode cX2_follow 14 = .ok (.istore 5, 2) := by decide +kernel
theorem dX2_follow_16 : decode cX2_follow 16 = .ok (.iload 5, 2) := by decide +kernel
theorem dX2_follow_18 : decode cX2_follow 18 = .ok (.aload_n 1, 1) := by decide +kernel
theorem dX2_follow_19 : decode cX2_follow 19 = .ok (.getfield 108, 3) := by decide +kernel
theorem dX2_follow_22 : decode cX2_follow 22 = .ok (.if_icmp .ge 52, 3) := by decide +kernel
theorem dX2_follow_25 : decode cX2_follow 25 = .ok (.aload_n 0, 1) := by decide +kernel
theorem dX2_follow_26 : decode cX2_follow 26 = .ok (.aload_n 0, 1) := by decide +kernel
theorem dX2_follow_27 : decode cX2_follow 27 = .ok (.aload_n 0, 1) := by decide +kernel
theorem dX2_follow_28 : decode cX2_follow 28 = .ok (.getfield 25, 3) := by decide +kernel
theorem dX2_follow_31 : decode cX2_follow 31 = .ok (.aload_n 1, 1) := by decide +kernel
theorem dX2_follow_32 : decode cX2_follow 32 = .ok (.iload 5, 2) := by decide +kernel
theorem dX2_follow_34 : decode cX2_follow 34 = .ok (.invokevirtual 113, 3) := by decide +kernel
theorem dX2_follow_37 : decode cX2_follow 37 = .ok (.iload_n 3, 1) := by decide +kernel
theorem dX2_follow_38 : decode cX2_follow 38 = .ok (.iload 4, 2) := by decide +kernel
theorem dX2_follow_40 : decode cX2_follow 40 = .ok (.invokevirtual 115, 3) := by decide +kernel
theorem dX2_follow_43 : decode cX2_follow 43 = .ok (.putfield 28, 3) := by decide +kernel
theorem dX2_follow_46 : decode cX2_follow 46 = .ok (.aload_n 0, 1) := by decide +kernel
theorem dX2_follow_47 : decode cX2_follow 47 = .ok (.getfield 28, 3) := by decide +kernel
theorem dX2_follow_50 : decode cX2_follow 50 = .ok (.iconst (-1), 1) := by decide +kernel
theorem dX2_follow_51 : decode cX2_follow 51 = .ok (.if_icmp .eq 6, 3) := by decide +kernel
theorem dX2_follow_54 : decode cX2_follow 54 = .ok (.iload 5, 2) := by decide +kernel
theorem dX2_follow_56 : decode cX2_follow 56 = .ok (.ireturn, 1) := by decide +kernel
theorem dX2_follow_57 : decode cX2_follow 57 = .ok (.aload_n 0, 1) := by decide +kernel
theorem dX2_follow_58 : decode cX2_follow 58 = .ok (.getfield 25, 3) := by decide +kernel
theorem dX2_follow_61 : decode cX2_follow 61 = .ok (.aload_n 0, 1) := by decide +kernel
theorem dX2_follow_62 : decode cX2_follow 62 = .ok (.getfield 21, 3) := by decide +kernel
theorem dX2_follow_65 : decode cX2_follow 65 = .ok (.invokevirtual 80, 3) := by decide +kernel
theorem dX2_follow_68 : decode cX2_follow 68 = .ok (.iinc 5 1, 3) := by decide +kernel
theorem dX2_follow_71 : decode cX2_follow 71 = .ok (.goto (-55), 3) := by decide +kernel
theorem dX2_follow_74 : decode cX2_follow 74 = .ok (.aload_n 1, 1) := by decide +kernel
theorem dX2_follow_75 : decode cX2_follow 75 = .ok (.getfield 108, 3) := by decide +kernel
theorem dX2_follow_78 : decode cX2_follow 78 = .ok (.ireturn, 1) := by decide +kernel
theorem dX2_isNever_0 : decode cX2_isNever 0 = .ok (.iconst 0, 1) := by decide +kernel
theorem dX2_isNever_1 : decode cX2_isNever 1 = .ok (.istore_n 3, 1) := by decide +kernel
theorem dX2_isNever_2 : decode cX2_isNever 2 = .ok (.iload_n 3, 1) := by decide +kernel
theorem dX2_isNever_3 : decode cX2_isNever 3 = .ok (.iconst 3, 1) := by decide +kernel
theorem dX2_isNever_4 : decode cX2_isNever 4 = .ok (.if_icmp .ge 78, 3) := by decide +kernel
theorem dX2_isNever_7 : decode cX2_isNever 7 = .ok (.iconst 0, 1) := by decide +kernel
theorem dX2_isNever_8 : decode cX2_isNever 8 = .ok (.istore 4, 2) := by decide +kernel
theorem dX2_isNever_10 : decode cX2_isNever 10 = .ok (.iload 4, 2) := by decide +kernel
theorem dX2_isNever_12 : decode cX2_isNever 12 = .ok (.iconst 3, 1) := by decide +kernel
theorem dX2_isNever_13 : decode cX2_isNever 13 = .ok (.if_icmp .ge 63, 3) := by decide +kernel
theorem dX2_isNever_16 : decode cX2_isNever 16 = .ok (.iconst 0, 1) := by decide +kernel
theorem dX2_isNever_17 : decode cX2_isNever 17 = .ok (.istore 5, 2) := by decide +kernel
theorem dX2_isNever_19 : decode cX2_isNever 19 = .ok (.iload 5, 2) := by decide +kernel
theorem dX2_isNever_21 : decode cX2_isNever 21 = .ok (.iconst 3, 1) := by decide +kernel
theorem dX2_isNever_22 : decode cX2_isNever 22 = .ok (.if_icmp .ge 48, 3) := by decide +kernel
theorem dX2_isNever_25 : decode cX2_isNever 25 = .ok (.aload_n 0, 1) := by decide +kernel
theorem dX2_isNever_26 : decode cX2_isNever 26 = .ok (.getfield 12, 3) := by decide +kernel
theorem dX2_isNever_29 : decode cX2_isNever 29 = .ok (.aload_n 1, 1) := by decide +kernel
theorem dX2_isNever_30 : decode cX2_isNever 30 = .ok (.bipush 16, 2) := by decide +kernel
theorem dX2_isNever_32 : decode cX2_isNever 32 = .ok (.iload_n 3, 1) := by decide +kernel
theorem dX2_isNever_33 : decode cX2_isNever 33 = .ok (.imul, 1) := by decide +kernel
theorem dX2_isNever_34 : decode cX2_isNever 34 = .ok (.iconst 4, 1) := by decide +kernel
theorem dX2_isNever_35 : decode cX2_isNever 35 = .ok (.iload 4, 2) := by decide +kernel
theorem dX2_isNever_37 : decode cX2_isNever 37 = .ok (.imul, 1) := by decide +kernel
theorem dX2_isNever_38 : decode cX2_isNever 38 = .ok (.iadd, 1) := by decide +kernel
theorem dX2_isNever_39 : decode cX2_isNever 39 = .ok (.iload 5, 2) := by decide +kernel
theorem dX2_isNever_41 : decode cX2_isNever 41 = .ok (.iadd, 1) := by decide +kernel
theorem dX2_isNever_42 : decode cX2_isNever 42 = .ok (.invokevirtual 42, 3) := by decide +kernel
theorem dX2_isNever_45 : decode cX2_isNever 45 = .ok (.iload_n 3, 1) := by decide +kernel
theorem dX2_isNever_46 : decode cX2_isNever 46 = .ok (.iload 4, 2) := by decide +kernel
theorem dX2_isNever_48 : decode cX2_isNever 48 = .ok (.if_icmp .eq 16, 3) := by decide +kernel
theorem dX2_isNever_51 : decode cX2_isNever 51 = .ok (.aload_n 0, 1) := by decide +kernel
theorem dX2_isNever_52 : decode cX2_isNever 52 = .ok (.getfield 12, 3) := by decide +kernel
theorem dX2_isNever_55 : decode cX2_isNever 55 = .ok (.aload_n 2, 1) := by decide +kernel
theorem dX2_isNever_56 : decode cX2_isNever 56 = .ok (.invokevirtual 64, 3) := by decide +kernel
theorem dX2_isNever_59 : decode cX2_isNever 59 = .ok (.ifCond .eq 5, 3) := by decide +kernel
theorem dX2_isNever_62 : decode cX2_isNever 62 = .ok (.iconst 1, 1) := by decide +kernel
theorem dX2_isNever_63 : decode cX2_isNever 63 = .ok (.ireturn, 1) := by decide +kernel
theorem dX2_isNever_64 : decode cX2_isNever 64 = .ok (.iinc 5 1, 3) := by decide +kernel
theorem dX2_isNever_67 : decode cX2_isNever 67 = .ok (.goto (-48), 3) := by decide +kernel
theorem dX2_isNever_70 : decode cX2_isNever 70 = .ok (.iinc 4 1, 3) := by decide +kernel
theorem dX2_isNever_73 : decode cX2_isNever 73 = .ok (.goto (-63), 3) := by decide +kernel
theorem dX2_isNever_76 : decode cX2_isNever 76 = .ok (.iinc 3 1, 3) := by decide +kernel
theorem dX2_isNever_79 : decode cX2_isNever 79 = .ok (.goto (-77), 3) := by decide +kernel
theorem dX2_isNever_82 : decode cX2_isNever 82 = .ok (.iconst 0, 1) := by decide +kernel
theorem dX2_isNever_83 : decode cX2_isNever 83 = .ok (.ireturn, 1) := by decide +kernel
theorem dX2_why_0 : decode cX2_why 0 = .ok (.aload_n 0, 1) := by decide +kernel
theorem dX2_why_1 : decode cX2_why 1 = .ok (.getfield 32, 3) := by decide +kernel
theorem dX2_why_4 : decode cX2_why 4 = .ok (.iload_n 2, 1) := by decide +kernel
theorem dX2_why_5 : decode cX2_why 5 = .ok (.iload_n 3, 1) := by decide +kernel
theorem dX2_why_6 : decode cX2_why 6 = .ok (.invokevirtual 36, 3) := by decide +kernel
theorem dX2_why_9 : decode cX2_why 9 = .ok (.astore 5, 2) := by decide +kernel
theorem dX2_why_11 : decode cX2_why 11 = .ok (.aload 5, 2) := by decide +kernel
theorem dX2_why_13 : decode cX2_why 13 = .ok (.ifnonnull 6, 3) := by decide +kernel
theorem dX2_why_16 : decode cX2_why 16 = .ok (.bipush 30, 2) := by decide +kernel
theorem dX2_why_18 : decode cX2_why 18 = .ok (.ireturn, 1) := by decide +kernel
theorem dX2_why_19 : decode cX2_why 19 = .ok (.aload_n 0, 1) := by decide +kernel
theorem dX2_why_20 : decode cX2_why 20 = .ok (.getfield 12, 3) := by decide +kernel
theorem dX2_why_23 : decode cX2_why 23 = .ok (.aload_n 1, 1) := by decide +kernel
theorem dX2_why_24 : decode cX2_why 24 = .ok (.iload_n 2, 1) := by decide +kernel
theorem dX2_why_25 : decode cX2_why 25 = .ok (.invokevirtual 42, 3) := by decide +kernel
theorem dX2_why_28 : decode cX2_why 28 = .ok (.iconst 0, 1) := by decide +kernel
theorem dX2_why_29 : decode cX2_why 29 = .ok (.istore 6, 2) := by decide +kernel
theorem dX2_why_31 : decode cX2_why 31 = .ok (.iload 6, 2) := by decide +kernel
theorem dX2_why_33 : decode cX2_why 33 = .ok (.aload 5, 2) := by decide +kernel
theorem dX2_why_35 : decode cX2_why 35 = .ok (.getfield 46, 3) := by decide +kernel
theorem dX2_why_38 : decode cX2_why 38 = .ok (.invokevirtual 52, 3) := by decide +kernel
theorem dX2_why_41 : decode cX2_why 41 = .ok (.if_icmp .ge 35, 3) := by decide +kernel
theorem dX2_why_44 : decode cX2_why 44 = .ok (.aload_n 0, 1) := by decide +kernel
theorem dX2_why_45 : decode cX2_why 45 = .ok (.getfield 12, 3) := by decide +kernel
theorem dX2_why_48 : decode cX2_why 48 = .ok (.aload 5, 2) := by decide +kernel
theorem dX2_why_50 : decode cX2_why 50 = .ok (.getfield 46, 3) := by decide +kernel
theorem dX2_why_53 : decode cX2_why 53 = .ok (.iload 6, 2) := by decide +kernel
theorem dX2_why_55 : decode cX2_why 55 = .ok (.invokevirtual 58, 3) := by decide +kernel
theorem dX2_why_58 : decode cX2_why 58 = .ok (.checkcast 62, 3) := by decide +kernel
theorem dX2_why_61 : decode cX2_why 61 = .ok (.invokevirtual 64, 3) := by decide +kernel
theorem dX2_why_64 : decode cX2_why 64 = .ok (.ifCond .ne 6, 3) := by decide +kernel
theorem dX2_why_67 : decode cX2_why 67 = .ok (.iload 6, 2) := by decide +kernel
theorem dX2_why_69 : decode cX2_why 69 = .ok (.ireturn, 1) := by decide +kernel
theorem dX2_why_70 : decode cX2_why 70 = .ok (.iinc 6 1, 3) := by decide +kernel
theorem dX2_why_73 : decode cX2_why 73 = .ok (.goto (-42), 3) := by decide +kernel
theorem dX2_why_76 : decode cX2_why 76 = .ok (.iconst 0, 1) := by decide +kernel
theorem dX2_why_77 : decode cX2_why 77 = .ok (.istore 6, 2) := by decide +kernel
theorem dX2_why_79 : decode cX2_why 79 = .ok (.iload 6, 2) := by decide +kernel
theorem dX2_why_81 : decode cX2_why 81 = .ok (.aload_n 0, 1) := by decide +kernel
theorem dX2_why_82 : decode cX2_why 82 = .ok (.getfield 32, 3) := by decide +kernel
theorem dX2_why_85 : decode cX2_why 85 = .ok (.getfield 68, 3) := by decide +kernel
theorem dX2_why_88 : decode cX2_why 88 = .ok (.invokevirtual 52, 3) := by decide +kernel
theorem dX2_why_91 : decode cX2_why 91 = .ok (.if_icmp .ge 82, 3) := by decide +kernel
theorem dX2_why_94 : decode cX2_why 94 = .ok (.aload_n 0, 1) := by decide +kernel
theorem dX2_why_95 : decode cX2_why 95 = .ok (.getfield 32, 3) := by decide +kernel
theorem dX2_why_98 : decode cX2_why 98 = .ok (.getfield 68, 3) := by decide +kernel
theorem dX2_why_101 : decode cX2_why 101 = .ok (.iload 6, 2) := by decide +kernel
theorem dX2_why_103 : decode cX2_why 103 = .ok (.invokevirtual 58, 3) := by decide +kernel
theorem dX2_why_106 : decode cX2_why 106 = .ok (.checkcast 71, 3) := by decide +kernel
theorem dX2_why_109 : decode cX2_why 109 = .ok (.astore 7, 2) := by decide +kernel
theorem dX2_why_111 : decode cX2_why 111 = .ok (.iload 4, 2) := by decide +kernel
theorem dX2_why_113 : decode cX2_why 113 = .ok (.iload 6, 2) := by decide +kernel
theorem dX2_why_115 : decode cX2_why 115 = .ok (.ishr, 1) := by decide +kernel
theorem dX2_why_116 : decode cX2_why 116 = .ok (.iconst 1, 1) := by decide +kernel
theorem dX2_why_117 : decode cX2_why 117 = .ok (.iand, 1) := by decide +kernel
theorem dX2_why_118 : decode cX2_why 118 = .ok (.iconst 1, 1) := by decide +kernel
theorem dX2_why_119 : decode cX2_why 119 = .ok (.if_icmp .ne 19, 3) := by decide +kernel
theorem dX2_why_122 : decode cX2_why 122 = .ok (.aload 7, 2) := by decide +kernel
theorem dX2_why_124 : decode cX2_why 124 = .ok (.getfield 73, 3) := by decide +kernel
theorem dX2_why_127 : decode cX2_why 127 = .ok (.iload_n 2, 1) := by decide +kernel
theorem dX2_why_128 : decode cX2_why 128 = .ok (.bipush 64, 2) := by decide +kernel
theorem dX2_why_130 : decode cX2_why 130 = .ok (.idiv, 1) := by decide +kernel
theorem dX2_why_131 : decode cX2_why 131 = .ok (.if_icmp .ne 7, 3) := by decide +kernel
theorem dX2_why_134 : decode cX2_why 134 = .ok (.iconst 1, 1) := by decide +kernel
theorem dX2_why_135 : decode cX2_why 135 = .ok (.goto 4, 3) := by decide +kernel
theorem dX2_why_138 : decode cX2_why 138 = .ok (.iconst 0, 1) := by decide +kernel
theorem dX2_why_139 : decode cX2_why 139 = .ok (.istore 8, 2) := by decide +kernel
theorem dX2_why_141 : decode cX2_why 141 = .ok (.iload 8, 2) := by decide +kernel
theorem dX2_why_143 : decode cX2_why 143 = .ok (.ifCond .eq 24, 3) := by decide +kernel
theorem dX2_why_146 : decode cX2_why 146 = .ok (.aload_n 0, 1) := by decide +kernel
theorem dX2_why_147 : decode cX2_why 147 = .ok (.getfield 12, 3) := by decide +kernel
theorem dX2_why_150 : decode cX2_why 150 = .ok (.aload 7, 2) := by decide +kernel
theorem dX2_why_152 : decode cX2_why 152 = .ok (.getfield 76, 3) := by decide +kernel
theorem dX2_why_155 : decode cX2_why 155 = .ok (.invokevirtual 64, 3) := by decide +kernel
theorem dX2_why_158 : decode cX2_why 158 = .ok (.ifCond .ne 9, 3) := by decide +kernel
theorem dX2_why_161 : decode cX2_why 161 = .ok (.bipush 10, 2) := by decide +kernel
theorem dX2_why_163 : decode cX2_why 163 = .ok (.iload 6, 2) := by decide +kernel
theorem dX2_why_165 : decode cX2_why 165 = .ok (.iadd, 1) := by decide +kernel
theorem dX2_why_166 : decode cX2_why 166 = .ok (.ireturn, 1) := by decide +kernel
theorem dX2_why_167 : decode cX2_why 167 = .ok (.iinc 6 1, 3) := by decide +kernel
theorem dX2_why_170 : decode cX2_why 170 = .ok (.goto (-91), 3) := by decide +kernel
theorem dX2_why_173 : decode cX2_why 173 = .ok (.aload_n 0, 1) := by decide +kernel
theorem dX2_why_174 : decode cX2_why 174 = .ok (.getfield 21, 3) := by decide +kernel
theorem dX2_why_177 : decode cX2_why 177 = .ok (.aload_n 1, 1) := by decide +kernel
theorem dX2_why_178 : decode cX2_why 178 = .ok (.invokevirtual 80, 3) := by decide +kernel
theorem dX2_why_181 : decode cX2_why 181 = .ok (.iconst 0, 1) := by decide +kernel
theorem dX2_why_182 : decode cX2_why 182 = .ok (.istore 6, 2) := by decide +kernel
theorem dX2_why_184 : decode cX2_why 184 = .ok (.iload 6, 2) := by decide +kernel
theorem dX2_why_186 : decode cX2_why 186 = .ok (.aload 5, 2) := by decide +kernel
theorem dX2_why_188 : decode cX2_why 188 = .ok (.getfield 84, 3) := by decide +kernel
theorem dX2_why_191 : decode cX2_why 191 = .ok (.invokevirtual 52, 3) := by decide +kernel
theorem dX2_why_194 : decode cX2_why 194 = .ok (.if_icmp .ge 83, 3) := by decide +kernel
theorem dX2_why_197 : decode cX2_why 197 = .ok (.aload 5, 2) := by decide +kernel
theorem dX2_why_199 : decode cX2_why 199 = .ok (.getfield 84, 3) := by decide +kernel
theorem dX2_why_202 : decode cX2_why 202 = .ok (.iload 6, 2) := by decide +kernel
theorem dX2_why_204 : decode cX2_why 204 = .ok (.invokevirtual 58, 3) := by decide +kernel
theorem dX2_why_207 : decode cX2_why 207 = .ok (.checkcast 62, 3) := by decide +kernel
theorem dX2_why_210 : decode cX2_why 210 = .ok (.astore 7, 2) := by decide +kernel
theorem dX2_why_212 : decode cX2_why 212 = .ok (.aload_n 0, 1) := by decide +kernel
theorem dX2_why_213 : decode cX2_why 213 = .ok (.getfield 12, 3) := by decide +kernel
theorem dX2_why_216 : decode cX2_why 216 = .ok (.aload 7, 2) := by decide +kernel
theorem dX2_why_218 : decode cX2_why 218 = .ok (.getfield 87, 3) := by decide +kernel
theorem dX2_why_221 : decode cX2_why 221 = .ok (.invokevirtual 90, 3) := by decide +kernel
theorem dX2_why_224 : decode cX2_why 224 = .ok (.istore 8, 2) := by decide +kernel
theorem dX2_why_226 : decode cX2_why 226 = .ok (.aload_n 0, 1) := by decide +kernel
theorem dX2_why_227 : decode cX2_why 227 = .ok (.getfield 12, 3) := by decide +kernel
theorem dX2_why_230 : decode cX2_why 230 = .ok (.iconst 1, 1) := by decide +kernel
theorem dX2_why_231 : decode cX2_why 231 = .ok (.aload 7, 2) := by decide +kernel
theorem dX2_why_233 : decode cX2_why 233 = .ok (.getfield 87, 3) := by decide +kernel
theorem dX2_why_236 : decode cX2_why 236 = .ok (.isub, 1) := by decide +kernel
theorem dX2_why_237 : decode cX2_why 237 = .ok (.invokevirtual 90, 3) := by decide +kernel
theorem dX2_why_240 : decode cX2_why 240 = .ok (.istore 9, 2) := by decide +kernel
theorem dX2_why_242 : decode cX2_why 242 = .ok (.aload_n 0, 1) := by decide +kernel
theorem dX2_why_243 : decode cX2_why 243 = .ok (.getfield 21, 3) := by decide +kernel
theorem dX2_why_246 : decode cX2_why 246 = .ok (.aload 7, 2) := by decide +kernel
theorem dX2_why_248 : decode cX2_why 248 = .ok (.getfield 94, 3) := by decide +kernel
theorem dX2_why_251 : decode cX2_why 251 = .ok (.iload 8, 2) := by decide +kernel
theorem dX2_why_253 : decode cX2_why 253 = .ok (.iload 9, 2) := by decide +kernel
theorem dX2_why_255 : decode cX2_why 255 = .ok (.iload_n 2, 1) := by decide +kernel
theorem dX2_why_256 : decode cX2_why 256 = .ok (.invokestatic 97, 3) := by decide +kernel
theorem dX2_why_259 : decode cX2_why 259 = .ok (.aload_n 0, 1) := by decide +kernel
theorem dX2_why_260 : decode cX2_why 260 = .ok (.getfield 12, 3) := by decide +kernel
theorem dX2_why_263 : decode cX2_why 263 = .ok (.aload 7, 2) := by decide +kernel
theorem dX2_why_265 : decode cX2_why 265 = .ok (.invokevirtual 64, 3) := by decide +kernel
theorem dX2_why_268 : decode cX2_why 268 = .ok (.invokevirtual 100, 3) := by decide +kernel
theorem dX2_why_271 : decode cX2_why 271 = .ok (.iinc 6 1, 3) := by decide +kernel
theorem dX2_why_274 : decode cX2_why 274 = .ok (.goto (-90), 3) := by decide +kernel
theorem dX2_why_277 : decode cX2_why 277 = .ok (.aload_n 0, 1) := by decide +kernel
theorem dX2_why_278 : decode cX2_why 278 = .ok (.getfield 21, 3) := by decide +kernel
theorem dX2_why_281 : decode cX2_why 281 = .ok (.invokevirtual 104, 3) := by decide +kernel
theorem dX2_why_284 : decode cX2_why 284 = .ok (.ifCond .eq 7, 3) := by decide +kernel
theorem dX2_why_287 : decode cX2_why 287 = .ok (.iconst (-1), 1) := by decide +kernel
theorem dX2_why_288 : decode cX2_why 288 = .ok (.goto 5, 3) := by decide +kernel
theorem dX2_why_291 : decode cX2_why 291 = .ok (.bipush 20, 2) := by decide +kernel
theorem dX2_why_293 : decode cX2_why 293 = .ok (.ireturn, 1) := by decide +kernel
theorem dX3_init_0 : decode cX3_init 0 = .ok (.aload_n 0, 1) := by decide +kernel
theorem dX3_init_1 : decode cX3_init 1 = .ok (.invokespecial 1, 3) := by decide +kernel
theorem dX3_init_4 : decode cX3_init 4 = .ok (.aload_n 0, 1) := by decide +kernel
theorem dX3_init_5 : decode cX3_init 5 = .ok (.iload_n 1, 1) := by decide +kernel
theorem dX3_init_6 : decode cX3_init 6 = .ok (.putfield 7, 3) := by decide +kernel
theorem dX3_init_9 : decode cX3_init 9 = .ok (.aload_n 0, 1) := by decide +kernel
theorem dX3_init_10 : decode cX3_init 10 = .ok (.aload_n 2, 1) := by decide +kernel
theorem dX3_init_11 : decode cX3_init 11 = .ok (.putfield 13, 3) := by decide +kernel
theorem dX3_init_14 : decode cX3_init 14 = .ok (.return_, 1) := by decide +kernel
theorem dX4_actAt_0 : decode cX4_actAt 0 = .ok (.iload_n 1, 1) := by decide +kernel
theorem dX4_actAt_1 : decode cX4_actAt 1 = .ok (.ifCond .lt 21, 3) := by decide +kernel
theorem dX4_actAt_4 : decode cX4_actAt 4 = .ok (.iload_n 1, 1) := by decide +kernel
theorem dX4_actAt_5 : decode cX4_actAt 5 = .ok (.aload_n 0, 1) := by decide +kernel
theorem dX4_actAt_6 : decode cX4_actAt 6 = .ok (.getfield 11, 3) := by decide +kernel
theorem dX4_actAt_9 : decode cX4_actAt 9 = .ok (.arraylength, 1) := by decide +kernel
theorem dX4_actAt_10 : decode cX4_actAt 10 = .ok (.if_icmp .ge 12, 3) := by decide +kernel
theorem dX4_actAt_13 : decode cX4_actAt 13 = .ok (.aload_n 0, 1) := by decide +kernel
theorem dX4_actAt_14 : decode cX4_actAt 14 = .ok (.getfield 11, 3) := by decide +kernel
theorem dX4_actAt_17 : decode cX4_actAt 17 = .ok (.iload_n 1, 1) := by decide +kernel
theorem dX4_actAt_18 : decode cX4_actAt 18 = .ok (.aaload, 1) := by decide +kernel
theorem dX4_actAt_19 : decode cX4_actAt 19 = .ok (.goto 4, 3) := by decide +kernel
theorem dX4_actAt_22 : decode cX4_actAt 22 = .ok (.aconst_null, 1) := by decide +kernel
theorem dX4_actAt_23 : decode cX4_actAt 23 = .ok (.areturn, 1) := by decide +kernel
theorem dX4_actOf_0 : decode cX4_actOf 0 = .ok (.iload_n 1, 1) := by decide +kernel
theorem dX4_actOf_1 : decode cX4_actOf 1 = .ok (.bipush 64, 2) := by decide +kernel
theorem dX4_actOf_3 : decode cX4_actOf 3 = .ok (.idiv, 1) := by decide +kernel
theorem dX4_actOf_4 : decode cX4_actOf 4 = .ok (.istore_n 3, 1) := by decide +kernel
theorem dX4_actOf_5 : decode cX4_actOf 5 = .ok (.iload_n 2, 1) := by decide +kernel
theorem dX4_actOf_6 : decode cX4_actOf 6 = .ok (.iload_n 3, 1) := by decide +kernel
theorem dX4_actOf_7 : decode cX4_actOf 7 = .ok (.bipush 6, 2) := by decide +kernel
theorem dX4_actOf_9 : decode cX4_actOf 9 = .ok (.idiv, 1) := by decide +kernel
theorem dX4_actOf_10 : decode cX4_actOf 10 = .ok (.ishr, 1) := by decide +kernel
theorem dX4_actOf_11 : decode cX4_actOf 11 = .ok (.iconst 1, 1) := by decide +kernel
theorem dX4_actOf_12 : decode cX4_actOf 12 = .ok (.iand, 1) := by decide +kernel
theorem dX4_actOf_13 : decode cX4_actOf 13 = .ok (.ifCond .ne 5, 3) := by decide +kernel
theorem dX4_actOf_16 : decode cX4_actOf 16 = .ok (.aconst_null, 1) := by decide +kernel
theorem dX4_actOf_17 : decode cX4_actOf 17 = .ok (.areturn, 1) := by decide +kernel
theorem dX4_actOf_18 : decode cX4_actOf 18 = .ok (.aload_n 0, 1) := by decide +kernel
theorem dX4_actOf_19 : decode cX4_actOf 19 = .ok (.iload_n 3, 1) := by decide +kernel
theorem dX4_actOf_20 : decode cX4_actOf 20 = .ok (.invokevirtual 35, 3) := by decide +kernel
theorem dX4_actOf_23 : decode cX4_actOf 23 = .ok (.astore 4, 2) := by decide +kernel
theorem dX4_actOf_25 : decode cX4_actOf 25 = .ok (.aload 4, 2) := by decide +kernel
theorem dX4_actOf_27 : decode cX4_actOf 27 = .ok (.ifnonnull 5, 3) := by decide +kernel
theorem dX4_actOf_30 : decode cX4_actOf 30 = .ok (.aconst_null, 1) := by decide +kernel
theorem dX4_actOf_31 : decode cX4_actOf 31 = .ok (.areturn, 1) := by decide +kernel
theorem dX4_actOf_32 : decode cX4_actOf 32 = .ok (.iload_n 1, 1) := by decide +kernel
theorem dX4_actOf_33 : decode cX4_actOf 33 = .ok (.invokestatic 39, 3) := by decide +kernel
theorem dX4_actOf_36 : decode cX4_actOf 36 = .ok (.istore 5, 2) := by decide +kernel
theorem dX4_actOf_38 : decode cX4_actOf 38 = .ok (.iload_n 1, 1) := by decide +kernel
theorem dX4_actOf_39 : decode cX4_actOf 39 = .ok (.invokestatic 43, 3) := by decide +kernel
theorem dX4_actOf_42 : decode cX4_actOf 42 = .ok (.istore 6, 2) := by decide +kernel
theorem dX4_actOf_44 : decode cX4_actOf 44 = .ok (.iload 5, 2) := by decide +kernel
theorem dX4_actOf_46 : decode cX4_actOf 46 = .ok (.invokestatic 46, 3) := by decide +kernel
theorem dX4_actOf_49 : decode cX4_actOf 49 = .ok (.ifCond .eq 54, 3) := by decide +kernel
theorem dX4_actOf_52 : decode cX4_actOf 52 = .ok (.aload 4, 2) := by decide +kernel
theorem dX4_actOf_54 : decode cX4_actOf 54 = .ok (.getfield 50, 3) := by decide +kernel
theorem dX4_actOf_57 : decode cX4_actOf 57 = .ok (.ifCond .eq 21, 3) := by decide +kernel
theorem dX4_actOf_60 : decode cX4_actOf 60 = .ok (.iload 6, 2) := by decide +kernel
theorem dX4_actOf_62 : decode cX4_actOf 62 = .ok (.invokestatic 46, 3) := by decide +kernel
theorem dX4_actOf_65 : decode cX4_actOf 65 = .ok (.ifCond .eq 38, 3) := by decide +kernel
theorem dX4_actOf_68 : decode cX4_actOf 68 = .ok (.iload 6, 2) := by decide +kernel
theorem dX4_actOf_70 : decode cX4_actOf 70 = .ok (.iload 5, 2) := by decide +kernel
theorem dX4_actOf_72 : decode cX4_actOf 72 = .ok (.if_icmp .eq 31, 3) := by decide +kernel
theorem dX4_actOf_75 : decode cX4_actOf 75 = .ok (.goto 9, 3) := by decide +kernel
theorem dX4_actOf_78 : decode cX4_actOf 78 = .ok (.iload 6, 2) := by decide +kernel
theorem dX4_actOf_80 : decode cX4_actOf 80 = .ok (.iconst 3, 1) := by decide +kernel
theorem dX4_actOf_81 : decode cX4_actOf 81 = .ok (.if_icmp .ne 22, 3) := by decide +kernel
theorem dX4_actOf_84 : decode cX4_actOf 84 = .ok (.aload 4, 2) := by decide +kernel
theorem dX4_actOf_86 : decode cX4_actOf 86 = .ok (.getfield 54, 3) := by decide +kernel
theorem dX4_actOf_89 : decode cX4_actOf 89 = .ok (.iload_n 1, 1) := by decide +kernel
theorem dX4_actOf_90 : decode cX4_actOf 90 = .ok (.invokestatic 57, 3) := by decide +kernel
theorem dX4_actOf_93 : decode cX4_actOf 93 = .ok (.invokestatic 60, 3) := by decide +kernel
theorem dX4_actOf_96 : decode cX4_actOf 96 = .ok (.if_icmp .ne 7, 3) := by decide +kernel
theorem dX4_actOf_99 : decode cX4_actOf 99 = .ok (.iconst 1, 1) := by decide +kernel
theorem dX4_actOf_100 : decode cX4_actOf 100 = .ok (.goto 4, 3) := by decide +kernel
theorem dX4_actOf_103 : decode cX4_actOf 103 = .ok (.iconst 0, 1) := by decide +kernel
theorem dX4_actOf_104 : decode cX4_actOf 104 = .ok (.istore 7, 2) := by decide +kernel
theorem dX4_actOf_106 : decode cX4_actOf 106 = .ok (.iload 7, 2) := by decide +kernel
theorem dX4_actOf_108 : decode cX4_actOf 108 = .ok (.ifCond .eq 8, 3) := by decide +kernel
theorem dX4_actOf_111 : decode cX4_actOf 111 = .ok (.aload 4, 2) := by decide +kernel
theorem dX4_actOf_113 : decode cX4_actOf 113 = .ok (.goto 4, 3) := by decide +kernel
theorem dX4_actOf_116 : decode cX4_actOf 116 = .ok (.aconst_null, 1) := by decide +kernel
theorem dX4_actOf_117 : decode cX4_actOf 117 = .ok (.areturn, 1) := by decide +kernel
theorem dX4_enact_0 : decode cX4_enact 0 = .ok (.iconst 0, 1) := by decide +kernel
theorem dX4_enact_1 : decode cX4_enact 1 = .ok (.istore_n 3, 1) := by decide +kernel
theorem dX4_enact_2 : decode cX4_enact 2 = .ok (.iload_n 3, 1) := by decide +kernel
theorem dX4_enact_3 : decode cX4_enact 3 = .ok (.bipush 6, 2) := by decide +kernel
theorem dX4_enact_5 : decode cX4_enact 5 = .ok (.if_icmp .ge 59, 3) := by decide +kernel
theorem dX4_enact_8 : decode cX4_enact 8 = .ok (.bipush 6, 2) := by decide +kernel
theorem dX4_enact_10 : decode cX4_enact 10 = .ok (.iload_n 1, 1) := by decide +kernel
theorem dX4_enact_11 : decode cX4_enact 11 = .ok (.imul, 1) := by decide +kernel
theorem dX4_enact_12 : decode cX4_enact 12 = .ok (.iload_n 3, 1) := by decide +kernel
theorem dX4_enact_13 : decode cX4_enact 13 = .ok (.iadd, 1) := by decide +kernel
theorem dX4_enact_14 : decode cX4_enact 14 = .ok (.istore 4, 2) := by decide +kernel
theorem dX4_enact_16 : decode cX4_enact 16 = .ok (.iload 4, 2) := by decide +kernel
theorem dX4_enact_18 : decode cX4_enact 18 = .ok (.ifCond .lt 40, 3) := by decide +kernel
theorem dX4_enact_21 : decode cX4_enact 21 = .ok (.iload 4, 2) := by decide +kernel
theorem dX4_enact_23 : decode cX4_enact 23 = .ok (.aload_n 0, 1) := by decide +kernel
theorem dX4_enact_24 : decode cX4_enact 24 = .ok (.getfield 11, 3) := by decide +kernel
theorem dX4_enact_27 : decode cX4_enact 27 = .ok (.arraylength, 1) := by decide +kernel
theorem dX4_enact_28 : decode cX4_enact 28 = .ok (.if_icmp .ge 30, 3) := by decide +kernel
theorem dX4_enact_31 : decode cX4_enact 31 = .ok (.aload_n 0, 1) := by decide +kernel
theorem dX4_enact_32 : decode cX4_enact 32 = .ok (.getfield 11, 3) := by decide +kernel
theorem dX4_enact_35 : decode cX4_enact 35 = .ok (.iload 4, 2) := by decide +kernel
theorem dX4_enact_37 : decode cX4_enact 37 = .ok (.iload_n 3, 1) := by decide +kernel
theorem dX4_enact_38 : decode cX4_enact 38 = .ok (.aload_n 2, 1) := by decide +kernel
theorem dX4_enact_39 : decode cX4_enact 39 = .ok (.invokevirtual 27, 3) := by decide +kernel
theorem dX4_enact_42 : decode cX4_enact 42 = .ok (.if_icmp .ge 14, 3) := by decide +kernel
theorem dX4_enact_45 : decode cX4_enact 45 = .ok (.aload_n 2, 1) := by decide +kernel
theorem dX4_enact_46 : decode cX4_enact 46 = .ok (.iload_n 3, 1) := by decide +kernel
theorem dX4_enact_47 : decode cX4_enact 47 = .ok (.invokevirtual 31, 3) := by decide +kernel
theorem dX4_enact_50 : decode cX4_enact 50 = .ok (.checkcast 9, 3) := by decide +kernel
theorem dX4_enact_53 : decode cX4_enact 53 = .ok (.goto 4, 3) := by decide +kernel
theorem dX4_enact_56 : decode cX4_enact 56 = .ok (.aconst_null, 1) := by decide +kernel
theorem dX4_enact_57 : decode cX4_enact 57 = .ok (.aastore, 1) := by decide +kernel
theorem dX4_enact_58 : decode cX4_enact 58 = .ok (.iinc 3 1, 3) := by decide +kernel
theorem dX4_enact_61 : decode cX4_enact 61 = .ok (.goto (-59), 3) := by decide +kernel
theorem dX4_enact_64 : decode cX4_enact 64 = .ok (.return_, 1) := by decide +kernel
theorem dX5_clause_0 : decode cX5_clause 0 = .ok (.new 74, 3) := by decide +kernel
theorem dX5_clause_3 : decode cX5_clause 3 = .ok (.dup, 1) := by decide +kernel
theorem dX5_clause_4 : decode cX5_clause 4 = .ok (.iload_n 1, 1) := by decide +kernel
theorem dX5_clause_5 : decode cX5_clause 5 = .ok (.iload_n 2, 1) := by decide +kernel
theorem dX5_clause_6 : decode cX5_clause 6 = .ok (.aload_n 0, 1) := by decide +kernel
theorem dX5_clause_7 : decode cX5_clause 7 = .ok (.getfield 22, 3) := by decide +kernel
theorem dX5_clause_10 : decode cX5_clause 10 = .ok (.aload_n 0, 1) := by decide +kernel
theorem dX5_clause_11 : decode cX5_clause 11 = .ok (.getfield 26, 3) := by decide +kernel
theorem dX5_clause_14 : decode cX5_clause 14 = .ok (.invokestatic 76, 3) := by decide +kernel
theorem dX5_clause_17 : decode cX5_clause 17 = .ok (.invokespecial 82, 3) := by decide +kernel
theorem dX5_clause_20 : decode cX5_clause 20 = .ok (.areturn, 1) := by decide +kernel
theorem dX5_emit_0 : decode cX5_emit 0 = .ok (.aload_n 0, 1) := by decide +kernel
theorem dX5_emit_1 : decode cX5_emit 1 = .ok (.getfield 26, 3) := by decide +kernel
theorem dX5_emit_4 : decode cX5_emit 4 = .ok (.aload_n 0, 1) := by decide +kernel
theorem dX5_emit_5 : decode cX5_emit 5 = .ok (.getfield 22, 3) := by decide +kernel
theorem dX5_emit_8 : decode cX5_emit 8 = .ok (.arraylength, 1) := by decide +kernel
theorem dX5_emit_9 : decode cX5_emit 9 = .ok (.if_icmp .ge 28, 3) := by decide +kernel
theorem dX5_emit_12 : decode cX5_emit 12 = .ok (.aload_n 0, 1) := by decide +kernel
theorem dX5_emit_13 : decode cX5_emit 13 = .ok (.getfield 22, 3) := by decide +kernel
theorem dX5_emit_16 : decode cX5_emit 16 = .ok (.aload_n 0, 1) := by decide +kernel
theorem dX5_emit_17 : decode cX5_emit 17 = .ok (.getfield 26, 3) := by decide +kernel
theorem dX5_emit_20 : decode cX5_emit 20 = .ok (.iload_n 1, 1) := by decide +kernel
theorem dX5_emit_21 : decode cX5_emit 21 = .ok (.bipush 32, 2) := by decide +kernel
theorem dX5_emit_23 : decode cX5_emit 23 = .ok (.iload_n 2, 1) := by decide +kernel
theorem dX5_emit_24 : decode cX5_emit 24 = .ok (.imul, 1) := by decide +kernel
theorem dX5_emit_25 : decode cX5_emit 25 = .ok (.iadd, 1) := by decide +kernel
theorem dX5_emit_26 : decode cX5_emit 26 = .ok (.iastore, 1) := by decide +kernel
theorem dX5_emit_27 : decode cX5_emit 27 = .ok (.aload_n 0, 1) := by decide +kernel
theorem dX5_emit_28 : decode cX5_emit 28 = .ok (.dup, 1) := by decide +kernel
theorem dX5_emit_29 : decode cX5_emit 29 = .ok (.getfield 26, 3) := by decide +kernel
theorem dX5_emit_32 : decode cX5_emit 32 = .ok (.iconst 1, 1) := by decide +kernel
theorem dX5_emit_33 : decode cX5_emit 33 = .ok (.iadd, 1) := by decide +kernel
theorem dX5_emit_34 : decode cX5_emit 34 = .ok (.putfield 26, 3) := by decide +kernel
theorem dX5_emit_37 : decode cX5_emit 37 = .ok (.return_, 1) := by decide +kernel
theorem dX5_isAtEnd_0 : decode cX5_isAtEnd 0 = .ok (.aload_n 0, 1) := by decide +kernel
theorem dX5_isAtEnd_1 : decode cX5_isAtEnd 1 = .ok (.invokevirtual 66, 3) := by decide +kernel
theorem dX5_isAtEnd_4 : decode cX5_isAtEnd 4 = .ok (.ifCond .eq 11, 3) := by decide +kernel
theorem dX5_isAtEnd_7 : decode cX5_isAtEnd 7 = .ok (.aload_n 0, 1) := by decide +kernel
theorem dX5_isAtEnd_8 : decode cX5_isAtEnd 8 = .ok (.iconst 1, 1) := by decide +kernel
theorem dX5_isAtEnd_9 : decode cX5_isAtEnd 9 = .ok (.invokevirtual 70, 3) := by decide +kernel
theorem dX5_isAtEnd_12 : decode cX5_isAtEnd 12 = .ok (.ifCond .eq 7, 3) := by decide +kernel
theorem dX5_isAtEnd_15 : decode cX5_isAtEnd 15 = .ok (.iconst 1, 1) := by decide +kernel
theorem dX5_isAtEnd_16 : decode cX5_isAtEnd 16 = .ok (.goto 4, 3) := by decide +kernel
theorem dX5_isAtEnd_19 : decode cX5_isAtEnd 19 = .ok (.iconst 0, 1) := by decide +kernel
theorem dX5_isAtEnd_20 : decode cX5_isAtEnd 20 = .ok (.ireturn, 1) := by decide +kernel
theorem dX5_isNamed_0 : decode cX5_isNamed 0 = .ok (.iconst 0, 1) := by decide +kernel
theorem dX5_isNamed_1 : decode cX5_isNamed 1 = .ok (.istore_n 3, 1) := by decide +kernel
theorem dX5_isNamed_2 : decode cX5_isNamed 2 = .ok (.iload_n 3, 1) := by decide +kernel
theorem dX5_isNamed_3 : decode cX5_isNamed 3 = .ok (.aload_n 0, 1) := by decide +kernel
theorem dX5_isNamed_4 : decode cX5_isNamed 4 = .ok (.getfield 39, 3) := by decide +kernel
theorem dX5_isNamed_7 : decode cX5_isNamed 7 = .ok (.invokevirtual 85, 3) := by decide +kernel
theorem dX5_isNamed_10 : decode cX5_isNamed 10 = .ok (.if_icmp .ge 30, 3) := by decide +kernel
theorem dX5_isNamed_13 : decode cX5_isNamed 13 = .ok (.aload_n 0, 1) := by decide +kernel
theorem dX5_isNamed_14 : decode cX5_isNamed 14 = .ok (.getfield 39, 3) := by decide +kernel
theorem dX5_isNamed_17 : decode cX5_isNamed 17 = .ok (.iload_n 3, 1) := by decide +kernel
theorem dX5_isNamed_18 : decode cX5_isNamed 18 = .ok (.invokevirtual 129, 3) := by decide +kernel
theorem dX5_isNamed_21 : decode cX5_isNamed 21 = .ok (.checkcast 88, 3) := by decide +kernel
theorem dX5_isNamed_24 : decode cX5_isNamed 24 = .ok (.getfield 97, 3) := by decide +kernel
theorem dX5_isNamed_27 : decode cX5_isNamed 27 = .ok (.lload_n 1, 1) := by decide +kernel
theorem dX5_isNamed_28 : decode cX5_isNamed 28 = .ok (.lcmp, 1) := by decide +kernel
theorem dX5_isNamed_29 : decode cX5_isNamed 29 = .ok (.ifCond .ne 5, 3) := by decide +kernel
theorem dX5_isNamed_32 : decode cX5_isNamed 32 = .ok (.iconst 1, 1) := by decide +kernel
theorem dX5_isNamed_33 : decode cX5_isNamed 33 = .ok (.ireturn, 1) := by decide +kernel
theorem dX5_isNamed_34 : decode cX5_isNamed 34 = .ok (.iinc 3 1, 3) := by decide +kernel
theorem dX5_isNamed_37 : decode cX5_isNamed 37 = .ok (.goto (-35), 3) := by decide +kernel
theorem dX5_isNamed_40 : decode cX5_isNamed 40 = .ok (.iconst 0, 1) := by decide +kernel
theorem dX5_isNamed_41 : decode cX5_isNamed 41 = .ok (.ireturn, 1) := by decide +kernel
theorem dX5_kind_0 : decode cX5_kind 0 = .ok (.aload_n 0, 1) := by decide +kernel
theorem dX5_kind_1 : decode cX5_kind 1 = .ok (.getfield 18, 3) := by decide +kernel
theorem dX5_kind_4 : decode cX5_kind 4 = .ok (.aload_n 0, 1) := by decide +kernel
theorem dX5_kind_5 : decode cX5_kind 5 = .ok (.getfield 12, 3) := by decide +kernel
theorem dX5_kind_8 : decode cX5_kind 8 = .ok (.getfield 56, 3) := by decide +kernel
theorem dX5_kind_11 : decode cX5_kind 11 = .ok (.if_icmp .ge 18, 3) := by decide +kernel
theorem dX5_kind_14 : decode cX5_kind 14 = .ok (.aload_n 0, 1) := by decide +kernel
theorem dX5_kind_15 : decode cX5_kind 15 = .ok (.getfield 12, 3) := by decide +kernel
theorem dX5_kind_18 : decode cX5_kind 18 = .ok (.getfield 59, 3) := by decide +kernel
theorem dX5_kind_21 : decode cX5_kind 21 = .ok (.aload_n 0, 1) := by decide +kernel
theorem dX5_kind_22 : decode cX5_kind 22 = .ok (.getfield 18, 3) := by decide +kernel
theorem dX5_kind_25 : decode cX5_kind 25 = .ok (.iaload, 1) := by decide +kernel
theorem dX5_kind_26 : decode cX5_kind 26 = .ok (.goto 4, 3) := by decide +kernel
theorem dX5_kind_29 : decode cX5_kind 29 = .ok (.iconst 0, 1) := by decide +kernel
theorem dX5_kind_30 : decode cX5_kind 30 = .ok (.ireturn, 1) := by decide +kernel
theorem dX5_open_0 : decode cX5_open 0 = .ok (.aload_n 0, 1) := by decide +kernel
theorem dX5_open_1 : decode cX5_open 1 = .ok (.getfield 12, 3) := by decide +kernel
theorem dX5_open_4 : decode cX5_open 4 = .ok (.aload_n 1, 1) := by decide +kernel
theorem dX5_open_5 : decode cX5_open 5 = .ok (.iload_n 2, 1) := by decide +kernel
theorem dX5_open_6 : decode cX5_open 6 = .ok (.invokevirtual 49, 3) := by decide +kernel
theorem dX5_open_9 : decode cX5_open 9 = .ok (.aload_n 0, 1) := by decide +kernel
theorem dX5_open_10 : decode cX5_open 10 = .ok (.iconst 0, 1) := by decide +kernel
theorem dX5_open_11 : decode cX5_open 11 = .ok (.putfield 18, 3) := by decide +kernel
theorem dX5_open_14 : decode cX5_open 14 = .ok (.aload_n 0, 1) := by decide +kernel
theorem dX5_open_15 : decode cX5_open 15 = .ok (.iconst 0, 1) := by decide +kernel
theorem dX5_open_16 : decode cX5_open 16 = .ok (.putfield 26, 3) := by decide +kernel
theorem dX5_open_19 : decode cX5_open 19 = .ok (.aload_n 0, 1) := by decide +kernel
theorem dX5_open_20 : decode cX5_open 20 = .ok (.getfield 39, 3) := by decide +kernel
theorem dX5_open_23 : decode cX5_open 23 = .ok (.invokevirtual 53, 3) := by decide +kernel
theorem dX5_open_26 : decode cX5_open 26 = .ok (.aload_n 0, 1) := by decide +kernel
theorem dX5_open_27 : decode cX5_open 27 = .ok (.iconst 0, 1) := by decide +kernel
theorem dX5_open_28 : decode cX5_open 28 = .ok (.putfield 43, 3) := by decide +kernel
theorem dX5_open_31 : decode cX5_open 31 = .ok (.aload_n 0, 1) := by decide +kernel
theorem dX5_open_32 : decode cX5_open 32 = .ok (.iconst (-1), 1) := by decide +kernel
theorem dX5_open_33 : decode cX5_open 33 = .ok (.putfield 46, 3) := by decide +kernel
theorem dX5_open_36 : decode cX5_open 36 = .ok (.return_, 1) := by decide +kernel
theorem dX5_readAct_0 : decode cX5_readAct 0 = .ok (.aload_n 0, 1) := by decide +kernel
theorem dX5_readAct_1 : decode cX5_readAct 1 = .ok (.getfield 39, 3) := by decide +kernel
theorem dX5_readAct_4 : decode cX5_readAct 4 = .ok (.invokevirtual 85, 3) := by decide +kernel
theorem dX5_readAct_7 : decode cX5_readAct 7 = .ok (.bipush 6, 2) := by decide +kernel
theorem dX5_readAct_9 : decode cX5_readAct 9 = .ok (.if_icmp .lt 9, 3) := by decide +kernel
theorem dX5_readAct_12 : decode cX5_readAct 12 = .ok (.aload_n 0, 1) := by decide +kernel
theorem dX5_readAct_13 : decode cX5_readAct 13 = .ok (.iconst 3, 1) := by decide +kernel
theorem dX5_readAct_14 : decode cX5_readAct 14 = .ok (.invokevirtual 70, 3) := by decide +kernel
theorem dX5_readAct_17 : decode cX5_readAct 17 = .ok (.ireturn, 1) := by decide +kernel
theorem dX5_readAct_18 : decode cX5_readAct 18 = .ok (.aload_n 0, 1) := by decide +kernel
theorem dX5_readAct_19 : decode cX5_readAct 19 = .ok (.dup, 1) := by decide +kernel
theorem dX5_readAct_20 : decode cX5_readAct 20 = .ok (.getfield 18, 3) := by decide +kernel
theorem dX5_readAct_23 : decode cX5_readAct 23 = .ok (.iconst 1, 1) := by decide +kernel
theorem dX5_readAct_24 : decode cX5_readAct 24 = .ok (.iadd, 1) := by decide +kernel
theorem dX5_readAct_25 : decode cX5_readAct 25 = .ok (.putfield 18, 3) := by decide +kernel
theorem dX5_readAct_28 : decode cX5_readAct 28 = .ok (.aload_n 0, 1) := by decide +kernel
theorem dX5_readAct_29 : decode cX5_readAct 29 = .ok (.invokevirtual 66, 3) := by decide +kernel
theorem dX5_readAct_32 : decode cX5_readAct 32 = .ok (.iconst 3, 1) := by decide +kernel
theorem dX5_readAct_33 : decode cX5_readAct 33 = .ok (.if_icmp .eq 9, 3) := by decide +kernel
theorem dX5_readAct_36 : decode cX5_readAct 36 = .ok (.aload_n 0, 1) := by decide +kernel
theorem dX5_readAct_37 : decode cX5_readAct 37 = .ok (.iconst 1, 1) := by decide +kernel
theorem dX5_readAct_38 : decode cX5_readAct 38 = .ok (.invokevirtual 70, 3) := by decide +kernel
theorem dX5_readAct_41 : decode cX5_readAct 41 = .ok (.ireturn, 1) := by decide +kernel
theorem dX5_readAct_42 : decode cX5_readAct 42 = .ok (.new 88, 3) := by decide +kernel
theorem dX5_readAct_45 : decode cX5_readAct 45 = .ok (.dup, 1) := by decide +kernel
theorem dX5_readAct_46 : decode cX5_readAct 46 = .ok (.aload_n 0, 1) := by decide +kernel
theorem dX5_readAct_47 : decode cX5_readAct 47 = .ok (.invokevirtual 90, 3) := by decide +kernel
theorem dX5_readAct_50 : decode cX5_readAct 50 = .ok (.invokespecial 94, 3) := by decide +kernel
theorem dX5_readAct_53 : decode cX5_readAct 53 = .ok (.astore_n 1, 1) := by decide +kernel
theorem dX5_readAct_54 : decode cX5_readAct 54 = .ok (.aload_n 0, 1) := by decide +kernel
theorem dX5_readAct_55 : decode cX5_readAct 55 = .ok (.aload_n 1, 1) := by decide +kernel
theorem dX5_readAct_56 : decode cX5_readAct 56 = .ok (.getfield 97, 3) := by decide +kernel
theorem dX5_readAct_59 : decode cX5_readAct 59 = .ok (.invokevirtual 101, 3) := by decide +kernel
theorem dX5_readAct_62 : decode cX5_readAct 62 = .ok (.ifCond .eq 9, 3) := by decide +kernel
theorem dX5_readAct_65 : decode cX5_readAct 65 = .ok (.aload_n 0, 1) := by decide +kernel
theorem dX5_readAct_66 : decode cX5_readAct 66 = .ok (.iconst 2, 1) := by decide +kernel
theorem dX5_readAct_67 : decode cX5_readAct 67 = .ok (.invokevirtual 70, 3) := by decide +kernel
theorem dX5_readAct_70 : decode cX5_readAct 70 = .ok (.ireturn, 1) := by decide +kernel
theorem dX5_readAct_71 : decode cX5_readAct 71 = .ok (.aload_n 0, 1) := by decide +kernel
theorem dX5_readAct_72 : decode cX5_readAct 72 = .ok (.dup, 1) := by decide +kernel
theorem dX5_readAct_73 : decode cX5_readAct 73 = .ok (.getfield 18, 3) := by decide +kernel
theorem dX5_readAct_76 : decode cX5_readAct 76 = .ok (.iconst 1, 1) := by decide +kernel
theorem dX5_readAct_77 : decode cX5_readAct 77 = .ok (.iadd, 1) := by decide +kernel
theorem dX5_readAct_78 : decode cX5_readAct 78 = .ok (.putfield 18, 3) := by decide +kernel
theorem dX5_readAct_81 : decode cX5_readAct 81 = .ok (.aload_n 0, 1) := by decide +kernel
theorem dX5_readAct_82 : decode cX5_readAct 82 = .ok (.iconst 0, 1) := by decide +kernel
theorem dX5_readAct_83 : decode cX5_readAct 83 = .ok (.putfield 29, 3) := by decide +kernel
theorem dX5_readAct_86 : decode cX5_readAct 86 = .ok (.aload_n 0, 1) := by decide +kernel
theorem dX5_readAct_87 : decode cX5_readAct 87 = .ok (.iconst 0, 1) := by decide +kernel
theorem dX5_readAct_88 : decode cX5_readAct 88 = .ok (.putfield 33, 3) := by decide +kernel
theorem dX5_readAct_91 : decode cX5_readAct 91 = .ok (.iconst 0, 1) := by decide +kernel
theorem dX5_readAct_92 : decode cX5_readAct 92 = .ok (.istore_n 2, 1) := by decide +kernel
theorem dX5_readAct_93 : decode cX5_readAct 93 = .ok (.iload_n 2, 1) := by decide +kernel
theorem dX5_readAct_94 : decode cX5_readAct 94 = .ok (.bipush 10, 2) := by decide +kernel
theorem dX5_readAct_96 : decode cX5_readAct 96 = .ok (.if_icmp .gt 92, 3) := by decide +kernel
theorem dX5_readAct_99 : decode cX5_readAct 99 = .ok (.aload_n 0, 1) := by decide +kernel
theorem dX5_readAct_100 : decode cX5_readAct 100 = .ok (.invokevirtual 66, 3) := by decide +kernel
theorem dX5_readAct_103 : decode cX5_readAct 103 = .ok (.bipush 23, 2) := by decide +kernel
theorem dX5_readAct_105 : decode cX5_readAct 105 = .ok (.if_icmp .eq 83, 3) := by decide +kernel
theorem dX5_readAct_108 : decode cX5_readAct 108 = .ok (.aload_n 0, 1) := by decide +kernel
theorem dX5_readAct_109 : decode cX5_readAct 109 = .ok (.invokevirtual 66, 3) := by decide +kernel
theorem dX5_readAct_112 : decode cX5_readAct 112 = .ok (.iconst 5, 1) := by decide +kernel
theorem dX5_readAct_113 : decode cX5_readAct 113 = .ok (.if_icmp .eq 13, 3) := by decide +kernel
theorem dX5_readAct_116 : decode cX5_readAct 116 = .ok (.aload_n 0, 1) := by decide +kernel
theorem dX5_readAct_117 : decode cX5_readAct 117 = .ok (.aload_n 1, 1) := by decide +kernel
theorem dX5_readAct_118 : decode cX5_readAct 118 = .ok (.invokevirtual 105, 3) := by decide +kernel
theorem dX5_readAct_121 : decode cX5_readAct 121 = .ok (.ifCond .ne 61, 3) := by decide +kernel
theorem dX5_readAct_124 : decode cX5_readAct 124 = .ok (.iconst 0, 1) := by decide +kernel
theorem dX5_readAct_125 : decode cX5_readAct 125 = .ok (.ireturn, 1) := by decide +kernel
theorem dX5_readAct_126 : decode cX5_readAct 126 = .ok (.aload_n 1, 1) := by decide +kernel
theorem dX5_readAct_127 : decode cX5_readAct 127 = .ok (.getfield 109, 3) := by decide +kernel
theorem dX5_readAct_130 : decode cX5_readAct 130 = .ok (.invokevirtual 85, 3) := by decide +kernel
theorem dX5_readAct_133 : decode cX5_readAct 133 = .ok (.iconst 4, 1) := by decide +kernel
theorem dX5_readAct_134 : decode cX5_readAct 134 = .ok (.if_icmp .lt 9, 3) := by decide +kernel
theorem dX5_readAct_137 : decode cX5_readAct 137 = .ok (.aload_n 0, 1) := by decide +kernel
theorem dX5_readAct_138 : decode cX5_readAct 138 = .ok (.iconst 3, 1) := by decide +kernel
theorem dX5_readAct_139 : decode cX5_readAct 139 = .ok (.invokevirtual 70, 3) := by decide +kernel
theorem dX5_readAct_142 : decode cX5_readAct 142 = .ok (.ireturn, 1) := by decide +kernel
theorem dX5_readAct_143 : decode cX5_readAct 143 = .ok (.aload_n 0, 1) := by decide +kernel
theorem dX5_readAct_144 : decode cX5_readAct 144 = .ok (.dup, 1) := by decide +kernel
theorem dX5_readAct_145 : decode cX5_readAct 145 = .ok (.getfield 18, 3) := by decide +kernel
theorem dX5_readAct_148 : decode cX5_readAct 148 = .ok (.iconst 1, 1) := by decide +kernel
theorem dX5_readAct_149 : decode cX5_readAct 149 = .ok (.iadd, 1) := by decide +kernel
theorem dX5_readAct_150 : decode cX5_readAct 150 = .ok (.putfield 18, 3) := by decide +kernel
theorem dX5_readAct_153 : decode cX5_readAct 153 = .ok (.aload_n 0, 1) := by decide +kernel
theorem dX5_readAct_154 : decode cX5_readAct 154 = .ok (.iconst 0, 1) := by decide +kernel
theorem dX5_readAct_155 : decode cX5_readAct 155 = .ok (.putfield 26, 3) := by decide +kernel
theorem dX5_readAct_158 : decode cX5_readAct 158 = .ok (.aload_n 0, 1) := by decide +kernel
theorem dX5_readAct_159 : decode cX5_readAct 159 = .ok (.iconst 0, 1) := by decide +kernel
theorem dX5_readAct_160 : decode cX5_readAct 160 = .ok (.invokevirtual 112, 3) := by decide +kernel
theorem dX5_readAct_163 : decode cX5_readAct 163 = .ok (.ifCond .ne 5, 3) := by decide +kernel
theorem dX5_readAct_166 : decode cX5_readAct 166 = .ok (.iconst 0, 1) := by decide +kernel
theorem dX5_readAct_167 : decode cX5_readAct 167 = .ok (.ireturn, 1) := by decide +kernel
theorem dX5_readAct_168 : decode cX5_readAct 168 = .ok (.aload_n 1, 1) := by decide +kernel
theorem dX5_readAct_169 : decode cX5_readAct 169 = .ok (.getfield 109, 3) := by decide +kernel
theorem dX5_readAct_172 : decode cX5_readAct 172 = .ok (.aload_n 0, 1) := by decide +kernel
theorem dX5_readAct_173 : decode cX5_readAct 173 = .ok (.iconst 5, 1) := by decide +kernel
theorem dX5_readAct_174 : decode cX5_readAct 174 = .ok (.iconst 0, 1) := by decide +kernel
theorem dX5_readAct_175 : decode cX5_readAct 175 = .ok (.invokevirtual 115, 3) := by decide +kernel
theorem dX5_readAct_178 : decode cX5_readAct 178 = .ok (.invokevirtual 119, 3) := by decide +kernel
theorem dX5_readAct_181 : decode cX5_readAct 181 = .ok (.pop, 1) := by decide +kernel
theorem dX5_readAct_182 : decode cX5_readAct 182 = .ok (.iinc 2 1, 3) := by decide +kernel
theorem dX5_readAct_185 : decode cX5_readAct 185 = .ok (.goto (-92), 3) := by decide +kernel
theorem dX5_readAct_188 : decode cX5_readAct 188 = .ok (.aload_n 0, 1) := by decide +kernel
theorem dX5_readAct_189 : decode cX5_readAct 189 = .ok (.dup, 1) := by decide +kernel
theorem dX5_readAct_190 : decode cX5_readAct 190 = .ok (.getfield 18, 3) := by decide +kernel
theorem dX5_readAct_193 : decode cX5_readAct 193 = .ok (.iconst 1, 1) := by decide +kernel
theorem dX5_readAct_194 : decode cX5_readAct 194 = .ok (.iadd, 1) := by decide +kernel
theorem dX5_readAct_195 : decode cX5_readAct 195 = .ok (.putfield 18, 3) := by decide +kernel
theorem dX5_readAct_198 : decode cX5_readAct 198 = .ok (.aload_n 1, 1) := by decide +kernel
theorem dX5_readAct_199 : decode cX5_readAct 199 = .ok (.aload_n 0, 1) := by decide +kernel
theorem dX5_readAct_200 : decode cX5_readAct 200 = .ok (.getfield 29, 3) := by decide +kernel
theorem dX5_readAct_203 : decode cX5_readAct 203 = .ok (.putfield 123, 3) := by decide +kernel
theorem dX5_readAct_206 : decode cX5_readAct 206 = .ok (.aload_n 1, 1) := by decide +kernel
theorem dX5_readAct_207 : decode cX5_readAct 207 = .ok (.aload_n 0, 1) := by decide +kernel
theorem dX5_readAct_208 : decode cX5_readAct 208 = .ok (.getfield 33, 3) := by decide +kernel
theorem dX5_readAct_211 : decode cX5_readAct 211 = .ok (.putfield 126, 3) := by decide +kernel
theorem dX5_readAct_214 : decode cX5_readAct 214 = .ok (.aload_n 0, 1) := by decide +kernel
theorem dX5_readAct_215 : decode cX5_readAct 215 = .ok (.getfield 39, 3) := by decide +kernel
theorem dX5_readAct_218 : decode cX5_readAct 218 = .ok (.aload_n 1, 1) := by decide +kernel
theorem dX5_readAct_219 : decode cX5_readAct 219 = .ok (.invokevirtual 119, 3) := by decide +kernel
theorem dX5_readAct_222 : decode cX5_readAct 222 = .ok (.pop, 1) := by decide +kernel
theorem dX5_readAct_223 : decode cX5_readAct 223 = .ok (.iconst 1, 1) := by decide +kernel
theorem dX5_readAct_224 : decode cX5_readAct 224 = .ok (.ireturn, 1) := by decide +kernel
theorem dX5_readAmount_0 : decode cX5_readAmount 0 = .ok (.iload_n 1, 1) := by decide +kernel
theorem dX5_readAmount_1 : decode cX5_readAmount 1 = .ok (.ifCond .eq 16, 3) := by decide +kernel
theorem dX5_readAmount_4 : decode cX5_readAmount 4 = .ok (.aload_n 0, 1) := by decide +kernel
theorem dX5_readAmount_5 : decode cX5_readAmount 5 = .ok (.invokevirtual 66, 3) := by decide +kernel
theorem dX5_readAmount_8 : decode cX5_readAmount 8 = .ok (.bipush 25, 2) := by decide +kernel
theorem dX5_readAmount_10 : decode cX5_readAmount 10 = .ok (.if_icmp .ne 7, 3) := by decide +kernel
theorem dX5_readAmount_13 : decode cX5_readAmount 13 = .ok (.iconst 1, 1) := by decide +kernel
theorem dX5_readAmount_14 : decode cX5_readAmount 14 = .ok (.goto 4, 3) := by decide +kernel
theorem dX5_readAmount_17 : decode cX5_readAmount 17 = .ok (.iconst 0, 1) := by decide +kernel
theorem dX5_readAmount_18 : decode cX5_readAmount 18 = .ok (.istore_n 2, 1) := by decide +kernel
theorem dX5_readAmount_19 : decode cX5_readAmount 19 = .ok (.aload_n 0, 1) := by decide +kernel
theorem dX5_readAmount_20 : decode cX5_readAmount 20 = .ok (.invokevirtual 66, 3) := by decide +kernel
theorem dX5_readAmount_23 : decode cX5_readAmount 23 = .ok (.bipush 24, 2) := by decide +kernel
theorem dX5_readAmount_25 : decode cX5_readAmount 25 = .ok (.if_icmp .eq 13, 3) := by decide +kernel
theorem dX5_readAmount_28 : decode cX5_readAmount 28 = .ok (.iload_n 2, 1) := by decide +kernel
theorem dX5_readAmount_29 : decode cX5_readAmount 29 = .ok (.ifCond .ne 9, 3) := by decide +kernel
theorem dX5_readAmount_32 : decode cX5_readAmount 32 = .ok (.aload_n 0, 1) := by decide +kernel
theorem dX5_readAmount_33 : decode cX5_readAmount 33 = .ok (.iconst 1, 1) := by decide +kernel
theorem dX5_readAmount_34 : decode cX5_readAmount 34 = .ok (.invokevirtual 70, 3) := by decide +kernel
theorem dX5_readAmount_37 : decode cX5_readAmount 37 = .ok (.ireturn, 1) := by decide +kernel
theorem dX5_readAmount_38 : decode cX5_readAmount 38 = .ok (.aload_n 0, 1) := by decide +kernel
theorem dX5_readAmount_39 : decode cX5_readAmount 39 = .ok (.dup, 1) := by decide +kernel
theorem dX5_readAmount_40 : decode cX5_readAmount 40 = .ok (.getfield 18, 3) := by decide +kernel
theorem dX5_readAmount_43 : decode cX5_readAmount 43 = .ok (.iconst 1, 1) := by decide +kernel
theorem dX5_readAmount_44 : decode cX5_readAmount 44 = .ok (.iadd, 1) := by decide +kernel
theorem dX5_readAmount_45 : decode cX5_readAmount 45 = .ok (.putfield 18, 3) := by decide +kernel
theorem dX5_readAmount_48 : decode cX5_readAmount 48 = .ok (.iload_n 2, 1) := by decide +kernel
theorem dX5_readAmount_49 : decode cX5_readAmount 49 = .ok (.ifCond .eq 9, 3) := by decide +kernel
theorem dX5_readAmount_52 : decode cX5_readAmount 52 = .ok (.aload_n 0, 1) := by decide +kernel
theorem dX5_readAmount_53 : decode cX5_readAmount 53 = .ok (.iconst 2, 1) := by decide +kernel
theorem dX5_readAmount_54 : decode cX5_readAmount 54 = .ok (.iconst 0, 1) := by decide +kernel
theorem dX5_readAmount_55 : decode cX5_readAmount 55 = .ok (.invokevirtual 147, 3) := by decide +kernel
theorem dX5_readAmount_58 : decode cX5_readAmount 58 = .ok (.aload_n 0, 1) := by decide +kernel
theorem dX5_readAmount_59 : decode cX5_readAmount 59 = .ok (.invokevirtual 151, 3) := by decide +kernel
theorem dX5_readAmount_62 : decode cX5_readAmount 62 = .ok (.ifCond .ne 5, 3) := by decide +kernel
theorem dX5_readAmount_65 : decode cX5_readAmount 65 = .ok (.iconst 0, 1) := by decide +kernel
theorem dX5_readAmount_66 : decode cX5_readAmount 66 = .ok (.ireturn, 1) := by decide +kernel
theorem dX5_readAmount_67 : decode cX5_readAmount 67 = .ok (.iload_n 2, 1) := by decide +kernel
theorem dX5_readAmount_68 : decode cX5_readAmount 68 = .ok (.ifCond .eq 10, 3) := by decide +kernel
theorem dX5_readAmount_71 : decode cX5_readAmount 71 = .ok (.aload_n 0, 1) := by decide +kernel
theorem dX5_readAmount_72 : decode cX5_readAmount 72 = .ok (.bipush 25, 2) := by decide +kernel
theorem dX5_readAmount_74 : decode cX5_readAmount 74 = .ok (.iconst 0, 1) := by decide +kernel
theorem dX5_readAmount_75 : decode cX5_readAmount 75 = .ok (.invokevirtual 147, 3) := by decide +kernel
theorem dX5_readAmount_78 : decode cX5_readAmount 78 = .ok (.iconst 1, 1) := by decide +kernel
theorem dX5_readAmount_79 : decode cX5_readAmount 79 = .ok (.ireturn, 1) := by decide +kernel
theorem dX5_readChanged_0 : decode cX5_readChanged 0 = .ok (.iload_n 1, 1) := by decide +kernel
theorem dX5_readChanged_1 : decode cX5_readChanged 1 = .ok (.tableswitch 133 7 14 #[101, 117, 59, 133, 117, 117, 117, 47], 47) := by decide +kernel
theorem dX5_readChanged_48 : decode cX5_readChanged 48 = .ok (.aload_n 0, 1) := by decide +kernel
theorem dX5_readChanged_49 : decode cX5_readChanged 49 = .ok (.dup, 1) := by decide +kernel
theorem dX5_readChanged_50 : decode cX5_readChanged 50 = .ok (.getfield 18, 3) := by decide +kernel
theorem dX5_readChanged_53 : decode cX5_readChanged 53 = .ok (.iconst 1, 1) := by decide +kernel
theorem dX5_readChanged_54 : decode cX5_readChanged 54 = .ok (.iadd, 1) := by decide +kernel
theorem dX5_readChanged_55 : decode cX5_readChanged 55 = .ok (.putfield 18, 3) := by decide +kernel
theorem dX5_readChanged_58 : decode cX5_readChanged 58 = .ok (.iconst 0, 1) := by decide +kernel
theorem dX5_readChanged_59 : decode cX5_readChanged 59 = .ok (.ireturn, 1) := by decide +kernel
theorem dX5_readChanged_60 : decode cX5_readChanged 60 = .ok (.aload_n 0, 1) := by decide +kernel
theorem dX5_readChanged_61 : decode cX5_readChanged 61 = .ok (.dup, 1) := by decide +kernel
theorem dX5_readChanged_62 : decode cX5_readChanged 62 = .ok (.getfield 18, 3) := by decide +kernel
theorem dX5_readChanged_65 : decode cX5_readChanged 65 = .ok (.iconst 1, 1) := by decide +kernel
theorem dX5_readChanged_66 : decode cX5_readChanged 66 = .ok (.iadd, 1) := by decide +kernel
theorem dX5_readChanged_67 : decode cX5_readChanged 67 = .ok (.putfield 18, 3) := by decide +kernel
theorem dX5_readChanged_70 : decode cX5_readChanged 70 = .ok (.aload_n 0, 1) := by decide +kernel
theorem dX5_readChanged_71 : decode cX5_readChanged 71 = .ok (.iconst 1, 1) := by decide +kernel
theorem dX5_readChanged_72 : decode cX5_readChanged 72 = .ok (.putfield 33, 3) := by decide +kernel
theorem dX5_readChanged_75 : decode cX5_readChanged 75 = .ok (.aload_n 0, 1) := by decide +kernel
theorem dX5_readChanged_76 : decode cX5_readChanged 76 = .ok (.invokevirtual 66, 3) := by decide +kernel
theorem dX5_readChanged_79 : decode cX5_readChanged 79 = .ok (.bipush 10, 2) := by decide +kernel
theorem dX5_readChanged_81 : decode cX5_readChanged 81 = .ok (.if_icmp .ne 15, 3) := by decide +kernel
theorem dX5_readChanged_84 : decode cX5_readChanged 84 = .ok (.aload_n 0, 1) := by decide +kernel
theorem dX5_readChanged_85 : decode cX5_readChanged 85 = .ok (.dup, 1) := by decide +kernel
theorem dX5_readChanged_86 : decode cX5_readChanged 86 = .ok (.getfield 18, 3) := by decide +kernel
theorem dX5_readChanged_89 : decode cX5_readChanged 89 = .ok (.iconst 1, 1) := by decide +kernel
theorem dX5_readChanged_90 : decode cX5_readChanged 90 = .ok (.iadd, 1) := by decide +kernel
theorem dX5_readChanged_91 : decode cX5_readChanged 91 = .ok (.putfield 18, 3) := by decide +kernel
theorem dX5_readChanged_94 : decode cX5_readChanged 94 = .ok (.iconst 2, 1) := by decide +kernel
theorem dX5_readChanged_95 : decode cX5_readChanged 95 = .ok (.ireturn, 1) := by decide +kernel
theorem dX5_readChanged_96 : decode cX5_readChanged 96 = .ok (.aload_n 0, 1) := by decide +kernel
theorem dX5_readChanged_97 : decode cX5_readChanged 97 = .ok (.iconst 1, 1) := by decide +kernel
theorem dX5_readChanged_98 : decode cX5_readChanged 98 = .ok (.invokevirtual 144, 3) := by decide +kernel
theorem dX5_readChanged_101 : decode cX5_readChanged 101 = .ok (.ireturn, 1) := by decide +kernel
theorem dX5_readChanged_102 : decode cX5_readChanged 102 = .ok (.aload_n 0, 1) := by decide +kernel
theorem dX5_readChanged_103 : decode cX5_readChanged 103 = .ok (.dup, 1) := by decide +kernel
theorem dX5_readChanged_104 : decode cX5_readChanged 104 = .ok (.getfield 18, 3) := by decide +kernel
theorem dX5_readChanged_107 : decode cX5_readChanged 107 = .ok (.iconst 1, 1) := by decide +kernel
theorem dX5_readChanged_108 : decode cX5_readChanged 108 = .ok (.iadd, 1) := by decide +kernel
theorem dX5_readChanged_109 : decode cX5_readChanged 109 = .ok (.putfield 18, 3) := by decide +kernel
theorem dX5_readChanged_112 : decode cX5_readChanged 112 = .ok (.aload_n 0, 1) := by decide +kernel
theorem dX5_readChanged_113 : decode cX5_readChanged 113 = .ok (.iconst 1, 1) := by decide +kernel
theorem dX5_readChanged_114 : decode cX5_readChanged 114 = .ok (.invokevirtual 144, 3) := by decide +kernel
theorem dX5_readChanged_117 : decode cX5_readChanged 117 = .ok (.ireturn, 1) := by decide +kernel
theorem dX5_readChanged_118 : decode cX5_readChanged 118 = .ok (.aload_n 0, 1) := by decide +kernel
theorem dX5_readChanged_119 : decode cX5_readChanged 119 = .ok (.dup, 1) := by decide +kernel
theorem dX5_readChanged_120 : decode cX5_readChanged 120 = .ok (.getfield 18, 3) := by decide +kernel
theorem dX5_readChanged_123 : decode cX5_readChanged 123 = .ok (.iconst 1, 1) := by decide +kernel
theorem dX5_readChanged_124 : decode cX5_readChanged 124 = .ok (.iadd, 1) := by decide +kernel
theorem dX5_readChanged_125 : decode cX5_readChanged 125 = .ok (.putfield 18, 3) := by decide +kernel
theorem dX5_readChanged_128 : decode cX5_readChanged 128 = .ok (.aload_n 0, 1) := by decide +kernel
theorem dX5_readChanged_129 : decode cX5_readChanged 129 = .ok (.iconst 2, 1) := by decide +kernel
theorem dX5_readChanged_130 : decode cX5_readChanged 130 = .ok (.invokevirtual 144, 3) := by decide +kernel
theorem dX5_readChanged_133 : decode cX5_readChanged 133 = .ok (.ireturn, 1) := by decide +kernel
theorem dX5_readChanged_134 : decode cX5_readChanged 134 = .ok (.aload_n 0, 1) := by decide +kernel
theorem dX5_readChanged_135 : decode cX5_readChanged 135 = .ok (.iconst 1, 1) := by decide +kernel
theorem dX5_readChanged_136 : decode cX5_readChanged 136 = .ok (.invokevirtual 70, 3) := by decide +kernel
theorem dX5_readChanged_139 : decode cX5_readChanged 139 = .ok (.pop, 1) := by decide +kernel
theorem dX5_readChanged_140 : decode cX5_readChanged 140 = .ok (.iconst (-1), 1) := by decide +kernel
theorem dX5_readChanged_141 : decode cX5_readChanged 141 = .ok (.ireturn, 1) := by decide +kernel
theorem dX5_readClaim_0 : decode cX5_readClaim 0 = .ok (.aload_n 0, 1) := by decide +kernel
theorem dX5_readClaim_1 : decode cX5_readClaim 1 = .ok (.invokevirtual 66, 3) := by decide +kernel
theorem dX5_readClaim_4 : decode cX5_readClaim 4 = .ok (.istore_n 2, 1) := by decide +kernel
theorem dX5_readClaim_5 : decode cX5_readClaim 5 = .ok (.iload_n 2, 1) := by decide +kernel
theorem dX5_readClaim_6 : decode cX5_readClaim 6 = .ok (.bipush 17, 2) := by decide +kernel
theorem dX5_readClaim_8 : decode cX5_readClaim 8 = .ok (.if_icmp .eq 9, 3) := by decide +kernel
theorem dX5_readClaim_11 : decode cX5_readClaim 11 = .ok (.iload_n 2, 1) := by decide +kernel
theorem dX5_readClaim_12 : decode cX5_readClaim 12 = .ok (.bipush 27, 2) := by decide +kernel
theorem dX5_readClaim_14 : decode cX5_readClaim 14 = .ok (.if_icmp .ne 26, 3) := by decide +kernel
theorem dX5_readClaim_17 : decode cX5_readClaim 17 = .ok (.iload_n 1, 1) := by decide +kernel
theorem dX5_readClaim_18 : decode cX5_readClaim 18 = .ok (.bipush 8, 2) := by decide +kernel
theorem dX5_readClaim_20 : decode cX5_readClaim 20 = .ok (.if_icmp .ge 14, 3) := by decide +kernel
theorem dX5_readClaim_23 : decode cX5_readClaim 23 = .ok (.aload_n 0, 1) := by decide +kernel
theorem dX5_readClaim_24 : decode cX5_readClaim 24 = .ok (.iload_n 2, 1) := by decide +kernel
theorem dX5_readClaim_25 : decode cX5_readClaim 25 = .ok (.iload_n 1, 1) := by decide +kernel
theorem dX5_readClaim_26 : decode cX5_readClaim 26 = .ok (.iconst 1, 1) := by decide +kernel
theorem dX5_readClaim_27 : decode cX5_readClaim 27 = .ok (.iadd, 1) := by decide +kernel
theorem dX5_readClaim_28 : decode cX5_readClaim 28 = .ok (.invokevirtual 161, 3) := by decide +kernel
theorem dX5_readClaim_31 : decode cX5_readClaim 31 = .ok (.goto 8, 3) := by decide +kernel
theorem dX5_readClaim_34 : decode cX5_readClaim 34 = .ok (.aload_n 0, 1) := by decide +kernel
theorem dX5_readClaim_35 : decode cX5_readClaim 35 = .ok (.iconst 3, 1) := by decide +kernel
theorem dX5_readClaim_36 : decode cX5_readClaim 36 = .ok (.invokevirtual 70, 3) := by decide +kernel
theorem dX5_readClaim_39 : decode cX5_readClaim 39 = .ok (.ireturn, 1) := by decide +kernel
theorem dX5_readClaim_40 : decode cX5_readClaim 40 = .ok (.aload_n 0, 1) := by decide +kernel
theorem dX5_readClaim_41 : decode cX5_readClaim 41 = .ok (.invokevirtual 151, 3) := by decide +kernel
theorem dX5_readClaim_44 : decode cX5_readClaim 44 = .ok (.ifCond .ne 5, 3) := by decide +kernel
theorem dX5_readClaim_47 : decode cX5_readClaim 47 = .ok (.iconst 0, 1) := by decide +kernel
theorem dX5_readClaim_48 : decode cX5_readClaim 48 = .ok (.ireturn, 1) := by decide +kernel
theorem dX5_readClaim_49 : decode cX5_readClaim 49 = .ok (.aload_n 0, 1) := by decide +kernel
theorem dX5_readClaim_50 : decode cX5_readClaim 50 = .ok (.invokevirtual 66, 3) := by decide +kernel
theorem dX5_readClaim_53 : decode cX5_readClaim 53 = .ok (.istore_n 3, 1) := by decide +kernel
theorem dX5_readClaim_54 : decode cX5_readClaim 54 = .ok (.iload_n 3, 1) := by decide +kernel
theorem dX5_readClaim_55 : decode cX5_readClaim 55 = .ok (.bipush 29, 2) := by decide +kernel
theorem dX5_readClaim_57 : decode cX5_readClaim 57 = .ok (.if_icmp .eq 21, 3) := by decide +kernel
theorem dX5_readClaim_60 : decode cX5_readClaim 60 = .ok (.iload_n 3, 1) := by decide +kernel
theorem dX5_readClaim_61 : decode cX5_readClaim 61 = .ok (.bipush 30, 2) := by decide +kernel
theorem dX5_readClaim_63 : decode cX5_readClaim 63 = .ok (.if_icmp .eq 15, 3) := by decide +kernel
theorem dX5_readClaim_66 : decode cX5_readClaim 66 = .ok (.iload_n 3, 1) := by decide +kernel
theorem dX5_readClaim_67 : decode cX5_readClaim 67 = .ok (.bipush 31, 2) := by decide +kernel
theorem dX5_readClaim_69 : decode cX5_readClaim 69 = .ok (.if_icmp .eq 9, 3) := by decide +kernel
theorem dX5_readClaim_72 : decode cX5_readClaim 72 = .ok (.aload_n 0, 1) := by decide +kernel
theorem dX5_readClaim_73 : decode cX5_readClaim 73 = .ok (.iconst 1, 1) := by decide +kernel
theorem dX5_readClaim_74 : decode cX5_readClaim 74 = .ok (.invokevirtual 70, 3) := by decide +kernel
theorem dX5_readClaim_77 : decode cX5_readClaim 77 = .ok (.ireturn, 1) := by decide +kernel
theorem dX5_readClaim_78 : decode cX5_readClaim 78 = .ok (.aload_n 0, 1) := by decide +kernel
theorem dX5_readClaim_79 : decode cX5_readClaim 79 = .ok (.dup, 1) := by decide +kernel
theorem dX5_readClaim_80 : decode cX5_readClaim 80 = .ok (.getfield 18, 3) := by decide +kernel
theorem dX5_readClaim_83 : decode cX5_readClaim 83 = .ok (.iconst 1, 1) := by decide +kernel
theorem dX5_readClaim_84 : decode cX5_readClaim 84 = .ok (.iadd, 1) := by decide +kernel
theorem dX5_readClaim_85 : decode cX5_readClaim 85 = .ok (.putfield 18, 3) := by decide +kernel
theorem dX5_readClaim_88 : decode cX5_readClaim 88 = .ok (.aload_n 0, 1) := by decide +kernel
theorem dX5_readClaim_89 : decode cX5_readClaim 89 = .ok (.invokevirtual 151, 3) := by decide +kernel
theorem dX5_readClaim_92 : decode cX5_readClaim 92 = .ok (.ifCond .ne 5, 3) := by decide +kernel
theorem dX5_readClaim_95 : decode cX5_readClaim 95 = .ok (.iconst 0, 1) := by decide +kernel
theorem dX5_readClaim_96 : decode cX5_readClaim 96 = .ok (.ireturn, 1) := by decide +kernel
theorem dX5_readClaim_97 : decode cX5_readClaim 97 = .ok (.aload_n 0, 1) := by decide +kernel
theorem dX5_readClaim_98 : decode cX5_readClaim 98 = .ok (.iload_n 3, 1) := by decide +kernel
theorem dX5_readClaim_99 : decode cX5_readClaim 99 = .ok (.iconst 0, 1) := by decide +kernel
theorem dX5_readClaim_100 : decode cX5_readClaim 100 = .ok (.invokevirtual 147, 3) := by decide +kernel
theorem dX5_readClaim_103 : decode cX5_readClaim 103 = .ok (.iconst 1, 1) := by decide +kernel
theorem dX5_readClaim_104 : decode cX5_readClaim 104 = .ok (.ireturn, 1) := by decide +kernel
theorem dX5_readCondition_0 : decode cX5_readCondition 0 = .ok (.aload_n 0, 1) := by decide +kernel
theorem dX5_readCondition_1 : decode cX5_readCondition 1 = .ok (.iconst 0, 1) := by decide +kernel
theorem dX5_readCondition_2 : decode cX5_readCondition 2 = .ok (.invokevirtual 112, 3) := by decide +kernel
theorem dX5_readCondition_5 : decode cX5_readCondition 5 = .ok (.ifCond .eq 14, 3) := by decide +kernel
theorem dX5_readCondition_8 : decode cX5_readCondition 8 = .ok (.aload_n 0, 1) := by decide +kernel
theorem dX5_readCondition_9 : decode cX5_readCondition 9 = .ok (.invokevirtual 155, 3) := by decide +kernel
theorem dX5_readCondition_12 : decode cX5_readCondition 12 = .ok (.ifCond .eq 7, 3) := by decide +kernel
theorem dX5_readCondition_15 : decode cX5_readCondition 15 = .ok (.iconst 1, 1) := by decide +kernel
theorem dX5_readCondition_16 : decode cX5_readCondition 16 = .ok (.goto 4, 3) := by decide +kernel
theorem dX5_readCondition_19 : decode cX5_readCondition 19 = .ok (.iconst 0, 1) := by decide +kernel
theorem dX5_readCondition_20 : decode cX5_readCondition 20 = .ok (.ireturn, 1) := by decide +kernel
theorem dX5_readEither_0 : decode cX5_readEither 0 = .ok (.aload_n 0, 1) := by decide +kernel
theorem dX5_readEither_1 : decode cX5_readEither 1 = .ok (.iload_n 1, 1) := by decide +kernel
theorem dX5_readEither_2 : decode cX5_readEither 2 = .ok (.invokevirtual 158, 3) := by decide +kernel
theorem dX5_readEither_5 : decode cX5_readEither 5 = .ok (.ifCond .ne 5, 3) := by decide +kernel
theorem dX5_readEither_8 : decode cX5_readEither 8 = .ok (.iconst 0, 1) := by decide +kernel
theorem dX5_readEither_9 : decode cX5_readEither 9 = .ok (.ireturn, 1) := by decide +kernel
theorem dX5_readEither_10 : decode cX5_readEither 10 = .ok (.iconst 0, 1) := by decide +kernel
theorem dX5_readEither_11 : decode cX5_readEither 11 = .ok (.istore_n 2, 1) := by decide +kernel
theorem dX5_readEither_12 : decode cX5_readEither 12 = .ok (.iconst 0, 1) := by decide +kernel
theorem dX5_readEither_13 : decode cX5_readEither 13 = .ok (.istore_n 3, 1) := by decide +kernel
theorem dX5_readEither_14 : decode cX5_readEither 14 = .ok (.iload_n 3, 1) := by decide +kernel
theorem dX5_readEither_15 : decode cX5_readEither 15 = .ok (.aload_n 0, 1) := by decide +kernel
theorem dX5_readEither_16 : decode cX5_readEither 16 = .ok (.getfield 12, 3) := by decide +kernel
theorem dX5_readEither_19 : decode cX5_readEither 19 = .ok (.getfield 56, 3) := by decide +kernel
theorem dX5_readEither_22 : decode cX5_readEither 22 = .ok (.if_icmp .ge 106, 3) := by decide +kernel
theorem dX5_readEither_25 : decode cX5_readEither 25 = .ok (.aload_n 0, 1) := by decide +kernel
theorem dX5_readEither_26 : decode cX5_readEither 26 = .ok (.invokevirtual 66, 3) := by decide +kernel
theorem dX5_readEither_29 : decode cX5_readEither 29 = .ok (.bipush 16, 2) := by decide +kernel
theorem dX5_readEither_31 : decode cX5_readEither 31 = .ok (.if_icmp .eq 12, 3) := by decide +kernel
theorem dX5_readEither_34 : decode cX5_readEither 34 = .ok (.aload_n 0, 1) := by decide +kernel
theorem dX5_readEither_35 : decode cX5_readEither 35 = .ok (.invokevirtual 66, 3) := by decide +kernel
theorem dX5_readEither_38 : decode cX5_readEither 38 = .ok (.bipush 15, 2) := by decide +kernel
theorem dX5_readEither_40 : decode cX5_readEither 40 = .ok (.if_icmp .ne 88, 3) := by decide +kernel
theorem dX5_readEither_43 : decode cX5_readEither 43 = .ok (.aload_n 0, 1) := by decide +kernel
theorem dX5_readEither_44 : decode cX5_readEither 44 = .ok (.invokevirtual 66, 3) := by decide +kernel
theorem dX5_readEither_47 : decode cX5_readEither 47 = .ok (.bipush 16, 2) := by decide +kernel
theorem dX5_readEither_49 : decode cX5_readEither 49 = .ok (.if_icmp .ne 7, 3) := by decide +kernel
theorem dX5_readEither_52 : decode cX5_readEither 52 = .ok (.iconst 1, 1) := by decide +kernel
theorem dX5_readEither_53 : decode cX5_readEither 53 = .ok (.goto 4, 3) := by decide +kernel
theorem dX5_readEither_56 : decode cX5_readEither 56 = .ok (.iconst 0, 1) := by decide +kernel
theorem dX5_readEither_57 : decode cX5_readEither 57 = .ok (.istore 4, 2) := by decide +kernel
theorem dX5_readEither_59 : decode cX5_readEither 59 = .ok (.aload_n 0, 1) := by decide +kernel
theorem dX5_readEither_60 : decode cX5_readEither 60 = .ok (.dup, 1) := by decide +kernel
theorem dX5_readEither_61 : decode cX5_readEither 61 = .ok (.getfield 18, 3) := by decide +kernel
theorem dX5_readEither_64 : decode cX5_readEither 64 = .ok (.iconst 1, 1) := by decide +kernel
theorem dX5_readEither_65 : decode cX5_readEither 65 = .ok (.iadd, 1) := by decide +kernel
theorem dX5_readEither_66 : decode cX5_readEither 66 = .ok (.putfield 18, 3) := by decide +kernel
theorem dX5_readEither_69 : decode cX5_readEither 69 = .ok (.iload 4, 2) := by decide +kernel
theorem dX5_readEither_71 : decode cX5_readEither 71 = .ok (.ifCond .ne 14, 3) := by decide +kernel
theorem dX5_readEither_74 : decode cX5_readEither 74 = .ok (.iload_n 2, 1) := by decide +kernel
theorem dX5_readEither_75 : decode cX5_readEither 75 = .ok (.ifCond .eq 10, 3) := by decide +kernel
theorem dX5_readEither_78 : decode cX5_readEither 78 = .ok (.aload_n 0, 1) := by decide +kernel
theorem dX5_readEither_79 : decode cX5_readEither 79 = .ok (.bipush 15, 2) := by decide +kernel
theorem dX5_readEither_81 : decode cX5_readEither 81 = .ok (.iconst 0, 1) := by decide +kernel
theorem dX5_readEither_82 : decode cX5_readEither 82 = .ok (.invokevirtual 147, 3) := by decide +kernel
theorem dX5_readEither_85 : decode cX5_readEither 85 = .ok (.iload_n 2, 1) := by decide +kernel
theorem dX5_readEither_86 : decode cX5_readEither 86 = .ok (.ifCond .ne 8, 3) := by decide +kernel
theorem dX5_readEither_89 : decode cX5_readEither 89 = .ok (.iload 4, 2) := by decide +kernel
theorem dX5_readEither_91 : decode cX5_readEither 91 = .ok (.ifCond .ne 7, 3) := by decide +kernel
theorem dX5_readEither_94 : decode cX5_readEither 94 = .ok (.iconst 1, 1) := by decide +kernel
theorem dX5_readEither_95 : decode cX5_readEither 95 = .ok (.goto 4, 3) := by decide +kernel
theorem dX5_readEither_98 : decode cX5_readEither 98 = .ok (.iconst 0, 1) := by decide +kernel
theorem dX5_readEither_99 : decode cX5_readEither 99 = .ok (.istore_n 2, 1) := by decide +kernel
theorem dX5_readEither_100 : decode cX5_readEither 100 = .ok (.aload_n 0, 1) := by decide +kernel
theorem dX5_readEither_101 : decode cX5_readEither 101 = .ok (.iload_n 1, 1) := by decide +kernel
theorem dX5_readEither_102 : decode cX5_readEither 102 = .ok (.invokevirtual 158, 3) := by decide +kernel
theorem dX5_readEither_105 : decode cX5_readEither 105 = .ok (.ifCond .ne 5, 3) := by decide +kernel
theorem dX5_readEither_108 : decode cX5_readEither 108 = .ok (.iconst 0, 1) := by decide +kernel
theorem dX5_readEither_109 : decode cX5_readEither 109 = .ok (.ireturn, 1) := by decide +kernel
theorem dX5_readEither_110 : decode cX5_readEither 110 = .ok (.iload 4, 2) := by decide +kernel
theorem dX5_readEither_112 : decode cX5_readEither 112 = .ok (.ifCond .eq 10, 3) := by decide +kernel
theorem dX5_readEither_115 : decode cX5_readEither 115 = .ok (.aload_n 0, 1) := by decide +kernel
theorem dX5_readEither_116 : decode cX5_readEither 116 = .ok (.bipush 16, 2) := by decide +kernel
theorem dX5_readEither_118 : decode cX5_readEither 118 = .ok (.iconst 0, 1) := by decide +kernel
theorem dX5_readEither_119 : decode cX5_readEither 119 = .ok (.invokevirtual 147, 3) := by decide +kernel
theorem dX5_readEither_122 : decode cX5_readEither 122 = .ok (.iinc 3 1, 3) := by decide +kernel
theorem dX5_readEither_125 : decode cX5_readEither 125 = .ok (.goto (-111), 3) := by decide +kernel
theorem dX5_readEither_128 : decode cX5_readEither 128 = .ok (.iload_n 2, 1) := by decide +kernel
theorem dX5_readEither_129 : decode cX5_readEither 129 = .ok (.ifCond .eq 10, 3) := by decide +kernel
theorem dX5_readEither_132 : decode cX5_readEither 132 = .ok (.aload_n 0, 1) := by decide +kernel
theorem dX5_readEither_133 : decode cX5_readEither 133 = .ok (.bipush 15, 2) := by decide +kernel
theorem dX5_readEither_135 : decode cX5_readEither 135 = .ok (.iconst 0, 1) := by decide +kernel
theorem dX5_readEither_136 : decode cX5_readEither 136 = .ok (.invokevirtual 147, 3) := by decide +kernel
theorem dX5_readEither_139 : decode cX5_readEither 139 = .ok (.iconst 1, 1) := by decide +kernel
theorem dX5_readEither_140 : decode cX5_readEither 140 = .ok (.ireturn, 1) := by decide +kernel
theorem dX5_readMake_0 : decode cX5_readMake 0 = .ok (.aload_n 0, 1) := by decide +kernel
theorem dX5_readMake_1 : decode cX5_readMake 1 = .ok (.invokevirtual 66, 3) := by decide +kernel
theorem dX5_readMake_4 : decode cX5_readMake 4 = .ok (.bipush 6, 2) := by decide +kernel
theorem dX5_readMake_6 : decode cX5_readMake 6 = .ok (.if_icmp .eq 9, 3) := by decide +kernel
theorem dX5_readMake_9 : decode cX5_readMake 9 = .ok (.aload_n 0, 1) := by decide +kernel
theorem dX5_readMake_10 : decode cX5_readMake 10 = .ok (.iconst 1, 1) := by decide +kernel
theorem dX5_readMake_11 : decode cX5_readMake 11 = .ok (.invokevirtual 70, 3) := by decide +kernel
theorem dX5_readMake_14 : decode cX5_readMake 14 = .ok (.ireturn, 1) := by decide +kernel
theorem dX5_readMake_15 : decode cX5_readMake 15 = .ok (.aload_n 1, 1) := by decide +kernel
theorem dX5_readMake_16 : decode cX5_readMake 16 = .ok (.getfield 133, 3) := by decide +kernel
theorem dX5_readMake_19 : decode cX5_readMake 19 = .ok (.invokevirtual 85, 3) := by decide +kernel
theorem dX5_readMake_22 : decode cX5_readMake 22 = .ok (.bipush 6, 2) := by decide +kernel
theorem dX5_readMake_24 : decode cX5_readMake 24 = .ok (.if_icmp .lt 9, 3) := by decide +kernel
theorem dX5_readMake_27 : decode cX5_readMake 27 = .ok (.aload_n 0, 1) := by decide +kernel
theorem dX5_readMake_28 : decode cX5_readMake 28 = .ok (.iconst 3, 1) := by decide +kernel
theorem dX5_readMake_29 : decode cX5_readMake 29 = .ok (.invokevirtual 70, 3) := by decide +kernel
theorem dX5_readMake_32 : decode cX5_readMake 32 = .ok (.ireturn, 1) := by decide +kernel
theorem dX5_readMake_33 : decode cX5_readMake 33 = .ok (.aload_n 0, 1) := by decide +kernel
theorem dX5_readMake_34 : decode cX5_readMake 34 = .ok (.dup, 1) := by decide +kernel
theorem dX5_readMake_35 : decode cX5_readMake 35 = .ok (.getfield 18, 3) := by decide +kernel
theorem dX5_readMake_38 : decode cX5_readMake 38 = .ok (.iconst 1, 1) := by decide +kernel
theorem dX5_readMake_39 : decode cX5_readMake 39 = .ok (.iadd, 1) := by decide +kernel
theorem dX5_readMake_40 : decode cX5_readMake 40 = .ok (.putfield 18, 3) := by decide +kernel
theorem dX5_readMake_43 : decode cX5_readMake 43 = .ok (.aload_n 0, 1) := by decide +kernel
theorem dX5_readMake_44 : decode cX5_readMake 44 = .ok (.iconst 0, 1) := by decide +kernel
theorem dX5_readMake_45 : decode cX5_readMake 45 = .ok (.putfield 26, 3) := by decide +kernel
theorem dX5_readMake_48 : decode cX5_readMake 48 = .ok (.aload_n 0, 1) := by decide +kernel
theorem dX5_readMake_49 : decode cX5_readMake 49 = .ok (.invokevirtual 66, 3) := by decide +kernel
theorem dX5_readMake_52 : decode cX5_readMake 52 = .ok (.istore_n 2, 1) := by decide +kernel
theorem dX5_readMake_53 : decode cX5_readMake 53 = .ok (.aload_n 0, 1) := by decide +kernel
theorem dX5_readMake_54 : decode cX5_readMake 54 = .ok (.iload_n 2, 1) := by decide +kernel
theorem dX5_readMake_55 : decode cX5_readMake 55 = .ok (.invokevirtual 136, 3) := by decide +kernel
theorem dX5_readMake_58 : decode cX5_readMake 58 = .ok (.istore_n 3, 1) := by decide +kernel
theorem dX5_readMake_59 : decode cX5_readMake 59 = .ok (.iload_n 3, 1) := by decide +kernel
theorem dX5_readMake_60 : decode cX5_readMake 60 = .ok (.iconst (-1), 1) := by decide +kernel
theorem dX5_readMake_61 : decode cX5_readMake 61 = .ok (.if_icmp .ne 5, 3) := by decide +kernel
theorem dX5_readMake_64 : decode cX5_readMake 64 = .ok (.iconst 0, 1) := by decide +kernel
theorem dX5_readMake_65 : decode cX5_readMake 65 = .ok (.ireturn, 1) := by decide +kernel
theorem dX5_readMake_66 : decode cX5_readMake 66 = .ok (.iload_n 2, 1) := by decide +kernel
theorem dX5_readMake_67 : decode cX5_readMake 67 = .ok (.bipush 7, 2) := by decide +kernel
theorem dX5_readMake_69 : decode cX5_readMake 69 = .ok (.if_icmp .eq 15, 3) := by decide +kernel
theorem dX5_readMake_72 : decode cX5_readMake 72 = .ok (.iload_n 2, 1) := by decide +kernel
theorem dX5_readMake_73 : decode cX5_readMake 73 = .ok (.bipush 8, 2) := by decide +kernel
theorem dX5_readMake_75 : decode cX5_readMake 75 = .ok (.if_icmp .eq 9, 3) := by decide +kernel
theorem dX5_readMake_78 : decode cX5_readMake 78 = .ok (.iload_n 2, 1) := by decide +kernel
theorem dX5_readMake_79 : decode cX5_readMake 79 = .ok (.bipush 14, 2) := by decide +kernel
theorem dX5_readMake_81 : decode cX5_readMake 81 = .ok (.if_icmp .ne 7, 3) := by decide +kernel
theorem dX5_readMake_84 : decode cX5_readMake 84 = .ok (.iconst 1, 1) := by decide +kernel
theorem dX5_readMake_85 : decode cX5_readMake 85 = .ok (.goto 4, 3) := by decide +kernel
theorem dX5_readMake_88 : decode cX5_readMake 88 = .ok (.iconst 0, 1) := by decide +kernel
theorem dX5_readMake_89 : decode cX5_readMake 89 = .ok (.istore 4, 2) := by decide +kernel
theorem dX5_readMake_91 : decode cX5_readMake 91 = .ok (.iload 4, 2) := by decide +kernel
theorem dX5_readMake_93 : decode cX5_readMake 93 = .ok (.ifCond .eq 23, 3) := by decide +kernel
theorem dX5_readMake_96 : decode cX5_readMake 96 = .ok (.aload_n 0, 1) := by decide +kernel
theorem dX5_readMake_97 : decode cX5_readMake 97 = .ok (.iload_n 2, 1) := by decide +kernel
theorem dX5_readMake_98 : decode cX5_readMake 98 = .ok (.bipush 14, 2) := by decide +kernel
theorem dX5_readMake_100 : decode cX5_readMake 100 = .ok (.if_icmp .eq 7, 3) := by decide +kernel
theorem dX5_readMake_103 : decode cX5_readMake 103 = .ok (.iconst 1, 1) := by decide +kernel
theorem dX5_readMake_104 : decode cX5_readMake 104 = .ok (.goto 4, 3) := by decide +kernel
theorem dX5_readMake_107 : decode cX5_readMake 107 = .ok (.iconst 0, 1) := by decide +kernel
theorem dX5_readMake_108 : decode cX5_readMake 108 = .ok (.invokevirtual 140, 3) := by decide +kernel
theorem dX5_readMake_111 : decode cX5_readMake 111 = .ok (.ifCond .ne 5, 3) := by decide +kernel
theorem dX5_readMake_114 : decode cX5_readMake 114 = .ok (.iconst 0, 1) := by decide +kernel
theorem dX5_readMake_115 : decode cX5_readMake 115 = .ok (.ireturn, 1) := by decide +kernel
theorem dX5_readMake_116 : decode cX5_readMake 116 = .ok (.aload_n 1, 1) := by decide +kernel
theorem dX5_readMake_117 : decode cX5_readMake 117 = .ok (.getfield 133, 3) := by decide +kernel
theorem dX5_readMake_120 : decode cX5_readMake 120 = .ok (.aload_n 0, 1) := by decide +kernel
theorem dX5_readMake_121 : decode cX5_readMake 121 = .ok (.iload_n 2, 1) := by decide +kernel
theorem dX5_readMake_122 : decode cX5_readMake 122 = .ok (.iload_n 3, 1) := by decide +kernel
theorem dX5_readMake_123 : decode cX5_readMake 123 = .ok (.invokevirtual 115, 3) := by decide +kernel
theorem dX5_readMake_126 : decode cX5_readMake 126 = .ok (.invokevirtual 119, 3) := by decide +kernel
theorem dX5_readMake_129 : decode cX5_readMake 129 = .ok (.pop, 1) := by decide +kernel
theorem dX5_readMake_130 : decode cX5_readMake 130 = .ok (.iconst 1, 1) := by decide +kernel
theorem dX5_readMake_131 : decode cX5_readMake 131 = .ok (.ireturn, 1) := by decide +kernel
theorem dX5_readOpened_0 : decode cX5_readOpened 0 = .ok (.aload_n 0, 1) := by decide +kernel
theorem dX5_readOpened_1 : decode cX5_readOpened 1 = .ok (.dup, 1) := by decide +kernel
theorem dX5_readOpened_2 : decode cX5_readOpened 2 = .ok (.getfield 18, 3) := by decide +kernel
theorem dX5_readOpened_5 : decode cX5_readOpened 5 = .ok (.iconst 1, 1) := by decide +kernel
theorem dX5_readOpened_6 : decode cX5_readOpened 6 = .ok (.iadd, 1) := by decide +kernel
theorem dX5_readOpened_7 : decode cX5_readOpened 7 = .ok (.putfield 18, 3) := by decide +kernel
theorem dX5_readOpened_10 : decode cX5_readOpened 10 = .ok (.iload_n 1, 1) := by decide +kernel
theorem dX5_readOpened_11 : decode cX5_readOpened 11 = .ok (.bipush 17, 2) := by decide +kernel
theorem dX5_readOpened_13 : decode cX5_readOpened 13 = .ok (.if_icmp .ne 22, 3) := by decide +kernel
theorem dX5_readOpened_16 : decode cX5_readOpened 16 = .ok (.aload_n 0, 1) := by decide +kernel
theorem dX5_readOpened_17 : decode cX5_readOpened 17 = .ok (.iload_n 2, 1) := by decide +kernel
theorem dX5_readOpened_18 : decode cX5_readOpened 18 = .ok (.invokevirtual 158, 3) := by decide +kernel
theorem dX5_readOpened_21 : decode cX5_readOpened 21 = .ok (.ifCond .ne 5, 3) := by decide +kernel
theorem dX5_readOpened_24 : decode cX5_readOpened 24 = .ok (.iconst 0, 1) := by decide +kernel
theorem dX5_readOpened_25 : decode cX5_readOpened 25 = .ok (.ireturn, 1) := by decide +kernel
theorem dX5_readOpened_26 : decode cX5_readOpened 26 = .ok (.aload_n 0, 1) := by decide +kernel
theorem dX5_readOpened_27 : decode cX5_readOpened 27 = .ok (.bipush 17, 2) := by decide +kernel
theorem dX5_readOpened_29 : decode cX5_readOpened 29 = .ok (.iconst 0, 1) := by decide +kernel
theorem dX5_readOpened_30 : decode cX5_readOpened 30 = .ok (.invokevirtual 147, 3) := by decide +kernel
theorem dX5_readOpened_33 : decode cX5_readOpened 33 = .ok (.iconst 1, 1) := by decide +kernel
theorem dX5_readOpened_34 : decode cX5_readOpened 34 = .ok (.ireturn, 1) := by decide +kernel
theorem dX5_readOpened_35 : decode cX5_readOpened 35 = .ok (.aload_n 0, 1) := by decide +kernel
theorem dX5_readOpened_36 : decode cX5_readOpened 36 = .ok (.iload_n 2, 1) := by decide +kernel
theorem dX5_readOpened_37 : decode cX5_readOpened 37 = .ok (.invokevirtual 112, 3) := by decide +kernel
theorem dX5_readOpened_40 : decode cX5_readOpened 40 = .ok (.ifCond .ne 5, 3) := by decide +kernel
theorem dX5_readOpened_43 : decode cX5_readOpened 43 = .ok (.iconst 0, 1) := by decide +kernel
theorem dX5_readOpened_44 : decode cX5_readOpened 44 = .ok (.ireturn, 1) := by decide +kernel
theorem dX5_readOpened_45 : decode cX5_readOpened 45 = .ok (.aload_n 0, 1) := by decide +kernel
theorem dX5_readOpened_46 : decode cX5_readOpened 46 = .ok (.invokevirtual 66, 3) := by decide +kernel
theorem dX5_readOpened_49 : decode cX5_readOpened 49 = .ok (.bipush 28, 2) := by decide +kernel
theorem dX5_readOpened_51 : decode cX5_readOpened 51 = .ok (.if_icmp .eq 9, 3) := by decide +kernel
theorem dX5_readOpened_54 : decode cX5_readOpened 54 = .ok (.aload_n 0, 1) := by decide +kernel
theorem dX5_readOpened_55 : decode cX5_readOpened 55 = .ok (.iconst 1, 1) := by decide +kernel
theorem dX5_readOpened_56 : decode cX5_readOpened 56 = .ok (.invokevirtual 70, 3) := by decide +kernel
theorem dX5_readOpened_59 : decode cX5_readOpened 59 = .ok (.ireturn, 1) := by decide +kernel
theorem dX5_readOpened_60 : decode cX5_readOpened 60 = .ok (.aload_n 0, 1) := by decide +kernel
theorem dX5_readOpened_61 : decode cX5_readOpened 61 = .ok (.dup, 1) := by decide +kernel
theorem dX5_readOpened_62 : decode cX5_readOpened 62 = .ok (.getfield 18, 3) := by decide +kernel
theorem dX5_readOpened_65 : decode cX5_readOpened 65 = .ok (.iconst 1, 1) := by decide +kernel
theorem dX5_readOpened_66 : decode cX5_readOpened 66 = .ok (.iadd, 1) := by decide +kernel
theorem dX5_readOpened_67 : decode cX5_readOpened 67 = .ok (.putfield 18, 3) := by decide +kernel
theorem dX5_readOpened_70 : decode cX5_readOpened 70 = .ok (.iconst 1, 1) := by decide +kernel
theorem dX5_readOpened_71 : decode cX5_readOpened 71 = .ok (.ireturn, 1) := by decide +kernel
theorem dX5_readOperand_0 : decode cX5_readOperand 0 = .ok (.aload_n 0, 1) := by decide +kernel
theorem dX5_readOperand_1 : decode cX5_readOperand 1 = .ok (.invokevirtual 66, 3) := by decide +kernel
theorem dX5_readOperand_4 : decode cX5_readOperand 4 = .ok (.istore_n 1, 1) := by decide +kernel
theorem dX5_readOperand_5 : decode cX5_readOperand 5 = .ok (.iconst 0, 1) := by decide +kernel
theorem dX5_readOperand_6 : decode cX5_readOperand 6 = .ok (.istore_n 2, 1) := by decide +kernel
theorem dX5_readOperand_7 : decode cX5_readOperand 7 = .ok (.iload_n 1, 1) := by decide +kernel
theorem dX5_readOperand_8 : decode cX5_readOperand 8 = .ok (.tableswitch 162 2 20 #[92, 162, 162, 162, 162, 124, 143, 162, 162, 143, 162, 162, 111, 162, 162, 162, 143, 124, 124], 92) := by decide +kernel
theorem dX5_readOperand_100 : decode cX5_readOperand 100 = .ok (.aload_n 0, 1) := by decide +kernel
theorem dX5_readOperand_101 : decode cX5_readOperand 101 = .ok (.invokevirtual 90, 3) := by decide +kernel
theorem dX5_readOperand_104 : decode cX5_readOperand 104 = .ok (.l2i, 1) := by decide +kernel
theorem dX5_readOperand_105 : decode cX5_readOperand 105 = .ok (.istore_n 2, 1) := by decide +kernel
theorem dX5_readOperand_106 : decode cX5_readOperand 106 = .ok (.aload_n 0, 1) := by decide +kernel
theorem dX5_readOperand_107 : decode cX5_readOperand 107 = .ok (.dup, 1) := by decide +kernel
theorem dX5_readOperand_108 : decode cX5_readOperand 108 = .ok (.getfield 18, 3) := by decide +kernel
theorem dX5_readOperand_111 : decode cX5_readOperand 111 = .ok (.iconst 1, 1) := by decide +kernel
theorem dX5_readOperand_112 : decode cX5_readOperand 112 = .ok (.iadd, 1) := by decide +kernel
theorem dX5_readOperand_113 : decode cX5_readOperand 113 = .ok (.putfield 18, 3) := by decide +kernel
theorem dX5_readOperand_116 : decode cX5_readOperand 116 = .ok (.goto 60, 3) := by decide +kernel
theorem dX5_readOperand_119 : decode cX5_readOperand 119 = .ok (.aload_n 0, 1) := by decide +kernel
theorem dX5_readOperand_120 : decode cX5_readOperand 120 = .ok (.dup, 1) := by decide +kernel
theorem dX5_readOperand_121 : decode cX5_readOperand 121 = .ok (.getfield 18, 3) := by decide +kernel
theorem dX5_readOperand_124 : decode cX5_readOperand 124 = .ok (.iconst 1, 1) := by decide +kernel
theorem dX5_readOperand_125 : decode cX5_readOperand 125 = .ok (.iadd, 1) := by decide +kernel
theorem dX5_readOperand_126 : decode cX5_readOperand 126 = .ok (.putfield 18, 3) := by decide +kernel
theorem dX5_readOperand_129 : decode cX5_readOperand 129 = .ok (.goto 47, 3) := by decide +kernel
theorem dX5_readOperand_132 : decode cX5_readOperand 132 = .ok (.aload_n 0, 1) := by decide +kernel
theorem dX5_readOperand_133 : decode cX5_readOperand 133 = .ok (.dup, 1) := by decide +kernel
theorem dX5_readOperand_134 : decode cX5_readOperand 134 = .ok (.getfield 18, 3) := by decide +kernel
theorem dX5_readOperand_137 : decode cX5_readOperand 137 = .ok (.iconst 1, 1) := by decide +kernel
theorem dX5_readOperand_138 : decode cX5_readOperand 138 = .ok (.iadd, 1) := by decide +kernel
theorem dX5_readOperand_139 : decode cX5_readOperand 139 = .ok (.putfield 18, 3) := by decide +kernel
theorem dX5_readOperand_142 : decode cX5_readOperand 142 = .ok (.aload_n 0, 1) := by decide +kernel
theorem dX5_readOperand_143 : decode cX5_readOperand 143 = .ok (.iconst 1, 1) := by decide +kernel
theorem dX5_readOperand_144 : decode cX5_readOperand 144 = .ok (.invokevirtual 144, 3) := by decide +kernel
theorem dX5_readOperand_147 : decode cX5_readOperand 147 = .ok (.istore_n 2, 1) := by decide +kernel
theorem dX5_readOperand_148 : decode cX5_readOperand 148 = .ok (.goto 28, 3) := by decide +kernel
theorem dX5_readOperand_151 : decode cX5_readOperand 151 = .ok (.aload_n 0, 1) := by decide +kernel
theorem dX5_readOperand_152 : decode cX5_readOperand 152 = .ok (.dup, 1) := by decide +kernel
theorem dX5_readOperand_153 : decode cX5_readOperand 153 = .ok (.getfield 18, 3) := by decide +kernel
theorem dX5_readOperand_156 : decode cX5_readOperand 156 = .ok (.iconst 1, 1) := by decide +kernel
theorem dX5_readOperand_157 : decode cX5_readOperand 157 = .ok (.iadd, 1) := by decide +kernel
theorem dX5_readOperand_158 : decode cX5_readOperand 158 = .ok (.putfield 18, 3) := by decide +kernel
theorem dX5_readOperand_161 : decode cX5_readOperand 161 = .ok (.aload_n 0, 1) := by decide +kernel
theorem dX5_readOperand_162 : decode cX5_readOperand 162 = .ok (.iconst 2, 1) := by decide +kernel
theorem dX5_readOperand_163 : decode cX5_readOperand 163 = .ok (.invokevirtual 144, 3) := by decide +kernel
theorem dX5_readOperand_166 : decode cX5_readOperand 166 = .ok (.istore_n 2, 1) := by decide +kernel
theorem dX5_readOperand_167 : decode cX5_readOperand 167 = .ok (.goto 9, 3) := by decide +kernel
theorem dX5_readOperand_170 : decode cX5_readOperand 170 = .ok (.aload_n 0, 1) := by decide +kernel
theorem dX5_readOperand_171 : decode cX5_readOperand 171 = .ok (.iconst 1, 1) := by decide +kernel
theorem dX5_readOperand_172 : decode cX5_readOperand 172 = .ok (.invokevirtual 70, 3) := by decide +kernel
theorem dX5_readOperand_175 : decode cX5_readOperand 175 = .ok (.ireturn, 1) := by decide +kernel
theorem dX5_readOperand_176 : decode cX5_readOperand 176 = .ok (.iload_n 2, 1) := by decide +kernel
theorem dX5_readOperand_177 : decode cX5_readOperand 177 = .ok (.iconst (-1), 1) := by decide +kernel
theorem dX5_readOperand_178 : decode cX5_readOperand 178 = .ok (.if_icmp .ne 5, 3) := by decide +kernel
theorem dX5_readOperand_181 : decode cX5_readOperand 181 = .ok (.iconst 0, 1) := by decide +kernel
theorem dX5_readOperand_182 : decode cX5_readOperand 182 = .ok (.ireturn, 1) := by decide +kernel
theorem dX5_readOperand_183 : decode cX5_readOperand 183 = .ok (.aload_n 0, 1) := by decide +kernel
theorem dX5_readOperand_184 : decode cX5_readOperand 184 = .ok (.aload_n 0, 1) := by decide +kernel
theorem dX5_readOperand_185 : decode cX5_readOperand 185 = .ok (.getfield 33, 3) := by decide +kernel
theorem dX5_readOperand_188 : decode cX5_readOperand 188 = .ok (.ifCond .ne 9, 3) := by decide +kernel
theorem dX5_readOperand_191 : decode cX5_readOperand 191 = .ok (.iload_n 1, 1) := by decide +kernel
theorem dX5_readOperand_192 : decode cX5_readOperand 192 = .ok (.bipush 19, 2) := by decide +kernel
theorem dX5_readOperand_194 : decode cX5_readOperand 194 = .ok (.if_icmp .ne 7, 3) := by decide +kernel
theorem dX5_readOperand_197 : decode cX5_readOperand 197 = .ok (.iconst 1, 1) := by decide +kernel
theorem dX5_readOperand_198 : decode cX5_readOperand 198 = .ok (.goto 4, 3) := by decide +kernel
theorem dX5_readOperand_201 : decode cX5_readOperand 201 = .ok (.iconst 0, 1) := by decide +kernel
theorem dX5_readOperand_202 : decode cX5_readOperand 202 = .ok (.putfield 33, 3) := by decide +kernel
theorem dX5_readOperand_205 : decode cX5_readOperand 205 = .ok (.aload_n 0, 1) := by decide +kernel
theorem dX5_readOperand_206 : decode cX5_readOperand 206 = .ok (.iload_n 1, 1) := by decide +kernel
theorem dX5_readOperand_207 : decode cX5_readOperand 207 = .ok (.iload_n 2, 1) := by decide +kernel
theorem dX5_readOperand_208 : decode cX5_readOperand 208 = .ok (.invokevirtual 147, 3) := by decide +kernel
theorem dX5_readOperand_211 : decode cX5_readOperand 211 = .ok (.iconst 1, 1) := by decide +kernel
theorem dX5_readOperand_212 : decode cX5_readOperand 212 = .ok (.ireturn, 1) := by decide +kernel
theorem dX5_readPersons_0 : decode cX5_readPersons 0 = .ok (.aload_n 0, 1) := by decide +kernel
theorem dX5_readPersons_1 : decode cX5_readPersons 1 = .ok (.invokevirtual 66, 3) := by decide +kernel
theorem dX5_readPersons_4 : decode cX5_readPersons 4 = .ok (.bipush 21, 2) := by decide +kernel
theorem dX5_readPersons_6 : decode cX5_readPersons 6 = .ok (.isub, 1) := by decide +kernel
theorem dX5_readPersons_7 : decode cX5_readPersons 7 = .ok (.istore_n 2, 1) := by decide +kernel
theorem dX5_readPersons_8 : decode cX5_readPersons 8 = .ok (.iload_n 2, 1) := by decide +kernel
theorem dX5_readPersons_9 : decode cX5_readPersons 9 = .ok (.ifCond .eq 16, 3) := by decide +kernel
theorem dX5_readPersons_12 : decode cX5_readPersons 12 = .ok (.iload_n 2, 1) := by decide +kernel
theorem dX5_readPersons_13 : decode cX5_readPersons 13 = .ok (.iconst 1, 1) := by decide +kernel
theorem dX5_readPersons_14 : decode cX5_readPersons 14 = .ok (.if_icmp .eq 11, 3) := by decide +kernel
theorem dX5_readPersons_17 : decode cX5_readPersons 17 = .ok (.aload_n 0, 1) := by decide +kernel
theorem dX5_readPersons_18 : decode cX5_readPersons 18 = .ok (.iconst 1, 1) := by decide +kernel
theorem dX5_readPersons_19 : decode cX5_readPersons 19 = .ok (.invokevirtual 70, 3) := by decide +kernel
theorem dX5_readPersons_22 : decode cX5_readPersons 22 = .ok (.pop, 1) := by decide +kernel
theorem dX5_readPersons_23 : decode cX5_readPersons 23 = .ok (.iconst (-1), 1) := by decide +kernel
theorem dX5_readPersons_24 : decode cX5_readPersons 24 = .ok (.ireturn, 1) := by decide +kernel
theorem dX5_readPersons_25 : decode cX5_readPersons 25 = .ok (.aload_n 0, 1) := by decide +kernel
theorem dX5_readPersons_26 : decode cX5_readPersons 26 = .ok (.dup, 1) := by decide +kernel
theorem dX5_readPersons_27 : decode cX5_readPersons 27 = .ok (.getfield 18, 3) := by decide +kernel
theorem dX5_readPersons_30 : decode cX5_readPersons 30 = .ok (.iconst 1, 1) := by decide +kernel
theorem dX5_readPersons_31 : decode cX5_readPersons 31 = .ok (.iadd, 1) := by decide +kernel
theorem dX5_readPersons_32 : decode cX5_readPersons 32 = .ok (.putfield 18, 3) := by decide +kernel
theorem dX5_readPersons_35 : decode cX5_readPersons 35 = .ok (.aload_n 0, 1) := by decide +kernel
theorem dX5_readPersons_36 : decode cX5_readPersons 36 = .ok (.aload_n 0, 1) := by decide +kernel
theorem dX5_readPersons_37 : decode cX5_readPersons 37 = .ok (.getfield 29, 3) := by decide +kernel
theorem dX5_readPersons_40 : decode cX5_readPersons 40 = .ok (.ifCond .ne 13, 3) := by decide +kernel
theorem dX5_readPersons_43 : decode cX5_readPersons 43 = .ok (.iload_n 2, 1) := by decide +kernel
theorem dX5_readPersons_44 : decode cX5_readPersons 44 = .ok (.iconst 1, 1) := by decide +kernel
theorem dX5_readPersons_45 : decode cX5_readPersons 45 = .ok (.if_icmp .eq 8, 3) := by decide +kernel
theorem dX5_readPersons_48 : decode cX5_readPersons 48 = .ok (.iload_n 1, 1) := by decide +kernel
theorem dX5_readPersons_49 : decode cX5_readPersons 49 = .ok (.iconst 2, 1) := by decide +kernel
theorem dX5_readPersons_50 : decode cX5_readPersons 50 = .ok (.if_icmp .ne 7, 3) := by decide +kernel
theorem dX5_readPersons_53 : decode cX5_readPersons 53 = .ok (.iconst 1, 1) := by decide +kernel
theorem dX5_readPersons_54 : decode cX5_readPersons 54 = .ok (.goto 4, 3) := by decide +kernel
theorem dX5_readPersons_57 : decode cX5_readPersons 57 = .ok (.iconst 0, 1) := by decide +kernel
theorem dX5_readPersons_58 : decode cX5_readPersons 58 = .ok (.putfield 29, 3) := by decide +kernel
theorem dX5_readPersons_61 : decode cX5_readPersons 61 = .ok (.iload_n 1, 1) := by decide +kernel
theorem dX5_readPersons_62 : decode cX5_readPersons 62 = .ok (.iconst 1, 1) := by decide +kernel
theorem dX5_readPersons_63 : decode cX5_readPersons 63 = .ok (.if_icmp .ne 5, 3) := by decide +kernel
theorem dX5_readPersons_66 : decode cX5_readPersons 66 = .ok (.iload_n 2, 1) := by decide +kernel
theorem dX5_readPersons_67 : decode cX5_readPersons 67 = .ok (.ireturn, 1) := by decide +kernel
theorem dX5_readPersons_68 : decode cX5_readPersons 68 = .ok (.aload_n 0, 1) := by decide +kernel
theorem dX5_readPersons_69 : decode cX5_readPersons 69 = .ok (.invokevirtual 66, 3) := by decide +kernel
theorem dX5_readPersons_72 : decode cX5_readPersons 72 = .ok (.iload_n 2, 1) := by decide +kernel
theorem dX5_readPersons_73 : decode cX5_readPersons 73 = .ok (.ifCond .ne 8, 3) := by decide +kernel
theorem dX5_readPersons_76 : decode cX5_readPersons 76 = .ok (.bipush 22, 2) := by decide +kernel
theorem dX5_readPersons_78 : decode cX5_readPersons 78 = .ok (.goto 5, 3) := by decide +kernel
theorem dX5_readPersons_81 : decode cX5_readPersons 81 = .ok (.bipush 21, 2) := by decide +kernel
theorem dX5_readPersons_83 : decode cX5_readPersons 83 = .ok (.if_icmp .eq 11, 3) := by decide +kernel
theorem dX5_readPersons_86 : decode cX5_readPersons 86 = .ok (.aload_n 0, 1) := by decide +kernel
theorem dX5_readPersons_87 : decode cX5_readPersons 87 = .ok (.iconst 1, 1) := by decide +kernel
theorem dX5_readPersons_88 : decode cX5_readPersons 88 = .ok (.invokevirtual 70, 3) := by decide +kernel
theorem dX5_readPersons_91 : decode cX5_readPersons 91 = .ok (.pop, 1) := by decide +kernel
theorem dX5_readPersons_92 : decode cX5_readPersons 92 = .ok (.iconst (-1), 1) := by decide +kernel
theorem dX5_readPersons_93 : decode cX5_readPersons 93 = .ok (.ireturn, 1) := by decide +kernel
theorem dX5_readPersons_94 : decode cX5_readPersons 94 = .ok (.aload_n 0, 1) := by decide +kernel
theorem dX5_readPersons_95 : decode cX5_readPersons 95 = .ok (.dup, 1) := by decide +kernel
theorem dX5_readPersons_96 : decode cX5_readPersons 96 = .ok (.getfield 18, 3) := by decide +kernel
theorem dX5_readPersons_99 : decode cX5_readPersons 99 = .ok (.iconst 1, 1) := by decide +kernel
theorem dX5_readPersons_100 : decode cX5_readPersons 100 = .ok (.iadd, 1) := by decide +kernel
theorem dX5_readPersons_101 : decode cX5_readPersons 101 = .ok (.putfield 18, 3) := by decide +kernel
theorem dX5_readPersons_104 : decode cX5_readPersons 104 = .ok (.iload_n 2, 1) := by decide +kernel
theorem dX5_readPersons_105 : decode cX5_readPersons 105 = .ok (.ireturn, 1) := by decide +kernel
theorem dX5_readSum_0 : decode cX5_readSum 0 = .ok (.aload_n 0, 1) := by decide +kernel
theorem dX5_readSum_1 : decode cX5_readSum 1 = .ok (.invokevirtual 165, 3) := by decide +kernel
theorem dX5_readSum_4 : decode cX5_readSum 4 = .ok (.ifCond .ne 5, 3) := by decide +kernel
theorem dX5_readSum_7 : decode cX5_readSum 7 = .ok (.iconst 0, 1) := by decide +kernel
theorem dX5_readSum_8 : decode cX5_readSum 8 = .ok (.ireturn, 1) := by decide +kernel
theorem dX5_readSum_9 : decode cX5_readSum 9 = .ok (.iconst (-1), 1) := by decide +kernel
theorem dX5_readSum_10 : decode cX5_readSum 10 = .ok (.istore_n 1, 1) := by decide +kernel
theorem dX5_readSum_11 : decode cX5_readSum 11 = .ok (.iconst 0, 1) := by decide +kernel
theorem dX5_readSum_12 : decode cX5_readSum 12 = .ok (.istore_n 2, 1) := by decide +kernel
theorem dX5_readSum_13 : decode cX5_readSum 13 = .ok (.iload_n 2, 1) := by decide +kernel
theorem dX5_readSum_14 : decode cX5_readSum 14 = .ok (.aload_n 0, 1) := by decide +kernel
theorem dX5_readSum_15 : decode cX5_readSum 15 = .ok (.getfield 12, 3) := by decide +kernel
theorem dX5_readSum_18 : decode cX5_readSum 18 = .ok (.getfield 56, 3) := by decide +kernel
theorem dX5_readSum_21 : decode cX5_readSum 21 = .ok (.if_icmp .ge 86, 3) := by decide +kernel
theorem dX5_readSum_24 : decode cX5_readSum 24 = .ok (.aload_n 0, 1) := by decide +kernel
theorem dX5_readSum_25 : decode cX5_readSum 25 = .ok (.invokevirtual 66, 3) := by decide +kernel
theorem dX5_readSum_28 : decode cX5_readSum 28 = .ok (.istore_n 3, 1) := by decide +kernel
theorem dX5_readSum_29 : decode cX5_readSum 29 = .ok (.iload_n 3, 1) := by decide +kernel
theorem dX5_readSum_30 : decode cX5_readSum 30 = .ok (.bipush 24, 2) := by decide +kernel
theorem dX5_readSum_32 : decode cX5_readSum 32 = .ok (.if_icmp .eq 18, 3) := by decide +kernel
theorem dX5_readSum_35 : decode cX5_readSum 35 = .ok (.iload_n 3, 1) := by decide +kernel
theorem dX5_readSum_36 : decode cX5_readSum 36 = .ok (.bipush 25, 2) := by decide +kernel
theorem dX5_readSum_38 : decode cX5_readSum 38 = .ok (.if_icmp .eq 12, 3) := by decide +kernel
theorem dX5_readSum_41 : decode cX5_readSum 41 = .ok (.iload_n 3, 1) := by decide +kernel
theorem dX5_readSum_42 : decode cX5_readSum 42 = .ok (.bipush 26, 2) := by decide +kernel
theorem dX5_readSum_44 : decode cX5_readSum 44 = .ok (.if_icmp .eq 6, 3) := by decide +kernel
theorem dX5_readSum_47 : decode cX5_readSum 47 = .ok (.goto 60, 3) := by decide +kernel
theorem dX5_readSum_50 : decode cX5_readSum 50 = .ok (.aload_n 0, 1) := by decide +kernel
theorem dX5_readSum_51 : decode cX5_readSum 51 = .ok (.dup, 1) := by decide +kernel
theorem dX5_readSum_52 : decode cX5_readSum 52 = .ok (.getfield 18, 3) := by decide +kernel
theorem dX5_readSum_55 : decode cX5_readSum 55 = .ok (.iconst 1, 1) := by decide +kernel
theorem dX5_readSum_56 : decode cX5_readSum 56 = .ok (.iadd, 1) := by decide +kernel
theorem dX5_readSum_57 : decode cX5_readSum 57 = .ok (.putfield 18, 3) := by decide +kernel
theorem dX5_readSum_60 : decode cX5_readSum 60 = .ok (.iload_n 3, 1) := by decide +kernel
theorem dX5_readSum_61 : decode cX5_readSum 61 = .ok (.bipush 26, 2) := by decide +kernel
theorem dX5_readSum_63 : decode cX5_readSum 63 = .ok (.if_icmp .eq 16, 3) := by decide +kernel
theorem dX5_readSum_66 : decode cX5_readSum 66 = .ok (.iload_n 1, 1) := by decide +kernel
theorem dX5_readSum_67 : decode cX5_readSum 67 = .ok (.iconst (-1), 1) := by decide +kernel
theorem dX5_readSum_68 : decode cX5_readSum 68 = .ok (.if_icmp .eq 9, 3) := by decide +kernel
theorem dX5_readSum_71 : decode cX5_readSum 71 = .ok (.aload_n 0, 1) := by decide +kernel
theorem dX5_readSum_72 : decode cX5_readSum 72 = .ok (.iload_n 1, 1) := by decide +kernel
theorem dX5_readSum_73 : decode cX5_readSum 73 = .ok (.iconst 0, 1) := by decide +kernel
theorem dX5_readSum_74 : decode cX5_readSum 74 = .ok (.invokevirtual 147, 3) := by decide +kernel
theorem dX5_readSum_77 : decode cX5_readSum 77 = .ok (.iload_n 3, 1) := by decide +kernel
theorem dX5_readSum_78 : decode cX5_readSum 78 = .ok (.istore_n 1, 1) := by decide +kernel
theorem dX5_readSum_79 : decode cX5_readSum 79 = .ok (.aload_n 0, 1) := by decide +kernel
theorem dX5_readSum_80 : decode cX5_readSum 80 = .ok (.invokevirtual 165, 3) := by decide +kernel
theorem dX5_readSum_83 : decode cX5_readSum 83 = .ok (.ifCond .ne 5, 3) := by decide +kernel
theorem dX5_readSum_86 : decode cX5_readSum 86 = .ok (.iconst 0, 1) := by decide +kernel
theorem dX5_readSum_87 : decode cX5_readSum 87 = .ok (.ireturn, 1) := by decide +kernel
theorem dX5_readSum_88 : decode cX5_readSum 88 = .ok (.iload_n 3, 1) := by decide +kernel
theorem dX5_readSum_89 : decode cX5_readSum 89 = .ok (.bipush 26, 2) := by decide +kernel
theorem dX5_readSum_91 : decode cX5_readSum 91 = .ok (.if_icmp .ne 10, 3) := by decide +kernel
theorem dX5_readSum_94 : decode cX5_readSum 94 = .ok (.aload_n 0, 1) := by decide +kernel
theorem dX5_readSum_95 : decode cX5_readSum 95 = .ok (.bipush 26, 2) := by decide +kernel
theorem dX5_readSum_97 : decode cX5_readSum 97 = .ok (.iconst 0, 1) := by decide +kernel
theorem dX5_readSum_98 : decode cX5_readSum 98 = .ok (.invokevirtual 147, 3) := by decide +kernel
theorem dX5_readSum_101 : decode cX5_readSum 101 = .ok (.iinc 2 1, 3) := by decide +kernel
theorem dX5_readSum_104 : decode cX5_readSum 104 = .ok (.goto (-91), 3) := by decide +kernel
theorem dX5_readSum_107 : decode cX5_readSum 107 = .ok (.iload_n 1, 1) := by decide +kernel
theorem dX5_readSum_108 : decode cX5_readSum 108 = .ok (.iconst (-1), 1) := by decide +kernel
theorem dX5_readSum_109 : decode cX5_readSum 109 = .ok (.if_icmp .eq 9, 3) := by decide +kernel
theorem dX5_readSum_112 : decode cX5_readSum 112 = .ok (.aload_n 0, 1) := by decide +kernel
theorem dX5_readSum_113 : decode cX5_readSum 113 = .ok (.iload_n 1, 1) := by decide +kernel
theorem dX5_readSum_114 : decode cX5_readSum 114 = .ok (.iconst 0, 1) := by decide +kernel
theorem dX5_readSum_115 : decode cX5_readSum 115 = .ok (.invokevirtual 147, 3) := by decide +kernel
theorem dX5_readSum_118 : decode cX5_readSum 118 = .ok (.iconst 1, 1) := by decide +kernel
theorem dX5_readSum_119 : decode cX5_readSum 119 = .ok (.ireturn, 1) := by decide +kernel
theorem dX5_refuse_0 : decode cX5_refuse 0 = .ok (.aload_n 0, 1) := by decide +kernel
theorem dX5_refuse_1 : decode cX5_refuse 1 = .ok (.iload_n 1, 1) := by decide +kernel
theorem dX5_refuse_2 : decode cX5_refuse 2 = .ok (.putfield 43, 3) := by decide +kernel
theorem dX5_refuse_5 : decode cX5_refuse 5 = .ok (.aload_n 0, 1) := by decide +kernel
theorem dX5_refuse_6 : decode cX5_refuse 6 = .ok (.aload_n 0, 1) := by decide +kernel
theorem dX5_refuse_7 : decode cX5_refuse 7 = .ok (.getfield 18, 3) := by decide +kernel
theorem dX5_refuse_10 : decode cX5_refuse 10 = .ok (.aload_n 0, 1) := by decide +kernel
theorem dX5_refuse_11 : decode cX5_refuse 11 = .ok (.getfield 12, 3) := by decide +kernel
theorem dX5_refuse_14 : decode cX5_refuse 14 = .ok (.getfield 56, 3) := by decide +kernel
theorem dX5_refuse_17 : decode cX5_refuse 17 = .ok (.if_icmp .ge 18, 3) := by decide +kernel
theorem dX5_refuse_20 : decode cX5_refuse 20 = .ok (.aload_n 0, 1) := by decide +kernel
theorem dX5_refuse_21 : decode cX5_refuse 21 = .ok (.getfield 12, 3) := by decide +kernel
theorem dX5_refuse_24 : decode cX5_refuse 24 = .ok (.getfield 168, 3) := by decide +kernel
theorem dX5_refuse_27 : decode cX5_refuse 27 = .ok (.aload_n 0, 1) := by decide +kernel
theorem dX5_refuse_28 : decode cX5_refuse 28 = .ok (.getfield 18, 3) := by decide +kernel
theorem dX5_refuse_31 : decode cX5_refuse 31 = .ok (.iaload, 1) := by decide +kernel
theorem dX5_refuse_32 : decode cX5_refuse 32 = .ok (.goto 4, 3) := by decide +kernel
theorem dX5_refuse_35 : decode cX5_refuse 35 = .ok (.iconst (-1), 1) := by decide +kernel
theorem dX5_refuse_36 : decode cX5_refuse 36 = .ok (.putfield 46, 3) := by decide +kernel
theorem dX5_refuse_39 : decode cX5_refuse 39 = .ok (.iconst 0, 1) := by decide +kernel
theorem dX5_refuse_40 : decode cX5_refuse 40 = .ok (.ireturn, 1) := by decide +kernel
theorem dX5_value_0 : decode cX5_value 0 = .ok (.aload_n 0, 1) := by decide +kernel
theorem dX5_value_1 : decode cX5_value 1 = .ok (.getfield 18, 3) := by decide +kernel
theorem dX5_value_4 : decode cX5_value 4 = .ok (.aload_n 0, 1) := by decide +kernel
theorem dX5_value_5 : decode cX5_value 5 = .ok (.getfield 12, 3) := by decide +kernel
theorem dX5_value_8 : decode cX5_value 8 = .ok (.getfield 56, 3) := by decide +kernel
theorem dX5_value_11 : decode cX5_value 11 = .ok (.if_icmp .ge 18, 3) := by decide +kernel
theorem dX5_value_14 : decode cX5_value 14 = .ok (.aload_n 0, 1) := by decide +kernel
theorem dX5_value_15 : decode cX5_value 15 = .ok (.getfield 12, 3) := by decide +kernel
theorem dX5_value_18 : decode cX5_value 18 = .ok (.getfield 62, 3) := by decide +kernel
theorem dX5_value_21 : decode cX5_value 21 = .ok (.aload_n 0, 1) := by decide +kernel
theorem dX5_value_22 : decode cX5_value 22 = .ok (.getfield 18, 3) := by decide +kernel
theorem dX5_value_25 : decode cX5_value 25 = .ok (.laload, 1) := by decide +kernel
theorem dX5_value_26 : decode cX5_value 26 = .ok (.goto 4, 3) := by decide +kernel
theorem dX5_value_29 : decode cX5_value 29 = .ok (.lconst 0, 1) := by decide +kernel
theorem dX5_value_30 : decode cX5_value 30 = .ok (.lreturn, 1) := by decide +kernel
theorem dX6_isJoint_0 : decode cX6_isJoint 0 = .ok (.iload_n 0, 1) := by decide +kernel
theorem dX6_isJoint_1 : decode cX6_isJoint 1 = .ok (.bipush 15, 2) := by decide +kernel
theorem dX6_isJoint_3 : decode cX6_isJoint 3 = .ok (.if_icmp .eq 15, 3) := by decide +kernel
theorem dX6_isJoint_6 : decode cX6_isJoint 6 = .ok (.iload_n 0, 1) := by decide +kernel
theorem dX6_isJoint_7 : decode cX6_isJoint 7 = .ok (.bipush 16, 2) := by decide +kernel
theorem dX6_isJoint_9 : decode cX6_isJoint 9 = .ok (.if_icmp .eq 9, 3) := by decide +kernel
theorem dX6_isJoint_12 : decode cX6_isJoint 12 = .ok (.iload_n 0, 1) := by decide +kernel
theorem dX6_isJoint_13 : decode cX6_isJoint 13 = .ok (.bipush 24, 2) := by decide +kernel
theorem dX6_isJoint_15 : decode cX6_isJoint 15 = .ok (.if_icmp .lt 7, 3) := by decide +kernel
theorem dX6_isJoint_18 : decode cX6_isJoint 18 = .ok (.iconst 1, 1) := by decide +kernel
theorem dX6_isJoint_19 : decode cX6_isJoint 19 = .ok (.goto 4, 3) := by decide +kernel
theorem dX6_isJoint_22 : decode cX6_isJoint 22 = .ok (.iconst 0, 1) := by decide +kernel
theorem dX6_isJoint_23 : decode cX6_isJoint 23 = .ok (.ireturn, 1) := by decide +kernel
theorem dX6_joined_0 : decode cX6_joined 0 = .ok (.iload_n 0, 1) := by decide +kernel
theorem dX6_joined_1 : decode cX6_joined 1 = .ok (.tableswitch 121 15 30 #[79, 83, 121, 121, 121, 121, 121, 121, 121, 87, 91, 95, 121, 121, 99, 110], 79) := by decide +kernel
theorem dX6_joined_80 : decode cX6_joined 80 = .ok (.iload_n 1, 1) := by decide +kernel
theorem dX6_joined_81 : decode cX6_joined 81 = .ok (.iload_n 2, 1) := by decide +kernel
theorem dX6_joined_82 : decode cX6_joined 82 = .ok (.ior, 1) := by decide +kernel
theorem dX6_joined_83 : decode cX6_joined 83 = .ok (.ireturn, 1) := by decide +kernel
theorem dX6_joined_84 : decode cX6_joined 84 = .ok (.iload_n 1, 1) := by decide +kernel
theorem dX6_joined_85 : decode cX6_joined 85 = .ok (.iload_n 2, 1) := by decide +kernel
theorem dX6_joined_86 : decode cX6_joined 86 = .ok (.iand, 1) := by decide +kernel
theorem dX6_joined_87 : decode cX6_joined 87 = .ok (.ireturn, 1) := by decide +kernel
theorem dX6_joined_88 : decode cX6_joined 88 = .ok (.iload_n 1, 1) := by decide +kernel
theorem dX6_joined_89 : decode cX6_joined 89 = .ok (.iload_n 2, 1) := by decide +kernel
theorem dX6_joined_90 : decode cX6_joined 90 = .ok (.iadd, 1) := by decide +kernel
theorem dX6_joined_91 : decode cX6_joined 91 = .ok (.ireturn, 1) := by decide +kernel
theorem dX6_joined_92 : decode cX6_joined 92 = .ok (.iload_n 1, 1) := by decide +kernel
theorem dX6_joined_93 : decode cX6_joined 93 = .ok (.iload_n 2, 1) := by decide +kernel
theorem dX6_joined_94 : decode cX6_joined 94 = .ok (.isub, 1) := by decide +kernel
theorem dX6_joined_95 : decode cX6_joined 95 = .ok (.ireturn, 1) := by decide +kernel
theorem dX6_joined_96 : decode cX6_joined 96 = .ok (.iload_n 1, 1) := by decide +kernel
theorem dX6_joined_97 : decode cX6_joined 97 = .ok (.iload_n 2, 1) := by decide +kernel
theorem dX6_joined_98 : decode cX6_joined 98 = .ok (.imul, 1) := by decide +kernel
theorem dX6_joined_99 : decode cX6_joined 99 = .ok (.ireturn, 1) := by decide +kernel
theorem dX6_joined_100 : decode cX6_joined 100 = .ok (.iload_n 1, 1) := by decide +kernel
theorem dX6_joined_101 : decode cX6_joined 101 = .ok (.iload_n 2, 1) := by decide +kernel
theorem dX6_joined_102 : decode cX6_joined 102 = .ok (.if_icmp .ge 7, 3) := by decide +kernel
theorem dX6_joined_105 : decode cX6_joined 105 = .ok (.iconst 1, 1) := by decide +kernel
theorem dX6_joined_106 : decode cX6_joined 106 = .ok (.goto 4, 3) := by decide +kernel
theorem dX6_joined_109 : decode cX6_joined 109 = .ok (.iconst 0, 1) := by decide +kernel
theorem dX6_joined_110 : decode cX6_joined 110 = .ok (.ireturn, 1) := by decide +kernel
theorem dX6_joined_111 : decode cX6_joined 111 = .ok (.iload_n 1, 1) := by decide +kernel
theorem dX6_joined_112 : decode cX6_joined 112 = .ok (.iload_n 2, 1) := by decide +kernel
theorem dX6_joined_113 : decode cX6_joined 113 = .ok (.if_icmp .ne 7, 3) := by decide +kernel
theorem dX6_joined_116 : decode cX6_joined 116 = .ok (.iconst 1, 1) := by decide +kernel
theorem dX6_joined_117 : decode cX6_joined 117 = .ok (.goto 4, 3) := by decide +kernel
theorem dX6_joined_120 : decode cX6_joined 120 = .ok (.iconst 0, 1) := by decide +kernel
theorem dX6_joined_121 : decode cX6_joined 121 = .ok (.ireturn, 1) := by decide +kernel
theorem dX6_joined_122 : decode cX6_joined 122 = .ok (.iload_n 1, 1) := by decide +kernel
theorem dX6_joined_123 : decode cX6_joined 123 = .ok (.iload_n 2, 1) := by decide +kernel
theorem dX6_joined_124 : decode cX6_joined 124 = .ok (.if_icmp .le 7, 3) := by decide +kernel
theorem dX6_joined_127 : decode cX6_joined 127 = .ok (.iconst 1, 1) := by decide +kernel
theorem dX6_joined_128 : decode cX6_joined 128 = .ok (.goto 4, 3) := by decide +kernel
theorem dX6_joined_131 : decode cX6_joined 131 = .ok (.iconst 0, 1) := by decide +kernel
theorem dX6_joined_132 : decode cX6_joined 132 = .ok (.ireturn, 1) := by decide +kernel
theorem dX6_look_0 : decode cX6_look 0 = .ok (.aload_n 0, 1) := by decide +kernel
theorem dX6_look_1 : decode cX6_look 1 = .ok (.aload_n 1, 1) := by decide +kernel
theorem dX6_look_2 : decode cX6_look 2 = .ok (.putfield 18, 3) := by decide +kernel
theorem dX6_look_5 : decode cX6_look 5 = .ok (.aload_n 0, 1) := by decide +kernel
theorem dX6_look_6 : decode cX6_look 6 = .ok (.iload_n 2, 1) := by decide +kernel
theorem dX6_look_7 : decode cX6_look 7 = .ok (.invokestatic 32, 3) := by decide +kernel
theorem dX6_look_10 : decode cX6_look 10 = .ok (.putfield 22, 3) := by decide +kernel
theorem dX6_look_13 : decode cX6_look 13 = .ok (.aload_n 0, 1) := by decide +kernel
theorem dX6_look_14 : decode cX6_look 14 = .ok (.iload_n 2, 1) := by decide +kernel
theorem dX6_look_15 : decode cX6_look 15 = .ok (.invokestatic 36, 3) := by decide +kernel
theorem dX6_look_18 : decode cX6_look 18 = .ok (.putfield 26, 3) := by decide +kernel
theorem dX6_look_21 : decode cX6_look 21 = .ok (.aload_n 0, 1) := by decide +kernel
theorem dX6_look_22 : decode cX6_look 22 = .ok (.iload_n 2, 1) := by decide +kernel
theorem dX6_look_23 : decode cX6_look 23 = .ok (.invokestatic 39, 3) := by decide +kernel
theorem dX6_look_26 : decode cX6_look 26 = .ok (.putfield 29, 3) := by decide +kernel
theorem dX6_look_29 : decode cX6_look 29 = .ok (.return_, 1) := by decide +kernel
theorem dX6_operand_0 : decode cX6_operand 0 = .ok (.iload_n 1, 1) := by decide +kernel
theorem dX6_operand_1 : decode cX6_operand 1 = .ok (.iconst 2, 1) := by decide +kernel
theorem dX6_operand_2 : decode cX6_operand 2 = .ok (.if_icmp .ne 5, 3) := by decide +kernel
theorem dX6_operand_5 : decode cX6_operand 5 = .ok (.iload_n 2, 1) := by decide +kernel
theorem dX6_operand_6 : decode cX6_operand 6 = .ok (.ireturn, 1) := by decide +kernel
theorem dX6_operand_7 : decode cX6_operand 7 = .ok (.iload_n 1, 1) := by decide +kernel
theorem dX6_operand_8 : decode cX6_operand 8 = .ok (.bipush 14, 2) := by decide +kernel
theorem dX6_operand_10 : decode cX6_operand 10 = .ok (.if_icmp .ne 13, 3) := by decide +kernel
theorem dX6_operand_13 : decode cX6_operand 13 = .ok (.aload_n 0, 1) := by decide +kernel
theorem dX6_operand_14 : decode cX6_operand 14 = .ok (.getfield 18, 3) := by decide +kernel
theorem dX6_operand_17 : decode cX6_operand 17 = .ok (.bipush 50, 2) := by decide +kernel
theorem dX6_operand_19 : decode cX6_operand 19 = .ok (.invokevirtual 61, 3) := by decide +kernel
theorem dX6_operand_22 : decode cX6_operand 22 = .ok (.ireturn, 1) := by decide +kernel
theorem dX6_operand_23 : decode cX6_operand 23 = .ok (.iload_n 2, 1) := by decide +kernel
theorem dX6_operand_24 : decode cX6_operand 24 = .ok (.ifCond .ne 10, 3) := by decide +kernel
theorem dX6_operand_27 : decode cX6_operand 27 = .ok (.aload_n 0, 1) := by decide +kernel
theorem dX6_operand_28 : decode cX6_operand 28 = .ok (.getfield 22, 3) := by decide +kernel
theorem dX6_operand_31 : decode cX6_operand 31 = .ok (.goto 7, 3) := by decide +kernel
theorem dX6_operand_34 : decode cX6_operand 34 = .ok (.aload_n 0, 1) := by decide +kernel
theorem dX6_operand_35 : decode cX6_operand 35 = .ok (.getfield 26, 3) := by decide +kernel
theorem dX6_operand_38 : decode cX6_operand 38 = .ok (.istore_n 3, 1) := by decide +kernel
theorem dX6_operand_39 : decode cX6_operand 39 = .ok (.iload_n 2, 1) := by decide +kernel
theorem dX6_operand_40 : decode cX6_operand 40 = .ok (.ifCond .ne 10, 3) := by decide +kernel
theorem dX6_operand_43 : decode cX6_operand 43 = .ok (.aload_n 0, 1) := by decide +kernel
theorem dX6_operand_44 : decode cX6_operand 44 = .ok (.getfield 26, 3) := by decide +kernel
theorem dX6_operand_47 : decode cX6_operand 47 = .ok (.goto 7, 3) := by decide +kernel
theorem dX6_operand_50 : decode cX6_operand 50 = .ok (.aload_n 0, 1) := by decide +kernel
theorem dX6_operand_51 : decode cX6_operand 51 = .ok (.getfield 22, 3) := by decide +kernel
theorem dX6_operand_54 : decode cX6_operand 54 = .ok (.istore 4, 2) := by decide +kernel
theorem dX6_operand_56 : decode cX6_operand 56 = .ok (.iload_n 3, 1) := by decide +kernel
theorem dX6_operand_57 : decode cX6_operand 57 = .ok (.iconst 3, 1) := by decide +kernel
theorem dX6_operand_58 : decode cX6_operand 58 = .ok (.if_icmp .ne 5, 3) := by decide +kernel
theorem dX6_operand_61 : decode cX6_operand 61 = .ok (.iconst 0, 1) := by decide +kernel
theorem dX6_operand_62 : decode cX6_operand 62 = .ok (.ireturn, 1) := by decide +kernel
theorem dX6_operand_63 : decode cX6_operand 63 = .ok (.iload_n 1, 1) := by decide +kernel
theorem dX6_operand_64 : decode cX6_operand 64 = .ok (.tableswitch 176 7 20 #[72, 122, 176, 176, 149, 176, 176, 176, 176, 176, 176, 176, 81, 113], 72) := by decide +kernel
theorem dX6_operand_136 : decode cX6_operand 136 = .ok (.aload_n 0, 1) := by decide +kernel
theorem dX6_operand_137 : decode cX6_operand 137 = .ok (.getfield 18, 3) := by decide +kernel
theorem dX6_operand_140 : decode cX6_operand 140 = .ok (.iload_n 3, 1) := by decide +kernel
theorem dX6_operand_141 : decode cX6_operand 141 = .ok (.invokevirtual 61, 3) := by decide +kernel
theorem dX6_operand_144 : decode cX6_operand 144 = .ok (.ireturn, 1) := by decide +kernel
theorem dX6_operand_145 : decode cX6_operand 145 = .ok (.aload_n 0, 1) := by decide +kernel
theorem dX6_operand_146 : decode cX6_operand 146 = .ok (.getfield 29, 3) := by decide +kernel
theorem dX6_operand_149 : decode cX6_operand 149 = .ok (.iconst 3, 1) := by decide +kernel
theorem dX6_operand_150 : decode cX6_operand 150 = .ok (.if_icmp .eq 25, 3) := by decide +kernel
theorem dX6_operand_153 : decode cX6_operand 153 = .ok (.aload_n 0, 1) := by decide +kernel
theorem dX6_operand_154 : decode cX6_operand 154 = .ok (.getfield 18, 3) := by decide +kernel
theorem dX6_operand_157 : decode cX6_operand 157 = .ok (.bipush 40, 2) := by decide +kernel
theorem dX6_operand_159 : decode cX6_operand 159 = .ok (.aload_n 0, 1) := by decide +kernel
theorem dX6_operand_160 : decode cX6_operand 160 = .ok (.getfield 29, 3) := by decide +kernel
theorem dX6_operand_163 : decode cX6_operand 163 = .ok (.iadd, 1) := by decide +kernel
theorem dX6_operand_164 : decode cX6_operand 164 = .ok (.invokevirtual 61, 3) := by decide +kernel
theorem dX6_operand_167 : decode cX6_operand 167 = .ok (.iload_n 3, 1) := by decide +kernel
theorem dX6_operand_168 : decode cX6_operand 168 = .ok (.if_icmp .ne 7, 3) := by decide +kernel
theorem dX6_operand_171 : decode cX6_operand 171 = .ok (.iconst 1, 1) := by decide +kernel
theorem dX6_operand_172 : decode cX6_operand 172 = .ok (.goto 4, 3) := by decide +kernel
theorem dX6_operand_175 : decode cX6_operand 175 = .ok (.iconst 0, 1) := by decide +kernel
theorem dX6_operand_176 : decode cX6_operand 176 = .ok (.ireturn, 1) := by decide +kernel
theorem dX6_operand_177 : decode cX6_operand 177 = .ok (.aload_n 0, 1) := by decide +kernel
theorem dX6_operand_178 : decode cX6_operand 178 = .ok (.getfield 18, 3) := by decide +kernel
theorem dX6_operand_181 : decode cX6_operand 181 = .ok (.iload_n 3, 1) := by decide +kernel
theorem dX6_operand_182 : decode cX6_operand 182 = .ok (.invokevirtual 64, 3) := by decide +kernel
theorem dX6_operand_185 : decode cX6_operand 185 = .ok (.ireturn, 1) := by decide +kernel
theorem dX6_operand_186 : decode cX6_operand 186 = .ok (.iload 4, 2) := by decide +kernel
theorem dX6_operand_188 : decode cX6_operand 188 = .ok (.iconst 3, 1) := by decide +kernel
theorem dX6_operand_189 : decode cX6_operand 189 = .ok (.if_icmp .ne 7, 3) := by decide +kernel
theorem dX6_operand_192 : decode cX6_operand 192 = .ok (.iconst 0, 1) := by decide +kernel
theorem dX6_operand_193 : decode cX6_operand 193 = .ok (.goto 19, 3) := by decide +kernel
theorem dX6_operand_196 : decode cX6_operand 196 = .ok (.aload_n 0, 1) := by decide +kernel
theorem dX6_operand_197 : decode cX6_operand 197 = .ok (.getfield 18, 3) := by decide +kernel
theorem dX6_operand_200 : decode cX6_operand 200 = .ok (.bipush 10, 2) := by decide +kernel
theorem dX6_operand_202 : decode cX6_operand 202 = .ok (.iconst 3, 1) := by decide +kernel
theorem dX6_operand_203 : decode cX6_operand 203 = .ok (.iload_n 3, 1) := by decide +kernel
theorem dX6_operand_204 : decode cX6_operand 204 = .ok (.imul, 1) := by decide +kernel
theorem dX6_operand_205 : decode cX6_operand 205 = .ok (.iadd, 1) := by decide +kernel
theorem dX6_operand_206 : decode cX6_operand 206 = .ok (.iload 4, 2) := by decide +kernel
theorem dX6_operand_208 : decode cX6_operand 208 = .ok (.iadd, 1) := by decide +kernel
theorem dX6_operand_209 : decode cX6_operand 209 = .ok (.invokevirtual 61, 3) := by decide +kernel
theorem dX6_operand_212 : decode cX6_operand 212 = .ok (.ireturn, 1) := by decide +kernel
theorem dX6_operand_213 : decode cX6_operand 213 = .ok (.iload 4, 2) := by decide +kernel
theorem dX6_operand_215 : decode cX6_operand 215 = .ok (.iconst 3, 1) := by decide +kernel
theorem dX6_operand_216 : decode cX6_operand 216 = .ok (.if_icmp .ne 7, 3) := by decide +kernel
theorem dX6_operand_219 : decode cX6_operand 219 = .ok (.iconst 0, 1) := by decide +kernel
theorem dX6_operand_220 : decode cX6_operand 220 = .ok (.goto 19, 3) := by decide +kernel
theorem dX6_operand_223 : decode cX6_operand 223 = .ok (.aload_n 0, 1) := by decide +kernel
theorem dX6_operand_224 : decode cX6_operand 224 = .ok (.getfield 18, 3) := by decide +kernel
theorem dX6_operand_227 : decode cX6_operand 227 = .ok (.bipush 20, 2) := by decide +kernel
theorem dX6_operand_229 : decode cX6_operand 229 = .ok (.iconst 3, 1) := by decide +kernel
theorem dX6_operand_230 : decode cX6_operand 230 = .ok (.iload_n 3, 1) := by decide +kernel
theorem dX6_operand_231 : decode cX6_operand 231 = .ok (.imul, 1) := by decide +kernel
theorem dX6_operand_232 : decode cX6_operand 232 = .ok (.iadd, 1) := by decide +kernel
theorem dX6_operand_233 : decode cX6_operand 233 = .ok (.iload 4, 2) := by decide +kernel
theorem dX6_operand_235 : decode cX6_operand 235 = .ok (.iadd, 1) := by decide +kernel
theorem dX6_operand_236 : decode cX6_operand 236 = .ok (.invokevirtual 61, 3) := by decide +kernel
theorem dX6_operand_239 : decode cX6_operand 239 = .ok (.ireturn, 1) := by decide +kernel
theorem dX6_operand_240 : decode cX6_operand 240 = .ok (.iload 4, 2) := by decide +kernel
theorem dX6_operand_242 : decode cX6_operand 242 = .ok (.iconst 3, 1) := by decide +kernel
theorem dX6_operand_243 : decode cX6_operand 243 = .ok (.if_icmp .ne 7, 3) := by decide +kernel
theorem dX6_operand_246 : decode cX6_operand 246 = .ok (.iconst 0, 1) := by decide +kernel
theorem dX6_operand_247 : decode cX6_operand 247 = .ok (.goto 19, 3) := by decide +kernel
theorem dX6_operand_250 : decode cX6_operand 250 = .ok (.aload_n 0, 1) := by decide +kernel
theorem dX6_operand_251 : decode cX6_operand 251 = .ok (.getfield 18, 3) := by decide +kernel
theorem dX6_operand_254 : decode cX6_operand 254 = .ok (.bipush 30, 2) := by decide +kernel
theorem dX6_operand_256 : decode cX6_operand 256 = .ok (.iconst 3, 1) := by decide +kernel
theorem dX6_operand_257 : decode cX6_operand 257 = .ok (.iload_n 3, 1) := by decide +kernel
theorem dX6_operand_258 : decode cX6_operand 258 = .ok (.imul, 1) := by decide +kernel
theorem dX6_operand_259 : decode cX6_operand 259 = .ok (.iadd, 1) := by decide +kernel
theorem dX6_operand_260 : decode cX6_operand 260 = .ok (.iload 4, 2) := by decide +kernel
theorem dX6_operand_262 : decode cX6_operand 262 = .ok (.iadd, 1) := by decide +kernel
theorem dX6_operand_263 : decode cX6_operand 263 = .ok (.invokevirtual 61, 3) := by decide +kernel
theorem dX6_operand_266 : decode cX6_operand 266 = .ok (.ireturn, 1) := by decide +kernel
theorem dX6_person_0 : decode cX6_person 0 = .ok (.iload_n 1, 1) := by decide +kernel
theorem dX6_person_1 : decode cX6_person 1 = .ok (.ifCond .ne 8, 3) := by decide +kernel
theorem dX6_person_4 : decode cX6_person 4 = .ok (.aload_n 0, 1) := by decide +kernel
theorem dX6_person_5 : decode cX6_person 5 = .ok (.getfield 22, 3) := by decide +kernel
theorem dX6_person_8 : decode cX6_person 8 = .ok (.ireturn, 1) := by decide +kernel
theorem dX6_person_9 : decode cX6_person 9 = .ok (.iload_n 1, 1) := by decide +kernel
theorem dX6_person_10 : decode cX6_person 10 = .ok (.iconst 1, 1) := by decide +kernel
theorem dX6_person_11 : decode cX6_person 11 = .ok (.if_icmp .ne 10, 3) := by decide +kernel
theorem dX6_person_14 : decode cX6_person 14 = .ok (.aload_n 0, 1) := by decide +kernel
theorem dX6_person_15 : decode cX6_person 15 = .ok (.getfield 26, 3) := by decide +kernel
theorem dX6_person_18 : decode cX6_person 18 = .ok (.goto 4, 3) := by decide +kernel
theorem dX6_person_21 : decode cX6_person 21 = .ok (.iconst 3, 1) := by decide +kernel
theorem dX6_person_22 : decode cX6_person 22 = .ok (.ireturn, 1) := by decide +kernel
theorem dX6_value_0 : decode cX6_value 0 = .ok (.iconst 0, 1) := by decide +kernel
theorem dX6_value_1 : decode cX6_value 1 = .ok (.istore_n 2, 1) := by decide +kernel
theorem dX6_value_2 : decode cX6_value 2 = .ok (.iconst 0, 1) := by decide +kernel
theorem dX6_value_3 : decode cX6_value 3 = .ok (.istore_n 3, 1) := by decide +kernel
theorem dX6_value_4 : decode cX6_value 4 = .ok (.iload_n 3, 1) := by decide +kernel
theorem dX6_value_5 : decode cX6_value 5 = .ok (.aload_n 1, 1) := by decide +kernel
theorem dX6_value_6 : decode cX6_value 6 = .ok (.getfield 42, 3) := by decide +kernel
theorem dX6_value_9 : decode cX6_value 9 = .ok (.arraylength, 1) := by decide +kernel
theorem dX6_value_10 : decode cX6_value 10 = .ok (.if_icmp .ge 134, 3) := by decide +kernel
theorem dX6_value_13 : decode cX6_value 13 = .ok (.aload_n 1, 1) := by decide +kernel
theorem dX6_value_14 : decode cX6_value 14 = .ok (.getfield 42, 3) := by decide +kernel
theorem dX6_value_17 : decode cX6_value 17 = .ok (.iload_n 3, 1) := by decide +kernel
theorem dX6_value_18 : decode cX6_value 18 = .ok (.iaload, 1) := by decide +kernel
theorem dX6_value_19 : decode cX6_value 19 = .ok (.istore 4, 2) := by decide +kernel
theorem dX6_value_21 : decode cX6_value 21 = .ok (.iload 4, 2) := by decide +kernel
theorem dX6_value_23 : decode cX6_value 23 = .ok (.bipush 32, 2) := by decide +kernel
theorem dX6_value_25 : decode cX6_value 25 = .ok (.irem, 1) := by decide +kernel
theorem dX6_value_26 : decode cX6_value 26 = .ok (.istore 5, 2) := by decide +kernel
theorem dX6_value_28 : decode cX6_value 28 = .ok (.iload 5, 2) := by decide +kernel
theorem dX6_value_30 : decode cX6_value 30 = .ok (.invokestatic 49, 3) := by decide +kernel
theorem dX6_value_33 : decode cX6_value 33 = .ok (.ifCond .eq 40, 3) := by decide +kernel
theorem dX6_value_36 : decode cX6_value 36 = .ok (.iinc 2 (-1), 3) := by decide +kernel
theorem dX6_value_39 : decode cX6_value 39 = .ok (.iload_n 2, 1) := by decide +kernel
theorem dX6_value_40 : decode cX6_value 40 = .ok (.ifCond .le 98, 3) := by decide +kernel
theorem dX6_value_43 : decode cX6_value 43 = .ok (.aload_n 0, 1) := by decide +kernel
theorem dX6_value_44 : decode cX6_value 44 = .ok (.getfield 11, 3) := by decide +kernel
theorem dX6_value_47 : decode cX6_value 47 = .ok (.iload_n 2, 1) := by decide +kernel
theorem dX6_value_48 : decode cX6_value 48 = .ok (.iconst 1, 1) := by decide +kernel
theorem dX6_value_49 : decode cX6_value 49 = .ok (.isub, 1) := by decide +kernel
theorem dX6_value_50 : decode cX6_value 50 = .ok (.iload 5, 2) := by decide +kernel
theorem dX6_value_52 : decode cX6_value 52 = .ok (.aload_n 0, 1) := by decide +kernel
theorem dX6_value_53 : decode cX6_value 53 = .ok (.getfield 11, 3) := by decide +kernel
theorem dX6_value_56 : decode cX6_value 56 = .ok (.iload_n 2, 1) := by decide +kernel
theorem dX6_value_57 : decode cX6_value 57 = .ok (.iconst 1, 1) := by decide +kernel
theorem dX6_value_58 : decode cX6_value 58 = .ok (.isub, 1) := by decide +kernel
theorem dX6_value_59 : decode cX6_value 59 = .ok (.iaload, 1) := by decide +kernel
theorem dX6_value_60 : decode cX6_value 60 = .ok (.aload_n 0, 1) := by decide +kernel
theorem dX6_value_61 : decode cX6_value 61 = .ok (.getfield 11, 3) := by decide +kernel
theorem dX6_value_64 : decode cX6_value 64 = .ok (.iload_n 2, 1) := by decide +kernel
theorem dX6_value_65 : decode cX6_value 65 = .ok (.iaload, 1) := by decide +kernel
theorem dX6_value_66 : decode cX6_value 66 = .ok (.invokestatic 53, 3) := by decide +kernel
theorem dX6_value_69 : decode cX6_value 69 = .ok (.iastore, 1) := by decide +kernel
theorem dX6_value_70 : decode cX6_value 70 = .ok (.goto 68, 3) := by decide +kernel
theorem dX6_value_73 : decode cX6_value 73 = .ok (.iload 5, 2) := by decide +kernel
theorem dX6_value_75 : decode cX6_value 75 = .ok (.bipush 17, 2) := by decide +kernel
theorem dX6_value_77 : decode cX6_value 77 = .ok (.if_icmp .ne 28, 3) := by decide +kernel
theorem dX6_value_80 : decode cX6_value 80 = .ok (.iload_n 2, 1) := by decide +kernel
theorem dX6_value_81 : decode cX6_value 81 = .ok (.ifCond .le 57, 3) := by decide +kernel
theorem dX6_value_84 : decode cX6_value 84 = .ok (.aload_n 0, 1) := by decide +kernel
theorem dX6_value_85 : decode cX6_value 85 = .ok (.getfield 11, 3) := by decide +kernel
theorem dX6_value_88 : decode cX6_value 88 = .ok (.iload_n 2, 1) := by decide +kernel
theorem dX6_value_89 : decode cX6_value 89 = .ok (.iconst 1, 1) := by decide +kernel
theorem dX6_value_90 : decode cX6_value 90 = .ok (.isub, 1) := by decide +kernel
theorem dX6_value_91 : decode cX6_value 91 = .ok (.iconst 1, 1) := by decide +kernel
theorem dX6_value_92 : decode cX6_value 92 = .ok (.aload_n 0, 1) := by decide +kernel
theorem dX6_value_93 : decode cX6_value 93 = .ok (.getfield 11, 3) := by decide +kernel
theorem dX6_value_96 : decode cX6_value 96 = .ok (.iload_n 2, 1) := by decide +kernel
theorem dX6_value_97 : decode cX6_value 97 = .ok (.iconst 1, 1) := by decide +kernel
theorem dX6_value_98 : decode cX6_value 98 = .ok (.isub, 1) := by decide +kernel
theorem dX6_value_99 : decode cX6_value 99 = .ok (.iaload, 1) := by decide +kernel
theorem dX6_value_100 : decode cX6_value 100 = .ok (.isub, 1) := by decide +kernel
theorem dX6_value_101 : decode cX6_value 101 = .ok (.iastore, 1) := by decide +kernel
theorem dX6_value_102 : decode cX6_value 102 = .ok (.goto 36, 3) := by decide +kernel
theorem dX6_value_105 : decode cX6_value 105 = .ok (.iload_n 2, 1) := by decide +kernel
theorem dX6_value_106 : decode cX6_value 106 = .ok (.ifCond .lt 32, 3) := by decide +kernel
theorem dX6_value_109 : decode cX6_value 109 = .ok (.iload_n 2, 1) := by decide +kernel
theorem dX6_value_110 : decode cX6_value 110 = .ok (.aload_n 0, 1) := by decide +kernel
theorem dX6_value_111 : decode cX6_value 111 = .ok (.getfield 11, 3) := by decide +kernel
theorem dX6_value_114 : decode cX6_value 114 = .ok (.arraylength, 1) := by decide +kernel
theorem dX6_value_115 : decode cX6_value 115 = .ok (.if_icmp .ge 23, 3) := by decide +kernel
theorem dX6_value_118 : decode cX6_value 118 = .ok (.aload_n 0, 1) := by decide +kernel
theorem dX6_value_119 : decode cX6_value 119 = .ok (.getfield 11, 3) := by decide +kernel
theorem dX6_value_122 : decode cX6_value 122 = .ok (.iload_n 2, 1) := by decide +kernel
theorem dX6_value_123 : decode cX6_value 123 = .ok (.aload_n 0, 1) := by decide +kernel
theorem dX6_value_124 : decode cX6_value 124 = .ok (.iload 5, 2) := by decide +kernel
theorem dX6_value_126 : decode cX6_value 126 = .ok (.iload 4, 2) := by decide +kernel
theorem dX6_value_128 : decode cX6_value 128 = .ok (.bipush 32, 2) := by decide +kernel
theorem dX6_value_130 : decode cX6_value 130 = .ok (.idiv, 1) := by decide +kernel
theorem dX6_value_131 : decode cX6_value 131 = .ok (.invokevirtual 57, 3) := by decide +kernel
theorem dX6_value_134 : decode cX6_value 134 = .ok (.iastore, 1) := by decide +kernel
theorem dX6_value_135 : decode cX6_value 135 = .ok (.iinc 2 1, 3) := by decide +kernel
theorem dX6_value_138 : decode cX6_value 138 = .ok (.iinc 3 1, 3) := by decide +kernel
theorem dX6_value_141 : decode cX6_value 141 = .ok (.goto (-137), 3) := by decide +kernel
theorem dX6_value_144 : decode cX6_value 144 = .ok (.iload_n 2, 1) := by decide +kernel
theorem dX6_value_145 : decode cX6_value 145 = .ok (.ifCond .le 12, 3) := by decide +kernel
theorem dX6_value_148 : decode cX6_value 148 = .ok (.aload_n 0, 1) := by decide +kernel
theorem dX6_value_149 : decode cX6_value 149 = .ok (.getfield 11, 3) := by decide +kernel
theorem dX6_value_152 : decode cX6_value 152 = .ok (.iconst 0, 1) := by decide +kernel
theorem dX6_value_153 : decode cX6_value 153 = .ok (.iaload, 1) := by decide +kernel
theorem dX6_value_154 : decode cX6_value 154 = .ok (.goto 4, 3) := by decide +kernel
theorem dX6_value_157 : decode cX6_value 157 = .ok (.iconst 0, 1) := by decide +kernel
theorem dX6_value_158 : decode cX6_value 158 = .ok (.ireturn, 1) := by decide +kernel
theorem dX7_add_0 : decode cX7_add 0 = .ok (.aload_n 0, 1) := by decide +kernel
theorem dX7_add_1 : decode cX7_add 1 = .ok (.getfield 9, 3) := by decide +kernel
theorem dX7_add_4 : decode cX7_add 4 = .ok (.ifCond .lt 15, 3) := by decide +kernel
theorem dX7_add_7 : decode cX7_add 7 = .ok (.aload_n 0, 1) := by decide +kernel
theorem dX7_add_8 : decode cX7_add 8 = .ok (.getfield 9, 3) := by decide +kernel
theorem dX7_add_11 : decode cX7_add 11 = .ok (.aload_n 0, 1) := by decide +kernel
theorem dX7_add_12 : decode cX7_add 12 = .ok (.getfield 25, 3) := by decide +kernel
theorem dX7_add_15 : decode cX7_add 15 = .ok (.arraylength, 1) := by decide +kernel
theorem dX7_add_16 : decode cX7_add 16 = .ok (.if_icmp .lt 5, 3) := by decide +kernel
theorem dX7_add_19 : decode cX7_add 19 = .ok (.iconst (-1), 1) := by decide +kernel
theorem dX7_add_20 : decode cX7_add 20 = .ok (.ireturn, 1) := by decide +kernel
theorem dX7_add_21 : decode cX7_add 21 = .ok (.aload_n 0, 1) := by decide +kernel
theorem dX7_add_22 : decode cX7_add 22 = .ok (.getfield 25, 3) := by decide +kernel
theorem dX7_add_25 : decode cX7_add 25 = .ok (.aload_n 0, 1) := by decide +kernel
theorem dX7_add_26 : decode cX7_add 26 = .ok (.getfield 9, 3) := by decide +kernel
theorem dX7_add_29 : decode cX7_add 29 = .ok (.iload_n 1, 1) := by decide +kernel
theorem dX7_add_30 : decode cX7_add 30 = .ok (.iastore, 1) := by decide +kernel
theorem dX7_add_31 : decode cX7_add 31 = .ok (.aload_n 0, 1) := by decide +kernel
theorem dX7_add_32 : decode cX7_add 32 = .ok (.dup, 1) := by decide +kernel
theorem dX7_add_33 : decode cX7_add 33 = .ok (.getfield 9, 3) := by decide +kernel
theorem dX7_add_36 : decode cX7_add 36 = .ok (.iconst 1, 1) := by decide +kernel
theorem dX7_add_37 : decode cX7_add 37 = .ok (.iadd, 1) := by decide +kernel
theorem dX7_add_38 : decode cX7_add 38 = .ok (.putfield 9, 3) := by decide +kernel
theorem dX7_add_41 : decode cX7_add 41 = .ok (.aload_n 0, 1) := by decide +kernel
theorem dX7_add_42 : decode cX7_add 42 = .ok (.getfield 9, 3) := by decide +kernel
theorem dX7_add_45 : decode cX7_add 45 = .ok (.ireturn, 1) := by decide +kernel
theorem dX7_endOf_0 : decode cX7_endOf 0 = .ok (.iconst 0, 1) := by decide +kernel
theorem dX7_endOf_1 : decode cX7_endOf 1 = .ok (.istore 4, 2) := by decide +kernel
theorem dX7_endOf_3 : decode cX7_endOf 3 = .ok (.iconst 0, 1) := by decide +kernel
theorem dX7_endOf_4 : decode cX7_endOf 4 = .ok (.istore 5, 2) := by decide +kernel
theorem dX7_endOf_6 : decode cX7_endOf 6 = .ok (.iload 5, 2) := by decide +kernel
theorem dX7_endOf_8 : decode cX7_endOf 8 = .ok (.aload_n 0, 1) := by decide +kernel
theorem dX7_endOf_9 : decode cX7_endOf 9 = .ok (.getfield 9, 3) := by decide +kernel
theorem dX7_endOf_12 : decode cX7_endOf 12 = .ok (.if_icmp .ge 53, 3) := by decide +kernel
theorem dX7_endOf_15 : decode cX7_endOf 15 = .ok (.iload 4, 2) := by decide +kernel
theorem dX7_endOf_17 : decode cX7_endOf 17 = .ok (.aload_n 1, 1) := by decide +kernel
theorem dX7_endOf_18 : decode cX7_endOf 18 = .ok (.getfield 9, 3) := by decide +kernel
theorem dX7_endOf_21 : decode cX7_endOf 21 = .ok (.if_icmp .ge 38, 3) := by decide +kernel
theorem dX7_endOf_24 : decode cX7_endOf 24 = .ok (.aload_n 0, 1) := by decide +kernel
theorem dX7_endOf_25 : decode cX7_endOf 25 = .ok (.iload 5, 2) := by decide +kernel
theorem dX7_endOf_27 : decode cX7_endOf 27 = .ok (.invokevirtual 29, 3) := by decide +kernel
theorem dX7_endOf_30 : decode cX7_endOf 30 = .ok (.aload_n 1, 1) := by decide +kernel
theorem dX7_endOf_31 : decode cX7_endOf 31 = .ok (.iload 4, 2) := by decide +kernel
theorem dX7_endOf_33 : decode cX7_endOf 33 = .ok (.invokevirtual 29, 3) := by decide +kernel
theorem dX7_endOf_36 : decode cX7_endOf 36 = .ok (.iload_n 2, 1) := by decide +kernel
theorem dX7_endOf_37 : decode cX7_endOf 37 = .ok (.iload_n 3, 1) := by decide +kernel
theorem dX7_endOf_38 : decode cX7_endOf 38 = .ok (.invokestatic 33, 3) := by decide +kernel
theorem dX7_endOf_41 : decode cX7_endOf 41 = .ok (.if_icmp .ne 18, 3) := by decide +kernel
theorem dX7_endOf_44 : decode cX7_endOf 44 = .ok (.iinc 4 1, 3) := by decide +kernel
theorem dX7_endOf_47 : decode cX7_endOf 47 = .ok (.iload 4, 2) := by decide +kernel
theorem dX7_endOf_49 : decode cX7_endOf 49 = .ok (.aload_n 1, 1) := by decide +kernel
theorem dX7_endOf_50 : decode cX7_endOf 50 = .ok (.getfield 9, 3) := by decide +kernel
theorem dX7_endOf_53 : decode cX7_endOf 53 = .ok (.if_icmp .ne 6, 3) := by decide +kernel
theorem dX7_endOf_56 : decode cX7_endOf 56 = .ok (.iload 5, 2) := by decide +kernel
theorem dX7_endOf_58 : decode cX7_endOf 58 = .ok (.ireturn, 1) := by decide +kernel
theorem dX7_endOf_59 : decode cX7_endOf 59 = .ok (.iinc 5 1, 3) := by decide +kernel
theorem dX7_endOf_62 : decode cX7_endOf 62 = .ok (.goto (-56), 3) := by decide +kernel
theorem dX7_endOf_65 : decode cX7_endOf 65 = .ok (.iconst (-1), 1) := by decide +kernel
theorem dX7_endOf_66 : decode cX7_endOf 66 = .ok (.ireturn, 1) := by decide +kernel
theorem dX7_get_0 : decode cX7_get 0 = .ok (.iload_n 1, 1) := by decide +kernel
theorem dX7_get_1 : decode cX7_get 1 = .ok (.ifCond .lt 21, 3) := by decide +kernel
theorem dX7_get_4 : decode cX7_get 4 = .ok (.iload_n 1, 1) := by decide +kernel
theorem dX7_get_5 : decode cX7_get 5 = .ok (.aload_n 0, 1) := by decide +kernel
theorem dX7_get_6 : decode cX7_get 6 = .ok (.getfield 25, 3) := by decide +kernel
theorem dX7_get_9 : decode cX7_get 9 = .ok (.arraylength, 1) := by decide +kernel
theorem dX7_get_10 : decode cX7_get 10 = .ok (.if_icmp .ge 12, 3) := by decide +kernel
theorem dX7_get_13 : decode cX7_get 13 = .ok (.aload_n 0, 1) := by decide +kernel
theorem dX7_get_14 : decode cX7_get 14 = .ok (.getfield 25, 3) := by decide +kernel
theorem dX7_get_17 : decode cX7_get 17 = .ok (.iload_n 1, 1) := by decide +kernel
theorem dX7_get_18 : decode cX7_get 18 = .ok (.iaload, 1) := by decide +kernel
theorem dX7_get_19 : decode cX7_get 19 = .ok (.goto 4, 3) := by decide +kernel
theorem dX7_get_22 : decode cX7_get 22 = .ok (.iconst (-1), 1) := by decide +kernel
theorem dX7_get_23 : decode cX7_get 23 = .ok (.ireturn, 1) := by decide +kernel
theorem dX7_renamed_0 : decode cX7_renamed 0 = .ok (.iload_n 1, 1) := by decide +kernel
theorem dX7_renamed_1 : decode cX7_renamed 1 = .ok (.iload_n 0, 1) := by decide +kernel
theorem dX7_renamed_2 : decode cX7_renamed 2 = .ok (.invokestatic 37, 3) := by decide +kernel
theorem dX7_renamed_5 : decode cX7_renamed 5 = .ok (.invokestatic 40, 3) := by decide +kernel
theorem dX7_renamed_8 : decode cX7_renamed 8 = .ok (.istore_n 3, 1) := by decide +kernel
theorem dX7_renamed_9 : decode cX7_renamed 9 = .ok (.iload_n 1, 1) := by decide +kernel
theorem dX7_renamed_10 : decode cX7_renamed 10 = .ok (.iload_n 0, 1) := by decide +kernel
theorem dX7_renamed_11 : decode cX7_renamed 11 = .ok (.invokestatic 43, 3) := by decide +kernel
theorem dX7_renamed_14 : decode cX7_renamed 14 = .ok (.invokestatic 40, 3) := by decide +kernel
theorem dX7_renamed_17 : decode cX7_renamed 17 = .ok (.istore 4, 2) := by decide +kernel
theorem dX7_renamed_19 : decode cX7_renamed 19 = .ok (.iload_n 2, 1) := by decide +kernel
theorem dX7_renamed_20 : decode cX7_renamed 20 = .ok (.iload_n 0, 1) := by decide +kernel
theorem dX7_renamed_21 : decode cX7_renamed 21 = .ok (.invokestatic 46, 3) := by decide +kernel
theorem dX7_renamed_24 : decode cX7_renamed 24 = .ok (.invokestatic 40, 3) := by decide +kernel
theorem dX7_renamed_27 : decode cX7_renamed 27 = .ok (.istore 5, 2) := by decide +kernel
theorem dX7_renamed_29 : decode cX7_renamed 29 = .ok (.iload_n 0, 1) := by decide +kernel
theorem dX7_renamed_30 : decode cX7_renamed 30 = .ok (.bipush 64, 2) := by decide +kernel
theorem dX7_renamed_32 : decode cX7_renamed 32 = .ok (.idiv, 1) := by decide +kernel
theorem dX7_renamed_33 : decode cX7_renamed 33 = .ok (.bipush 64, 2) := by decide +kernel
theorem dX7_renamed_35 : decode cX7_renamed 35 = .ok (.imul, 1) := by decide +kernel
theorem dX7_renamed_36 : decode cX7_renamed 36 = .ok (.bipush 16, 2) := by decide +kernel
theorem dX7_renamed_38 : decode cX7_renamed 38 = .ok (.iload_n 3, 1) := by decide +kernel
theorem dX7_renamed_39 : decode cX7_renamed 39 = .ok (.imul, 1) := by decide +kernel
theorem dX7_renamed_40 : decode cX7_renamed 40 = .ok (.iadd, 1) := by decide +kernel
theorem dX7_renamed_41 : decode cX7_renamed 41 = .ok (.iconst 4, 1) := by decide +kernel
theorem dX7_renamed_42 : decode cX7_renamed 42 = .ok (.iload 4, 2) := by decide +kernel
theorem dX7_renamed_44 : decode cX7_renamed 44 = .ok (.imul, 1) := by decide +kernel
theorem dX7_renamed_45 : decode cX7_renamed 45 = .ok (.iadd, 1) := by decide +kernel
theorem dX7_renamed_46 : decode cX7_renamed 46 = .ok (.iload 5, 2) := by decide +kernel
theorem dX7_renamed_48 : decode cX7_renamed 48 = .ok (.iadd, 1) := by decide +kernel
theorem dX7_renamed_49 : decode cX7_renamed 49 = .ok (.ireturn, 1) := by decide +kernel
theorem dX8_acts_0 : decode cX8_acts 0 = .ok (.iload_n 1, 1) := by decide +kernel
theorem dX8_acts_1 : decode cX8_acts 1 = .ok (.ifCond .lt 20, 3) := by decide +kernel
theorem dX8_acts_4 : decode cX8_acts 4 = .ok (.iload_n 1, 1) := by decide +kernel
theorem dX8_acts_5 : decode cX8_acts 5 = .ok (.aload_n 0, 1) := by decide +kernel
theorem dX8_acts_6 : decode cX8_acts 6 = .ok (.getfield 64, 3) := by decide +kernel
theorem dX8_acts_9 : decode cX8_acts 9 = .ok (.if_icmp .ge 12, 3) := by decide +kernel
theorem dX8_acts_12 : decode cX8_acts 12 = .ok (.aload_n 0, 1) := by decide +kernel
theorem dX8_acts_13 : decode cX8_acts 13 = .ok (.getfield 22, 3) := by decide +kernel
theorem dX8_acts_16 : decode cX8_acts 16 = .ok (.iload_n 1, 1) := by decide +kernel
theorem dX8_acts_17 : decode cX8_acts 17 = .ok (.iaload, 1) := by decide +kernel
theorem dX8_acts_18 : decode cX8_acts 18 = .ok (.goto 4, 3) := by decide +kernel
theorem dX8_acts_21 : decode cX8_acts 21 = .ok (.iconst 0, 1) := by decide +kernel
theorem dX8_acts_22 : decode cX8_acts 22 = .ok (.ireturn, 1) := by decide +kernel
theorem dX8_begin_0 : decode cX8_begin 0 = .ok (.iload_n 1, 1) := by decide +kernel
theorem dX8_begin_1 : decode cX8_begin 1 = .ok (.aload_n 0, 1) := by decide +kernel
theorem dX8_begin_2 : decode cX8_begin 2 = .ok (.getfield 45, 3) := by decide +kernel
theorem dX8_begin_5 : decode cX8_begin 5 = .ok (.if_icmp .ne 32, 3) := by decide +kernel
theorem dX8_begin_8 : decode cX8_begin 8 = .ok (.iload_n 2, 1) := by decide +kernel
theorem dX8_begin_9 : decode cX8_begin 9 = .ok (.aload_n 0, 1) := by decide +kernel
theorem dX8_begin_10 : decode cX8_begin 10 = .ok (.getfield 48, 3) := by decide +kernel
theorem dX8_begin_13 : decode cX8_begin 13 = .ok (.if_icmp .ne 24, 3) := by decide +kernel
theorem dX8_begin_16 : decode cX8_begin 16 = .ok (.iload_n 3, 1) := by decide +kernel
theorem dX8_begin_17 : decode cX8_begin 17 = .ok (.aload_n 0, 1) := by decide +kernel
theorem dX8_begin_18 : decode cX8_begin 18 = .ok (.getfield 51, 3) := by decide +kernel
theorem dX8_begin_21 : decode cX8_begin 21 = .ok (.if_icmp .ne 16, 3) := by decide +kernel
theorem dX8_begin_24 : decode cX8_begin 24 = .ok (.iload 4, 2) := by decide +kernel
theorem dX8_begin_26 : decode cX8_begin 26 = .ok (.aload_n 0, 1) := by decide +kernel
theorem dX8_begin_27 : decode cX8_begin 27 = .ok (.getfield 54, 3) := by decide +kernel
theorem dX8_begin_30 : decode cX8_begin 30 = .ok (.if_icmp .ne 7, 3) := by decide +kernel
theorem dX8_begin_33 : decode cX8_begin 33 = .ok (.iconst 1, 1) := by decide +kernel
theorem dX8_begin_34 : decode cX8_begin 34 = .ok (.goto 4, 3) := by decide +kernel
theorem dX8_begin_37 : decode cX8_begin 37 = .ok (.iconst 0, 1) := by decide +kernel
theorem dX8_begin_38 : decode cX8_begin 38 = .ok (.istore 5, 2) := by decide +kernel
theorem dX8_begin_40 : decode cX8_begin 40 = .ok (.aload_n 0, 1) := by decide +kernel
theorem dX8_begin_41 : decode cX8_begin 41 = .ok (.getfield 60, 3) := by decide +kernel
theorem dX8_begin_44 : decode cX8_begin 44 = .ok (.ifCond .eq 9, 3) := by decide +kernel
theorem dX8_begin_47 : decode cX8_begin 47 = .ok (.iload 5, 2) := by decide +kernel
theorem dX8_begin_49 : decode cX8_begin 49 = .ok (.ifCond .eq 4, 3) := by decide +kernel
theorem dX8_begin_52 : decode cX8_begin 52 = .ok (.return_, 1) := by decide +kernel
theorem dX8_begin_53 : decode cX8_begin 53 = .ok (.aload_n 0, 1) := by decide +kernel
theorem dX8_begin_54 : decode cX8_begin 54 = .ok (.iconst 1, 1) := by decide +kernel
theorem dX8_begin_55 : decode cX8_begin 55 = .ok (.putfield 60, 3) := by decide +kernel
theorem dX8_begin_58 : decode cX8_begin 58 = .ok (.aload_n 0, 1) := by decide +kernel
theorem dX8_begin_59 : decode cX8_begin 59 = .ok (.iload_n 1, 1) := by decide +kernel
theorem dX8_begin_60 : decode cX8_begin 60 = .ok (.putfield 45, 3) := by decide +kernel
theorem dX8_begin_63 : decode cX8_begin 63 = .ok (.aload_n 0, 1) := by decide +kernel
theorem dX8_begin_64 : decode cX8_begin 64 = .ok (.iload_n 2, 1) := by decide +kernel
theorem dX8_begin_65 : decode cX8_begin 65 = .ok (.putfield 48, 3) := by decide +kernel
theorem dX8_begin_68 : decode cX8_begin 68 = .ok (.aload_n 0, 1) := by decide +kernel
theorem dX8_begin_69 : decode cX8_begin 69 = .ok (.iload_n 3, 1) := by decide +kernel
theorem dX8_begin_70 : decode cX8_begin 70 = .ok (.putfield 51, 3) := by decide +kernel
theorem dX8_begin_73 : decode cX8_begin 73 = .ok (.aload_n 0, 1) := by decide +kernel
theorem dX8_begin_74 : decode cX8_begin 74 = .ok (.iload 4, 2) := by decide +kernel
theorem dX8_begin_76 : decode cX8_begin 76 = .ok (.putfield 54, 3) := by decide +kernel
theorem dX8_begin_79 : decode cX8_begin 79 = .ok (.aload_n 0, 1) := by decide +kernel
theorem dX8_begin_80 : decode cX8_begin 80 = .ok (.invokevirtual 77, 3) := by decide +kernel
theorem dX8_begin_83 : decode cX8_begin 83 = .ok (.aload_n 0, 1) := by decide +kernel
theorem dX8_begin_84 : decode cX8_begin 84 = .ok (.getfield 32, 3) := by decide +kernel
theorem dX8_begin_87 : decode cX8_begin 87 = .ok (.iconst 0, 1) := by decide +kernel
theorem dX8_begin_88 : decode cX8_begin 88 = .ok (.invokestatic 80, 3) := by decide +kernel
theorem dX8_begin_91 : decode cX8_begin 91 = .ok (.aload_n 0, 1) := by decide +kernel
theorem dX8_begin_92 : decode cX8_begin 92 = .ok (.iconst 0, 1) := by decide +kernel
theorem dX8_begin_93 : decode cX8_begin 93 = .ok (.putfield 64, 3) := by decide +kernel
theorem dX8_begin_96 : decode cX8_begin 96 = .ok (.aload_n 0, 1) := by decide +kernel
theorem dX8_begin_97 : decode cX8_begin 97 = .ok (.iconst 0, 1) := by decide +kernel
theorem dX8_begin_98 : decode cX8_begin 98 = .ok (.putfield 57, 3) := by decide +kernel
theorem dX8_begin_101 : decode cX8_begin 101 = .ok (.aload_n 0, 1) := by decide +kernel
theorem dX8_begin_102 : decode cX8_begin 102 = .ok (.iconst 0, 1) := by decide +kernel
theorem dX8_begin_103 : decode cX8_begin 103 = .ok (.putfield 67, 3) := by decide +kernel
theorem dX8_begin_106 : decode cX8_begin 106 = .ok (.aload_n 0, 1) := by decide +kernel
theorem dX8_begin_107 : decode cX8_begin 107 = .ok (.aload_n 0, 1) := by decide +kernel
theorem dX8_begin_108 : decode cX8_begin 108 = .ok (.getfield 74, 3) := by decide +kernel
theorem dX8_begin_111 : decode cX8_begin 111 = .ok (.iconst 0, 1) := by decide +kernel
theorem dX8_begin_112 : decode cX8_begin 112 = .ok (.iconst 0, 1) := by decide +kernel
theorem dX8_begin_113 : decode cX8_begin 113 = .ok (.invokevirtual 86, 3) := by decide +kernel
theorem dX8_begin_116 : decode cX8_begin 116 = .ok (.iconst (-1), 1) := by decide +kernel
theorem dX8_begin_117 : decode cX8_begin 117 = .ok (.iconst (-1), 1) := by decide +kernel
theorem dX8_begin_118 : decode cX8_begin 118 = .ok (.invokevirtual 90, 3) := by decide +kernel
theorem dX8_begin_121 : decode cX8_begin 121 = .ok (.return_, 1) := by decide +kernel
theorem dX8_code_0 : decode cX8_code 0 = .ok (.iload_n 2, 1) := by decide +kernel
theorem dX8_code_1 : decode cX8_code 1 = .ok (.ifCond .lt 12, 3) := by decide +kernel
theorem dX8_code_4 : decode cX8_code 4 = .ok (.iload_n 2, 1) := by decide +kernel
theorem dX8_code_5 : decode cX8_code 5 = .ok (.aload_n 0, 1) := by decide +kernel
theorem dX8_code_6 : decode cX8_code 6 = .ok (.iload_n 1, 1) := by decide +kernel
theorem dX8_code_7 : decode cX8_code 7 = .ok (.invokevirtual 117, 3) := by decide +kernel
theorem dX8_code_10 : decode cX8_code 10 = .ok (.if_icmp .lt 5, 3) := by decide +kernel
theorem dX8_code_13 : decode cX8_code 13 = .ok (.iconst (-1), 1) := by decide +kernel
theorem dX8_code_14 : decode cX8_code 14 = .ok (.ireturn, 1) := by decide +kernel
theorem dX8_code_15 : decode cX8_code 15 = .ok (.iload_n 1, 1) := by decide +kernel
theorem dX8_code_16 : decode cX8_code 16 = .ok (.istore_n 3, 1) := by decide +kernel
theorem dX8_code_17 : decode cX8_code 17 = .ok (.aload_n 0, 1) := by decide +kernel
theorem dX8_code_18 : decode cX8_code 18 = .ok (.iload_n 1, 1) := by decide +kernel
theorem dX8_code_19 : decode cX8_code 19 = .ok (.invokevirtual 117, 3) := by decide +kernel
theorem dX8_code_22 : decode cX8_code 22 = .ok (.iconst 1, 1) := by decide +kernel
theorem dX8_code_23 : decode cX8_code 23 = .ok (.isub, 1) := by decide +kernel
theorem dX8_code_24 : decode cX8_code 24 = .ok (.iload_n 2, 1) := by decide +kernel
theorem dX8_code_25 : decode cX8_code 25 = .ok (.isub, 1) := by decide +kernel
theorem dX8_code_26 : decode cX8_code 26 = .ok (.istore 4, 2) := by decide +kernel
theorem dX8_code_28 : decode cX8_code 28 = .ok (.iload 4, 2) := by decide +kernel
theorem dX8_code_30 : decode cX8_code 30 = .ok (.ifCond .le 28, 3) := by decide +kernel
theorem dX8_code_33 : decode cX8_code 33 = .ok (.iload_n 3, 1) := by decide +kernel
theorem dX8_code_34 : decode cX8_code 34 = .ok (.ifCond .lt 24, 3) := by decide +kernel
theorem dX8_code_37 : decode cX8_code 37 = .ok (.iload_n 3, 1) := by decide +kernel
theorem dX8_code_38 : decode cX8_code 38 = .ok (.aload_n 0, 1) := by decide +kernel
theorem dX8_code_39 : decode cX8_code 39 = .ok (.getfield 64, 3) := by decide +kernel
theorem dX8_code_42 : decode cX8_code 42 = .ok (.if_icmp .ge 16, 3) := by decide +kernel
theorem dX8_code_45 : decode cX8_code 45 = .ok (.aload_n 0, 1) := by decide +kernel
theorem dX8_code_46 : decode cX8_code 46 = .ok (.getfield 26, 3) := by decide +kernel
theorem dX8_code_49 : decode cX8_code 49 = .ok (.iload_n 3, 1) := by decide +kernel
theorem dX8_code_50 : decode cX8_code 50 = .ok (.iaload, 1) := by decide +kernel
theorem dX8_code_51 : decode cX8_code 51 = .ok (.istore_n 3, 1) := by decide +kernel
theorem dX8_code_52 : decode cX8_code 52 = .ok (.iinc 4 (-1), 3) := by decide +kernel
theorem dX8_code_55 : decode cX8_code 55 = .ok (.goto (-27), 3) := by decide +kernel
theorem dX8_code_58 : decode cX8_code 58 = .ok (.iload_n 3, 1) := by decide +kernel
theorem dX8_code_59 : decode cX8_code 59 = .ok (.ifCond .lt 20, 3) := by decide +kernel
theorem dX8_code_62 : decode cX8_code 62 = .ok (.iload_n 3, 1) := by decide +kernel
theorem dX8_code_63 : decode cX8_code 63 = .ok (.aload_n 0, 1) := by decide +kernel
theorem dX8_code_64 : decode cX8_code 64 = .ok (.getfield 64, 3) := by decide +kernel
theorem dX8_code_67 : decode cX8_code 67 = .ok (.if_icmp .ge 12, 3) := by decide +kernel
theorem dX8_code_70 : decode cX8_code 70 = .ok (.aload_n 0, 1) := by decide +kernel
theorem dX8_code_71 : decode cX8_code 71 = .ok (.getfield 29, 3) := by decide +kernel
theorem dX8_code_74 : decode cX8_code 74 = .ok (.iload_n 3, 1) := by decide +kernel
theorem dX8_code_75 : decode cX8_code 75 = .ok (.iaload, 1) := by decide +kernel
theorem dX8_code_76 : decode cX8_code 76 = .ok (.goto 4, 3) := by decide +kernel
theorem dX8_code_79 : decode cX8_code 79 = .ok (.iconst (-1), 1) := by decide +kernel
theorem dX8_code_80 : decode cX8_code 80 = .ok (.ireturn, 1) := by decide +kernel
theorem dX8_finish_0 : decode cX8_finish 0 = .ok (.iconst 1, 1) := by decide +kernel
theorem dX8_finish_1 : decode cX8_finish 1 = .ok (.istore_n 1, 1) := by decide +kernel
theorem dX8_finish_2 : decode cX8_finish 2 = .ok (.iconst 0, 1) := by decide +kernel
theorem dX8_finish_3 : decode cX8_finish 3 = .ok (.istore_n 2, 1) := by decide +kernel
theorem dX8_finish_4 : decode cX8_finish 4 = .ok (.iload_n 2, 1) := by decide +kernel
theorem dX8_finish_5 : decode cX8_finish 5 = .ok (.sipush 400, 3) := by decide +kernel
theorem dX8_finish_8 : decode cX8_finish 8 = .ok (.if_icmp .gt 18, 3) := by decide +kernel
theorem dX8_finish_11 : decode cX8_finish 11 = .ok (.iload_n 1, 1) := by decide +kernel
theorem dX8_finish_12 : decode cX8_finish 12 = .ok (.ifCond .eq 14, 3) := by decide +kernel
theorem dX8_finish_15 : decode cX8_finish 15 = .ok (.aload_n 0, 1) := by decide +kernel
theorem dX8_finish_16 : decode cX8_finish 16 = .ok (.invokevirtual 133, 3) := by decide +kernel
theorem dX8_finish_19 : decode cX8_finish 19 = .ok (.istore_n 1, 1) := by decide +kernel
theorem dX8_finish_20 : decode cX8_finish 20 = .ok (.iinc 2 1, 3) := by decide +kernel
theorem dX8_finish_23 : decode cX8_finish 23 = .ok (.goto (-19), 3) := by decide +kernel
theorem dX8_finish_26 : decode cX8_finish 26 = .ok (.return_, 1) := by decide +kernel
theorem dX8_first_0 : decode cX8_first 0 = .ok (.iload_n 1, 1) := by decide +kernel
theorem dX8_first_1 : decode cX8_first 1 = .ok (.ifCond .lt 20, 3) := by decide +kernel
theorem dX8_first_4 : decode cX8_first 4 = .ok (.iload_n 1, 1) := by decide +kernel
theorem dX8_first_5 : decode cX8_first 5 = .ok (.aload_n 0, 1) := by decide +kernel
theorem dX8_first_6 : decode cX8_first 6 = .ok (.getfield 70, 3) := by decide +kernel
theorem dX8_first_9 : decode cX8_first 9 = .ok (.getfield 101, 3) := by decide +kernel
theorem dX8_first_12 : decode cX8_first 12 = .ok (.getfield 137, 3) := by decide +kernel
theorem dX8_first_15 : decode cX8_first 15 = .ok (.invokevirtual 141, 3) := by decide +kernel
theorem dX8_first_18 : decode cX8_first 18 = .ok (.if_icmp .lt 5, 3) := by decide +kernel
theorem dX8_first_21 : decode cX8_first 21 = .ok (.iconst (-1), 1) := by decide +kernel
theorem dX8_first_22 : decode cX8_first 22 = .ok (.ireturn, 1) := by decide +kernel
theorem dX8_first_23 : decode cX8_first 23 = .ok (.aload_n 0, 1) := by decide +kernel
theorem dX8_first_24 : decode cX8_first 24 = .ok (.getfield 70, 3) := by decide +kernel
theorem dX8_first_27 : decode cX8_first 27 = .ok (.getfield 101, 3) := by decide +kernel
theorem dX8_first_30 : decode cX8_first 30 = .ok (.getfield 137, 3) := by decide +kernel
theorem dX8_first_33 : decode cX8_first 33 = .ok (.iload_n 1, 1) := by decide +kernel
theorem dX8_first_34 : decode cX8_first 34 = .ok (.invokevirtual 147, 3) := by decide +kernel
theorem dX8_first_37 : decode cX8_first 37 = .ok (.checkcast 151, 3) := by decide +kernel
theorem dX8_first_40 : decode cX8_first 40 = .ok (.astore_n 2, 1) := by decide +kernel
theorem dX8_first_41 : decode cX8_first 41 = .ok (.iconst 0, 1) := by decide +kernel
theorem dX8_first_42 : decode cX8_first 42 = .ok (.istore_n 3, 1) := by decide +kernel
theorem dX8_first_43 : decode cX8_first 43 = .ok (.iconst 0, 1) := by decide +kernel
theorem dX8_first_44 : decode cX8_first 44 = .ok (.istore 4, 2) := by decide +kernel
theorem dX8_first_46 : decode cX8_first 46 = .ok (.iload 4, 2) := by decide +kernel
theorem dX8_first_48 : decode cX8_first 48 = .ok (.sipush 400, 3) := by decide +kernel
theorem dX8_first_51 : decode cX8_first 51 = .ok (.if_icmp .gt 54, 3) := by decide +kernel
theorem dX8_first_54 : decode cX8_first 54 = .ok (.iload_n 3, 1) := by decide +kernel
theorem dX8_first_55 : decode cX8_first 55 = .ok (.aload_n 0, 1) := by decide +kernel
theorem dX8_first_56 : decode cX8_first 56 = .ok (.getfield 64, 3) := by decide +kernel
theorem dX8_first_59 : decode cX8_first 59 = .ok (.if_icmp .ge 31, 3) := by decide +kernel
theorem dX8_first_62 : decode cX8_first 62 = .ok (.aload_n 0, 1) := by decide +kernel
theorem dX8_first_63 : decode cX8_first 63 = .ok (.iload_n 3, 1) := by decide +kernel
theorem dX8_first_64 : decode cX8_first 64 = .ok (.invokevirtual 153, 3) := by decide +kernel
theorem dX8_first_67 : decode cX8_first 67 = .ok (.aload_n 0, 1) := by decide +kernel
theorem dX8_first_68 : decode cX8_first 68 = .ok (.getfield 70, 3) := by decide +kernel
theorem dX8_first_71 : decode cX8_first 71 = .ok (.aload_n 0, 1) := by decide +kernel
theorem dX8_first_72 : decode cX8_first 72 = .ok (.getfield 12, 3) := by decide +kernel
theorem dX8_first_75 : decode cX8_first 75 = .ok (.aload_n 2, 1) := by decide +kernel
theorem dX8_first_76 : decode cX8_first 76 = .ok (.invokevirtual 157, 3) := by decide +kernel
theorem dX8_first_79 : decode cX8_first 79 = .ok (.ifCond .eq 5, 3) := by decide +kernel
theorem dX8_first_82 : decode cX8_first 82 = .ok (.iload_n 3, 1) := by decide +kernel
theorem dX8_first_83 : decode cX8_first 83 = .ok (.ireturn, 1) := by decide +kernel
theorem dX8_first_84 : decode cX8_first 84 = .ok (.iinc 3 1, 3) := by decide +kernel
theorem dX8_first_87 : decode cX8_first 87 = .ok (.goto (-33), 3) := by decide +kernel
theorem dX8_first_90 : decode cX8_first 90 = .ok (.aload_n 0, 1) := by decide +kernel
theorem dX8_first_91 : decode cX8_first 91 = .ok (.invokevirtual 133, 3) := by decide +kernel
theorem dX8_first_94 : decode cX8_first 94 = .ok (.ifCond .ne 5, 3) := by decide +kernel
theorem dX8_first_97 : decode cX8_first 97 = .ok (.iconst (-1), 1) := by decide +kernel
theorem dX8_first_98 : decode cX8_first 98 = .ok (.ireturn, 1) := by decide +kernel
theorem dX8_first_99 : decode cX8_first 99 = .ok (.iinc 4 1, 3) := by decide +kernel
theorem dX8_first_102 : decode cX8_first 102 = .ok (.goto (-56), 3) := by decide +kernel
theorem dX8_first_105 : decode cX8_first 105 = .ok (.iconst (-1), 1) := by decide +kernel
theorem dX8_first_106 : decode cX8_first 106 = .ok (.ireturn, 1) := by decide +kernel
theorem dX8_forget_0 : decode cX8_forget 0 = .ok (.aload_n 0, 1) := by decide +kernel
theorem dX8_forget_1 : decode cX8_forget 1 = .ok (.iconst 0, 1) := by decide +kernel
theorem dX8_forget_2 : decode cX8_forget 2 = .ok (.putfield 60, 3) := by decide +kernel
theorem dX8_forget_5 : decode cX8_forget 5 = .ok (.return_, 1) := by decide +kernel
theorem dX8_grow_0 : decode cX8_grow 0 = .ok (.aload_n 0, 1) := by decide +kernel
theorem dX8_grow_1 : decode cX8_grow 1 = .ok (.getfield 67, 3) := by decide +kernel
theorem dX8_grow_4 : decode cX8_grow 4 = .ok (.ifCond .ne 30, 3) := by decide +kernel
theorem dX8_grow_7 : decode cX8_grow 7 = .ok (.aload_n 0, 1) := by decide +kernel
theorem dX8_grow_8 : decode cX8_grow 8 = .ok (.getfield 57, 3) := by decide +kernel
theorem dX8_grow_11 : decode cX8_grow 11 = .ok (.aload_n 0, 1) := by decide +kernel
theorem dX8_grow_12 : decode cX8_grow 12 = .ok (.getfield 64, 3) := by decide +kernel
theorem dX8_grow_15 : decode cX8_grow 15 = .ok (.if_icmp .ge 19, 3) := by decide +kernel
theorem dX8_grow_18 : decode cX8_grow 18 = .ok (.aload_n 0, 1) := by decide +kernel
theorem dX8_grow_19 : decode cX8_grow 19 = .ok (.getfield 22, 3) := by decide +kernel
theorem dX8_grow_22 : decode cX8_grow 22 = .ok (.aload_n 0, 1) := by decide +kernel
theorem dX8_grow_23 : decode cX8_grow 23 = .ok (.getfield 57, 3) := by decide +kernel
theorem dX8_grow_26 : decode cX8_grow 26 = .ok (.iaload, 1) := by decide +kernel
theorem dX8_grow_27 : decode cX8_grow 27 = .ok (.aload_n 0, 1) := by decide +kernel
theorem dX8_grow_28 : decode cX8_grow 28 = .ok (.getfield 48, 3) := by decide +kernel
theorem dX8_grow_31 : decode cX8_grow 31 = .ok (.if_icmp .lt 5, 3) := by decide +kernel
theorem dX8_grow_34 : decode cX8_grow 34 = .ok (.iconst 0, 1) := by decide +kernel
theorem dX8_grow_35 : decode cX8_grow 35 = .ok (.ireturn, 1) := by decide +kernel
theorem dX8_grow_36 : decode cX8_grow 36 = .ok (.aload_n 0, 1) := by decide +kernel
theorem dX8_grow_37 : decode cX8_grow 37 = .ok (.getfield 12, 3) := by decide +kernel
theorem dX8_grow_40 : decode cX8_grow 40 = .ok (.aload_n 0, 1) := by decide +kernel
theorem dX8_grow_41 : decode cX8_grow 41 = .ok (.getfield 18, 3) := by decide +kernel
theorem dX8_grow_44 : decode cX8_grow 44 = .ok (.aload_n 0, 1) := by decide +kernel
theorem dX8_grow_45 : decode cX8_grow 45 = .ok (.getfield 57, 3) := by decide +kernel
theorem dX8_grow_48 : decode cX8_grow 48 = .ok (.laload, 1) := by decide +kernel
theorem dX8_grow_49 : decode cX8_grow 49 = .ok (.invokevirtual 122, 3) := by decide +kernel
theorem dX8_grow_52 : decode cX8_grow 52 = .ok (.iconst 0, 1) := by decide +kernel
theorem dX8_grow_53 : decode cX8_grow 53 = .ok (.istore_n 1, 1) := by decide +kernel
theorem dX8_grow_54 : decode cX8_grow 54 = .ok (.iload_n 1, 1) := by decide +kernel
theorem dX8_grow_55 : decode cX8_grow 55 = .ok (.aload_n 0, 1) := by decide +kernel
theorem dX8_grow_56 : decode cX8_grow 56 = .ok (.getfield 41, 3) := by decide +kernel
theorem dX8_grow_59 : decode cX8_grow 59 = .ok (.if_icmp .ge 71, 3) := by decide +kernel
theorem dX8_grow_62 : decode cX8_grow 62 = .ok (.aload_n 0, 1) := by decide +kernel
theorem dX8_grow_63 : decode cX8_grow 63 = .ok (.getfield 67, 3) := by decide +kernel
theorem dX8_grow_66 : decode cX8_grow 66 = .ok (.ifCond .ne 64, 3) := by decide +kernel
theorem dX8_grow_69 : decode cX8_grow 69 = .ok (.aload_n 0, 1) := by decide +kernel
theorem dX8_grow_70 : decode cX8_grow 70 = .ok (.getfield 70, 3) := by decide +kernel
theorem dX8_grow_73 : decode cX8_grow 73 = .ok (.aload_n 0, 1) := by decide +kernel
theorem dX8_grow_74 : decode cX8_grow 74 = .ok (.getfield 12, 3) := by decide +kernel
theorem dX8_grow_77 : decode cX8_grow 77 = .ok (.aload_n 0, 1) := by decide +kernel
theorem dX8_grow_78 : decode cX8_grow 78 = .ok (.getfield 38, 3) := by decide +kernel
theorem dX8_grow_81 : decode cX8_grow 81 = .ok (.iload_n 1, 1) := by decide +kernel
theorem dX8_grow_82 : decode cX8_grow 82 = .ok (.iaload, 1) := by decide +kernel
theorem dX8_grow_83 : decode cX8_grow 83 = .ok (.aload_n 0, 1) := by decide +kernel
theorem dX8_grow_84 : decode cX8_grow 84 = .ok (.getfield 45, 3) := by decide +kernel
theorem dX8_grow_87 : decode cX8_grow 87 = .ok (.aload_n 0, 1) := by decide +kernel
theorem dX8_grow_88 : decode cX8_grow 88 = .ok (.getfield 54, 3) := by decide +kernel
theorem dX8_grow_91 : decode cX8_grow 91 = .ok (.invokevirtual 126, 3) := by decide +kernel
theorem dX8_grow_94 : decode cX8_grow 94 = .ok (.iconst (-1), 1) := by decide +kernel
theorem dX8_grow_95 : decode cX8_grow 95 = .ok (.if_icmp .ne 29, 3) := by decide +kernel
theorem dX8_grow_98 : decode cX8_grow 98 = .ok (.aload_n 0, 1) := by decide +kernel
theorem dX8_grow_99 : decode cX8_grow 99 = .ok (.aload_n 0, 1) := by decide +kernel
theorem dX8_grow_100 : decode cX8_grow 100 = .ok (.getfield 70, 3) := by decide +kernel
theorem dX8_grow_103 : decode cX8_grow 103 = .ok (.getfield 130, 3) := by decide +kernel
theorem dX8_grow_106 : decode cX8_grow 106 = .ok (.iconst 0, 1) := by decide +kernel
theorem dX8_grow_107 : decode cX8_grow 107 = .ok (.iconst 0, 1) := by decide +kernel
theorem dX8_grow_108 : decode cX8_grow 108 = .ok (.invokevirtual 86, 3) := by decide +kernel
theorem dX8_grow_111 : decode cX8_grow 111 = .ok (.aload_n 0, 1) := by decide +kernel
theorem dX8_grow_112 : decode cX8_grow 112 = .ok (.getfield 57, 3) := by decide +kernel
theorem dX8_grow_115 : decode cX8_grow 115 = .ok (.aload_n 0, 1) := by decide +kernel
theorem dX8_grow_116 : decode cX8_grow 116 = .ok (.getfield 38, 3) := by decide +kernel
theorem dX8_grow_119 : decode cX8_grow 119 = .ok (.iload_n 1, 1) := by decide +kernel
theorem dX8_grow_120 : decode cX8_grow 120 = .ok (.iaload, 1) := by decide +kernel
theorem dX8_grow_121 : decode cX8_grow 121 = .ok (.invokevirtual 90, 3) := by decide +kernel
theorem dX8_grow_124 : decode cX8_grow 124 = .ok (.iinc 1 1, 3) := by decide +kernel
theorem dX8_grow_127 : decode cX8_grow 127 = .ok (.goto (-73), 3) := by decide +kernel
theorem dX8_grow_130 : decode cX8_grow 130 = .ok (.aload_n 0, 1) := by decide +kernel
theorem dX8_grow_131 : decode cX8_grow 131 = .ok (.dup, 1) := by decide +kernel
theorem dX8_grow_132 : decode cX8_grow 132 = .ok (.getfield 57, 3) := by decide +kernel
theorem dX8_grow_135 : decode cX8_grow 135 = .ok (.iconst 1, 1) := by decide +kernel
theorem dX8_grow_136 : decode cX8_grow 136 = .ok (.iadd, 1) := by decide +kernel
theorem dX8_grow_137 : decode cX8_grow 137 = .ok (.putfield 57, 3) := by decide +kernel
theorem dX8_grow_140 : decode cX8_grow 140 = .ok (.iconst 1, 1) := by decide +kernel
theorem dX8_grow_141 : decode cX8_grow 141 = .ok (.ireturn, 1) := by decide +kernel
theorem dX8_leastName_0 : decode cX8_leastName 0 = .ok (.aload_n 0, 1) := by decide +kernel
theorem dX8_leastName_1 : decode cX8_leastName 1 = .ok (.getfield 12, 3) := by decide +kernel
theorem dX8_leastName_4 : decode cX8_leastName 4 = .ok (.iconst 0, 1) := by decide +kernel
theorem dX8_leastName_5 : decode cX8_leastName 5 = .ok (.iconst 0, 1) := by decide +kernel
theorem dX8_leastName_6 : decode cX8_leastName 6 = .ok (.invokevirtual 86, 3) := by decide +kernel
theorem dX8_leastName_9 : decode cX8_leastName 9 = .ok (.lstore_n 1, 1) := by decide +kernel
theorem dX8_leastName_10 : decode cX8_leastName 10 = .ok (.iconst 1, 1) := by decide +kernel
theorem dX8_leastName_11 : decode cX8_leastName 11 = .ok (.istore_n 3, 1) := by decide +kernel
theorem dX8_leastName_12 : decode cX8_leastName 12 = .ok (.iload_n 3, 1) := by decide +kernel
theorem dX8_leastName_13 : decode cX8_leastName 13 = .ok (.bipush 36, 2) := by decide +kernel
theorem dX8_leastName_15 : decode cX8_leastName 15 = .ok (.if_icmp .ge 29, 3) := by decide +kernel
theorem dX8_leastName_18 : decode cX8_leastName 18 = .ok (.lload_n 1, 1) := by decide +kernel
theorem dX8_leastName_19 : decode cX8_leastName 19 = .ok (.aload_n 0, 1) := by decide +kernel
theorem dX8_leastName_20 : decode cX8_leastName 20 = .ok (.getfield 12, 3) := by decide +kernel
theorem dX8_leastName_23 : decode cX8_leastName 23 = .ok (.iload_n 3, 1) := by decide +kernel
theorem dX8_leastName_24 : decode cX8_leastName 24 = .ok (.bipush 6, 2) := by decide +kernel
theorem dX8_leastName_26 : decode cX8_leastName 26 = .ok (.idiv, 1) := by decide +kernel
theorem dX8_leastName_27 : decode cX8_leastName 27 = .ok (.iload_n 3, 1) := by decide +kernel
theorem dX8_leastName_28 : decode cX8_leastName 28 = .ok (.bipush 6, 2) := by decide +kernel
theorem dX8_leastName_30 : decode cX8_leastName 30 = .ok (.irem, 1) := by decide +kernel
theorem dX8_leastName_31 : decode cX8_leastName 31 = .ok (.invokevirtual 86, 3) := by decide +kernel
theorem dX8_leastName_34 : decode cX8_leastName 34 = .ok (.invokestatic 171, 3) := by decide +kernel
theorem dX8_leastName_37 : decode cX8_leastName 37 = .ok (.lstore_n 1, 1) := by decide +kernel
theorem dX8_leastName_38 : decode cX8_leastName 38 = .ok (.iinc 3 1, 3) := by decide +kernel
theorem dX8_leastName_41 : decode cX8_leastName 41 = .ok (.goto (-29), 3) := by decide +kernel
theorem dX8_leastName_44 : decode cX8_leastName 44 = .ok (.lload_n 1, 1) := by decide +kernel
theorem dX8_leastName_45 : decode cX8_leastName 45 = .ok (.lreturn, 1) := by decide +kernel
theorem dX8_listCodes_0 : decode cX8_listCodes 0 = .ok (.aload_n 0, 1) := by decide +kernel
theorem dX8_listCodes_1 : decode cX8_listCodes 1 = .ok (.iconst 0, 1) := by decide +kernel
theorem dX8_listCodes_2 : decode cX8_listCodes 2 = .ok (.putfield 41, 3) := by decide +kernel
theorem dX8_listCodes_5 : decode cX8_listCodes 5 = .ok (.iconst 0, 1) := by decide +kernel
theorem dX8_listCodes_6 : decode cX8_listCodes 6 = .ok (.istore_n 1, 1) := by decide +kernel
theorem dX8_listCodes_7 : decode cX8_listCodes 7 = .ok (.iload_n 1, 1) := by decide +kernel
theorem dX8_listCodes_8 : decode cX8_listCodes 8 = .ok (.sipush 768, 3) := by decide +kernel
theorem dX8_listCodes_11 : decode cX8_listCodes 11 = .ok (.if_icmp .ge 106, 3) := by decide +kernel
theorem dX8_listCodes_14 : decode cX8_listCodes 14 = .ok (.iload_n 1, 1) := by decide +kernel
theorem dX8_listCodes_15 : decode cX8_listCodes 15 = .ok (.invokestatic 94, 3) := by decide +kernel
theorem dX8_listCodes_18 : decode cX8_listCodes 18 = .ok (.istore_n 2, 1) := by decide +kernel
theorem dX8_listCodes_19 : decode cX8_listCodes 19 = .ok (.aload_n 0, 1) := by decide +kernel
theorem dX8_listCodes_20 : decode cX8_listCodes 20 = .ok (.getfield 51, 3) := by decide +kernel
theorem dX8_listCodes_23 : decode cX8_listCodes 23 = .ok (.iload_n 1, 1) := by decide +kernel
theorem dX8_listCodes_24 : decode cX8_listCodes 24 = .ok (.invokestatic 98, 3) := by decide +kernel
theorem dX8_listCodes_27 : decode cX8_listCodes 27 = .ok (.ishr, 1) := by decide +kernel
theorem dX8_listCodes_28 : decode cX8_listCodes 28 = .ok (.iconst 1, 1) := by decide +kernel
theorem dX8_listCodes_29 : decode cX8_listCodes 29 = .ok (.iand, 1) := by decide +kernel
theorem dX8_listCodes_30 : decode cX8_listCodes 30 = .ok (.iconst 1, 1) := by decide +kernel
theorem dX8_listCodes_31 : decode cX8_listCodes 31 = .ok (.if_icmp .ne 24, 3) := by decide +kernel
theorem dX8_listCodes_34 : decode cX8_listCodes 34 = .ok (.iload_n 2, 1) := by decide +kernel
theorem dX8_listCodes_35 : decode cX8_listCodes 35 = .ok (.iconst 3, 1) := by decide +kernel
theorem dX8_listCodes_36 : decode cX8_listCodes 36 = .ok (.if_icmp .eq 15, 3) := by decide +kernel
theorem dX8_listCodes_39 : decode cX8_listCodes 39 = .ok (.aload_n 0, 1) := by decide +kernel
theorem dX8_listCodes_40 : decode cX8_listCodes 40 = .ok (.getfield 51, 3) := by decide +kernel
theorem dX8_listCodes_43 : decode cX8_listCodes 43 = .ok (.iload_n 2, 1) := by decide +kernel
theorem dX8_listCodes_44 : decode cX8_listCodes 44 = .ok (.ishr, 1) := by decide +kernel
theorem dX8_listCodes_45 : decode cX8_listCodes 45 = .ok (.iconst 1, 1) := by decide +kernel
theorem dX8_listCodes_46 : decode cX8_listCodes 46 = .ok (.iand, 1) := by decide +kernel
theorem dX8_listCodes_47 : decode cX8_listCodes 47 = .ok (.iconst 1, 1) := by decide +kernel
theorem dX8_listCodes_48 : decode cX8_listCodes 48 = .ok (.if_icmp .ne 7, 3) := by decide +kernel
theorem dX8_listCodes_51 : decode cX8_listCodes 51 = .ok (.iconst 1, 1) := by decide +kernel
theorem dX8_listCodes_52 : decode cX8_listCodes 52 = .ok (.goto 4, 3) := by decide +kernel
theorem dX8_listCodes_55 : decode cX8_listCodes 55 = .ok (.iconst 0, 1) := by decide +kernel
theorem dX8_listCodes_56 : decode cX8_listCodes 56 = .ok (.istore_n 3, 1) := by decide +kernel
theorem dX8_listCodes_57 : decode cX8_listCodes 57 = .ok (.iload_n 3, 1) := by decide +kernel
theorem dX8_listCodes_58 : decode cX8_listCodes 58 = .ok (.ifCond .eq 53, 3) := by decide +kernel
theorem dX8_listCodes_61 : decode cX8_listCodes 61 = .ok (.aload_n 0, 1) := by decide +kernel
theorem dX8_listCodes_62 : decode cX8_listCodes 62 = .ok (.getfield 41, 3) := by decide +kernel
theorem dX8_listCodes_65 : decode cX8_listCodes 65 = .ok (.aload_n 0, 1) := by decide +kernel
theorem dX8_listCodes_66 : decode cX8_listCodes 66 = .ok (.getfield 38, 3) := by decide +kernel
theorem dX8_listCodes_69 : decode cX8_listCodes 69 = .ok (.arraylength, 1) := by decide +kernel
theorem dX8_listCodes_70 : decode cX8_listCodes 70 = .ok (.if_icmp .ge 41, 3) := by decide +kernel
theorem dX8_listCodes_73 : decode cX8_listCodes 73 = .ok (.aload_n 0, 1) := by decide +kernel
theorem dX8_listCodes_74 : decode cX8_listCodes 74 = .ok (.getfield 70, 3) := by decide +kernel
theorem dX8_listCodes_77 : decode cX8_listCodes 77 = .ok (.getfield 101, 3) := by decide +kernel
theorem dX8_listCodes_80 : decode cX8_listCodes 80 = .ok (.iload_n 1, 1) := by decide +kernel
theorem dX8_listCodes_81 : decode cX8_listCodes 81 = .ok (.aload_n 0, 1) := by decide +kernel
theorem dX8_listCodes_82 : decode cX8_listCodes 82 = .ok (.getfield 45, 3) := by decide +kernel
theorem dX8_listCodes_85 : decode cX8_listCodes 85 = .ok (.invokevirtual 107, 3) := by decide +kernel
theorem dX8_listCodes_88 : decode cX8_listCodes 88 = .ok (.ifnull 23, 3) := by decide +kernel
theorem dX8_listCodes_91 : decode cX8_listCodes 91 = .ok (.aload_n 0, 1) := by decide +kernel
theorem dX8_listCodes_92 : decode cX8_listCodes 92 = .ok (.getfield 38, 3) := by decide +kernel
theorem dX8_listCodes_95 : decode cX8_listCodes 95 = .ok (.aload_n 0, 1) := by decide +kernel
theorem dX8_listCodes_96 : decode cX8_listCodes 96 = .ok (.getfield 41, 3) := by decide +kernel
theorem dX8_listCodes_99 : decode cX8_listCodes 99 = .ok (.iload_n 1, 1) := by decide +kernel
theorem dX8_listCodes_100 : decode cX8_listCodes 100 = .ok (.iastore, 1) := by decide +kernel
theorem dX8_listCodes_101 : decode cX8_listCodes 101 = .ok (.aload_n 0, 1) := by decide +kernel
theorem dX8_listCodes_102 : decode cX8_listCodes 102 = .ok (.dup, 1) := by decide +kernel
theorem dX8_listCodes_103 : decode cX8_listCodes 103 = .ok (.getfield 41, 3) := by decide +kernel
theorem dX8_listCodes_106 : decode cX8_listCodes 106 = .ok (.iconst 1, 1) := by decide +kernel
theorem dX8_listCodes_107 : decode cX8_listCodes 107 = .ok (.iadd, 1) := by decide +kernel
theorem dX8_listCodes_108 : decode cX8_listCodes 108 = .ok (.putfield 41, 3) := by decide +kernel
theorem dX8_listCodes_111 : decode cX8_listCodes 111 = .ok (.iinc 1 1, 3) := by decide +kernel
theorem dX8_listCodes_114 : decode cX8_listCodes 114 = .ok (.goto (-107), 3) := by decide +kernel
theorem dX8_listCodes_117 : decode cX8_listCodes 117 = .ok (.return_, 1) := by decide +kernel
theorem dX8_load_0 : decode cX8_load 0 = .ok (.iload_n 1, 1) := by decide +kernel
theorem dX8_load_1 : decode cX8_load 1 = .ok (.ifCond .lt 24, 3) := by decide +kernel
theorem dX8_load_4 : decode cX8_load 4 = .ok (.iload_n 1, 1) := by decide +kernel
theorem dX8_load_5 : decode cX8_load 5 = .ok (.aload_n 0, 1) := by decide +kernel
theorem dX8_load_6 : decode cX8_load 6 = .ok (.getfield 64, 3) := by decide +kernel
theorem dX8_load_9 : decode cX8_load 9 = .ok (.if_icmp .ge 16, 3) := by decide +kernel
theorem dX8_load_12 : decode cX8_load 12 = .ok (.aload_n 0, 1) := by decide +kernel
theorem dX8_load_13 : decode cX8_load 13 = .ok (.getfield 12, 3) := by decide +kernel
theorem dX8_load_16 : decode cX8_load 16 = .ok (.aload_n 0, 1) := by decide +kernel
theorem dX8_load_17 : decode cX8_load 17 = .ok (.getfield 18, 3) := by decide +kernel
theorem dX8_load_20 : decode cX8_load 20 = .ok (.iload_n 1, 1) := by decide +kernel
theorem dX8_load_21 : decode cX8_load 21 = .ok (.laload, 1) := by decide +kernel
theorem dX8_load_22 : decode cX8_load 22 = .ok (.invokevirtual 122, 3) := by decide +kernel
theorem dX8_load_25 : decode cX8_load 25 = .ok (.return_, 1) := by decide +kernel
theorem dX8_meet_0 : decode cX8_meet 0 = .ok (.aload_n 0, 1) := by decide +kernel
theorem dX8_meet_1 : decode cX8_meet 1 = .ok (.lload_n 1, 1) := by decide +kernel
theorem dX8_meet_2 : decode cX8_meet 2 = .ok (.invokevirtual 113, 3) := by decide +kernel
theorem dX8_meet_5 : decode cX8_meet 5 = .ok (.istore 5, 2) := by decide +kernel
theorem dX8_meet_7 : decode cX8_meet 7 = .ok (.aload_n 0, 1) := by decide +kernel
theorem dX8_meet_8 : decode cX8_meet 8 = .ok (.getfield 32, 3) := by decide +kernel
theorem dX8_meet_11 : decode cX8_meet 11 = .ok (.iload 5, 2) := by decide +kernel
theorem dX8_meet_13 : decode cX8_meet 13 = .ok (.iaload, 1) := by decide +kernel
theorem dX8_meet_14 : decode cX8_meet 14 = .ok (.ifCond .eq 4, 3) := by decide +kernel
theorem dX8_meet_17 : decode cX8_meet 17 = .ok (.return_, 1) := by decide +kernel
theorem dX8_meet_18 : decode cX8_meet 18 = .ok (.aload_n 0, 1) := by decide +kernel
theorem dX8_meet_19 : decode cX8_meet 19 = .ok (.getfield 64, 3) := by decide +kernel
theorem dX8_meet_22 : decode cX8_meet 22 = .ok (.sipush 400, 3) := by decide +kernel
theorem dX8_meet_25 : decode cX8_meet 25 = .ok (.if_icmp .lt 9, 3) := by decide +kernel
theorem dX8_meet_28 : decode cX8_meet 28 = .ok (.aload_n 0, 1) := by decide +kernel
theorem dX8_meet_29 : decode cX8_meet 29 = .ok (.iconst 1, 1) := by decide +kernel
theorem dX8_meet_30 : decode cX8_meet 30 = .ok (.putfield 67, 3) := by decide +kernel
theorem dX8_meet_33 : decode cX8_meet 33 = .ok (.return_, 1) := by decide +kernel
theorem dX8_meet_34 : decode cX8_meet 34 = .ok (.aload_n 0, 1) := by decide +kernel
theorem dX8_meet_35 : decode cX8_meet 35 = .ok (.getfield 18, 3) := by decide +kernel
theorem dX8_meet_38 : decode cX8_meet 38 = .ok (.aload_n 0, 1) := by decide +kernel
theorem dX8_meet_39 : decode cX8_meet 39 = .ok (.getfield 64, 3) := by decide +kernel
theorem dX8_meet_42 : decode cX8_meet 42 = .ok (.lload_n 1, 1) := by decide +kernel
theorem dX8_meet_43 : decode cX8_meet 43 = .ok (.lastore, 1) := by decide +kernel
theorem dX8_meet_44 : decode cX8_meet 44 = .ok (.aload_n 0, 1) := by decide +kernel
theorem dX8_meet_45 : decode cX8_meet 45 = .ok (.getfield 26, 3) := by decide +kernel
theorem dX8_meet_48 : decode cX8_meet 48 = .ok (.aload_n 0, 1) := by decide +kernel
theorem dX8_meet_49 : decode cX8_meet 49 = .ok (.getfield 64, 3) := by decide +kernel
theorem dX8_meet_52 : decode cX8_meet 52 = .ok (.iload_n 3, 1) := by decide +kernel
theorem dX8_meet_53 : decode cX8_meet 53 = .ok (.iastore, 1) := by decide +kernel
theorem dX8_meet_54 : decode cX8_meet 54 = .ok (.aload_n 0, 1) := by decide +kernel
theorem dX8_meet_55 : decode cX8_meet 55 = .ok (.getfield 29, 3) := by decide +kernel
theorem dX8_meet_58 : decode cX8_meet 58 = .ok (.aload_n 0, 1) := by decide +kernel
theorem dX8_meet_59 : decode cX8_meet 59 = .ok (.getfield 64, 3) := by decide +kernel
theorem dX8_meet_62 : decode cX8_meet 62 = .ok (.iload 4, 2) := by decide +kernel
theorem dX8_meet_64 : decode cX8_meet 64 = .ok (.iastore, 1) := by decide +kernel
theorem dX8_meet_65 : decode cX8_meet 65 = .ok (.aload_n 0, 1) := by decide +kernel
theorem dX8_meet_66 : decode cX8_meet 66 = .ok (.getfield 22, 3) := by decide +kernel
theorem dX8_meet_69 : decode cX8_meet 69 = .ok (.aload_n 0, 1) := by decide +kernel
theorem dX8_meet_70 : decode cX8_meet 70 = .ok (.getfield 64, 3) := by decide +kernel
theorem dX8_meet_73 : decode cX8_meet 73 = .ok (.iload_n 3, 1) := by decide +kernel
theorem dX8_meet_74 : decode cX8_meet 74 = .ok (.iconst (-1), 1) := by decide +kernel
theorem dX8_meet_75 : decode cX8_meet 75 = .ok (.if_icmp .ne 7, 3) := by decide +kernel
theorem dX8_meet_78 : decode cX8_meet 78 = .ok (.iconst 0, 1) := by decide +kernel
theorem dX8_meet_79 : decode cX8_meet 79 = .ok (.goto 10, 3) := by decide +kernel
theorem dX8_meet_82 : decode cX8_meet 82 = .ok (.aload_n 0, 1) := by decide +kernel
theorem dX8_meet_83 : decode cX8_meet 83 = .ok (.iload_n 3, 1) := by decide +kernel
theorem dX8_meet_84 : decode cX8_meet 84 = .ok (.invokevirtual 117, 3) := by decide +kernel
theorem dX8_meet_87 : decode cX8_meet 87 = .ok (.iconst 1, 1) := by decide +kernel
theorem dX8_meet_88 : decode cX8_meet 88 = .ok (.iadd, 1) := by decide +kernel
theorem dX8_meet_89 : decode cX8_meet 89 = .ok (.iastore, 1) := by decide +kernel
theorem dX8_meet_90 : decode cX8_meet 90 = .ok (.aload_n 0, 1) := by decide +kernel
theorem dX8_meet_91 : decode cX8_meet 91 = .ok (.dup, 1) := by decide +kernel
theorem dX8_meet_92 : decode cX8_meet 92 = .ok (.getfield 64, 3) := by decide +kernel
theorem dX8_meet_95 : decode cX8_meet 95 = .ok (.iconst 1, 1) := by decide +kernel
theorem dX8_meet_96 : decode cX8_meet 96 = .ok (.iadd, 1) := by decide +kernel
theorem dX8_meet_97 : decode cX8_meet 97 = .ok (.putfield 64, 3) := by decide +kernel
theorem dX8_meet_100 : decode cX8_meet 100 = .ok (.aload_n 0, 1) := by decide +kernel
theorem dX8_meet_101 : decode cX8_meet 101 = .ok (.getfield 32, 3) := by decide +kernel
theorem dX8_meet_104 : decode cX8_meet 104 = .ok (.iload 5, 2) := by decide +kernel
theorem dX8_meet_106 : decode cX8_meet 106 = .ok (.aload_n 0, 1) := by decide +kernel
theorem dX8_meet_107 : decode cX8_meet 107 = .ok (.getfield 64, 3) := by decide +kernel
theorem dX8_meet_110 : decode cX8_meet 110 = .ok (.iastore, 1) := by decide +kernel
theorem dX8_meet_111 : decode cX8_meet 111 = .ok (.return_, 1) := by decide +kernel
theorem dX8_richest_0 : decode cX8_richest 0 = .ok (.iconst 0, 1) := by decide +kernel
theorem dX8_richest_1 : decode cX8_richest 1 = .ok (.istore_n 2, 1) := by decide +kernel
theorem dX8_richest_2 : decode cX8_richest 2 = .ok (.aload_n 0, 1) := by decide +kernel
theorem dX8_richest_3 : decode cX8_richest 3 = .ok (.iconst 0, 1) := by decide +kernel
theorem dX8_richest_4 : decode cX8_richest 4 = .ok (.iload_n 1, 1) := by decide +kernel
theorem dX8_richest_5 : decode cX8_richest 5 = .ok (.invokevirtual 163, 3) := by decide +kernel
theorem dX8_richest_8 : decode cX8_richest 8 = .ok (.istore_n 3, 1) := by decide +kernel
theorem dX8_richest_9 : decode cX8_richest 9 = .ok (.iconst 1, 1) := by decide +kernel
theorem dX8_richest_10 : decode cX8_richest 10 = .ok (.istore 4, 2) := by decide +kernel
theorem dX8_richest_12 : decode cX8_richest 12 = .ok (.iload 4, 2) := by decide +kernel
theorem dX8_richest_14 : decode cX8_richest 14 = .ok (.aload_n 0, 1) := by decide +kernel
theorem dX8_richest_15 : decode cX8_richest 15 = .ok (.getfield 64, 3) := by decide +kernel
theorem dX8_richest_18 : decode cX8_richest 18 = .ok (.if_icmp .ge 38, 3) := by decide +kernel
theorem dX8_richest_21 : decode cX8_richest 21 = .ok (.iload 4, 2) := by decide +kernel
theorem dX8_richest_23 : decode cX8_richest 23 = .ok (.sipush 400, 3) := by decide +kernel
theorem dX8_richest_26 : decode cX8_richest 26 = .ok (.if_icmp .ge 30, 3) := by decide +kernel
theorem dX8_richest_29 : decode cX8_richest 29 = .ok (.aload_n 0, 1) := by decide +kernel
theorem dX8_richest_30 : decode cX8_richest 30 = .ok (.iload 4, 2) := by decide +kernel
theorem dX8_richest_32 : decode cX8_richest 32 = .ok (.iload_n 1, 1) := by decide +kernel
theorem dX8_richest_33 : decode cX8_richest 33 = .ok (.invokevirtual 163, 3) := by decide +kernel
theorem dX8_richest_36 : decode cX8_richest 36 = .ok (.istore 5, 2) := by decide +kernel
theorem dX8_richest_38 : decode cX8_richest 38 = .ok (.iload 5, 2) := by decide +kernel
theorem dX8_richest_40 : decode cX8_richest 40 = .ok (.iload_n 3, 1) := by decide +kernel
theorem dX8_richest_41 : decode cX8_richest 41 = .ok (.if_icmp .le 9, 3) := by decide +kernel
theorem dX8_richest_44 : decode cX8_richest 44 = .ok (.iload 5, 2) := by decide +kernel
theorem dX8_richest_46 : decode cX8_richest 46 = .ok (.istore_n 3, 1) := by decide +kernel
theorem dX8_richest_47 : decode cX8_richest 47 = .ok (.iload 4, 2) := by decide +kernel
theorem dX8_richest_49 : decode cX8_richest 49 = .ok (.istore_n 2, 1) := by decide +kernel
theorem dX8_richest_50 : decode cX8_richest 50 = .ok (.iinc 4 1, 3) := by decide +kernel
theorem dX8_richest_53 : decode cX8_richest 53 = .ok (.goto (-41), 3) := by decide +kernel
theorem dX8_richest_56 : decode cX8_richest 56 = .ok (.iload_n 2, 1) := by decide +kernel
theorem dX8_richest_57 : decode cX8_richest 57 = .ok (.ireturn, 1) := by decide +kernel
theorem dX8_slotOf_0 : decode cX8_slotOf 0 = .ok (.lload_n 1, 1) := by decide +kernel
theorem dX8_slotOf_1 : decode cX8_slotOf 1 = .ok (.ldc2_w 120, 3) := by decide +kernel
theorem dX8_slotOf_4 : decode cX8_slotOf 4 = .ok (.lmul, 1) := by decide +kernel
theorem dX8_slotOf_5 : decode cX8_slotOf 5 = .ok (.bipush 54, 2) := by decide +kernel
theorem dX8_slotOf_7 : decode cX8_slotOf 7 = .ok (.lushr, 1) := by decide +kernel
theorem dX8_slotOf_8 : decode cX8_slotOf 8 = .ok (.l2i, 1) := by decide +kernel
theorem dX8_slotOf_9 : decode cX8_slotOf 9 = .ok (.istore_n 3, 1) := by decide +kernel
theorem dX8_slotOf_10 : decode cX8_slotOf 10 = .ok (.iconst 0, 1) := by decide +kernel
theorem dX8_slotOf_11 : decode cX8_slotOf 11 = .ok (.istore 4, 2) := by decide +kernel
theorem dX8_slotOf_13 : decode cX8_slotOf 13 = .ok (.iload 4, 2) := by decide +kernel
theorem dX8_slotOf_15 : decode cX8_slotOf 15 = .ok (.sipush 1024, 3) := by decide +kernel
theorem dX8_slotOf_18 : decode cX8_slotOf 18 = .ok (.if_icmp .ge 58, 3) := by decide +kernel
theorem dX8_slotOf_21 : decode cX8_slotOf 21 = .ok (.iload_n 3, 1) := by decide +kernel
theorem dX8_slotOf_22 : decode cX8_slotOf 22 = .ok (.iload 4, 2) := by decide +kernel
theorem dX8_slotOf_24 : decode cX8_slotOf 24 = .ok (.iadd, 1) := by decide +kernel
theorem dX8_slotOf_25 : decode cX8_slotOf 25 = .ok (.sipush 1023, 3) := by decide +kernel
theorem dX8_slotOf_28 : decode cX8_slotOf 28 = .ok (.iand, 1) := by decide +kernel
theorem dX8_slotOf_29 : decode cX8_slotOf 29 = .ok (.istore 5, 2) := by decide +kernel
theorem dX8_slotOf_31 : decode cX8_slotOf 31 = .ok (.aload_n 0, 1) := by decide +kernel
theorem dX8_slotOf_32 : decode cX8_slotOf 32 = .ok (.getfield 32, 3) := by decide +kernel
theorem dX8_slotOf_35 : decode cX8_slotOf 35 = .ok (.iload 5, 2) := by decide +kernel
theorem dX8_slotOf_37 : decode cX8_slotOf 37 = .ok (.iaload, 1) := by decide +kernel
theorem dX8_slotOf_38 : decode cX8_slotOf 38 = .ok (.iconst 1, 1) := by decide +kernel
theorem dX8_slotOf_39 : decode cX8_slotOf 39 = .ok (.isub, 1) := by decide +kernel
theorem dX8_slotOf_40 : decode cX8_slotOf 40 = .ok (.istore 6, 2) := by decide +kernel
theorem dX8_slotOf_42 : decode cX8_slotOf 42 = .ok (.iload 6, 2) := by decide +kernel
theorem dX8_slotOf_44 : decode cX8_slotOf 44 = .ok (.ifCond .lt 23, 3) := by decide +kernel
theorem dX8_slotOf_47 : decode cX8_slotOf 47 = .ok (.iload 6, 2) := by decide +kernel
theorem dX8_slotOf_49 : decode cX8_slotOf 49 = .ok (.sipush 400, 3) := by decide +kernel
theorem dX8_slotOf_52 : decode cX8_slotOf 52 = .ok (.if_icmp .ge 15, 3) := by decide +kernel
theorem dX8_slotOf_55 : decode cX8_slotOf 55 = .ok (.aload_n 0, 1) := by decide +kernel
theorem dX8_slotOf_56 : decode cX8_slotOf 56 = .ok (.getfield 18, 3) := by decide +kernel
theorem dX8_slotOf_59 : decode cX8_slotOf 59 = .ok (.iload 6, 2) := by decide +kernel
theorem dX8_slotOf_61 : decode cX8_slotOf 61 = .ok (.laload, 1) := by decide +kernel
theorem dX8_slotOf_62 : decode cX8_slotOf 62 = .ok (.lload_n 1, 1) := by decide +kernel
theorem dX8_slotOf_63 : decode cX8_slotOf 63 = .ok (.lcmp, 1) := by decide +kernel
theorem dX8_slotOf_64 : decode cX8_slotOf 64 = .ok (.ifCond .ne 6, 3) := by decide +kernel
theorem dX8_slotOf_67 : decode cX8_slotOf 67 = .ok (.iload 5, 2) := by decide +kernel
theorem dX8_slotOf_69 : decode cX8_slotOf 69 = .ok (.ireturn, 1) := by decide +kernel
theorem dX8_slotOf_70 : decode cX8_slotOf 70 = .ok (.iinc 4 1, 3) := by decide +kernel
theorem dX8_slotOf_73 : decode cX8_slotOf 73 = .ok (.goto (-60), 3) := by decide +kernel
theorem dX8_slotOf_76 : decode cX8_slotOf 76 = .ok (.iconst 0, 1) := by decide +kernel
theorem dX8_slotOf_77 : decode cX8_slotOf 77 = .ok (.ireturn, 1) := by decide +kernel
theorem dX8_unlike_0 : decode cX8_unlike 0 = .ok (.iconst 0, 1) := by decide +kernel
theorem dX8_unlike_1 : decode cX8_unlike 1 = .ok (.istore_n 1, 1) := by decide +kernel
theorem dX8_unlike_2 : decode cX8_unlike 2 = .ok (.iconst 0, 1) := by decide +kernel
theorem dX8_unlike_3 : decode cX8_unlike 3 = .ok (.istore_n 2, 1) := by decide +kernel
theorem dX8_unlike_4 : decode cX8_unlike 4 = .ok (.iload_n 2, 1) := by decide +kernel
theorem dX8_unlike_5 : decode cX8_unlike 5 = .ok (.aload_n 0, 1) := by decide +kernel
theorem dX8_unlike_6 : decode cX8_unlike 6 = .ok (.getfield 64, 3) := by decide +kernel
theorem dX8_unlike_9 : decode cX8_unlike 9 = .ok (.if_icmp .ge 83, 3) := by decide +kernel
theorem dX8_unlike_12 : decode cX8_unlike 12 = .ok (.iload_n 2, 1) := by decide +kernel
theorem dX8_unlike_13 : decode cX8_unlike 13 = .ok (.sipush 400, 3) := by decide +kernel
theorem dX8_unlike_16 : decode cX8_unlike 16 = .ok (.if_icmp .ge 76, 3) := by decide +kernel
theorem dX8_unlike_19 : decode cX8_unlike 19 = .ok (.aload_n 0, 1) := by decide +kernel
theorem dX8_unlike_20 : decode cX8_unlike 20 = .ok (.iload_n 2, 1) := by decide +kernel
theorem dX8_unlike_21 : decode cX8_unlike 21 = .ok (.invokevirtual 153, 3) := by decide +kernel
theorem dX8_unlike_24 : decode cX8_unlike 24 = .ok (.aload_n 0, 1) := by decide +kernel
theorem dX8_unlike_25 : decode cX8_unlike 25 = .ok (.invokevirtual 167, 3) := by decide +kernel
theorem dX8_unlike_28 : decode cX8_unlike 28 = .ok (.lstore_n 3, 1) := by decide +kernel
theorem dX8_unlike_29 : decode cX8_unlike 29 = .ok (.iconst 1, 1) := by decide +kernel
theorem dX8_unlike_30 : decode cX8_unlike 30 = .ok (.istore 5, 2) := by decide +kernel
theorem dX8_unlike_32 : decode cX8_unlike 32 = .ok (.iconst 0, 1) := by decide +kernel
theorem dX8_unlike_33 : decode cX8_unlike 33 = .ok (.istore 6, 2) := by decide +kernel
theorem dX8_unlike_35 : decode cX8_unlike 35 = .ok (.iload 6, 2) := by decide +kernel
theorem dX8_unlike_37 : decode cX8_unlike 37 = .ok (.iload_n 1, 1) := by decide +kernel
theorem dX8_unlike_38 : decode cX8_unlike 38 = .ok (.if_icmp .ge 33, 3) := by decide +kernel
theorem dX8_unlike_41 : decode cX8_unlike 41 = .ok (.iload 5, 2) := by decide +kernel
theorem dX8_unlike_43 : decode cX8_unlike 43 = .ok (.ifCond .eq 28, 3) := by decide +kernel
theorem dX8_unlike_46 : decode cX8_unlike 46 = .ok (.aload_n 0, 1) := by decide +kernel
theorem dX8_unlike_47 : decode cX8_unlike 47 = .ok (.getfield 35, 3) := by decide +kernel
theorem dX8_unlike_50 : decode cX8_unlike 50 = .ok (.iload 6, 2) := by decide +kernel
theorem dX8_unlike_52 : decode cX8_unlike 52 = .ok (.laload, 1) := by decide +kernel
theorem dX8_unlike_53 : decode cX8_unlike 53 = .ok (.lload_n 3, 1) := by decide +kernel
theorem dX8_unlike_54 : decode cX8_unlike 54 = .ok (.lcmp, 1) := by decide +kernel
theorem dX8_unlike_55 : decode cX8_unlike 55 = .ok (.ifCond .eq 7, 3) := by decide +kernel
theorem dX8_unlike_58 : decode cX8_unlike 58 = .ok (.iconst 1, 1) := by decide +kernel
theorem dX8_unlike_59 : decode cX8_unlike 59 = .ok (.goto 4, 3) := by decide +kernel
theorem dX8_unlike_62 : decode cX8_unlike 62 = .ok (.iconst 0, 1) := by decide +kernel
theorem dX8_unlike_63 : decode cX8_unlike 63 = .ok (.istore 5, 2) := by decide +kernel
theorem dX8_unlike_65 : decode cX8_unlike 65 = .ok (.iinc 6 1, 3) := by decide +kernel
theorem dX8_unlike_68 : decode cX8_unlike 68 = .ok (.goto (-33), 3) := by decide +kernel
theorem dX8_unlike_71 : decode cX8_unlike 71 = .ok (.iload 5, 2) := by decide +kernel
theorem dX8_unlike_73 : decode cX8_unlike 73 = .ok (.ifCond .eq 13, 3) := by decide +kernel
theorem dX8_unlike_76 : decode cX8_unlike 76 = .ok (.aload_n 0, 1) := by decide +kernel
theorem dX8_unlike_77 : decode cX8_unlike 77 = .ok (.getfield 35, 3) := by decide +kernel
theorem dX8_unlike_80 : decode cX8_unlike 80 = .ok (.iload_n 1, 1) := by decide +kernel
theorem dX8_unlike_81 : decode cX8_unlike 81 = .ok (.lload_n 3, 1) := by decide +kernel
theorem dX8_unlike_82 : decode cX8_unlike 82 = .ok (.lastore, 1) := by decide +kernel
theorem dX8_unlike_83 : decode cX8_unlike 83 = .ok (.iinc 1 1, 3) := by decide +kernel
theorem dX8_unlike_86 : decode cX8_unlike 86 = .ok (.iinc 2 1, 3) := by decide +kernel
theorem dX8_unlike_89 : decode cX8_unlike 89 = .ok (.goto (-85), 3) := by decide +kernel
theorem dX8_unlike_92 : decode cX8_unlike 92 = .ok (.iload_n 1, 1) := by decide +kernel
theorem dX8_unlike_93 : decode cX8_unlike 93 = .ok (.ireturn, 1) := by decide +kernel
theorem dX8_wealth_0 : decode cX8_wealth 0 = .ok (.aload_n 0, 1) := by decide +kernel
theorem dX8_wealth_1 : decode cX8_wealth 1 = .ok (.iload_n 1, 1) := by decide +kernel
theorem dX8_wealth_2 : decode cX8_wealth 2 = .ok (.invokevirtual 153, 3) := by decide +kernel
theorem dX8_wealth_5 : decode cX8_wealth 5 = .ok (.aload_n 0, 1) := by decide +kernel
theorem dX8_wealth_6 : decode cX8_wealth 6 = .ok (.getfield 12, 3) := by decide +kernel
theorem dX8_wealth_9 : decode cX8_wealth 9 = .ok (.iload_n 2, 1) := by decide +kernel
theorem dX8_wealth_10 : decode cX8_wealth 10 = .ok (.invokevirtual 161, 3) := by decide +kernel
theorem dX8_wealth_13 : decode cX8_wealth 13 = .ok (.istore_n 3, 1) := by decide +kernel
theorem dX8_wealth_14 : decode cX8_wealth 14 = .ok (.iconst 0, 1) := by decide +kernel
theorem dX8_wealth_15 : decode cX8_wealth 15 = .ok (.istore 4, 2) := by decide +kernel
theorem dX8_wealth_17 : decode cX8_wealth 17 = .ok (.iload 4, 2) := by decide +kernel
theorem dX8_wealth_19 : decode cX8_wealth 19 = .ok (.iconst 3, 1) := by decide +kernel
theorem dX8_wealth_20 : decode cX8_wealth 20 = .ok (.if_icmp .ge 34, 3) := by decide +kernel
theorem dX8_wealth_23 : decode cX8_wealth 23 = .ok (.iload 4, 2) := by decide +kernel
theorem dX8_wealth_25 : decode cX8_wealth 25 = .ok (.iload_n 2, 1) := by decide +kernel
theorem dX8_wealth_26 : decode cX8_wealth 26 = .ok (.if_icmp .eq 22, 3) := by decide +kernel
theorem dX8_wealth_29 : decode cX8_wealth 29 = .ok (.iload_n 3, 1) := by decide +kernel
theorem dX8_wealth_30 : decode cX8_wealth 30 = .ok (.aload_n 0, 1) := by decide +kernel
theorem dX8_wealth_31 : decode cX8_wealth 31 = .ok (.getfield 12, 3) := by decide +kernel
theorem dX8_wealth_34 : decode cX8_wealth 34 = .ok (.bipush 10, 2) := by decide +kernel
theorem dX8_wealth_36 : decode cX8_wealth 36 = .ok (.iconst 3, 1) := by decide +kernel
theorem dX8_wealth_37 : decode cX8_wealth 37 = .ok (.iload_n 2, 1) := by decide +kernel
theorem dX8_wealth_38 : decode cX8_wealth 38 = .ok (.imul, 1) := by decide +kernel
theorem dX8_wealth_39 : decode cX8_wealth 39 = .ok (.iadd, 1) := by decide +kernel
theorem dX8_wealth_40 : decode cX8_wealth 40 = .ok (.iload 4, 2) := by decide +kernel
theorem dX8_wealth_42 : decode cX8_wealth 42 = .ok (.iadd, 1) := by decide +kernel
theorem dX8_wealth_43 : decode cX8_wealth 43 = .ok (.invokevirtual 161, 3) := by decide +kernel
theorem dX8_wealth_46 : decode cX8_wealth 46 = .ok (.isub, 1) := by decide +kernel
theorem dX8_wealth_47 : decode cX8_wealth 47 = .ok (.istore_n 3, 1) := by decide +kernel
theorem dX8_wealth_48 : decode cX8_wealth 48 = .ok (.iinc 4 1, 3) := by decide +kernel
theorem dX8_wealth_51 : decode cX8_wealth 51 = .ok (.goto (-34), 3) := by decide +kernel
theorem dX8_wealth_54 : decode cX8_wealth 54 = .ok (.iload_n 3, 1) := by decide +kernel
theorem dX8_wealth_55 : decode cX8_wealth 55 = .ok (.ireturn, 1) := by decide +kernel
theorem dX9_change_0 : decode cX9_change 0 = .ok (.iconst 3, 1) := by decide +kernel
theorem dX9_change_1 : decode cX9_change 1 = .ok (.iload_n 2, 1) := by decide +kernel
theorem dX9_change_2 : decode cX9_change 2 = .ok (.imul, 1) := by decide +kernel
theorem dX9_change_3 : decode cX9_change 3 = .ok (.iload_n 3, 1) := by decide +kernel
theorem dX9_change_4 : decode cX9_change 4 = .ok (.iadd, 1) := by decide +kernel
theorem dX9_change_5 : decode cX9_change 5 = .ok (.istore 6, 2) := by decide +kernel
theorem dX9_change_7 : decode cX9_change 7 = .ok (.iload_n 1, 1) := by decide +kernel
theorem dX9_change_8 : decode cX9_change 8 = .ok (.tableswitch 156 7 13 #[44, 60, 84, 156, 97, 97, 143], 44) := by decide +kernel
theorem dX9_change_52 : decode cX9_change 52 = .ok (.aload_n 0, 1) := by decide +kernel
theorem dX9_change_53 : decode cX9_change 53 = .ok (.iload_n 2, 1) := by decide +kernel
theorem dX9_change_54 : decode cX9_change 54 = .ok (.aload_n 0, 1) := by decide +kernel
theorem dX9_change_55 : decode cX9_change 55 = .ok (.iload_n 2, 1) := by decide +kernel
theorem dX9_change_56 : decode cX9_change 56 = .ok (.invokevirtual 32, 3) := by decide +kernel
theorem dX9_change_59 : decode cX9_change 59 = .ok (.iload 5, 2) := by decide +kernel
theorem dX9_change_61 : decode cX9_change 61 = .ok (.iadd, 1) := by decide +kernel
theorem dX9_change_62 : decode cX9_change 62 = .ok (.invokevirtual 36, 3) := by decide +kernel
theorem dX9_change_65 : decode cX9_change 65 = .ok (.goto 114, 3) := by decide +kernel
theorem dX9_change_68 : decode cX9_change 68 = .ok (.aload_n 0, 1) := by decide +kernel
theorem dX9_change_69 : decode cX9_change 69 = .ok (.bipush 10, 2) := by decide +kernel
theorem dX9_change_71 : decode cX9_change 71 = .ok (.iload 6, 2) := by decide +kernel
theorem dX9_change_73 : decode cX9_change 73 = .ok (.iadd, 1) := by decide +kernel
theorem dX9_change_74 : decode cX9_change 74 = .ok (.aload_n 0, 1) := by decide +kernel
theorem dX9_change_75 : decode cX9_change 75 = .ok (.bipush 10, 2) := by decide +kernel
theorem dX9_change_77 : decode cX9_change 77 = .ok (.iload 6, 2) := by decide +kernel
theorem dX9_change_79 : decode cX9_change 79 = .ok (.iadd, 1) := by decide +kernel
theorem dX9_change_80 : decode cX9_change 80 = .ok (.invokevirtual 32, 3) := by decide +kernel
theorem dX9_change_83 : decode cX9_change 83 = .ok (.iload 5, 2) := by decide +kernel
theorem dX9_change_85 : decode cX9_change 85 = .ok (.iadd, 1) := by decide +kernel
theorem dX9_change_86 : decode cX9_change 86 = .ok (.invokevirtual 36, 3) := by decide +kernel
theorem dX9_change_89 : decode cX9_change 89 = .ok (.goto 90, 3) := by decide +kernel
theorem dX9_change_92 : decode cX9_change 92 = .ok (.aload_n 0, 1) := by decide +kernel
theorem dX9_change_93 : decode cX9_change 93 = .ok (.bipush 40, 2) := by decide +kernel
theorem dX9_change_95 : decode cX9_change 95 = .ok (.iload 4, 2) := by decide +kernel
theorem dX9_change_97 : decode cX9_change 97 = .ok (.iadd, 1) := by decide +kernel
theorem dX9_change_98 : decode cX9_change 98 = .ok (.iload_n 2, 1) := by decide +kernel
theorem dX9_change_99 : decode cX9_change 99 = .ok (.invokevirtual 36, 3) := by decide +kernel
theorem dX9_change_102 : decode cX9_change 102 = .ok (.goto 77, 3) := by decide +kernel
theorem dX9_change_105 : decode cX9_change 105 = .ok (.aload_n 0, 1) := by decide +kernel
theorem dX9_change_106 : decode cX9_change 106 = .ok (.bipush 20, 2) := by decide +kernel
theorem dX9_change_108 : decode cX9_change 108 = .ok (.iload 6, 2) := by decide +kernel
theorem dX9_change_110 : decode cX9_change 110 = .ok (.iadd, 1) := by decide +kernel
theorem dX9_change_111 : decode cX9_change 111 = .ok (.iload_n 1, 1) := by decide +kernel
theorem dX9_change_112 : decode cX9_change 112 = .ok (.bipush 11, 2) := by decide +kernel
theorem dX9_change_114 : decode cX9_change 114 = .ok (.if_icmp .ne 7, 3) := by decide +kernel
theorem dX9_change_117 : decode cX9_change 117 = .ok (.iconst 1, 1) := by decide +kernel
theorem dX9_change_118 : decode cX9_change 118 = .ok (.goto 4, 3) := by decide +kernel
theorem dX9_change_121 : decode cX9_change 121 = .ok (.iconst 0, 1) := by decide +kernel
theorem dX9_change_122 : decode cX9_change 122 = .ok (.invokevirtual 36, 3) := by decide +kernel
theorem dX9_change_125 : decode cX9_change 125 = .ok (.aload_n 0, 1) := by decide +kernel
theorem dX9_change_126 : decode cX9_change 126 = .ok (.bipush 20, 2) := by decide +kernel
theorem dX9_change_128 : decode cX9_change 128 = .ok (.iconst 3, 1) := by decide +kernel
theorem dX9_change_129 : decode cX9_change 129 = .ok (.iload_n 3, 1) := by decide +kernel
theorem dX9_change_130 : decode cX9_change 130 = .ok (.imul, 1) := by decide +kernel
theorem dX9_change_131 : decode cX9_change 131 = .ok (.iadd, 1) := by decide +kernel
theorem dX9_change_132 : decode cX9_change 132 = .ok (.iload_n 2, 1) := by decide +kernel
theorem dX9_change_133 : decode cX9_change 133 = .ok (.iadd, 1) := by decide +kernel
theorem dX9_change_134 : decode cX9_change 134 = .ok (.iload_n 1, 1) := by decide +kernel
theorem dX9_change_135 : decode cX9_change 135 = .ok (.bipush 11, 2) := by decide +kernel
theorem dX9_change_137 : decode cX9_change 137 = .ok (.if_icmp .ne 7, 3) := by decide +kernel
theorem dX9_change_140 : decode cX9_change 140 = .ok (.iconst 1, 1) := by decide +kernel
theorem dX9_change_141 : decode cX9_change 141 = .ok (.goto 4, 3) := by decide +kernel
theorem dX9_change_144 : decode cX9_change 144 = .ok (.iconst 0, 1) := by decide +kernel
theorem dX9_change_145 : decode cX9_change 145 = .ok (.invokevirtual 36, 3) := by decide +kernel
theorem dX9_change_148 : decode cX9_change 148 = .ok (.goto 31, 3) := by decide +kernel
theorem dX9_change_151 : decode cX9_change 151 = .ok (.aload_n 0, 1) := by decide +kernel
theorem dX9_change_152 : decode cX9_change 152 = .ok (.bipush 30, 2) := by decide +kernel
theorem dX9_change_154 : decode cX9_change 154 = .ok (.iload 6, 2) := by decide +kernel
theorem dX9_change_156 : decode cX9_change 156 = .ok (.iadd, 1) := by decide +kernel
theorem dX9_change_157 : decode cX9_change 157 = .ok (.iconst 1, 1) := by decide +kernel
theorem dX9_change_158 : decode cX9_change 158 = .ok (.invokevirtual 36, 3) := by decide +kernel
theorem dX9_change_161 : decode cX9_change 161 = .ok (.goto 18, 3) := by decide +kernel
theorem dX9_change_164 : decode cX9_change 164 = .ok (.aload_n 0, 1) := by decide +kernel
theorem dX9_change_165 : decode cX9_change 165 = .ok (.bipush 50, 2) := by decide +kernel
theorem dX9_change_167 : decode cX9_change 167 = .ok (.aload_n 0, 1) := by decide +kernel
theorem dX9_change_168 : decode cX9_change 168 = .ok (.bipush 50, 2) := by decide +kernel
theorem dX9_change_170 : decode cX9_change 170 = .ok (.invokevirtual 32, 3) := by decide +kernel
theorem dX9_change_173 : decode cX9_change 173 = .ok (.iload 5, 2) := by decide +kernel
theorem dX9_change_175 : decode cX9_change 175 = .ok (.iadd, 1) := by decide +kernel
theorem dX9_change_176 : decode cX9_change 176 = .ok (.invokevirtual 36, 3) := by decide +kernel
theorem dX9_change_179 : decode cX9_change 179 = .ok (.return_, 1) := by decide +kernel
theorem dX9_coinShift_0 : decode cX9_coinShift 0 = .ok (.iconst 4, 1) := by decide +kernel
theorem dX9_coinShift_1 : decode cX9_coinShift 1 = .ok (.iconst 4, 1) := by decide +kernel
theorem dX9_coinShift_2 : decode cX9_coinShift 2 = .ok (.iload_n 0, 1) := by decide +kernel
theorem dX9_coinShift_3 : decode cX9_coinShift 3 = .ok (.imul, 1) := by decide +kernel
theorem dX9_coinShift_4 : decode cX9_coinShift 4 = .ok (.iadd, 1) := by decide +kernel
theorem dX9_coinShift_5 : decode cX9_coinShift 5 = .ok (.ireturn, 1) := by decide +kernel
theorem dX9_copy_0 : decode cX9_copy 0 = .ok (.aload_n 1, 1) := by decide +kernel
theorem dX9_copy_1 : decode cX9_copy 1 = .ok (.getfield 11, 3) := by decide +kernel
theorem dX9_copy_4 : decode cX9_copy 4 = .ok (.iconst 0, 1) := by decide +kernel
theorem dX9_copy_5 : decode cX9_copy 5 = .ok (.aload_n 0, 1) := by decide +kernel
theorem dX9_copy_6 : decode cX9_copy 6 = .ok (.getfield 11, 3) := by decide +kernel
theorem dX9_copy_9 : decode cX9_copy 9 = .ok (.iconst 0, 1) := by decide +kernel
theorem dX9_copy_10 : decode cX9_copy 10 = .ok (.aload_n 0, 1) := by decide +kernel
theorem dX9_copy_11 : decode cX9_copy 11 = .ok (.getfield 11, 3) := by decide +kernel
theorem dX9_copy_14 : decode cX9_copy 14 = .ok (.arraylength, 1) := by decide +kernel
theorem dX9_copy_15 : decode cX9_copy 15 = .ok (.invokestatic 26, 3) := by decide +kernel
theorem dX9_copy_18 : decode cX9_copy 18 = .ok (.return_, 1) := by decide +kernel
theorem dX9_get_0 : decode cX9_get 0 = .ok (.iload_n 1, 1) := by decide +kernel
theorem dX9_get_1 : decode cX9_get 1 = .ok (.ifCond .lt 21, 3) := by decide +kernel
theorem dX9_get_4 : decode cX9_get 4 = .ok (.iload_n 1, 1) := by decide +kernel
theorem dX9_get_5 : decode cX9_get 5 = .ok (.aload_n 0, 1) := by decide +kernel
theorem dX9_get_6 : decode cX9_get 6 = .ok (.getfield 11, 3) := by decide +kernel
theorem dX9_get_9 : decode cX9_get 9 = .ok (.arraylength, 1) := by decide +kernel
theorem dX9_get_10 : decode cX9_get 10 = .ok (.if_icmp .ge 12, 3) := by decide +kernel
theorem dX9_get_13 : decode cX9_get 13 = .ok (.aload_n 0, 1) := by decide +kernel
theorem dX9_get_14 : decode cX9_get 14 = .ok (.getfield 11, 3) := by decide +kernel
theorem dX9_get_17 : decode cX9_get 17 = .ok (.iload_n 1, 1) := by decide +kernel
theorem dX9_get_18 : decode cX9_get 18 = .ok (.iaload, 1) := by decide +kernel
theorem dX9_get_19 : decode cX9_get 19 = .ok (.goto 4, 3) := by decide +kernel
theorem dX9_get_22 : decode cX9_get 22 = .ok (.iconst 0, 1) := by decide +kernel
theorem dX9_get_23 : decode cX9_get 23 = .ok (.ireturn, 1) := by decide +kernel
theorem dX9_has_0 : decode cX9_has 0 = .ok (.iload_n 0, 1) := by decide +kernel
theorem dX9_has_1 : decode cX9_has 1 = .ok (.invokestatic 15, 3) := by decide +kernel
theorem dX9_has_4 : decode cX9_has 4 = .ok (.ifCond .ne 19, 3) := by decide +kernel
theorem dX9_has_7 : decode cX9_has 7 = .ok (.iload_n 0, 1) := by decide +kernel
theorem dX9_has_8 : decode cX9_has 8 = .ok (.bipush 40, 2) := by decide +kernel
theorem dX9_has_10 : decode cX9_has 10 = .ok (.isub, 1) := by decide +kernel
theorem dX9_has_11 : decode cX9_has 11 = .ok (.invokestatic 19, 3) := by decide +kernel
theorem dX9_has_14 : decode cX9_has 14 = .ok (.ifCond .ne 9, 3) := by decide +kernel
theorem dX9_has_17 : decode cX9_has 17 = .ok (.iload_n 0, 1) := by decide +kernel
theorem dX9_has_18 : decode cX9_has 18 = .ok (.bipush 50, 2) := by decide +kernel
theorem dX9_has_20 : decode cX9_has 20 = .ok (.if_icmp .ne 5, 3) := by decide +kernel
theorem dX9_has_23 : decode cX9_has 23 = .ok (.iconst 1, 1) := by decide +kernel
theorem dX9_has_24 : decode cX9_has 24 = .ok (.ireturn, 1) := by decide +kernel
theorem dX9_has_25 : decode cX9_has 25 = .ok (.iload_n 0, 1) := by decide +kernel
theorem dX9_has_26 : decode cX9_has 26 = .ok (.bipush 10, 2) := by decide +kernel
theorem dX9_has_28 : decode cX9_has 28 = .ok (.if_icmp .lt 9, 3) := by decide +kernel
theorem dX9_has_31 : decode cX9_has 31 = .ok (.iload_n 0, 1) := by decide +kernel
theorem dX9_has_32 : decode cX9_has 32 = .ok (.bipush 40, 2) := by decide +kernel
theorem dX9_has_34 : decode cX9_has 34 = .ok (.if_icmp .lt 5, 3) := by decide +kernel
theorem dX9_has_37 : decode cX9_has 37 = .ok (.iconst 0, 1) := by decide +kernel
theorem dX9_has_38 : decode cX9_has 38 = .ok (.ireturn, 1) := by decide +kernel
theorem dX9_has_39 : decode cX9_has 39 = .ok (.iload_n 0, 1) := by decide +kernel
theorem dX9_has_40 : decode cX9_has 40 = .ok (.bipush 10, 2) := by decide +kernel
theorem dX9_has_42 : decode cX9_has 42 = .ok (.irem, 1) := by decide +kernel
theorem dX9_has_43 : decode cX9_has 43 = .ok (.istore_n 1, 1) := by decide +kernel
theorem dX9_has_44 : decode cX9_has 44 = .ok (.iload_n 1, 1) := by decide +kernel
theorem dX9_has_45 : decode cX9_has 45 = .ok (.iconst 3, 1) := by decide +kernel
theorem dX9_has_46 : decode cX9_has 46 = .ok (.idiv, 1) := by decide +kernel
theorem dX9_has_47 : decode cX9_has 47 = .ok (.iload_n 1, 1) := by decide +kernel
theorem dX9_has_48 : decode cX9_has 48 = .ok (.iconst 3, 1) := by decide +kernel
theorem dX9_has_49 : decode cX9_has 49 = .ok (.irem, 1) := by decide +kernel
theorem dX9_has_50 : decode cX9_has 50 = .ok (.invokestatic 22, 3) := by decide +kernel
theorem dX9_has_53 : decode cX9_has 53 = .ok (.ireturn, 1) := by decide +kernel
theorem dX9_isInBounds_0 : decode cX9_isInBounds 0 = .ok (.iconst 0, 1) := by decide +kernel
theorem dX9_isInBounds_1 : decode cX9_isInBounds 1 = .ok (.istore_n 1, 1) := by decide +kernel
theorem dX9_isInBounds_2 : decode cX9_isInBounds 2 = .ok (.iload_n 1, 1) := by decide +kernel
theorem dX9_isInBounds_3 : decode cX9_isInBounds 3 = .ok (.iconst 3, 1) := by decide +kernel
theorem dX9_isInBounds_4 : decode cX9_isInBounds 4 = .ok (.if_icmp .ge 25, 3) := by decide +kernel
theorem dX9_isInBounds_7 : decode cX9_isInBounds 7 = .ok (.aload_n 0, 1) := by decide +kernel
theorem dX9_isInBounds_8 : decode cX9_isInBounds 8 = .ok (.getfield 11, 3) := by decide +kernel
theorem dX9_isInBounds_11 : decode cX9_isInBounds 11 = .ok (.iload_n 1, 1) := by decide +kernel
theorem dX9_isInBounds_12 : decode cX9_isInBounds 12 = .ok (.iaload, 1) := by decide +kernel
theorem dX9_isInBounds_13 : decode cX9_isInBounds 13 = .ok (.bipush 15, 2) := by decide +kernel
theorem dX9_isInBounds_15 : decode cX9_isInBounds 15 = .ok (.invokestatic 42, 3) := by decide +kernel
theorem dX9_isInBounds_18 : decode cX9_isInBounds 18 = .ok (.ifCond .ne 5, 3) := by decide +kernel
theorem dX9_isInBounds_21 : decode cX9_isInBounds 21 = .ok (.iconst 0, 1) := by decide +kernel
theorem dX9_isInBounds_22 : decode cX9_isInBounds 22 = .ok (.ireturn, 1) := by decide +kernel
theorem dX9_isInBounds_23 : decode cX9_isInBounds 23 = .ok (.iinc 1 1, 3) := by decide +kernel
theorem dX9_isInBounds_26 : decode cX9_isInBounds 26 = .ok (.goto (-24), 3) := by decide +kernel
theorem dX9_isInBounds_29 : decode cX9_isInBounds 29 = .ok (.iconst 0, 1) := by decide +kernel
theorem dX9_isInBounds_30 : decode cX9_isInBounds 30 = .ok (.istore_n 1, 1) := by decide +kernel
theorem dX9_isInBounds_31 : decode cX9_isInBounds 31 = .ok (.iload_n 1, 1) := by decide +kernel
theorem dX9_isInBounds_32 : decode cX9_isInBounds 32 = .ok (.bipush 9, 2) := by decide +kernel
theorem dX9_isInBounds_34 : decode cX9_isInBounds 34 = .ok (.if_icmp .ge 28, 3) := by decide +kernel
theorem dX9_isInBounds_37 : decode cX9_isInBounds 37 = .ok (.aload_n 0, 1) := by decide +kernel
theorem dX9_isInBounds_38 : decode cX9_isInBounds 38 = .ok (.getfield 11, 3) := by decide +kernel
theorem dX9_isInBounds_41 : decode cX9_isInBounds 41 = .ok (.bipush 10, 2) := by decide +kernel
theorem dX9_isInBounds_43 : decode cX9_isInBounds 43 = .ok (.iload_n 1, 1) := by decide +kernel
theorem dX9_isInBounds_44 : decode cX9_isInBounds 44 = .ok (.iadd, 1) := by decide +kernel
theorem dX9_isInBounds_45 : decode cX9_isInBounds 45 = .ok (.iaload, 1) := by decide +kernel
theorem dX9_isInBounds_46 : decode cX9_isInBounds 46 = .ok (.bipush 7, 2) := by decide +kernel
theorem dX9_isInBounds_48 : decode cX9_isInBounds 48 = .ok (.invokestatic 42, 3) := by decide +kernel
theorem dX9_isInBounds_51 : decode cX9_isInBounds 51 = .ok (.ifCond .ne 5, 3) := by decide +kernel
theorem dX9_isInBounds_54 : decode cX9_isInBounds 54 = .ok (.iconst 0, 1) := by decide +kernel
theorem dX9_isInBounds_55 : decode cX9_isInBounds 55 = .ok (.ireturn, 1) := by decide +kernel
theorem dX9_isInBounds_56 : decode cX9_isInBounds 56 = .ok (.iinc 1 1, 3) := by decide +kernel
theorem dX9_isInBounds_59 : decode cX9_isInBounds 59 = .ok (.goto (-28), 3) := by decide +kernel
theorem dX9_isInBounds_62 : decode cX9_isInBounds 62 = .ok (.aload_n 0, 1) := by decide +kernel
theorem dX9_isInBounds_63 : decode cX9_isInBounds 63 = .ok (.getfield 11, 3) := by decide +kernel
theorem dX9_isInBounds_66 : decode cX9_isInBounds 66 = .ok (.bipush 50, 2) := by decide +kernel
theorem dX9_isInBounds_68 : decode cX9_isInBounds 68 = .ok (.iaload, 1) := by decide +kernel
theorem dX9_isInBounds_69 : decode cX9_isInBounds 69 = .ok (.bipush 15, 2) := by decide +kernel
theorem dX9_isInBounds_71 : decode cX9_isInBounds 71 = .ok (.invokestatic 42, 3) := by decide +kernel
theorem dX9_isInBounds_74 : decode cX9_isInBounds 74 = .ok (.ireturn, 1) := by decide +kernel
theorem dX9_ownerShift_0 : decode cX9_ownerShift 0 = .ok (.bipush 16, 2) := by decide +kernel
theorem dX9_ownerShift_2 : decode cX9_ownerShift 2 = .ok (.iconst 2, 1) := by decide +kernel
theorem dX9_ownerShift_3 : decode cX9_ownerShift 3 = .ok (.iload_n 0, 1) := by decide +kernel
theorem dX9_ownerShift_4 : decode cX9_ownerShift 4 = .ok (.imul, 1) := by decide +kernel
theorem dX9_ownerShift_5 : decode cX9_ownerShift 5 = .ok (.iadd, 1) := by decide +kernel
theorem dX9_ownerShift_6 : decode cX9_ownerShift 6 = .ok (.ireturn, 1) := by decide +kernel
theorem dX9_packed_0 : decode cX9_packed 0 = .ok (.aload_n 0, 1) := by decide +kernel
theorem dX9_packed_1 : decode cX9_packed 1 = .ok (.getfield 11, 3) := by decide +kernel
theorem dX9_packed_4 : decode cX9_packed 4 = .ok (.bipush 50, 2) := by decide +kernel
theorem dX9_packed_6 : decode cX9_packed 6 = .ok (.iaload, 1) := by decide +kernel
theorem dX9_packed_7 : decode cX9_packed 7 = .ok (.i2l, 1) := by decide +kernel
theorem dX9_packed_8 : decode cX9_packed 8 = .ok (.lstore_n 3, 1) := by decide +kernel
theorem dX9_packed_9 : decode cX9_packed 9 = .ok (.iconst 0, 1) := by decide +kernel
theorem dX9_packed_10 : decode cX9_packed 10 = .ok (.istore 5, 2) := by decide +kernel
theorem dX9_packed_12 : decode cX9_packed 12 = .ok (.iload 5, 2) := by decide +kernel
theorem dX9_packed_14 : decode cX9_packed 14 = .ok (.iconst 3, 1) := by decide +kernel
theorem dX9_packed_15 : decode cX9_packed 15 = .ok (.if_icmp .ge 37, 3) := by decide +kernel
theorem dX9_packed_18 : decode cX9_packed 18 = .ok (.lload_n 3, 1) := by decide +kernel
theorem dX9_packed_19 : decode cX9_packed 19 = .ok (.iload_n 1, 1) := by decide +kernel
theorem dX9_packed_20 : decode cX9_packed 20 = .ok (.aload_n 0, 1) := by decide +kernel
theorem dX9_packed_21 : decode cX9_packed 21 = .ok (.getfield 11, 3) := by decide +kernel
theorem dX9_packed_24 : decode cX9_packed 24 = .ok (.bipush 40, 2) := by decide +kernel
theorem dX9_packed_26 : decode cX9_packed 26 = .ok (.iload 5, 2) := by decide +kernel
theorem dX9_packed_28 : decode cX9_packed 28 = .ok (.iadd, 1) := by decide +kernel
theorem dX9_packed_29 : decode cX9_packed 29 = .ok (.iaload, 1) := by decide +kernel
theorem dX9_packed_30 : decode cX9_packed 30 = .ok (.invokestatic 45, 3) := by decide +kernel
theorem dX9_packed_33 : decode cX9_packed 33 = .ok (.i2l, 1) := by decide +kernel
theorem dX9_packed_34 : decode cX9_packed 34 = .ok (.iload_n 2, 1) := by decide +kernel
theorem dX9_packed_35 : decode cX9_packed 35 = .ok (.iload 5, 2) := by decide +kernel
theorem dX9_packed_37 : decode cX9_packed 37 = .ok (.invokestatic 45, 3) := by decide +kernel
theorem dX9_packed_40 : decode cX9_packed 40 = .ok (.invokestatic 49, 3) := by decide +kernel
theorem dX9_packed_43 : decode cX9_packed 43 = .ok (.lshl, 1) := by decide +kernel
theorem dX9_packed_44 : decode cX9_packed 44 = .ok (.lor, 1) := by decide +kernel
theorem dX9_packed_45 : decode cX9_packed 45 = .ok (.lstore_n 3, 1) := by decide +kernel
theorem dX9_packed_46 : decode cX9_packed 46 = .ok (.iinc 5 1, 3) := by decide +kernel
theorem dX9_packed_49 : decode cX9_packed 49 = .ok (.goto (-37), 3) := by decide +kernel
theorem dX9_packed_52 : decode cX9_packed 52 = .ok (.iconst 0, 1) := by decide +kernel
theorem dX9_packed_53 : decode cX9_packed 53 = .ok (.istore 5, 2) := by decide +kernel
theorem dX9_packed_55 : decode cX9_packed 55 = .ok (.iload 5, 2) := by decide +kernel
theorem dX9_packed_57 : decode cX9_packed 57 = .ok (.iconst 3, 1) := by decide +kernel
theorem dX9_packed_58 : decode cX9_packed 58 = .ok (.if_icmp .ge 121, 3) := by decide +kernel
theorem dX9_packed_61 : decode cX9_packed 61 = .ok (.iload_n 1, 1) := by decide +kernel
theorem dX9_packed_62 : decode cX9_packed 62 = .ok (.iload 5, 2) := by decide +kernel
theorem dX9_packed_64 : decode cX9_packed 64 = .ok (.invokestatic 45, 3) := by decide +kernel
theorem dX9_packed_67 : decode cX9_packed 67 = .ok (.istore 6, 2) := by decide +kernel
theorem dX9_packed_69 : decode cX9_packed 69 = .ok (.lload_n 3, 1) := by decide +kernel
theorem dX9_packed_70 : decode cX9_packed 70 = .ok (.aload_n 0, 1) := by decide +kernel
theorem dX9_packed_71 : decode cX9_packed 71 = .ok (.getfield 11, 3) := by decide +kernel
theorem dX9_packed_74 : decode cX9_packed 74 = .ok (.iload 5, 2) := by decide +kernel
theorem dX9_packed_76 : decode cX9_packed 76 = .ok (.iaload, 1) := by decide +kernel
theorem dX9_packed_77 : decode cX9_packed 77 = .ok (.i2l, 1) := by decide +kernel
theorem dX9_packed_78 : decode cX9_packed 78 = .ok (.iload 6, 2) := by decide +kernel
theorem dX9_packed_80 : decode cX9_packed 80 = .ok (.invokestatic 52, 3) := by decide +kernel
theorem dX9_packed_83 : decode cX9_packed 83 = .ok (.lshl, 1) := by decide +kernel
theorem dX9_packed_84 : decode cX9_packed 84 = .ok (.lor, 1) := by decide +kernel
theorem dX9_packed_85 : decode cX9_packed 85 = .ok (.lstore_n 3, 1) := by decide +kernel
theorem dX9_packed_86 : decode cX9_packed 86 = .ok (.iconst 0, 1) := by decide +kernel
theorem dX9_packed_87 : decode cX9_packed 87 = .ok (.istore 7, 2) := by decide +kernel
theorem dX9_packed_89 : decode cX9_packed 89 = .ok (.iload 7, 2) := by decide +kernel
theorem dX9_packed_91 : decode cX9_packed 91 = .ok (.iconst 3, 1) := by decide +kernel
theorem dX9_packed_92 : decode cX9_packed 92 = .ok (.if_icmp .ge 81, 3) := by decide +kernel
theorem dX9_packed_95 : decode cX9_packed 95 = .ok (.iload 7, 2) := by decide +kernel
theorem dX9_packed_97 : decode cX9_packed 97 = .ok (.iload 5, 2) := by decide +kernel
theorem dX9_packed_99 : decode cX9_packed 99 = .ok (.if_icmp .eq 68, 3) := by decide +kernel
theorem dX9_packed_102 : decode cX9_packed 102 = .ok (.iconst 3, 1) := by decide +kernel
theorem dX9_packed_103 : decode cX9_packed 103 = .ok (.iload 5, 2) := by decide +kernel
theorem dX9_packed_105 : decode cX9_packed 105 = .ok (.imul, 1) := by decide +kernel
theorem dX9_packed_106 : decode cX9_packed 106 = .ok (.iload 7, 2) := by decide +kernel
theorem dX9_packed_108 : decode cX9_packed 108 = .ok (.iadd, 1) := by decide +kernel
theorem dX9_packed_109 : decode cX9_packed 109 = .ok (.istore 8, 2) := by decide +kernel
theorem dX9_packed_111 : decode cX9_packed 111 = .ok (.aload_n 0, 1) := by decide +kernel
theorem dX9_packed_112 : decode cX9_packed 112 = .ok (.getfield 11, 3) := by decide +kernel
theorem dX9_packed_115 : decode cX9_packed 115 = .ok (.bipush 10, 2) := by decide +kernel
theorem dX9_packed_117 : decode cX9_packed 117 = .ok (.iload 8, 2) := by decide +kernel
theorem dX9_packed_119 : decode cX9_packed 119 = .ok (.iadd, 1) := by decide +kernel
theorem dX9_packed_120 : decode cX9_packed 120 = .ok (.iaload, 1) := by decide +kernel
theorem dX9_packed_121 : decode cX9_packed 121 = .ok (.aload_n 0, 1) := by decide +kernel
theorem dX9_packed_122 : decode cX9_packed 122 = .ok (.getfield 11, 3) := by decide +kernel
theorem dX9_packed_125 : decode cX9_packed 125 = .ok (.bipush 20, 2) := by decide +kernel
theorem dX9_packed_127 : decode cX9_packed 127 = .ok (.iload 8, 2) := by decide +kernel
theorem dX9_packed_129 : decode cX9_packed 129 = .ok (.iadd, 1) := by decide +kernel
theorem dX9_packed_130 : decode cX9_packed 130 = .ok (.iaload, 1) := by decide +kernel
theorem dX9_packed_131 : decode cX9_packed 131 = .ok (.iconst 3, 1) := by decide +kernel
theorem dX9_packed_132 : decode cX9_packed 132 = .ok (.ishl, 1) := by decide +kernel
theorem dX9_packed_133 : decode cX9_packed 133 = .ok (.ior, 1) := by decide +kernel
theorem dX9_packed_134 : decode cX9_packed 134 = .ok (.aload_n 0, 1) := by decide +kernel
theorem dX9_packed_135 : decode cX9_packed 135 = .ok (.getfield 11, 3) := by decide +kernel
theorem dX9_packed_138 : decode cX9_packed 138 = .ok (.bipush 30, 2) := by decide +kernel
theorem dX9_packed_140 : decode cX9_packed 140 = .ok (.iload 8, 2) := by decide +kernel
theorem dX9_packed_142 : decode cX9_packed 142 = .ok (.iadd, 1) := by decide +kernel
theorem dX9_packed_143 : decode cX9_packed 143 = .ok (.iaload, 1) := by decide +kernel
theorem dX9_packed_144 : decode cX9_packed 144 = .ok (.iconst 4, 1) := by decide +kernel
theorem dX9_packed_145 : decode cX9_packed 145 = .ok (.ishl, 1) := by decide +kernel
theorem dX9_packed_146 : decode cX9_packed 146 = .ok (.ior, 1) := by decide +kernel
theorem dX9_packed_147 : decode cX9_packed 147 = .ok (.istore 9, 2) := by decide +kernel
theorem dX9_packed_149 : decode cX9_packed 149 = .ok (.lload_n 3, 1) := by decide +kernel
theorem dX9_packed_150 : decode cX9_packed 150 = .ok (.iload 9, 2) := by decide +kernel
theorem dX9_packed_152 : decode cX9_packed 152 = .ok (.i2l, 1) := by decide +kernel
theorem dX9_packed_153 : decode cX9_packed 153 = .ok (.iload 6, 2) := by decide +kernel
theorem dX9_packed_155 : decode cX9_packed 155 = .ok (.iload_n 1, 1) := by decide +kernel
theorem dX9_packed_156 : decode cX9_packed 156 = .ok (.iload 7, 2) := by decide +kernel
theorem dX9_packed_158 : decode cX9_packed 158 = .ok (.invokestatic 45, 3) := by decide +kernel
theorem dX9_packed_161 : decode cX9_packed 161 = .ok (.invokestatic 55, 3) := by decide +kernel
theorem dX9_packed_164 : decode cX9_packed 164 = .ok (.lshl, 1) := by decide +kernel
theorem dX9_packed_165 : decode cX9_packed 165 = .ok (.lor, 1) := by decide +kernel
theorem dX9_packed_166 : decode cX9_packed 166 = .ok (.lstore_n 3, 1) := by decide +kernel
theorem dX9_packed_167 : decode cX9_packed 167 = .ok (.iinc 7 1, 3) := by decide +kernel
theorem dX9_packed_170 : decode cX9_packed 170 = .ok (.goto (-81), 3) := by decide +kernel
theorem dX9_packed_173 : decode cX9_packed 173 = .ok (.iinc 5 1, 3) := by decide +kernel
theorem dX9_packed_176 : decode cX9_packed 176 = .ok (.goto (-121), 3) := by decide +kernel
theorem dX9_packed_179 : decode cX9_packed 179 = .ok (.lload_n 3, 1) := by decide +kernel
theorem dX9_packed_180 : decode cX9_packed 180 = .ok (.lreturn, 1) := by decide +kernel
theorem dX9_pairShift_0 : decode cX9_pairShift 0 = .ok (.bipush 22, 2) := by decide +kernel
theorem dX9_pairShift_2 : decode cX9_pairShift 2 = .ok (.iconst 5, 1) := by decide +kernel
theorem dX9_pairShift_3 : decode cX9_pairShift 3 = .ok (.iconst 2, 1) := by decide +kernel
theorem dX9_pairShift_4 : decode cX9_pairShift 4 = .ok (.iload_n 0, 1) := by decide +kernel
theorem dX9_pairShift_5 : decode cX9_pairShift 5 = .ok (.imul, 1) := by decide +kernel
theorem dX9_pairShift_6 : decode cX9_pairShift 6 = .ok (.iload_n 1, 1) := by decide +kernel
theorem dX9_pairShift_7 : decode cX9_pairShift 7 = .ok (.iload_n 0, 1) := by decide +kernel
theorem dX9_pairShift_8 : decode cX9_pairShift 8 = .ok (.if_icmp .le 9, 3) := by decide +kernel
theorem dX9_pairShift_11 : decode cX9_pairShift 11 = .ok (.iload_n 1, 1) := by decide +kernel
theorem dX9_pairShift_12 : decode cX9_pairShift 12 = .ok (.iconst 1, 1) := by decide +kernel
theorem dX9_pairShift_13 : decode cX9_pairShift 13 = .ok (.isub, 1) := by decide +kernel
theorem dX9_pairShift_14 : decode cX9_pairShift 14 = .ok (.goto 4, 3) := by decide +kernel
theorem dX9_pairShift_17 : decode cX9_pairShift 17 = .ok (.iload_n 1, 1) := by decide +kernel
theorem dX9_pairShift_18 : decode cX9_pairShift 18 = .ok (.iadd, 1) := by decide +kernel
theorem dX9_pairShift_19 : decode cX9_pairShift 19 = .ok (.imul, 1) := by decide +kernel
theorem dX9_pairShift_20 : decode cX9_pairShift 20 = .ok (.iadd, 1) := by decide +kernel
theorem dX9_pairShift_21 : decode cX9_pairShift 21 = .ok (.ireturn, 1) := by decide +kernel
theorem dX9_set_0 : decode cX9_set 0 = .ok (.iload_n 1, 1) := by decide +kernel
theorem dX9_set_1 : decode cX9_set 1 = .ok (.ifCond .lt 19, 3) := by decide +kernel
theorem dX9_set_4 : decode cX9_set 4 = .ok (.iload_n 1, 1) := by decide +kernel
theorem dX9_set_5 : decode cX9_set 5 = .ok (.aload_n 0, 1) := by decide +kernel
theorem dX9_set_6 : decode cX9_set 6 = .ok (.getfield 11, 3) := by decide +kernel
theorem dX9_set_9 : decode cX9_set 9 = .ok (.arraylength, 1) := by decide +kernel
theorem dX9_set_10 : decode cX9_set 10 = .ok (.if_icmp .ge 10, 3) := by decide +kernel
theorem dX9_set_13 : decode cX9_set 13 = .ok (.aload_n 0, 1) := by decide +kernel
theorem dX9_set_14 : decode cX9_set 14 = .ok (.getfield 11, 3) := by decide +kernel
theorem dX9_set_17 : decode cX9_set 17 = .ok (.iload_n 1, 1) := by decide +kernel
theorem dX9_set_18 : decode cX9_set 18 = .ok (.iload_n 2, 1) := by decide +kernel
theorem dX9_set_19 : decode cX9_set 19 = .ok (.iastore, 1) := by decide +kernel
theorem dX9_set_20 : decode cX9_set 20 = .ok (.return_, 1) := by decide +kernel
theorem dX9_thingsOf_0 : decode cX9_thingsOf 0 = .ok (.iconst 0, 1) := by decide +kernel
theorem dX9_thingsOf_1 : decode cX9_thingsOf 1 = .ok (.istore_n 2, 1) := by decide +kernel
theorem dX9_thingsOf_2 : decode cX9_thingsOf 2 = .ok (.iconst 0, 1) := by decide +kernel
theorem dX9_thingsOf_3 : decode cX9_thingsOf 3 = .ok (.istore_n 3, 1) := by decide +kernel
theorem dX9_thingsOf_4 : decode cX9_thingsOf 4 = .ok (.iload_n 3, 1) := by decide +kernel
theorem dX9_thingsOf_5 : decode cX9_thingsOf 5 = .ok (.iconst 3, 1) := by decide +kernel
theorem dX9_thingsOf_6 : decode cX9_thingsOf 6 = .ok (.if_icmp .ge 25, 3) := by decide +kernel
theorem dX9_thingsOf_9 : decode cX9_thingsOf 9 = .ok (.aload_n 0, 1) := by decide +kernel
theorem dX9_thingsOf_10 : decode cX9_thingsOf 10 = .ok (.getfield 11, 3) := by decide +kernel
theorem dX9_thingsOf_13 : decode cX9_thingsOf 13 = .ok (.bipush 40, 2) := by decide +kernel
theorem dX9_thingsOf_15 : decode cX9_thingsOf 15 = .ok (.iload_n 3, 1) := by decide +kernel
theorem dX9_thingsOf_16 : decode cX9_thingsOf 16 = .ok (.iadd, 1) := by decide +kernel
theorem dX9_thingsOf_17 : decode cX9_thingsOf 17 = .ok (.iaload, 1) := by decide +kernel
theorem dX9_thingsOf_18 : decode cX9_thingsOf 18 = .ok (.iload_n 1, 1) := by decide +kernel
theorem dX9_thingsOf_19 : decode cX9_thingsOf 19 = .ok (.if_icmp .ne 6, 3) := by decide +kernel
theorem dX9_thingsOf_22 : decode cX9_thingsOf 22 = .ok (.iinc 2 1, 3) := by decide +kernel
theorem dX9_thingsOf_25 : decode cX9_thingsOf 25 = .ok (.iinc 3 1, 3) := by decide +kernel
theorem dX9_thingsOf_28 : decode cX9_thingsOf 28 = .ok (.goto (-24), 3) := by decide +kernel
theorem dX9_thingsOf_31 : decode cX9_thingsOf 31 = .ok (.iload_n 2, 1) := by decide +kernel
theorem dX9_thingsOf_32 : decode cX9_thingsOf 32 = .ok (.ireturn, 1) := by decide +kernel
theorem dX9_unpack_0 : decode cX9_unpack 0 = .ok (.aload_n 0, 1) := by decide +kernel
theorem dX9_unpack_1 : decode cX9_unpack 1 = .ok (.getfield 11, 3) := by decide +kernel
theorem dX9_unpack_4 : decode cX9_unpack 4 = .ok (.bipush 50, 2) := by decide +kernel
theorem dX9_unpack_6 : decode cX9_unpack 6 = .ok (.lload_n 1, 1) := by decide +kernel
theorem dX9_unpack_7 : decode cX9_unpack 7 = .ok (.ldc2_w 58, 3) := by decide +kernel
theorem dX9_unpack_10 : decode cX9_unpack 10 = .ok (.land, 1) := by decide +kernel
theorem dX9_unpack_11 : decode cX9_unpack 11 = .ok (.l2i, 1) := by decide +kernel
theorem dX9_unpack_12 : decode cX9_unpack 12 = .ok (.iastore, 1) := by decide +kernel
theorem dX9_unpack_13 : decode cX9_unpack 13 = .ok (.iconst 0, 1) := by decide +kernel
theorem dX9_unpack_14 : decode cX9_unpack 14 = .ok (.istore_n 3, 1) := by decide +kernel
theorem dX9_unpack_15 : decode cX9_unpack 15 = .ok (.iload_n 3, 1) := by decide +kernel
theorem dX9_unpack_16 : decode cX9_unpack 16 = .ok (.iconst 3, 1) := by decide +kernel
theorem dX9_unpack_17 : decode cX9_unpack 17 = .ok (.if_icmp .ge 29, 3) := by decide +kernel
theorem dX9_unpack_20 : decode cX9_unpack 20 = .ok (.aload_n 0, 1) := by decide +kernel
theorem dX9_unpack_21 : decode cX9_unpack 21 = .ok (.getfield 11, 3) := by decide +kernel
theorem dX9_unpack_24 : decode cX9_unpack 24 = .ok (.bipush 40, 2) := by decide +kernel
theorem dX9_unpack_26 : decode cX9_unpack 26 = .ok (.iload_n 3, 1) := by decide +kernel
theorem dX9_unpack_27 : decode cX9_unpack 27 = .ok (.iadd, 1) := by decide +kernel
theorem dX9_unpack_28 : decode cX9_unpack 28 = .ok (.lload_n 1, 1) := by decide +kernel
theorem dX9_unpack_29 : decode cX9_unpack 29 = .ok (.iload_n 3, 1) := by decide +kernel
theorem dX9_unpack_30 : decode cX9_unpack 30 = .ok (.invokestatic 49, 3) := by decide +kernel
theorem dX9_unpack_33 : decode cX9_unpack 33 = .ok (.lushr, 1) := by decide +kernel
theorem dX9_unpack_34 : decode cX9_unpack 34 = .ok (.ldc2_w 60, 3) := by decide +kernel
theorem dX9_unpack_37 : decode cX9_unpack 37 = .ok (.land, 1) := by decide +kernel
theorem dX9_unpack_38 : decode cX9_unpack 38 = .ok (.l2i, 1) := by decide +kernel
theorem dX9_unpack_39 : decode cX9_unpack 39 = .ok (.iastore, 1) := by decide +kernel
theorem dX9_unpack_40 : decode cX9_unpack 40 = .ok (.iinc 3 1, 3) := by decide +kernel
theorem dX9_unpack_43 : decode cX9_unpack 43 = .ok (.goto (-28), 3) := by decide +kernel
theorem dX9_unpack_46 : decode cX9_unpack 46 = .ok (.iconst 0, 1) := by decide +kernel
theorem dX9_unpack_47 : decode cX9_unpack 47 = .ok (.istore_n 3, 1) := by decide +kernel
theorem dX9_unpack_48 : decode cX9_unpack 48 = .ok (.iload_n 3, 1) := by decide +kernel
theorem dX9_unpack_49 : decode cX9_unpack 49 = .ok (.iconst 3, 1) := by decide +kernel
theorem dX9_unpack_50 : decode cX9_unpack 50 = .ok (.if_icmp .ge 115, 3) := by decide +kernel
theorem dX9_unpack_53 : decode cX9_unpack 53 = .ok (.aload_n 0, 1) := by decide +kernel
theorem dX9_unpack_54 : decode cX9_unpack 54 = .ok (.getfield 11, 3) := by decide +kernel
theorem dX9_unpack_57 : decode cX9_unpack 57 = .ok (.iload_n 3, 1) := by decide +kernel
theorem dX9_unpack_58 : decode cX9_unpack 58 = .ok (.lload_n 1, 1) := by decide +kernel
theorem dX9_unpack_59 : decode cX9_unpack 59 = .ok (.iload_n 3, 1) := by decide +kernel
theorem dX9_unpack_60 : decode cX9_unpack 60 = .ok (.invokestatic 52, 3) := by decide +kernel
theorem dX9_unpack_63 : decode cX9_unpack 63 = .ok (.lushr, 1) := by decide +kernel
theorem dX9_unpack_64 : decode cX9_unpack 64 = .ok (.ldc2_w 58, 3) := by decide +kernel
theorem dX9_unpack_67 : decode cX9_unpack 67 = .ok (.land, 1) := by decide +kernel
theorem dX9_unpack_68 : decode cX9_unpack 68 = .ok (.l2i, 1) := by decide +kernel
theorem dX9_unpack_69 : decode cX9_unpack 69 = .ok (.iastore, 1) := by decide +kernel
theorem dX9_unpack_70 : decode cX9_unpack 70 = .ok (.iconst 0, 1) := by decide +kernel
theorem dX9_unpack_71 : decode cX9_unpack 71 = .ok (.istore 4, 2) := by decide +kernel
theorem dX9_unpack_73 : decode cX9_unpack 73 = .ok (.iload 4, 2) := by decide +kernel
theorem dX9_unpack_75 : decode cX9_unpack 75 = .ok (.iconst 3, 1) := by decide +kernel
theorem dX9_unpack_76 : decode cX9_unpack 76 = .ok (.if_icmp .ge 83, 3) := by decide +kernel
theorem dX9_unpack_79 : decode cX9_unpack 79 = .ok (.iload 4, 2) := by decide +kernel
theorem dX9_unpack_81 : decode cX9_unpack 81 = .ok (.iload_n 3, 1) := by decide +kernel
theorem dX9_unpack_82 : decode cX9_unpack 82 = .ok (.if_icmp .eq 71, 3) := by decide +kernel
theorem dX9_unpack_85 : decode cX9_unpack 85 = .ok (.iconst 3, 1) := by decide +kernel
theorem dX9_unpack_86 : decode cX9_unpack 86 = .ok (.iload_n 3, 1) := by decide +kernel
theorem dX9_unpack_87 : decode cX9_unpack 87 = .ok (.imul, 1) := by decide +kernel
theorem dX9_unpack_88 : decode cX9_unpack 88 = .ok (.iload 4, 2) := by decide +kernel
theorem dX9_unpack_90 : decode cX9_unpack 90 = .ok (.iadd, 1) := by decide +kernel
theorem dX9_unpack_91 : decode cX9_unpack 91 = .ok (.istore 5, 2) := by decide +kernel
theorem dX9_unpack_93 : decode cX9_unpack 93 = .ok (.lload_n 1, 1) := by decide +kernel
theorem dX9_unpack_94 : decode cX9_unpack 94 = .ok (.iload_n 3, 1) := by decide +kernel
theorem dX9_unpack_95 : decode cX9_unpack 95 = .ok (.iload 4, 2) := by decide +kernel
theorem dX9_unpack_97 : decode cX9_unpack 97 = .ok (.invokestatic 55, 3) := by decide +kernel
theorem dX9_unpack_100 : decode cX9_unpack 100 = .ok (.lushr, 1) := by decide +kernel
theorem dX9_unpack_101 : decode cX9_unpack 101 = .ok (.ldc2_w 62, 3) := by decide +kernel
theorem dX9_unpack_104 : decode cX9_unpack 104 = .ok (.land, 1) := by decide +kernel
theorem dX9_unpack_105 : decode cX9_unpack 105 = .ok (.l2i, 1) := by decide +kernel
theorem dX9_unpack_106 : decode cX9_unpack 106 = .ok (.istore 6, 2) := by decide +kernel
theorem dX9_unpack_108 : decode cX9_unpack 108 = .ok (.aload_n 0, 1) := by decide +kernel
theorem dX9_unpack_109 : decode cX9_unpack 109 = .ok (.getfield 11, 3) := by decide +kernel
theorem dX9_unpack_112 : decode cX9_unpack 112 = .ok (.bipush 10, 2) := by decide +kernel
theorem dX9_unpack_114 : decode cX9_unpack 114 = .ok (.iload 5, 2) := by decide +kernel
theorem dX9_unpack_116 : decode cX9_unpack 116 = .ok (.iadd, 1) := by decide +kernel
theorem dX9_unpack_117 : decode cX9_unpack 117 = .ok (.iload 6, 2) := by decide +kernel
theorem dX9_unpack_119 : decode cX9_unpack 119 = .ok (.bipush 7, 2) := by decide +kernel
theorem dX9_unpack_121 : decode cX9_unpack 121 = .ok (.iand, 1) := by decide +kernel
theorem dX9_unpack_122 : decode cX9_unpack 122 = .ok (.iastore, 1) := by decide +kernel
theorem dX9_unpack_123 : decode cX9_unpack 123 = .ok (.aload_n 0, 1) := by decide +kernel
theorem dX9_unpack_124 : decode cX9_unpack 124 = .ok (.getfield 11, 3) := by decide +kernel
theorem dX9_unpack_127 : decode cX9_unpack 127 = .ok (.bipush 20, 2) := by decide +kernel
theorem dX9_unpack_129 : decode cX9_unpack 129 = .ok (.iload 5, 2) := by decide +kernel
theorem dX9_unpack_131 : decode cX9_unpack 131 = .ok (.iadd, 1) := by decide +kernel
theorem dX9_unpack_132 : decode cX9_unpack 132 = .ok (.iload 6, 2) := by decide +kernel
theorem dX9_unpack_134 : decode cX9_unpack 134 = .ok (.iconst 3, 1) := by decide +kernel
theorem dX9_unpack_135 : decode cX9_unpack 135 = .ok (.ishr, 1) := by decide +kernel
theorem dX9_unpack_136 : decode cX9_unpack 136 = .ok (.iconst 1, 1) := by decide +kernel
theorem dX9_unpack_137 : decode cX9_unpack 137 = .ok (.iand, 1) := by decide +kernel
theorem dX9_unpack_138 : decode cX9_unpack 138 = .ok (.iastore, 1) := by decide +kernel
theorem dX9_unpack_139 : decode cX9_unpack 139 = .ok (.aload_n 0, 1) := by decide +kernel
theorem dX9_unpack_140 : decode cX9_unpack 140 = .ok (.getfield 11, 3) := by decide +kernel
theorem dX9_unpack_143 : decode cX9_unpack 143 = .ok (.bipush 30, 2) := by decide +kernel
theorem dX9_unpack_145 : decode cX9_unpack 145 = .ok (.iload 5, 2) := by decide +kernel
theorem dX9_unpack_147 : decode cX9_unpack 147 = .ok (.iadd, 1) := by decide +kernel
theorem dX9_unpack_148 : decode cX9_unpack 148 = .ok (.iload 6, 2) := by decide +kernel
theorem dX9_unpack_150 : decode cX9_unpack 150 = .ok (.iconst 4, 1) := by decide +kernel
theorem dX9_unpack_151 : decode cX9_unpack 151 = .ok (.ishr, 1) := by decide +kernel
theorem dX9_unpack_152 : decode cX9_unpack 152 = .ok (.iastore, 1) := by decide +kernel
theorem dX9_unpack_153 : decode cX9_unpack 153 = .ok (.iinc 4 1, 3) := by decide +kernel
theorem dX9_unpack_156 : decode cX9_unpack 156 = .ok (.goto (-83), 3) := by decide +kernel
theorem dX9_unpack_159 : decode cX9_unpack 159 = .ok (.iinc 3 1, 3) := by decide +kernel
theorem dX9_unpack_162 : decode cX9_unpack 162 = .ok (.goto (-114), 3) := by decide +kernel
theorem dX9_unpack_165 : decode cX9_unpack 165 = .ok (.return_, 1) := by decide +kernel
