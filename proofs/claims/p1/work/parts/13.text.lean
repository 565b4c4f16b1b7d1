theorem wf_X11_13 : Cond.fieldLink RX11 13 "LawHoles" "tapeLength" "I" ∈ gT := gT_of 446 (by decide +kernel) (by decide +kernel)
theorem wm_X11_90 : Cond.methodLink RX11 90 yX11_feedFour ∈ gT := gT_of 517 (by decide +kernel) (by decide +kernel)
theorem wf_X11_9 : Cond.fieldLink RX11 9 "LawHoles" "tape" "[I" ∈ gT := gT_of 445 (by decide +kernel) (by decide +kernel)
theorem cf_X11_feedFour : Cf yX11_feedFour cX11_feedFour 3 none 1 := ⟨gT_of 520 (by decide +kernel) (by decide +kernel), gT_of 84 (by decide +kernel) (by decide +kernel), by decide +kernel, by decide +kernel, by decide +kernel⟩
theorem wi_X11_feedFour : Cond.instanceMethod yX11_feedFour ∈ gT := gT_of 519 (by decide +kernel) (by decide +kernel)
theorem ws_X11_feedFour : Cond.selects yX11_feedFour.cls yX11_feedFour yX11_feedFour ∈ gT := gT_of 0 (by decide +kernel) (by decide +kernel)
theorem wf_X12_182 : Cond.fieldLink RX12 182 "LawHolesModel" "taped" "I" ∈ gT := gT_of 1208 (by decide +kernel) (by decide +kernel)
theorem wf_X12_78 : Cond.fieldLink RX12 78 "LawHolesModel" "tape" "[I" ∈ gT := gT_of 1206 (by decide +kernel) (by decide +kernel)
theorem wm_X11_93 : Cond.methodLink RX11 93 yX11_takeTape ∈ gT := gT_of 529 (by decide +kernel) (by decide +kernel)
theorem wf_X11_20 : Cond.fieldLink RX11 20 "LawHoles" "reader" "LLawHoles$Reader;" ∈ gT := gT_of 447 (by decide +kernel) (by decide +kernel)
theorem wm_X11_261 : Cond.methodLink RX11 261 yX5_open ∈ gT := gT_of 533 (by decide +kernel) (by decide +kernel)
theorem wf_X5_12 : Cond.fieldLink RX5 12 "LawHoles$Reader" "tokens" "LLawHoles$Tokens;" ∈ gT := gT_of 237 (by decide +kernel) (by decide +kernel)
theorem wm_X5_49 : Cond.methodLink RX5 49 yX10_read ∈ gT := gT_of 537 (by decide +kernel) (by decide +kernel)
theorem wf_X10_25 : Cond.fieldLink RX10 25 "LawHoles$Tokens" "count" "I" ∈ gT := gT_of 195 (by decide +kernel) (by decide +kernel)
theorem wm_X10_49 : Cond.methodLink RX10 49 yJ9_min_7cf53 ∈ gT := gT_of 541 (by decide +kernel) (by decide +kernel)
theorem wL_X10_49 : Cond.methodLink RX10 49 Lib.Math.min.name ∈ gT := gT_of 541 (by decide +kernel) (by decide +kernel)
theorem wLs_mmin : Cond.static Lib.Math.min.name ∈ gT := gT_of 542 (by decide +kernel) (by decide +kernel)
theorem wi_Math : Cond.initialized "java/lang/Math" ∈ gT := gT_of 100 (by decide +kernel) (by decide +kernel)
theorem wLc_mmin : Cond.code Lib.Math.min.name Lib.Math.min.code 2 (some .int) ∈ gT := gT_of 543 (by decide +kernel) (by decide +kernel)
theorem wm_X10_71 : Cond.methodLink RX10 71 yX10_add ∈ gT := gT_of 552 (by decide +kernel) (by decide +kernel)
theorem wf_X10_15 : Cond.fieldLink RX10 15 "LawHoles$Tokens" "kinds" "[I" ∈ gT := gT_of 189 (by decide +kernel) (by decide +kernel)
theorem wf_X10_19 : Cond.fieldLink RX10 19 "LawHoles$Tokens" "places" "[I" ∈ gT := gT_of 191 (by decide +kernel) (by decide +kernel)
theorem wf_X10_22 : Cond.fieldLink RX10 22 "LawHoles$Tokens" "values" "[J" ∈ gT := gT_of 193 (by decide +kernel) (by decide +kernel)
theorem cf_X10_add : Cf yX10_add cX10_add 5 none 3 := ⟨gT_of 555 (by decide +kernel) (by decide +kernel), gT_of 86 (by decide +kernel) (by decide +kernel), by decide +kernel, by decide +kernel, by decide +kernel⟩
theorem wi_X10_add : Cond.instanceMethod yX10_add ∈ gT := gT_of 554 (by decide +kernel) (by decide +kernel)
theorem ws_X10_add : Cond.selects yX10_add.cls yX10_add yX10_add ∈ gT := gT_of 4 (by decide +kernel) (by decide +kernel)
theorem cf_X10_read : Cf yX10_read cX10_read 9 none 2 := ⟨gT_of 540 (by decide +kernel) (by decide +kernel), gT_of 86 (by decide +kernel) (by decide +kernel), by decide +kernel, by decide +kernel, by decide +kernel⟩
theorem wi_X10_read : Cond.instanceMethod yX10_read ∈ gT := gT_of 538 (by decide +kernel) (by decide +kernel)
theorem ws_X10_read : Cond.selects yX10_read.cls yX10_read yX10_read ∈ gT := gT_of 539 (by decide +kernel) (by decide +kernel)
theorem wf_X5_18 : Cond.fieldLink RX5 18 "LawHoles$Reader" "next" "I" ∈ gT := gT_of 238 (by decide +kernel) (by decide +kernel)
theorem wf_X5_26 : Cond.fieldLink RX5 26 "LawHoles$Reader" "length" "I" ∈ gT := gT_of 240 (by decide +kernel) (by decide +kernel)
theorem wf_X5_39 : Cond.fieldLink RX5 39 "LawHoles$Reader" "acts" "Ljava/util/ArrayList;" ∈ gT := gT_of 243 (by decide +kernel) (by decide +kernel)
theorem wm_X5_53 : Cond.methodLink RX5 53 yJx4a65c_clear_da8c8 ∈ gT := gT_of 619 (by decide +kernel) (by decide +kernel)
theorem wf_Jx4a65c_63 : Cond.fieldLink RJx4a65c 63 "java/util/ArrayList" "modCount" "I" ∈ gT := gT_of 228 (by decide +kernel) (by decide +kernel)
theorem wsf_mod : Cond.sameField "java/util/ArrayList" "java/util/AbstractList" "modCount" "I" ∈ gT := gT_of 229 (by decide +kernel) (by decide +kernel)
theorem wf_Jx4a65c_9 : Cond.fieldLink RJx4a65c 9 "java/util/ArrayList" "elementData" "[Ljava/lang/Object;" ∈ gT := gT_of 225 (by decide +kernel) (by decide +kernel)
theorem wf_Jx4a65c_48 : Cond.fieldLink RJx4a65c 48 "java/util/ArrayList" "size" "I" ∈ gT := gT_of 226 (by decide +kernel) (by decide +kernel)
theorem cf_Jx4a65c_clear_da8c8 : Cf yJx4a65c_clear_da8c8 cJx4a65c_clear_da8c8 4 none 0 := ⟨gT_of 622 (by decide +kernel) (by decide +kernel), gT_of 93 (by decide +kernel) (by decide +kernel), by decide +kernel, by decide +kernel, by decide +kernel⟩
theorem wi_Jx4a65c_clear_da8c8 : Cond.instanceMethod yJx4a65c_clear_da8c8 ∈ gT := gT_of 620 (by decide +kernel) (by decide +kernel)
theorem ws_Jx4a65c_clear_da8c8 : Cond.selects yJx4a65c_clear_da8c8.cls yJx4a65c_clear_da8c8 yJx4a65c_clear_da8c8 ∈ gT := gT_of 621 (by decide +kernel) (by decide +kernel)
theorem wf_X5_43 : Cond.fieldLink RX5 43 "LawHoles$Reader" "fault" "I" ∈ gT := gT_of 245 (by decide +kernel) (by decide +kernel)
theorem wf_X5_46 : Cond.fieldLink RX5 46 "LawHoles$Reader" "faultPlace" "I" ∈ gT := gT_of 247 (by decide +kernel) (by decide +kernel)
theorem cf_X5_open : Cf yX5_open cX5_open 3 none 2 := ⟨gT_of 536 (by decide +kernel) (by decide +kernel), gT_of 85 (by decide +kernel) (by decide +kernel), by decide +kernel, by decide +kernel, by decide +kernel⟩
theorem wi_X5_open : Cond.instanceMethod yX5_open ∈ gT := gT_of 534 (by decide +kernel) (by decide +kernel)
theorem ws_X5_open : Cond.selects yX5_open.cls yX5_open yX5_open ∈ gT := gT_of 535 (by decide +kernel) (by decide +kernel)
theorem cf_X11_takeTape : Cf yX11_takeTape cX11_takeTape 1 none 0 := ⟨gT_of 532 (by decide +kernel) (by decide +kernel), gT_of 84 (by decide +kernel) (by decide +kernel), by decide +kernel, by decide +kernel, by decide +kernel⟩
theorem wi_X11_takeTape : Cond.instanceMethod yX11_takeTape ∈ gT := gT_of 531 (by decide +kernel) (by decide +kernel)
theorem ws_X11_takeTape : Cond.selects yX11_takeTape.cls yX11_takeTape yX11_takeTape ∈ gT := gT_of 1 (by decide +kernel) (by decide +kernel)
theorem wf_X12_257 : Cond.fieldLink RX12 257 "LawHolesModel" "wrong" "I" ∈ gT := gT_of 1213 (by decide +kernel) (by decide +kernel)
theorem wm_X12_336 : Cond.methodLink RX12 336 yX12_ends ∈ gT := gT_of 1450 (by decide +kernel) (by decide +kernel)
theorem wf_X12_333 : Cond.fieldLink RX12 333 "LawHolesModel" "faultKind" "I" ∈ gT := gT_of 1215 (by decide +kernel) (by decide +kernel)
theorem wf_X12_84 : Cond.fieldLink RX12 84 "LawHolesModel" "faultPlace" "I" ∈ gT := gT_of 1220 (by decide +kernel) (by decide +kernel)
theorem cf_X12_ends : Cf yX12_ends cX12_ends 1 none 0 := ⟨gT_of 1453 (by decide +kernel) (by decide +kernel), gT_of 101 (by decide +kernel) (by decide +kernel), by decide +kernel, by decide +kernel, by decide +kernel⟩
theorem wi_X12_ends : Cond.instanceMethod yX12_ends ∈ gT := gT_of 1452 (by decide +kernel) (by decide +kernel)
theorem ws_X12_ends : Cond.selects yX12_ends.cls yX12_ends yX12_ends ∈ gT := gT_of 35 (by decide +kernel) (by decide +kernel)
theorem wm_X11_96 : Cond.methodLink RX11 96 yX5_kind ∈ gT := gT_of 623 (by decide +kernel) (by decide +kernel)
theorem wf_X5_56 : Cond.fieldLink RX5 56 "LawHoles$Tokens" "count" "I" ∈ gT := gT_of 196 (by decide +kernel) (by decide +kernel)
theorem wf_X5_59 : Cond.fieldLink RX5 59 "LawHoles$Tokens" "kinds" "[I" ∈ gT := gT_of 190 (by decide +kernel) (by decide +kernel)
theorem cf_X5_kind : Cf yX5_kind cX5_kind 1 (some .int) 0 := ⟨gT_of 626 (by decide +kernel) (by decide +kernel), gT_of 85 (by decide +kernel) (by decide +kernel), by decide +kernel, by decide +kernel, by decide +kernel⟩
theorem wi_X5_kind : Cond.instanceMethod yX5_kind ∈ gT := gT_of 624 (by decide +kernel) (by decide +kernel)
theorem ws_X5_kind : Cond.selects yX5_kind.cls yX5_kind yX5_kind ∈ gT := gT_of 625 (by decide +kernel) (by decide +kernel)
theorem wm_X11_106 : Cond.methodLink RX11 106 yX5_isAtEnd ∈ gT := gT_of 827 (by decide +kernel) (by decide +kernel)
theorem wm_X5_66 : Cond.methodLink RX5 66 yX5_kind ∈ gT := gT_of 639 (by decide +kernel) (by decide +kernel)
theorem cf_X5_isAtEnd : Cf yX5_isAtEnd cX5_isAtEnd 1 (some .boolean) 0 := ⟨gT_of 830 (by decide +kernel) (by decide +kernel), gT_of 85 (by decide +kernel) (by decide +kernel), by decide +kernel, by decide +kernel, by decide +kernel⟩
theorem wi_X5_isAtEnd : Cond.instanceMethod yX5_isAtEnd ∈ gT := gT_of 828 (by decide +kernel) (by decide +kernel)
theorem ws_X5_isAtEnd : Cond.selects yX5_isAtEnd.cls yX5_isAtEnd yX5_isAtEnd ∈ gT := gT_of 829 (by decide +kernel) (by decide +kernel)
theorem wf_X11_27 : Cond.fieldLink RX11 27 "LawHoles" "law" "LLawHoles$Law;" ∈ gT := gT_of 448 (by decide +kernel) (by decide +kernel)
theorem wf_X11_109 : Cond.fieldLink RX11 109 "LawHoles$Reader" "acts" "Ljava/util/ArrayList;" ∈ gT := gT_of 244 (by decide +kernel) (by decide +kernel)
theorem wm_X11_113 : Cond.methodLink RX11 113 yX4_enact ∈ gT := gT_of 831 (by decide +kernel) (by decide +kernel)
theorem wf_X4_11 : Cond.fieldLink RX4 11 "LawHoles$Law" "acts" "[LLawHoles$Act;" ∈ gT := gT_of 278 (by decide +kernel) (by decide +kernel)
theorem wm_X4_27 : Cond.methodLink RX4 27 yJx4a65c_size_8abf5 ∈ gT := gT_of 835 (by decide +kernel) (by decide +kernel)
theorem cf_Jx4a65c_size_8abf5 : Cf yJx4a65c_size_8abf5 cJx4a65c_size_8abf5 1 (some .int) 0 := ⟨gT_of 634 (by decide +kernel) (by decide +kernel), gT_of 93 (by decide +kernel) (by decide +kernel), by decide +kernel, by decide +kernel, by decide +kernel⟩
theorem wi_Jx4a65c_size_8abf5 : Cond.instanceMethod yJx4a65c_size_8abf5 ∈ gT := gT_of 632 (by decide +kernel) (by decide +kernel)
theorem ws_Jx4a65c_size_8abf5 : Cond.selects yJx4a65c_size_8abf5.cls yJx4a65c_size_8abf5 yJx4a65c_size_8abf5 ∈ gT := gT_of 633 (by decide +kernel) (by decide +kernel)
theorem cf_X4_enact : Cf yX4_enact cX4_enact 5 none 2 := ⟨gT_of 834 (by decide +kernel) (by decide +kernel), gT_of 94 (by decide +kernel) (by decide +kernel), by decide +kernel, by decide +kernel, by decide +kernel⟩
theorem wi_X4_enact : Cond.instanceMethod yX4_enact ∈ gT := gT_of 832 (by decide +kernel) (by decide +kernel)
theorem ws_X4_enact : Cond.selects yX4_enact.cls yX4_enact yX4_enact ∈ gT := gT_of 833 (by decide +kernel) (by decide +kernel)
theorem wm_X11_117 : Cond.methodLink RX11 117 yJx4a65c_size_8abf5 ∈ gT := gT_of 837 (by decide +kernel) (by decide +kernel)
theorem wm_X12_339 : Cond.methodLink RX12 339 yX12_begins ∈ gT := gT_of 1454 (by decide +kernel) (by decide +kernel)
theorem wf_X12_185 : Cond.fieldLink RX12 185 "LawHolesModel" "at" "I" ∈ gT := gT_of 1209 (by decide +kernel) (by decide +kernel)
theorem wf_X12_321 : Cond.fieldLink RX12 321 "LawHolesModel" "freshActs" "I" ∈ gT := gT_of 1219 (by decide +kernel) (by decide +kernel)
theorem wf_X12_33 : Cond.fieldLink RX12 33 "LawHolesModel" "stepMany" "[I" ∈ gT := gT_of 1191 (by decide +kernel) (by decide +kernel)
theorem wm_X12_266 : Cond.methodLink RX12 266 yX12_next0 ∈ gT := gT_of 1458 (by decide +kernel) (by decide +kernel)
theorem wm_X12_238 : Cond.methodLink RX12 238 yX12_see ∈ gT := gT_of 1462 (by decide +kernel) (by decide +kernel)
theorem cf_X12_see : Cf yX12_see cX12_see 2 (some .int) 1 := ⟨gT_of 1465 (by decide +kernel) (by decide +kernel), gT_of 101 (by decide +kernel) (by decide +kernel), by decide +kernel, by decide +kernel, by decide +kernel⟩
theorem wi_X12_see : Cond.instanceMethod yX12_see ∈ gT := gT_of 1464 (by decide +kernel) (by decide +kernel)
theorem ws_X12_see : Cond.selects yX12_see.cls yX12_see yX12_see ∈ gT := gT_of 38 (by decide +kernel) (by decide +kernel)
theorem wf_X12_188 : Cond.fieldLink RX12 188 "LawHolesModel" "tokenAt" "I" ∈ gT := gT_of 1211 (by decide +kernel) (by decide +kernel)
theorem wf_X12_242 : Cond.fieldLink RX12 242 "LawHolesModel" "token" "I" ∈ gT := gT_of 1210 (by decide +kernel) (by decide +kernel)
theorem cf_X12_next0 : Cf yX12_next0 cX12_next0 3 none 0 := ⟨gT_of 1461 (by decide +kernel) (by decide +kernel), gT_of 101 (by decide +kernel) (by decide +kernel), by decide +kernel, by decide +kernel, by decide +kernel⟩
theorem wi_X12_next0 : Cond.instanceMethod yX12_next0 ∈ gT := gT_of 1460 (by decide +kernel) (by decide +kernel)
theorem ws_X12_next0 : Cond.selects yX12_next0.cls yX12_next0 yX12_next0 ∈ gT := gT_of 37 (by decide +kernel) (by decide +kernel)
theorem cf_X12_begins : Cf yX12_begins cX12_begins 1 none 0 := ⟨gT_of 1457 (by decide +kernel) (by decide +kernel), gT_of 101 (by decide +kernel) (by decide +kernel), by decide +kernel, by decide +kernel, by decide +kernel⟩
theorem wi_X12_begins : Cond.instanceMethod yX12_begins ∈ gT := gT_of 1456 (by decide +kernel) (by decide +kernel)
theorem ws_X12_begins : Cond.selects yX12_begins.cls yX12_begins yX12_begins ∈ gT := gT_of 36 (by decide +kernel) (by decide +kernel)
theorem wm_X12_345 : Cond.methodLink RX12 345 yX12_keeps ∈ gT := gT_of 1569 (by decide +kernel) (by decide +kernel)
theorem cf_X12_keeps : Cf yX12_keeps cX12_keeps 3 none 1 := ⟨gT_of 1572 (by decide +kernel) (by decide +kernel), gT_of 101 (by decide +kernel) (by decide +kernel), by decide +kernel, by decide +kernel, by decide +kernel⟩
theorem wi_X12_keeps : Cond.instanceMethod yX12_keeps ∈ gT := gT_of 1571 (by decide +kernel) (by decide +kernel)
theorem ws_X12_keeps : Cond.selects yX12_keeps.cls yX12_keeps yX12_keeps ∈ gT := gT_of 58 (by decide +kernel) (by decide +kernel)
theorem wf_X12_36 : Cond.fieldLink RX12 36 "LawHolesModel" "actMany" "[I" ∈ gT := gT_of 1192 (by decide +kernel) (by decide +kernel)
theorem wf_X11_122 : Cond.fieldLink RX11 122 "LawHoles$Law" "nevers" "Ljava/util/ArrayList;" ∈ gT := gT_of 281 (by decide +kernel) (by decide +kernel)
theorem wm_X11_125 : Cond.methodLink RX11 125 yX5_readCondition ∈ gT := gT_of 842 (by decide +kernel) (by decide +kernel)
theorem wm_X5_112 : Cond.methodLink RX5 112 yX5_readEither ∈ gT := gT_of 815 (by decide +kernel) (by decide +kernel)
theorem wm_X5_158 : Cond.methodLink RX5 158 yX5_readClaim ∈ gT := gT_of 819 (by decide +kernel) (by decide +kernel)
theorem wm_X5_151 : Cond.methodLink RX5 151 yX5_readSum ∈ gT := gT_of 717 (by decide +kernel) (by decide +kernel)
theorem wm_X5_165 : Cond.methodLink RX5 165 yX5_readOperand ∈ gT := gT_of 721 (by decide +kernel) (by decide +kernel)
theorem wm_X5_70 : Cond.methodLink RX5 70 yX5_refuse ∈ gT := gT_of 635 (by decide +kernel) (by decide +kernel)
theorem wf_X5_168 : Cond.fieldLink RX5 168 "LawHoles$Tokens" "places" "[I" ∈ gT := gT_of 192 (by decide +kernel) (by decide +kernel)
theorem cf_X5_refuse : Cf yX5_refuse cX5_refuse 2 (some .boolean) 1 := ⟨gT_of 638 (by decide +kernel) (by decide +kernel), gT_of 85 (by decide +kernel) (by decide +kernel), by decide +kernel, by decide +kernel, by decide +kernel⟩
theorem wi_X5_refuse : Cond.instanceMethod yX5_refuse ∈ gT := gT_of 637 (by decide +kernel) (by decide +kernel)
theorem ws_X5_refuse : Cond.selects yX5_refuse.cls yX5_refuse yX5_refuse ∈ gT := gT_of 6 (by decide +kernel) (by decide +kernel)
theorem cf_X5_readOperand : Cf yX5_readOperand cX5_readOperand 3 (some .boolean) 0 := ⟨gT_of 724 (by decide +kernel) (by decide +kernel), gT_of 85 (by decide +kernel) (by decide +kernel), by decide +kernel, by decide +kernel, by decide +kernel⟩
theorem wi_X5_readOperand : Cond.instanceMethod yX5_readOperand ∈ gT := gT_of 723 (by decide +kernel) (by decide +kernel)
theorem ws_X5_readOperand : Cond.selects yX5_readOperand.cls yX5_readOperand yX5_readOperand ∈ gT := gT_of 15 (by decide +kernel) (by decide +kernel)
theorem cf_X5_readSum : Cf yX5_readSum cX5_readSum 4 (some .boolean) 0 := ⟨gT_of 720 (by decide +kernel) (by decide +kernel), gT_of 85 (by decide +kernel) (by decide +kernel), by decide +kernel, by decide +kernel, by decide +kernel⟩
theorem wi_X5_readSum : Cond.instanceMethod yX5_readSum ∈ gT := gT_of 719 (by decide +kernel) (by decide +kernel)
theorem ws_X5_readSum : Cond.selects yX5_readSum.cls yX5_readSum yX5_readSum ∈ gT := gT_of 14 (by decide +kernel) (by decide +kernel)
theorem cf_X5_readClaim : Cf yX5_readClaim cX5_readClaim 4 (some .boolean) 1 := ⟨gT_of 822 (by decide +kernel) (by decide +kernel), gT_of 85 (by decide +kernel) (by decide +kernel), by decide +kernel, by decide +kernel, by decide +kernel⟩
theorem wi_X5_readClaim : Cond.instanceMethod yX5_readClaim ∈ gT := gT_of 821 (by decide +kernel) (by decide +kernel)
theorem ws_X5_readClaim : Cond.selects yX5_readClaim.cls yX5_readClaim yX5_readClaim ∈ gT := gT_of 20 (by decide +kernel) (by decide +kernel)
theorem cf_X5_readEither : Cf yX5_readEither cX5_readEither 5 (some .boolean) 1 := ⟨gT_of 818 (by decide +kernel) (by decide +kernel), gT_of 85 (by decide +kernel) (by decide +kernel), by decide +kernel, by decide +kernel, by decide +kernel⟩
theorem wi_X5_readEither : Cond.instanceMethod yX5_readEither ∈ gT := gT_of 817 (by decide +kernel) (by decide +kernel)
theorem ws_X5_readEither : Cond.selects yX5_readEither.cls yX5_readEither yX5_readEither ∈ gT := gT_of 19 (by decide +kernel) (by decide +kernel)
theorem cf_X5_readCondition : Cf yX5_readCondition cX5_readCondition 1 (some .boolean) 0 := ⟨gT_of 845 (by decide +kernel) (by decide +kernel), gT_of 85 (by decide +kernel) (by decide +kernel), by decide +kernel, by decide +kernel, by decide +kernel⟩
theorem wi_X5_readCondition : Cond.instanceMethod yX5_readCondition ∈ gT := gT_of 843 (by decide +kernel) (by decide +kernel)
theorem ws_X5_readCondition : Cond.selects yX5_readCondition.cls yX5_readCondition yX5_readCondition ∈ gT := gT_of 844 (by decide +kernel) (by decide +kernel)
theorem wf_X12_352 : Cond.fieldLink RX12 352 "LawHolesModel" "nevers" "I" ∈ gT := gT_of 1223 (by decide +kernel) (by decide +kernel)
theorem wm_X12_355 : Cond.methodLink RX12 355 yX12_reads ∈ gT := gT_of 1581 (by decide +kernel) (by decide +kernel)
theorem wm_X12_327 : Cond.methodLink RX12 327 yX12_asked ∈ gT := gT_of 1513 (by decide +kernel) (by decide +kernel)
theorem wf_X12_282 : Cond.fieldLink RX12 282 "LawHolesModel" "depth" "I" ∈ gT := gT_of 1216 (by decide +kernel) (by decide +kernel)
theorem wm_X12_310 : Cond.methodLink RX12 310 yX12_any ∈ gT := gT_of 1517 (by decide +kernel) (by decide +kernel)
theorem wm_X12_301 : Cond.methodLink RX12 301 yX12_every ∈ gT := gT_of 1521 (by decide +kernel) (by decide +kernel)
theorem wm_X12_304 : Cond.methodLink RX12 304 yX12_single ∈ gT := gT_of 1525 (by decide +kernel) (by decide +kernel)
theorem wm_X12_315 : Cond.methodLink RX12 315 yX12_sumUp ∈ gT := gT_of 1541 (by decide +kernel) (by decide +kernel)
theorem wm_X12_285 : Cond.methodLink RX12 285 yX12_product ∈ gT := gT_of 1545 (by decide +kernel) (by decide +kernel)
theorem wm_X12_292 : Cond.methodLink RX12 292 yX12_unit ∈ gT := gT_of 1549 (by decide +kernel) (by decide +kernel)
theorem wm_X12_263 : Cond.methodLink RX12 263 yX12_bad ∈ gT := gT_of 1505 (by decide +kernel) (by decide +kernel)
theorem wf_X12_260 : Cond.fieldLink RX12 260 "LawHolesModel" "wrongAt" "I" ∈ gT := gT_of 1214 (by decide +kernel) (by decide +kernel)
theorem cf_X12_bad : Cf yX12_bad cX12_bad 2 (some .boolean) 1 := ⟨gT_of 1508 (by decide +kernel) (by decide +kernel), gT_of 101 (by decide +kernel) (by decide +kernel), by decide +kernel, by decide +kernel, by decide +kernel⟩
theorem wi_X12_bad : Cond.instanceMethod yX12_bad ∈ gT := gT_of 1507 (by decide +kernel) (by decide +kernel)
theorem ws_X12_bad : Cond.selects yX12_bad.cls yX12_bad yX12_bad ∈ gT := gT_of 42 (by decide +kernel) (by decide +kernel)
theorem cf_X12_unit : Cf yX12_unit cX12_unit 3 (some .boolean) 0 := ⟨gT_of 1552 (by decide +kernel) (by decide +kernel), gT_of 101 (by decide +kernel) (by decide +kernel), by decide +kernel, by decide +kernel, by decide +kernel⟩
theorem wi_X12_unit : Cond.instanceMethod yX12_unit ∈ gT := gT_of 1551 (by decide +kernel) (by decide +kernel)
theorem ws_X12_unit : Cond.selects yX12_unit.cls yX12_unit yX12_unit ∈ gT := gT_of 53 (by decide +kernel) (by decide +kernel)
theorem cf_X12_product : Cf yX12_product cX12_product 1 (some .boolean) 0 := ⟨gT_of 1548 (by decide +kernel) (by decide +kernel), gT_of 101 (by decide +kernel) (by decide +kernel), by decide +kernel, by decide +kernel, by decide +kernel⟩
theorem wi_X12_product : Cond.instanceMethod yX12_product ∈ gT := gT_of 1547 (by decide +kernel) (by decide +kernel)
theorem ws_X12_product : Cond.selects yX12_product.cls yX12_product yX12_product ∈ gT := gT_of 52 (by decide +kernel) (by decide +kernel)
theorem cf_X12_sumUp : Cf yX12_sumUp cX12_sumUp 2 (some .boolean) 0 := ⟨gT_of 1544 (by decide +kernel) (by decide +kernel), gT_of 101 (by decide +kernel) (by decide +kernel), by decide +kernel, by decide +kernel, by decide +kernel⟩
theorem wi_X12_sumUp : Cond.instanceMethod yX12_sumUp ∈ gT := gT_of 1543 (by decide +kernel) (by decide +kernel)
theorem ws_X12_sumUp : Cond.selects yX12_sumUp.cls yX12_sumUp yX12_sumUp ∈ gT := gT_of 51 (by decide +kernel) (by decide +kernel)
theorem cf_X12_single : Cf yX12_single cX12_single 2 (some .boolean) 0 := ⟨gT_of 1528 (by decide +kernel) (by decide +kernel), gT_of 101 (by decide +kernel) (by decide +kernel), by decide +kernel, by decide +kernel, by decide +kernel⟩
theorem wi_X12_single : Cond.instanceMethod yX12_single ∈ gT := gT_of 1527 (by decide +kernel) (by decide +kernel)
theorem ws_X12_single : Cond.selects yX12_single.cls yX12_single yX12_single ∈ gT := gT_of 47 (by decide +kernel) (by decide +kernel)
theorem cf_X12_every : Cf yX12_every cX12_every 1 (some .boolean) 0 := ⟨gT_of 1524 (by decide +kernel) (by decide +kernel), gT_of 101 (by decide +kernel) (by decide +kernel), by decide +kernel, by decide +kernel, by decide +kernel⟩
theorem wi_X12_every : Cond.instanceMethod yX12_every ∈ gT := gT_of 1523 (by decide +kernel) (by decide +kernel)
theorem ws_X12_every : Cond.selects yX12_every.cls yX12_every yX12_every ∈ gT := gT_of 46 (by decide +kernel) (by decide +kernel)
theorem cf_X12_any : Cf yX12_any cX12_any 1 (some .boolean) 0 := ⟨gT_of 1520 (by decide +kernel) (by decide +kernel), gT_of 101 (by decide +kernel) (by decide +kernel), by decide +kernel, by decide +kernel, by decide +kernel⟩
theorem wi_X12_any : Cond.instanceMethod yX12_any ∈ gT := gT_of 1519 (by decide +kernel) (by decide +kernel)
theorem ws_X12_any : Cond.selects yX12_any.cls yX12_any yX12_any ∈ gT := gT_of 45 (by decide +kernel) (by decide +kernel)
theorem cf_X12_asked : Cf yX12_asked cX12_asked 1 (some .boolean) 0 := ⟨gT_of 1516 (by decide +kernel) (by decide +kernel), gT_of 101 (by decide +kernel) (by decide +kernel), by decide +kernel, by decide +kernel, by decide +kernel⟩
theorem wi_X12_asked : Cond.instanceMethod yX12_asked ∈ gT := gT_of 1515 (by decide +kernel) (by decide +kernel)
theorem ws_X12_asked : Cond.selects yX12_asked.cls yX12_asked yX12_asked ∈ gT := gT_of 44 (by decide +kernel) (by decide +kernel)
theorem cf_X12_reads : Cf yX12_reads cX12_reads 2 (some .boolean) 0 := ⟨gT_of 1584 (by decide +kernel) (by decide +kernel), gT_of 101 (by decide +kernel) (by decide +kernel), by decide +kernel, by decide +kernel, by decide +kernel⟩
theorem wi_X12_reads : Cond.instanceMethod yX12_reads ∈ gT := gT_of 1583 (by decide +kernel) (by decide +kernel)
theorem ws_X12_reads : Cond.selects yX12_reads.cls yX12_reads yX12_reads ∈ gT := gT_of 60 (by decide +kernel) (by decide +kernel)
theorem wf_X11_136 : Cond.fieldLink RX11 136 "LawHoles$Law" "cures" "Ljava/util/ArrayList;" ∈ gT := gT_of 284 (by decide +kernel) (by decide +kernel)
theorem wf_X12_358 : Cond.fieldLink RX12 358 "LawHolesModel" "cures" "I" ∈ gT := gT_of 1224 (by decide +kernel) (by decide +kernel)
theorem wf_X11_144 : Cond.fieldLink RX11 144 "LawHoles$Reader" "fault" "I" ∈ gT := gT_of 246 (by decide +kernel) (by decide +kernel)
theorem wf_X11_147 : Cond.fieldLink RX11 147 "LawHoles$Reader" "faultPlace" "I" ∈ gT := gT_of 248 (by decide +kernel) (by decide +kernel)
theorem wm_X11_150 : Cond.methodLink RX11 150 yX4_actAt ∈ gT := gT_of 876 (by decide +kernel) (by decide +kernel)
theorem cf_X4_actAt : Cf yX4_actAt cX4_actAt 2 (some (.object "LawHoles$Act")) 1 := ⟨gT_of 879 (by decide +kernel) (by decide +kernel), gT_of 94 (by decide +kernel) (by decide +kernel), by decide +kernel, by decide +kernel, by decide +kernel⟩
theorem wi_X4_actAt : Cond.instanceMethod yX4_actAt ∈ gT := gT_of 877 (by decide +kernel) (by decide +kernel)
theorem ws_X4_actAt : Cond.selects yX4_actAt.cls yX4_actAt yX4_actAt ∈ gT := gT_of 878 (by decide +kernel) (by decide +kernel)
theorem wm_X12_361 : Cond.methodLink RX12 361 yX12_isAct ∈ gT := gT_of 1597 (by decide +kernel) (by decide +kernel)
theorem cf_X12_isAct : Cf yX12_isAct cX12_isAct 2 (some .boolean) 1 := ⟨gT_of 1600 (by decide +kernel) (by decide +kernel), gT_of 101 (by decide +kernel) (by decide +kernel), by decide +kernel, by decide +kernel, by decide +kernel⟩
theorem wi_X12_isAct : Cond.instanceMethod yX12_isAct ∈ gT := gT_of 1599 (by decide +kernel) (by decide +kernel)
theorem ws_X12_isAct : Cond.selects yX12_isAct.cls yX12_isAct yX12_isAct ∈ gT := gT_of 61 (by decide +kernel) (by decide +kernel)
theorem dJx4a65c_clear_da8c8_0 : decode cJx4a65c_clear_da8c8 0 = .ok (.aload_n 0, 1) := by decide +kernel
theorem dJx4a65c_clear_da8c8_1 : decode cJx4a65c_clear_da8c8 1 = .ok (.dup, 1) := by decide +kernel
theorem dJx4a65c_clear_da8c8_2 : decode cJx4a65c_clear_da8c8 2 = .ok (.getfield 63, 3) := by decide +kernel
theorem dJx4a65c_clear_da8c8_5 : decode cJx4a65c_clear_da8c8 5 = .ok (.iconst 1, 1) := by decide +kernel
theorem dJx4a65c_clear_da8c8_6 : decode cJx4a65c_clear_da8c8 6 = .ok (.iadd, 1) := by decide +kernel
theorem dJx4a65c_clear_da8c8_7 : decode cJx4a65c_clear_da8c8 7 = .ok (.putfield 63, 3) := by decide +kernel
theorem dJx4a65c_clear_da8c8_10 : decode cJx4a65c_clear_da8c8 10 = .ok (.aload_n 0, 1) := by decide +kernel
theorem dJx4a65c_clear_da8c8_11 : decode cJx4a65c_clear_da8c8 11 = .ok (.getfield 9, 3) := by decide +kernel
theorem dJx4a65c_clear_da8c8_14 : decode cJx4a65c_clear_da8c8 14 = .ok (.astore_n 1, 1) := by decide +kernel
theorem dJx4a65c_clear_da8c8_15 : decode cJx4a65c_clear_da8c8 15 = .ok (.aload_n 0, 1) := by decide +kernel
theorem dJx4a65c_clear_da8c8_16 : decode cJx4a65c_clear_da8c8 16 = .ok (.getfield 48, 3) := by decide +kernel
theorem dJx4a65c_clear_da8c8_19 : decode cJx4a65c_clear_da8c8 19 = .ok (.istore_n 2, 1) := by decide +kernel
theorem dJx4a65c_clear_da8c8_20 : decode cJx4a65c_clear_da8c8 20 = .ok (.aload_n 0, 1) := by decide +kernel
theorem dJx4a65c_clear_da8c8_21 : decode cJx4a65c_clear_da8c8 21 = .ok (.iconst 0, 1) := by decide +kernel
theorem dJx4a65c_clear_da8c8_22 : decode cJx4a65c_clear_da8c8 22 = .ok (.dup_x1, 1) := by decide +kernel
theorem dJx4a65c_clear_da8c8_23 : decode cJx4a65c_clear_da8c8 23 = .ok (.putfield 48, 3) := by decide +kernel
theorem dJx4a65c_clear_da8c8_26 : decode cJx4a65c_clear_da8c8 26 = .ok (.istore_n 3, 1) := by decide +kernel
theorem dJx4a65c_clear_da8c8_27 : decode cJx4a65c_clear_da8c8 27 = .ok (.iload_n 3, 1) := by decide +kernel
theorem dJx4a65c_clear_da8c8_28 : decode cJx4a65c_clear_da8c8 28 = .ok (.iload_n 2, 1) := by decide +kernel
theorem dJx4a65c_clear_da8c8_29 : decode cJx4a65c_clear_da8c8 29 = .ok (.if_icmp .ge 13, 3) := by decide +kernel
theorem dJx4a65c_clear_da8c8_32 : decode cJx4a65c_clear_da8c8 32 = .ok (.aload_n 1, 1) := by decide +kernel
theorem dJx4a65c_clear_da8c8_33 : decode cJx4a65c_clear_da8c8 33 = .ok (.iload_n 3, 1) := by decide +kernel
theorem dJx4a65c_clear_da8c8_34 : decode cJx4a65c_clear_da8c8 34 = .ok (.aconst_null, 1) := by decide +kernel
theorem dJx4a65c_clear_da8c8_35 : decode cJx4a65c_clear_da8c8 35 = .ok (.aastore, 1) := by decide +kernel
theorem dJx4a65c_clear_da8c8_36 : decode cJx4a65c_clear_da8c8 36 = .ok (.iinc 3 1, 3) := by decide +kernel
theorem dJx4a65c_clear_da8c8_39 : decode cJx4a65c_clear_da8c8 39 = .ok (.goto (-12), 3) := by decide +kernel
theorem dJx4a65c_clear_da8c8_42 : decode cJx4a65c_clear_da8c8 42 = .ok (.return_, 1) := by decide +kernel
theorem dJx4a65c_size_8abf5_0 : decode cJx4a65c_size_8abf5 0 = .ok (.aload_n 0, 1) := by decide +kernel
theorem dJx4a65c_size_8abf5_1 : decode cJx4a65c_size_8abf5 1 = .ok (.getfield 48, 3) := by decide +kernel
theorem dJx4a65c_size_8abf5_4 : decode cJx4a65c_size_8abf5 4 = .ok (.ireturn, 1) := by decide +kernel
theorem dX10_add_0 : decode cX10_add 0 = .ok (.aload_n 0, 1) := by decide +kernel
theorem dX10_add_1 : decode cX10_add 1 = .ok (.getfield 25, 3) := by decide +kernel
theorem dX10_add_4 : decode cX10_add 4 = .ok (.aload_n 0, 1) := by decide +kernel
theorem dX10_add_5 : decode cX10_add 5 = .ok (.getfield 15, 3) := by decide +kernel
theorem dX10_add_8 : decode cX10_add 8 = .ok (.arraylength, 1) := by decide +kernel
theorem dX10_add_9 : decode cX10_add 9 = .ok (.if_icmp .ge 43, 3) := by decide +kernel
theorem dX10_add_12 : decode cX10_add 12 = .ok (.aload_n 0, 1) := by decide +kernel
theorem dX10_add_13 : decode cX10_add 13 = .ok (.getfield 15, 3) := by decide +kernel
theorem dX10_add_16 : decode cX10_add 16 = .ok (.aload_n 0, 1) := by decide +kernel
theorem dX10_add_17 : decode cX10_add 17 = .ok (.getfield 25, 3) := by decide +kernel
theorem dX10_add_20 : decode cX10_add 20 = .ok (.iload_n 1, 1) := by decide +kernel
theorem dX10_add_21 : decode cX10_add 21 = .ok (.iastore, 1) := by decide +kernel
theorem dX10_add_22 : decode cX10_add 22 = .ok (.aload_n 0, 1) := by decide +kernel
theorem dX10_add_23 : decode cX10_add 23 = .ok (.getfield 19, 3) := by decide +kernel
theorem dX10_add_26 : decode cX10_add 26 = .ok (.aload_n 0, 1) := by decide +kernel
theorem dX10_add_27 : decode cX10_add 27 = .ok (.getfield 25, 3) := by decide +kernel
theorem dX10_add_30 : decode cX10_add 30 = .ok (.iload_n 2, 1) := by decide +kernel
theorem dX10_add_31 : decode cX10_add 31 = .ok (.iastore, 1) := by decide +kernel
theorem dX10_add_32 : decode cX10_add 32 = .ok (.aload_n 0, 1) := by decide +kernel
theorem dX10_add_33 : decode cX10_add 33 = .ok (.getfield 22, 3) := by decide +kernel
theorem dX10_add_36 : decode cX10_add 36 = .ok (.aload_n 0, 1) := by decide +kernel
theorem dX10_add_37 : decode cX10_add 37 = .ok (.getfield 25, 3) := by decide +kernel
theorem dX10_add_40 : decode cX10_add 40 = .ok (.lload_n 3, 1) := by decide +kernel
theorem dX10_add_41 : decode cX10_add 41 = .ok (.lastore, 1) := by decide +kernel
theorem dX10_add_42 : decode cX10_add 42 = .ok (.aload_n 0, 1) := by decide +kernel
theorem dX10_add_43 : decode cX10_add 43 = .ok (.dup, 1) := by decide +kernel
theorem dX10_add_44 : decode cX10_add 44 = .ok (.getfield 25, 3) := by decide +kernel
theorem dX10_add_47 : decode cX10_add 47 = .ok (.iconst 1, 1) := by decide +kernel
theorem dX10_add_48 : decode cX10_add 48 = .ok (.iadd, 1) := by decide +kernel
theorem dX10_add_49 : decode cX10_add 49 = .ok (.putfield 25, 3) := by decide +kernel
theorem dX10_add_52 : decode cX10_add 52 = .ok (.return_, 1) := by decide +kernel
theorem dX10_read_0 : decode cX10_read 0 = .ok (.aload_n 0, 1) := by decide +kernel
theorem dX10_read_1 : decode cX10_read 1 = .ok (.iconst 0, 1) := by decide +kernel
theorem dX10_read_2 : decode cX10_read 2 = .ok (.putfield 25, 3) := by decide +kernel
theorem dX10_read_5 : decode cX10_read 5 = .ok (.iload_n 2, 1) := by decide +kernel
theorem dX10_read_6 : decode cX10_read 6 = .ok (.aload_n 1, 1) := by decide +kernel
theorem dX10_read_7 : decode cX10_read 7 = .ok (.arraylength, 1) := by decide +kernel
theorem dX10_read_8 : decode cX10_read 8 = .ok (.invokestatic 49, 3) := by decide +kernel
theorem dX10_read_11 : decode cX10_read 11 = .ok (.istore_n 3, 1) := by decide +kernel
theorem dX10_read_12 : decode cX10_read 12 = .ok (.iconst 0, 1) := by decide +kernel
theorem dX10_read_13 : decode cX10_read 13 = .ok (.istore 4, 2) := by decide +kernel
theorem dX10_read_15 : decode cX10_read 15 = .ok (.iconst 0, 1) := by decide +kernel
theorem dX10_read_16 : decode cX10_read 16 = .ok (.istore 5, 2) := by decide +kernel
theorem dX10_read_18 : decode cX10_read 18 = .ok (.iload 5, 2) := by decide +kernel
theorem dX10_read_20 : decode cX10_read 20 = .ok (.iload_n 3, 1) := by decide +kernel
theorem dX10_read_21 : decode cX10_read 21 = .ok (.if_icmp .ge 118, 3) := by decide +kernel
theorem dX10_read_24 : decode cX10_read 24 = .ok (.iload 4, 2) := by decide +kernel
theorem dX10_read_26 : decode cX10_read 26 = .ok (.iload_n 3, 1) := by decide +kernel
theorem dX10_read_27 : decode cX10_read 27 = .ok (.if_icmp .ge 112, 3) := by decide +kernel
theorem dX10_read_30 : decode cX10_read 30 = .ok (.aload_n 1, 1) := by decide +kernel
theorem dX10_read_31 : decode cX10_read 31 = .ok (.iload 4, 2) := by decide +kernel
theorem dX10_read_33 : decode cX10_read 33 = .ok (.iaload, 1) := by decide +kernel
theorem dX10_read_34 : decode cX10_read 34 = .ok (.istore 6, 2) := by decide +kernel
theorem dX10_read_36 : decode cX10_read 36 = .ok (.iload 4, 2) := by decide +kernel
theorem dX10_read_38 : decode cX10_read 38 = .ok (.iconst 1, 1) := by decide +kernel
theorem dX10_read_39 : decode cX10_read 39 = .ok (.iadd, 1) := by decide +kernel
theorem dX10_read_40 : decode cX10_read 40 = .ok (.istore 7, 2) := by decide +kernel
theorem dX10_read_42 : decode cX10_read 42 = .ok (.iload 6, 2) := by decide +kernel
theorem dX10_read_44 : decode cX10_read 44 = .ok (.invokestatic 41, 3) := by decide +kernel
theorem dX10_read_47 : decode cX10_read 47 = .ok (.ifCond .eq 16, 3) := by decide +kernel
theorem dX10_read_50 : decode cX10_read 50 = .ok (.aload_n 0, 1) := by decide +kernel
theorem dX10_read_51 : decode cX10_read 51 = .ok (.aload_n 1, 1) := by decide +kernel
theorem dX10_read_52 : decode cX10_read 52 = .ok (.iload 4, 2) := by decide +kernel
theorem dX10_read_54 : decode cX10_read 54 = .ok (.iload_n 3, 1) := by decide +kernel
theorem dX10_read_55 : decode cX10_read 55 = .ok (.invokevirtual 55, 3) := by decide +kernel
theorem dX10_read_58 : decode cX10_read 58 = .ok (.istore 7, 2) := by decide +kernel
theorem dX10_read_60 : decode cX10_read 60 = .ok (.goto 69, 3) := by decide +kernel
theorem dX10_read_63 : decode cX10_read 63 = .ok (.iload 6, 2) := by decide +kernel
theorem dX10_read_65 : decode cX10_read 65 = .ok (.invokestatic 59, 3) := by decide +kernel
theorem dX10_read_68 : decode cX10_read 68 = .ok (.ifCond .eq 16, 3) := by decide +kernel
theorem dX10_read_71 : decode cX10_read 71 = .ok (.aload_n 0, 1) := by decide +kernel
theorem dX10_read_72 : decode cX10_read 72 = .ok (.aload_n 1, 1) := by decide +kernel
theorem dX10_read_73 : decode cX10_read 73 = .ok (.iload 4, 2) := by decide +kernel
theorem dX10_read_75 : decode cX10_read 75 = .ok (.iload_n 3, 1) := by decide +kernel
theorem dX10_read_76 : decode cX10_read 76 = .ok (.invokevirtual 62, 3) := by decide +kernel
theorem dX10_read_79 : decode cX10_read 79 = .ok (.istore 7, 2) := by decide +kernel
theorem dX10_read_81 : decode cX10_read 81 = .ok (.goto 48, 3) := by decide +kernel
theorem dX10_read_84 : decode cX10_read 84 = .ok (.iload 6, 2) := by decide +kernel
theorem dX10_read_86 : decode cX10_read 86 = .ok (.bipush 32, 2) := by decide +kernel
theorem dX10_read_88 : decode cX10_read 88 = .ok (.if_icmp .eq 41, 3) := by decide +kernel
theorem dX10_read_91 : decode cX10_read 91 = .ok (.iload 6, 2) := by decide +kernel
theorem dX10_read_93 : decode cX10_read 93 = .ok (.bipush 10, 2) := by decide +kernel
theorem dX10_read_95 : decode cX10_read 95 = .ok (.if_icmp .eq 34, 3) := by decide +kernel
theorem dX10_read_98 : decode cX10_read 98 = .ok (.ldc 65, 2) := by decide +kernel
theorem dX10_read_100 : decode cX10_read 100 = .ok (.iload 6, 2) := by decide +kernel
theorem dX10_read_102 : decode cX10_read 102 = .ok (.i2c, 1) := by decide +kernel
theorem dX10_read_103 : decode cX10_read 103 = .ok (.invokevirtual 67, 3) := by decide +kernel
theorem dX10_read_106 : decode cX10_read 106 = .ok (.istore 8, 2) := by decide +kernel
theorem dX10_read_108 : decode cX10_read 108 = .ok (.aload_n 0, 1) := by decide +kernel
theorem dX10_read_109 : decode cX10_read 109 = .ok (.iload 8, 2) := by decide +kernel
theorem dX10_read_111 : decode cX10_read 111 = .ok (.ifCond .ge 7, 3) := by decide +kernel
theorem dX10_read_114 : decode cX10_read 114 = .ok (.iconst 1, 1) := by decide +kernel
theorem dX10_read_115 : decode cX10_read 115 = .ok (.goto 8, 3) := by decide +kernel
theorem dX10_read_118 : decode cX10_read 118 = .ok (.bipush 23, 2) := by decide +kernel
theorem dX10_read_120 : decode cX10_read 120 = .ok (.iload 8, 2) := by decide +kernel
theorem dX10_read_122 : decode cX10_read 122 = .ok (.iadd, 1) := by decide +kernel
theorem dX10_read_123 : decode cX10_read 123 = .ok (.iload 4, 2) := by decide +kernel
theorem dX10_read_125 : decode cX10_read 125 = .ok (.lconst 0, 1) := by decide +kernel
theorem dX10_read_126 : decode cX10_read 126 = .ok (.invokevirtual 71, 3) := by decide +kernel
theorem dX10_read_129 : decode cX10_read 129 = .ok (.iload 7, 2) := by decide +kernel
theorem dX10_read_131 : decode cX10_read 131 = .ok (.istore 4, 2) := by decide +kernel
theorem dX10_read_133 : decode cX10_read 133 = .ok (.iinc 5 1, 3) := by decide +kernel
theorem dX10_read_136 : decode cX10_read 136 = .ok (.goto (-118), 3) := by decide +kernel
theorem dX10_read_139 : decode cX10_read 139 = .ok (.aload_n 0, 1) := by decide +kernel
theorem dX10_read_140 : decode cX10_read 140 = .ok (.iconst 0, 1) := by decide +kernel
theorem dX10_read_141 : decode cX10_read 141 = .ok (.iload_n 3, 1) := by decide +kernel
theorem dX10_read_142 : decode cX10_read 142 = .ok (.lconst 0, 1) := by decide +kernel
theorem dX10_read_143 : decode cX10_read 143 = .ok (.invokevirtual 71, 3) := by decide +kernel
theorem dX10_read_146 : decode cX10_read 146 = .ok (.return_, 1) := by decide +kernel
theorem dX11_act_0 : decode cX11_act 0 = .ok (.aload_n 0, 1) := by decide +kernel
theorem dX11_act_1 : decode cX11_act 1 = .ok (.getfield 27, 3) := by decide +kernel
theorem dX11_act_4 : decode cX11_act 4 = .ok (.iload_n 1, 1) := by decide +kernel
theorem dX11_act_5 : decode cX11_act 5 = .ok (.invokevirtual 150, 3) := by decide +kernel
theorem dX11_act_8 : decode cX11_act 8 = .ok (.astore_n 3, 1) := by decide +kernel
theorem dX11_act_9 : decode cX11_act 9 = .ok (.aload_n 3, 1) := by decide +kernel
theorem dX11_act_10 : decode cX11_act 10 = .ok (.ifnonnull 5, 3) := by decide +kernel
theorem dX11_act_13 : decode cX11_act 13 = .ok (.iconst (-1), 1) := by decide +kernel
theorem dX11_act_14 : decode cX11_act 14 = .ok (.ireturn, 1) := by decide +kernel
theorem dX11_act_15 : decode cX11_act 15 = .ok (.iload_n 2, 1) := by decide +kernel
theorem dX11_act_16 : decode cX11_act 16 = .ok (.tableswitch 74 0 3 #[32, 45, 58, 66], 32) := by decide +kernel
theorem dX11_act_48 : decode cX11_act 48 = .ok (.aload_n 3, 1) := by decide +kernel
theorem dX11_act_49 : decode cX11_act 49 = .ok (.getfield 154, 3) := by decide +kernel
theorem dX11_act_52 : decode cX11_act 52 = .ok (.ifCond .eq 7, 3) := by decide +kernel
theorem dX11_act_55 : decode cX11_act 55 = .ok (.iconst 1, 1) := by decide +kernel
theorem dX11_act_56 : decode cX11_act 56 = .ok (.goto 4, 3) := by decide +kernel
theorem dX11_act_59 : decode cX11_act 59 = .ok (.iconst 0, 1) := by decide +kernel
theorem dX11_act_60 : decode cX11_act 60 = .ok (.ireturn, 1) := by decide +kernel
theorem dX11_act_61 : decode cX11_act 61 = .ok (.aload_n 3, 1) := by decide +kernel
theorem dX11_act_62 : decode cX11_act 62 = .ok (.getfield 160, 3) := by decide +kernel
theorem dX11_act_65 : decode cX11_act 65 = .ok (.ifCond .eq 7, 3) := by decide +kernel
theorem dX11_act_68 : decode cX11_act 68 = .ok (.iconst 1, 1) := by decide +kernel
theorem dX11_act_69 : decode cX11_act 69 = .ok (.goto 4, 3) := by decide +kernel
theorem dX11_act_72 : decode cX11_act 72 = .ok (.iconst 0, 1) := by decide +kernel
theorem dX11_act_73 : decode cX11_act 73 = .ok (.ireturn, 1) := by decide +kernel
theorem dX11_act_74 : decode cX11_act 74 = .ok (.aload_n 3, 1) := by decide +kernel
theorem dX11_act_75 : decode cX11_act 75 = .ok (.getfield 163, 3) := by decide +kernel
theorem dX11_act_78 : decode cX11_act 78 = .ok (.invokevirtual 117, 3) := by decide +kernel
theorem dX11_act_81 : decode cX11_act 81 = .ok (.ireturn, 1) := by decide +kernel
theorem dX11_act_82 : decode cX11_act 82 = .ok (.aload_n 3, 1) := by decide +kernel
theorem dX11_act_83 : decode cX11_act 83 = .ok (.getfield 166, 3) := by decide +kernel
theorem dX11_act_86 : decode cX11_act 86 = .ok (.invokevirtual 117, 3) := by decide +kernel
theorem dX11_act_89 : decode cX11_act 89 = .ok (.ireturn, 1) := by decide +kernel
theorem dX11_act_90 : decode cX11_act 90 = .ok (.iconst (-1), 1) := by decide +kernel
theorem dX11_act_91 : decode cX11_act 91 = .ok (.ireturn, 1) := by decide +kernel
theorem dX11_cure_0 : decode cX11_cure 0 = .ok (.aload_n 0, 1) := by decide +kernel
theorem dX11_cure_1 : decode cX11_cure 1 = .ok (.invokevirtual 93, 3) := by decide +kernel
theorem dX11_cure_4 : decode cX11_cure 4 = .ok (.aload_n 0, 1) := by decide +kernel
theorem dX11_cure_5 : decode cX11_cure 5 = .ok (.getfield 27, 3) := by decide +kernel
theorem dX11_cure_8 : decode cX11_cure 8 = .ok (.getfield 136, 3) := by decide +kernel
theorem dX11_cure_11 : decode cX11_cure 11 = .ok (.invokevirtual 117, 3) := by decide +kernel
theorem dX11_cure_14 : decode cX11_cure 14 = .ok (.iconst 5, 1) := by decide +kernel
theorem dX11_cure_15 : decode cX11_cure 15 = .ok (.if_icmp .ge 22, 3) := by decide +kernel
theorem dX11_cure_18 : decode cX11_cure 18 = .ok (.iload_n 1, 1) := by decide +kernel
theorem dX11_cure_19 : decode cX11_cure 19 = .ok (.bipush 11, 2) := by decide +kernel
theorem dX11_cure_21 : decode cX11_cure 21 = .ok (.invokestatic 73, 3) := by decide +kernel
theorem dX11_cure_24 : decode cX11_cure 24 = .ok (.ifCond .eq 13, 3) := by decide +kernel
theorem dX11_cure_27 : decode cX11_cure 27 = .ok (.aload_n 0, 1) := by decide +kernel
theorem dX11_cure_28 : decode cX11_cure 28 = .ok (.getfield 20, 3) := by decide +kernel
theorem dX11_cure_31 : decode cX11_cure 31 = .ok (.invokevirtual 125, 3) := by decide +kernel
theorem dX11_cure_34 : decode cX11_cure 34 = .ok (.ifCond .ne 5, 3) := by decide +kernel
theorem dX11_cure_37 : decode cX11_cure 37 = .ok (.iconst (-1), 1) := by decide +kernel
theorem dX11_cure_38 : decode cX11_cure 38 = .ok (.ireturn, 1) := by decide +kernel
theorem dX11_cure_39 : decode cX11_cure 39 = .ok (.aload_n 0, 1) := by decide +kernel
theorem dX11_cure_40 : decode cX11_cure 40 = .ok (.getfield 27, 3) := by decide +kernel
theorem dX11_cure_43 : decode cX11_cure 43 = .ok (.getfield 136, 3) := by decide +kernel
theorem dX11_cure_46 : decode cX11_cure 46 = .ok (.new 139, 3) := by decide +kernel
theorem dX11_cure_49 : decode cX11_cure 49 = .ok (.dup, 1) := by decide +kernel
theorem dX11_cure_50 : decode cX11_cure 50 = .ok (.iload_n 1, 1) := by decide +kernel
theorem dX11_cure_51 : decode cX11_cure 51 = .ok (.aload_n 0, 1) := by decide +kernel
theorem dX11_cure_52 : decode cX11_cure 52 = .ok (.getfield 20, 3) := by decide +kernel
theorem dX11_cure_55 : decode cX11_cure 55 = .ok (.iconst 5, 1) := by decide +kernel
theorem dX11_cure_56 : decode cX11_cure 56 = .ok (.iconst 0, 1) := by decide +kernel
theorem dX11_cure_57 : decode cX11_cure 57 = .ok (.invokevirtual 128, 3) := by decide +kernel
theorem dX11_cure_60 : decode cX11_cure 60 = .ok (.invokespecial 141, 3) := by decide +kernel
theorem dX11_cure_63 : decode cX11_cure 63 = .ok (.invokevirtual 132, 3) := by decide +kernel
theorem dX11_cure_66 : decode cX11_cure 66 = .ok (.pop, 1) := by decide +kernel
theorem dX11_cure_67 : decode cX11_cure 67 = .ok (.aload_n 0, 1) := by decide +kernel
theorem dX11_cure_68 : decode cX11_cure 68 = .ok (.getfield 52, 3) := by decide +kernel
theorem dX11_cure_71 : decode cX11_cure 71 = .ok (.invokevirtual 81, 3) := by decide +kernel
theorem dX11_cure_74 : decode cX11_cure 74 = .ok (.aload_n 0, 1) := by decide +kernel
theorem dX11_cure_75 : decode cX11_cure 75 = .ok (.getfield 27, 3) := by decide +kernel
theorem dX11_cure_78 : decode cX11_cure 78 = .ok (.getfield 136, 3) := by decide +kernel
theorem dX11_cure_81 : decode cX11_cure 81 = .ok (.invokevirtual 117, 3) := by decide +kernel
theorem dX11_cure_84 : decode cX11_cure 84 = .ok (.iconst 1, 1) := by decide +kernel
theorem dX11_cure_85 : decode cX11_cure 85 = .ok (.isub, 1) := by decide +kernel
theorem dX11_cure_86 : decode cX11_cure 86 = .ok (.ireturn, 1) := by decide +kernel
theorem dX11_end_0 : decode cX11_end 0 = .ok (.iload_n 1, 1) := by decide +kernel
theorem dX11_end_1 : decode cX11_end 1 = .ok (.aload_n 0, 1) := by decide +kernel
theorem dX11_end_2 : decode cX11_end 2 = .ok (.getfield 13, 3) := by decide +kernel
theorem dX11_end_5 : decode cX11_end 5 = .ok (.invokestatic 73, 3) := by decide +kernel
theorem dX11_end_8 : decode cX11_end 8 = .ok (.ifCond .ne 5, 3) := by decide +kernel
theorem dX11_end_11 : decode cX11_end 11 = .ok (.iconst 0, 1) := by decide +kernel
theorem dX11_end_12 : decode cX11_end 12 = .ok (.ireturn, 1) := by decide +kernel
theorem dX11_end_13 : decode cX11_end 13 = .ok (.aload_n 0, 1) := by decide +kernel
theorem dX11_end_14 : decode cX11_end 14 = .ok (.iload_n 1, 1) := by decide +kernel
theorem dX11_end_15 : decode cX11_end 15 = .ok (.putfield 13, 3) := by decide +kernel
theorem dX11_end_18 : decode cX11_end 18 = .ok (.iconst 1, 1) := by decide +kernel
theorem dX11_end_19 : decode cX11_end 19 = .ok (.ireturn, 1) := by decide +kernel
theorem dX11_fault_0 : decode cX11_fault 0 = .ok (.iload_n 1, 1) := by decide +kernel
theorem dX11_fault_1 : decode cX11_fault 1 = .ok (.ifCond .ne 11, 3) := by decide +kernel
theorem dX11_fault_4 : decode cX11_fault 4 = .ok (.aload_n 0, 1) := by decide +kernel
theorem dX11_fault_5 : decode cX11_fault 5 = .ok (.getfield 20, 3) := by decide +kernel
theorem dX11_fault_8 : decode cX11_fault 8 = .ok (.getfield 144, 3) := by decide +kernel
theorem dX11_fault_11 : decode cX11_fault 11 = .ok (.ireturn, 1) := by decide +kernel
theorem dX11_fault_12 : decode cX11_fault 12 = .ok (.iload_n 1, 1) := by decide +kernel
theorem dX11_fault_13 : decode cX11_fault 13 = .ok (.iconst 1, 1) := by decide +kernel
theorem dX11_fault_14 : decode cX11_fault 14 = .ok (.if_icmp .ne 13, 3) := by decide +kernel
theorem dX11_fault_17 : decode cX11_fault 17 = .ok (.aload_n 0, 1) := by decide +kernel
theorem dX11_fault_18 : decode cX11_fault 18 = .ok (.getfield 20, 3) := by decide +kernel
theorem dX11_fault_21 : decode cX11_fault 21 = .ok (.getfield 147, 3) := by decide +kernel
theorem dX11_fault_24 : decode cX11_fault 24 = .ok (.goto 4, 3) := by decide +kernel
theorem dX11_fault_27 : decode cX11_fault 27 = .ok (.iconst (-1), 1) := by decide +kernel
theorem dX11_fault_28 : decode cX11_fault 28 = .ok (.ireturn, 1) := by decide +kernel
theorem dX11_feed_0 : decode cX11_feed 0 = .ok (.aload_n 0, 1) := by decide +kernel
theorem dX11_feed_1 : decode cX11_feed 1 = .ok (.getfield 13, 3) := by decide +kernel
theorem dX11_feed_4 : decode cX11_feed 4 = .ok (.bipush 20, 2) := by decide +kernel
theorem dX11_feed_6 : decode cX11_feed 6 = .ok (.iadd, 1) := by decide +kernel
theorem dX11_feed_7 : decode cX11_feed 7 = .ok (.sipush 700, 3) := by decide +kernel
theorem dX11_feed_10 : decode cX11_feed 10 = .ok (.if_icmp .le 5, 3) := by decide +kernel
theorem dX11_feed_13 : decode cX11_feed 13 = .ok (.iconst (-1), 1) := by decide +kernel
theorem dX11_feed_14 : decode cX11_feed 14 = .ok (.ireturn, 1) := by decide +kernel
theorem dX11_feed_15 : decode cX11_feed 15 = .ok (.aload_n 0, 1) := by decide +kernel
theorem dX11_feed_16 : decode cX11_feed 16 = .ok (.iload_n 1, 1) := by decide +kernel
theorem dX11_feed_17 : decode cX11_feed 17 = .ok (.invokevirtual 90, 3) := by decide +kernel
theorem dX11_feed_20 : decode cX11_feed 20 = .ok (.aload_n 0, 1) := by decide +kernel
theorem dX11_feed_21 : decode cX11_feed 21 = .ok (.iload_n 2, 1) := by decide +kernel
theorem dX11_feed_22 : decode cX11_feed 22 = .ok (.invokevirtual 90, 3) := by decide +kernel
theorem dX11_feed_25 : decode cX11_feed 25 = .ok (.aload_n 0, 1) := by decide +kernel
theorem dX11_feed_26 : decode cX11_feed 26 = .ok (.iload_n 3, 1) := by decide +kernel
theorem dX11_feed_27 : decode cX11_feed 27 = .ok (.invokevirtual 90, 3) := by decide +kernel
theorem dX11_feed_30 : decode cX11_feed 30 = .ok (.aload_n 0, 1) := by decide +kernel
theorem dX11_feed_31 : decode cX11_feed 31 = .ok (.iload 4, 2) := by decide +kernel
theorem dX11_feed_33 : decode cX11_feed 33 = .ok (.invokevirtual 90, 3) := by decide +kernel
theorem dX11_feed_36 : decode cX11_feed 36 = .ok (.aload_n 0, 1) := by decide +kernel
theorem dX11_feed_37 : decode cX11_feed 37 = .ok (.iload 5, 2) := by decide +kernel
theorem dX11_feed_39 : decode cX11_feed 39 = .ok (.invokevirtual 90, 3) := by decide +kernel
theorem dX11_feed_42 : decode cX11_feed 42 = .ok (.aload_n 0, 1) := by decide +kernel
theorem dX11_feed_43 : decode cX11_feed 43 = .ok (.getfield 13, 3) := by decide +kernel
theorem dX11_feed_46 : decode cX11_feed 46 = .ok (.ireturn, 1) := by decide +kernel
theorem dX11_feedFour_0 : decode cX11_feedFour 0 = .ok (.bipush 24, 2) := by decide +kernel
theorem dX11_feedFour_2 : decode cX11_feedFour 2 = .ok (.istore_n 2, 1) := by decide +kernel
theorem dX11_feedFour_3 : decode cX11_feedFour 3 = .ok (.iload_n 2, 1) := by decide +kernel
theorem dX11_feedFour_4 : decode cX11_feedFour 4 = .ok (.ifCond .lt 47, 3) := by decide +kernel
theorem dX11_feedFour_7 : decode cX11_feedFour 7 = .ok (.aload_n 0, 1) := by decide +kernel
theorem dX11_feedFour_8 : decode cX11_feedFour 8 = .ok (.getfield 13, 3) := by decide +kernel
theorem dX11_feedFour_11 : decode cX11_feedFour 11 = .ok (.aload_n 0, 1) := by decide +kernel
theorem dX11_feedFour_12 : decode cX11_feedFour 12 = .ok (.getfield 9, 3) := by decide +kernel
theorem dX11_feedFour_15 : decode cX11_feedFour 15 = .ok (.arraylength, 1) := by decide +kernel
theorem dX11_feedFour_16 : decode cX11_feedFour 16 = .ok (.if_icmp .ge 29, 3) := by decide +kernel
theorem dX11_feedFour_19 : decode cX11_feedFour 19 = .ok (.aload_n 0, 1) := by decide +kernel
theorem dX11_feedFour_20 : decode cX11_feedFour 20 = .ok (.getfield 9, 3) := by decide +kernel
theorem dX11_feedFour_23 : decode cX11_feedFour 23 = .ok (.aload_n 0, 1) := by decide +kernel
theorem dX11_feedFour_24 : decode cX11_feedFour 24 = .ok (.getfield 13, 3) := by decide +kernel
theorem dX11_feedFour_27 : decode cX11_feedFour 27 = .ok (.iload_n 1, 1) := by decide +kernel
theorem dX11_feedFour_28 : decode cX11_feedFour 28 = .ok (.iload_n 2, 1) := by decide +kernel
theorem dX11_feedFour_29 : decode cX11_feedFour 29 = .ok (.iushr, 1) := by decide +kernel
theorem dX11_feedFour_30 : decode cX11_feedFour 30 = .ok (.sipush 255, 3) := by decide +kernel
theorem dX11_feedFour_33 : decode cX11_feedFour 33 = .ok (.iand, 1) := by decide +kernel
theorem dX11_feedFour_34 : decode cX11_feedFour 34 = .ok (.iastore, 1) := by decide +kernel
theorem dX11_feedFour_35 : decode cX11_feedFour 35 = .ok (.aload_n 0, 1) := by decide +kernel
theorem dX11_feedFour_36 : decode cX11_feedFour 36 = .ok (.dup, 1) := by decide +kernel
theorem dX11_feedFour_37 : decode cX11_feedFour 37 = .ok (.getfield 13, 3) := by decide +kernel
theorem dX11_feedFour_40 : decode cX11_feedFour 40 = .ok (.iconst 1, 1) := by decide +kernel
theorem dX11_feedFour_41 : decode cX11_feedFour 41 = .ok (.iadd, 1) := by decide +kernel
theorem dX11_feedFour_42 : decode cX11_feedFour 42 = .ok (.putfield 13, 3) := by decide +kernel
theorem dX11_feedFour_45 : decode cX11_feedFour 45 = .ok (.iinc 2 (-8), 3) := by decide +kernel
theorem dX11_feedFour_48 : decode cX11_feedFour 48 = .ok (.goto (-45), 3) := by decide +kernel
theorem dX11_feedFour_51 : decode cX11_feedFour 51 = .ok (.return_, 1) := by decide +kernel
theorem dX11_never_0 : decode cX11_never 0 = .ok (.aload_n 0, 1) := by decide +kernel
theorem dX11_never_1 : decode cX11_never 1 = .ok (.invokevirtual 93, 3) := by decide +kernel
theorem dX11_never_4 : decode cX11_never 4 = .ok (.aload_n 0, 1) := by decide +kernel
theorem dX11_never_5 : decode cX11_never 5 = .ok (.getfield 27, 3) := by decide +kernel
theorem dX11_never_8 : decode cX11_never 8 = .ok (.getfield 122, 3) := by decide +kernel
theorem dX11_never_11 : decode cX11_never 11 = .ok (.invokevirtual 117, 3) := by decide +kernel
theorem dX11_never_14 : decode cX11_never 14 = .ok (.bipush 6, 2) := by decide +kernel
theorem dX11_never_16 : decode cX11_never 16 = .ok (.if_icmp .ge 13, 3) := by decide +kernel
theorem dX11_never_19 : decode cX11_never 19 = .ok (.aload_n 0, 1) := by decide +kernel
theorem dX11_never_20 : decode cX11_never 20 = .ok (.getfield 20, 3) := by decide +kernel
theorem dX11_never_23 : decode cX11_never 23 = .ok (.invokevirtual 125, 3) := by decide +kernel
theorem dX11_never_26 : decode cX11_never 26 = .ok (.ifCond .ne 5, 3) := by decide +kernel
theorem dX11_never_29 : decode cX11_never 29 = .ok (.iconst (-1), 1) := by decide +kernel
theorem dX11_never_30 : decode cX11_never 30 = .ok (.ireturn, 1) := by decide +kernel
theorem dX11_never_31 : decode cX11_never 31 = .ok (.aload_n 0, 1) := by decide +kernel
theorem dX11_never_32 : decode cX11_never 32 = .ok (.getfield 27, 3) := by decide +kernel
theorem dX11_never_35 : decode cX11_never 35 = .ok (.getfield 122, 3) := by decide +kernel
theorem dX11_never_38 : decode cX11_never 38 = .ok (.aload_n 0, 1) := by decide +kernel
theorem dX11_never_39 : decode cX11_never 39 = .ok (.getfield 20, 3) := by decide +kernel
theorem dX11_never_42 : decode cX11_never 42 = .ok (.iconst 5, 1) := by decide +kernel
theorem dX11_never_43 : decode cX11_never 43 = .ok (.iconst 0, 1) := by decide +kernel
theorem dX11_never_44 : decode cX11_never 44 = .ok (.invokevirtual 128, 3) := by decide +kernel
theorem dX11_never_47 : decode cX11_never 47 = .ok (.invokevirtual 132, 3) := by decide +kernel
theorem dX11_never_50 : decode cX11_never 50 = .ok (.pop, 1) := by decide +kernel
theorem dX11_never_51 : decode cX11_never 51 = .ok (.aload_n 0, 1) := by decide +kernel
theorem dX11_never_52 : decode cX11_never 52 = .ok (.getfield 27, 3) := by decide +kernel
theorem dX11_never_55 : decode cX11_never 55 = .ok (.getfield 122, 3) := by decide +kernel
theorem dX11_never_58 : decode cX11_never 58 = .ok (.invokevirtual 117, 3) := by decide +kernel
theorem dX11_never_61 : decode cX11_never 61 = .ok (.iconst 1, 1) := by decide +kernel
theorem dX11_never_62 : decode cX11_never 62 = .ok (.isub, 1) := by decide +kernel
theorem dX11_never_63 : decode cX11_never 63 = .ok (.ireturn, 1) := by decide +kernel
theorem dX11_statute_0 : decode cX11_statute 0 = .ok (.aload_n 0, 1) := by decide +kernel
theorem dX11_statute_1 : decode cX11_statute 1 = .ok (.invokevirtual 93, 3) := by decide +kernel
theorem dX11_statute_4 : decode cX11_statute 4 = .ok (.iload_n 1, 1) := by decide +kernel
theorem dX11_statute_5 : decode cX11_statute 5 = .ok (.iconst 1, 1) := by decide +kernel
theorem dX11_statute_6 : decode cX11_statute 6 = .ok (.invokestatic 73, 3) := by decide +kernel
theorem dX11_statute_9 : decode cX11_statute 9 = .ok (.ifCond .ne 5, 3) := by decide +kernel
theorem dX11_statute_12 : decode cX11_statute 12 = .ok (.iconst (-1), 1) := by decide +kernel
theorem dX11_statute_13 : decode cX11_statute 13 = .ok (.ireturn, 1) := by decide +kernel
theorem dX11_statute_14 : decode cX11_statute 14 = .ok (.iconst 0, 1) := by decide +kernel
theorem dX11_statute_15 : decode cX11_statute 15 = .ok (.istore_n 2, 1) := by decide +kernel
theorem dX11_statute_16 : decode cX11_statute 16 = .ok (.iload_n 2, 1) := by decide +kernel
theorem dX11_statute_17 : decode cX11_statute 17 = .ok (.bipush 6, 2) := by decide +kernel
theorem dX11_statute_19 : decode cX11_statute 19 = .ok (.if_icmp .gt 32, 3) := by decide +kernel
theorem dX11_statute_22 : decode cX11_statute 22 = .ok (.aload_n 0, 1) := by decide +kernel
theorem dX11_statute_23 : decode cX11_statute 23 = .ok (.getfield 20, 3) := by decide +kernel
theorem dX11_statute_26 : decode cX11_statute 26 = .ok (.invokevirtual 96, 3) := by decide +kernel
theorem dX11_statute_29 : decode cX11_statute 29 = .ok (.iconst 4, 1) := by decide +kernel
theorem dX11_statute_30 : decode cX11_statute 30 = .ok (.if_icmp .ne 21, 3) := by decide +kernel
theorem dX11_statute_33 : decode cX11_statute 33 = .ok (.aload_n 0, 1) := by decide +kernel
theorem dX11_statute_34 : decode cX11_statute 34 = .ok (.getfield 20, 3) := by decide +kernel
theorem dX11_statute_37 : decode cX11_statute 37 = .ok (.invokevirtual 102, 3) := by decide +kernel
theorem dX11_statute_40 : decode cX11_statute 40 = .ok (.ifCond .ne 5, 3) := by decide +kernel
theorem dX11_statute_43 : decode cX11_statute 43 = .ok (.iconst (-1), 1) := by decide +kernel
theorem dX11_statute_44 : decode cX11_statute 44 = .ok (.ireturn, 1) := by decide +kernel
theorem dX11_statute_45 : decode cX11_statute 45 = .ok (.iinc 2 1, 3) := by decide +kernel
theorem dX11_statute_48 : decode cX11_statute 48 = .ok (.goto (-32), 3) := by decide +kernel
theorem dX11_statute_51 : decode cX11_statute 51 = .ok (.aload_n 0, 1) := by decide +kernel
theorem dX11_statute_52 : decode cX11_statute 52 = .ok (.getfield 20, 3) := by decide +kernel
theorem dX11_statute_55 : decode cX11_statute 55 = .ok (.invokevirtual 106, 3) := by decide +kernel
theorem dX11_statute_58 : decode cX11_statute 58 = .ok (.ifCond .ne 5, 3) := by decide +kernel
theorem dX11_statute_61 : decode cX11_statute 61 = .ok (.iconst (-1), 1) := by decide +kernel
theorem dX11_statute_62 : decode cX11_statute 62 = .ok (.ireturn, 1) := by decide +kernel
theorem dX11_statute_63 : decode cX11_statute 63 = .ok (.aload_n 0, 1) := by decide +kernel
theorem dX11_statute_64 : decode cX11_statute 64 = .ok (.getfield 27, 3) := by decide +kernel
theorem dX11_statute_67 : decode cX11_statute 67 = .ok (.iload_n 1, 1) := by decide +kernel
theorem dX11_statute_68 : decode cX11_statute 68 = .ok (.aload_n 0, 1) := by decide +kernel
theorem dX11_statute_69 : decode cX11_statute 69 = .ok (.getfield 20, 3) := by decide +kernel
theorem dX11_statute_72 : decode cX11_statute 72 = .ok (.getfield 109, 3) := by decide +kernel
theorem dX11_statute_75 : decode cX11_statute 75 = .ok (.invokevirtual 113, 3) := by decide +kernel
theorem dX11_statute_78 : decode cX11_statute 78 = .ok (.aload_n 0, 1) := by decide +kernel
theorem dX11_statute_79 : decode cX11_statute 79 = .ok (.getfield 52, 3) := by decide +kernel
theorem dX11_statute_82 : decode cX11_statute 82 = .ok (.invokevirtual 81, 3) := by decide +kernel
theorem dX11_statute_85 : decode cX11_statute 85 = .ok (.aload_n 0, 1) := by decide +kernel
theorem dX11_statute_86 : decode cX11_statute 86 = .ok (.getfield 20, 3) := by decide +kernel
theorem dX11_statute_89 : decode cX11_statute 89 = .ok (.getfield 109, 3) := by decide +kernel
theorem dX11_statute_92 : decode cX11_statute 92 = .ok (.invokevirtual 117, 3) := by decide +kernel
theorem dX11_statute_95 : decode cX11_statute 95 = .ok (.ireturn, 1) := by decide +kernel
theorem dX11_takeTape_0 : decode cX11_takeTape 0 = .ok (.aload_n 0, 1) := by decide +kernel
theorem dX11_takeTape_1 : decode cX11_takeTape 1 = .ok (.getfield 20, 3) := by decide +kernel
theorem dX11_takeTape_4 : decode cX11_takeTape 4 = .ok (.aload_n 0, 1) := by decide +kernel
theorem dX11_takeTape_5 : decode cX11_takeTape 5 = .ok (.getfield 9, 3) := by decide +kernel
theorem dX11_takeTape_8 : decode cX11_takeTape 8 = .ok (.aload_n 0, 1) := by decide +kernel
theorem dX11_takeTape_9 : decode cX11_takeTape 9 = .ok (.getfield 13, 3) := by decide +kernel
theorem dX11_takeTape_12 : decode cX11_takeTape 12 = .ok (.invokevirtual 261, 3) := by decide +kernel
theorem dX11_takeTape_15 : decode cX11_takeTape 15 = .ok (.aload_n 0, 1) := by decide +kernel
theorem dX11_takeTape_16 : decode cX11_takeTape 16 = .ok (.iconst 0, 1) := by decide +kernel
theorem dX11_takeTape_17 : decode cX11_takeTape 17 = .ok (.putfield 13, 3) := by decide +kernel
theorem dX11_takeTape_20 : decode cX11_takeTape 20 = .ok (.return_, 1) := by decide +kernel
theorem dX12_act_0 : decode cX12_act 0 = .ok (.aload_n 0, 1) := by decide +kernel
theorem dX12_act_1 : decode cX12_act 1 = .ok (.iload_n 1, 1) := by decide +kernel
theorem dX12_act_2 : decode cX12_act 2 = .ok (.invokevirtual 361, 3) := by decide +kernel
theorem dX12_act_5 : decode cX12_act 5 = .ok (.ifCond .ne 5, 3) := by decide +kernel
theorem dX12_act_8 : decode cX12_act 8 = .ok (.iconst (-1), 1) := by decide +kernel
theorem dX12_act_9 : decode cX12_act 9 = .ok (.ireturn, 1) := by decide +kernel
theorem dX12_act_10 : decode cX12_act 10 = .ok (.iload_n 2, 1) := by decide +kernel
theorem dX12_act_11 : decode cX12_act 11 = .ok (.tableswitch 73 0 3 #[29, 44, 59, 66], 29) := by decide +kernel
theorem dX12_act_40 : decode cX12_act 40 = .ok (.aload_n 0, 1) := by decide +kernel
theorem dX12_act_41 : decode cX12_act 41 = .ok (.getfield 72, 3) := by decide +kernel
theorem dX12_act_44 : decode cX12_act 44 = .ok (.iload_n 1, 1) := by decide +kernel
theorem dX12_act_45 : decode cX12_act 45 = .ok (.baload, 1) := by decide +kernel
theorem dX12_act_46 : decode cX12_act 46 = .ok (.ifCond .eq 7, 3) := by decide +kernel
theorem dX12_act_49 : decode cX12_act 49 = .ok (.iconst 1, 1) := by decide +kernel
theorem dX12_act_50 : decode cX12_act 50 = .ok (.goto 4, 3) := by decide +kernel
theorem dX12_act_53 : decode cX12_act 53 = .ok (.iconst 0, 1) := by decide +kernel
theorem dX12_act_54 : decode cX12_act 54 = .ok (.ireturn, 1) := by decide +kernel
theorem dX12_act_55 : decode cX12_act 55 = .ok (.aload_n 0, 1) := by decide +kernel
theorem dX12_act_56 : decode cX12_act 56 = .ok (.getfield 75, 3) := by decide +kernel
theorem dX12_act_59 : decode cX12_act 59 = .ok (.iload_n 1, 1) := by decide +kernel
theorem dX12_act_60 : decode cX12_act 60 = .ok (.baload, 1) := by decide +kernel
theorem dX12_act_61 : decode cX12_act 61 = .ok (.ifCond .eq 7, 3) := by decide +kernel
theorem dX12_act_64 : decode cX12_act 64 = .ok (.iconst 1, 1) := by decide +kernel
theorem dX12_act_65 : decode cX12_act 65 = .ok (.goto 4, 3) := by decide +kernel
theorem dX12_act_68 : decode cX12_act 68 = .ok (.iconst 0, 1) := by decide +kernel
theorem dX12_act_69 : decode cX12_act 69 = .ok (.ireturn, 1) := by decide +kernel
theorem dX12_act_70 : decode cX12_act 70 = .ok (.aload_n 0, 1) := by decide +kernel
theorem dX12_act_71 : decode cX12_act 71 = .ok (.getfield 39, 3) := by decide +kernel
theorem dX12_act_74 : decode cX12_act 74 = .ok (.iload_n 1, 1) := by decide +kernel
theorem dX12_act_75 : decode cX12_act 75 = .ok (.iaload, 1) := by decide +kernel
theorem dX12_act_76 : decode cX12_act 76 = .ok (.ireturn, 1) := by decide +kernel
theorem dX12_act_77 : decode cX12_act 77 = .ok (.aload_n 0, 1) := by decide +kernel
theorem dX12_act_78 : decode cX12_act 78 = .ok (.getfield 42, 3) := by decide +kernel
theorem dX12_act_81 : decode cX12_act 81 = .ok (.iload_n 1, 1) := by decide +kernel
theorem dX12_act_82 : decode cX12_act 82 = .ok (.iaload, 1) := by decide +kernel
theorem dX12_act_83 : decode cX12_act 83 = .ok (.ireturn, 1) := by decide +kernel
theorem dX12_act_84 : decode cX12_act 84 = .ok (.iconst (-1), 1) := by decide +kernel
theorem dX12_act_85 : decode cX12_act 85 = .ok (.ireturn, 1) := by decide +kernel
theorem dX12_any_0 : decode cX12_any 0 = .ok (.aload_n 0, 1) := by decide +kernel
theorem dX12_any_1 : decode cX12_any 1 = .ok (.invokevirtual 301, 3) := by decide +kernel
theorem dX12_any_4 : decode cX12_any 4 = .ok (.ifCond .ne 5, 3) := by decide +kernel
theorem dX12_any_7 : decode cX12_any 7 = .ok (.iconst 0, 1) := by decide +kernel
theorem dX12_any_8 : decode cX12_any 8 = .ok (.ireturn, 1) := by decide +kernel
theorem dX12_any_9 : decode cX12_any 9 = .ok (.aload_n 0, 1) := by decide +kernel
theorem dX12_any_10 : decode cX12_any 10 = .ok (.getfield 242, 3) := by decide +kernel
theorem dX12_any_13 : decode cX12_any 13 = .ok (.sipush 312, 3) := by decide +kernel
theorem dX12_any_16 : decode cX12_any 16 = .ok (.if_icmp .ne 26, 3) := by decide +kernel
theorem dX12_any_19 : decode cX12_any 19 = .ok (.aload_n 0, 1) := by decide +kernel
theorem dX12_any_20 : decode cX12_any 20 = .ok (.invokevirtual 266, 3) := by decide +kernel
theorem dX12_any_23 : decode cX12_any 23 = .ok (.aload_n 0, 1) := by decide +kernel
theorem dX12_any_24 : decode cX12_any 24 = .ok (.invokevirtual 301, 3) := by decide +kernel
theorem dX12_any_27 : decode cX12_any 27 = .ok (.ifCond .ne 5, 3) := by decide +kernel
theorem dX12_any_30 : decode cX12_any 30 = .ok (.iconst 0, 1) := by decide +kernel
theorem dX12_any_31 : decode cX12_any 31 = .ok (.ireturn, 1) := by decide +kernel
theorem dX12_any_32 : decode cX12_any 32 = .ok (.aload_n 0, 1) := by decide +kernel
theorem dX12_any_33 : decode cX12_any 33 = .ok (.bipush 16, 2) := by decide +kernel
theorem dX12_any_35 : decode cX12_any 35 = .ok (.iconst 0, 1) := by decide +kernel
theorem dX12_any_36 : decode cX12_any 36 = .ok (.invokevirtual 288, 3) := by decide +kernel
theorem dX12_any_39 : decode cX12_any 39 = .ok (.goto (-30), 3) := by decide +kernel
theorem dX12_any_42 : decode cX12_any 42 = .ok (.iconst 1, 1) := by decide +kernel
theorem dX12_any_43 : decode cX12_any 43 = .ok (.ireturn, 1) := by decide +kernel
theorem dX12_asked_0 : decode cX12_asked 0 = .ok (.aload_n 0, 1) := by decide +kernel
theorem dX12_asked_1 : decode cX12_asked 1 = .ok (.iconst 0, 1) := by decide +kernel
theorem dX12_asked_2 : decode cX12_asked 2 = .ok (.putfield 282, 3) := by decide +kernel
theorem dX12_asked_5 : decode cX12_asked 5 = .ok (.aload_n 0, 1) := by decide +kernel
theorem dX12_asked_6 : decode cX12_asked 6 = .ok (.invokevirtual 310, 3) := by decide +kernel
theorem dX12_asked_9 : decode cX12_asked 9 = .ok (.ireturn, 1) := by decide +kernel
theorem dX12_bad_0 : decode cX12_bad 0 = .ok (.aload_n 0, 1) := by decide +kernel
theorem dX12_bad_1 : decode cX12_bad 1 = .ok (.iload_n 1, 1) := by decide +kernel
theorem dX12_bad_2 : decode cX12_bad 2 = .ok (.putfield 257, 3) := by decide +kernel
theorem dX12_bad_5 : decode cX12_bad 5 = .ok (.aload_n 0, 1) := by decide +kernel
theorem dX12_bad_6 : decode cX12_bad 6 = .ok (.aload_n 0, 1) := by decide +kernel
theorem dX12_bad_7 : decode cX12_bad 7 = .ok (.getfield 188, 3) := by decide +kernel
theorem dX12_bad_10 : decode cX12_bad 10 = .ok (.putfield 260, 3) := by decide +kernel
theorem dX12_bad_13 : decode cX12_bad 13 = .ok (.iconst 0, 1) := by decide +kernel
theorem dX12_bad_14 : decode cX12_bad 14 = .ok (.ireturn, 1) := by decide +kernel
theorem dX12_begins_0 : decode cX12_begins 0 = .ok (.aload_n 0, 1) := by decide +kernel
theorem dX12_begins_1 : decode cX12_begins 1 = .ok (.iconst 0, 1) := by decide +kernel
theorem dX12_begins_2 : decode cX12_begins 2 = .ok (.putfield 257, 3) := by decide +kernel
theorem dX12_begins_5 : decode cX12_begins 5 = .ok (.aload_n 0, 1) := by decide +kernel
theorem dX12_begins_6 : decode cX12_begins 6 = .ok (.iconst 0, 1) := by decide +kernel
theorem dX12_begins_7 : decode cX12_begins 7 = .ok (.putfield 185, 3) := by decide +kernel
theorem dX12_begins_10 : decode cX12_begins 10 = .ok (.aload_n 0, 1) := by decide +kernel
theorem dX12_begins_11 : decode cX12_begins 11 = .ok (.iconst 0, 1) := by decide +kernel
theorem dX12_begins_12 : decode cX12_begins 12 = .ok (.putfield 321, 3) := by decide +kernel
theorem dX12_begins_15 : decode cX12_begins 15 = .ok (.aload_n 0, 1) := by decide +kernel
theorem dX12_begins_16 : decode cX12_begins 16 = .ok (.getfield 33, 3) := by decide +kernel
theorem dX12_begins_19 : decode cX12_begins 19 = .ok (.bipush 13, 2) := by decide +kernel
theorem dX12_begins_21 : decode cX12_begins 21 = .ok (.iconst 0, 1) := by decide +kernel
theorem dX12_begins_22 : decode cX12_begins 22 = .ok (.iastore, 1) := by decide +kernel
theorem dX12_begins_23 : decode cX12_begins 23 = .ok (.aload_n 0, 1) := by decide +kernel
theorem dX12_begins_24 : decode cX12_begins 24 = .ok (.invokevirtual 266, 3) := by decide +kernel
theorem dX12_begins_27 : decode cX12_begins 27 = .ok (.return_, 1) := by decide +kernel
theorem dX12_cure_0 : decode cX12_cure 0 = .ok (.aload_n 0, 1) := by decide +kernel
theorem dX12_cure_1 : decode cX12_cure 1 = .ok (.iconst 0, 1) := by decide +kernel
theorem dX12_cure_2 : decode cX12_cure 2 = .ok (.putfield 257, 3) := by decide +kernel
theorem dX12_cure_5 : decode cX12_cure 5 = .ok (.aload_n 0, 1) := by decide +kernel
theorem dX12_cure_6 : decode cX12_cure 6 = .ok (.getfield 358, 3) := by decide +kernel
theorem dX12_cure_9 : decode cX12_cure 9 = .ok (.iconst 5, 1) := by decide +kernel
theorem dX12_cure_10 : decode cX12_cure 10 = .ok (.if_icmp .eq 13, 3) := by decide +kernel
theorem dX12_cure_13 : decode cX12_cure 13 = .ok (.iload_n 1, 1) := by decide +kernel
theorem dX12_cure_14 : decode cX12_cure 14 = .ok (.iconst 0, 1) := by decide +kernel
theorem dX12_cure_15 : decode cX12_cure 15 = .ok (.bipush 11, 2) := by decide +kernel
theorem dX12_cure_17 : decode cX12_cure 17 = .ok (.invokestatic 1, 3) := by decide +kernel
theorem dX12_cure_20 : decode cX12_cure 20 = .ok (.ifCond .ne 9, 3) := by decide +kernel
theorem dX12_cure_23 : decode cX12_cure 23 = .ok (.aload_n 0, 1) := by decide +kernel
theorem dX12_cure_24 : decode cX12_cure 24 = .ok (.invokevirtual 336, 3) := by decide +kernel
theorem dX12_cure_27 : decode cX12_cure 27 = .ok (.iconst (-1), 1) := by decide +kernel
theorem dX12_cure_28 : decode cX12_cure 28 = .ok (.ireturn, 1) := by decide +kernel
theorem dX12_cure_29 : decode cX12_cure 29 = .ok (.aload_n 0, 1) := by decide +kernel
theorem dX12_cure_30 : decode cX12_cure 30 = .ok (.invokevirtual 355, 3) := by decide +kernel
theorem dX12_cure_33 : decode cX12_cure 33 = .ok (.ifCond .ne 5, 3) := by decide +kernel
theorem dX12_cure_36 : decode cX12_cure 36 = .ok (.iconst (-1), 1) := by decide +kernel
theorem dX12_cure_37 : decode cX12_cure 37 = .ok (.ireturn, 1) := by decide +kernel
theorem dX12_cure_38 : decode cX12_cure 38 = .ok (.aload_n 0, 1) := by decide +kernel
theorem dX12_cure_39 : decode cX12_cure 39 = .ok (.bipush 8, 2) := by decide +kernel
theorem dX12_cure_41 : decode cX12_cure 41 = .ok (.aload_n 0, 1) := by decide +kernel
theorem dX12_cure_42 : decode cX12_cure 42 = .ok (.getfield 358, 3) := by decide +kernel
theorem dX12_cure_45 : decode cX12_cure 45 = .ok (.iadd, 1) := by decide +kernel
theorem dX12_cure_46 : decode cX12_cure 46 = .ok (.invokevirtual 345, 3) := by decide +kernel
theorem dX12_cure_49 : decode cX12_cure 49 = .ok (.aload_n 0, 1) := by decide +kernel
theorem dX12_cure_50 : decode cX12_cure 50 = .ok (.getfield 88, 3) := by decide +kernel
theorem dX12_cure_53 : decode cX12_cure 53 = .ok (.aload_n 0, 1) := by decide +kernel
theorem dX12_cure_54 : decode cX12_cure 54 = .ok (.getfield 358, 3) := by decide +kernel
theorem dX12_cure_57 : decode cX12_cure 57 = .ok (.iload_n 1, 1) := by decide +kernel
theorem dX12_cure_58 : decode cX12_cure 58 = .ok (.iastore, 1) := by decide +kernel
theorem dX12_cure_59 : decode cX12_cure 59 = .ok (.aload_n 0, 1) := by decide +kernel
theorem dX12_cure_60 : decode cX12_cure 60 = .ok (.dup, 1) := by decide +kernel
theorem dX12_cure_61 : decode cX12_cure 61 = .ok (.getfield 358, 3) := by decide +kernel
theorem dX12_cure_64 : decode cX12_cure 64 = .ok (.iconst 1, 1) := by decide +kernel
theorem dX12_cure_65 : decode cX12_cure 65 = .ok (.iadd, 1) := by decide +kernel
theorem dX12_cure_66 : decode cX12_cure 66 = .ok (.putfield 358, 3) := by decide +kernel
theorem dX12_cure_69 : decode cX12_cure 69 = .ok (.aload_n 0, 1) := by decide +kernel
theorem dX12_cure_70 : decode cX12_cure 70 = .ok (.getfield 358, 3) := by decide +kernel
theorem dX12_cure_73 : decode cX12_cure 73 = .ok (.iconst 1, 1) := by decide +kernel
theorem dX12_cure_74 : decode cX12_cure 74 = .ok (.isub, 1) := by decide +kernel
theorem dX12_cure_75 : decode cX12_cure 75 = .ok (.ireturn, 1) := by decide +kernel
theorem dX12_end_0 : decode cX12_end 0 = .ok (.iload_n 1, 1) := by decide +kernel
theorem dX12_end_1 : decode cX12_end 1 = .ok (.iconst 0, 1) := by decide +kernel
theorem dX12_end_2 : decode cX12_end 2 = .ok (.aload_n 0, 1) := by decide +kernel
theorem dX12_end_3 : decode cX12_end 3 = .ok (.getfield 182, 3) := by decide +kernel
theorem dX12_end_6 : decode cX12_end 6 = .ok (.invokestatic 1, 3) := by decide +kernel
theorem dX12_end_9 : decode cX12_end 9 = .ok (.ifCond .ne 5, 3) := by decide +kernel
theorem dX12_end_12 : decode cX12_end 12 = .ok (.iconst 0, 1) := by decide +kernel
theorem dX12_end_13 : decode cX12_end 13 = .ok (.ireturn, 1) := by decide +kernel
theorem dX12_end_14 : decode cX12_end 14 = .ok (.aload_n 0, 1) := by decide +kernel
theorem dX12_end_15 : decode cX12_end 15 = .ok (.iload_n 1, 1) := by decide +kernel
theorem dX12_end_16 : decode cX12_end 16 = .ok (.putfield 182, 3) := by decide +kernel
theorem dX12_end_19 : decode cX12_end 19 = .ok (.iconst 1, 1) := by decide +kernel
theorem dX12_end_20 : decode cX12_end 20 = .ok (.ireturn, 1) := by decide +kernel
theorem dX12_ends_0 : decode cX12_ends 0 = .ok (.aload_n 0, 1) := by decide +kernel
theorem dX12_ends_1 : decode cX12_ends 1 = .ok (.iconst 0, 1) := by decide +kernel
theorem dX12_ends_2 : decode cX12_ends 2 = .ok (.putfield 182, 3) := by decide +kernel
theorem dX12_ends_5 : decode cX12_ends 5 = .ok (.aload_n 0, 1) := by decide +kernel
theorem dX12_ends_6 : decode cX12_ends 6 = .ok (.aload_n 0, 1) := by decide +kernel
theorem dX12_ends_7 : decode cX12_ends 7 = .ok (.getfield 257, 3) := by decide +kernel
theorem dX12_ends_10 : decode cX12_ends 10 = .ok (.putfield 333, 3) := by decide +kernel
theorem dX12_ends_13 : decode cX12_ends 13 = .ok (.aload_n 0, 1) := by decide +kernel
theorem dX12_ends_14 : decode cX12_ends 14 = .ok (.aload_n 0, 1) := by decide +kernel
theorem dX12_ends_15 : decode cX12_ends 15 = .ok (.getfield 257, 3) := by decide +kernel
theorem dX12_ends_18 : decode cX12_ends 18 = .ok (.ifCond .ne 7, 3) := by decide +kernel
theorem dX12_ends_21 : decode cX12_ends 21 = .ok (.iconst (-1), 1) := by decide +kernel
theorem dX12_ends_22 : decode cX12_ends 22 = .ok (.goto 7, 3) := by decide +kernel
theorem dX12_ends_25 : decode cX12_ends 25 = .ok (.aload_n 0, 1) := by decide +kernel
theorem dX12_ends_26 : decode cX12_ends 26 = .ok (.getfield 260, 3) := by decide +kernel
theorem dX12_ends_29 : decode cX12_ends 29 = .ok (.putfield 84, 3) := by decide +kernel
theorem dX12_ends_32 : decode cX12_ends 32 = .ok (.return_, 1) := by decide +kernel
theorem dX12_every_0 : decode cX12_every 0 = .ok (.aload_n 0, 1) := by decide +kernel
theorem dX12_every_1 : decode cX12_every 1 = .ok (.invokevirtual 304, 3) := by decide +kernel
theorem dX12_every_4 : decode cX12_every 4 = .ok (.ifCond .ne 5, 3) := by decide +kernel
theorem dX12_every_7 : decode cX12_every 7 = .ok (.iconst 0, 1) := by decide +kernel
theorem dX12_every_8 : decode cX12_every 8 = .ok (.ireturn, 1) := by decide +kernel
theorem dX12_every_9 : decode cX12_every 9 = .ok (.aload_n 0, 1) := by decide +kernel
theorem dX12_every_10 : decode cX12_every 10 = .ok (.getfield 242, 3) := by decide +kernel
theorem dX12_every_13 : decode cX12_every 13 = .ok (.sipush 313, 3) := by decide +kernel
theorem dX12_every_16 : decode cX12_every 16 = .ok (.if_icmp .ne 26, 3) := by decide +kernel
theorem dX12_every_19 : decode cX12_every 19 = .ok (.aload_n 0, 1) := by decide +kernel
theorem dX12_every_20 : decode cX12_every 20 = .ok (.invokevirtual 266, 3) := by decide +kernel
theorem dX12_every_23 : decode cX12_every 23 = .ok (.aload_n 0, 1) := by decide +kernel
theorem dX12_every_24 : decode cX12_every 24 = .ok (.invokevirtual 304, 3) := by decide +kernel
theorem dX12_every_27 : decode cX12_every 27 = .ok (.ifCond .ne 5, 3) := by decide +kernel
theorem dX12_every_30 : decode cX12_every 30 = .ok (.iconst 0, 1) := by decide +kernel
theorem dX12_every_31 : decode cX12_every 31 = .ok (.ireturn, 1) := by decide +kernel
theorem dX12_every_32 : decode cX12_every 32 = .ok (.aload_n 0, 1) := by decide +kernel
theorem dX12_every_33 : decode cX12_every 33 = .ok (.bipush 15, 2) := by decide +kernel
theorem dX12_every_35 : decode cX12_every 35 = .ok (.iconst 0, 1) := by decide +kernel
theorem dX12_every_36 : decode cX12_every 36 = .ok (.invokevirtual 288, 3) := by decide +kernel
theorem dX12_every_39 : decode cX12_every 39 = .ok (.goto (-30), 3) := by decide +kernel
theorem dX12_every_42 : decode cX12_every 42 = .ok (.iconst 1, 1) := by decide +kernel
theorem dX12_every_43 : decode cX12_every 43 = .ok (.ireturn, 1) := by decide +kernel
theorem dX12_fault_0 : decode cX12_fault 0 = .ok (.iload_n 1, 1) := by decide +kernel
theorem dX12_fault_1 : decode cX12_fault 1 = .ok (.ifCond .ne 10, 3) := by decide +kernel
theorem dX12_fault_4 : decode cX12_fault 4 = .ok (.aload_n 0, 1) := by decide +kernel
theorem dX12_fault_5 : decode cX12_fault 5 = .ok (.getfield 333, 3) := by decide +kernel
theorem dX12_fault_8 : decode cX12_fault 8 = .ok (.goto 16, 3) := by decide +kernel
theorem dX12_fault_11 : decode cX12_fault 11 = .ok (.iload_n 1, 1) := by decide +kernel
theorem dX12_fault_12 : decode cX12_fault 12 = .ok (.iconst 1, 1) := by decide +kernel
theorem dX12_fault_13 : decode cX12_fault 13 = .ok (.if_icmp .ne 10, 3) := by decide +kernel
theorem dX12_fault_16 : decode cX12_fault 16 = .ok (.aload_n 0, 1) := by decide +kernel
theorem dX12_fault_17 : decode cX12_fault 17 = .ok (.getfield 84, 3) := by decide +kernel
theorem dX12_fault_20 : decode cX12_fault 20 = .ok (.goto 4, 3) := by decide +kernel
theorem dX12_fault_23 : decode cX12_fault 23 = .ok (.iconst (-1), 1) := by decide +kernel
theorem dX12_fault_24 : decode cX12_fault 24 = .ok (.ireturn, 1) := by decide +kernel
theorem dX12_feed_0 : decode cX12_feed 0 = .ok (.aload_n 0, 1) := by decide +kernel
theorem dX12_feed_1 : decode cX12_feed 1 = .ok (.getfield 182, 3) := by decide +kernel
theorem dX12_feed_4 : decode cX12_feed 4 = .ok (.bipush 20, 2) := by decide +kernel
theorem dX12_feed_6 : decode cX12_feed 6 = .ok (.iadd, 1) := by decide +kernel
theorem dX12_feed_7 : decode cX12_feed 7 = .ok (.sipush 700, 3) := by decide +kernel
theorem dX12_feed_10 : decode cX12_feed 10 = .ok (.if_icmp .le 5, 3) := by decide +kernel
theorem dX12_feed_13 : decode cX12_feed 13 = .ok (.iconst (-1), 1) := by decide +kernel
theorem dX12_feed_14 : decode cX12_feed 14 = .ok (.ireturn, 1) := by decide +kernel
theorem dX12_feed_15 : decode cX12_feed 15 = .ok (.iconst 0, 1) := by decide +kernel
theorem dX12_feed_16 : decode cX12_feed 16 = .ok (.istore 6, 2) := by decide +kernel
theorem dX12_feed_18 : decode cX12_feed 18 = .ok (.iload 6, 2) := by decide +kernel
theorem dX12_feed_20 : decode cX12_feed 20 = .ok (.bipush 20, 2) := by decide +kernel
theorem dX12_feed_22 : decode cX12_feed 22 = .ok (.if_icmp .ge 93, 3) := by decide +kernel
theorem dX12_feed_25 : decode cX12_feed 25 = .ok (.iload 6, 2) := by decide +kernel
theorem dX12_feed_27 : decode cX12_feed 27 = .ok (.iconst 4, 1) := by decide +kernel
theorem dX12_feed_28 : decode cX12_feed 28 = .ok (.if_icmp .ge 7, 3) := by decide +kernel
theorem dX12_feed_31 : decode cX12_feed 31 = .ok (.iload_n 1, 1) := by decide +kernel
theorem dX12_feed_32 : decode cX12_feed 32 = .ok (.goto 39, 3) := by decide +kernel
theorem dX12_feed_35 : decode cX12_feed 35 = .ok (.iload 6, 2) := by decide +kernel
theorem dX12_feed_37 : decode cX12_feed 37 = .ok (.bipush 8, 2) := by decide +kernel
theorem dX12_feed_39 : decode cX12_feed 39 = .ok (.if_icmp .ge 7, 3) := by decide +kernel
theorem dX12_feed_42 : decode cX12_feed 42 = .ok (.iload_n 2, 1) := by decide +kernel
theorem dX12_feed_43 : decode cX12_feed 43 = .ok (.goto 28, 3) := by decide +kernel
theorem dX12_feed_46 : decode cX12_feed 46 = .ok (.iload 6, 2) := by decide +kernel
theorem dX12_feed_48 : decode cX12_feed 48 = .ok (.bipush 12, 2) := by decide +kernel
theorem dX12_feed_50 : decode cX12_feed 50 = .ok (.if_icmp .ge 7, 3) := by decide +kernel
theorem dX12_feed_53 : decode cX12_feed 53 = .ok (.iload_n 3, 1) := by decide +kernel
theorem dX12_feed_54 : decode cX12_feed 54 = .ok (.goto 17, 3) := by decide +kernel
theorem dX12_feed_57 : decode cX12_feed 57 = .ok (.iload 6, 2) := by decide +kernel
theorem dX12_feed_59 : decode cX12_feed 59 = .ok (.bipush 16, 2) := by decide +kernel
theorem dX12_feed_61 : decode cX12_feed 61 = .ok (.if_icmp .ge 8, 3) := by decide +kernel
theorem dX12_feed_64 : decode cX12_feed 64 = .ok (.iload 4, 2) := by decide +kernel
theorem dX12_feed_66 : decode cX12_feed 66 = .ok (.goto 5, 3) := by decide +kernel
theorem dX12_feed_69 : decode cX12_feed 69 = .ok (.iload 5, 2) := by decide +kernel
theorem dX12_feed_71 : decode cX12_feed 71 = .ok (.istore 7, 2) := by decide +kernel
theorem dX12_feed_73 : decode cX12_feed 73 = .ok (.aload_n 0, 1) := by decide +kernel
theorem dX12_feed_74 : decode cX12_feed 74 = .ok (.getfield 78, 3) := by decide +kernel
theorem dX12_feed_77 : decode cX12_feed 77 = .ok (.aload_n 0, 1) := by decide +kernel
theorem dX12_feed_78 : decode cX12_feed 78 = .ok (.getfield 182, 3) := by decide +kernel
theorem dX12_feed_81 : decode cX12_feed 81 = .ok (.iload 7, 2) := by decide +kernel
theorem dX12_feed_83 : decode cX12_feed 83 = .ok (.bipush 24, 2) := by decide +kernel
theorem dX12_feed_85 : decode cX12_feed 85 = .ok (.bipush 8, 2) := by decide +kernel
theorem dX12_feed_87 : decode cX12_feed 87 = .ok (.iload 6, 2) := by decide +kernel
theorem dX12_feed_89 : decode cX12_feed 89 = .ok (.iconst 4, 1) := by decide +kernel
theorem dX12_feed_90 : decode cX12_feed 90 = .ok (.irem, 1) := by decide +kernel
theorem dX12_feed_91 : decode cX12_feed 91 = .ok (.imul, 1) := by decide +kernel
theorem dX12_feed_92 : decode cX12_feed 92 = .ok (.isub, 1) := by decide +kernel
theorem dX12_feed_93 : decode cX12_feed 93 = .ok (.ishr, 1) := by decide +kernel
theorem dX12_feed_94 : decode cX12_feed 94 = .ok (.sipush 255, 3) := by decide +kernel
theorem dX12_feed_97 : decode cX12_feed 97 = .ok (.iand, 1) := by decide +kernel
theorem dX12_feed_98 : decode cX12_feed 98 = .ok (.iastore, 1) := by decide +kernel
theorem dX12_feed_99 : decode cX12_feed 99 = .ok (.aload_n 0, 1) := by decide +kernel
theorem dX12_feed_100 : decode cX12_feed 100 = .ok (.dup, 1) := by decide +kernel
theorem dX12_feed_101 : decode cX12_feed 101 = .ok (.getfield 182, 3) := by decide +kernel
theorem dX12_feed_104 : decode cX12_feed 104 = .ok (.iconst 1, 1) := by decide +kernel
theorem dX12_feed_105 : decode cX12_feed 105 = .ok (.iadd, 1) := by decide +kernel
theorem dX12_feed_106 : decode cX12_feed 106 = .ok (.putfield 182, 3) := by decide +kernel
theorem dX12_feed_109 : decode cX12_feed 109 = .ok (.iinc 6 1, 3) := by decide +kernel
theorem dX12_feed_112 : decode cX12_feed 112 = .ok (.goto (-94), 3) := by decide +kernel
theorem dX12_feed_115 : decode cX12_feed 115 = .ok (.aload_n 0, 1) := by decide +kernel
theorem dX12_feed_116 : decode cX12_feed 116 = .ok (.getfield 182, 3) := by decide +kernel
theorem dX12_feed_119 : decode cX12_feed 119 = .ok (.ireturn, 1) := by decide +kernel
theorem dX12_isAct_0 : decode cX12_isAct 0 = .ok (.iload_n 1, 1) := by decide +kernel
theorem dX12_isAct_1 : decode cX12_isAct 1 = .ok (.iconst 0, 1) := by decide +kernel
theorem dX12_isAct_2 : decode cX12_isAct 2 = .ok (.bipush 11, 2) := by decide +kernel
theorem dX12_isAct_4 : decode cX12_isAct 4 = .ok (.invokestatic 1, 3) := by decide +kernel
theorem dX12_isAct_7 : decode cX12_isAct 7 = .ok (.ifCond .eq 23, 3) := by decide +kernel
theorem dX12_isAct_10 : decode cX12_isAct 10 = .ok (.iload_n 1, 1) := by decide +kernel
theorem dX12_isAct_11 : decode cX12_isAct 11 = .ok (.bipush 6, 2) := by decide +kernel
theorem dX12_isAct_13 : decode cX12_isAct 13 = .ok (.irem, 1) := by decide +kernel
theorem dX12_isAct_14 : decode cX12_isAct 14 = .ok (.aload_n 0, 1) := by decide +kernel
theorem dX12_isAct_15 : decode cX12_isAct 15 = .ok (.getfield 36, 3) := by decide +kernel
theorem dX12_isAct_18 : decode cX12_isAct 18 = .ok (.iload_n 1, 1) := by decide +kernel
theorem dX12_isAct_19 : decode cX12_isAct 19 = .ok (.bipush 6, 2) := by decide +kernel
theorem dX12_isAct_21 : decode cX12_isAct 21 = .ok (.idiv, 1) := by decide +kernel
theorem dX12_isAct_22 : decode cX12_isAct 22 = .ok (.iaload, 1) := by decide +kernel
theorem dX12_isAct_23 : decode cX12_isAct 23 = .ok (.if_icmp .ge 7, 3) := by decide +kernel
theorem dX12_isAct_26 : decode cX12_isAct 26 = .ok (.iconst 1, 1) := by decide +kernel
theorem dX12_isAct_27 : decode cX12_isAct 27 = .ok (.goto 4, 3) := by decide +kernel
theorem dX12_isAct_30 : decode cX12_isAct 30 = .ok (.iconst 0, 1) := by decide +kernel
theorem dX12_isAct_31 : decode cX12_isAct 31 = .ok (.ireturn, 1) := by decide +kernel
theorem dX12_keeps_0 : decode cX12_keeps 0 = .ok (.aload_n 0, 1) := by decide +kernel
theorem dX12_keeps_1 : decode cX12_keeps 1 = .ok (.getfield 33, 3) := by decide +kernel
theorem dX12_keeps_4 : decode cX12_keeps 4 = .ok (.iload_n 1, 1) := by decide +kernel
theorem dX12_keeps_5 : decode cX12_keeps 5 = .ok (.aload_n 0, 1) := by decide +kernel
theorem dX12_keeps_6 : decode cX12_keeps 6 = .ok (.getfield 33, 3) := by decide +kernel
theorem dX12_keeps_9 : decode cX12_keeps 9 = .ok (.bipush 13, 2) := by decide +kernel
theorem dX12_keeps_11 : decode cX12_keeps 11 = .ok (.iaload, 1) := by decide +kernel
theorem dX12_keeps_12 : decode cX12_keeps 12 = .ok (.iastore, 1) := by decide +kernel
theorem dX12_keeps_13 : decode cX12_keeps 13 = .ok (.iconst 0, 1) := by decide +kernel
theorem dX12_keeps_14 : decode cX12_keeps 14 = .ok (.istore_n 2, 1) := by decide +kernel
theorem dX12_keeps_15 : decode cX12_keeps 15 = .ok (.iload_n 2, 1) := by decide +kernel
theorem dX12_keeps_16 : decode cX12_keeps 16 = .ok (.iconst 2, 1) := by decide +kernel
theorem dX12_keeps_17 : decode cX12_keeps 17 = .ok (.aload_n 0, 1) := by decide +kernel
theorem dX12_keeps_18 : decode cX12_keeps 18 = .ok (.getfield 33, 3) := by decide +kernel
theorem dX12_keeps_21 : decode cX12_keeps 21 = .ok (.bipush 13, 2) := by decide +kernel
theorem dX12_keeps_23 : decode cX12_keeps 23 = .ok (.iaload, 1) := by decide +kernel
theorem dX12_keeps_24 : decode cX12_keeps 24 = .ok (.imul, 1) := by decide +kernel
theorem dX12_keeps_25 : decode cX12_keeps 25 = .ok (.if_icmp .ge 31, 3) := by decide +kernel
theorem dX12_keeps_28 : decode cX12_keeps 28 = .ok (.aload_n 0, 1) := by decide +kernel
theorem dX12_keeps_29 : decode cX12_keeps 29 = .ok (.getfield 30, 3) := by decide +kernel
theorem dX12_keeps_32 : decode cX12_keeps 32 = .ok (.sipush 1440, 3) := by decide +kernel
theorem dX12_keeps_35 : decode cX12_keeps 35 = .ok (.iload_n 1, 1) := by decide +kernel
theorem dX12_keeps_36 : decode cX12_keeps 36 = .ok (.imul, 1) := by decide +kernel
theorem dX12_keeps_37 : decode cX12_keeps 37 = .ok (.iload_n 2, 1) := by decide +kernel
theorem dX12_keeps_38 : decode cX12_keeps 38 = .ok (.iadd, 1) := by decide +kernel
theorem dX12_keeps_39 : decode cX12_keeps 39 = .ok (.aload_n 0, 1) := by decide +kernel
theorem dX12_keeps_40 : decode cX12_keeps 40 = .ok (.getfield 30, 3) := by decide +kernel
theorem dX12_keeps_43 : decode cX12_keeps 43 = .ok (.sipush 18720, 3) := by decide +kernel
theorem dX12_keeps_46 : decode cX12_keeps 46 = .ok (.iload_n 2, 1) := by decide +kernel
theorem dX12_keeps_47 : decode cX12_keeps 47 = .ok (.iadd, 1) := by decide +kernel
theorem dX12_keeps_48 : decode cX12_keeps 48 = .ok (.iaload, 1) := by decide +kernel
theorem dX12_keeps_49 : decode cX12_keeps 49 = .ok (.iastore, 1) := by decide +kernel
theorem dX12_keeps_50 : decode cX12_keeps 50 = .ok (.iinc 2 1, 3) := by decide +kernel
theorem dX12_keeps_53 : decode cX12_keeps 53 = .ok (.goto (-38), 3) := by decide +kernel
theorem dX12_keeps_56 : decode cX12_keeps 56 = .ok (.return_, 1) := by decide +kernel
theorem dX12_never_0 : decode cX12_never 0 = .ok (.aload_n 0, 1) := by decide +kernel
theorem dX12_never_1 : decode cX12_never 1 = .ok (.iconst 0, 1) := by decide +kernel
theorem dX12_never_2 : decode cX12_never 2 = .ok (.putfield 257, 3) := by decide +kernel
theorem dX12_never_5 : decode cX12_never 5 = .ok (.aload_n 0, 1) := by decide +kernel
theorem dX12_never_6 : decode cX12_never 6 = .ok (.getfield 352, 3) := by decide +kernel
theorem dX12_never_9 : decode cX12_never 9 = .ok (.bipush 6, 2) := by decide +kernel
theorem dX12_never_11 : decode cX12_never 11 = .ok (.if_icmp .ne 9, 3) := by decide +kernel
theorem dX12_never_14 : decode cX12_never 14 = .ok (.aload_n 0, 1) := by decide +kernel
theorem dX12_never_15 : decode cX12_never 15 = .ok (.invokevirtual 336, 3) := by decide +kernel
theorem dX12_never_18 : decode cX12_never 18 = .ok (.iconst (-1), 1) := by decide +kernel
theorem dX12_never_19 : decode cX12_never 19 = .ok (.ireturn, 1) := by decide +kernel
theorem dX12_never_20 : decode cX12_never 20 = .ok (.aload_n 0, 1) := by decide +kernel
theorem dX12_never_21 : decode cX12_never 21 = .ok (.invokevirtual 355, 3) := by decide +kernel
theorem dX12_never_24 : decode cX12_never 24 = .ok (.ifCond .ne 5, 3) := by decide +kernel
theorem dX12_never_27 : decode cX12_never 27 = .ok (.iconst (-1), 1) := by decide +kernel
theorem dX12_never_28 : decode cX12_never 28 = .ok (.ireturn, 1) := by decide +kernel
theorem dX12_never_29 : decode cX12_never 29 = .ok (.aload_n 0, 1) := by decide +kernel
theorem dX12_never_30 : decode cX12_never 30 = .ok (.iconst 2, 1) := by decide +kernel
theorem dX12_never_31 : decode cX12_never 31 = .ok (.aload_n 0, 1) := by decide +kernel
theorem dX12_never_32 : decode cX12_never 32 = .ok (.getfield 352, 3) := by decide +kernel
theorem dX12_never_35 : decode cX12_never 35 = .ok (.iadd, 1) := by decide +kernel
theorem dX12_never_36 : decode cX12_never 36 = .ok (.invokevirtual 345, 3) := by decide +kernel
theorem dX12_never_39 : decode cX12_never 39 = .ok (.aload_n 0, 1) := by decide +kernel
theorem dX12_never_40 : decode cX12_never 40 = .ok (.dup, 1) := by decide +kernel
theorem dX12_never_41 : decode cX12_never 41 = .ok (.getfield 352, 3) := by decide +kernel
theorem dX12_never_44 : decode cX12_never 44 = .ok (.iconst 1, 1) := by decide +kernel
theorem dX12_never_45 : decode cX12_never 45 = .ok (.iadd, 1) := by decide +kernel
theorem dX12_never_46 : decode cX12_never 46 = .ok (.putfield 352, 3) := by decide +kernel
theorem dX12_never_49 : decode cX12_never 49 = .ok (.aload_n 0, 1) := by decide +kernel
theorem dX12_never_50 : decode cX12_never 50 = .ok (.getfield 352, 3) := by decide +kernel
theorem dX12_never_53 : decode cX12_never 53 = .ok (.iconst 1, 1) := by decide +kernel
theorem dX12_never_54 : decode cX12_never 54 = .ok (.isub, 1) := by decide +kernel
theorem dX12_never_55 : decode cX12_never 55 = .ok (.ireturn, 1) := by decide +kernel
theorem dX12_next0_0 : decode cX12_next0 0 = .ok (.aload_n 0, 1) := by decide +kernel
theorem dX12_next0_1 : decode cX12_next0 1 = .ok (.aload_n 0, 1) := by decide +kernel
theorem dX12_next0_2 : decode cX12_next0 2 = .ok (.getfield 185, 3) := by decide +kernel
theorem dX12_next0_5 : decode cX12_next0 5 = .ok (.invokevirtual 238, 3) := by decide +kernel
theorem dX12_next0_8 : decode cX12_next0 8 = .ok (.bipush 32, 2) := by decide +kernel
theorem dX12_next0_10 : decode cX12_next0 10 = .ok (.if_icmp .eq 16, 3) := by decide +kernel
theorem dX12_next0_13 : decode cX12_next0 13 = .ok (.aload_n 0, 1) := by decide +kernel
theorem dX12_next0_14 : decode cX12_next0 14 = .ok (.aload_n 0, 1) := by decide +kernel
theorem dX12_next0_15 : decode cX12_next0 15 = .ok (.getfield 185, 3) := by decide +kernel
theorem dX12_next0_18 : decode cX12_next0 18 = .ok (.invokevirtual 238, 3) := by decide +kernel
theorem dX12_next0_21 : decode cX12_next0 21 = .ok (.bipush 10, 2) := by decide +kernel
theorem dX12_next0_23 : decode cX12_next0 23 = .ok (.if_icmp .ne 16, 3) := by decide +kernel
theorem dX12_next0_26 : decode cX12_next0 26 = .ok (.aload_n 0, 1) := by decide +kernel
theorem dX12_next0_27 : decode cX12_next0 27 = .ok (.dup, 1) := by decide +kernel
theorem dX12_next0_28 : decode cX12_next0 28 = .ok (.getfield 185, 3) := by decide +kernel
theorem dX12_next0_31 : decode cX12_next0 31 = .ok (.iconst 1, 1) := by decide +kernel
theorem dX12_next0_32 : decode cX12_next0 32 = .ok (.iadd, 1) := by decide +kernel
theorem dX12_next0_33 : decode cX12_next0 33 = .ok (.putfield 185, 3) := by decide +kernel
theorem dX12_next0_36 : decode cX12_next0 36 = .ok (.goto (-36), 3) := by decide +kernel
theorem dX12_next0_39 : decode cX12_next0 39 = .ok (.aload_n 0, 1) := by decide +kernel
theorem dX12_next0_40 : decode cX12_next0 40 = .ok (.aload_n 0, 1) := by decide +kernel
theorem dX12_next0_41 : decode cX12_next0 41 = .ok (.getfield 185, 3) := by decide +kernel
theorem dX12_next0_44 : decode cX12_next0 44 = .ok (.putfield 188, 3) := by decide +kernel
theorem dX12_next0_47 : decode cX12_next0 47 = .ok (.aload_n 0, 1) := by decide +kernel
theorem dX12_next0_48 : decode cX12_next0 48 = .ok (.aload_n 0, 1) := by decide +kernel
theorem dX12_next0_49 : decode cX12_next0 49 = .ok (.getfield 185, 3) := by decide +kernel
theorem dX12_next0_52 : decode cX12_next0 52 = .ok (.invokevirtual 238, 3) := by decide +kernel
theorem dX12_next0_55 : decode cX12_next0 55 = .ok (.istore_n 1, 1) := by decide +kernel
theorem dX12_next0_56 : decode cX12_next0 56 = .ok (.iload_n 1, 1) := by decide +kernel
theorem dX12_next0_57 : decode cX12_next0 57 = .ok (.iconst (-1), 1) := by decide +kernel
theorem dX12_next0_58 : decode cX12_next0 58 = .ok (.if_icmp .ne 11, 3) := by decide +kernel
theorem dX12_next0_61 : decode cX12_next0 61 = .ok (.aload_n 0, 1) := by decide +kernel
theorem dX12_next0_62 : decode cX12_next0 62 = .ok (.iconst 0, 1) := by decide +kernel
theorem dX12_next0_63 : decode cX12_next0 63 = .ok (.putfield 242, 3) := by decide +kernel
theorem dX12_next0_66 : decode cX12_next0 66 = .ok (.goto 231, 3) := by decide +kernel
theorem dX12_next0_69 : decode cX12_next0 69 = .ok (.iload_n 1, 1) := by decide +kernel
theorem dX12_next0_70 : decode cX12_next0 70 = .ok (.invokestatic 245, 3) := by decide +kernel
theorem dX12_next0_73 : decode cX12_next0 73 = .ok (.ifCond .eq 41, 3) := by decide +kernel
theorem dX12_next0_76 : decode cX12_next0 76 = .ok (.aload_n 0, 1) := by decide +kernel
theorem dX12_next0_77 : decode cX12_next0 77 = .ok (.aload_n 0, 1) := by decide +kernel
theorem dX12_next0_78 : decode cX12_next0 78 = .ok (.getfield 185, 3) := by decide +kernel
theorem dX12_next0_81 : decode cX12_next0 81 = .ok (.invokevirtual 238, 3) := by decide +kernel
theorem dX12_next0_84 : decode cX12_next0 84 = .ok (.invokestatic 245, 3) := by decide +kernel
theorem dX12_next0_87 : decode cX12_next0 87 = .ok (.ifCond .eq 16, 3) := by decide +kernel
theorem dX12_next0_90 : decode cX12_next0 90 = .ok (.aload_n 0, 1) := by decide +kernel
theorem dX12_next0_91 : decode cX12_next0 91 = .ok (.dup, 1) := by decide +kernel
theorem dX12_next0_92 : decode cX12_next0 92 = .ok (.getfield 185, 3) := by decide +kernel
theorem dX12_next0_95 : decode cX12_next0 95 = .ok (.iconst 1, 1) := by decide +kernel
theorem dX12_next0_96 : decode cX12_next0 96 = .ok (.iadd, 1) := by decide +kernel
theorem dX12_next0_97 : decode cX12_next0 97 = .ok (.putfield 185, 3) := by decide +kernel
theorem dX12_next0_100 : decode cX12_next0 100 = .ok (.goto (-24), 3) := by decide +kernel
theorem dX12_next0_103 : decode cX12_next0 103 = .ok (.aload_n 0, 1) := by decide +kernel
theorem dX12_next0_104 : decode cX12_next0 104 = .ok (.aload_n 0, 1) := by decide +kernel
theorem dX12_next0_105 : decode cX12_next0 105 = .ok (.invokevirtual 248, 3) := by decide +kernel
theorem dX12_next0_108 : decode cX12_next0 108 = .ok (.putfield 242, 3) := by decide +kernel
theorem dX12_next0_111 : decode cX12_next0 111 = .ok (.goto 186, 3) := by decide +kernel
theorem dX12_next0_114 : decode cX12_next0 114 = .ok (.iload_n 1, 1) := by decide +kernel
theorem dX12_next0_115 : decode cX12_next0 115 = .ok (.invokestatic 251, 3) := by decide +kernel
theorem dX12_next0_118 : decode cX12_next0 118 = .ok (.ifCond .eq 96, 3) := by decide +kernel
theorem dX12_next0_121 : decode cX12_next0 121 = .ok (.aload_n 0, 1) := by decide +kernel
theorem dX12_next0_122 : decode cX12_next0 122 = .ok (.iconst 0, 1) := by decide +kernel
theorem dX12_next0_123 : decode cX12_next0 123 = .ok (.putfield 254, 3) := by decide +kernel
theorem dX12_next0_126 : decode cX12_next0 126 = .ok (.aload_n 0, 1) := by decide +kernel
theorem dX12_next0_127 : decode cX12_next0 127 = .ok (.aload_n 0, 1) := by decide +kernel
theorem dX12_next0_128 : decode cX12_next0 128 = .ok (.getfield 185, 3) := by decide +kernel
theorem dX12_next0_131 : decode cX12_next0 131 = .ok (.invokevirtual 238, 3) := by decide +kernel
theorem dX12_next0_134 : decode cX12_next0 134 = .ok (.invokestatic 251, 3) := by decide +kernel
theorem dX12_next0_137 : decode cX12_next0 137 = .ok (.ifCond .eq 52, 3) := by decide +kernel
theorem dX12_next0_140 : decode cX12_next0 140 = .ok (.aload_n 0, 1) := by decide +kernel
theorem dX12_next0_141 : decode cX12_next0 141 = .ok (.getfield 185, 3) := by decide +kernel
theorem dX12_next0_144 : decode cX12_next0 144 = .ok (.aload_n 0, 1) := by decide +kernel
theorem dX12_next0_145 : decode cX12_next0 145 = .ok (.getfield 188, 3) := by decide +kernel
theorem dX12_next0_148 : decode cX12_next0 148 = .ok (.iconst 3, 1) := by decide +kernel
theorem dX12_next0_149 : decode cX12_next0 149 = .ok (.iadd, 1) := by decide +kernel
theorem dX12_next0_150 : decode cX12_next0 150 = .ok (.if_icmp .ge 26, 3) := by decide +kernel
theorem dX12_next0_153 : decode cX12_next0 153 = .ok (.aload_n 0, 1) := by decide +kernel
theorem dX12_next0_154 : decode cX12_next0 154 = .ok (.bipush 10, 2) := by decide +kernel
theorem dX12_next0_156 : decode cX12_next0 156 = .ok (.aload_n 0, 1) := by decide +kernel
theorem dX12_next0_157 : decode cX12_next0 157 = .ok (.getfield 254, 3) := by decide +kernel
theorem dX12_next0_160 : decode cX12_next0 160 = .ok (.imul, 1) := by decide +kernel
theorem dX12_next0_161 : decode cX12_next0 161 = .ok (.aload_n 0, 1) := by decide +kernel
theorem dX12_next0_162 : decode cX12_next0 162 = .ok (.aload_n 0, 1) := by decide +kernel
theorem dX12_next0_163 : decode cX12_next0 163 = .ok (.getfield 185, 3) := by decide +kernel
theorem dX12_next0_166 : decode cX12_next0 166 = .ok (.invokevirtual 238, 3) := by decide +kernel
theorem dX12_next0_169 : decode cX12_next0 169 = .ok (.iadd, 1) := by decide +kernel
theorem dX12_next0_170 : decode cX12_next0 170 = .ok (.bipush 48, 2) := by decide +kernel
theorem dX12_next0_172 : decode cX12_next0 172 = .ok (.isub, 1) := by decide +kernel
theorem dX12_next0_173 : decode cX12_next0 173 = .ok (.putfield 254, 3) := by decide +kernel
theorem dX12_next0_176 : decode cX12_next0 176 = .ok (.aload_n 0, 1) := by decide +kernel
theorem dX12_next0_177 : decode cX12_next0 177 = .ok (.dup, 1) := by decide +kernel
theorem dX12_next0_178 : decode cX12_next0 178 = .ok (.getfield 185, 3) := by decide +kernel
theorem dX12_next0_181 : decode cX12_next0 181 = .ok (.iconst 1, 1) := by decide +kernel
theorem dX12_next0_182 : decode cX12_next0 182 = .ok (.iadd, 1) := by decide +kernel
theorem dX12_next0_183 : decode cX12_next0 183 = .ok (.putfield 185, 3) := by decide +kernel
theorem dX12_next0_186 : decode cX12_next0 186 = .ok (.goto (-60), 3) := by decide +kernel
theorem dX12_next0_189 : decode cX12_next0 189 = .ok (.aload_n 0, 1) := by decide +kernel
theorem dX12_next0_190 : decode cX12_next0 190 = .ok (.aload_n 0, 1) := by decide +kernel
theorem dX12_next0_191 : decode cX12_next0 191 = .ok (.getfield 185, 3) := by decide +kernel
theorem dX12_next0_194 : decode cX12_next0 194 = .ok (.aload_n 0, 1) := by decide +kernel
theorem dX12_next0_195 : decode cX12_next0 195 = .ok (.getfield 188, 3) := by decide +kernel
theorem dX12_next0_198 : decode cX12_next0 198 = .ok (.isub, 1) := by decide +kernel
theorem dX12_next0_199 : decode cX12_next0 199 = .ok (.iconst 4, 1) := by decide +kernel
theorem dX12_next0_200 : decode cX12_next0 200 = .ok (.if_icmp .ge 7, 3) := by decide +kernel
theorem dX12_next0_203 : decode cX12_next0 203 = .ok (.iconst 2, 1) := by decide +kernel
theorem dX12_next0_204 : decode cX12_next0 204 = .ok (.goto 4, 3) := by decide +kernel
theorem dX12_next0_207 : decode cX12_next0 207 = .ok (.iconst 1, 1) := by decide +kernel
theorem dX12_next0_208 : decode cX12_next0 208 = .ok (.putfield 242, 3) := by decide +kernel
theorem dX12_next0_211 : decode cX12_next0 211 = .ok (.goto 86, 3) := by decide +kernel
theorem dX12_next0_214 : decode cX12_next0 214 = .ok (.aload_n 0, 1) := by decide +kernel
theorem dX12_next0_215 : decode cX12_next0 215 = .ok (.dup, 1) := by decide +kernel
theorem dX12_next0_216 : decode cX12_next0 216 = .ok (.getfield 185, 3) := by decide +kernel
theorem dX12_next0_219 : decode cX12_next0 219 = .ok (.iconst 1, 1) := by decide +kernel
theorem dX12_next0_220 : decode cX12_next0 220 = .ok (.iadd, 1) := by decide +kernel
theorem dX12_next0_221 : decode cX12_next0 221 = .ok (.putfield 185, 3) := by decide +kernel
theorem dX12_next0_224 : decode cX12_next0 224 = .ok (.iload_n 1, 1) := by decide +kernel
theorem dX12_next0_225 : decode cX12_next0 225 = .ok (.bipush 59, 2) := by decide +kernel
theorem dX12_next0_227 : decode cX12_next0 227 = .ok (.if_icmp .eq 51, 3) := by decide +kernel
theorem dX12_next0_230 : decode cX12_next0 230 = .ok (.iload_n 1, 1) := by decide +kernel
theorem dX12_next0_231 : decode cX12_next0 231 = .ok (.bipush 43, 2) := by decide +kernel
theorem dX12_next0_233 : decode cX12_next0 233 = .ok (.if_icmp .eq 45, 3) := by decide +kernel
theorem dX12_next0_236 : decode cX12_next0 236 = .ok (.iload_n 1, 1) := by decide +kernel
theorem dX12_next0_237 : decode cX12_next0 237 = .ok (.bipush 45, 2) := by decide +kernel
theorem dX12_next0_239 : decode cX12_next0 239 = .ok (.if_icmp .eq 39, 3) := by decide +kernel
theorem dX12_next0_242 : decode cX12_next0 242 = .ok (.iload_n 1, 1) := by decide +kernel
theorem dX12_next0_243 : decode cX12_next0 243 = .ok (.bipush 42, 2) := by decide +kernel
theorem dX12_next0_245 : decode cX12_next0 245 = .ok (.if_icmp .eq 33, 3) := by decide +kernel
theorem dX12_next0_248 : decode cX12_next0 248 = .ok (.iload_n 1, 1) := by decide +kernel
theorem dX12_next0_249 : decode cX12_next0 249 = .ok (.bipush 40, 2) := by decide +kernel
theorem dX12_next0_251 : decode cX12_next0 251 = .ok (.if_icmp .eq 27, 3) := by decide +kernel
theorem dX12_next0_254 : decode cX12_next0 254 = .ok (.iload_n 1, 1) := by decide +kernel
theorem dX12_next0_255 : decode cX12_next0 255 = .ok (.bipush 41, 2) := by decide +kernel
theorem dX12_next0_257 : decode cX12_next0 257 = .ok (.if_icmp .eq 21, 3) := by decide +kernel
theorem dX12_next0_260 : decode cX12_next0 260 = .ok (.iload_n 1, 1) := by decide +kernel
theorem dX12_next0_261 : decode cX12_next0 261 = .ok (.bipush 60, 2) := by decide +kernel
theorem dX12_next0_263 : decode cX12_next0 263 = .ok (.if_icmp .eq 15, 3) := by decide +kernel
theorem dX12_next0_266 : decode cX12_next0 266 = .ok (.iload_n 1, 1) := by decide +kernel
theorem dX12_next0_267 : decode cX12_next0 267 = .ok (.bipush 61, 2) := by decide +kernel
theorem dX12_next0_269 : decode cX12_next0 269 = .ok (.if_icmp .eq 9, 3) := by decide +kernel
theorem dX12_next0_272 : decode cX12_next0 272 = .ok (.iload_n 1, 1) := by decide +kernel
theorem dX12_next0_273 : decode cX12_next0 273 = .ok (.bipush 62, 2) := by decide +kernel
theorem dX12_next0_275 : decode cX12_next0 275 = .ok (.if_icmp .ne 7, 3) := by decide +kernel
theorem dX12_next0_278 : decode cX12_next0 278 = .ok (.iconst 1, 1) := by decide +kernel
theorem dX12_next0_279 : decode cX12_next0 279 = .ok (.goto 4, 3) := by decide +kernel
theorem dX12_next0_282 : decode cX12_next0 282 = .ok (.iconst 0, 1) := by decide +kernel
theorem dX12_next0_283 : decode cX12_next0 283 = .ok (.istore_n 2, 1) := by decide +kernel
theorem dX12_next0_284 : decode cX12_next0 284 = .ok (.aload_n 0, 1) := by decide +kernel
theorem dX12_next0_285 : decode cX12_next0 285 = .ok (.iload_n 2, 1) := by decide +kernel
theorem dX12_next0_286 : decode cX12_next0 286 = .ok (.ifCond .eq 7, 3) := by decide +kernel
theorem dX12_next0_289 : decode cX12_next0 289 = .ok (.iload_n 1, 1) := by decide +kernel
theorem dX12_next0_290 : decode cX12_next0 290 = .ok (.goto 4, 3) := by decide +kernel
theorem dX12_next0_293 : decode cX12_next0 293 = .ok (.iconst 1, 1) := by decide +kernel
theorem dX12_next0_294 : decode cX12_next0 294 = .ok (.putfield 242, 3) := by decide +kernel
theorem dX12_next0_297 : decode cX12_next0 297 = .ok (.return_, 1) := by decide +kernel
theorem dX12_product_0 : decode cX12_product 0 = .ok (.aload_n 0, 1) := by decide +kernel
theorem dX12_product_1 : decode cX12_product 1 = .ok (.invokevirtual 292, 3) := by decide +kernel
theorem dX12_product_4 : decode cX12_product 4 = .ok (.ifCond .ne 5, 3) := by decide +kernel
theorem dX12_product_7 : decode cX12_product 7 = .ok (.iconst 0, 1) := by decide +kernel
theorem dX12_product_8 : decode cX12_product 8 = .ok (.ireturn, 1) := by decide +kernel
theorem dX12_product_9 : decode cX12_product 9 = .ok (.aload_n 0, 1) := by decide +kernel
theorem dX12_product_10 : decode cX12_product 10 = .ok (.getfield 242, 3) := by decide +kernel
theorem dX12_product_13 : decode cX12_product 13 = .ok (.bipush 42, 2) := by decide +kernel
theorem dX12_product_15 : decode cX12_product 15 = .ok (.if_icmp .ne 26, 3) := by decide +kernel
theorem dX12_product_18 : decode cX12_product 18 = .ok (.aload_n 0, 1) := by decide +kernel
theorem dX12_product_19 : decode cX12_product 19 = .ok (.invokevirtual 266, 3) := by decide +kernel
theorem dX12_product_22 : decode cX12_product 22 = .ok (.aload_n 0, 1) := by decide +kernel
theorem dX12_product_23 : decode cX12_product 23 = .ok (.invokevirtual 292, 3) := by decide +kernel
theorem dX12_product_26 : decode cX12_product 26 = .ok (.ifCond .ne 5, 3) := by decide +kernel
theorem dX12_product_29 : decode cX12_product 29 = .ok (.iconst 0, 1) := by decide +kernel
theorem dX12_product_30 : decode cX12_product 30 = .ok (.ireturn, 1) := by decide +kernel
theorem dX12_product_31 : decode cX12_product 31 = .ok (.aload_n 0, 1) := by decide +kernel
theorem dX12_product_32 : decode cX12_product 32 = .ok (.bipush 10, 2) := by decide +kernel
theorem dX12_product_34 : decode cX12_product 34 = .ok (.iconst 0, 1) := by decide +kernel
theorem dX12_product_35 : decode cX12_product 35 = .ok (.invokevirtual 288, 3) := by decide +kernel
theorem dX12_product_38 : decode cX12_product 38 = .ok (.goto (-29), 3) := by decide +kernel
theorem dX12_product_41 : decode cX12_product 41 = .ok (.iconst 1, 1) := by decide +kernel
theorem dX12_product_42 : decode cX12_product 42 = .ok (.ireturn, 1) := by decide +kernel
theorem dX12_reads_0 : decode cX12_reads 0 = .ok (.aload_n 0, 1) := by decide +kernel
theorem dX12_reads_1 : decode cX12_reads 1 = .ok (.invokevirtual 339, 3) := by decide +kernel
theorem dX12_reads_4 : decode cX12_reads 4 = .ok (.aload_n 0, 1) := by decide +kernel
theorem dX12_reads_5 : decode cX12_reads 5 = .ok (.invokevirtual 327, 3) := by decide +kernel
theorem dX12_reads_8 : decode cX12_reads 8 = .ok (.ifCond .eq 22, 3) := by decide +kernel
theorem dX12_reads_11 : decode cX12_reads 11 = .ok (.aload_n 0, 1) := by decide +kernel
theorem dX12_reads_12 : decode cX12_reads 12 = .ok (.getfield 242, 3) := by decide +kernel
theorem dX12_reads_15 : decode cX12_reads 15 = .ok (.ifCond .eq 11, 3) := by decide +kernel
theorem dX12_reads_18 : decode cX12_reads 18 = .ok (.aload_n 0, 1) := by decide +kernel
theorem dX12_reads_19 : decode cX12_reads 19 = .ok (.iconst 1, 1) := by decide +kernel
theorem dX12_reads_20 : decode cX12_reads 20 = .ok (.invokevirtual 263, 3) := by decide +kernel
theorem dX12_reads_23 : decode cX12_reads 23 = .ok (.ifCond .eq 7, 3) := by decide +kernel
theorem dX12_reads_26 : decode cX12_reads 26 = .ok (.iconst 1, 1) := by decide +kernel
theorem dX12_reads_27 : decode cX12_reads 27 = .ok (.goto 4, 3) := by decide +kernel
theorem dX12_reads_30 : decode cX12_reads 30 = .ok (.iconst 0, 1) := by decide +kernel
theorem dX12_reads_31 : decode cX12_reads 31 = .ok (.istore_n 1, 1) := by decide +kernel
theorem dX12_reads_32 : decode cX12_reads 32 = .ok (.aload_n 0, 1) := by decide +kernel
theorem dX12_reads_33 : decode cX12_reads 33 = .ok (.invokevirtual 336, 3) := by decide +kernel
theorem dX12_reads_36 : decode cX12_reads 36 = .ok (.iload_n 1, 1) := by decide +kernel
theorem dX12_reads_37 : decode cX12_reads 37 = .ok (.ireturn, 1) := by decide +kernel
theorem dX12_see_0 : decode cX12_see 0 = .ok (.iload_n 1, 1) := by decide +kernel
theorem dX12_see_1 : decode cX12_see 1 = .ok (.aload_n 0, 1) := by decide +kernel
theorem dX12_see_2 : decode cX12_see 2 = .ok (.getfield 182, 3) := by decide +kernel
theorem dX12_see_5 : decode cX12_see 5 = .ok (.if_icmp .ge 12, 3) := by decide +kernel
theorem dX12_see_8 : decode cX12_see 8 = .ok (.aload_n 0, 1) := by decide +kernel
theorem dX12_see_9 : decode cX12_see 9 = .ok (.getfield 78, 3) := by decide +kernel
theorem dX12_see_12 : decode cX12_see 12 = .ok (.iload_n 1, 1) := by decide +kernel
theorem dX12_see_13 : decode cX12_see 13 = .ok (.iaload, 1) := by decide +kernel
theorem dX12_see_14 : decode cX12_see 14 = .ok (.goto 4, 3) := by decide +kernel
theorem dX12_see_17 : decode cX12_see 17 = .ok (.iconst (-1), 1) := by decide +kernel
theorem dX12_see_18 : decode cX12_see 18 = .ok (.ireturn, 1) := by decide +kernel
theorem dX12_single_0 : decode cX12_single 0 = .ok (.aload_n 0, 1) := by decide +kernel
theorem dX12_single_1 : decode cX12_single 1 = .ok (.getfield 242, 3) := by decide +kernel
theorem dX12_single_4 : decode cX12_single 4 = .ok (.sipush 314, 3) := by decide +kernel
theorem dX12_single_7 : decode cX12_single 7 = .ok (.if_icmp .ne 38, 3) := by decide +kernel
theorem dX12_single_10 : decode cX12_single 10 = .ok (.aload_n 0, 1) := by decide +kernel
theorem dX12_single_11 : decode cX12_single 11 = .ok (.invokevirtual 307, 3) := by decide +kernel
theorem dX12_single_14 : decode cX12_single 14 = .ok (.ifCond .eq 10, 3) := by decide +kernel
theorem dX12_single_17 : decode cX12_single 17 = .ok (.aload_n 0, 1) := by decide +kernel
theorem dX12_single_18 : decode cX12_single 18 = .ok (.invokevirtual 304, 3) := by decide +kernel
theorem dX12_single_21 : decode cX12_single 21 = .ok (.ifCond .ne 5, 3) := by decide +kernel
theorem dX12_single_24 : decode cX12_single 24 = .ok (.iconst 0, 1) := by decide +kernel
theorem dX12_single_25 : decode cX12_single 25 = .ok (.ireturn, 1) := by decide +kernel
theorem dX12_single_26 : decode cX12_single 26 = .ok (.aload_n 0, 1) := by decide +kernel
theorem dX12_single_27 : decode cX12_single 27 = .ok (.dup, 1) := by decide +kernel
theorem dX12_single_28 : decode cX12_single 28 = .ok (.getfield 282, 3) := by decide +kernel
theorem dX12_single_31 : decode cX12_single 31 = .ok (.iconst 1, 1) := by decide +kernel
theorem dX12_single_32 : decode cX12_single 32 = .ok (.isub, 1) := by decide +kernel
theorem dX12_single_33 : decode cX12_single 33 = .ok (.putfield 282, 3) := by decide +kernel
theorem dX12_single_36 : decode cX12_single 36 = .ok (.aload_n 0, 1) := by decide +kernel
theorem dX12_single_37 : decode cX12_single 37 = .ok (.bipush 14, 2) := by decide +kernel
theorem dX12_single_39 : decode cX12_single 39 = .ok (.iconst 0, 1) := by decide +kernel
theorem dX12_single_40 : decode cX12_single 40 = .ok (.invokevirtual 288, 3) := by decide +kernel
theorem dX12_single_43 : decode cX12_single 43 = .ok (.iconst 1, 1) := by decide +kernel
theorem dX12_single_44 : decode cX12_single 44 = .ok (.ireturn, 1) := by decide +kernel
theorem dX12_single_45 : decode cX12_single 45 = .ok (.aload_n 0, 1) := by decide +kernel
theorem dX12_single_46 : decode cX12_single 46 = .ok (.getfield 242, 3) := by decide +kernel
theorem dX12_single_49 : decode cX12_single 49 = .ok (.bipush 40, 2) := by decide +kernel
theorem dX12_single_51 : decode cX12_single 51 = .ok (.if_icmp .ne 40, 3) := by decide +kernel
theorem dX12_single_54 : decode cX12_single 54 = .ok (.aload_n 0, 1) := by decide +kernel
theorem dX12_single_55 : decode cX12_single 55 = .ok (.invokevirtual 307, 3) := by decide +kernel
theorem dX12_single_58 : decode cX12_single 58 = .ok (.ifCond .eq 19, 3) := by decide +kernel
theorem dX12_single_61 : decode cX12_single 61 = .ok (.aload_n 0, 1) := by decide +kernel
theorem dX12_single_62 : decode cX12_single 62 = .ok (.invokevirtual 310, 3) := by decide +kernel
theorem dX12_single_65 : decode cX12_single 65 = .ok (.ifCond .eq 12, 3) := by decide +kernel
theorem dX12_single_68 : decode cX12_single 68 = .ok (.aload_n 0, 1) := by decide +kernel
theorem dX12_single_69 : decode cX12_single 69 = .ok (.bipush 41, 2) := by decide +kernel
theorem dX12_single_71 : decode cX12_single 71 = .ok (.invokevirtual 313, 3) := by decide +kernel
theorem dX12_single_74 : decode cX12_single 74 = .ok (.ifCond .ne 5, 3) := by decide +kernel
theorem dX12_single_77 : decode cX12_single 77 = .ok (.iconst 0, 1) := by decide +kernel
theorem dX12_single_78 : decode cX12_single 78 = .ok (.ireturn, 1) := by decide +kernel
theorem dX12_single_79 : decode cX12_single 79 = .ok (.aload_n 0, 1) := by decide +kernel
theorem dX12_single_80 : decode cX12_single 80 = .ok (.dup, 1) := by decide +kernel
theorem dX12_single_81 : decode cX12_single 81 = .ok (.getfield 282, 3) := by decide +kernel
theorem dX12_single_84 : decode cX12_single 84 = .ok (.iconst 1, 1) := by decide +kernel
theorem dX12_single_85 : decode cX12_single 85 = .ok (.isub, 1) := by decide +kernel
theorem dX12_single_86 : decode cX12_single 86 = .ok (.putfield 282, 3) := by decide +kernel
theorem dX12_single_89 : decode cX12_single 89 = .ok (.iconst 1, 1) := by decide +kernel
theorem dX12_single_90 : decode cX12_single 90 = .ok (.ireturn, 1) := by decide +kernel
theorem dX12_single_91 : decode cX12_single 91 = .ok (.aload_n 0, 1) := by decide +kernel
theorem dX12_single_92 : decode cX12_single 92 = .ok (.invokevirtual 315, 3) := by decide +kernel
theorem dX12_single_95 : decode cX12_single 95 = .ok (.ifCond .ne 5, 3) := by decide +kernel
theorem dX12_single_98 : decode cX12_single 98 = .ok (.iconst 0, 1) := by decide +kernel
theorem dX12_single_99 : decode cX12_single 99 = .ok (.ireturn, 1) := by decide +kernel
theorem dX12_single_100 : decode cX12_single 100 = .ok (.aload_n 0, 1) := by decide +kernel
theorem dX12_single_101 : decode cX12_single 101 = .ok (.getfield 242, 3) := by decide +kernel
theorem dX12_single_104 : decode cX12_single 104 = .ok (.bipush 60, 2) := by decide +kernel
theorem dX12_single_106 : decode cX12_single 106 = .ok (.if_icmp .ne 8, 3) := by decide +kernel
theorem dX12_single_109 : decode cX12_single 109 = .ok (.bipush 11, 2) := by decide +kernel
theorem dX12_single_111 : decode cX12_single 111 = .ok (.goto 32, 3) := by decide +kernel
theorem dX12_single_114 : decode cX12_single 114 = .ok (.aload_n 0, 1) := by decide +kernel
theorem dX12_single_115 : decode cX12_single 115 = .ok (.getfield 242, 3) := by decide +kernel
theorem dX12_single_118 : decode cX12_single 118 = .ok (.bipush 61, 2) := by decide +kernel
theorem dX12_single_120 : decode cX12_single 120 = .ok (.if_icmp .ne 8, 3) := by decide +kernel
theorem dX12_single_123 : decode cX12_single 123 = .ok (.bipush 12, 2) := by decide +kernel
theorem dX12_single_125 : decode cX12_single 125 = .ok (.goto 18, 3) := by decide +kernel
theorem dX12_single_128 : decode cX12_single 128 = .ok (.aload_n 0, 1) := by decide +kernel
theorem dX12_single_129 : decode cX12_single 129 = .ok (.getfield 242, 3) := by decide +kernel
theorem dX12_single_132 : decode cX12_single 132 = .ok (.bipush 62, 2) := by decide +kernel
theorem dX12_single_134 : decode cX12_single 134 = .ok (.if_icmp .ne 8, 3) := by decide +kernel
theorem dX12_single_137 : decode cX12_single 137 = .ok (.bipush 13, 2) := by decide +kernel
theorem dX12_single_139 : decode cX12_single 139 = .ok (.goto 4, 3) := by decide +kernel
theorem dX12_single_142 : decode cX12_single 142 = .ok (.iconst (-1), 1) := by decide +kernel
theorem dX12_single_143 : decode cX12_single 143 = .ok (.istore_n 1, 1) := by decide +kernel
theorem dX12_single_144 : decode cX12_single 144 = .ok (.iload_n 1, 1) := by decide +kernel
theorem dX12_single_145 : decode cX12_single 145 = .ok (.iconst (-1), 1) := by decide +kernel
theorem dX12_single_146 : decode cX12_single 146 = .ok (.if_icmp .ne 9, 3) := by decide +kernel
theorem dX12_single_149 : decode cX12_single 149 = .ok (.aload_n 0, 1) := by decide +kernel
theorem dX12_single_150 : decode cX12_single 150 = .ok (.iconst 1, 1) := by decide +kernel
theorem dX12_single_151 : decode cX12_single 151 = .ok (.invokevirtual 263, 3) := by decide +kernel
theorem dX12_single_154 : decode cX12_single 154 = .ok (.ireturn, 1) := by decide +kernel
theorem dX12_single_155 : decode cX12_single 155 = .ok (.aload_n 0, 1) := by decide +kernel
theorem dX12_single_156 : decode cX12_single 156 = .ok (.invokevirtual 266, 3) := by decide +kernel
theorem dX12_single_159 : decode cX12_single 159 = .ok (.aload_n 0, 1) := by decide +kernel
theorem dX12_single_160 : decode cX12_single 160 = .ok (.invokevirtual 315, 3) := by decide +kernel
theorem dX12_single_163 : decode cX12_single 163 = .ok (.ifCond .ne 5, 3) := by decide +kernel
theorem dX12_single_166 : decode cX12_single 166 = .ok (.iconst 0, 1) := by decide +kernel
theorem dX12_single_167 : decode cX12_single 167 = .ok (.ireturn, 1) := by decide +kernel
theorem dX12_single_168 : decode cX12_single 168 = .ok (.aload_n 0, 1) := by decide +kernel
theorem dX12_single_169 : decode cX12_single 169 = .ok (.iload_n 1, 1) := by decide +kernel
theorem dX12_single_170 : decode cX12_single 170 = .ok (.iconst 0, 1) := by decide +kernel
theorem dX12_single_171 : decode cX12_single 171 = .ok (.invokevirtual 288, 3) := by decide +kernel
theorem dX12_single_174 : decode cX12_single 174 = .ok (.iconst 1, 1) := by decide +kernel
theorem dX12_single_175 : decode cX12_single 175 = .ok (.ireturn, 1) := by decide +kernel
theorem dX12_statute_0 : decode cX12_statute 0 = .ok (.aload_n 0, 1) := by decide +kernel
theorem dX12_statute_1 : decode cX12_statute 1 = .ok (.iconst 0, 1) := by decide +kernel
theorem dX12_statute_2 : decode cX12_statute 2 = .ok (.putfield 257, 3) := by decide +kernel
theorem dX12_statute_5 : decode cX12_statute 5 = .ok (.iload_n 1, 1) := by decide +kernel
theorem dX12_statute_6 : decode cX12_statute 6 = .ok (.iconst 0, 1) := by decide +kernel
theorem dX12_statute_7 : decode cX12_statute 7 = .ok (.iconst 1, 1) := by decide +kernel
theorem dX12_statute_8 : decode cX12_statute 8 = .ok (.invokestatic 1, 3) := by decide +kernel
theorem dX12_statute_11 : decode cX12_statute 11 = .ok (.ifCond .ne 9, 3) := by decide +kernel
theorem dX12_statute_14 : decode cX12_statute 14 = .ok (.aload_n 0, 1) := by decide +kernel
theorem dX12_statute_15 : decode cX12_statute 15 = .ok (.invokevirtual 336, 3) := by decide +kernel
theorem dX12_statute_18 : decode cX12_statute 18 = .ok (.iconst (-1), 1) := by decide +kernel
theorem dX12_statute_19 : decode cX12_statute 19 = .ok (.ireturn, 1) := by decide +kernel
theorem dX12_statute_20 : decode cX12_statute 20 = .ok (.aload_n 0, 1) := by decide +kernel
theorem dX12_statute_21 : decode cX12_statute 21 = .ok (.invokevirtual 339, 3) := by decide +kernel
theorem dX12_statute_24 : decode cX12_statute 24 = .ok (.iconst 1, 1) := by decide +kernel
theorem dX12_statute_25 : decode cX12_statute 25 = .ok (.istore_n 2, 1) := by decide +kernel
theorem dX12_statute_26 : decode cX12_statute 26 = .ok (.iload_n 2, 1) := by decide +kernel
theorem dX12_statute_27 : decode cX12_statute 27 = .ok (.ifCond .eq 18, 3) := by decide +kernel
theorem dX12_statute_30 : decode cX12_statute 30 = .ok (.aload_n 0, 1) := by decide +kernel
theorem dX12_statute_31 : decode cX12_statute 31 = .ok (.getfield 242, 3) := by decide +kernel
theorem dX12_statute_34 : decode cX12_statute 34 = .ok (.ifCond .eq 11, 3) := by decide +kernel
theorem dX12_statute_37 : decode cX12_statute 37 = .ok (.aload_n 0, 1) := by decide +kernel
theorem dX12_statute_38 : decode cX12_statute 38 = .ok (.invokevirtual 342, 3) := by decide +kernel
theorem dX12_statute_41 : decode cX12_statute 41 = .ok (.istore_n 2, 1) := by decide +kernel
theorem dX12_statute_42 : decode cX12_statute 42 = .ok (.goto (-16), 3) := by decide +kernel
theorem dX12_statute_45 : decode cX12_statute 45 = .ok (.aload_n 0, 1) := by decide +kernel
theorem dX12_statute_46 : decode cX12_statute 46 = .ok (.invokevirtual 336, 3) := by decide +kernel
theorem dX12_statute_49 : decode cX12_statute 49 = .ok (.iload_n 2, 1) := by decide +kernel
theorem dX12_statute_50 : decode cX12_statute 50 = .ok (.ifCond .ne 5, 3) := by decide +kernel
theorem dX12_statute_53 : decode cX12_statute 53 = .ok (.iconst (-1), 1) := by decide +kernel
theorem dX12_statute_54 : decode cX12_statute 54 = .ok (.ireturn, 1) := by decide +kernel
theorem dX12_statute_55 : decode cX12_statute 55 = .ok (.aload_n 0, 1) := by decide +kernel
theorem dX12_statute_56 : decode cX12_statute 56 = .ok (.iload_n 1, 1) := by decide +kernel
theorem dX12_statute_57 : decode cX12_statute 57 = .ok (.invokevirtual 345, 3) := by decide +kernel
theorem dX12_statute_60 : decode cX12_statute 60 = .ok (.aload_n 0, 1) := by decide +kernel
theorem dX12_statute_61 : decode cX12_statute 61 = .ok (.getfield 36, 3) := by decide +kernel
theorem dX12_statute_64 : decode cX12_statute 64 = .ok (.iload_n 1, 1) := by decide +kernel
theorem dX12_statute_65 : decode cX12_statute 65 = .ok (.aload_n 0, 1) := by decide +kernel
theorem dX12_statute_66 : decode cX12_statute 66 = .ok (.getfield 321, 3) := by decide +kernel
theorem dX12_statute_69 : decode cX12_statute 69 = .ok (.iastore, 1) := by decide +kernel
theorem dX12_statute_70 : decode cX12_statute 70 = .ok (.iconst 0, 1) := by decide +kernel
theorem dX12_statute_71 : decode cX12_statute 71 = .ok (.istore_n 3, 1) := by decide +kernel
theorem dX12_statute_72 : decode cX12_statute 72 = .ok (.iload_n 3, 1) := by decide +kernel
theorem dX12_statute_73 : decode cX12_statute 73 = .ok (.aload_n 0, 1) := by decide +kernel
theorem dX12_statute_74 : decode cX12_statute 74 = .ok (.getfield 321, 3) := by decide +kernel
theorem dX12_statute_77 : decode cX12_statute 77 = .ok (.if_icmp .ge 23, 3) := by decide +kernel
theorem dX12_statute_80 : decode cX12_statute 80 = .ok (.aload_n 0, 1) := by decide +kernel
theorem dX12_statute_81 : decode cX12_statute 81 = .ok (.bipush 6, 2) := by decide +kernel
theorem dX12_statute_83 : decode cX12_statute 83 = .ok (.iload_n 1, 1) := by decide +kernel
theorem dX12_statute_84 : decode cX12_statute 84 = .ok (.imul, 1) := by decide +kernel
theorem dX12_statute_85 : decode cX12_statute 85 = .ok (.iload_n 3, 1) := by decide +kernel
theorem dX12_statute_86 : decode cX12_statute 86 = .ok (.iadd, 1) := by decide +kernel
theorem dX12_statute_87 : decode cX12_statute 87 = .ok (.bipush 12, 2) := by decide +kernel
theorem dX12_statute_89 : decode cX12_statute 89 = .ok (.iload_n 3, 1) := by decide +kernel
theorem dX12_statute_90 : decode cX12_statute 90 = .ok (.iadd, 1) := by decide +kernel
theorem dX12_statute_91 : decode cX12_statute 91 = .ok (.invokevirtual 349, 3) := by decide +kernel
theorem dX12_statute_94 : decode cX12_statute 94 = .ok (.iinc 3 1, 3) := by decide +kernel
theorem dX12_statute_97 : decode cX12_statute 97 = .ok (.goto (-25), 3) := by decide +kernel
theorem dX12_statute_100 : decode cX12_statute 100 = .ok (.aload_n 0, 1) := by decide +kernel
theorem dX12_statute_101 : decode cX12_statute 101 = .ok (.getfield 321, 3) := by decide +kernel
theorem dX12_statute_104 : decode cX12_statute 104 = .ok (.ireturn, 1) := by decide +kernel
theorem dX12_sumUp_0 : decode cX12_sumUp 0 = .ok (.aload_n 0, 1) := by decide +kernel
theorem dX12_sumUp_1 : decode cX12_sumUp 1 = .ok (.invokevirtual 285, 3) := by decide +kernel
theorem dX12_sumUp_4 : decode cX12_sumUp 4 = .ok (.ifCond .ne 5, 3) := by decide +kernel
theorem dX12_sumUp_7 : decode cX12_sumUp 7 = .ok (.iconst 0, 1) := by decide +kernel
theorem dX12_sumUp_8 : decode cX12_sumUp 8 = .ok (.ireturn, 1) := by decide +kernel
theorem dX12_sumUp_9 : decode cX12_sumUp 9 = .ok (.aload_n 0, 1) := by decide +kernel
theorem dX12_sumUp_10 : decode cX12_sumUp 10 = .ok (.getfield 242, 3) := by decide +kernel
theorem dX12_sumUp_13 : decode cX12_sumUp 13 = .ok (.bipush 43, 2) := by decide +kernel
theorem dX12_sumUp_15 : decode cX12_sumUp 15 = .ok (.if_icmp .eq 12, 3) := by decide +kernel
theorem dX12_sumUp_18 : decode cX12_sumUp 18 = .ok (.aload_n 0, 1) := by decide +kernel
theorem dX12_sumUp_19 : decode cX12_sumUp 19 = .ok (.getfield 242, 3) := by decide +kernel
theorem dX12_sumUp_22 : decode cX12_sumUp 22 = .ok (.bipush 45, 2) := by decide +kernel
theorem dX12_sumUp_24 : decode cX12_sumUp 24 = .ok (.if_icmp .ne 42, 3) := by decide +kernel
theorem dX12_sumUp_27 : decode cX12_sumUp 27 = .ok (.aload_n 0, 1) := by decide +kernel
theorem dX12_sumUp_28 : decode cX12_sumUp 28 = .ok (.getfield 242, 3) := by decide +kernel
theorem dX12_sumUp_31 : decode cX12_sumUp 31 = .ok (.bipush 43, 2) := by decide +kernel
theorem dX12_sumUp_33 : decode cX12_sumUp 33 = .ok (.if_icmp .ne 8, 3) := by decide +kernel
theorem dX12_sumUp_36 : decode cX12_sumUp 36 = .ok (.bipush 8, 2) := by decide +kernel
theorem dX12_sumUp_38 : decode cX12_sumUp 38 = .ok (.goto 5, 3) := by decide +kernel
theorem dX12_sumUp_41 : decode cX12_sumUp 41 = .ok (.bipush 9, 2) := by decide +kernel
theorem dX12_sumUp_43 : decode cX12_sumUp 43 = .ok (.istore_n 1, 1) := by decide +kernel
theorem dX12_sumUp_44 : decode cX12_sumUp 44 = .ok (.aload_n 0, 1) := by decide +kernel
theorem dX12_sumUp_45 : decode cX12_sumUp 45 = .ok (.invokevirtual 266, 3) := by decide +kernel
theorem dX12_sumUp_48 : decode cX12_sumUp 48 = .ok (.aload_n 0, 1) := by decide +kernel
theorem dX12_sumUp_49 : decode cX12_sumUp 49 = .ok (.invokevirtual 285, 3) := by decide +kernel
theorem dX12_sumUp_52 : decode cX12_sumUp 52 = .ok (.ifCond .ne 5, 3) := by decide +kernel
theorem dX12_sumUp_55 : decode cX12_sumUp 55 = .ok (.iconst 0, 1) := by decide +kernel
theorem dX12_sumUp_56 : decode cX12_sumUp 56 = .ok (.ireturn, 1) := by decide +kernel
theorem dX12_sumUp_57 : decode cX12_sumUp 57 = .ok (.aload_n 0, 1) := by decide +kernel
theorem dX12_sumUp_58 : decode cX12_sumUp 58 = .ok (.iload_n 1, 1) := by decide +kernel
theorem dX12_sumUp_59 : decode cX12_sumUp 59 = .ok (.iconst 0, 1) := by decide +kernel
theorem dX12_sumUp_60 : decode cX12_sumUp 60 = .ok (.invokevirtual 288, 3) := by decide +kernel
theorem dX12_sumUp_63 : decode cX12_sumUp 63 = .ok (.goto (-54), 3) := by decide +kernel
theorem dX12_sumUp_66 : decode cX12_sumUp 66 = .ok (.iconst 1, 1) := by decide +kernel
theorem dX12_sumUp_67 : decode cX12_sumUp 67 = .ok (.ireturn, 1) := by decide +kernel
theorem dX12_unit_0 : decode cX12_unit 0 = .ok (.aload_n 0, 1) := by decide +kernel
theorem dX12_unit_1 : decode cX12_unit 1 = .ok (.getfield 242, 3) := by decide +kernel
theorem dX12_unit_4 : decode cX12_unit 4 = .ok (.istore_n 1, 1) := by decide +kernel
theorem dX12_unit_5 : decode cX12_unit 5 = .ok (.iload_n 1, 1) := by decide +kernel
theorem dX12_unit_6 : decode cX12_unit 6 = .ok (.iconst 2, 1) := by decide +kernel
theorem dX12_unit_7 : decode cX12_unit 7 = .ok (.if_icmp .eq 10, 3) := by decide +kernel
theorem dX12_unit_10 : decode cX12_unit 10 = .ok (.iload_n 1, 1) := by decide +kernel
theorem dX12_unit_11 : decode cX12_unit 11 = .ok (.sipush 311, 3) := by decide +kernel
theorem dX12_unit_14 : decode cX12_unit 14 = .ok (.if_icmp .ne 30, 3) := by decide +kernel
theorem dX12_unit_17 : decode cX12_unit 17 = .ok (.aload_n 0, 1) := by decide +kernel
theorem dX12_unit_18 : decode cX12_unit 18 = .ok (.iload_n 1, 1) := by decide +kernel
theorem dX12_unit_19 : decode cX12_unit 19 = .ok (.sipush 311, 3) := by decide +kernel
theorem dX12_unit_22 : decode cX12_unit 22 = .ok (.if_icmp .ne 8, 3) := by decide +kernel
theorem dX12_unit_25 : decode cX12_unit 25 = .ok (.bipush 7, 2) := by decide +kernel
theorem dX12_unit_27 : decode cX12_unit 27 = .ok (.goto 4, 3) := by decide +kernel
theorem dX12_unit_30 : decode cX12_unit 30 = .ok (.iconst 0, 1) := by decide +kernel
theorem dX12_unit_31 : decode cX12_unit 31 = .ok (.aload_n 0, 1) := by decide +kernel
theorem dX12_unit_32 : decode cX12_unit 32 = .ok (.getfield 254, 3) := by decide +kernel
theorem dX12_unit_35 : decode cX12_unit 35 = .ok (.invokevirtual 288, 3) := by decide +kernel
theorem dX12_unit_38 : decode cX12_unit 38 = .ok (.aload_n 0, 1) := by decide +kernel
theorem dX12_unit_39 : decode cX12_unit 39 = .ok (.invokevirtual 266, 3) := by decide +kernel
theorem dX12_unit_42 : decode cX12_unit 42 = .ok (.iconst 1, 1) := by decide +kernel
theorem dX12_unit_43 : decode cX12_unit 43 = .ok (.ireturn, 1) := by decide +kernel
theorem dX12_unit_44 : decode cX12_unit 44 = .ok (.iload_n 1, 1) := by decide +kernel
theorem dX12_unit_45 : decode cX12_unit 45 = .ok (.sipush 304, 3) := by decide +kernel
theorem dX12_unit_48 : decode cX12_unit 48 = .ok (.if_icmp .ne 7, 3) := by decide +kernel
theorem dX12_unit_51 : decode cX12_unit 51 = .ok (.iconst 1, 1) := by decide +kernel
theorem dX12_unit_52 : decode cX12_unit 52 = .ok (.goto 60, 3) := by decide +kernel
theorem dX12_unit_55 : decode cX12_unit 55 = .ok (.iload_n 1, 1) := by decide +kernel
theorem dX12_unit_56 : decode cX12_unit 56 = .ok (.sipush 305, 3) := by decide +kernel
theorem dX12_unit_59 : decode cX12_unit 59 = .ok (.if_icmp .ne 7, 3) := by decide +kernel
theorem dX12_unit_62 : decode cX12_unit 62 = .ok (.iconst 2, 1) := by decide +kernel
theorem dX12_unit_63 : decode cX12_unit 63 = .ok (.goto 49, 3) := by decide +kernel
theorem dX12_unit_66 : decode cX12_unit 66 = .ok (.iload_n 1, 1) := by decide +kernel
theorem dX12_unit_67 : decode cX12_unit 67 = .ok (.sipush 308, 3) := by decide +kernel
theorem dX12_unit_70 : decode cX12_unit 70 = .ok (.if_icmp .ne 7, 3) := by decide +kernel
theorem dX12_unit_73 : decode cX12_unit 73 = .ok (.iconst 3, 1) := by decide +kernel
theorem dX12_unit_74 : decode cX12_unit 74 = .ok (.goto 38, 3) := by decide +kernel
theorem dX12_unit_77 : decode cX12_unit 77 = .ok (.iload_n 1, 1) := by decide +kernel
theorem dX12_unit_78 : decode cX12_unit 78 = .ok (.sipush 315, 3) := by decide +kernel
theorem dX12_unit_81 : decode cX12_unit 81 = .ok (.if_icmp .ne 7, 3) := by decide +kernel
theorem dX12_unit_84 : decode cX12_unit 84 = .ok (.iconst 4, 1) := by decide +kernel
theorem dX12_unit_85 : decode cX12_unit 85 = .ok (.goto 27, 3) := by decide +kernel
theorem dX12_unit_88 : decode cX12_unit 88 = .ok (.iload_n 1, 1) := by decide +kernel
theorem dX12_unit_89 : decode cX12_unit 89 = .ok (.sipush 316, 3) := by decide +kernel
theorem dX12_unit_92 : decode cX12_unit 92 = .ok (.if_icmp .ne 7, 3) := by decide +kernel
theorem dX12_unit_95 : decode cX12_unit 95 = .ok (.iconst 5, 1) := by decide +kernel
theorem dX12_unit_96 : decode cX12_unit 96 = .ok (.goto 16, 3) := by decide +kernel
theorem dX12_unit_99 : decode cX12_unit 99 = .ok (.iload_n 1, 1) := by decide +kernel
theorem dX12_unit_100 : decode cX12_unit 100 = .ok (.sipush 317, 3) := by decide +kernel
theorem dX12_unit_103 : decode cX12_unit 103 = .ok (.if_icmp .ne 8, 3) := by decide +kernel
theorem dX12_unit_106 : decode cX12_unit 106 = .ok (.bipush 6, 2) := by decide +kernel
theorem dX12_unit_108 : decode cX12_unit 108 = .ok (.goto 4, 3) := by decide +kernel
theorem dX12_unit_111 : decode cX12_unit 111 = .ok (.iconst (-1), 1) := by decide +kernel
theorem dX12_unit_112 : decode cX12_unit 112 = .ok (.istore_n 2, 1) := by decide +kernel
theorem dX12_unit_113 : decode cX12_unit 113 = .ok (.iload_n 2, 1) := by decide +kernel
theorem dX12_unit_114 : decode cX12_unit 114 = .ok (.iconst (-1), 1) := by decide +kernel
theorem dX12_unit_115 : decode cX12_unit 115 = .ok (.if_icmp .ne 9, 3) := by decide +kernel
theorem dX12_unit_118 : decode cX12_unit 118 = .ok (.aload_n 0, 1) := by decide +kernel
theorem dX12_unit_119 : decode cX12_unit 119 = .ok (.iconst 1, 1) := by decide +kernel
theorem dX12_unit_120 : decode cX12_unit 120 = .ok (.invokevirtual 263, 3) := by decide +kernel
theorem dX12_unit_123 : decode cX12_unit 123 = .ok (.ireturn, 1) := by decide +kernel
theorem dX12_unit_124 : decode cX12_unit 124 = .ok (.aload_n 0, 1) := by decide +kernel
theorem dX12_unit_125 : decode cX12_unit 125 = .ok (.invokevirtual 266, 3) := by decide +kernel
theorem dX12_unit_128 : decode cX12_unit 128 = .ok (.iload_n 2, 1) := by decide +kernel
theorem dX12_unit_129 : decode cX12_unit 129 = .ok (.iconst 2, 1) := by decide +kernel
theorem dX12_unit_130 : decode cX12_unit 130 = .ok (.if_icmp .eq 13, 3) := by decide +kernel
theorem dX12_unit_133 : decode cX12_unit 133 = .ok (.iload_n 2, 1) := by decide +kernel
theorem dX12_unit_134 : decode cX12_unit 134 = .ok (.iconst 3, 1) := by decide +kernel
theorem dX12_unit_135 : decode cX12_unit 135 = .ok (.if_icmp .eq 8, 3) := by decide +kernel
theorem dX12_unit_138 : decode cX12_unit 138 = .ok (.iload_n 2, 1) := by decide +kernel
theorem dX12_unit_139 : decode cX12_unit 139 = .ok (.iconst 4, 1) := by decide +kernel
theorem dX12_unit_140 : decode cX12_unit 140 = .ok (.if_icmp .ne 13, 3) := by decide +kernel
theorem dX12_unit_143 : decode cX12_unit 143 = .ok (.aload_n 0, 1) := by decide +kernel
theorem dX12_unit_144 : decode cX12_unit 144 = .ok (.invokevirtual 295, 3) := by decide +kernel
theorem dX12_unit_147 : decode cX12_unit 147 = .ok (.ifCond .ne 15, 3) := by decide +kernel
theorem dX12_unit_150 : decode cX12_unit 150 = .ok (.goto 10, 3) := by decide +kernel
theorem dX12_unit_153 : decode cX12_unit 153 = .ok (.aload_n 0, 1) := by decide +kernel
theorem dX12_unit_154 : decode cX12_unit 154 = .ok (.invokevirtual 276, 3) := by decide +kernel
theorem dX12_unit_157 : decode cX12_unit 157 = .ok (.ifCond .ne 5, 3) := by decide +kernel
theorem dX12_unit_160 : decode cX12_unit 160 = .ok (.iconst 0, 1) := by decide +kernel
theorem dX12_unit_161 : decode cX12_unit 161 = .ok (.ireturn, 1) := by decide +kernel
theorem dX12_unit_162 : decode cX12_unit 162 = .ok (.iload_n 2, 1) := by decide +kernel
theorem dX12_unit_163 : decode cX12_unit 163 = .ok (.iconst 5, 1) := by decide +kernel
theorem dX12_unit_164 : decode cX12_unit 164 = .ok (.if_icmp .ne 8, 3) := by decide +kernel
theorem dX12_unit_167 : decode cX12_unit 167 = .ok (.aload_n 0, 1) := by decide +kernel
theorem dX12_unit_168 : decode cX12_unit 168 = .ok (.iconst 1, 1) := by decide +kernel
theorem dX12_unit_169 : decode cX12_unit 169 = .ok (.putfield 298, 3) := by decide +kernel
theorem dX12_unit_172 : decode cX12_unit 172 = .ok (.aload_n 0, 1) := by decide +kernel
theorem dX12_unit_173 : decode cX12_unit 173 = .ok (.iload_n 2, 1) := by decide +kernel
theorem dX12_unit_174 : decode cX12_unit 174 = .ok (.aload_n 0, 1) := by decide +kernel
theorem dX12_unit_175 : decode cX12_unit 175 = .ok (.getfield 269, 3) := by decide +kernel
theorem dX12_unit_178 : decode cX12_unit 178 = .ok (.invokevirtual 288, 3) := by decide +kernel
theorem dX12_unit_181 : decode cX12_unit 181 = .ok (.iconst 1, 1) := by decide +kernel
theorem dX12_unit_182 : decode cX12_unit 182 = .ok (.ireturn, 1) := by decide +kernel
theorem dX4_actAt_0 : decode cX4_actAt 0 = .ok (.iload_n 1, 1) := by decide +kernel
theorem dX4_actAt_1 : decode cX4_actAt 1 = .ok (.ifCond .lt 21, 3) := by decide +kernel
theorem dX4_actAt_4 : decode cX4_actAt 4 = .ok (.iload_n 1, 1) := by decide +kernel
theorem dX4_actAt_5 : decode cX4_actAt 5 = .ok (.aload_n 0, 1) := by decide +kernel
theorem dX4_actAt_6 : decode cX4_actAt 6 = .ok (.getfield 11, 3) := by decide +kernel
theorem dX4_actAt_9 : decode cX4_actAt 9 = .ok (.arraylength, 1) := by decide +kernel
theorem dX4_actAt_10 : decode cX4_actAt 10 = .ok (.if_icmp .ge 12, 3) := by decide +kernel
theorem dX4_actAt_13 : decode cX4_actAt 13 = .ok (.aload_n 0, 1) := by decide +kernel
theorem dX4_actAt_14 : decode cX4_actAt 14 = .ok (.getfield 11, 3) := by decide +kernel
theorem dX4_actAt_17 : decode cX4_actAt 17 = .ok (.iload_n 1, 1) := by decide +kernel
theorem dX4_actAt_18 : decode cX4_actAt 18 = .ok (.aaload, 1) := by decide +kernel
theorem dX4_actAt_19 : decode cX4_actAt 19 = .ok (.goto 4, 3) := by decide +kernel
theorem dX4_actAt_22 : decode cX4_actAt 22 = .ok (.aconst_null, 1) := by decide +kernel
theorem dX4_actAt_23 : decode cX4_actAt 23 = .ok (.areturn, 1) := by decide +kernel
theorem dX4_enact_0 : decode cX4_enact 0 = .ok (.iconst 0, 1) := by decide +kernel
theorem dX4_enact_1 : decode cX4_enact 1 = .ok (.istore_n 3, 1) := by decide +kernel
theorem dX4_enact_2 : decode cX4_enact 2 = .ok (.iload_n 3, 1) := by decide +kernel
theorem dX4_enact_3 : decode cX4_enact 3 = .ok (.bipush 6, 2) := by decide +kernel
theorem dX4_enact_5 : decode cX4_enact 5 = .ok (.if_icmp .ge 59, 3) := by decide +kernel
theorem dX4_enact_8 : decode cX4_enact 8 = .ok (.bipush 6, 2) := by decide +kernel
theorem dX4_enact_10 : decode cX4_enact 10 = .ok (.iload_n 1, 1) := by decide +kernel
theorem dX4_enact_11 : decode cX4_enact 11 = .ok (.imul, 1) := by decide +kernel
theorem dX4_enact_12 : decode cX4_enact 12 = .ok (.iload_n 3, 1) := by decide +kernel
theorem dX4_enact_13 : decode cX4_enact 13 = .ok (.iadd, 1) := by decide +kernel
theorem dX4_enact_14 : decode cX4_enact 14 = .ok (.istore 4, 2) := by decide +kernel
theorem dX4_enact_16 : decode cX4_enact 16 = .ok (.iload 4, 2) := by decide +kernel
theorem dX4_enact_18 : decode cX4_enact 18 = .ok (.ifCond .lt 40, 3) := by decide +kernel
theorem dX4_enact_21 : decode cX4_enact 21 = .ok (.iload 4, 2) := by decide +kernel
theorem dX4_enact_23 : decode cX4_enact 23 = .ok (.aload_n 0, 1) := by decide +kernel
theorem dX4_enact_24 : decode cX4_enact 24 = .ok (.getfield 11, 3) := by decide +kernel
theorem dX4_enact_27 : decode cX4_enact 27 = .ok (.arraylength, 1) := by decide +kernel
theorem dX4_enact_28 : decode cX4_enact 28 = .ok (.if_icmp .ge 30, 3) := by decide +kernel
theorem dX4_enact_31 : decode cX4_enact 31 = .ok (.aload_n 0, 1) := by decide +kernel
theorem dX4_enact_32 : decode cX4_enact 32 = .ok (.getfield 11, 3) := by decide +kernel
theorem dX4_enact_35 : decode cX4_enact 35 = .ok (.iload 4, 2) := by decide +kernel
theorem dX4_enact_37 : decode cX4_enact 37 = .ok (.iload_n 3, 1) := by decide +kernel
theorem dX4_enact_38 : decode cX4_enact 38 = .ok (.aload_n 2, 1) := by decide +kernel
theorem dX4_enact_39 : decode cX4_enact 39 = .ok (.invokevirtual 27, 3) := by decide +kernel
theorem dX4_enact_42 : decode cX4_enact 42 = .ok (.if_icmp .ge 14, 3) := by decide +kernel
theorem dX4_enact_45 : decode cX4_enact 45 = .ok (.aload_n 2, 1) := by decide +kernel
theorem dX4_enact_46 : decode cX4_enact 46 = .ok (.iload_n 3, 1) := by decide +kernel
theorem dX4_enact_47 : decode cX4_enact 47 = .ok (.invokevirtual 31, 3) := by decide +kernel
theorem dX4_enact_50 : decode cX4_enact 50 = .ok (.checkcast 9, 3) := by decide +kernel
theorem dX4_enact_53 : decode cX4_enact 53 = .ok (.goto 4, 3) := by decide +kernel
theorem dX4_enact_56 : decode cX4_enact 56 = .ok (.aconst_null, 1) := by decide +kernel
theorem dX4_enact_57 : decode cX4_enact 57 = .ok (.aastore, 1) := by decide +kernel
theorem dX4_enact_58 : decode cX4_enact 58 = .ok (.iinc 3 1, 3) := by decide +kernel
theorem dX4_enact_61 : decode cX4_enact 61 = .ok (.goto (-59), 3) := by decide +kernel
theorem dX4_enact_64 : decode cX4_enact 64 = .ok (.return_, 1) := by decide +kernel
theorem dX5_isAtEnd_0 : decode cX5_isAtEnd 0 = .ok (.aload_n 0, 1) := by decide +kernel
theorem dX5_isAtEnd_1 : decode cX5_isAtEnd 1 = .ok (.invokevirtual 66, 3) := by decide +kernel
theorem dX5_isAtEnd_4 : decode cX5_isAtEnd 4 = .ok (.ifCond .eq 11, 3) := by decide +kernel
theorem dX5_isAtEnd_7 : decode cX5_isAtEnd 7 = .ok (.aload_n 0, 1) := by decide +kernel
theorem dX5_isAtEnd_8 : decode cX5_isAtEnd 8 = .ok (.iconst 1, 1) := by decide +kernel
theorem dX5_isAtEnd_9 : decode cX5_isAtEnd 9 = .ok (.invokevirtual 70, 3) := by decide +kernel
theorem dX5_isAtEnd_12 : decode cX5_isAtEnd 12 = .ok (.ifCond .eq 7, 3) := by decide +kernel
theorem dX5_isAtEnd_15 : decode cX5_isAtEnd 15 = .ok (.iconst 1, 1) := by decide +kernel
theorem dX5_isAtEnd_16 : decode cX5_isAtEnd 16 = .ok (.goto 4, 3) := by decide +kernel
theorem dX5_isAtEnd_19 : decode cX5_isAtEnd 19 = .ok (.iconst 0, 1) := by decide +kernel
theorem dX5_isAtEnd_20 : decode cX5_isAtEnd 20 = .ok (.ireturn, 1) := by decide +kernel
theorem dX5_kind_0 : decode cX5_kind 0 = .ok (.aload_n 0, 1) := by decide +kernel
theorem dX5_kind_1 : decode cX5_kind 1 = .ok (.getfield 18, 3) := by decide +kernel
theorem dX5_kind_4 : decode cX5_kind 4 = .ok (.aload_n 0, 1) := by decide +kernel
theorem dX5_kind_5 : decode cX5_kind 5 = .ok (.getfield 12, 3) := by decide +kernel
theorem dX5_kind_8 : decode cX5_kind 8 = .ok (.getfield 56, 3) := by decide +kernel
theorem dX5_kind_11 : decode cX5_kind 11 = .ok (.if_icmp .ge 18, 3) := by decide +kernel
theorem dX5_kind_14 : decode cX5_kind 14 = .ok (.aload_n 0, 1) := by decide +kernel
theorem dX5_kind_15 : decode cX5_kind 15 = .ok (.getfield 12, 3) := by decide +kernel
theorem dX5_kind_18 : decode cX5_kind 18 = .ok (.getfield 59, 3) := by decide +kernel
theorem dX5_kind_21 : decode cX5_kind 21 = .ok (.aload_n 0, 1) := by decide +kernel
theorem dX5_kind_22 : decode cX5_kind 22 = .ok (.getfield 18, 3) := by decide +kernel
theorem dX5_kind_25 : decode cX5_kind 25 = .ok (.iaload, 1) := by decide +kernel
theorem dX5_kind_26 : decode cX5_kind 26 = .ok (.goto 4, 3) := by decide +kernel
theorem dX5_kind_29 : decode cX5_kind 29 = .ok (.iconst 0, 1) := by decide +kernel
theorem dX5_kind_30 : decode cX5_kind 30 = .ok (.ireturn, 1) := by decide +kernel
theorem dX5_open_0 : decode cX5_open 0 = .ok (.aload_n 0, 1) := by decide +kernel
theorem dX5_open_1 : decode cX5_open 1 = .ok (.getfield 12, 3) := by decide +kernel
theorem dX5_open_4 : decode cX5_open 4 = .ok (.aload_n 1, 1) := by decide +kernel
theorem dX5_open_5 : decode cX5_open 5 = .ok (.iload_n 2, 1) := by decide +kernel
theorem dX5_open_6 : decode cX5_open 6 = .ok (.invokevirtual 49, 3) := by decide +kernel
theorem dX5_open_9 : decode cX5_open 9 = .ok (.aload_n 0, 1) := by decide +kernel
theorem dX5_open_10 : decode cX5_open 10 = .ok (.iconst 0, 1) := by decide +kernel
theorem dX5_open_11 : decode cX5_open 11 = .ok (.putfield 18, 3) := by decide +kernel
theorem dX5_open_14 : decode cX5_open 14 = .ok (.aload_n 0, 1) := by decide +kernel
theorem dX5_open_15 : decode cX5_open 15 = .ok (.iconst 0, 1) := by decide +kernel
theorem dX5_open_16 : decode cX5_open 16 = .ok (.putfield 26, 3) := by decide +kernel
theorem dX5_open_19 : decode cX5_open 19 = .ok (.aload_n 0, 1) := by decide +kernel
theorem dX5_open_20 : decode cX5_open 20 = .ok (.getfield 39, 3) := by decide +kernel
theorem dX5_open_23 : decode cX5_open 23 = .ok (.invokevirtual 53, 3) := by decide +kernel
theorem dX5_open_26 : decode cX5_open 26 = .ok (.aload_n 0, 1) := by decide +kernel
theorem dX5_open_27 : decode cX5_open 27 = .ok (.iconst 0, 1) := by decide +kernel
theorem dX5_open_28 : decode cX5_open 28 = .ok (.putfield 43, 3) := by decide +kernel
theorem dX5_open_31 : decode cX5_open 31 = .ok (.aload_n 0, 1) := by decide +kernel
theorem dX5_open_32 : decode cX5_open 32 = .ok (.iconst (-1), 1) := by decide +kernel
theorem dX5_open_33 : decode cX5_open 33 = .ok (.putfield 46, 3) := by decide +kernel
theorem dX5_open_36 : decode cX5_open 36 = .ok (.return_, 1) := by decide +kernel
theorem dX5_readClaim_0 : decode cX5_readClaim 0 = .ok (.aload_n 0, 1) := by decide +kernel
theorem dX5_readClaim_1 : decode cX5_readClaim 1 = .ok (.invokevirtual 66, 3) := by decide +kernel
theorem dX5_readClaim_4 : decode cX5_readClaim 4 = .ok (.istore_n 2, 1) := by decide +kernel
theorem dX5_readClaim_5 : decode cX5_readClaim 5 = .ok (.iload_n 2, 1) := by decide +kernel
theorem dX5_readClaim_6 : decode cX5_readClaim 6 = .ok (.bipush 17, 2) := by decide +kernel
theorem dX5_readClaim_8 : decode cX5_readClaim 8 = .ok (.if_icmp .eq 9, 3) := by decide +kernel
theorem dX5_readClaim_11 : decode cX5_readClaim 11 = .ok (.iload_n 2, 1) := by decide +kernel
theorem dX5_readClaim_12 : decode cX5_readClaim 12 = .ok (.bipush 27, 2) := by decide +kernel
theorem dX5_readClaim_14 : decode cX5_readClaim 14 = .ok (.if_icmp .ne 26, 3) := by decide +kernel
theorem dX5_readClaim_17 : decode cX5_readClaim 17 = .ok (.iload_n 1, 1) := by decide +kernel
theorem dX5_readClaim_18 : decode cX5_readClaim 18 = .ok (.bipush 8, 2) := by decide +kernel
theorem dX5_readClaim_20 : decode cX5_readClaim 20 = .ok (.if_icmp .ge 14, 3) := by decide +kernel
theorem dX5_readClaim_23 : decode cX5_readClaim 23 = .ok (.aload_n 0, 1) := by decide +kernel
theorem dX5_readClaim_24 : decode cX5_readClaim 24 = .ok (.iload_n 2, 1) := by decide +kernel
theorem dX5_readClaim_25 : decode cX5_readClaim 25 = .ok (.iload_n 1, 1) := by decide +kernel
theorem dX5_readClaim_26 : decode cX5_readClaim 26 = .ok (.iconst 1, 1) := by decide +kernel
theorem dX5_readClaim_27 : decode cX5_readClaim 27 = .ok (.iadd, 1) := by decide +kernel
theorem dX5_readClaim_28 : decode cX5_readClaim 28 = .ok (.invokevirtual 161, 3) := by decide +kernel
theorem dX5_readClaim_31 : decode cX5_readClaim 31 = .ok (.goto 8, 3) := by decide +kernel
theorem dX5_readClaim_34 : decode cX5_readClaim 34 = .ok (.aload_n 0, 1) := by decide +kernel
theorem dX5_readClaim_35 : decode cX5_readClaim 35 = .ok (.iconst 3, 1) := by decide +kernel
theorem dX5_readClaim_36 : decode cX5_readClaim 36 = .ok (.invokevirtual 70, 3) := by decide +kernel
theorem dX5_readClaim_39 : decode cX5_readClaim 39 = .ok (.ireturn, 1) := by decide +kernel
theorem dX5_readClaim_40 : decode cX5_readClaim 40 = .ok (.aload_n 0, 1) := by decide +kernel
theorem dX5_readClaim_41 : decode cX5_readClaim 41 = .ok (.invokevirtual 151, 3) := by decide +kernel
theorem dX5_readClaim_44 : decode cX5_readClaim 44 = .ok (.ifCond .ne 5, 3) := by decide +kernel
theorem dX5_readClaim_47 : decode cX5_readClaim 47 = .ok (.iconst 0, 1) := by decide +kernel
theorem dX5_readClaim_48 : decode cX5_readClaim 48 = .ok (.ireturn, 1) := by decide +kernel
theorem dX5_readClaim_49 : decode cX5_readClaim 49 = .ok (.aload_n 0, 1) := by decide +kernel
theorem dX5_readClaim_50 : decode cX5_readClaim 50 = .ok (.invokevirtual 66, 3) := by decide +kernel
theorem dX5_readClaim_53 : decode cX5_readClaim 53 = .ok (.istore_n 3, 1) := by decide +kernel
theorem dX5_readClaim_54 : decode cX5_readClaim 54 = .ok (.iload_n 3, 1) := by decide +kernel
theorem dX5_readClaim_55 : decode cX5_readClaim 55 = .ok (.bipush 29, 2) := by decide +kernel
theorem dX5_readClaim_57 : decode cX5_readClaim 57 = .ok (.if_icmp .eq 21, 3) := by decide +kernel
theorem dX5_readClaim_60 : decode cX5_readClaim 60 = .ok (.iload_n 3, 1) := by decide +kernel
theorem dX5_readClaim_61 : decode cX5_readClaim 61 = .ok (.bipush 30, 2) := by decide +kernel
theorem dX5_readClaim_63 : decode cX5_readClaim 63 = .ok (.if_icmp .eq 15, 3) := by decide +kernel
theorem dX5_readClaim_66 : decode cX5_readClaim 66 = .ok (.iload_n 3, 1) := by decide +kernel
theorem dX5_readClaim_67 : decode cX5_readClaim 67 = .ok (.bipush 31, 2) := by decide +kernel
theorem dX5_readClaim_69 : decode cX5_readClaim 69 = .ok (.if_icmp .eq 9, 3) := by decide +kernel
theorem dX5_readClaim_72 : decode cX5_readClaim 72 = .ok (.aload_n 0, 1) := by decide +kernel
theorem dX5_readClaim_73 : decode cX5_readClaim 73 = .ok (.iconst 1, 1) := by decide +kernel
theorem dX5_readClaim_74 : decode cX5_readClaim 74 = .ok (.invokevirtual 70, 3) := by decide +kernel
theorem dX5_readClaim_77 : decode cX5_readClaim 77 = .ok (.ireturn, 1) := by decide +kernel
theorem dX5_readClaim_78 : decode cX5_readClaim 78 = .ok (.aload_n 0, 1) := by decide +kernel
theorem dX5_readClaim_79 : decode cX5_readClaim 79 = .ok (.dup, 1) := by decide +kernel
theorem dX5_readClaim_80 : decode cX5_readClaim 80 = .ok (.getfield 18, 3) := by decide +kernel
theorem dX5_readClaim_83 : decode cX5_readClaim 83 = .ok (.iconst 1, 1) := by decide +kernel
theorem dX5_readClaim_84 : decode cX5_readClaim 84 = .ok (.iadd, 1) := by decide +kernel
theorem dX5_readClaim_85 : decode cX5_readClaim 85 = .ok (.putfield 18, 3) := by decide +kernel
theorem dX5_readClaim_88 : decode cX5_readClaim 88 = .ok (.aload_n 0, 1) := by decide +kernel
theorem dX5_readClaim_89 : decode cX5_readClaim 89 = .ok (.invokevirtual 151, 3) := by decide +kernel
theorem dX5_readClaim_92 : decode cX5_readClaim 92 = .ok (.ifCond .ne 5, 3) := by decide +kernel
theorem dX5_readClaim_95 : decode cX5_readClaim 95 = .ok (.iconst 0, 1) := by decide +kernel
theorem dX5_readClaim_96 : decode cX5_readClaim 96 = .ok (.ireturn, 1) := by decide +kernel
theorem dX5_readClaim_97 : decode cX5_readClaim 97 = .ok (.aload_n 0, 1) := by decide +kernel
theorem dX5_readClaim_98 : decode cX5_readClaim 98 = .ok (.iload_n 3, 1) := by decide +kernel
theorem dX5_readClaim_99 : decode cX5_readClaim 99 = .ok (.iconst 0, 1) := by decide +kernel
theorem dX5_readClaim_100 : decode cX5_readClaim 100 = .ok (.invokevirtual 147, 3) := by decide +kernel
theorem dX5_readClaim_103 : decode cX5_readClaim 103 = .ok (.iconst 1, 1) := by decide +kernel
theorem dX5_readClaim_104 : decode cX5_readClaim 104 = .ok (.ireturn, 1) := by decide +kernel
theorem dX5_readCondition_0 : decode cX5_readCondition 0 = .ok (.aload_n 0, 1) := by decide +kernel
theorem dX5_readCondition_1 : decode cX5_readCondition 1 = .ok (.iconst 0, 1) := by decide +kernel
theorem dX5_readCondition_2 : decode cX5_readCondition 2 = .ok (.invokevirtual 112, 3) := by decide +kernel
theorem dX5_readCondition_5 : decode cX5_readCondition 5 = .ok (.ifCond .eq 14, 3) := by decide +kernel
theorem dX5_readCondition_8 : decode cX5_readCondition 8 = .ok (.aload_n 0, 1) := by decide +kernel
theorem dX5_readCondition_9 : decode cX5_readCondition 9 = .ok (.invokevirtual 155, 3) := by decide +kernel
theorem dX5_readCondition_12 : decode cX5_readCondition 12 = .ok (.ifCond .eq 7, 3) := by decide +kernel
theorem dX5_readCondition_15 : decode cX5_readCondition 15 = .ok (.iconst 1, 1) := by decide +kernel
theorem dX5_readCondition_16 : decode cX5_readCondition 16 = .ok (.goto 4, 3) := by decide +kernel
theorem dX5_readCondition_19 : decode cX5_readCondition 19 = .ok (.iconst 0, 1) := by decide +kernel
theorem dX5_readCondition_20 : decode cX5_readCondition 20 = .ok (.ireturn, 1) := by decide +kernel
theorem dX5_readEither_0 : decode cX5_readEither 0 = .ok (.aload_n 0, 1) := by decide +kernel
theorem dX5_readEither_1 : decode cX5_readEither 1 = .ok (.iload_n 1, 1) := by decide +kernel
theorem dX5_readEither_2 : decode cX5_readEither 2 = .ok (.invokevirtual 158, 3) := by decide +kernel
theorem dX5_readEither_5 : decode cX5_readEither 5 = .ok (.ifCond .ne 5, 3) := by decide +kernel
theorem dX5_readEither_8 : decode cX5_readEither 8 = .ok (.iconst 0, 1) := by decide +kernel
theorem dX5_readEither_9 : decode cX5_readEither 9 = .ok (.ireturn, 1) := by decide +kernel
theorem dX5_readEither_10 : decode cX5_readEither 10 = .ok (.iconst 0, 1) := by decide +kernel
theorem dX5_readEither_11 : decode cX5_readEither 11 = .ok (.istore_n 2, 1) := by decide +kernel
theorem dX5_readEither_12 : decode cX5_readEither 12 = .ok (.iconst 0, 1) := by decide +kernel
theorem dX5_readEither_13 : decode cX5_readEither 13 = .ok (.istore_n 3, 1) := by decide +kernel
theorem dX5_readEither_14 : decode cX5_readEither 14 = .ok (.iload_n 3, 1) := by decide +kernel
theorem dX5_readEither_15 : decode cX5_readEither 15 = .ok (.aload_n 0, 1) := by decide +kernel
theorem dX5_readEither_16 : decode cX5_readEither 16 = .ok (.getfield 12, 3) := by decide +kernel
theorem dX5_readEither_19 : decode cX5_readEither 19 = .ok (.getfield 56, 3) := by decide +kernel
theorem dX5_readEither_22 : decode cX5_readEither 22 = .ok (.if_icmp .ge 106, 3) := by decide +kernel
theorem dX5_readEither_25 : decode cX5_readEither 25 = .ok (.aload_n 0, 1) := by decide +kernel
theorem dX5_readEither_26 : decode cX5_readEither 26 = .ok (.invokevirtual 66, 3) := by decide +kernel
theorem dX5_readEither_29 : decode cX5_readEither 29 = .ok (.bipush 16, 2) := by decide +kernel
theorem dX5_readEither_31 : decode cX5_readEither 31 = .ok (.if_icmp .eq 12, 3) := by decide +kernel
theorem dX5_readEither_34 : decode cX5_readEither 34 = .ok (.aload_n 0, 1) := by decide +kernel
theorem dX5_readEither_35 : decode cX5_readEither 35 = .ok (.invokevirtual 66, 3) := by decide +kernel
theorem dX5_readEither_38 : decode cX5_readEither 38 = .ok (.bipush 15, 2) := by decide +kernel
theorem dX5_readEither_40 : decode cX5_readEither 40 = .ok (.if_icmp .ne 88, 3) := by decide +kernel
theorem dX5_readEither_43 : decode cX5_readEither 43 = .ok (.aload_n 0, 1) := by decide +kernel
theorem dX5_readEither_44 : decode cX5_readEither 44 = .ok (.invokevirtual 66, 3) := by decide +kernel
theorem dX5_readEither_47 : decode cX5_readEither 47 = .ok (.bipush 16, 2) := by decide +kernel
theorem dX5_readEither_49 : decode cX5_readEither 49 = .ok (.if_icmp .ne 7, 3) := by decide +kernel
theorem dX5_readEither_52 : decode cX5_readEither 52 = .ok (.iconst 1, 1) := by decide +kernel
theorem dX5_readEither_53 : decode cX5_readEither 53 = .ok (.goto 4, 3) := by decide +kernel
theorem dX5_readEither_56 : decode cX5_readEither 56 = .ok (.iconst 0, 1) := by decide +kernel
theorem dX5_readEither_57 : decode cX5_readEither 57 = .ok (.istore 4, 2) := by decide +kernel
theorem dX5_readEither_59 : decode cX5_readEither 59 = .ok (.aload_n 0, 1) := by decide +kernel
theorem dX5_readEither_60 : decode cX5_readEither 60 = .ok (.dup, 1) := by decide +kernel
theorem dX5_readEither_61 : decode cX5_readEither 61 = .ok (.getfield 18, 3) := by decide +kernel
theorem dX5_readEither_64 : decode cX5_readEither 64 = .ok (.iconst 1, 1) := by decide +kernel
theorem dX5_readEither_65 : decode cX5_readEither 65 = .ok (.iadd, 1) := by decide +kernel
theorem dX5_readEither_66 : decode cX5_readEither 66 = .ok (.putfield 18, 3) := by decide +kernel
theorem dX5_readEither_69 : decode cX5_readEither 69 = .ok (.iload 4, 2) := by decide +kernel
theorem dX5_readEither_71 : decode cX5_readEither 71 = .ok (.ifCond .ne 14, 3) := by decide +kernel
theorem dX5_readEither_74 : decode cX5_readEither 74 = .ok (.iload_n 2, 1) := by decide +kernel
theorem dX5_readEither_75 : decode cX5_readEither 75 = .ok (.ifCond .eq 10, 3) := by decide +kernel
theorem dX5_readEither_78 : decode cX5_readEither 78 = .ok (.aload_n 0, 1) := by decide +kernel
theorem dX5_readEither_79 : decode cX5_readEither 79 = .ok (.bipush 15, 2) := by decide +kernel
theorem dX5_readEither_81 : decode cX5_readEither 81 = .ok (.iconst 0, 1) := by decide +kernel
theorem dX5_readEither_82 : decode cX5_readEither 82 = .ok (.invokevirtual 147, 3) := by decide +kernel
theorem dX5_readEither_85 : decode cX5_readEither 85 = .ok (.iload_n 2, 1) := by decide +kernel
theorem dX5_readEither_86 : decode cX5_readEither 86 = .ok (.ifCond .ne 8, 3) := by decide +kernel
theorem dX5_readEither_89 : decode cX5_readEither 89 = .ok (.iload 4, 2) := by decide +kernel
theorem dX5_readEither_91 : decode cX5_readEither 91 = .ok (.ifCond .ne 7, 3) := by decide +kernel
theorem dX5_readEither_94 : decode cX5_readEither 94 = .ok (.iconst 1, 1) := by decide +kernel
theorem dX5_readEither_95 : decode cX5_readEither 95 = .ok (.goto 4, 3) := by decide +kernel
theorem dX5_readEither_98 : decode cX5_readEither 98 = .ok (.iconst 0, 1) := by decide +kernel
theorem dX5_readEither_99 : decode cX5_readEither 99 = .ok (.istore_n 2, 1) := by decide +kernel
theorem dX5_readEither_100 : decode cX5_readEither 100 = .ok (.aload_n 0, 1) := by decide +kernel
theorem dX5_readEither_101 : decode cX5_readEither 101 = .ok (.iload_n 1, 1) := by decide +kernel
theorem dX5_readEither_102 : decode cX5_readEither 102 = .ok (.invokevirtual 158, 3) := by decide +kernel
theorem dX5_readEither_105 : decode cX5_readEither 105 = .ok (.ifCond .ne 5, 3) := by decide +kernel
theorem dX5_readEither_108 : decode cX5_readEither 108 = .ok (.iconst 0, 1) := by decide +kernel
theorem dX5_readEither_109 : decode cX5_readEither 109 = .ok (.ireturn, 1) := by decide +kernel
theorem dX5_readEither_110 : decode cX5_readEither 110 = .ok (.iload 4, 2) := by decide +kernel
theorem dX5_readEither_112 : decode cX5_readEither 112 = .ok (.ifCond .eq 10, 3) := by decide +kernel
theorem dX5_readEither_115 : decode cX5_readEither 115 = .ok (.aload_n 0, 1) := by decide +kernel
theorem dX5_readEither_116 : decode cX5_readEither 116 = .ok (.bipush 16, 2) := by decide +kernel
theorem dX5_readEither_118 : decode cX5_readEither 118 = .ok (.iconst 0, 1) := by decide +kernel
theorem dX5_readEither_119 : decode cX5_readEither 119 = .ok (.invokevirtual 147, 3) := by decide +kernel
theorem dX5_readEither_122 : decode cX5_readEither 122 = .ok (.iinc 3 1, 3) := by decide +kernel
theorem dX5_readEither_125 : decode cX5_readEither 125 = .ok (.goto (-111), 3) := by decide +kernel
theorem dX5_readEither_128 : decode cX5_readEither 128 = .ok (.iload_n 2, 1) := by decide +kernel
theorem dX5_readEither_129 : decode cX5_readEither 129 = .ok (.ifCond .eq 10, 3) := by decide +kernel
theorem dX5_readEither_132 : decode cX5_readEither 132 = .ok (.aload_n 0, 1) := by decide +kernel
theorem dX5_readEither_133 : decode cX5_readEither 133 = .ok (.bipush 15, 2) := by decide +kernel
theorem dX5_readEither_135 : decode cX5_readEither 135 = .ok (.iconst 0, 1) := by decide +kernel
theorem dX5_readEither_136 : decode cX5_readEither 136 = .ok (.invokevirtual 147, 3) := by decide +kernel
theorem dX5_readEither_139 : decode cX5_readEither 139 = .ok (.iconst 1, 1) := by decide +kernel
theorem dX5_readEither_140 : decode cX5_readEither 140 = .ok (.ireturn, 1) := by decide +kernel
theorem dX5_readOperand_0 : decode cX5_readOperand 0 = .ok (.aload_n 0, 1) := by decide +kernel
theorem dX5_readOperand_1 : decode cX5_readOperand 1 = .ok (.invokevirtual 66, 3) := by decide +kernel
theorem dX5_readOperand_4 : decode cX5_readOperand 4 = .ok (.istore_n 1, 1) := by decide +kernel
theorem dX5_readOperand_5 : decode cX5_readOperand 5 = .ok (.iconst 0, 1) := by decide +kernel
theorem dX5_readOperand_6 : decode cX5_readOperand 6 = .ok (.istore_n 2, 1) := by decide +kernel
theorem dX5_readOperand_7 : decode cX5_readOperand 7 = .ok (.iload_n 1, 1) := by decide +kernel
theorem dX5_readOperand_8 : decode cX5_readOperand 8 = .ok (.tableswitch 162 2 20 #[92, 162, 162, 162, 162, 124, 143, 162, 162, 143, 162, 162, 111, 162, 162, 162, 143, 124, 124], 92) := by decide +kernel
theorem dX5_readOperand_100 : decode cX5_readOperand 100 = .ok (.aload_n 0, 1) := by decide +kernel
theorem dX5_readOperand_101 : decode cX5_readOperand 101 = .ok (.invokevirtual 90, 3) := by decide +kernel
theorem dX5_readOperand_104 : decode cX5_readOperand 104 = .ok (.l2i, 1) := by decide +kernel
theorem dX5_readOperand_105 : decode cX5_readOperand 105 = .ok (.istore_n 2, 1) := by decide +kernel
theorem dX5_readOperand_106 : decode cX5_readOperand 106 = .ok (.aload_n 0, 1) := by decide +kernel
theorem dX5_readOperand_107 : decode cX5_readOperand 107 = .ok (.dup, 1) := by decide +kernel
theorem dX5_readOperand_108 : decode cX5_readOperand 108 = .ok (.getfield 18, 3) := by decide +kernel
theorem dX5_readOperand_111 : decode cX5_readOperand 111 = .ok (.iconst 1, 1) := by decide +kernel
theorem dX5_readOperand_112 : decode cX5_readOperand 112 = .ok (.iadd, 1) := by decide +kernel
theorem dX5_readOperand_113 : decode cX5_readOperand 113 = .ok (.putfield 18, 3) := by decide +kernel
theorem dX5_readOperand_116 : decode cX5_readOperand 116 = .ok (.goto 60, 3) := by decide +kernel
theorem dX5_readOperand_119 : decode cX5_readOperand 119 = .ok (.aload_n 0, 1) := by decide +kernel
theorem dX5_readOperand_120 : decode cX5_readOperand 120 = .ok (.dup, 1) := by decide +kernel
theorem dX5_readOperand_121 : decode cX5_readOperand 121 = .ok (.getfield 18, 3) := by decide +kernel
theorem dX5_readOperand_124 : decode cX5_readOperand 124 = .ok (.iconst 1, 1) := by decide +kernel
theorem dX5_readOperand_125 : decode cX5_readOperand 125 = .ok (.iadd, 1) := by decide +kernel
theorem dX5_readOperand_126 : decode cX5_readOperand 126 = .ok (.putfield 18, 3) := by decide +kernel
theorem dX5_readOperand_129 : decode cX5_readOperand 129 = .ok (.goto 47, 3) := by decide +kernel
theorem dX5_readOperand_132 : decode cX5_readOperand 132 = .ok (.aload_n 0, 1) := by decide +kernel
theorem dX5_readOperand_133 : decode cX5_readOperand 133 = .ok (.dup, 1) := by decide +kernel
theorem dX5_readOperand_134 : decode cX5_readOperand 134 = .ok (.getfield 18, 3) := by decide +kernel
theorem dX5_readOperand_137 : decode cX5_readOperand 137 = .ok (.iconst 1, 1) := by decide +kernel
theorem dX5_readOperand_138 : decode cX5_readOperand 138 = .ok (.iadd, 1) := by decide +kernel
theorem dX5_readOperand_139 : decode cX5_readOperand 139 = .ok (.putfield 18, 3) := by decide +kernel
theorem dX5_readOperand_142 : decode cX5_readOperand 142 = .ok (.aload_n 0, 1) := by decide +kernel
theorem dX5_readOperand_143 : decode cX5_readOperand 143 = .ok (.iconst 1, 1) := by decide +kernel
theorem dX5_readOperand_144 : decode cX5_readOperand 144 = .ok (.invokevirtual 144, 3) := by decide +kernel
theorem dX5_readOperand_147 : decode cX5_readOperand 147 = .ok (.istore_n 2, 1) := by decide +kernel
theorem dX5_readOperand_148 : decode cX5_readOperand 148 = .ok (.goto 28, 3) := by decide +kernel
theorem dX5_readOperand_151 : decode cX5_readOperand 151 = .ok (.aload_n 0, 1) := by decide +kernel
theorem dX5_readOperand_152 : decode cX5_readOperand 152 = .ok (.dup, 1) := by decide +kernel
theorem dX5_readOperand_153 : decode cX5_readOperand 153 = .ok (.getfield 18, 3) := by decide +kernel
theorem dX5_readOperand_156 : decode cX5_readOperand 156 = .ok (.iconst 1, 1) := by decide +kernel
theorem dX5_readOperand_157 : decode cX5_readOperand 157 = .ok (.iadd, 1) := by decide +kernel
theorem dX5_readOperand_158 : decode cX5_readOperand 158 = .ok (.putfield 18, 3) := by decide +kernel
theorem dX5_readOperand_161 : decode cX5_readOperand 161 = .ok (.aload_n 0, 1) := by decide +kernel
theorem dX5_readOperand_162 : decode cX5_readOperand 162 = .ok (.iconst 2, 1) := by decide +kernel
theorem dX5_readOperand_163 : decode cX5_readOperand 163 = .ok (.invokevirtual 144, 3) := by decide +kernel
theorem dX5_readOperand_166 : decode cX5_readOperand 166 = .ok (.istore_n 2, 1) := by decide +kernel
theorem dX5_readOperand_167 : decode cX5_readOperand 167 = .ok (.goto 9, 3) := by decide +kernel
theorem dX5_readOperand_170 : decode cX5_readOperand 170 = .ok (.aload_n 0, 1) := by decide +kernel
theorem dX5_readOperand_171 : decode cX5_readOperand 171 = .ok (.iconst 1, 1) := by decide +kernel
theorem dX5_readOperand_172 : decode cX5_readOperand 172 = .ok (.invokevirtual 70, 3) := by decide +kernel
theorem dX5_readOperand_175 : decode cX5_readOperand 175 = .ok (.ireturn, 1) := by decide +kernel
theorem dX5_readOperand_176 : decode cX5_readOperand 176 = .ok (.iload_n 2, 1) := by decide +kernel
theorem dX5_readOperand_177 : decode cX5_readOperand 177 = .ok (.iconst (-1), 1) := by decide +kernel
theorem dX5_readOperand_178 : decode cX5_readOperand 178 = .ok (.if_icmp .ne 5, 3) := by decide +kernel
theorem dX5_readOperand_181 : decode cX5_readOperand 181 = .ok (.iconst 0, 1) := by decide +kernel
theorem dX5_readOperand_182 : decode cX5_readOperand 182 = .ok (.ireturn, 1) := by decide +kernel
theorem dX5_readOperand_183 : decode cX5_readOperand 183 = .ok (.aload_n 0, 1) := by decide +kernel
theorem dX5_readOperand_184 : decode cX5_readOperand 184 = .ok (.aload_n 0, 1) := by decide +kernel
theorem dX5_readOperand_185 : decode cX5_readOperand 185 = .ok (.getfield 33, 3) := by decide +kernel
theorem dX5_readOperand_188 : decode cX5_readOperand 188 = .ok (.ifCond .ne 9, 3) := by decide +kernel
theorem dX5_readOperand_191 : decode cX5_readOperand 191 = .ok (.iload_n 1, 1) := by decide +kernel
theorem dX5_readOperand_192 : decode cX5_readOperand 192 = .ok (.bipush 19, 2) := by decide +kernel
theorem dX5_readOperand_194 : decode cX5_readOperand 194 = .ok (.if_icmp .ne 7, 3) := by decide +kernel
theorem dX5_readOperand_197 : decode cX5_readOperand 197 = .ok (.iconst 1, 1) := by decide +kernel
theorem dX5_readOperand_198 : decode cX5_readOperand 198 = .ok (.goto 4, 3) := by decide +kernel
theorem dX5_readOperand_201 : decode cX5_readOperand 201 = .ok (.iconst 0, 1) := by decide +kernel
theorem dX5_readOperand_202 : decode cX5_readOperand 202 = .ok (.putfield 33, 3) := by decide +kernel
theorem dX5_readOperand_205 : decode cX5_readOperand 205 = .ok (.aload_n 0, 1) := by decide +kernel
theorem dX5_readOperand_206 : decode cX5_readOperand 206 = .ok (.iload_n 1, 1) := by decide +kernel
theorem dX5_readOperand_207 : decode cX5_readOperand 207 = .ok (.iload_n 2, 1) := by decide +kernel
theorem dX5_readOperand_208 : decode cX5_readOperand 208 = .ok (.invokevirtual 147, 3) := by decide +kernel
theorem dX5_readOperand_211 : decode cX5_readOperand 211 = .ok (.iconst 1, 1) := by decide +kernel
theorem dX5_readOperand_212 : decode cX5_readOperand 212 = .ok (.ireturn, 1) := by decide +kernel
theorem dX5_readSum_0 : decode cX5_readSum 0 = .ok (.aload_n 0, 1) := by decide +kernel
theorem dX5_readSum_1 : decode cX5_readSum 1 = .ok (.invokevirtual 165, 3) := by decide +kernel
theorem dX5_readSum_4 : decode cX5_readSum 4 = .ok (.ifCond .ne 5, 3) := by decide +kernel
theorem dX5_readSum_7 : decode cX5_readSum 7 = .ok (.iconst 0, 1) := by decide +kernel
theorem dX5_readSum_8 : decode cX5_readSum 8 = .ok (.ireturn, 1) := by decide +kernel
theorem dX5_readSum_9 : decode cX5_readSum 9 = .ok (.iconst (-1), 1) := by decide +kernel
theorem dX5_readSum_10 : decode cX5_readSum 10 = .ok (.istore_n 1, 1) := by decide +kernel
theorem dX5_readSum_11 : decode cX5_readSum 11 = .ok (.iconst 0, 1) := by decide +kernel
theorem dX5_readSum_12 : decode cX5_readSum 12 = .ok (.istore_n 2, 1) := by decide +kernel
theorem dX5_readSum_13 : decode cX5_readSum 13 = .ok (.iload_n 2, 1) := by decide +kernel
theorem dX5_readSum_14 : decode cX5_readSum 14 = .ok (.aload_n 0, 1) := by decide +kernel
theorem dX5_readSum_15 : decode cX5_readSum 15 = .ok (.getfield 12, 3) := by decide +kernel
theorem dX5_readSum_18 : decode cX5_readSum 18 = .ok (.getfield 56, 3) := by decide +kernel
theorem dX5_readSum_21 : decode cX5_readSum 21 = .ok (.if_icmp .ge 86, 3) := by decide +kernel
theorem dX5_readSum_24 : decode cX5_readSum 24 = .ok (.aload_n 0, 1) := by decide +kernel
theorem dX5_readSum_25 : decode cX5_readSum 25 = .ok (.invokevirtual 66, 3) := by decide +kernel
theorem dX5_readSum_28 : decode cX5_readSum 28 = .ok (.istore_n 3, 1) := by decide +kernel
theorem dX5_readSum_29 : decode cX5_readSum 29 = .ok (.iload_n 3, 1) := by decide +kernel
theorem dX5_readSum_30 : decode cX5_readSum 30 = .ok (.bipush 24, 2) := by decide +kernel
theorem dX5_readSum_32 : decode cX5_readSum 32 = .ok (.if_icmp .eq 18, 3) := by decide +kernel
theorem dX5_readSum_35 : decode cX5_readSum 35 = .ok (.iload_n 3, 1) := by decide +kernel
theorem dX5_readSum_36 : decode cX5_readSum 36 = .ok (.bipush 25, 2) := by decide +kernel
theorem dX5_readSum_38 : decode cX5_readSum 38 = .ok (.if_icmp .eq 12, 3) := by decide +kernel
theorem dX5_readSum_41 : decode cX5_readSum 41 = .ok (.iload_n 3, 1) := by decide +kernel
theorem dX5_readSum_42 : decode cX5_readSum 42 = .ok (.bipush 26, 2) := by decide +kernel
theorem dX5_readSum_44 : decode cX5_readSum 44 = .ok (.if_icmp .eq 6, 3) := by decide +kernel
theorem dX5_readSum_47 : decode cX5_readSum 47 = .ok (.goto 60, 3) := by decide +kernel
theorem dX5_readSum_50 : decode cX5_readSum 50 = .ok (.aload_n 0, 1) := by decide +kernel
theorem dX5_readSum_51 : decode cX5_readSum 51 = .ok (.dup, 1) := by decide +kernel
theorem dX5_readSum_52 : decode cX5_readSum 52 = .ok (.getfield 18, 3) := by decide +kernel
theorem dX5_readSum_55 : decode cX5_readSum 55 = .ok (.iconst 1, 1) := by decide +kernel
theorem dX5_readSum_56 : decode cX5_readSum 56 = .ok (.iadd, 1) := by decide +kernel
theorem dX5_readSum_57 : decode cX5_readSum 57 = .ok (.putfield 18, 3) := by decide +kernel
theorem dX5_readSum_60 : decode cX5_readSum 60 = .ok (.iload_n 3, 1) := by decide +kernel
theorem dX5_readSum_61 : decode cX5_readSum 61 = .ok (.bipush 26, 2) := by decide +kernel
theorem dX5_readSum_63 : decode cX5_readSum 63 = .ok (.if_icmp .eq 16, 3) := by decide +kernel
theorem dX5_readSum_66 : decode cX5_readSum 66 = .ok (.iload_n 1, 1) := by decide +kernel
theorem dX5_readSum_67 : decode cX5_readSum 67 = .ok (.iconst (-1), 1) := by decide +kernel
theorem dX5_readSum_68 : decode cX5_readSum 68 = .ok (.if_icmp .eq 9, 3) := by decide +kernel
theorem dX5_readSum_71 : decode cX5_readSum 71 = .ok (.aload_n 0, 1) := by decide +kernel
theorem dX5_readSum_72 : decode cX5_readSum 72 = .ok (.iload_n 1, 1) := by decide +kernel
theorem dX5_readSum_73 : decode cX5_readSum 73 = .ok (.iconst 0, 1) := by decide +kernel
theorem dX5_readSum_74 : decode cX5_readSum 74 = .ok (.invokevirtual 147, 3) := by decide +kernel
theorem dX5_readSum_77 : decode cX5_readSum 77 = .ok (.iload_n 3, 1) := by decide +kernel
theorem dX5_readSum_78 : decode cX5_readSum 78 = .ok (.istore_n 1, 1) := by decide +kernel
theorem dX5_readSum_79 : decode cX5_readSum 79 = .ok (.aload_n 0, 1) := by decide +kernel
theorem dX5_readSum_80 : decode cX5_readSum 80 = .ok (.invokevirtual 165, 3) := by decide +kernel
theorem dX5_readSum_83 : decode cX5_readSum 83 = .ok (.ifCond .ne 5, 3) := by decide +kernel
theorem dX5_readSum_86 : decode cX5_readSum 86 = .ok (.iconst 0, 1) := by decide +kernel
theorem dX5_readSum_87 : decode cX5_readSum 87 = .ok (.ireturn, 1) := by decide +kernel
theorem dX5_readSum_88 : decode cX5_readSum 88 = .ok (.iload_n 3, 1) := by decide +kernel
theorem dX5_readSum_89 : decode cX5_readSum 89 = .ok (.bipush 26, 2) := by decide +kernel
theorem dX5_readSum_91 : decode cX5_readSum 91 = .ok (.if_icmp .ne 10, 3) := by decide +kernel
theorem dX5_readSum_94 : decode cX5_readSum 94 = .ok (.aload_n 0, 1) := by decide +kernel
theorem dX5_readSum_95 : decode cX5_readSum 95 = .ok (.bipush 26, 2) := by decide +kernel
theorem dX5_readSum_97 : decode cX5_readSum 97 = .ok (.iconst 0, 1) := by decide +kernel
theorem dX5_readSum_98 : decode cX5_readSum 98 = .ok (.invokevirtual 147, 3) := by decide +kernel
theorem dX5_readSum_101 : decode cX5_readSum 101 = .ok (.iinc 2 1, 3) := by decide +kernel
theorem dX5_readSum_104 : decode cX5_readSum 104 = .ok (.goto (-91), 3) := by decide +kernel
theorem dX5_readSum_107 : decode cX5_readSum 107 = .ok (.iload_n 1, 1) := by decide +kernel
theorem dX5_readSum_108 : decode cX5_readSum 108 = .ok (.iconst (-1), 1) := by decide +kernel
theorem dX5_readSum_109 : decode cX5_readSum 109 = .ok (.if_icmp .eq 9, 3) := by decide +kernel
theorem dX5_readSum_112 : decode cX5_readSum 112 = .ok (.aload_n 0, 1) := by decide +kernel
theorem dX5_readSum_113 : decode cX5_readSum 113 = .ok (.iload_n 1, 1) := by decide +kernel
theorem dX5_readSum_114 : decode cX5_readSum 114 = .ok (.iconst 0, 1) := by decide +kernel
theorem dX5_readSum_115 : decode cX5_readSum 115 = .ok (.invokevirtual 147, 3) := by decide +kernel
theorem dX5_readSum_118 : decode cX5_readSum 118 = .ok (.iconst 1, 1) := by decide +kernel
theorem dX5_readSum_119 : decode cX5_readSum 119 = .ok (.ireturn, 1) := by decide +kernel
theorem dX5_refuse_0 : decode cX5_refuse 0 = .ok (.aload_n 0, 1) := by decide +kernel
theorem dX5_refuse_1 : decode cX5_refuse 1 = .ok (.iload_n 1, 1) := by decide +kernel
theorem dX5_refuse_2 : decode cX5_refuse 2 = .ok (.putfield 43, 3) := by decide +kernel
theorem dX5_refuse_5 : decode cX5_refuse 5 = .ok (.aload_n 0, 1) := by decide +kernel
theorem dX5_refuse_6 : decode cX5_refuse 6 = .ok (.aload_n 0, 1) := by decide +kernel
theorem dX5_refuse_7 : decode cX5_refuse 7 = .ok (.getfield 18, 3) := by decide +kernel
theorem dX5_refuse_10 : decode cX5_refuse 10 = .ok (.aload_n 0, 1) := by decide +kernel
theorem dX5_refuse_11 : decode cX5_refuse 11 = .ok (.getfield 12, 3) := by decide +kernel
theorem dX5_refuse_14 : decode cX5_refuse 14 = .ok (.getfield 56, 3) := by decide +kernel
theorem dX5_refuse_17 : decode cX5_refuse 17 = .ok (.if_icmp .ge 18, 3) := by decide +kernel
theorem dX5_refuse_20 : decode cX5_refuse 20 = .ok (.aload_n 0, 1) := by decide +kernel
theorem dX5_refuse_21 : decode cX5_refuse 21 = .ok (.getfield 12, 3) := by decide +kernel
theorem dX5_refuse_24 : decode cX5_refuse 24 = .ok (.getfield 168, 3) := by decide +kernel
theorem dX5_refuse_27 : decode cX5_refuse 27 = .ok (.aload_n 0, 1) := by decide +kernel
theorem dX5_refuse_28 : decode cX5_refuse 28 = .ok (.getfield 18, 3) := by decide +kernel
theorem dX5_refuse_31 : decode cX5_refuse 31 = .ok (.iaload, 1) := by decide +kernel
theorem dX5_refuse_32 : decode cX5_refuse 32 = .ok (.goto 4, 3) := by decide +kernel
theorem dX5_refuse_35 : decode cX5_refuse 35 = .ok (.iconst (-1), 1) := by decide +kernel
theorem dX5_refuse_36 : decode cX5_refuse 36 = .ok (.putfield 46, 3) := by decide +kernel
theorem dX5_refuse_39 : decode cX5_refuse 39 = .ok (.iconst 0, 1) := by decide +kernel
theorem dX5_refuse_40 : decode cX5_refuse 40 = .ok (.ireturn, 1) := by decide +kernel
set_option maxHeartbeats 4000000 in
set_option maxRecDepth 100000 in
theorem c_X11_feedFour {l : Launch} {D : va_G} {cy : Nat → ClassId} {T0 tB tE : Nat} {a : Nat → Nat} {rw : Nat → Option Nat} (S : GS) (p0 : Int32) (h_i_0 : fi S 0 = 0) : Ct l D cy T0 tB tE yX11_feedFour cX11_feedFour 3 none 0 0 0 0 (cw cy tE a rw S) [.ref (a 0), .int p0] (QV D (U := GS) (fun u => si (su (si (su (si (su (si (su S 0 0 (((p0).toUInt32 >>> ((24 : Int32).toUInt32 &&& Int32.toUInt32 31)).toInt32 &&& 255)) 0 1) 0 1 (((p0).toUInt32 >>> ((16 : Int32).toUInt32 &&& Int32.toUInt32 31)).toInt32 &&& 255)) 0 2) 0 2 (((p0).toUInt32 >>> ((8 : Int32).toUInt32 &&& Int32.toUInt32 31)).toInt32 &&& 255)) 0 3) 0 3 (((p0).toUInt32 >>> ((0 : Int32).toUInt32 &&& Int32.toUInt32 31)).toInt32 &&& 255)) 0 4 = u) (cw cy tE a rw)) := by
  refine Ct.ofZ RX11 "feedFour" [(0, .ref (a 0)), (1, .int p0)] rfl rfl rfl rfl (Nat.le_of_ble_eq_true rfl) ?_
  intro p e R s m args below meth c A b
  refine z_bipush (v := 24) b dX11_feedFour_0 (by decide) ?_
  refine z_istore_n (lv' := [(2, .int 24), (0, .ref (a 0)), (1, .int p0)]) b dX11_feedFour_2 rfl (by decide) rfl ?_
  refine z_iload_n b dX11_feedFour_3 rfl rfl ?_
  refine z_if_lt_f (tgt := 51) b dX11_feedFour_4 (by decide) (by decide) ?_
  refine z_aload_n b dX11_feedFour_7 rfl rfl ?_
  refine z_get (q0 := 0) (k9 := 1) (v := .int (fi S 0)) b (cw_0 cy tE a rw S) rfl in_X11 (by decide) wf_X11_13 rfl dX11_feedFour_8 ?_
  refine z_eqi h_i_0 ?_
  refine z_aload_n b dX11_feedFour_11 rfl rfl ?_
  refine z_get (q0 := 0) (k9 := 0) (v := .ref (a 1)) b (cw_0 cy tE a rw S) rfl in_X11 (by decide) wf_X11_9 rfl dX11_feedFour_12 ?_
  refine z_alen (q0 := 1) (t0 := 0) (v := 700) b (cw_1 cy tE a rw S) rfl rfl dX11_feedFour_15 ?_
  refine z_icmp_ge_f (tgt := 45) b dX11_feedFour_16 (by decide) (by decide) ?_
  refine z_aload_n b dX11_feedFour_19 rfl rfl ?_
  refine z_get (q0 := 0) (k9 := 0) (v := .ref (a 1)) b (cw_0 cy tE a rw S) rfl in_X11 (by decide) wf_X11_9 rfl dX11_feedFour_20 ?_
  refine z_aload_n b dX11_feedFour_23 rfl rfl ?_
  refine z_get (q0 := 0) (k9 := 1) (v := .int (fi S 0)) b (cw_0 cy tE a rw S) rfl in_X11 (by decide) wf_X11_13 rfl dX11_feedFour_24 ?_
  refine z_eqi h_i_0 ?_
  refine z_iload_n b dX11_feedFour_27 rfl rfl ?_
  refine z_iload_n b dX11_feedFour_28 rfl rfl ?_
  refine z_iushr b dX11_feedFour_29 rfl ?_
  refine z_sipush (v := 255) b dX11_feedFour_30 (by decide) ?_
  refine z_iand b dX11_feedFour_33 rfl ?_
  refine y_iast (q0 := 1) (j := 0) b (cw_1 cy tE a rw S) (by decide) dX11_feedFour_34 (cwa_1 cy tE a rw S 0 (((p0).toUInt32 >>> ((24 : Int32).toUInt32 &&& Int32.toUInt32 31)).toInt32 &&& 255)) ?_
  refine z_aload_n b dX11_feedFour_35 rfl rfl ?_
  refine z_dup b dX11_feedFour_36 rfl ?_
  refine z_get (q0 := 0) (k9 := 1) (v := .int (fi (su S 0 0 (((p0).toUInt32 >>> ((24 : Int32).toUInt32 &&& Int32.toUInt32 31)).toInt32 &&& 255)) 0)) b (cw_0 cy tE a rw (su S 0 0 (((p0).toUInt32 >>> ((24 : Int32).toUInt32 &&& Int32.toUInt32 31)).toInt32 &&& 255))) rfl in_X11 (by decide) wf_X11_13 rfl dX11_feedFour_37 ?_
  refine z_eqi h_i_0 ?_
  refine z_iconst (v := 1) b dX11_feedFour_40 (by decide) ?_
  refine z_iadd (v := 1) b dX11_feedFour_41 (by decide) ?_
  refine z_put (q0 := 0) (k9 := 1) tyX11 b (cw_0 cy tE a rw (su S 0 0 (((p0).toUInt32 >>> ((24 : Int32).toUInt32 &&& Int32.toUInt32 31)).toInt32 &&& 255))) rfl in_X11 tyX11_ok nmX11 (by decide) wf_X11_13 rfl rfl rfl rfl (Nat.le_of_ble_eq_true rfl) dX11_feedFour_42 (cwp_0_1 cy tE a rw (su S 0 0 (((p0).toUInt32 >>> ((24 : Int32).toUInt32 &&& Int32.toUInt32 31)).toInt32 &&& 255)) 1) ?_
  refine z_iinc (k9 := 0) (v := 16) (lv' := [(2, .int 16), (0, .ref (a 0)), (1, .int p0)]) b dX11_feedFour_45 rfl (by decide) (by decide) rfl ?_
  refine z_goto (tgt := 3) b dX11_feedFour_48 (by decide) ?_
  refine z_iload_n b dX11_feedFour_3 rfl rfl ?_
  refine z_if_lt_f (tgt := 51) b dX11_feedFour_4 (by decide) (by decide) ?_
  refine z_aload_n b dX11_feedFour_7 rfl rfl ?_
  refine z_get (q0 := 0) (k9 := 1) (v := .int 1) b (cw_0 cy tE a rw (si (su S 0 0 (((p0).toUInt32 >>> ((24 : Int32).toUInt32 &&& Int32.toUInt32 31)).toInt32 &&& 255)) 0 1)) rfl in_X11 (by decide) wf_X11_13 rfl dX11_feedFour_8 ?_
  refine z_aload_n b dX11_feedFour_11 rfl rfl ?_
  refine z_get (q0 := 0) (k9 := 0) (v := .ref (a 1)) b (cw_0 cy tE a rw (si (su S 0 0 (((p0).toUInt32 >>> ((24 : Int32).toUInt32 &&& Int32.toUInt32 31)).toInt32 &&& 255)) 0 1)) rfl in_X11 (by decide) wf_X11_9 rfl dX11_feedFour_12 ?_
  refine z_alen (q0 := 1) (t0 := 0) (v := 700) b (cw_1 cy tE a rw (si (su S 0 0 (((p0).toUInt32 >>> ((24 : Int32).toUInt32 &&& Int32.toUInt32 31)).toInt32 &&& 255)) 0 1)) rfl rfl dX11_feedFour_15 ?_
  refine z_icmp_ge_f (tgt := 45) b dX11_feedFour_16 (by decide) (by decide) ?_
  refine z_aload_n b dX11_feedFour_19 rfl rfl ?_
  refine z_get (q0 := 0) (k9 := 0) (v := .ref (a 1)) b (cw_0 cy tE a rw (si (su S 0 0 (((p0).toUInt32 >>> ((24 : Int32).toUInt32 &&& Int32.toUInt32 31)).toInt32 &&& 255)) 0 1)) rfl in_X11 (by decide) wf_X11_9 rfl dX11_feedFour_20 ?_
  refine z_aload_n b dX11_feedFour_23 rfl rfl ?_
  refine z_get (q0 := 0) (k9 := 1) (v := .int 1) b (cw_0 cy tE a rw (si (su S 0 0 (((p0).toUInt32 >>> ((24 : Int32).toUInt32 &&& Int32.toUInt32 31)).toInt32 &&& 255)) 0 1)) rfl in_X11 (by decide) wf_X11_13 rfl dX11_feedFour_24 ?_
  refine z_iload_n b dX11_feedFour_27 rfl rfl ?_
  refine z_iload_n b dX11_feedFour_28 rfl rfl ?_
  refine z_iushr b dX11_feedFour_29 rfl ?_
  refine z_sipush (v := 255) b dX11_feedFour_30 (by decide) ?_
  refine z_iand b dX11_feedFour_33 rfl ?_
  refine y_iast (q0 := 1) (j := 1) b (cw_1 cy tE a rw (si (su S 0 0 (((p0).toUInt32 >>> ((24 : Int32).toUInt32 &&& Int32.toUInt32 31)).toInt32 &&& 255)) 0 1)) (by decide) dX11_feedFour_34 (cwa_1 cy tE a rw (si (su S 0 0 (((p0).toUInt32 >>> ((24 : Int32).toUInt32 &&& Int32.toUInt32 31)).toInt32 &&& 255)) 0 1) 1 (((p0).toUInt32 >>> ((16 : Int32).toUInt32 &&& Int32.toUInt32 31)).toInt32 &&& 255)) ?_
  refine z_aload_n b dX11_feedFour_35 rfl rfl ?_
  refine z_dup b dX11_feedFour_36 rfl ?_
  refine z_get (q0 := 0) (k9 := 1) (v := .int 1) b (cw_0 cy tE a rw (su (si (su S 0 0 (((p0).toUInt32 >>> ((24 : Int32).toUInt32 &&& Int32.toUInt32 31)).toInt32 &&& 255)) 0 1) 0 1 (((p0).toUInt32 >>> ((16 : Int32).toUInt32 &&& Int32.toUInt32 31)).toInt32 &&& 255))) rfl in_X11 (by decide) wf_X11_13 rfl dX11_feedFour_37 ?_
  refine z_iconst (v := 1) b dX11_feedFour_40 (by decide) ?_
  refine z_iadd (v := 2) b dX11_feedFour_41 (by decide) ?_
  refine z_put (q0 := 0) (k9 := 1) tyX11 b (cw_0 cy tE a rw (su (si (su S 0 0 (((p0).toUInt32 >>> ((24 : Int32).toUInt32 &&& Int32.toUInt32 31)).toInt32 &&& 255)) 0 1) 0 1 (((p0).toUInt32 >>> ((16 : Int32).toUInt32 &&& Int32.toUInt32 31)).toInt32 &&& 255))) rfl in_X11 tyX11_ok nmX11 (by decide) wf_X11_13 rfl rfl rfl rfl (Nat.le_of_ble_eq_true rfl) dX11_feedFour_42 (cwp_0_1 cy tE a rw (su (si (su S 0 0 (((p0).toUInt32 >>> ((24 : Int32).toUInt32 &&& Int32.toUInt32 31)).toInt32 &&& 255)) 0 1) 0 1 (((p0).toUInt32 >>> ((16 : Int32).toUInt32 &&& Int32.toUInt32 31)).toInt32 &&& 255)) 2) ?_
  refine z_iinc (k9 := 0) (v := 8) (lv' := [(2, .int 8), (0, .ref (a 0)), (1, .int p0)]) b dX11_feedFour_45 rfl (by decide) (by decide) rfl ?_
  refine z_goto (tgt := 3) b dX11_feedFour_48 (by decide) ?_
  refine z_iload_n b dX11_feedFour_3 rfl rfl ?_
  refine z_if_lt_f (tgt := 51) b dX11_feedFour_4 (by decide) (by decide) ?_
  refine z_aload_n b dX11_feedFour_7 rfl rfl ?_
  refine z_get (q0 := 0) (k9 := 1) (v := .int 2) b (cw_0 cy tE a rw (si (su (si (su S 0 0 (((p0).toUInt32 >>> ((24 : Int32).toUInt32 &&& Int32.toUInt32 31)).toInt32 &&& 255)) 0 1) 0 1 (((p0).toUInt32 >>> ((16 : Int32).toUInt32 &&& Int32.toUInt32 31)).toInt32 &&& 255)) 0 2)) rfl in_X11 (by decide) wf_X11_13 rfl dX11_feedFour_8 ?_
  refine z_aload_n b dX11_feedFour_11 rfl rfl ?_
  refine z_get (q0 := 0) (k9 := 0) (v := .ref (a 1)) b (cw_0 cy tE a rw (si (su (si (su S 0 0 (((p0).toUInt32 >>> ((24 : Int32).toUInt32 &&& Int32.toUInt32 31)).toInt32 &&& 255)) 0 1) 0 1 (((p0).toUInt32 >>> ((16 : Int32).toUInt32 &&& Int32.toUInt32 31)).toInt32 &&& 255)) 0 2)) rfl in_X11 (by decide) wf_X11_9 rfl dX11_feedFour_12 ?_
  refine z_alen (q0 := 1) (t0 := 0) (v := 700) b (cw_1 cy tE a rw (si (su (si (su S 0 0 (((p0).toUInt32 >>> ((24 : Int32).toUInt32 &&& Int32.toUInt32 31)).toInt32 &&& 255)) 0 1) 0 1 (((p0).toUInt32 >>> ((16 : Int32).toUInt32 &&& Int32.toUInt32 31)).toInt32 &&& 255)) 0 2)) rfl rfl dX11_feedFour_15 ?_
  refine z_icmp_ge_f (tgt := 45) b dX11_feedFour_16 (by decide) (by decide) ?_
  refine z_aload_n b dX11_feedFour_19 rfl rfl ?_
  refine z_get (q0 := 0) (k9 := 0) (v := .ref (a 1)) b (cw_0 cy tE a rw (si (su (si (su S 0 0 (((p0).toUInt32 >>> ((24 : Int32).toUInt32 &&& Int32.toUInt32 31)).toInt32 &&& 255)) 0 1) 0 1 (((p0).toUInt32 >>> ((16 : Int32).toUInt32 &&& Int32.toUInt32 31)).toInt32 &&& 255)) 0 2)) rfl in_X11 (by decide) wf_X11_9 rfl dX11_feedFour_20 ?_
  refine z_aload_n b dX11_feedFour_23 rfl rfl ?_
  refine z_get (q0 := 0) (k9 := 1) (v := .int 2) b (cw_0 cy tE a rw (si (su (si (su S 0 0 (((p0).toUInt32 >>> ((24 : Int32).toUInt32 &&& Int32.toUInt32 31)).toInt32 &&& 255)) 0 1) 0 1 (((p0).toUInt32 >>> ((16 : Int32).toUInt32 &&& Int32.toUInt32 31)).toInt32 &&& 255)) 0 2)) rfl in_X11 (by decide) wf_X11_13 rfl dX11_feedFour_24 ?_
  refine z_iload_n b dX11_feedFour_27 rfl rfl ?_
  refine z_iload_n b dX11_feedFour_28 rfl rfl ?_
  refine z_iushr b dX11_feedFour_29 rfl ?_
  refine z_sipush (v := 255) b dX11_feedFour_30 (by decide) ?_
  refine z_iand b dX11_feedFour_33 rfl ?_
  refine y_iast (q0 := 1) (j := 2) b (cw_1 cy tE a rw (si (su (si (su S 0 0 (((p0).toUInt32 >>> ((24 : Int32).toUInt32 &&& Int32.toUInt32 31)).toInt32 &&& 255)) 0 1) 0 1 (((p0).toUInt32 >>> ((16 : Int32).toUInt32 &&& Int32.toUInt32 31)).toInt32 &&& 255)) 0 2)) (by decide) dX11_feedFour_34 (cwa_1 cy tE a rw (si (su (si (su S 0 0 (((p0).toUInt32 >>> ((24 : Int32).toUInt32 &&& Int32.toUInt32 31)).toInt32 &&& 255)) 0 1) 0 1 (((p0).toUInt32 >>> ((16 : Int32).toUInt32 &&& Int32.toUInt32 31)).toInt32 &&& 255)) 0 2) 2 (((p0).toUInt32 >>> ((8 : Int32).toUInt32 &&& Int32.toUInt32 31)).toInt32 &&& 255)) ?_
  refine z_aload_n b dX11_feedFour_35 rfl rfl ?_
  refine z_dup b dX11_feedFour_36 rfl ?_
  refine z_get (q0 := 0) (k9 := 1) (v := .int 2) b (cw_0 cy tE a rw (su (si (su (si (su S 0 0 (((p0).toUInt32 >>> ((24 : Int32).toUInt32 &&& Int32.toUInt32 31)).toInt32 &&& 255)) 0 1) 0 1 (((p0).toUInt32 >>> ((16 : Int32).toUInt32 &&& Int32.toUInt32 31)).toInt32 &&& 255)) 0 2) 0 2 (((p0).toUInt32 >>> ((8 : Int32).toUInt32 &&& Int32.toUInt32 31)).toInt32 &&& 255))) rfl in_X11 (by decide) wf_X11_13 rfl dX11_feedFour_37 ?_
  refine z_iconst (v := 1) b dX11_feedFour_40 (by decide) ?_
  refine z_iadd (v := 3) b dX11_feedFour_41 (by decide) ?_
  refine z_put (q0 := 0) (k9 := 1) tyX11 b (cw_0 cy tE a rw (su (si (su (si (su S 0 0 (((p0).toUInt32 >>> ((24 : Int32).toUInt32 &&& Int32.toUInt32 31)).toInt32 &&& 255)) 0 1) 0 1 (((p0).toUInt32 >>> ((16 : Int32).toUInt32 &&& Int32.toUInt32 31)).toInt32 &&& 255)) 0 2) 0 2 (((p0).toUInt32 >>> ((8 : Int32).toUInt32 &&& Int32.toUInt32 31)).toInt32 &&& 255))) rfl in_X11 tyX11_ok nmX11 (by decide) wf_X11_13 rfl rfl rfl rfl (Nat.le_of_ble_eq_true rfl) dX11_feedFour_42 (cwp_0_1 cy tE a rw (su (si (su (si (su S 0 0 (((p0).toUInt32 >>> ((24 : Int32).toUInt32 &&& Int32.toUInt32 31)).toInt32 &&& 255)) 0 1) 0 1 (((p0).toUInt32 >>> ((16 : Int32).toUInt32 &&& Int32.toUInt32 31)).toInt32 &&& 255)) 0 2) 0 2 (((p0).toUInt32 >>> ((8 : Int32).toUInt32 &&& Int32.toUInt32 31)).toInt32 &&& 255)) 3) ?_
  refine z_iinc (k9 := 0) (v := 0) (lv' := [(2, .int 0), (0, .ref (a 0)), (1, .int p0)]) b dX11_feedFour_45 rfl (by decide) (by decide) rfl ?_
  refine z_goto (tgt := 3) b dX11_feedFour_48 (by decide) ?_
  refine z_iload_n b dX11_feedFour_3 rfl rfl ?_
  refine z_if_lt_f (tgt := 51) b dX11_feedFour_4 (by decide) (by decide) ?_
  refine z_aload_n b dX11_feedFour_7 rfl rfl ?_
  refine z_get (q0 := 0) (k9 := 1) (v := .int 3) b (cw_0 cy tE a rw (si (su (si (su (si (su S 0 0 (((p0).toUInt32 >>> ((24 : Int32).toUInt32 &&& Int32.toUInt32 31)).toInt32 &&& 255)) 0 1) 0 1 (((p0).toUInt32 >>> ((16 : Int32).toUInt32 &&& Int32.toUInt32 31)).toInt32 &&& 255)) 0 2) 0 2 (((p0).toUInt32 >>> ((8 : Int32).toUInt32 &&& Int32.toUInt32 31)).toInt32 &&& 255)) 0 3)) rfl in_X11 (by decide) wf_X11_13 rfl dX11_feedFour_8 ?_
  refine z_aload_n b dX11_feedFour_11 rfl rfl ?_
  refine z_get (q0 := 0) (k9 := 0) (v := .ref (a 1)) b (cw_0 cy tE a rw (si (su (si (su (si (su S 0 0 (((p0).toUInt32 >>> ((24 : Int32).toUInt32 &&& Int32.toUInt32 31)).toInt32 &&& 255)) 0 1) 0 1 (((p0).toUInt32 >>> ((16 : Int32).toUInt32 &&& Int32.toUInt32 31)).toInt32 &&& 255)) 0 2) 0 2 (((p0).toUInt32 >>> ((8 : Int32).toUInt32 &&& Int32.toUInt32 31)).toInt32 &&& 255)) 0 3)) rfl in_X11 (by decide) wf_X11_9 rfl dX11_feedFour_12 ?_
  refine z_alen (q0 := 1) (t0 := 0) (v := 700) b (cw_1 cy tE a rw (si (su (si (su (si (su S 0 0 (((p0).toUInt32 >>> ((24 : Int32).toUInt32 &&& Int32.toUInt32 31)).toInt32 &&& 255)) 0 1) 0 1 (((p0).toUInt32 >>> ((16 : Int32).toUInt32 &&& Int32.toUInt32 31)).toInt32 &&& 255)) 0 2) 0 2 (((p0).toUInt32 >>> ((8 : Int32).toUInt32 &&& Int32.toUInt32 31)).toInt32 &&& 255)) 0 3)) rfl rfl dX11_feedFour_15 ?_
  refine z_icmp_ge_f (tgt := 45) b dX11_feedFour_16 (by decide) (by decide) ?_
  refine z_aload_n b dX11_feedFour_19 rfl rfl ?_
  refine z_get (q0 := 0) (k9 := 0) (v := .ref (a 1)) b (cw_0 cy tE a rw (si (su (si (su (si (su S 0 0 (((p0).toUInt32 >>> ((24 : Int32).toUInt32 &&& Int32.toUInt32 31)).toInt32 &&& 255)) 0 1) 0 1 (((p0).toUInt32 >>> ((16 : Int32).toUInt32 &&& Int32.toUInt32 31)).toInt32 &&& 255)) 0 2) 0 2 (((p0).toUInt32 >>> ((8 : Int32).toUInt32 &&& Int32.toUInt32 31)).toInt32 &&& 255)) 0 3)) rfl in_X11 (by decide) wf_X11_9 rfl dX11_feedFour_20 ?_
  refine z_aload_n b dX11_feedFour_23 rfl rfl ?_
  refine z_get (q0 := 0) (k9 := 1) (v := .int 3) b (cw_0 cy tE a rw (si (su (si (su (si (su S 0 0 (((p0).toUInt32 >>> ((24 : Int32).toUInt32 &&& Int32.toUInt32 31)).toInt32 &&& 255)) 0 1) 0 1 (((p0).toUInt32 >>> ((16 : Int32).toUInt32 &&& Int32.toUInt32 31)).toInt32 &&& 255)) 0 2) 0 2 (((p0).toUInt32 >>> ((8 : Int32).toUInt32 &&& Int32.toUInt32 31)).toInt32 &&& 255)) 0 3)) rfl in_X11 (by decide) wf_X11_13 rfl dX11_feedFour_24 ?_
  refine z_iload_n b dX11_feedFour_27 rfl rfl ?_
  refine z_iload_n b dX11_feedFour_28 rfl rfl ?_
  refine z_iushr b dX11_feedFour_29 rfl ?_
  refine z_sipush (v := 255) b dX11_feedFour_30 (by decide) ?_
  refine z_iand b dX11_feedFour_33 rfl ?_
  refine y_iast (q0 := 1) (j := 3) b (cw_1 cy tE a rw (si (su (si (su (si (su S 0 0 (((p0).toUInt32 >>> ((24 : Int32).toUInt32 &&& Int32.toUInt32 31)).toInt32 &&& 255)) 0 1) 0 1 (((p0).toUInt32 >>> ((16 : Int32).toUInt32 &&& Int32.toUInt32 31)).toInt32 &&& 255)) 0 2) 0 2 (((p0).toUInt32 >>> ((8 : Int32).toUInt32 &&& Int32.toUInt32 31)).toInt32 &&& 255)) 0 3)) (by decide) dX11_feedFour_34 (cwa_1 cy tE a rw (si (su (si (su (si (su S 0 0 (((p0).toUInt32 >>> ((24 : Int32).toUInt32 &&& Int32.toUInt32 31)).toInt32 &&& 255)) 0 1) 0 1 (((p0).toUInt32 >>> ((16 : Int32).toUInt32 &&& Int32.toUInt32 31)).toInt32 &&& 255)) 0 2) 0 2 (((p0).toUInt32 >>> ((8 : Int32).toUInt32 &&& Int32.toUInt32 31)).toInt32 &&& 255)) 0 3) 3 (((p0).toUInt32 >>> ((0 : Int32).toUInt32 &&& Int32.toUInt32 31)).toInt32 &&& 255)) ?_
  refine z_aload_n b dX11_feedFour_35 rfl rfl ?_
  refine z_dup b dX11_feedFour_36 rfl ?_
  refine z_get (q0 := 0) (k9 := 1) (v := .int 3) b (cw_0 cy tE a rw (su (si (su (si (su (si (su S 0 0 (((p0).toUInt32 >>> ((24 : Int32).toUInt32 &&& Int32.toUInt32 31)).toInt32 &&& 255)) 0 1) 0 1 (((p0).toUInt32 >>> ((16 : Int32).toUInt32 &&& Int32.toUInt32 31)).toInt32 &&& 255)) 0 2) 0 2 (((p0).toUInt32 >>> ((8 : Int32).toUInt32 &&& Int32.toUInt32 31)).toInt32 &&& 255)) 0 3) 0 3 (((p0).toUInt32 >>> ((0 : Int32).toUInt32 &&& Int32.toUInt32 31)).toInt32 &&& 255))) rfl in_X11 (by decide) wf_X11_13 rfl dX11_feedFour_37 ?_
  refine z_iconst (v := 1) b dX11_feedFour_40 (by decide) ?_
  refine z_iadd (v := 4) b dX11_feedFour_41 (by decide) ?_
  refine z_put (q0 := 0) (k9 := 1) tyX11 b (cw_0 cy tE a rw (su (si (su (si (su (si (su S 0 0 (((p0).toUInt32 >>> ((24 : Int32).toUInt32 &&& Int32.toUInt32 31)).toInt32 &&& 255)) 0 1) 0 1 (((p0).toUInt32 >>> ((16 : Int32).toUInt32 &&& Int32.toUInt32 31)).toInt32 &&& 255)) 0 2) 0 2 (((p0).toUInt32 >>> ((8 : Int32).toUInt32 &&& Int32.toUInt32 31)).toInt32 &&& 255)) 0 3) 0 3 (((p0).toUInt32 >>> ((0 : Int32).toUInt32 &&& Int32.toUInt32 31)).toInt32 &&& 255))) rfl in_X11 tyX11_ok nmX11 (by decide) wf_X11_13 rfl rfl rfl rfl (Nat.le_of_ble_eq_true rfl) dX11_feedFour_42 (cwp_0_1 cy tE a rw (su (si (su (si (su (si (su S 0 0 (((p0).toUInt32 >>> ((24 : Int32).toUInt32 &&& Int32.toUInt32 31)).toInt32 &&& 255)) 0 1) 0 1 (((p0).toUInt32 >>> ((16 : Int32).toUInt32 &&& Int32.toUInt32 31)).toInt32 &&& 255)) 0 2) 0 2 (((p0).toUInt32 >>> ((8 : Int32).toUInt32 &&& Int32.toUInt32 31)).toInt32 &&& 255)) 0 3) 0 3 (((p0).toUInt32 >>> ((0 : Int32).toUInt32 &&& Int32.toUInt32 31)).toInt32 &&& 255)) 4) ?_
  refine z_iinc (k9 := 0) (v := (-8)) (lv' := [(2, .int (-8)), (0, .ref (a 0)), (1, .int p0)]) b dX11_feedFour_45 rfl (by decide) (by decide) rfl ?_
  refine z_goto (tgt := 3) b dX11_feedFour_48 (by decide) ?_
  refine z_iload_n b dX11_feedFour_3 rfl rfl ?_
  refine z_if_lt_t (tgt := 51) b dX11_feedFour_4 (by decide) (by decide) ?_
  exact z_vret (u := (si (su (si (su (si (su (si (su S 0 0 (((p0).toUInt32 >>> ((24 : Int32).toUInt32 &&& Int32.toUInt32 31)).toInt32 &&& 255)) 0 1) 0 1 (((p0).toUInt32 >>> ((16 : Int32).toUInt32 &&& Int32.toUInt32 31)).toInt32 &&& 255)) 0 2) 0 2 (((p0).toUInt32 >>> ((8 : Int32).toUInt32 &&& Int32.toUInt32 31)).toInt32 &&& 255)) 0 3) 0 3 (((p0).toUInt32 >>> ((0 : Int32).toUInt32 &&& Int32.toUInt32 31)).toInt32 &&& 255)) 0 4)) b rfl dX11_feedFour_51 rfl rfl (by decide) (by decide)

set_option maxHeartbeats 4000000 in
set_option maxRecDepth 100000 in
theorem c_X11_feedFour_2 {l : Launch} {D : va_G} {cy : Nat → ClassId} {T0 tB tE : Nat} {a : Nat → Nat} {rw : Nat → Option Nat} (S : GS) (p0 : Int32) (h_i_0 : fi S 0 = 4) : Ct l D cy T0 tB tE yX11_feedFour cX11_feedFour 3 none 0 0 0 0 (cw cy tE a rw S) [.ref (a 0), .int p0] (QV D (U := GS) (fun u => si (su (si (su (si (su (si (su S 0 4 (((p0).toUInt32 >>> ((24 : Int32).toUInt32 &&& Int32.toUInt32 31)).toInt32 &&& 255)) 0 5) 0 5 (((p0).toUInt32 >>> ((16 : Int32).toUInt32 &&& Int32.toUInt32 31)).toInt32 &&& 255)) 0 6) 0 6 (((p0).toUInt32 >>> ((8 : Int32).toUInt32 &&& Int32.toUInt32 31)).toInt32 &&& 255)) 0 7) 0 7 (((p0).toUInt32 >>> ((0 : Int32).toUInt32 &&& Int32.toUInt32 31)).toInt32 &&& 255)) 0 8 = u) (cw cy tE a rw)) := by
  refine Ct.ofZ RX11 "feedFour" [(0, .ref (a 0)), (1, .int p0)] rfl rfl rfl rfl (Nat.le_of_ble_eq_true rfl) ?_
  intro p e R s m args below meth c A b
  refine z_bipush (v := 24) b dX11_feedFour_0 (by decide) ?_
  refine z_istore_n (lv' := [(2, .int 24), (0, .ref (a 0)), (1, .int p0)]) b dX11_feedFour_2 rfl (by decide) rfl ?_
  refine z_iload_n b dX11_feedFour_3 rfl rfl ?_
  refine z_if_lt_f (tgt := 51) b dX11_feedFour_4 (by decide) (by decide) ?_
  refine z_aload_n b dX11_feedFour_7 rfl rfl ?_
  refine z_get (q0 := 0) (k9 := 1) (v := .int (fi S 0)) b (cw_0 cy tE a rw S) rfl in_X11 (by decide) wf_X11_13 rfl dX11_feedFour_8 ?_
  refine z_eqi h_i_0 ?_
  refine z_aload_n b dX11_feedFour_11 rfl rfl ?_
  refine z_get (q0 := 0) (k9 := 0) (v := .ref (a 1)) b (cw_0 cy tE a rw S) rfl in_X11 (by decide) wf_X11_9 rfl dX11_feedFour_12 ?_
  refine z_alen (q0 := 1) (t0 := 0) (v := 700) b (cw_1 cy tE a rw S) rfl rfl dX11_feedFour_15 ?_
  refine z_icmp_ge_f (tgt := 45) b dX11_feedFour_16 (by decide) (by decide) ?_
  refine z_aload_n b dX11_feedFour_19 rfl rfl ?_
  refine z_get (q0 := 0) (k9 := 0) (v := .ref (a 1)) b (cw_0 cy tE a rw S) rfl in_X11 (by decide) wf_X11_9 rfl dX11_feedFour_20 ?_
  refine z_aload_n b dX11_feedFour_23 rfl rfl ?_
  refine z_get (q0 := 0) (k9 := 1) (v := .int (fi S 0)) b (cw_0 cy tE a rw S) rfl in_X11 (by decide) wf_X11_13 rfl dX11_feedFour_24 ?_
  refine z_eqi h_i_0 ?_
  refine z_iload_n b dX11_feedFour_27 rfl rfl ?_
  refine z_iload_n b dX11_feedFour_28 rfl rfl ?_
  refine z_iushr b dX11_feedFour_29 rfl ?_
  refine z_sipush (v := 255) b dX11_feedFour_30 (by decide) ?_
  refine z_iand b dX11_feedFour_33 rfl ?_
  refine y_iast (q0 := 1) (j := 4) b (cw_1 cy tE a rw S) (by decide) dX11_feedFour_34 (cwa_1 cy tE a rw S 4 (((p0).toUInt32 >>> ((24 : Int32).toUInt32 &&& Int32.toUInt32 31)).toInt32 &&& 255)) ?_
  refine z_aload_n b dX11_feedFour_35 rfl rfl ?_
  refine z_dup b dX11_feedFour_36 rfl ?_
  refine z_get (q0 := 0) (k9 := 1) (v := .int (fi (su S 0 4 (((p0).toUInt32 >>> ((24 : Int32).toUInt32 &&& Int32.toUInt32 31)).toInt32 &&& 255)) 0)) b (cw_0 cy tE a rw (su S 0 4 (((p0).toUInt32 >>> ((24 : Int32).toUInt32 &&& Int32.toUInt32 31)).toInt32 &&& 255))) rfl in_X11 (by decide) wf_X11_13 rfl dX11_feedFour_37 ?_
  refine z_eqi h_i_0 ?_
  refine z_iconst (v := 1) b dX11_feedFour_40 (by decide) ?_
  refine z_iadd (v := 5) b dX11_feedFour_41 (by decide) ?_
  refine z_put (q0 := 0) (k9 := 1) tyX11 b (cw_0 cy tE a rw (su S 0 4 (((p0).toUInt32 >>> ((24 : Int32).toUInt32 &&& Int32.toUInt32 31)).toInt32 &&& 255))) rfl in_X11 tyX11_ok nmX11 (by decide) wf_X11_13 rfl rfl rfl rfl (Nat.le_of_ble_eq_true rfl) dX11_feedFour_42 (cwp_0_1 cy tE a rw (su S 0 4 (((p0).toUInt32 >>> ((24 : Int32).toUInt32 &&& Int32.toUInt32 31)).toInt32 &&& 255)) 5) ?_
  refine z_iinc (k9 := 0) (v := 16) (lv' := [(2, .int 16), (0, .ref (a 0)), (1, .int p0)]) b dX11_feedFour_45 rfl (by decide) (by decide) rfl ?_
  refine z_goto (tgt := 3) b dX11_feedFour_48 (by decide) ?_
  refine z_iload_n b dX11_feedFour_3 rfl rfl ?_
  refine z_if_lt_f (tgt := 51) b dX11_feedFour_4 (by decide) (by decide) ?_
  refine z_aload_n b dX11_feedFour_7 rfl rfl ?_
  refine z_get (q0 := 0) (k9 := 1) (v := .int 5) b (cw_0 cy tE a rw (si (su S 0 4 (((p0).toUInt32 >>> ((24 : Int32).toUInt32 &&& Int32.toUInt32 31)).toInt32 &&& 255)) 0 5)) rfl in_X11 (by decide) wf_X11_13 rfl dX11_feedFour_8 ?_
  refine z_aload_n b dX11_feedFour_11 rfl rfl ?_
  refine z_get (q0 := 0) (k9 := 0) (v := .ref (a 1)) b (cw_0 cy tE a rw (si (su S 0 4 (((p0).toUInt32 >>> ((24 : Int32).toUInt32 &&& Int32.toUInt32 31)).toInt32 &&& 255)) 0 5)) rfl in_X11 (by decide) wf_X11_9 rfl dX11_feedFour_12 ?_
  refine z_alen (q0 := 1) (t0 := 0) (v := 700) b (cw_1 cy tE a rw (si (su S 0 4 (((p0).toUInt32 >>> ((24 : Int32).toUInt32 &&& Int32.toUInt32 31)).toInt32 &&& 255)) 0 5)) rfl rfl dX11_feedFour_15 ?_
  refine z_icmp_ge_f (tgt := 45) b dX11_feedFour_16 (by decide) (by decide) ?_
  refine z_aload_n b dX11_feedFour_19 rfl rfl ?_
  refine z_get (q0 := 0) (k9 := 0) (v := .ref (a 1)) b (cw_0 cy tE a rw (si (su S 0 4 (((p0).toUInt32 >>> ((24 : Int32).toUInt32 &&& Int32.toUInt32 31)).toInt32 &&& 255)) 0 5)) rfl in_X11 (by decide) wf_X11_9 rfl dX11_feedFour_20 ?_
  refine z_aload_n b dX11_feedFour_23 rfl rfl ?_
  refine z_get (q0 := 0) (k9 := 1) (v := .int 5) b (cw_0 cy tE a rw (si (su S 0 4 (((p0).toUInt32 >>> ((24 : Int32).toUInt32 &&& Int32.toUInt32 31)).toInt32 &&& 255)) 0 5)) rfl in_X11 (by decide) wf_X11_13 rfl dX11_feedFour_24 ?_
  refine z_iload_n b dX11_feedFour_27 rfl rfl ?_
  refine z_iload_n b dX11_feedFour_28 rfl rfl ?_
  refine z_iushr b dX11_feedFour_29 rfl ?_
  refine z_sipush (v := 255) b dX11_feedFour_30 (by decide) ?_
  refine z_iand b dX11_feedFour_33 rfl ?_
  refine y_iast (q0 := 1) (j := 5) b (cw_1 cy tE a rw (si (su S 0 4 (((p0).toUInt32 >>> ((24 : Int32).toUInt32 &&& Int32.toUInt32 31)).toInt32 &&& 255)) 0 5)) (by decide) dX11_feedFour_34 (cwa_1 cy tE a rw (si (su S 0 4 (((p0).toUInt32 >>> ((24 : Int32).toUInt32 &&& Int32.toUInt32 31)).toInt32 &&& 255)) 0 5) 5 (((p0).toUInt32 >>> ((16 : Int32).toUInt32 &&& Int32.toUInt32 31)).toInt32 &&& 255)) ?_
  refine z_aload_n b dX11_feedFour_35 rfl rfl ?_
  refine z_dup b dX11_feedFour_36 rfl ?_
  refine z_get (q0 := 0) (k9 := 1) (v := .int 5) b (cw_0 cy tE a rw (su (si (su S 0 4 (((p0).toUInt32 >>> ((24 : Int32).toUInt32 &&& Int32.toUInt32 31)).toInt32 &&& 255)) 0 5) 0 5 (((p0).toUInt32 >>> ((16 : Int32).toUInt32 &&& Int32.toUInt32 31)).toInt32 &&& 255))) rfl in_X11 (by decide) wf_X11_13 rfl dX11_feedFour_37 ?_
  refine z_iconst (v := 1) b dX11_feedFour_40 (by decide) ?_
  refine z_iadd (v := 6) b dX11_feedFour_41 (by decide) ?_
  refine z_put (q0 := 0) (k9 := 1) tyX11 b (cw_0 cy tE a rw (su (si (su S 0 4 (((p0).toUInt32 >>> ((24 : Int32).toUInt32 &&& Int32.toUInt32 31)).toInt32 &&& 255)) 0 5) 0 5 (((p0).toUInt32 >>> ((16 : Int32).toUInt32 &&& Int32.toUInt32 31)).toInt32 &&& 255))) rfl in_X11 tyX11_ok nmX11 (by decide) wf_X11_13 rfl rfl rfl rfl (Nat.le_of_ble_eq_true rfl) dX11_feedFour_42 (cwp_0_1 cy tE a rw (su (si (su S 0 4 (((p0).toUInt32 >>> ((24 : Int32).toUInt32 &&& Int32.toUInt32 31)).toInt32 &&& 255)) 0 5) 0 5 (((p0).toUInt32 >>> ((16 : Int32).toUInt32 &&& Int32.toUInt32 31)).toInt32 &&& 255)) 6) ?_
  refine z_iinc (k9 := 0) (v := 8) (lv' := [(2, .int 8), (0, .ref (a 0)), (1, .int p0)]) b dX11_feedFour_45 rfl (by decide) (by decide) rfl ?_
  refine z_goto (tgt := 3) b dX11_feedFour_48 (by decide) ?_
  refine z_iload_n b dX11_feedFour_3 rfl rfl ?_
  refine z_if_lt_f (tgt := 51) b dX11_feedFour_4 (by decide) (by decide) ?_
  refine z_aload_n b dX11_feedFour_7 rfl rfl ?_
  refine z_get (q0 := 0) (k9 := 1) (v := .int 6) b (cw_0 cy tE a rw (si (su (si (su S 0 4 (((p0).toUInt32 >>> ((24 : Int32).toUInt32 &&& Int32.toUInt32 31)).toInt32 &&& 255)) 0 5) 0 5 (((p0).toUInt32 >>> ((16 : Int32).toUInt32 &&& Int32.toUInt32 31)).toInt32 &&& 255)) 0 6)) rfl in_X11 (by decide) wf_X11_13 rfl dX11_feedFour_8 ?_
  refine z_aload_n b dX11_feedFour_11 rfl rfl ?_
  refine z_get (q0 := 0) (k9 := 0) (v := .ref (a 1)) b (cw_0 cy tE a rw (si (su (si (su S 0 4 (((p0).toUInt32 >>> ((24 : Int32).toUInt32 &&& Int32.toUInt32 31)).toInt32 &&& 255)) 0 5) 0 5 (((p0).toUInt32 >>> ((16 : Int32).toUInt32 &&& Int32.toUInt32 31)).toInt32 &&& 255)) 0 6)) rfl in_X11 (by decide) wf_X11_9 rfl dX11_feedFour_12 ?_
  refine z_alen (q0 := 1) (t0 := 0) (v := 700) b (cw_1 cy tE a rw (si (su (si (su S 0 4 (((p0).toUInt32 >>> ((24 : Int32).toUInt32 &&& Int32.toUInt32 31)).toInt32 &&& 255)) 0 5) 0 5 (((p0).toUInt32 >>> ((16 : Int32).toUInt32 &&& Int32.toUInt32 31)).toInt32 &&& 255)) 0 6)) rfl rfl dX11_feedFour_15 ?_
  refine z_icmp_ge_f (tgt := 45) b dX11_feedFour_16 (by decide) (by decide) ?_
  refine z_aload_n b dX11_feedFour_19 rfl rfl ?_
  refine z_get (q0 := 0) (k9 := 0) (v := .ref (a 1)) b (cw_0 cy tE a rw (si (su (si (su S 0 4 (((p0).toUInt32 >>> ((24 : Int32).toUInt32 &&& Int32.toUInt32 31)).toInt32 &&& 255)) 0 5) 0 5 (((p0).toUInt32 >>> ((16 : Int32).toUInt32 &&& Int32.toUInt32 31)).toInt32 &&& 255)) 0 6)) rfl in_X11 (by decide) wf_X11_9 rfl dX11_feedFour_20 ?_
  refine z_aload_n b dX11_feedFour_23 rfl rfl ?_
  refine z_get (q0 := 0) (k9 := 1) (v := .int 6) b (cw_0 cy tE a rw (si (su (si (su S 0 4 (((p0).toUInt32 >>> ((24 : Int32).toUInt32 &&& Int32.toUInt32 31)).toInt32 &&& 255)) 0 5) 0 5 (((p0).toUInt32 >>> ((16 : Int32).toUInt32 &&& Int32.toUInt32 31)).toInt32 &&& 255)) 0 6)) rfl in_X11 (by decide) wf_X11_13 rfl dX11_feedFour_24 ?_
  refine z_iload_n b dX11_feedFour_27 rfl rfl ?_
  refine z_iload_n b dX11_feedFour_28 rfl rfl ?_
  refine z_iushr b dX11_feedFour_29 rfl ?_
  refine z_sipush (v := 255) b dX11_feedFour_30 (by decide) ?_
  refine z_iand b dX11_feedFour_33 rfl ?_
  refine y_iast (q0 := 1) (j := 6) b (cw_1 cy tE a rw (si (su (si (su S 0 4 (((p0).toUInt32 >>> ((24 : Int32).toUInt32 &&& Int32.toUInt32 31)).toInt32 &&& 255)) 0 5) 0 5 (((p0).toUInt32 >>> ((16 : Int32).toUInt32 &&& Int32.toUInt32 31)).toInt32 &&& 255)) 0 6)) (by decide) dX11_feedFour_34 (cwa_1 cy tE a rw (si (su (si (su S 0 4 (((p0).toUInt32 >>> ((24 : Int32).toUInt32 &&& Int32.toUInt32 31)).toInt32 &&& 255)) 0 5) 0 5 (((p0).toUInt32 >>> ((16 : Int32).toUInt32 &&& Int32.toUInt32 31)).toInt32 &&& 255)) 0 6) 6 (((p0).toUInt32 >>> ((8 : Int32).toUInt32 &&& Int32.toUInt32 31)).toInt32 &&& 255)) ?_
  refine z_aload_n b dX11_feedFour_35 rfl rfl ?_
  refine z_dup b dX11_feedFour_36 rfl ?_
  refine z_get (q0 := 0) (k9 := 1) (v := .int 6) b (cw_0 cy tE a rw (su (si (su (si (su S 0 4 (((p0).toUInt32 >>> ((24 : Int32).toUInt32 &&& Int32.toUInt32 31)).toInt32 &&& 255)) 0 5) 0 5 (((p0).toUInt32 >>> ((16 : Int32).toUInt32 &&& Int32.toUInt32 31)).toInt32 &&& 255)) 0 6) 0 6 (((p0).toUInt32 >>> ((8 : Int32).toUInt32 &&& Int32.toUInt32 31)).toInt32 &&& 255))) rfl in_X11 (by decide) wf_X11_13 rfl dX11_feedFour_37 ?_
  refine z_iconst (v := 1) b dX11_feedFour_40 (by decide) ?_
  refine z_iadd (v := 7) b dX11_feedFour_41 (by decide) ?_
  refine z_put (q0 := 0) (k9 := 1) tyX11 b (cw_0 cy tE a rw (su (si (su (si (su S 0 4 (((p0).toUInt32 >>> ((24 : Int32).toUInt32 &&& Int32.toUInt32 31)).toInt32 &&& 255)) 0 5) 0 5 (((p0).toUInt32 >>> ((16 : Int32).toUInt32 &&& Int32.toUInt32 31)).toInt32 &&& 255)) 0 6) 0 6 (((p0).toUInt32 >>> ((8 : Int32).toUInt32 &&& Int32.toUInt32 31)).toInt32 &&& 255))) rfl in_X11 tyX11_ok nmX11 (by decide) wf_X11_13 rfl rfl rfl rfl (Nat.le_of_ble_eq_true rfl) dX11_feedFour_42 (cwp_0_1 cy tE a rw (su (si (su (si (su S 0 4 (((p0).toUInt32 >>> ((24 : Int32).toUInt32 &&& Int32.toUInt32 31)).toInt32 &&& 255)) 0 5) 0 5 (((p0).toUInt32 >>> ((16 : Int32).toUInt32 &&& Int32.toUInt32 31)).toInt32 &&& 255)) 0 6) 0 6 (((p0).toUInt32 >>> ((8 : Int32).toUInt32 &&& Int32.toUInt32 31)).toInt32 &&& 255)) 7) ?_
  refine z_iinc (k9 := 0) (v := 0) (lv' := [(2, .int 0), (0, .ref (a 0)), (1, .int p0)]) b dX11_feedFour_45 rfl (by decide) (by decide) rfl ?_
  refine z_goto (tgt := 3) b dX11_feedFour_48 (by decide) ?_
  refine z_iload_n b dX11_feedFour_3 rfl rfl ?_
  refine z_if_lt_f (tgt := 51) b dX11_feedFour_4 (by decide) (by decide) ?_
  refine z_aload_n b dX11_feedFour_7 rfl rfl ?_
  refine z_get (q0 := 0) (k9 := 1) (v := .int 7) b (cw_0 cy tE a rw (si (su (si (su (si (su S 0 4 (((p0).toUInt32 >>> ((24 : Int32).toUInt32 &&& Int32.toUInt32 31)).toInt32 &&& 255)) 0 5) 0 5 (((p0).toUInt32 >>> ((16 : Int32).toUInt32 &&& Int32.toUInt32 31)).toInt32 &&& 255)) 0 6) 0 6 (((p0).toUInt32 >>> ((8 : Int32).toUInt32 &&& Int32.toUInt32 31)).toInt32 &&& 255)) 0 7)) rfl in_X11 (by decide) wf_X11_13 rfl dX11_feedFour_8 ?_
  refine z_aload_n b dX11_feedFour_11 rfl rfl ?_
  refine z_get (q0 := 0) (k9 := 0) (v := .ref (a 1)) b (cw_0 cy tE a rw (si (su (si (su (si (su S 0 4 (((p0).toUInt32 >>> ((24 : Int32).toUInt32 &&& Int32.toUInt32 31)).toInt32 &&& 255)) 0 5) 0 5 (((p0).toUInt32 >>> ((16 : Int32).toUInt32 &&& Int32.toUInt32 31)).toInt32 &&& 255)) 0 6) 0 6 (((p0).toUInt32 >>> ((8 : Int32).toUInt32 &&& Int32.toUInt32 31)).toInt32 &&& 255)) 0 7)) rfl in_X11 (by decide) wf_X11_9 rfl dX11_feedFour_12 ?_
  refine z_alen (q0 := 1) (t0 := 0) (v := 700) b (cw_1 cy tE a rw (si (su (si (su (si (su S 0 4 (((p0).toUInt32 >>> ((24 : Int32).toUInt32 &&& Int32.toUInt32 31)).toInt32 &&& 255)) 0 5) 0 5 (((p0).toUInt32 >>> ((16 : Int32).toUInt32 &&& Int32.toUInt32 31)).toInt32 &&& 255)) 0 6) 0 6 (((p0).toUInt32 >>> ((8 : Int32).toUInt32 &&& Int32.toUInt32 31)).toInt32 &&& 255)) 0 7)) rfl rfl dX11_feedFour_15 ?_
  refine z_icmp_ge_f (tgt := 45) b dX11_feedFour_16 (by decide) (by decide) ?_
  refine z_aload_n b dX11_feedFour_19 rfl rfl ?_
  refine z_get (q0 := 0) (k9 := 0) (v := .ref (a 1)) b (cw_0 cy tE a rw (si (su (si (su (si (su S 0 4 (((p0).toUInt32 >>> ((24 : Int32).toUInt32 &&& Int32.toUInt32 31)).toInt32 &&& 255)) 0 5) 0 5 (((p0).toUInt32 >>> ((16 : Int32).toUInt32 &&& Int32.toUInt32 31)).toInt32 &&& 255)) 0 6) 0 6 (((p0).toUInt32 >>> ((8 : Int32).toUInt32 &&& Int32.toUInt32 31)).toInt32 &&& 255)) 0 7)) rfl in_X11 (by decide) wf_X11_9 rfl dX11_feedFour_20 ?_
  refine z_aload_n b dX11_feedFour_23 rfl rfl ?_
  refine z_get (q0 := 0) (k9 := 1) (v := .int 7) b (cw_0 cy tE a rw (si (su (si (su (si (su S 0 4 (((p0).toUInt32 >>> ((24 : Int32).toUInt32 &&& Int32.toUInt32 31)).toInt32 &&& 255)) 0 5) 0 5 (((p0).toUInt32 >>> ((16 : Int32).toUInt32 &&& Int32.toUInt32 31)).toInt32 &&& 255)) 0 6) 0 6 (((p0).toUInt32 >>> ((8 : Int32).toUInt32 &&& Int32.toUInt32 31)).toInt32 &&& 255)) 0 7)) rfl in_X11 (by decide) wf_X11_13 rfl dX11_feedFour_24 ?_
  refine z_iload_n b dX11_feedFour_27 rfl rfl ?_
  refine z_iload_n b dX11_feedFour_28 rfl rfl ?_
  refine z_iushr b dX11_feedFour_29 rfl ?_
  refine z_sipush (v := 255) b dX11_feedFour_30 (by decide) ?_
  refine z_iand b dX11_feedFour_33 rfl ?_
  refine y_iast (q0 := 1) (j := 7) b (cw_1 cy tE a rw (si (su (si (su (si (su S 0 4 (((p0).toUInt32 >>> ((24 : Int32).toUInt32 &&& Int32.toUInt32 31)).toInt32 &&& 255)) 0 5) 0 5 (((p0).toUInt32 >>> ((16 : Int32).toUInt32 &&& Int32.toUInt32 31)).toInt32 &&& 255)) 0 6) 0 6 (((p0).toUInt32 >>> ((8 : Int32).toUInt32 &&& Int32.toUInt32 31)).toInt32 &&& 255)) 0 7)) (by decide) dX11_feedFour_34 (cwa_1 cy tE a rw (si (su (si (su (si (su S 0 4 (((p0).toUInt32 >>> ((24 : Int32).toUInt32 &&& Int32.toUInt32 31)).toInt32 &&& 255)) 0 5) 0 5 (((p0).toUInt32 >>> ((16 : Int32).toUInt32 &&& Int32.toUInt32 31)).toInt32 &&& 255)) 0 6) 0 6 (((p0).toUInt32 >>> ((8 : Int32).toUInt32 &&& Int32.toUInt32 31)).toInt32 &&& 255)) 0 7) 7 (((p0).toUInt32 >>> ((0 : Int32).toUInt32 &&& Int32.toUInt32 31)).toInt32 &&& 255)) ?_
  refine z_aload_n b dX11_feedFour_35 rfl rfl ?_
  refine z_dup b dX11_feedFour_36 rfl ?_
  refine z_get (q0 := 0) (k9 := 1) (v := .int 7) b (cw_0 cy tE a rw (su (si (su (si (su (si (su S 0 4 (((p0).toUInt32 >>> ((24 : Int32).toUInt32 &&& Int32.toUInt32 31)).toInt32 &&& 255)) 0 5) 0 5 (((p0).toUInt32 >>> ((16 : Int32).toUInt32 &&& Int32.toUInt32 31)).toInt32 &&& 255)) 0 6) 0 6 (((p0).toUInt32 >>> ((8 : Int32).toUInt32 &&& Int32.toUInt32 31)).toInt32 &&& 255)) 0 7) 0 7 (((p0).toUInt32 >>> ((0 : Int32).toUInt32 &&& Int32.toUInt32 31)).toInt32 &&& 255))) rfl in_X11 (by decide) wf_X11_13 rfl dX11_feedFour_37 ?_
  refine z_iconst (v := 1) b dX11_feedFour_40 (by decide) ?_
  refine z_iadd (v := 8) b dX11_feedFour_41 (by decide) ?_
  refine z_put (q0 := 0) (k9 := 1) tyX11 b (cw_0 cy tE a rw (su (si (su (si (su (si (su S 0 4 (((p0).toUInt32 >>> ((24 : Int32).toUInt32 &&& Int32.toUInt32 31)).toInt32 &&& 255)) 0 5) 0 5 (((p0).toUInt32 >>> ((16 : Int32).toUInt32 &&& Int32.toUInt32 31)).toInt32 &&& 255)) 0 6) 0 6 (((p0).toUInt32 >>> ((8 : Int32).toUInt32 &&& Int32.toUInt32 31)).toInt32 &&& 255)) 0 7) 0 7 (((p0).toUInt32 >>> ((0 : Int32).toUInt32 &&& Int32.toUInt32 31)).toInt32 &&& 255))) rfl in_X11 tyX11_ok nmX11 (by decide) wf_X11_13 rfl rfl rfl rfl (Nat.le_of_ble_eq_true rfl) dX11_feedFour_42 (cwp_0_1 cy tE a rw (su (si (su (si (su (si (su S 0 4 (((p0).toUInt32 >>> ((24 : Int32).toUInt32 &&& Int32.toUInt32 31)).toInt32 &&& 255)) 0 5) 0 5 (((p0).toUInt32 >>> ((16 : Int32).toUInt32 &&& Int32.toUInt32 31)).toInt32 &&& 255)) 0 6) 0 6 (((p0).toUInt32 >>> ((8 : Int32).toUInt32 &&& Int32.toUInt32 31)).toInt32 &&& 255)) 0 7) 0 7 (((p0).toUInt32 >>> ((0 : Int32).toUInt32 &&& Int32.toUInt32 31)).toInt32 &&& 255)) 8) ?_
  refine z_iinc (k9 := 0) (v := (-8)) (lv' := [(2, .int (-8)), (0, .ref (a 0)), (1, .int p0)]) b dX11_feedFour_45 rfl (by decide) (by decide) rfl ?_
  refine z_goto (tgt := 3) b dX11_feedFour_48 (by decide) ?_
  refine z_iload_n b dX11_feedFour_3 rfl rfl ?_
  refine z_if_lt_t (tgt := 51) b dX11_feedFour_4 (by decide) (by decide) ?_
  exact z_vret (u := (si (su (si (su (si (su (si (su S 0 4 (((p0).toUInt32 >>> ((24 : Int32).toUInt32 &&& Int32.toUInt32 31)).toInt32 &&& 255)) 0 5) 0 5 (((p0).toUInt32 >>> ((16 : Int32).toUInt32 &&& Int32.toUInt32 31)).toInt32 &&& 255)) 0 6) 0 6 (((p0).toUInt32 >>> ((8 : Int32).toUInt32 &&& Int32.toUInt32 31)).toInt32 &&& 255)) 0 7) 0 7 (((p0).toUInt32 >>> ((0 : Int32).toUInt32 &&& Int32.toUInt32 31)).toInt32 &&& 255)) 0 8)) b rfl dX11_feedFour_51 rfl rfl (by decide) (by decide)

set_option maxHeartbeats 4000000 in
set_option maxRecDepth 100000 in
theorem c_X11_feedFour_3 {l : Launch} {D : va_G} {cy : Nat → ClassId} {T0 tB tE : Nat} {a : Nat → Nat} {rw : Nat → Option Nat} (S : GS) (p0 : Int32) (h_i_0 : fi S 0 = 8) : Ct l D cy T0 tB tE yX11_feedFour cX11_feedFour 3 none 0 0 0 0 (cw cy tE a rw S) [.ref (a 0), .int p0] (QV D (U := GS) (fun u => si (su (si (su (si (su (si (su S 0 8 (((p0).toUInt32 >>> ((24 : Int32).toUInt32 &&& Int32.toUInt32 31)).toInt32 &&& 255)) 0 9) 0 9 (((p0).toUInt32 >>> ((16 : Int32).toUInt32 &&& Int32.toUInt32 31)).toInt32 &&& 255)) 0 10) 0 10 (((p0).toUInt32 >>> ((8 : Int32).toUInt32 &&& Int32.toUInt32 31)).toInt32 &&& 255)) 0 11) 0 11 (((p0).toUInt32 >>> ((0 : Int32).toUInt32 &&& Int32.toUInt32 31)).toInt32 &&& 255)) 0 12 = u) (cw cy tE a rw)) := by
  refine Ct.ofZ RX11 "feedFour" [(0, .ref (a 0)), (1, .int p0)] rfl rfl rfl rfl (Nat.le_of_ble_eq_true rfl) ?_
  intro p e R s m args below meth c A b
  refine z_bipush (v := 24) b dX11_feedFour_0 (by decide) ?_
  refine z_istore_n (lv' := [(2, .int 24), (0, .ref (a 0)), (1, .int p0)]) b dX11_feedFour_2 rfl (by decide) rfl ?_
  refine z_iload_n b dX11_feedFour_3 rfl rfl ?_
  refine z_if_lt_f (tgt := 51) b dX11_feedFour_4 (by decide) (by decide) ?_
  refine z_aload_n b dX11_feedFour_7 rfl rfl ?_
  refine z_get (q0 := 0) (k9 := 1) (v := .int (fi S 0)) b (cw_0 cy tE a rw S) rfl in_X11 (by decide) wf_X11_13 rfl dX11_feedFour_8 ?_
  refine z_eqi h_i_0 ?_
  refine z_aload_n b dX11_feedFour_11 rfl rfl ?_
  refine z_get (q0 := 0) (k9 := 0) (v := .ref (a 1)) b (cw_0 cy tE a rw S) rfl in_X11 (by decide) wf_X11_9 rfl dX11_feedFour_12 ?_
  refine z_alen (q0 := 1) (t0 := 0) (v := 700) b (cw_1 cy tE a rw S) rfl rfl dX11_feedFour_15 ?_
  refine z_icmp_ge_f (tgt := 45) b dX11_feedFour_16 (by decide) (by decide) ?_
  refine z_aload_n b dX11_feedFour_19 rfl rfl ?_
  refine z_get (q0 := 0) (k9 := 0) (v := .ref (a 1)) b (cw_0 cy tE a rw S) rfl in_X11 (by decide) wf_X11_9 rfl dX11_feedFour_20 ?_
  refine z_aload_n b dX11_feedFour_23 rfl rfl ?_
  refine z_get (q0 := 0) (k9 := 1) (v := .int (fi S 0)) b (cw_0 cy tE a rw S) rfl in_X11 (by decide) wf_X11_13 rfl dX11_feedFour_24 ?_
  refine z_eqi h_i_0 ?_
  refine z_iload_n b dX11_feedFour_27 rfl rfl ?_
  refine z_iload_n b dX11_feedFour_28 rfl rfl ?_
  refine z_iushr b dX11_feedFour_29 rfl ?_
  refine z_sipush (v := 255) b dX11_feedFour_30 (by decide) ?_
  refine z_iand b dX11_feedFour_33 rfl ?_
  refine y_iast (q0 := 1) (j := 8) b (cw_1 cy tE a rw S) (by decide) dX11_feedFour_34 (cwa_1 cy tE a rw S 8 (((p0).toUInt32 >>> ((24 : Int32).toUInt32 &&& Int32.toUInt32 31)).toInt32 &&& 255)) ?_
  refine z_aload_n b dX11_feedFour_35 rfl rfl ?_
  refine z_dup b dX11_feedFour_36 rfl ?_
  refine z_get (q0 := 0) (k9 := 1) (v := .int (fi (su S 0 8 (((p0).toUInt32 >>> ((24 : Int32).toUInt32 &&& Int32.toUInt32 31)).toInt32 &&& 255)) 0)) b (cw_0 cy tE a rw (su S 0 8 (((p0).toUInt32 >>> ((24 : Int32).toUInt32 &&& Int32.toUInt32 31)).toInt32 &&& 255))) rfl in_X11 (by decide) wf_X11_13 rfl dX11_feedFour_37 ?_
  refine z_eqi h_i_0 ?_
  refine z_iconst (v := 1) b dX11_feedFour_40 (by decide) ?_
  refine z_iadd (v := 9) b dX11_feedFour_41 (by decide) ?_
  refine z_put (q0 := 0) (k9 := 1) tyX11 b (cw_0 cy tE a rw (su S 0 8 (((p0).toUInt32 >>> ((24 : Int32).toUInt32 &&& Int32.toUInt32 31)).toInt32 &&& 255))) rfl in_X11 tyX11_ok nmX11 (by decide) wf_X11_13 rfl rfl rfl rfl (Nat.le_of_ble_eq_true rfl) dX11_feedFour_42 (cwp_0_1 cy tE a rw (su S 0 8 (((p0).toUInt32 >>> ((24 : Int32).toUInt32 &&& Int32.toUInt32 31)).toInt32 &&& 255)) 9) ?_
  refine z_iinc (k9 := 0) (v := 16) (lv' := [(2, .int 16), (0, .ref (a 0)), (1, .int p0)]) b dX11_feedFour_45 rfl (by decide) (by decide) rfl ?_
  refine z_goto (tgt := 3) b dX11_feedFour_48 (by decide) ?_
  refine z_iload_n b dX11_feedFour_3 rfl rfl ?_
  refine z_if_lt_f (tgt := 51) b dX11_feedFour_4 (by decide) (by decide) ?_
  refine z_aload_n b dX11_feedFour_7 rfl rfl ?_
  refine z_get (q0 := 0) (k9 := 1) (v := .int 9) b (cw_0 cy tE a rw (si (su S 0 8 (((p0).toUInt32 >>> ((24 : Int32).toUInt32 &&& Int32.toUInt32 31)).toInt32 &&& 255)) 0 9)) rfl in_X11 (by decide) wf_X11_13 rfl dX11_feedFour_8 ?_
  refine z_aload_n b dX11_feedFour_11 rfl rfl ?_
  refine z_get (q0 := 0) (k9 := 0) (v := .ref (a 1)) b (cw_0 cy tE a rw (si (su S 0 8 (((p0).toUInt32 >>> ((24 : Int32).toUInt32 &&& Int32.toUInt32 31)).toInt32 &&& 255)) 0 9)) rfl in_X11 (by decide) wf_X11_9 rfl dX11_feedFour_12 ?_
  refine z_alen (q0 := 1) (t0 := 0) (v := 700) b (cw_1 cy tE a rw (si (su S 0 8 (((p0).toUInt32 >>> ((24 : Int32).toUInt32 &&& Int32.toUInt32 31)).toInt32 &&& 255)) 0 9)) rfl rfl dX11_feedFour_15 ?_
  refine z_icmp_ge_f (tgt := 45) b dX11_feedFour_16 (by decide) (by decide) ?_
  refine z_aload_n b dX11_feedFour_19 rfl rfl ?_
  refine z_get (q0 := 0) (k9 := 0) (v := .ref (a 1)) b (cw_0 cy tE a rw (si (su S 0 8 (((p0).toUInt32 >>> ((24 : Int32).toUInt32 &&& Int32.toUInt32 31)).toInt32 &&& 255)) 0 9)) rfl in_X11 (by decide) wf_X11_9 rfl dX11_feedFour_20 ?_
  refine z_aload_n b dX11_feedFour_23 rfl rfl ?_
  refine z_get (q0 := 0) (k9 := 1) (v := .int 9) b (cw_0 cy tE a rw (si (su S 0 8 (((p0).toUInt32 >>> ((24 : Int32).toUInt32 &&& Int32.toUInt32 31)).toInt32 &&& 255)) 0 9)) rfl in_X11 (by decide) wf_X11_13 rfl dX11_feedFour_24 ?_
  refine z_iload_n b dX11_feedFour_27 rfl rfl ?_
  refine z_iload_n b dX11_feedFour_28 rfl rfl ?_
  refine z_iushr b dX11_feedFour_29 rfl ?_
  refine z_sipush (v := 255) b dX11_feedFour_30 (by decide) ?_
  refine z_iand b dX11_feedFour_33 rfl ?_
  refine y_iast (q0 := 1) (j := 9) b (cw_1 cy tE a rw (si (su S 0 8 (((p0).toUInt32 >>> ((24 : Int32).toUInt32 &&& Int32.toUInt32 31)).toInt32 &&& 255)) 0 9)) (by decide) dX11_feedFour_34 (cwa_1 cy tE a rw (si (su S 0 8 (((p0).toUInt32 >>> ((24 : Int32).toUInt32 &&& Int32.toUInt32 31)).toInt32 &&& 255)) 0 9) 9 (((p0).toUInt32 >>> ((16 : Int32).toUInt32 &&& Int32.toUInt32 31)).toInt32 &&& 255)) ?_
  refine z_aload_n b dX11_feedFour_35 rfl rfl ?_
  refine z_dup b dX11_feedFour_36 rfl ?_
  refine z_get (q0 := 0) (k9 := 1) (v := .int 9) b (cw_0 cy tE a rw (su (si (su S 0 8 (((p0).toUInt32 >>> ((24 : Int32).toUInt32 &&& Int32.toUInt32 31)).toInt32 &&& 255)) 0 9) 0 9 (((p0).toUInt32 >>> ((16 : Int32).toUInt32 &&& Int32.toUInt32 31)).toInt32 &&& 255))) rfl in_X11 (by decide) wf_X11_13 rfl dX11_feedFour_37 ?_
  refine z_iconst (v := 1) b dX11_feedFour_40 (by decide) ?_
  refine z_iadd (v := 10) b dX11_feedFour_41 (by decide) ?_
  refine z_put (q0 := 0) (k9 := 1) tyX11 b (cw_0 cy tE a rw (su (si (su S 0 8 (((p0).toUInt32 >>> ((24 : Int32).toUInt32 &&& Int32.toUInt32 31)).toInt32 &&& 255)) 0 9) 0 9 (((p0).toUInt32 >>> ((16 : Int32).toUInt32 &&& Int32.toUInt32 31)).toInt32 &&& 255))) rfl in_X11 tyX11_ok nmX11 (by decide) wf_X11_13 rfl rfl rfl rfl (Nat.le_of_ble_eq_true rfl) dX11_feedFour_42 (cwp_0_1 cy tE a rw (su (si (su S 0 8 (((p0).toUInt32 >>> ((24 : Int32).toUInt32 &&& Int32.toUInt32 31)).toInt32 &&& 255)) 0 9) 0 9 (((p0).toUInt32 >>> ((16 : Int32).toUInt32 &&& Int32.toUInt32 31)).toInt32 &&& 255)) 10) ?_
  refine z_iinc (k9 := 0) (v := 8) (lv' := [(2, .int 8), (0, .ref (a 0)), (1, .int p0)]) b dX11_feedFour_45 rfl (by decide) (by decide) rfl ?_
  refine z_goto (tgt := 3) b dX11_feedFour_48 (by decide) ?_
  refine z_iload_n b dX11_feedFour_3 rfl rfl ?_
  refine z_if_lt_f (tgt := 51) b dX11_feedFour_4 (by decide) (by decide) ?_
  refine z_aload_n b dX11_feedFour_7 rfl rfl ?_
  refine z_get (q0 := 0) (k9 := 1) (v := .int 10) b (cw_0 cy tE a rw (si (su (si (su S 0 8 (((p0).toUInt32 >>> ((24 : Int32).toUInt32 &&& Int32.toUInt32 31)).toInt32 &&& 255)) 0 9) 0 9 (((p0).toUInt32 >>> ((16 : Int32).toUInt32 &&& Int32.toUInt32 31)).toInt32 &&& 255)) 0 10)) rfl in_X11 (by decide) wf_X11_13 rfl dX11_feedFour_8 ?_
  refine z_aload_n b dX11_feedFour_11 rfl rfl ?_
  refine z_get (q0 := 0) (k9 := 0) (v := .ref (a 1)) b (cw_0 cy tE a rw (si (su (si (su S 0 8 (((p0).toUInt32 >>> ((24 : Int32).toUInt32 &&& Int32.toUInt32 31)).toInt32 &&& 255)) 0 9) 0 9 (((p0).toUInt32 >>> ((16 : Int32).toUInt32 &&& Int32.toUInt32 31)).toInt32 &&& 255)) 0 10)) rfl in_X11 (by decide) wf_X11_9 rfl dX11_feedFour_12 ?_
  refine z_alen (q0 := 1) (t0 := 0) (v := 700) b (cw_1 cy tE a rw (si (su (si (su S 0 8 (((p0).toUInt32 >>> ((24 : Int32).toUInt32 &&& Int32.toUInt32 31)).toInt32 &&& 255)) 0 9) 0 9 (((p0).toUInt32 >>> ((16 : Int32).toUInt32 &&& Int32.toUInt32 31)).toInt32 &&& 255)) 0 10)) rfl rfl dX11_feedFour_15 ?_
  refine z_icmp_ge_f (tgt := 45) b dX11_feedFour_16 (by decide) (by decide) ?_
  refine z_aload_n b dX11_feedFour_19 rfl rfl ?_
  refine z_get (q0 := 0) (k9 := 0) (v := .ref (a 1)) b (cw_0 cy tE a rw (si (su (si (su S 0 8 (((p0).toUInt32 >>> ((24 : Int32).toUInt32 &&& Int32.toUInt32 31)).toInt32 &&& 255)) 0 9) 0 9 (((p0).toUInt32 >>> ((16 : Int32).toUInt32 &&& Int32.toUInt32 31)).toInt32 &&& 255)) 0 10)) rfl in_X11 (by decide) wf_X11_9 rfl dX11_feedFour_20 ?_
  refine z_aload_n b dX11_feedFour_23 rfl rfl ?_
  refine z_get (q0 := 0) (k9 := 1) (v := .int 10) b (cw_0 cy tE a rw (si (su (si (su S 0 8 (((p0).toUInt32 >>> ((24 : Int32).toUInt32 &&& Int32.toUInt32 31)).toInt32 &&& 255)) 0 9) 0 9 (((p0).toUInt32 >>> ((16 : Int32).toUInt32 &&& Int32.toUInt32 31)).toInt32 &&& 255)) 0 10)) rfl in_X11 (by decide) wf_X11_13 rfl dX11_feedFour_24 ?_
  refine z_iload_n b dX11_feedFour_27 rfl rfl ?_
  refine z_iload_n b dX11_feedFour_28 rfl rfl ?_
  refine z_iushr b dX11_feedFour_29 rfl ?_
  refine z_sipush (v := 255) b dX11_feedFour_30 (by decide) ?_
  refine z_iand b dX11_feedFour_33 rfl ?_
  refine y_iast (q0 := 1) (j := 10) b (cw_1 cy tE a rw (si (su (si (su S 0 8 (((p0).toUInt32 >>> ((24 : Int32).toUInt32 &&& Int32.toUInt32 31)).toInt32 &&& 255)) 0 9) 0 9 (((p0).toUInt32 >>> ((16 : Int32).toUInt32 &&& Int32.toUInt32 31)).toInt32 &&& 255)) 0 10)) (by decide) dX11_feedFour_34 (cwa_1 cy tE a rw (si (su (si (su S 0 8 (((p0).toUInt32 >>> ((24 : Int32).toUInt32 &&& Int32.toUInt32 31)).toInt32 &&& 255)) 0 9) 0 9 (((p0).toUInt32 >>> ((16 : Int32).toUInt32 &&& Int32.toUInt32 31)).toInt32 &&& 255)) 0 10) 10 (((p0).toUInt32 >>> ((8 : Int32).toUInt32 &&& Int32.toUInt32 31)).toInt32 &&& 255)) ?_
  refine z_aload_n b dX11_feedFour_35 rfl rfl ?_
  refine z_dup b dX11_feedFour_36 rfl ?_
  refine z_get (q0 := 0) (k9 := 1) (v := .int 10) b (cw_0 cy tE a rw (su (si (su (si (su S 0 8 (((p0).toUInt32 >>> ((24 : Int32).toUInt32 &&& Int32.toUInt32 31)).toInt32 &&& 255)) 0 9) 0 9 (((p0).toUInt32 >>> ((16 : Int32).toUInt32 &&& Int32.toUInt32 31)).toInt32 &&& 255)) 0 10) 0 10 (((p0).toUInt32 >>> ((8 : Int32).toUInt32 &&& Int32.toUInt32 31)).toInt32 &&& 255))) rfl in_X11 (by decide) wf_X11_13 rfl dX11_feedFour_37 ?_
  refine z_iconst (v := 1) b dX11_feedFour_40 (by decide) ?_
  refine z_iadd (v := 11) b dX11_feedFour_41 (by decide) ?_
  refine z_put (q0 := 0) (k9 := 1) tyX11 b (cw_0 cy tE a rw (su (si (su (si (su S 0 8 (((p0).toUInt32 >>> ((24 : Int32).toUInt32 &&& Int32.toUInt32 31)).toInt32 &&& 255)) 0 9) 0 9 (((p0).toUInt32 >>> ((16 : Int32).toUInt32 &&& Int32.toUInt32 31)).toInt32 &&& 255)) 0 10) 0 10 (((p0).toUInt32 >>> ((8 : Int32).toUInt32 &&& Int32.toUInt32 31)).toInt32 &&& 255))) rfl in_X11 tyX11_ok nmX11 (by decide) wf_X11_13 rfl rfl rfl rfl (Nat.le_of_ble_eq_true rfl) dX11_feedFour_42 (cwp_0_1 cy tE a rw (su (si (su (si (su S 0 8 (((p0).toUInt32 >>> ((24 : Int32).toUInt32 &&& Int32.toUInt32 31)).toInt32 &&& 255)) 0 9) 0 9 (((p0).toUInt32 >>> ((16 : Int32).toUInt32 &&& Int32.toUInt32 31)).toInt32 &&& 255)) 0 10) 0 10 (((p0).toUInt32 >>> ((8 : Int32).toUInt32 &&& Int32.toUInt32 31)).toInt32 &&& 255)) 11) ?_
  refine z_iinc (k9 := 0) (v := 0) (lv' := [(2, .int 0), (0, .ref (a 0)), (1, .int p0)]) b dX11_feedFour_45 rfl (by decide) (by decide) rfl ?_
  refine z_goto (tgt := 3) b dX11_feedFour_48 (by decide) ?_
  refine z_iload_n b dX11_feedFour_3 rfl rfl ?_
  refine z_if_lt_f (tgt := 51) b dX11_feedFour_4 (by decide) (by decide) ?_
  refine z_aload_n b dX11_feedFour_7 rfl rfl ?_
  refine z_get (q0 := 0) (k9 := 1) (v := .int 11) b (cw_0 cy tE a rw (si (su (si (su (si (su S 0 8 (((p0).toUInt32 >>> ((24 : Int32).toUInt32 &&& Int32.toUInt32 31)).toInt32 &&& 255)) 0 9) 0 9 (((p0).toUInt32 >>> ((16 : Int32).toUInt32 &&& Int32.toUInt32 31)).toInt32 &&& 255)) 0 10) 0 10 (((p0).toUInt32 >>> ((8 : Int32).toUInt32 &&& Int32.toUInt32 31)).toInt32 &&& 255)) 0 11)) rfl in_X11 (by decide) wf_X11_13 rfl dX11_feedFour_8 ?_
  refine z_aload_n b dX11_feedFour_11 rfl rfl ?_
  refine z_get (q0 := 0) (k9 := 0) (v := .ref (a 1)) b (cw_0 cy tE a rw (si (su (si (su (si (su S 0 8 (((p0).toUInt32 >>> ((24 : Int32).toUInt32 &&& Int32.toUInt32 31)).toInt32 &&& 255)) 0 9) 0 9 (((p0).toUInt32 >>> ((16 : Int32).toUInt32 &&& Int32.toUInt32 31)).toInt32 &&& 255)) 0 10) 0 10 (((p0).toUInt32 >>> ((8 : Int32).toUInt32 &&& Int32.toUInt32 31)).toInt32 &&& 255)) 0 11)) rfl in_X11 (by decide) wf_X11_9 rfl dX11_feedFour_12 ?_
  refine z_alen (q0 := 1) (t0 := 0) (v := 700) b (cw_1 cy tE a rw (si (su (si (su (si (su S 0 8 (((p0).toUInt32 >>> ((24 : Int32).toUInt32 &&& Int32.toUInt32 31)).toInt32 &&& 255)) 0 9) 0 9 (((p0).toUInt32 >>> ((16 : Int32).toUInt32 &&& Int32.toUInt32 31)).toInt32 &&& 255)) 0 10) 0 10 (((p0).toUInt32 >>> ((8 : Int32).toUInt32 &&& Int32.toUInt32 31)).toInt32 &&& 255)) 0 11)) rfl rfl dX11_feedFour_15 ?_
  refine z_icmp_ge_f (tgt := 45) b dX11_feedFour_16 (by decide) (by decide) ?_
  refine z_aload_n b dX11_feedFour_19 rfl rfl ?_
  refine z_get (q0 := 0) (k9 := 0) (v := .ref (a 1)) b (cw_0 cy tE a rw (si (su (si (su (si (su S 0 8 (((p0).toUInt32 >>> ((24 : Int32).toUInt32 &&& Int32.toUInt32 31)).toInt32 &&& 255)) 0 9) 0 9 (((p0).toUInt32 >>> ((16 : Int32).toUInt32 &&& Int32.toUInt32 31)).toInt32 &&& 255)) 0 10) 0 10 (((p0).toUInt32 >>> ((8 : Int32).toUInt32 &&& Int32.toUInt32 31)).toInt32 &&& 255)) 0 11)) rfl in_X11 (by decide) wf_X11_9 rfl dX11_feedFour_20 ?_
  refine z_aload_n b dX11_feedFour_23 rfl rfl ?_
  refine z_get (q0 := 0) (k9 := 1) (v := .int 11) b (cw_0 cy tE a rw (si (su (si (su (si (su S 0 8 (((p0).toUInt32 >>> ((24 : Int32).toUInt32 &&& Int32.toUInt32 31)).toInt32 &&& 255)) 0 9) 0 9 (((p0).toUInt32 >>> ((16 : Int32).toUInt32 &&& Int32.toUInt32 31)).toInt32 &&& 255)) 0 10) 0 10 (((p0).toUInt32 >>> ((8 : Int32).toUInt32 &&& Int32.toUInt32 31)).toInt32 &&& 255)) 0 11)) rfl in_X11 (by decide) wf_X11_13 rfl dX11_feedFour_24 ?_
  refine z_iload_n b dX11_feedFour_27 rfl rfl ?_
  refine z_iload_n b dX11_feedFour_28 rfl rfl ?_
  refine z_iushr b dX11_feedFour_29 rfl ?_
  refine z_sipush (v := 255) b dX11_feedFour_30 (by decide) ?_
  refine z_iand b dX11_feedFour_33 rfl ?_
  refine y_iast (q0 := 1) (j := 11) b (cw_1 cy tE a rw (si (su (si (su (si (su S 0 8 (((p0).toUInt32 >>> ((24 : Int32).toUInt32 &&& Int32.toUInt32 31)).toInt32 &&& 255)) 0 9) 0 9 (((p0).toUInt32 >>> ((16 : Int32).toUInt32 &&& Int32.toUInt32 31)).toInt32 &&& 255)) 0 10) 0 10 (((p0).toUInt32 >>> ((8 : Int32).toUInt32 &&& Int32.toUInt32 31)).toInt32 &&& 255)) 0 11)) (by decide) dX11_feedFour_34 (cwa_1 cy tE a rw (si (su (si (su (si (su S 0 8 (((p0).toUInt32 >>> ((24 : Int32).toUInt32 &&& Int32.toUInt32 31)).toInt32 &&& 255)) 0 9) 0 9 (((p0).toUInt32 >>> ((16 : Int32).toUInt32 &&& Int32.toUInt32 31)).toInt32 &&& 255)) 0 10) 0 10 (((p0).toUInt32 >>> ((8 : Int32).toUInt32 &&& Int32.toUInt32 31)).toInt32 &&& 255)) 0 11) 11 (((p0).toUInt32 >>> ((0 : Int32).toUInt32 &&& Int32.toUInt32 31)).toInt32 &&& 255)) ?_
  refine z_aload_n b dX11_feedFour_35 rfl rfl ?_
  refine z_dup b dX11_feedFour_36 rfl ?_
  refine z_get (q0 := 0) (k9 := 1) (v := .int 11) b (cw_0 cy tE a rw (su (si (su (si (su (si (su S 0 8 (((p0).toUInt32 >>> ((24 : Int32).toUInt32 &&& Int32.toUInt32 31)).toInt32 &&& 255)) 0 9) 0 9 (((p0).toUInt32 >>> ((16 : Int32).toUInt32 &&& Int32.toUInt32 31)).toInt32 &&& 255)) 0 10) 0 10 (((p0).toUInt32 >>> ((8 : Int32).toUInt32 &&& Int32.toUInt32 31)).toInt32 &&& 255)) 0 11) 0 11 (((p0).toUInt32 >>> ((0 : Int32).toUInt32 &&& Int32.toUInt32 31)).toInt32 &&& 255))) rfl in_X11 (by decide) wf_X11_13 rfl dX11_feedFour_37 ?_
  refine z_iconst (v := 1) b dX11_feedFour_40 (by decide) ?_
  refine z_iadd (v := 12) b dX11_feedFour_41 (by decide) ?_
  refine z_put (q0 := 0) (k9 := 1) tyX11 b (cw_0 cy tE a rw (su (si (su (si (su (si (su S 0 8 (((p0).toUInt32 >>> ((24 : Int32).toUInt32 &&& Int32.toUInt32 31)).toInt32 &&& 255)) 0 9) 0 9 (((p0).toUInt32 >>> ((16 : Int32).toUInt32 &&& Int32.toUInt32 31)).toInt32 &&& 255)) 0 10) 0 10 (((p0).toUInt32 >>> ((8 : Int32).toUInt32 &&& Int32.toUInt32 31)).toInt32 &&& 255)) 0 11) 0 11 (((p0).toUInt32 >>> ((0 : Int32).toUInt32 &&& Int32.toUInt32 31)).toInt32 &&& 255))) rfl in_X11 tyX11_ok nmX11 (by decide) wf_X11_13 rfl rfl rfl rfl (Nat.le_of_ble_eq_true rfl) dX11_feedFour_42 (cwp_0_1 cy tE a rw (su (si (su (si (su (si (su S 0 8 (((p0).toUInt32 >>> ((24 : Int32).toUInt32 &&& Int32.toUInt32 31)).toInt32 &&& 255)) 0 9) 0 9 (((p0).toUInt32 >>> ((16 : Int32).toUInt32 &&& Int32.toUInt32 31)).toInt32 &&& 255)) 0 10) 0 10 (((p0).toUInt32 >>> ((8 : Int32).toUInt32 &&& Int32.toUInt32 31)).toInt32 &&& 255)) 0 11) 0 11 (((p0).toUInt32 >>> ((0 : Int32).toUInt32 &&& Int32.toUInt32 31)).toInt32 &&& 255)) 12) ?_
  refine z_iinc (k9 := 0) (v := (-8)) (lv' := [(2, .int (-8)), (0, .ref (a 0)), (1, .int p0)]) b dX11_feedFour_45 rfl (by decide) (by decide) rfl ?_
  refine z_goto (tgt := 3) b dX11_feedFour_48 (by decide) ?_
  refine z_iload_n b dX11_feedFour_3 rfl rfl ?_
  refine z_if_lt_t (tgt := 51) b dX11_feedFour_4 (by decide) (by decide) ?_
  exact z_vret (u := (si (su (si (su (si (su (si (su S 0 8 (((p0).toUInt32 >>> ((24 : Int32).toUInt32 &&& Int32.toUInt32 31)).toInt32 &&& 255)) 0 9) 0 9 (((p0).toUInt32 >>> ((16 : Int32).toUInt32 &&& Int32.toUInt32 31)).toInt32 &&& 255)) 0 10) 0 10 (((p0).toUInt32 >>> ((8 : Int32).toUInt32 &&& Int32.toUInt32 31)).toInt32 &&& 255)) 0 11) 0 11 (((p0).toUInt32 >>> ((0 : Int32).toUInt32 &&& Int32.toUInt32 31)).toInt32 &&& 255)) 0 12)) b rfl dX11_feedFour_51 rfl rfl (by decide) (by decide)

set_option maxHeartbeats 4000000 in
set_option maxRecDepth 100000 in
theorem c_X11_feedFour_4 {l : Launch} {D : va_G} {cy : Nat → ClassId} {T0 tB tE : Nat} {a : Nat → Nat} {rw : Nat → Option Nat} (S : GS) (p0 : Int32) (h_i_0 : fi S 0 = 12) : Ct l D cy T0 tB tE yX11_feedFour cX11_feedFour 3 none 0 0 0 0 (cw cy tE a rw S) [.ref (a 0), .int p0] (QV D (U := GS) (fun u => si (su (si (su (si (su (si (su S 0 12 (((p0).toUInt32 >>> ((24 : Int32).toUInt32 &&& Int32.toUInt32 31)).toInt32 &&& 255)) 0 13) 0 13 (((p0).toUInt32 >>> ((16 : Int32).toUInt32 &&& Int32.toUInt32 31)).toInt32 &&& 255)) 0 14) 0 14 (((p0).toUInt32 >>> ((8 : Int32).toUInt32 &&& Int32.toUInt32 31)).toInt32 &&& 255)) 0 15) 0 15 (((p0).toUInt32 >>> ((0 : Int32).toUInt32 &&& Int32.toUInt32 31)).toInt32 &&& 255)) 0 16 = u) (cw cy tE a rw)) := by
  refine Ct.ofZ RX11 "feedFour" [(0, .ref (a 0)), (1, .int p0)] rfl rfl rfl rfl (Nat.le_of_ble_eq_true rfl) ?_
  intro p e R s m args below meth c A b
  refine z_bipush (v := 24) b dX11_feedFour_0 (by decide) ?_
  refine z_istore_n (lv' := [(2, .int 24), (0, .ref (a 0)), (1, .int p0)]) b dX11_feedFour_2 rfl (by decide) rfl ?_
  refine z_iload_n b dX11_feedFour_3 rfl rfl ?_
  refine z_if_lt_f (tgt := 51) b dX11_feedFour_4 (by decide) (by decide) ?_
  refine z_aload_n b dX11_feedFour_7 rfl rfl ?_
  refine z_get (q0 := 0) (k9 := 1) (v := .int (fi S 0)) b (cw_0 cy tE a rw S) rfl in_X11 (by decide) wf_X11_13 rfl dX11_feedFour_8 ?_
  refine z_eqi h_i_0 ?_
  refine z_aload_n b dX11_feedFour_11 rfl rfl ?_
  refine z_get (q0 := 0) (k9 := 0) (v := .ref (a 1)) b (cw_0 cy tE a rw S) rfl in_X11 (by decide) wf_X11_9 rfl dX11_feedFour_12 ?_
  refine z_alen (q0 := 1) (t0 := 0) (v := 700) b (cw_1 cy tE a rw S) rfl rfl dX11_feedFour_15 ?_
  refine z_icmp_ge_f (tgt := 45) b dX11_feedFour_16 (by decide) (by decide) ?_
  refine z_aload_n b dX11_feedFour_19 rfl rfl ?_
  refine z_get (q0 := 0) (k9 := 0) (v := .ref (a 1)) b (cw_0 cy tE a rw S) rfl in_X11 (by decide) wf_X11_9 rfl dX11_feedFour_20 ?_
  refine z_aload_n b dX11_feedFour_23 rfl rfl ?_
  refine z_get (q0 := 0) (k9 := 1) (v := .int (fi S 0)) b (cw_0 cy tE a rw S) rfl in_X11 (by decide) wf_X11_13 rfl dX11_feedFour_24 ?_
  refine z_eqi h_i_0 ?_
  refine z_iload_n b dX11_feedFour_27 rfl rfl ?_
  refine z_iload_n b dX11_feedFour_28 rfl rfl ?_
  refine z_iushr b dX11_feedFour_29 rfl ?_
  refine z_sipush (v := 255) b dX11_feedFour_30 (by decide) ?_
  refine z_iand b dX11_feedFour_33 rfl ?_
  refine y_iast (q0 := 1) (j := 12) b (cw_1 cy tE a rw S) (by decide) dX11_feedFour_34 (cwa_1 cy tE a rw S 12 (((p0).toUInt32 >>> ((24 : Int32).toUInt32 &&& Int32.toUInt32 31)).toInt32 &&& 255)) ?_
  refine z_aload_n b dX11_feedFour_35 rfl rfl ?_
  refine z_dup b dX11_feedFour_36 rfl ?_
  refine z_get (q0 := 0) (k9 := 1) (v := .int (fi (su S 0 12 (((p0).toUInt32 >>> ((24 : Int32).toUInt32 &&& Int32.toUInt32 31)).toInt32 &&& 255)) 0)) b (cw_0 cy tE a rw (su S 0 12 (((p0).toUInt32 >>> ((24 : Int32).toUInt32 &&& Int32.toUInt32 31)).toInt32 &&& 255))) rfl in_X11 (by decide) wf_X11_13 rfl dX11_feedFour_37 ?_
  refine z_eqi h_i_0 ?_
  refine z_iconst (v := 1) b dX11_feedFour_40 (by decide) ?_
  refine z_iadd (v := 13) b dX11_feedFour_41 (by decide) ?_
  refine z_put (q0 := 0) (k9 := 1) tyX11 b (cw_0 cy tE a rw (su S 0 12 (((p0).toUInt32 >>> ((24 : Int32).toUInt32 &&& Int32.toUInt32 31)).toInt32 &&& 255))) rfl in_X11 tyX11_ok nmX11 (by decide) wf_X11_13 rfl rfl rfl rfl (Nat.le_of_ble_eq_true rfl) dX11_feedFour_42 (cwp_0_1 cy tE a rw (su S 0 12 (((p0).toUInt32 >>> ((24 : Int32).toUInt32 &&& Int32.toUInt32 31)).toInt32 &&& 255)) 13) ?_
  refine z_iinc (k9 := 0) (v := 16) (lv' := [(2, .int 16), (0, .ref (a 0)), (1, .int p0)]) b dX11_feedFour_45 rfl (by decide) (by decide) rfl ?_
  refine z_goto (tgt := 3) b dX11_feedFour_48 (by decide) ?_
  refine z_iload_n b dX11_feedFour_3 rfl rfl ?_
  refine z_if_lt_f (tgt := 51) b dX11_feedFour_4 (by decide) (by decide) ?_
  refine z_aload_n b dX11_feedFour_7 rfl rfl ?_
  refine z_get (q0 := 0) (k9 := 1) (v := .int 13) b (cw_0 cy tE a rw (si (su S 0 12 (((p0).toUInt32 >>> ((24 : Int32).toUInt32 &&& Int32.toUInt32 31)).toInt32 &&& 255)) 0 13)) rfl in_X11 (by decide) wf_X11_13 rfl dX11_feedFour_8 ?_
  refine z_aload_n b dX11_feedFour_11 rfl rfl ?_
  refine z_get (q0 := 0) (k9 := 0) (v := .ref (a 1)) b (cw_0 cy tE a rw (si (su S 0 12 (((p0).toUInt32 >>> ((24 : Int32).toUInt32 &&& Int32.toUInt32 31)).toInt32 &&& 255)) 0 13)) rfl in_X11 (by decide) wf_X11_9 rfl dX11_feedFour_12 ?_
  refine z_alen (q0 := 1) (t0 := 0) (v := 700) b (cw_1 cy tE a rw (si (su S 0 12 (((p0).toUInt32 >>> ((24 : Int32).toUInt32 &&& Int32.toUInt32 31)).toInt32 &&& 255)) 0 13)) rfl rfl dX11_feedFour_15 ?_
  refine z_icmp_ge_f (tgt := 45) b dX11_feedFour_16 (by decide) (by decide) ?_
  refine z_aload_n b dX11_feedFour_19 rfl rfl ?_
  refine z_get (q0 := 0) (k9 := 0) (v := .ref (a 1)) b (cw_0 cy tE a rw (si (su S 0 12 (((p0).toUInt32 >>> ((24 : Int32).toUInt32 &&& Int32.toUInt32 31)).toInt32 &&& 255)) 0 13)) rfl in_X11 (by decide) wf_X11_9 rfl dX11_feedFour_20 ?_
  refine z_aload_n b dX11_feedFour_23 rfl rfl ?_
  refine z_get (q0 := 0) (k9 := 1) (v := .int 13) b (cw_0 cy tE a rw (si (su S 0 12 (((p0).toUInt32 >>> ((24 : Int32).toUInt32 &&& Int32.toUInt32 31)).toInt32 &&& 255)) 0 13)) rfl in_X11 (by decide) wf_X11_13 rfl dX11_feedFour_24 ?_
  refine z_iload_n b dX11_feedFour_27 rfl rfl ?_
  refine z_iload_n b dX11_feedFour_28 rfl rfl ?_
  refine z_iushr b dX11_feedFour_29 rfl ?_
  refine z_sipush (v := 255) b dX11_feedFour_30 (by decide) ?_
  refine z_iand b dX11_feedFour_33 rfl ?_
  refine y_iast (q0 := 1) (j := 13) b (cw_1 cy tE a rw (si (su S 0 12 (((p0).toUInt32 >>> ((24 : Int32).toUInt32 &&& Int32.toUInt32 31)).toInt32 &&& 255)) 0 13)) (by decide) dX11_feedFour_34 (cwa_1 cy tE a rw (si (su S 0 12 (((p0).toUInt32 >>> ((24 : Int32).toUInt32 &&& Int32.toUInt32 31)).toInt32 &&& 255)) 0 13) 13 (((p0).toUInt32 >>> ((16 : Int32).toUInt32 &&& Int32.toUInt32 31)).toInt32 &&& 255)) ?_
  refine z_aload_n b dX11_feedFour_35 rfl rfl ?_
  refine z_dup b dX11_feedFour_36 rfl ?_
  refine z_get (q0 := 0) (k9 := 1) (v := .int 13) b (cw_0 cy tE a rw (su (si (su S 0 12 (((p0).toUInt32 >>> ((24 : Int32).toUInt32 &&& Int32.toUInt32 31)).toInt32 &&& 255)) 0 13) 0 13 (((p0).toUInt32 >>> ((16 : Int32).toUInt32 &&& Int32.toUInt32 31)).toInt32 &&& 255))) rfl in_X11 (by decide) wf_X11_13 rfl dX11_feedFour_37 ?_
  refine z_iconst (v := 1) b dX11_feedFour_40 (by decide) ?_
  refine z_iadd (v := 14) b dX11_feedFour_41 (by decide) ?_
  refine z_put (q0 := 0) (k9 := 1) tyX11 b (cw_0 cy tE a rw (su (si (su S 0 12 (((p0).toUInt32 >>> ((24 : Int32).toUInt32 &&& Int32.toUInt32 31)).toInt32 &&& 255)) 0 13) 0 13 (((p0).toUInt32 >>> ((16 : Int32).toUInt32 &&& Int32.toUInt32 31)).toInt32 &&& 255))) rfl in_X11 tyX11_ok nmX11 (by decide) wf_X11_13 rfl rfl rfl rfl (Nat.le_of_ble_eq_true rfl) dX11_feedFour_42 (cwp_0_1 cy tE a rw (su (si (su S 0 12 (((p0).toUInt32 >>> ((24 : Int32).toUInt32 &&& Int32.toUInt32 31)).toInt32 &&& 255)) 0 13) 0 13 (((p0).toUInt32 >>> ((16 : Int32).toUInt32 &&& Int32.toUInt32 31)).toInt32 &&& 255)) 14) ?_
  refine z_iinc (k9 := 0) (v := 8) (lv' := [(2, .int 8), (0, .ref (a 0)), (1, .int p0)]) b dX11_feedFour_45 rfl (by decide) (by decide) rfl ?_
  refine z_goto (tgt := 3) b dX11_feedFour_48 (by decide) ?_
  refine z_iload_n b dX11_feedFour_3 rfl rfl ?_
  refine z_if_lt_f (tgt := 51) b dX11_feedFour_4 (by decide) (by decide) ?_
  refine z_aload_n b dX11_feedFour_7 rfl rfl ?_
  refine z_get (q0 := 0) (k9 := 1) (v := .int 14) b (cw_0 cy tE a rw (si (su (si (su S 0 12 (((p0).toUInt32 >>> ((24 : Int32).toUInt32 &&& Int32.toUInt32 31)).toInt32 &&& 255)) 0 13) 0 13 (((p0).toUInt32 >>> ((16 : Int32).toUInt32 &&& Int32.toUInt32 31)).toInt32 &&& 255)) 0 14)) rfl in_X11 (by decide) wf_X11_13 rfl dX11_feedFour_8 ?_
  refine z_aload_n b dX11_feedFour_11 rfl rfl ?_
  refine z_get (q0 := 0) (k9 := 0) (v := .ref (a 1)) b (cw_0 cy tE a rw (si (su (si (su S 0 12 (((p0).toUInt32 >>> ((24 : Int32).toUInt32 &&& Int32.toUInt32 31)).toInt32 &&& 255)) 0 13) 0 13 (((p0).toUInt32 >>> ((16 : Int32).toUInt32 &&& Int32.toUInt32 31)).toInt32 &&& 255)) 0 14)) rfl in_X11 (by decide) wf_X11_9 rfl dX11_feedFour_12 ?_
  refine z_alen (q0 := 1) (t0 := 0) (v := 700) b (cw_1 cy tE a rw (si (su (si (su S 0 12 (((p0).toUInt32 >>> ((24 : Int32).toUInt32 &&& Int32.toUInt32 31)).toInt32 &&& 255)) 0 13) 0 13 (((p0).toUInt32 >>> ((16 : Int32).toUInt32 &&& Int32.toUInt32 31)).toInt32 &&& 255)) 0 14)) rfl rfl dX11_feedFour_15 ?_
  refine z_icmp_ge_f (tgt := 45) b dX11_feedFour_16 (by decide) (by decide) ?_
  refine z_aload_n b dX11_feedFour_19 rfl rfl ?_
  refine z_get (q0 := 0) (k9 := 0) (v := .ref (a 1)) b (cw_0 cy tE a rw (si (su (si (su S 0 12 (((p0).toUInt32 >>> ((24 : Int32).toUInt32 &&& Int32.toUInt32 31)).toInt32 &&& 255)) 0 13) 0 13 (((p0).toUInt32 >>> ((16 : Int32).toUInt32 &&& Int32.toUInt32 31)).toInt32 &&& 255)) 0 14)) rfl in_X11 (by decide) wf_X11_9 rfl dX11_feedFour_20 ?_
  refine z_aload_n b dX11_feedFour_23 rfl rfl ?_
  refine z_get (q0 := 0) (k9 := 1) (v := .int 14) b (cw_0 cy tE a rw (si (su (si (su S 0 12 (((p0).toUInt32 >>> ((24 : Int32).toUInt32 &&& Int32.toUInt32 31)).toInt32 &&& 255)) 0 13) 0 13 (((p0).toUInt32 >>> ((16 : Int32).toUInt32 &&& Int32.toUInt32 31)).toInt32 &&& 255)) 0 14)) rfl in_X11 (by decide) wf_X11_13 rfl dX11_feedFour_24 ?_
  refine z_iload_n b dX11_feedFour_27 rfl rfl ?_
  refine z_iload_n b dX11_feedFour_28 rfl rfl ?_
  refine z_iushr b dX11_feedFour_29 rfl ?_
  refine z_sipush (v := 255) b dX11_feedFour_30 (by decide) ?_
  refine z_iand b dX11_feedFour_33 rfl ?_
  refine y_iast (q0 := 1) (j := 14) b (cw_1 cy tE a rw (si (su (si (su S 0 12 (((p0).toUInt32 >>> ((24 : Int32).toUInt32 &&& Int32.toUInt32 31)).toInt32 &&& 255)) 0 13) 0 13 (((p0).toUInt32 >>> ((16 : Int32).toUInt32 &&& Int32.toUInt32 31)).toInt32 &&& 255)) 0 14)) (by decide) dX11_feedFour_34 (cwa_1 cy tE a rw (si (su (si (su S 0 12 (((p0).toUInt32 >>> ((24 : Int32).toUInt32 &&& Int32.toUInt32 31)).toInt32 &&& 255)) 0 13) 0 13 (((p0).toUInt32 >>> ((16 : Int32).toUInt32 &&& Int32.toUInt32 31)).toInt32 &&& 255)) 0 14) 14 (((p0).toUInt32 >>> ((8 : Int32).toUInt32 &&& Int32.toUInt32 31)).toInt32 &&& 255)) ?_
  refine z_aload_n b dX11_feedFour_35 rfl rfl ?_
  refine z_dup b dX11_feedFour_36 rfl ?_
  refine z_get (q0 := 0) (k9 := 1) (v := .int 14) b (cw_0 cy tE a rw (su (si (su (si (su S 0 12 (((p0).toUInt32 >>> ((24 : Int32).toUInt32 &&& Int32.toUInt32 31)).toInt32 &&& 255)) 0 13) 0 13 (((p0).toUInt32 >>> ((16 : Int32).toUInt32 &&& Int32.toUInt32 31)).toInt32 &&& 255)) 0 14) 0 14 (((p0).toUInt32 >>> ((8 : Int32).toUInt32 &&& Int32.toUInt32 31)).toInt32 &&& 255))) rfl in_X11 (by decide) wf_X11_13 rfl dX11_feedFour_37 ?_
  refine z_iconst (v := 1) b dX11_feedFour_40 (by decide) ?_
  refine z_iadd (v := 15) b dX11_feedFour_41 (by decide) ?_
  refine z_put (q0 := 0) (k9 := 1) tyX11 b (cw_0 cy tE a rw (su (si (su (si (su S 0 12 (((p0).toUInt32 >>> ((24 : Int32).toUInt32 &&& Int32.toUInt32 31)).toInt32 &&& 255)) 0 13) 0 13 (((p0).toUInt32 >>> ((16 : Int32).toUInt32 &&& Int32.toUInt32 31)).toInt32 &&& 255)) 0 14) 0 14 (((p0).toUInt32 >>> ((8 : Int32).toUInt32 &&& Int32.toUInt32 31)).toInt32 &&& 255))) rfl in_X11 tyX11_ok nmX11 (by decide) wf_X11_13 rfl rfl rfl rfl (Nat.le_of_ble_eq_true rfl) dX11_feedFour_42 (cwp_0_1 cy tE a rw (su (si (su (si (su S 0 12 (((p0).toUInt32 >>> ((24 : Int32).toUInt32 &&& Int32.toUInt32 31)).toInt32 &&& 255)) 0 13) 0 13 (((p0).toUInt32 >>> ((16 : Int32).toUInt32 &&& Int32.toUInt32 31)).toInt32 &&& 255)) 0 14) 0 14 (((p0).toUInt32 >>> ((8 : Int32).toUInt32 &&& Int32.toUInt32 31)).toInt32 &&& 255)) 15) ?_
  refine z_iinc (k9 := 0) (v := 0) (lv' := [(2, .int 0), (0, .ref (a 0)), (1, .int p0)]) b dX11_feedFour_45 rfl (by decide) (by decide) rfl ?_
  refine z_goto (tgt := 3) b dX11_feedFour_48 (by decide) ?_
  refine z_iload_n b dX11_feedFour_3 rfl rfl ?_
  refine z_if_lt_f (tgt := 51) b dX11_feedFour_4 (by decide) (by decide) ?_
  refine z_aload_n b dX11_feedFour_7 rfl rfl ?_
  refine z_get (q0 := 0) (k9 := 1) (v := .int 15) b (cw_0 cy tE a rw (si (su (si (su (si (su S 0 12 (((p0).toUInt32 >>> ((24 : Int32).toUInt32 &&& Int32.toUInt32 31)).toInt32 &&& 255)) 0 13) 0 13 (((p0).toUInt32 >>> ((16 : Int32).toUInt32 &&& Int32.toUInt32 31)).toInt32 &&& 255)) 0 14) 0 14 (((p0).toUInt32 >>> ((8 : Int32).toUInt32 &&& Int32.toUInt32 31)).toInt32 &&& 255)) 0 15)) rfl in_X11 (by decide) wf_X11_13 rfl dX11_feedFour_8 ?_
  refine z_aload_n b dX11_feedFour_11 rfl rfl ?_
  refine z_get (q0 := 0) (k9 := 0) (v := .ref (a 1)) b (cw_0 cy tE a rw (si (su (si (su (si (su S 0 12 (((p0).toUInt32 >>> ((24 : Int32).toUInt32 &&& Int32.toUInt32 31)).toInt32 &&& 255)) 0 13) 0 13 (((p0).toUInt32 >>> ((16 : Int32).toUInt32 &&& Int32.toUInt32 31)).toInt32 &&& 255)) 0 14) 0 14 (((p0).toUInt32 >>> ((8 : Int32).toUInt32 &&& Int32.toUInt32 31)).toInt32 &&& 255)) 0 15)) rfl in_X11 (by decide) wf_X11_9 rfl dX11_feedFour_12 ?_
  refine z_alen (q0 := 1) (t0 := 0) (v := 700) b (cw_1 cy tE a rw (si (su (si (su (si (su S 0 12 (((p0).toUInt32 >>> ((24 : Int32).toUInt32 &&& Int32.toUInt32 31)).toInt32 &&& 255)) 0 13) 0 13 (((p0).toUInt32 >>> ((16 : Int32).toUInt32 &&& Int32.toUInt32 31)).toInt32 &&& 255)) 0 14) 0 14 (((p0).toUInt32 >>> ((8 : Int32).toUInt32 &&& Int32.toUInt32 31)).toInt32 &&& 255)) 0 15)) rfl rfl dX11_feedFour_15 ?_
  refine z_icmp_ge_f (tgt := 45) b dX11_feedFour_16 (by decide) (by decide) ?_
  refine z_aload_n b dX11_feedFour_19 rfl rfl ?_
  refine z_get (q0 := 0) (k9 := 0) (v := .ref (a 1)) b (cw_0 cy tE a rw (si (su (si (su (si (su S 0 12 (((p0).toUInt32 >>> ((24 : Int32).toUInt32 &&& Int32.toUInt32 31)).toInt32 &&& 255)) 0 13) 0 13 (((p0).toUInt32 >>> ((16 : Int32).toUInt32 &&& Int32.toUInt32 31)).toInt32 &&& 255)) 0 14) 0 14 (((p0).toUInt32 >>> ((8 : Int32).toUInt32 &&& Int32.toUInt32 31)).toInt32 &&& 255)) 0 15)) rfl in_X11 (by decide) wf_X11_9 rfl dX11_feedFour_20 ?_
  refine z_aload_n b dX11_feedFour_23 rfl rfl ?_
  refine z_get (q0 := 0) (k9 := 1) (v := .int 15) b (cw_0 cy tE a rw (si (su (si (su (si (su S 0 12 (((p0).toUInt32 >>> ((24 : Int32).toUInt32 &&& Int32.toUInt32 31)).toInt32 &&& 255)) 0 13) 0 13 (((p0).toUInt32 >>> ((16 : Int32).toUInt32 &&& Int32.toUInt32 31)).toInt32 &&& 255)) 0 14) 0 14 (((p0).toUInt32 >>> ((8 : Int32).toUInt32 &&& Int32.toUInt32 31)).toInt32 &&& 255)) 0 15)) rfl in_X11 (by decide) wf_X11_13 rfl dX11_feedFour_24 ?_
  refine z_iload_n b dX11_feedFour_27 rfl rfl ?_
  refine z_iload_n b dX11_feedFour_28 rfl rfl ?_
  refine z_iushr b dX11_feedFour_29 rfl ?_
  refine z_sipush (v := 255) b dX11_feedFour_30 (by decide) ?_
  refine z_iand b dX11_feedFour_33 rfl ?_
  refine y_iast (q0 := 1) (j := 15) b (cw_1 cy tE a rw (si (su (si (su (si (su S 0 12 (((p0).toUInt32 >>> ((24 : Int32).toUInt32 &&& Int32.toUInt32 31)).toInt32 &&& 255)) 0 13) 0 13 (((p0).toUInt32 >>> ((16 : Int32).toUInt32 &&& Int32.toUInt32 31)).toInt32 &&& 255)) 0 14) 0 14 (((p0).toUInt32 >>> ((8 : Int32).toUInt32 &&& Int32.toUInt32 31)).toInt32 &&& 255)) 0 15)) (by decide) dX11_feedFour_34 (cwa_1 cy tE a rw (si (su (si (su (si (su S 0 12 (((p0).toUInt32 >>> ((24 : Int32).toUInt32 &&& Int32.toUInt32 31)).toInt32 &&& 255)) 0 13) 0 13 (((p0).toUInt32 >>> ((16 : Int32).toUInt32 &&& Int32.toUInt32 31)).toInt32 &&& 255)) 0 14) 0 14 (((p0).toUInt32 >>> ((8 : Int32).toUInt32 &&& Int32.toUInt32 31)).toInt32 &&& 255)) 0 15) 15 (((p0).toUInt32 >>> ((0 : Int32).toUInt32 &&& Int32.toUInt32 31)).toInt32 &&& 255)) ?_
  refine z_aload_n b dX11_feedFour_35 rfl rfl ?_
  refine z_dup b dX11_feedFour_36 rfl ?_
  refine z_get (q0 := 0) (k9 := 1) (v := .int 15) b (cw_0 cy tE a rw (su (si (su (si (su (si (su S 0 12 (((p0).toUInt32 >>> ((24 : Int32).toUInt32 &&& Int32.toUInt32 31)).toInt32 &&& 255)) 0 13) 0 13 (((p0).toUInt32 >>> ((16 : Int32).toUInt32 &&& Int32.toUInt32 31)).toInt32 &&& 255)) 0 14) 0 14 (((p0).toUInt32 >>> ((8 : Int32).toUInt32 &&& Int32.toUInt32 31)).toInt32 &&& 255)) 0 15) 0 15 (((p0).toUInt32 >>> ((0 : Int32).toUInt32 &&& Int32.toUInt32 31)).toInt32 &&& 255))) rfl in_X11 (by decide) wf_X11_13 rfl dX11_feedFour_37 ?_
  refine z_iconst (v := 1) b dX11_feedFour_40 (by decide) ?_
  refine z_iadd (v := 16) b dX11_feedFour_41 (by decide) ?_
  refine z_put (q0 := 0) (k9 := 1) tyX11 b (cw_0 cy tE a rw (su (si (su (si (su (si (su S 0 12 (((p0).toUInt32 >>> ((24 : Int32).toUInt32 &&& Int32.toUInt32 31)).toInt32 &&& 255)) 0 13) 0 13 (((p0).toUInt32 >>> ((16 : Int32).toUInt32 &&& Int32.toUInt32 31)).toInt32 &&& 255)) 0 14) 0 14 (((p0).toUInt32 >>> ((8 : Int32).toUInt32 &&& Int32.toUInt32 31)).toInt32 &&& 255)) 0 15) 0 15 (((p0).toUInt32 >>> ((0 : Int32).toUInt32 &&& Int32.toUInt32 31)).toInt32 &&& 255))) rfl in_X11 tyX11_ok nmX11 (by decide) wf_X11_13 rfl rfl rfl rfl (Nat.le_of_ble_eq_true rfl) dX11_feedFour_42 (cwp_0_1 cy tE a rw (su (si (su (si (su (si (su S 0 12 (((p0).toUInt32 >>> ((24 : Int32).toUInt32 &&& Int32.toUInt32 31)).toInt32 &&& 255)) 0 13) 0 13 (((p0).toUInt32 >>> ((16 : Int32).toUInt32 &&& Int32.toUInt32 31)).toInt32 &&& 255)) 0 14) 0 14 (((p0).toUInt32 >>> ((8 : Int32).toUInt32 &&& Int32.toUInt32 31)).toInt32 &&& 255)) 0 15) 0 15 (((p0).toUInt32 >>> ((0 : Int32).toUInt32 &&& Int32.toUInt32 31)).toInt32 &&& 255)) 16) ?_
  refine z_iinc (k9 := 0) (v := (-8)) (lv' := [(2, .int (-8)), (0, .ref (a 0)), (1, .int p0)]) b dX11_feedFour_45 rfl (by decide) (by decide) rfl ?_
  refine z_goto (tgt := 3) b dX11_feedFour_48 (by decide) ?_
  refine z_iload_n b dX11_feedFour_3 rfl rfl ?_
  refine z_if_lt_t (tgt := 51) b dX11_feedFour_4 (by decide) (by decide) ?_
  exact z_vret (u := (si (su (si (su (si (su (si (su S 0 12 (((p0).toUInt32 >>> ((24 : Int32).toUInt32 &&& Int32.toUInt32 31)).toInt32 &&& 255)) 0 13) 0 13 (((p0).toUInt32 >>> ((16 : Int32).toUInt32 &&& Int32.toUInt32 31)).toInt32 &&& 255)) 0 14) 0 14 (((p0).toUInt32 >>> ((8 : Int32).toUInt32 &&& Int32.toUInt32 31)).toInt32 &&& 255)) 0 15) 0 15 (((p0).toUInt32 >>> ((0 : Int32).toUInt32 &&& Int32.toUInt32 31)).toInt32 &&& 255)) 0 16)) b rfl dX11_feedFour_51 rfl rfl (by decide) (by decide)

set_option maxHeartbeats 4000000 in
set_option maxRecDepth 100000 in
theorem c_X11_feedFour_5 {l : Launch} {D : va_G} {cy : Nat → ClassId} {T0 tB tE : Nat} {a : Nat → Nat} {rw : Nat → Option Nat} (S : GS) (p0 : Int32) (h_i_0 : fi S 0 = 16) : Ct l D cy T0 tB tE yX11_feedFour cX11_feedFour 3 none 0 0 0 0 (cw cy tE a rw S) [.ref (a 0), .int p0] (QV D (U := GS) (fun u => si (su (si (su (si (su (si (su S 0 16 (((p0).toUInt32 >>> ((24 : Int32).toUInt32 &&& Int32.toUInt32 31)).toInt32 &&& 255)) 0 17) 0 17 (((p0).toUInt32 >>> ((16 : Int32).toUInt32 &&& Int32.toUInt32 31)).toInt32 &&& 255)) 0 18) 0 18 (((p0).toUInt32 >>> ((8 : Int32).toUInt32 &&& Int32.toUInt32 31)).toInt32 &&& 255)) 0 19) 0 19 (((p0).toUInt32 >>> ((0 : Int32).toUInt32 &&& Int32.toUInt32 31)).toInt32 &&& 255)) 0 20 = u) (cw cy tE a rw)) := by
  refine Ct.ofZ RX11 "feedFour" [(0, .ref (a 0)), (1, .int p0)] rfl rfl rfl rfl (Nat.le_of_ble_eq_true rfl) ?_
  intro p e R s m args below meth c A b
  refine z_bipush (v := 24) b dX11_feedFour_0 (by decide) ?_
  refine z_istore_n (lv' := [(2, .int 24), (0, .ref (a 0)), (1, .int p0)]) b dX11_feedFour_2 rfl (by decide) rfl ?_
  refine z_iload_n b dX11_feedFour_3 rfl rfl ?_
  refine z_if_lt_f (tgt := 51) b dX11_feedFour_4 (by decide) (by decide) ?_
  refine z_aload_n b dX11_feedFour_7 rfl rfl ?_
  refine z_get (q0 := 0) (k9 := 1) (v := .int (fi S 0)) b (cw_0 cy tE a rw S) rfl in_X11 (by decide) wf_X11_13 rfl dX11_feedFour_8 ?_
  refine z_eqi h_i_0 ?_
  refine z_aload_n b dX11_feedFour_11 rfl rfl ?_
  refine z_get (q0 := 0) (k9 := 0) (v := .ref (a 1)) b (cw_0 cy tE a rw S) rfl in_X11 (by decide) wf_X11_9 rfl dX11_feedFour_12 ?_
  refine z_alen (q0 := 1) (t0 := 0) (v := 700) b (cw_1 cy tE a rw S) rfl rfl dX11_feedFour_15 ?_
  refine z_icmp_ge_f (tgt := 45) b dX11_feedFour_16 (by decide) (by decide) ?_
  refine z_aload_n b dX11_feedFour_19 rfl rfl ?_
  refine z_get (q0 := 0) (k9 := 0) (v := .ref (a 1)) b (cw_0 cy tE a rw S) rfl in_X11 (by decide) wf_X11_9 rfl dX11_feedFour_20 ?_
  refine z_aload_n b dX11_feedFour_23 rfl rfl ?_
  refine z_get (q0 := 0) (k9 := 1) (v := .int (fi S 0)) b (cw_0 cy tE a rw S) rfl in_X11 (by decide) wf_X11_13 rfl dX11_feedFour_24 ?_
  refine z_eqi h_i_0 ?_
  refine z_iload_n b dX11_feedFour_27 rfl rfl ?_
  refine z_iload_n b dX11_feedFour_28 rfl rfl ?_
  refine z_iushr b dX11_feedFour_29 rfl ?_
  refine z_sipush (v := 255) b dX11_feedFour_30 (by decide) ?_
  refine z_iand b dX11_feedFour_33 rfl ?_
  refine y_iast (q0 := 1) (j := 16) b (cw_1 cy tE a rw S) (by decide) dX11_feedFour_34 (cwa_1 cy tE a rw S 16 (((p0).toUInt32 >>> ((24 : Int32).toUInt32 &&& Int32.toUInt32 31)).toInt32 &&& 255)) ?_
  refine z_aload_n b dX11_feedFour_35 rfl rfl ?_
  refine z_dup b dX11_feedFour_36 rfl ?_
  refine z_get (q0 := 0) (k9 := 1) (v := .int (fi (su S 0 16 (((p0).toUInt32 >>> ((24 : Int32).toUInt32 &&& Int32.toUInt32 31)).toInt32 &&& 255)) 0)) b (cw_0 cy tE a rw (su S 0 16 (((p0).toUInt32 >>> ((24 : Int32).toUInt32 &&& Int32.toUInt32 31)).toInt32 &&& 255))) rfl in_X11 (by decide) wf_X11_13 rfl dX11_feedFour_37 ?_
  refine z_eqi h_i_0 ?_
  refine z_iconst (v := 1) b dX11_feedFour_40 (by decide) ?_
  refine z_iadd (v := 17) b dX11_feedFour_41 (by decide) ?_
  refine z_put (q0 := 0) (k9 := 1) tyX11 b (cw_0 cy tE a rw (su S 0 16 (((p0).toUInt32 >>> ((24 : Int32).toUInt32 &&& Int32.toUInt32 31)).toInt32 &&& 255))) rfl in_X11 tyX11_ok nmX11 (by decide) wf_X11_13 rfl rfl rfl rfl (Nat.le_of_ble_eq_true rfl) dX11_feedFour_42 (cwp_0_1 cy tE a rw (su S 0 16 (((p0).toUInt32 >>> ((24 : Int32).toUInt32 &&& Int32.toUInt32 31)).toInt32 &&& 255)) 17) ?_
  refine z_iinc (k9 := 0) (v := 16) (lv' := [(2, .int 16), (0, .ref (a 0)), (1, .int p0)]) b dX11_feedFour_45 rfl (by decide) (by decide) rfl ?_
  refine z_goto (tgt := 3) b dX11_feedFour_48 (by decide) ?_
  refine z_iload_n b dX11_feedFour_3 rfl rfl ?_
  refine z_if_lt_f (tgt := 51) b dX11_feedFour_4 (by decide) (by decide) ?_
  refine z_aload_n b dX11_feedFour_7 rfl rfl ?_
  refine z_get (q0 := 0) (k9 := 1) (v := .int 17) b (cw_0 cy tE a rw (si (su S 0 16 (((p0).toUInt32 >>> ((24 : Int32).toUInt32 &&& Int32.toUInt32 31)).toInt32 &&& 255)) 0 17)) rfl in_X11 (by decide) wf_X11_13 rfl dX11_feedFour_8 ?_
  refine z_aload_n b dX11_feedFour_11 rfl rfl ?_
  refine z_get (q0 := 0) (k9 := 0) (v := .ref (a 1)) b (cw_0 cy tE a rw (si (su S 0 16 (((p0).toUInt32 >>> ((24 : Int32).toUInt32 &&& Int32.toUInt32 31)).toInt32 &&& 255)) 0 17)) rfl in_X11 (by decide) wf_X11_9 rfl dX11_feedFour_12 ?_
  refine z_alen (q0 := 1) (t0 := 0) (v := 700) b (cw_1 cy tE a rw (si (su S 0 16 (((p0).toUInt32 >>> ((24 : Int32).toUInt32 &&& Int32.toUInt32 31)).toInt32 &&& 255)) 0 17)) rfl rfl dX11_feedFour_15 ?_
  refine z_icmp_ge_f (tgt := 45) b dX11_feedFour_16 (by decide) (by decide) ?_
  refine z_aload_n b dX11_feedFour_19 rfl rfl ?_
  refine z_get (q0 := 0) (k9 := 0) (v := .ref (a 1)) b (cw_0 cy tE a rw (si (su S 0 16 (((p0).toUInt32 >>> ((24 : Int32).toUInt32 &&& Int32.toUInt32 31)).toInt32 &&& 255)) 0 17)) rfl in_X11 (by decide) wf_X11_9 rfl dX11_feedFour_20 ?_
  refine z_aload_n b dX11_feedFour_23 rfl rfl ?_
  refine z_get (q0 := 0) (k9 := 1) (v := .int 17) b (cw_0 cy tE a rw (si (su S 0 16 (((p0).toUInt32 >>> ((24 : Int32).toUInt32 &&& Int32.toUInt32 31)).toInt32 &&& 255)) 0 17)) rfl in_X11 (by decide) wf_X11_13 rfl dX11_feedFour_24 ?_
  refine z_iload_n b dX11_feedFour_27 rfl rfl ?_
  refine z_iload_n b dX11_feedFour_28 rfl rfl ?_
  refine z_iushr b dX11_feedFour_29 rfl ?_
  refine z_sipush (v := 255) b dX11_feedFour_30 (by decide) ?_
  refine z_iand b dX11_feedFour_33 rfl ?_
  refine y_iast (q0 := 1) (j := 17) b (cw_1 cy tE a rw (si (su S 0 16 (((p0).toUInt32 >>> ((24 : Int32).toUInt32 &&& Int32.toUInt32 31)).toInt32 &&& 255)) 0 17)) (by decide) dX11_feedFour_34 (cwa_1 cy tE a rw (si (su S 0 16 (((p0).toUInt32 >>> ((24 : Int32).toUInt32 &&& Int32.toUInt32 31)).toInt32 &&& 255)) 0 17) 17 (((p0).toUInt32 >>> ((16 : Int32).toUInt32 &&& Int32.toUInt32 31)).toInt32 &&& 255)) ?_
  refine z_aload_n b dX11_feedFour_35 rfl rfl ?_
  refine z_dup b dX11_feedFour_36 rfl ?_
  refine z_get (q0 := 0) (k9 := 1) (v := .int 17) b (cw_0 cy tE a rw (su (si (su S 0 16 (((p0).toUInt32 >>> ((24 : Int32).toUInt32 &&& Int32.toUInt32 31)).toInt32 &&& 255)) 0 17) 0 17 (((p0).toUInt32 >>> ((16 : Int32).toUInt32 &&& Int32.toUInt32 31)).toInt32 &&& 255))) rfl in_X11 (by decide) wf_X11_13 rfl dX11_feedFour_37 ?_
  refine z_iconst (v := 1) b dX11_feedFour_40 (by decide) ?_
  refine z_iadd (v := 18) b dX11_feedFour_41 (by decide) ?_
  refine z_put (q0 := 0) (k9 := 1) tyX11 b (cw_0 cy tE a rw (su (si (su S 0 16 (((p0).toUInt32 >>> ((24 : Int32).toUInt32 &&& Int32.toUInt32 31)).toInt32 &&& 255)) 0 17) 0 17 (((p0).toUInt32 >>> ((16 : Int32).toUInt32 &&& Int32.toUInt32 31)).toInt32 &&& 255))) rfl in_X11 tyX11_ok nmX11 (by decide) wf_X11_13 rfl rfl rfl rfl (Nat.le_of_ble_eq_true rfl) dX11_feedFour_42 (cwp_0_1 cy tE a rw (su (si (su S 0 16 (((p0).toUInt32 >>> ((24 : Int32).toUInt32 &&& Int32.toUInt32 31)).toInt32 &&& 255)) 0 17) 0 17 (((p0).toUInt32 >>> ((16 : Int32).toUInt32 &&& Int32.toUInt32 31)).toInt32 &&& 255)) 18) ?_
  refine z_iinc (k9 := 0) (v := 8) (lv' := [(2, .int 8), (0, .ref (a 0)), (1, .int p0)]) b dX11_feedFour_45 rfl (by decide) (by decide) rfl ?_
  refine z_goto (tgt := 3) b dX11_feedFour_48 (by decide) ?_
  refine z_iload_n b dX11_feedFour_3 rfl rfl ?_
  refine z_if_lt_f (tgt := 51) b dX11_feedFour_4 (by decide) (by decide) ?_
  refine z_aload_n b dX11_feedFour_7 rfl rfl ?_
  refine z_get (q0 := 0) (k9 := 1) (v := .int 18) b (cw_0 cy tE a rw (si (su (si (su S 0 16 (((p0).toUInt32 >>> ((24 : Int32).toUInt32 &&& Int32.toUInt32 31)).toInt32 &&& 255)) 0 17) 0 17 (((p0).toUInt32 >>> ((16 : Int32).toUInt32 &&& Int32.toUInt32 31)).toInt32 &&& 255)) 0 18)) rfl in_X11 (by decide) wf_X11_13 rfl dX11_feedFour_8 ?_
  refine z_aload_n b dX11_feedFour_11 rfl rfl ?_
  refine z_get (q0 := 0) (k9 := 0) (v := .ref (a 1)) b (cw_0 cy tE a rw (si (su (si (su S 0 16 (((p0).toUInt32 >>> ((24 : Int32).toUInt32 &&& Int32.toUInt32 31)).toInt32 &&& 255)) 0 17) 0 17 (((p0).toUInt32 >>> ((16 : Int32).toUInt32 &&& Int32.toUInt32 31)).toInt32 &&& 255)) 0 18)) rfl in_X11 (by decide) wf_X11_9 rfl dX11_feedFour_12 ?_
  refine z_alen (q0 := 1) (t0 := 0) (v := 700) b (cw_1 cy tE a rw (si (su (si (su S 0 16 (((p0).toUInt32 >>> ((24 : Int32).toUInt32 &&& Int32.toUInt32 31)).toInt32 &&& 255)) 0 17) 0 17 (((p0).toUInt32 >>> ((16 : Int32).toUInt32 &&& Int32.toUInt32 31)).toInt32 &&& 255)) 0 18)) rfl rfl dX11_feedFour_15 ?_
  refine z_icmp_ge_f (tgt := 45) b dX11_feedFour_16 (by decide) (by decide) ?_
  refine z_aload_n b dX11_feedFour_19 rfl rfl ?_
  refine z_get (q0 := 0) (k9 := 0) (v := .ref (a 1)) b (cw_0 cy tE a rw (si (su (si (su S 0 16 (((p0).toUInt32 >>> ((24 : Int32).toUInt32 &&& Int32.toUInt32 31)).toInt32 &&& 255)) 0 17) 0 17 (((p0).toUInt32 >>> ((16 : Int32).toUInt32 &&& Int32.toUInt32 31)).toInt32 &&& 255)) 0 18)) rfl in_X11 (by decide) wf_X11_9 rfl dX11_feedFour_20 ?_
  refine z_aload_n b dX11_feedFour_23 rfl rfl ?_
  refine z_get (q0 := 0) (k9 := 1) (v := .int 18) b (cw_0 cy tE a rw (si (su (si (su S 0 16 (((p0).toUInt32 >>> ((24 : Int32).toUInt32 &&& Int32.toUInt32 31)).toInt32 &&& 255)) 0 17) 0 17 (((p0).toUInt32 >>> ((16 : Int32).toUInt32 &&& Int32.toUInt32 31)).toInt32 &&& 255)) 0 18)) rfl in_X11 (by decide) wf_X11_13 rfl dX11_feedFour_24 ?_
  refine z_iload_n b dX11_feedFour_27 rfl rfl ?_
  refine z_iload_n b dX11_feedFour_28 rfl rfl ?_
  refine z_iushr b dX11_feedFour_29 rfl ?_
  refine z_sipush (v := 255) b dX11_feedFour_30 (by decide) ?_
  refine z_iand b dX11_feedFour_33 rfl ?_
  refine y_iast (q0 := 1) (j := 18) b (cw_1 cy tE a rw (si (su (si (su S 0 16 (((p0).toUInt32 >>> ((24 : Int32).toUInt32 &&& Int32.toUInt32 31)).toInt32 &&& 255)) 0 17) 0 17 (((p0).toUInt32 >>> ((16 : Int32).toUInt32 &&& Int32.toUInt32 31)).toInt32 &&& 255)) 0 18)) (by decide) dX11_feedFour_34 (cwa_1 cy tE a rw (si (su (si (su S 0 16 (((p0).toUInt32 >>> ((24 : Int32).toUInt32 &&& Int32.toUInt32 31)).toInt32 &&& 255)) 0 17) 0 17 (((p0).toUInt32 >>> ((16 : Int32).toUInt32 &&& Int32.toUInt32 31)).toInt32 &&& 255)) 0 18) 18 (((p0).toUInt32 >>> ((8 : Int32).toUInt32 &&& Int32.toUInt32 31)).toInt32 &&& 255)) ?_
  refine z_aload_n b dX11_feedFour_35 rfl rfl ?_
  refine z_dup b dX11_feedFour_36 rfl ?_
  refine z_get (q0 := 0) (k9 := 1) (v := .int 18) b (cw_0 cy tE a rw (su (si (su (si (su S 0 16 (((p0).toUInt32 >>> ((24 : Int32).toUInt32 &&& Int32.toUInt32 31)).toInt32 &&& 255)) 0 17) 0 17 (((p0).toUInt32 >>> ((16 : Int32).toUInt32 &&& Int32.toUInt32 31)).toInt32 &&& 255)) 0 18) 0 18 (((p0).toUInt32 >>> ((8 : Int32).toUInt32 &&& Int32.toUInt32 31)).toInt32 &&& 255))) rfl in_X11 (by decide) wf_X11_13 rfl dX11_feedFour_37 ?_
  refine z_iconst (v := 1) b dX11_feedFour_40 (by decide) ?_
  refine z_iadd (v := 19) b dX11_feedFour_41 (by decide) ?_
  refine z_put (q0 := 0) (k9 := 1) tyX11 b (cw_0 cy tE a rw (su (si (su (si (su S 0 16 (((p0).toUInt32 >>> ((24 : Int32).toUInt32 &&& Int32.toUInt32 31)).toInt32 &&& 255)) 0 17) 0 17 (((p0).toUInt32 >>> ((16 : Int32).toUInt32 &&& Int32.toUInt32 31)).toInt32 &&& 255)) 0 18) 0 18 (((p0).toUInt32 >>> ((8 : Int32).toUInt32 &&& Int32.toUInt32 31)).toInt32 &&& 255))) rfl in_X11 tyX11_ok nmX11 (by decide) wf_X11_13 rfl rfl rfl rfl (Nat.le_of_ble_eq_true rfl) dX11_feedFour_42 (cwp_0_1 cy tE a rw (su (si (su (si (su S 0 16 (((p0).toUInt32 >>> ((24 : Int32).toUInt32 &&& Int32.toUInt32 31)).toInt32 &&& 255)) 0 17) 0 17 (((p0).toUInt32 >>> ((16 : Int32).toUInt32 &&& Int32.toUInt32 31)).toInt32 &&& 255)) 0 18) 0 18 (((p0).toUInt32 >>> ((8 : Int32).toUInt32 &&& Int32.toUInt32 31)).toInt32 &&& 255)) 19) ?_
  refine z_iinc (k9 := 0) (v := 0) (lv' := [(2, .int 0), (0, .ref (a 0)), (1, .int p0)]) b dX11_feedFour_45 rfl (by decide) (by decide) rfl ?_
  refine z_goto (tgt := 3) b dX11_feedFour_48 (by decide) ?_
  refine z_iload_n b dX11_feedFour_3 rfl rfl ?_
  refine z_if_lt_f (tgt := 51) b dX11_feedFour_4 (by decide) (by decide) ?_
  refine z_aload_n b dX11_feedFour_7 rfl rfl ?_
  refine z_get (q0 := 0) (k9 := 1) (v := .int 19) b (cw_0 cy tE a rw (si (su (si (su (si (su S 0 16 (((p0).toUInt32 >>> ((24 : Int32).toUInt32 &&& Int32.toUInt32 31)).toInt32 &&& 255)) 0 17) 0 17 (((p0).toUInt32 >>> ((16 : Int32).toUInt32 &&& Int32.toUInt32 31)).toInt32 &&& 255)) 0 18) 0 18 (((p0).toUInt32 >>> ((8 : Int32).toUInt32 &&& Int32.toUInt32 31)).toInt32 &&& 255)) 0 19)) rfl in_X11 (by decide) wf_X11_13 rfl dX11_feedFour_8 ?_
  refine z_aload_n b dX11_feedFour_11 rfl rfl ?_
  refine z_get (q0 := 0) (k9 := 0) (v := .ref (a 1)) b (cw_0 cy tE a rw (si (su (si (su (si (su S 0 16 (((p0).toUInt32 >>> ((24 : Int32).toUInt32 &&& Int32.toUInt32 31)).toInt32 &&& 255)) 0 17) 0 17 (((p0).toUInt32 >>> ((16 : Int32).toUInt32 &&& Int32.toUInt32 31)).toInt32 &&& 255)) 0 18) 0 18 (((p0).toUInt32 >>> ((8 : Int32).toUInt32 &&& Int32.toUInt32 31)).toInt32 &&& 255)) 0 19)) rfl in_X11 (by decide) wf_X11_9 rfl dX11_feedFour_12 ?_
  refine z_alen (q0 := 1) (t0 := 0) (v := 700) b (cw_1 cy tE a rw (si (su (si (su (si (su S 0 16 (((p0).toUInt32 >>> ((24 : Int32).toUInt32 &&& Int32.toUInt32 31)).toInt32 &&& 255)) 0 17) 0 17 (((p0).toUInt32 >>> ((16 : Int32).toUInt32 &&& Int32.toUInt32 31)).toInt32 &&& 255)) 0 18) 0 18 (((p0).toUInt32 >>> ((8 : Int32).toUInt32 &&& Int32.toUInt32 31)).toInt32 &&& 255)) 0 19)) rfl rfl dX11_feedFour_15 ?_
  refine z_icmp_ge_f (tgt := 45) b dX11_feedFour_16 (by decide) (by decide) ?_
  refine z_aload_n b dX11_feedFour_19 rfl rfl ?_
  refine z_get (q0 := 0) (k9 := 0) (v := .ref (a 1)) b (cw_0 cy tE a rw (si (su (si (su (si (su S 0 16 (((p0).toUInt32 >>> ((24 : Int32).toUInt32 &&& Int32.toUInt32 31)).toInt32 &&& 255)) 0 17) 0 17 (((p0).toUInt32 >>> ((16 : Int32).toUInt32 &&& Int32.toUInt32 31)).toInt32 &&& 255)) 0 18) 0 18 (((p0).toUInt32 >>> ((8 : Int32).toUInt32 &&& Int32.toUInt32 31)).toInt32 &&& 255)) 0 19)) rfl in_X11 (by decide) wf_X11_9 rfl dX11_feedFour_20 ?_
  refine z_aload_n b dX11_feedFour_23 rfl rfl ?_
  refine z_get (q0 := 0) (k9 := 1) (v := .int 19) b (cw_0 cy tE a rw (si (su (si (su (si (su S 0 16 (((p0).toUInt32 >>> ((24 : Int32).toUInt32 &&& Int32.toUInt32 31)).toInt32 &&& 255)) 0 17) 0 17 (((p0).toUInt32 >>> ((16 : Int32).toUInt32 &&& Int32.toUInt32 31)).toInt32 &&& 255)) 0 18) 0 18 (((p0).toUInt32 >>> ((8 : Int32).toUInt32 &&& Int32.toUInt32 31)).toInt32 &&& 255)) 0 19)) rfl in_X11 (by decide) wf_X11_13 rfl dX11_feedFour_24 ?_
  refine z_iload_n b dX11_feedFour_27 rfl rfl ?_
  refine z_iload_n b dX11_feedFour_28 rfl rfl ?_
  refine z_iushr b dX11_feedFour_29 rfl ?_
  refine z_sipush (v := 255) b dX11_feedFour_30 (by decide) ?_
  refine z_iand b dX11_feedFour_33 rfl ?_
  refine y_iast (q0 := 1) (j := 19) b (cw_1 cy tE a rw (si (su (si (su (si (su S 0 16 (((p0).toUInt32 >>> ((24 : Int32).toUInt32 &&& Int32.toUInt32 31)).toInt32 &&& 255)) 0 17) 0 17 (((p0).toUInt32 >>> ((16 : Int32).toUInt32 &&& Int32.toUInt32 31)).toInt32 &&& 255)) 0 18) 0 18 (((p0).toUInt32 >>> ((8 : Int32).toUInt32 &&& Int32.toUInt32 31)).toInt32 &&& 255)) 0 19)) (by decide) dX11_feedFour_34 (cwa_1 cy tE a rw (si (su (si (su (si (su S 0 16 (((p0).toUInt32 >>> ((24 : Int32).toUInt32 &&& Int32.toUInt32 31)).toInt32 &&& 255)) 0 17) 0 17 (((p0).toUInt32 >>> ((16 : Int32).toUInt32 &&& Int32.toUInt32 31)).toInt32 &&& 255)) 0 18) 0 18 (((p0).toUInt32 >>> ((8 : Int32).toUInt32 &&& Int32.toUInt32 31)).toInt32 &&& 255)) 0 19) 19 (((p0).toUInt32 >>> ((0 : Int32).toUInt32 &&& Int32.toUInt32 31)).toInt32 &&& 255)) ?_
  refine z_aload_n b dX11_feedFour_35 rfl rfl ?_
  refine z_dup b dX11_feedFour_36 rfl ?_
  refine z_get (q0 := 0) (k9 := 1) (v := .int 19) b (cw_0 cy tE a rw (su (si (su (si (su (si (su S 0 16 (((p0).toUInt32 >>> ((24 : Int32).toUInt32 &&& Int32.toUInt32 31)).toInt32 &&& 255)) 0 17) 0 17 (((p0).toUInt32 >>> ((16 : Int32).toUInt32 &&& Int32.toUInt32 31)).toInt32 &&& 255)) 0 18) 0 18 (((p0).toUInt32 >>> ((8 : Int32).toUInt32 &&& Int32.toUInt32 31)).toInt32 &&& 255)) 0 19) 0 19 (((p0).toUInt32 >>> ((0 : Int32).toUInt32 &&& Int32.toUInt32 31)).toInt32 &&& 255))) rfl in_X11 (by decide) wf_X11_13 rfl dX11_feedFour_37 ?_
  refine z_iconst (v := 1) b dX11_feedFour_40 (by decide) ?_
  refine z_iadd (v := 20) b dX11_feedFour_41 (by decide) ?_
  refine z_put (q0 := 0) (k9 := 1) tyX11 b (cw_0 cy tE a rw (su (si (su (si (su (si (su S 0 16 (((p0).toUInt32 >>> ((24 : Int32).toUInt32 &&& Int32.toUInt32 31)).toInt32 &&& 255)) 0 17) 0 17 (((p0).toUInt32 >>> ((16 : Int32).toUInt32 &&& Int32.toUInt32 31)).toInt32 &&& 255)) 0 18) 0 18 (((p0).toUInt32 >>> ((8 : Int32).toUInt32 &&& Int32.toUInt32 31)).toInt32 &&& 255)) 0 19) 0 19 (((p0).toUInt32 >>> ((0 : Int32).toUInt32 &&& Int32.toUInt32 31)).toInt32 &&& 255))) rfl in_X11 tyX11_ok nmX11 (by decide) wf_X11_13 rfl rfl rfl rfl (Nat.le_of_ble_eq_true rfl) dX11_feedFour_42 (cwp_0_1 cy tE a rw (su (si (su (si (su (si (su S 0 16 (((p0).toUInt32 >>> ((24 : Int32).toUInt32 &&& Int32.toUInt32 31)).toInt32 &&& 255)) 0 17) 0 17 (((p0).toUInt32 >>> ((16 : Int32).toUInt32 &&& Int32.toUInt32 31)).toInt32 &&& 255)) 0 18) 0 18 (((p0).toUInt32 >>> ((8 : Int32).toUInt32 &&& Int32.toUInt32 31)).toInt32 &&& 255)) 0 19) 0 19 (((p0).toUInt32 >>> ((0 : Int32).toUInt32 &&& Int32.toUInt32 31)).toInt32 &&& 255)) 20) ?_
  refine z_iinc (k9 := 0) (v := (-8)) (lv' := [(2, .int (-8)), (0, .ref (a 0)), (1, .int p0)]) b dX11_feedFour_45 rfl (by decide) (by decide) rfl ?_
  refine z_goto (tgt := 3) b dX11_feedFour_48 (by decide) ?_
  refine z_iload_n b dX11_feedFour_3 rfl rfl ?_
  refine z_if_lt_t (tgt := 51) b dX11_feedFour_4 (by decide) (by decide) ?_
  exact z_vret (u := (si (su (si (su (si (su (si (su S 0 16 (((p0).toUInt32 >>> ((24 : Int32).toUInt32 &&& Int32.toUInt32 31)).toInt32 &&& 255)) 0 17) 0 17 (((p0).toUInt32 >>> ((16 : Int32).toUInt32 &&& Int32.toUInt32 31)).toInt32 &&& 255)) 0 18) 0 18 (((p0).toUInt32 >>> ((8 : Int32).toUInt32 &&& Int32.toUInt32 31)).toInt32 &&& 255)) 0 19) 0 19 (((p0).toUInt32 >>> ((0 : Int32).toUInt32 &&& Int32.toUInt32 31)).toInt32 &&& 255)) 0 20)) b rfl dX11_feedFour_51 rfl rfl (by decide) (by decide)

set_option maxHeartbeats 4000000 in
set_option maxRecDepth 100000 in
theorem c_X11_feed {l : Launch} {D : va_G} {cy : Nat → ClassId} {T0 tB tE : Nat} {a : Nat → Nat} {rw : Nat → Option Nat} (S : GS) (p0 : Int32) (p1 : Int32) (p2 : Int32) (p3 : Int32) (p4 : Int32) (h_i_0 : fi S 0 = 0) : Ct l D cy T0 tB tE yX11_feed cX11_feed 6 (some .int) 1 22 0 0 (cw cy tE a rw S) [.ref (a 0), .int p0, .int p1, .int p2, .int p3, .int p4] (QI D (U := GS) (fun r u => 20 = r ∧ si (su (si (su (si (su (si (su (si (su (si (su (si (su (si (su (si (su (si (su (si (su (si (su (si (su (si (su (si (su (si (su (si (su (si (su (si (su (si (su S 0 0 (((p0).toUInt32 >>> ((24 : Int32).toUInt32 &&& Int32.toUInt32 31)).toInt32 &&& 255)) 0 1) 0 1 (((p0).toUInt32 >>> ((16 : Int32).toUInt32 &&& Int32.toUInt32 31)).toInt32 &&& 255)) 0 2) 0 2 (((p0).toUInt32 >>> ((8 : Int32).toUInt32 &&& Int32.toUInt32 31)).toInt32 &&& 255)) 0 3) 0 3 (((p0).toUInt32 >>> ((0 : Int32).toUInt32 &&& Int32.toUInt32 31)).toInt32 &&& 255)) 0 4) 0 4 (((p1).toUInt32 >>> ((24 : Int32).toUInt32 &&& Int32.toUInt32 31)).toInt32 &&& 255)) 0 5) 0 5 (((p1).toUInt32 >>> ((16 : Int32).toUInt32 &&& Int32.toUInt32 31)).toInt32 &&& 255)) 0 6) 0 6 (((p1).toUInt32 >>> ((8 : Int32).toUInt32 &&& Int32.toUInt32 31)).toInt32 &&& 255)) 0 7) 0 7 (((p1).toUInt32 >>> ((0 : Int32).toUInt32 &&& Int32.toUInt32 31)).toInt32 &&& 255)) 0 8) 0 8 (((p2).toUInt32 >>> ((24 : Int32).toUInt32 &&& Int32.toUInt32 31)).toInt32 &&& 255)) 0 9) 0 9 (((p2).toUInt32 >>> ((16 : Int32).toUInt32 &&& Int32.toUInt32 31)).toInt32 &&& 255)) 0 10) 0 10 (((p2).toUInt32 >>> ((8 : Int32).toUInt32 &&& Int32.toUInt32 31)).toInt32 &&& 255)) 0 11) 0 11 (((p2).toUInt32 >>> ((0 : Int32).toUInt32 &&& Int32.toUInt32 31)).toInt32 &&& 255)) 0 12) 0 12 (((p3).toUInt32 >>> ((24 : Int32).toUInt32 &&& Int32.toUInt32 31)).toInt32 &&& 255)) 0 13) 0 13 (((p3).toUInt32 >>> ((16 : Int32).toUInt32 &&& Int32.toUInt32 31)).toInt32 &&& 255)) 0 14) 0 14 (((p3).toUInt32 >>> ((8 : Int32).toUInt32 &&& Int32.toUInt32 31)).toInt32 &&& 255)) 0 15) 0 15 (((p3).toUInt32 >>> ((0 : Int32).toUInt32 &&& Int32.toUInt32 31)).toInt32 &&& 255)) 0 16) 0 16 (((p4).toUInt32 >>> ((24 : Int32).toUInt32 &&& Int32.toUInt32 31)).toInt32 &&& 255)) 0 17) 0 17 (((p4).toUInt32 >>> ((16 : Int32).toUInt32 &&& Int32.toUInt32 31)).toInt32 &&& 255)) 0 18) 0 18 (((p4).toUInt32 >>> ((8 : Int32).toUInt32 &&& Int32.toUInt32 31)).toInt32 &&& 255)) 0 19) 0 19 (((p4).toUInt32 >>> ((0 : Int32).toUInt32 &&& Int32.toUInt32 31)).toInt32 &&& 255)) 0 20 = u) (cw cy tE a rw)) := by
  refine Ct.ofZ RX11 "feed" [(0, .ref (a 0)), (1, .int p0), (2, .int p1), (3, .int p2), (4, .int p3), (5, .int p4)] rfl rfl rfl rfl (Nat.le_of_ble_eq_true rfl) ?_
  intro p e R s m args below meth c A b
  refine z_aload_n b dX11_feed_0 rfl rfl ?_
  refine z_get (q0 := 0) (k9 := 1) (v := .int (fi S 0)) b (cw_0 cy tE a rw S) rfl in_X11 (by decide) wf_X11_13 rfl dX11_feed_1 ?_
  refine z_eqi h_i_0 ?_
  refine z_bipush (v := 20) b dX11_feed_4 (by decide) ?_
  refine z_iadd (v := 20) b dX11_feed_6 (by decide) ?_
  refine z_sipush (v := 700) b dX11_feed_7 (by decide) ?_
  refine z_icmp_le_t (tgt := 15) b dX11_feed_10 (by decide) (by decide) ?_
  refine z_aload_n b dX11_feed_15 rfl rfl ?_
  refine z_iload_n b dX11_feed_16 rfl rfl ?_
  refine z_callv b (z_runV (q0 := 0) (As := [.int p0]) (st := []) b (c_X11_feedFour S p0 h_i_0) cf_X11_feedFour (cw_0 cy tE a rw S) rfl wm_X11_90 wi_X11_feedFour ws_X11_feedFour dX11_feed_17 rfl (Nat.le_of_ble_eq_true rfl) ⟨by decide, by decide, by decide, by decide⟩) (fun u3315 h3313 => ?_)
  obtain rfl := h3313
  refine z_aload_n b dX11_feed_20 rfl rfl ?_
  refine z_iload_n b dX11_feed_21 rfl rfl ?_
  refine z_callv b (z_runV (q0 := 0) (As := [.int p1]) (st := []) b (c_X11_feedFour_2 (si (su (si (su (si (su (si (su S 0 0 (((p0).toUInt32 >>> ((24 : Int32).toUInt32 &&& Int32.toUInt32 31)).toInt32 &&& 255)) 0 1) 0 1 (((p0).toUInt32 >>> ((16 : Int32).toUInt32 &&& Int32.toUInt32 31)).toInt32 &&& 255)) 0 2) 0 2 (((p0).toUInt32 >>> ((8 : Int32).toUInt32 &&& Int32.toUInt32 31)).toInt32 &&& 255)) 0 3) 0 3 (((p0).toUInt32 >>> ((0 : Int32).toUInt32 &&& Int32.toUInt32 31)).toInt32 &&& 255)) 0 4) p1 rfl) cf_X11_feedFour (cw_0 cy tE a rw (si (su (si (su (si (su (si (su S 0 0 (((p0).toUInt32 >>> ((24 : Int32).toUInt32 &&& Int32.toUInt32 31)).toInt32 &&& 255)) 0 1) 0 1 (((p0).toUInt32 >>> ((16 : Int32).toUInt32 &&& Int32.toUInt32 31)).toInt32 &&& 255)) 0 2) 0 2 (((p0).toUInt32 >>> ((8 : Int32).toUInt32 &&& Int32.toUInt32 31)).toInt32 &&& 255)) 0 3) 0 3 (((p0).toUInt32 >>> ((0 : Int32).toUInt32 &&& Int32.toUInt32 31)).toInt32 &&& 255)) 0 4)) rfl wm_X11_90 wi_X11_feedFour ws_X11_feedFour dX11_feed_22 rfl (Nat.le_of_ble_eq_true rfl) ⟨by decide, by decide, by decide, by decide⟩) (fun u3318 h3316 => ?_)
  obtain rfl := h3316
  refine z_aload_n b dX11_feed_25 rfl rfl ?_
  refine z_iload_n b dX11_feed_26 rfl rfl ?_
  refine z_callv b (z_runV (q0 := 0) (As := [.int p2]) (st := []) b (c_X11_feedFour_3 (si (su (si (su (si (su (si (su (si (su (si (su (si (su (si (su S 0 0 (((p0).toUInt32 >>> ((24 : Int32).toUInt32 &&& Int32.toUInt32 31)).toInt32 &&& 255)) 0 1) 0 1 (((p0).toUInt32 >>> ((16 : Int32).toUInt32 &&& Int32.toUInt32 31)).toInt32 &&& 255)) 0 2) 0 2 (((p0).toUInt32 >>> ((8 : Int32).toUInt32 &&& Int32.toUInt32 31)).toInt32 &&& 255)) 0 3) 0 3 (((p0).toUInt32 >>> ((0 : Int32).toUInt32 &&& Int32.toUInt32 31)).toInt32 &&& 255)) 0 4) 0 4 (((p1).toUInt32 >>> ((24 : Int32).toUInt32 &&& Int32.toUInt32 31)).toInt32 &&& 255)) 0 5) 0 5 (((p1).toUInt32 >>> ((16 : Int32).toUInt32 &&& Int32.toUInt32 31)).toInt32 &&& 255)) 0 6) 0 6 (((p1).toUInt32 >>> ((8 : Int32).toUInt32 &&& Int32.toUInt32 31)).toInt32 &&& 255)) 0 7) 0 7 (((p1).toUInt32 >>> ((0 : Int32).toUInt32 &&& Int32.toUInt32 31)).toInt32 &&& 255)) 0 8) p2 rfl) cf_X11_feedFour (cw_0 cy tE a rw (si (su (si (su (si (su (si (su (si (su (si (su (si (su (si (su S 0 0 (((p0).toUInt32 >>> ((24 : Int32).toUInt32 &&& Int32.toUInt32 31)).toInt32 &&& 255)) 0 1) 0 1 (((p0).toUInt32 >>> ((16 : Int32).toUInt32 &&& Int32.toUInt32 31)).toInt32 &&& 255)) 0 2) 0 2 (((p0).toUInt32 >>> ((8 : Int32).toUInt32 &&& Int32.toUInt32 31)).toInt32 &&& 255)) 0 3) 0 3 (((p0).toUInt32 >>> ((0 : Int32).toUInt32 &&& Int32.toUInt32 31)).toInt32 &&& 255)) 0 4) 0 4 (((p1).toUInt32 >>> ((24 : Int32).toUInt32 &&& Int32.toUInt32 31)).toInt32 &&& 255)) 0 5) 0 5 (((p1).toUInt32 >>> ((16 : Int32).toUInt32 &&& Int32.toUInt32 31)).toInt32 &&& 255)) 0 6) 0 6 (((p1).toUInt32 >>> ((8 : Int32).toUInt32 &&& Int32.toUInt32 31)).toInt32 &&& 255)) 0 7) 0 7 (((p1).toUInt32 >>> ((0 : Int32).toUInt32 &&& Int32.toUInt32 31)).toInt32 &&& 255)) 0 8)) rfl wm_X11_90 wi_X11_feedFour ws_X11_feedFour dX11_feed_27 rfl (Nat.le_of_ble_eq_true rfl) ⟨by decide, by decide, by decide, by decide⟩) (fun u3321 h3319 => ?_)
  obtain rfl := h3319
  refine z_aload_n b dX11_feed_30 rfl rfl ?_
  refine z_iload b dX11_feed_31 rfl ?_
  refine z_callv b (z_runV (q0 := 0) (As := [.int p3]) (st := []) b (c_X11_feedFour_4 (si (su (si (su (si (su (si (su (si (su (si (su (si (su (si (su (si (su (si (su (si (su (si (su S 0 0 (((p0).toUInt32 >>> ((24 : Int32).toUInt32 &&& Int32.toUInt32 31)).toInt32 &&& 255)) 0 1) 0 1 (((p0).toUInt32 >>> ((16 : Int32).toUInt32 &&& Int32.toUInt32 31)).toInt32 &&& 255)) 0 2) 0 2 (((p0).toUInt32 >>> ((8 : Int32).toUInt32 &&& Int32.toUInt32 31)).toInt32 &&& 255)) 0 3) 0 3 (((p0).toUInt32 >>> ((0 : Int32).toUInt32 &&& Int32.toUInt32 31)).toInt32 &&& 255)) 0 4) 0 4 (((p1).toUInt32 >>> ((24 : Int32).toUInt32 &&& Int32.toUInt32 31)).toInt32 &&& 255)) 0 5) 0 5 (((p1).toUInt32 >>> ((16 : Int32).toUInt32 &&& Int32.toUInt32 31)).toInt32 &&& 255)) 0 6) 0 6 (((p1).toUInt32 >>> ((8 : Int32).toUInt32 &&& Int32.toUInt32 31)).toInt32 &&& 255)) 0 7) 0 7 (((p1).toUInt32 >>> ((0 : Int32).toUInt32 &&& Int32.toUInt32 31)).toInt32 &&& 255)) 0 8) 0 8 (((p2).toUInt32 >>> ((24 : Int32).toUInt32 &&& Int32.toUInt32 31)).toInt32 &&& 255)) 0 9) 0 9 (((p2).toUInt32 >>> ((16 : Int32).toUInt32 &&& Int32.toUInt32 31)).toInt32 &&& 255)) 0 10) 0 10 (((p2).toUInt32 >>> ((8 : Int32).toUInt32 &&& Int32.toUInt32 31)).toInt32 &&& 255)) 0 11) 0 11 (((p2).toUInt32 >>> ((0 : Int32).toUInt32 &&& Int32.toUInt32 31)).toInt32 &&& 255)) 0 12) p3 rfl) cf_X11_feedFour (cw_0 cy tE a rw (si (su (si (su (si (su (si (su (si (su (si (su (si (su (si (su (si (su (si (su (si (su (si (su S 0 0 (((p0).toUInt32 >>> ((24 : Int32).toUInt32 &&& Int32.toUInt32 31)).toInt32 &&& 255)) 0 1) 0 1 (((p0).toUInt32 >>> ((16 : Int32).toUInt32 &&& Int32.toUInt32 31)).toInt32 &&& 255)) 0 2) 0 2 (((p0).toUInt32 >>> ((8 : Int32).toUInt32 &&& Int32.toUInt32 31)).toInt32 &&& 255)) 0 3) 0 3 (((p0).toUInt32 >>> ((0 : Int32).toUInt32 &&& Int32.toUInt32 31)).toInt32 &&& 255)) 0 4) 0 4 (((p1).toUInt32 >>> ((24 : Int32).toUInt32 &&& Int32.toUInt32 31)).toInt32 &&& 255)) 0 5) 0 5 (((p1).toUInt32 >>> ((16 : Int32).toUInt32 &&& Int32.toUInt32 31)).toInt32 &&& 255)) 0 6) 0 6 (((p1).toUInt32 >>> ((8 : Int32).toUInt32 &&& Int32.toUInt32 31)).toInt32 &&& 255)) 0 7) 0 7 (((p1).toUInt32 >>> ((0 : Int32).toUInt32 &&& Int32.toUInt32 31)).toInt32 &&& 255)) 0 8) 0 8 (((p2).toUInt32 >>> ((24 : Int32).toUInt32 &&& Int32.toUInt32 31)).toInt32 &&& 255)) 0 9) 0 9 (((p2).toUInt32 >>> ((16 : Int32).toUInt32 &&& Int32.toUInt32 31)).toInt32 &&& 255)) 0 10) 0 10 (((p2).toUInt32 >>> ((8 : Int32).toUInt32 &&& Int32.toUInt32 31)).toInt32 &&& 255)) 0 11) 0 11 (((p2).toUInt32 >>> ((0 : Int32).toUInt32 &&& Int32.toUInt32 31)).toInt32 &&& 255)) 0 12)) rfl wm_X11_90 wi_X11_feedFour ws_X11_feedFour dX11_feed_33 rfl (Nat.le_of_ble_eq_true rfl) ⟨by decide, by decide, by decide, by decide⟩) (fun u3324 h3322 => ?_)
  obtain rfl := h3322
  refine z_aload_n b dX11_feed_36 rfl rfl ?_
  refine z_iload b dX11_feed_37 rfl ?_
  refine z_callv b (z_runV (q0 := 0) (As := [.int p4]) (st := []) b (c_X11_feedFour_5 (si (su (si (su (si (su (si (su (si (su (si (su (si (su (si (su (si (su (si (su (si (su (si (su (si (su (si (su (si (su (si (su S 0 0 (((p0).toUInt32 >>> ((24 : Int32).toUInt32 &&& Int32.toUInt32 31)).toInt32 &&& 255)) 0 1) 0 1 (((p0).toUInt32 >>> ((16 : Int32).toUInt32 &&& Int32.toUInt32 31)).toInt32 &&& 255)) 0 2) 0 2 (((p0).toUInt32 >>> ((8 : Int32).toUInt32 &&& Int32.toUInt32 31)).toInt32 &&& 255)) 0 3) 0 3 (((p0).toUInt32 >>> ((0 : Int32).toUInt32 &&& Int32.toUInt32 31)).toInt32 &&& 255)) 0 4) 0 4 (((p1).toUInt32 >>> ((24 : Int32).toUInt32 &&& Int32.toUInt32 31)).toInt32 &&& 255)) 0 5) 0 5 (((p1).toUInt32 >>> ((16 : Int32).toUInt32 &&& Int32.toUInt32 31)).toInt32 &&& 255)) 0 6) 0 6 (((p1).toUInt32 >>> ((8 : Int32).toUInt32 &&& Int32.toUInt32 31)).toInt32 &&& 255)) 0 7) 0 7 (((p1).toUInt32 >>> ((0 : Int32).toUInt32 &&& Int32.toUInt32 31)).toInt32 &&& 255)) 0 8) 0 8 (((p2).toUInt32 >>> ((24 : Int32).toUInt32 &&& Int32.toUInt32 31)).toInt32 &&& 255)) 0 9) 0 9 (((p2).toUInt32 >>> ((16 : Int32).toUInt32 &&& Int32.toUInt32 31)).toInt32 &&& 255)) 0 10) 0 10 (((p2).toUInt32 >>> ((8 : Int32).toUInt32 &&& Int32.toUInt32 31)).toInt32 &&& 255)) 0 11) 0 11 (((p2).toUInt32 >>> ((0 : Int32).toUInt32 &&& Int32.toUInt32 31)).toInt32 &&& 255)) 0 12) 0 12 (((p3).toUInt32 >>> ((24 : Int32).toUInt32 &&& Int32.toUInt32 31)).toInt32 &&& 255)) 0 13) 0 13 (((p3).toUInt32 >>> ((16 : Int32).toUInt32 &&& Int32.toUInt32 31)).toInt32 &&& 255)) 0 14) 0 14 (((p3).toUInt32 >>> ((8 : Int32).toUInt32 &&& Int32.toUInt32 31)).toInt32 &&& 255)) 0 15) 0 15 (((p3).toUInt32 >>> ((0 : Int32).toUInt32 &&& Int32.toUInt32 31)).toInt32 &&& 255)) 0 16) p4 rfl) cf_X11_feedFour (cw_0 cy tE a rw (si (su (si (su (si (su (si (su (si (su (si (su (si (su (si (su (si (su (si (su (si (su (si (su (si (su (si (su (si (su (si (su S 0 0 (((p0).toUInt32 >>> ((24 : Int32).toUInt32 &&& Int32.toUInt32 31)).toInt32 &&& 255)) 0 1) 0 1 (((p0).toUInt32 >>> ((16 : Int32).toUInt32 &&& Int32.toUInt32 31)).toInt32 &&& 255)) 0 2) 0 2 (((p0).toUInt32 >>> ((8 : Int32).toUInt32 &&& Int32.toUInt32 31)).toInt32 &&& 255)) 0 3) 0 3 (((p0).toUInt32 >>> ((0 : Int32).toUInt32 &&& Int32.toUInt32 31)).toInt32 &&& 255)) 0 4) 0 4 (((p1).toUInt32 >>> ((24 : Int32).toUInt32 &&& Int32.toUInt32 31)).toInt32 &&& 255)) 0 5) 0 5 (((p1).toUInt32 >>> ((16 : Int32).toUInt32 &&& Int32.toUInt32 31)).toInt32 &&& 255)) 0 6) 0 6 (((p1).toUInt32 >>> ((8 : Int32).toUInt32 &&& Int32.toUInt32 31)).toInt32 &&& 255)) 0 7) 0 7 (((p1).toUInt32 >>> ((0 : Int32).toUInt32 &&& Int32.toUInt32 31)).toInt32 &&& 255)) 0 8) 0 8 (((p2).toUInt32 >>> ((24 : Int32).toUInt32 &&& Int32.toUInt32 31)).toInt32 &&& 255)) 0 9) 0 9 (((p2).toUInt32 >>> ((16 : Int32).toUInt32 &&& Int32.toUInt32 31)).toInt32 &&& 255)) 0 10) 0 10 (((p2).toUInt32 >>> ((8 : Int32).toUInt32 &&& Int32.toUInt32 31)).toInt32 &&& 255)) 0 11) 0 11 (((p2).toUInt32 >>> ((0 : Int32).toUInt32 &&& Int32.toUInt32 31)).toInt32 &&& 255)) 0 12) 0 12 (((p3).toUInt32 >>> ((24 : Int32).toUInt32 &&& Int32.toUInt32 31)).toInt32 &&& 255)) 0 13) 0 13 (((p3).toUInt32 >>> ((16 : Int32).toUInt32 &&& Int32.toUInt32 31)).toInt32 &&& 255)) 0 14) 0 14 (((p3).toUInt32 >>> ((8 : Int32).toUInt32 &&& Int32.toUInt32 31)).toInt32 &&& 255)) 0 15) 0 15 (((p3).toUInt32 >>> ((0 : Int32).toUInt32 &&& Int32.toUInt32 31)).toInt32 &&& 255)) 0 16)) rfl wm_X11_90 wi_X11_feedFour ws_X11_feedFour dX11_feed_39 rfl (Nat.le_of_ble_eq_true rfl) ⟨by decide, by decide, by decide, by decide⟩) (fun u3327 h3325 => ?_)
  obtain rfl := h3325
  refine z_aload_n b dX11_feed_42 rfl rfl ?_
  refine z_get (q0 := 0) (k9 := 1) (v := .int 20) b (cw_0 cy tE a rw (si (su (si (su (si (su (si (su (si (su (si (su (si (su (si (su (si (su (si (su (si (su (si (su (si (su (si (su (si (su (si (su (si (su (si (su (si (su (si (su S 0 0 (((p0).toUInt32 >>> ((24 : Int32).toUInt32 &&& Int32.toUInt32 31)).toInt32 &&& 255)) 0 1) 0 1 (((p0).toUInt32 >>> ((16 : Int32).toUInt32 &&& Int32.toUInt32 31)).toInt32 &&& 255)) 0 2) 0 2 (((p0).toUInt32 >>> ((8 : Int32).toUInt32 &&& Int32.toUInt32 31)).toInt32 &&& 255)) 0 3) 0 3 (((p0).toUInt32 >>> ((0 : Int32).toUInt32 &&& Int32.toUInt32 31)).toInt32 &&& 255)) 0 4) 0 4 (((p1).toUInt32 >>> ((24 : Int32).toUInt32 &&& Int32.toUInt32 31)).toInt32 &&& 255)) 0 5) 0 5 (((p1).toUInt32 >>> ((16 : Int32).toUInt32 &&& Int32.toUInt32 31)).toInt32 &&& 255)) 0 6) 0 6 (((p1).toUInt32 >>> ((8 : Int32).toUInt32 &&& Int32.toUInt32 31)).toInt32 &&& 255)) 0 7) 0 7 (((p1).toUInt32 >>> ((0 : Int32).toUInt32 &&& Int32.toUInt32 31)).toInt32 &&& 255)) 0 8) 0 8 (((p2).toUInt32 >>> ((24 : Int32).toUInt32 &&& Int32.toUInt32 31)).toInt32 &&& 255)) 0 9) 0 9 (((p2).toUInt32 >>> ((16 : Int32).toUInt32 &&& Int32.toUInt32 31)).toInt32 &&& 255)) 0 10) 0 10 (((p2).toUInt32 >>> ((8 : Int32).toUInt32 &&& Int32.toUInt32 31)).toInt32 &&& 255)) 0 11) 0 11 (((p2).toUInt32 >>> ((0 : Int32).toUInt32 &&& Int32.toUInt32 31)).toInt32 &&& 255)) 0 12) 0 12 (((p3).toUInt32 >>> ((24 : Int32).toUInt32 &&& Int32.toUInt32 31)).toInt32 &&& 255)) 0 13) 0 13 (((p3).toUInt32 >>> ((16 : Int32).toUInt32 &&& Int32.toUInt32 31)).toInt32 &&& 255)) 0 14) 0 14 (((p3).toUInt32 >>> ((8 : Int32).toUInt32 &&& Int32.toUInt32 31)).toInt32 &&& 255)) 0 15) 0 15 (((p3).toUInt32 >>> ((0 : Int32).toUInt32 &&& Int32.toUInt32 31)).toInt32 &&& 255)) 0 16) 0 16 (((p4).toUInt32 >>> ((24 : Int32).toUInt32 &&& Int32.toUInt32 31)).toInt32 &&& 255)) 0 17) 0 17 (((p4).toUInt32 >>> ((16 : Int32).toUInt32 &&& Int32.toUInt32 31)).toInt32 &&& 255)) 0 18) 0 18 (((p4).toUInt32 >>> ((8 : Int32).toUInt32 &&& Int32.toUInt32 31)).toInt32 &&& 255)) 0 19) 0 19 (((p4).toUInt32 >>> ((0 : Int32).toUInt32 &&& Int32.toUInt32 31)).toInt32 &&& 255)) 0 20)) rfl in_X11 (by decide) wf_X11_13 rfl dX11_feed_43 ?_
  exact z_iret (u := (si (su (si (su (si (su (si (su (si (su (si (su (si (su (si (su (si (su (si (su (si (su (si (su (si (su (si (su (si (su (si (su (si (su (si (su (si (su (si (su S 0 0 (((p0).toUInt32 >>> ((24 : Int32).toUInt32 &&& Int32.toUInt32 31)).toInt32 &&& 255)) 0 1) 0 1 (((p0).toUInt32 >>> ((16 : Int32).toUInt32 &&& Int32.toUInt32 31)).toInt32 &&& 255)) 0 2) 0 2 (((p0).toUInt32 >>> ((8 : Int32).toUInt32 &&& Int32.toUInt32 31)).toInt32 &&& 255)) 0 3) 0 3 (((p0).toUInt32 >>> ((0 : Int32).toUInt32 &&& Int32.toUInt32 31)).toInt32 &&& 255)) 0 4) 0 4 (((p1).toUInt32 >>> ((24 : Int32).toUInt32 &&& Int32.toUInt32 31)).toInt32 &&& 255)) 0 5) 0 5 (((p1).toUInt32 >>> ((16 : Int32).toUInt32 &&& Int32.toUInt32 31)).toInt32 &&& 255)) 0 6) 0 6 (((p1).toUInt32 >>> ((8 : Int32).toUInt32 &&& Int32.toUInt32 31)).toInt32 &&& 255)) 0 7) 0 7 (((p1).toUInt32 >>> ((0 : Int32).toUInt32 &&& Int32.toUInt32 31)).toInt32 &&& 255)) 0 8) 0 8 (((p2).toUInt32 >>> ((24 : Int32).toUInt32 &&& Int32.toUInt32 31)).toInt32 &&& 255)) 0 9) 0 9 (((p2).toUInt32 >>> ((16 : Int32).toUInt32 &&& Int32.toUInt32 31)).toInt32 &&& 255)) 0 10) 0 10 (((p2).toUInt32 >>> ((8 : Int32).toUInt32 &&& Int32.toUInt32 31)).toInt32 &&& 255)) 0 11) 0 11 (((p2).toUInt32 >>> ((0 : Int32).toUInt32 &&& Int32.toUInt32 31)).toInt32 &&& 255)) 0 12) 0 12 (((p3).toUInt32 >>> ((24 : Int32).toUInt32 &&& Int32.toUInt32 31)).toInt32 &&& 255)) 0 13) 0 13 (((p3).toUInt32 >>> ((16 : Int32).toUInt32 &&& Int32.toUInt32 31)).toInt32 &&& 255)) 0 14) 0 14 (((p3).toUInt32 >>> ((8 : Int32).toUInt32 &&& Int32.toUInt32 31)).toInt32 &&& 255)) 0 15) 0 15 (((p3).toUInt32 >>> ((0 : Int32).toUInt32 &&& Int32.toUInt32 31)).toInt32 &&& 255)) 0 16) 0 16 (((p4).toUInt32 >>> ((24 : Int32).toUInt32 &&& Int32.toUInt32 31)).toInt32 &&& 255)) 0 17) 0 17 (((p4).toUInt32 >>> ((16 : Int32).toUInt32 &&& Int32.toUInt32 31)).toInt32 &&& 255)) 0 18) 0 18 (((p4).toUInt32 >>> ((8 : Int32).toUInt32 &&& Int32.toUInt32 31)).toInt32 &&& 255)) 0 19) 0 19 (((p4).toUInt32 >>> ((0 : Int32).toUInt32 &&& Int32.toUInt32 31)).toInt32 &&& 255)) 0 20)) b rfl dX11_feed_46 ⟨rfl, rfl⟩ rfl (by decide) (by decide)

set_option maxHeartbeats 4000000 in
set_option maxRecDepth 100000 in
theorem ch_X12_feed_50 {p : Program} {l : Launch} {e : Env} {R : Room} {s : State} {m : MethodId} {args : Array Value} {below : List Frame} {meth : Method} {c : Code} {D : va_G} {cy : Nat → ClassId} {T0 tB tE : Nat} {A : Nat → Prop} {Q : State → Prop} {a : Nat → Nat} (S : GS) (p0 : Int32) (p1 : Int32) (p2 : Int32) (p3 : Int32) (p4 : Int32) (h_i_1 : fi S 1 = 0) (b : Bz p R s m args meth c D cy T0 tB tE A 8 cX12_feed RX12 (some .int) "feed" 0 0 0 0) (k : Z p l e R s m args below meth c D A 8 Q 0 0 (mw cy a (si (su (si (su (si (su (si (su S 21 0 ((p0 >>> (24 &&& 31)) &&& 255)) 1 1) 21 1 ((p0 >>> (16 &&& 31)) &&& 255)) 1 2) 21 2 ((p0 >>> (8 &&& 31)) &&& 255)) 1 3) 21 3 ((p0 >>> (0 &&& 31)) &&& 255)) 1 4)) [(6, .int 4), (7, .int p0), (0, .ref (a 0)), (1, .int p0), (2, .int p1), (3, .int p2), (4, .int p3), (5, .int p4)] 39 [.int 8, .int 4]) : Z p l e R s m args below meth c D A 8 Q 0 0 (mw cy a S) [(0, .ref (a 0)), (1, .int p0), (2, .int p1), (3, .int p2), (4, .int p3), (5, .int p4)] 0 [] := by
  refine z_aload_n b dX12_feed_0 rfl rfl ?_
  refine z_get (q0 := 0) (k9 := 25) (v := .int (fi S 1)) b (mw_0 cy a S) rfl in_X12 (by decide) wf_X12_182 rfl dX12_feed_1 ?_
  refine z_eqi h_i_1 ?_
  refine z_bipush (v := 20) b dX12_feed_4 (by decide) ?_
  refine z_iadd (v := 20) b dX12_feed_6 (by decide) ?_
  refine z_sipush (v := 700) b dX12_feed_7 (by decide) ?_
  refine z_icmp_le_t (tgt := 15) b dX12_feed_10 (by decide) (by decide) ?_
  refine z_iconst (v := 0) b dX12_feed_15 (by decide) ?_
  refine z_istore (lv' := [(6, .int 0), (0, .ref (a 0)), (1, .int p0), (2, .int p1), (3, .int p2), (4, .int p3), (5, .int p4)]) b dX12_feed_16 (by decide) rfl ?_
  refine z_iload b dX12_feed_18 rfl ?_
  refine z_bipush (v := 20) b dX12_feed_20 (by decide) ?_
  refine z_icmp_ge_f (tgt := 115) b dX12_feed_22 (by decide) (by decide) ?_
  refine z_iload b dX12_feed_25 rfl ?_
  refine z_iconst (v := 4) b dX12_feed_27 (by decide) ?_
  refine z_icmp_ge_f (tgt := 35) b dX12_feed_28 (by decide) (by decide) ?_
  refine z_iload_n b dX12_feed_31 rfl rfl ?_
  refine z_goto (tgt := 71) b dX12_feed_32 (by decide) ?_
  refine z_istore (lv' := [(7, .int p0), (6, .int 0), (0, .ref (a 0)), (1, .int p0), (2, .int p1), (3, .int p2), (4, .int p3), (5, .int p4)]) b dX12_feed_71 (by decide) rfl ?_
  refine z_aload_n b dX12_feed_73 rfl rfl ?_
  refine z_get (q0 := 0) (k9 := 23) (v := .ref (a 22)) b (mw_0 cy a S) rfl in_X12 (by decide) wf_X12_78 rfl dX12_feed_74 ?_
  refine z_aload_n b dX12_feed_77 rfl rfl ?_
  refine z_get (q0 := 0) (k9 := 25) (v := .int (fi S 1)) b (mw_0 cy a S) rfl in_X12 (by decide) wf_X12_182 rfl dX12_feed_78 ?_
  refine z_eqi h_i_1 ?_
  refine z_iload b dX12_feed_81 rfl ?_
  refine z_bipush (v := 24) b dX12_feed_83 (by decide) ?_
  refine z_bipush (v := 8) b dX12_feed_85 (by decide) ?_
  refine z_iload b dX12_feed_87 rfl ?_
  refine z_iconst (v := 4) b dX12_feed_89 (by decide) ?_
  refine z_irem (v := 0) b dX12_feed_90 (by decide) (by decide) ?_
  refine z_imul (v := 0) b dX12_feed_91 (by decide) ?_
  refine z_isub (v := 24) b dX12_feed_92 (by decide) ?_
  refine z_ishr b dX12_feed_93 rfl ?_
  refine z_sipush (v := 255) b dX12_feed_94 (by decide) ?_
  refine z_iand b dX12_feed_97 rfl ?_
  refine y_iast (q0 := 22) (j := 0) b (mw_22 cy a S) (by decide) dX12_feed_98 (mwa_22 cy a S 0 ((p0 >>> (24 &&& 31)) &&& 255)) ?_
  refine z_aload_n b dX12_feed_99 rfl rfl ?_
  refine z_dup b dX12_feed_100 rfl ?_
  refine z_get (q0 := 0) (k9 := 25) (v := .int (fi (su S 21 0 ((p0 >>> (24 &&& 31)) &&& 255)) 1)) b (mw_0 cy a (su S 21 0 ((p0 >>> (24 &&& 31)) &&& 255))) rfl in_X12 (by decide) wf_X12_182 rfl dX12_feed_101 ?_
  refine z_eqi h_i_1 ?_
  refine z_iconst (v := 1) b dX12_feed_104 (by decide) ?_
  refine z_iadd (v := 1) b dX12_feed_105 (by decide) ?_
  refine z_put (q0 := 0) (k9 := 25) tyX12 b (mw_0 cy a (su S 21 0 ((p0 >>> (24 &&& 31)) &&& 255))) rfl in_X12 tyX12_ok nmX12 (by decide) wf_X12_182 rfl rfl rfl rfl (Nat.le_of_ble_eq_true rfl) dX12_feed_106 (mwp_0_25 cy a (su S 21 0 ((p0 >>> (24 &&& 31)) &&& 255)) 1) ?_
  refine z_iinc (k9 := 1) (v := 1) (lv' := [(6, .int 1), (7, .int p0), (0, .ref (a 0)), (1, .int p0), (2, .int p1), (3, .int p2), (4, .int p3), (5, .int p4)]) b dX12_feed_109 rfl (by decide) (by decide) rfl ?_
  refine z_goto (tgt := 18) b dX12_feed_112 (by decide) ?_
  refine z_iload b dX12_feed_18 rfl ?_
  refine z_bipush (v := 20) b dX12_feed_20 (by decide) ?_
  refine z_icmp_ge_f (tgt := 115) b dX12_feed_22 (by decide) (by decide) ?_
  refine z_iload b dX12_feed_25 rfl ?_
  refine z_iconst (v := 4) b dX12_feed_27 (by decide) ?_
  refine z_icmp_ge_f (tgt := 35) b dX12_feed_28 (by decide) (by decide) ?_
  refine z_iload_n b dX12_feed_31 rfl rfl ?_
  refine z_goto (tgt := 71) b dX12_feed_32 (by decide) ?_
  refine z_istore (lv' := [(7, .int p0), (6, .int 1), (0, .ref (a 0)), (1, .int p0), (2, .int p1), (3, .int p2), (4, .int p3), (5, .int p4)]) b dX12_feed_71 (by decide) rfl ?_
  refine z_aload_n b dX12_feed_73 rfl rfl ?_
  refine z_get (q0 := 0) (k9 := 23) (v := .ref (a 22)) b (mw_0 cy a (si (su S 21 0 ((p0 >>> (24 &&& 31)) &&& 255)) 1 1)) rfl in_X12 (by decide) wf_X12_78 rfl dX12_feed_74 ?_
  refine z_aload_n b dX12_feed_77 rfl rfl ?_
  refine z_get (q0 := 0) (k9 := 25) (v := .int 1) b (mw_0 cy a (si (su S 21 0 ((p0 >>> (24 &&& 31)) &&& 255)) 1 1)) rfl in_X12 (by decide) wf_X12_182 rfl dX12_feed_78 ?_
  refine z_iload b dX12_feed_81 rfl ?_
  refine z_bipush (v := 24) b dX12_feed_83 (by decide) ?_
  refine z_bipush (v := 8) b dX12_feed_85 (by decide) ?_
  refine z_iload b dX12_feed_87 rfl ?_
  refine z_iconst (v := 4) b dX12_feed_89 (by decide) ?_
  refine z_irem (v := 1) b dX12_feed_90 (by decide) (by decide) ?_
  refine z_imul (v := 8) b dX12_feed_91 (by decide) ?_
  refine z_isub (v := 16) b dX12_feed_92 (by decide) ?_
  refine z_ishr b dX12_feed_93 rfl ?_
  refine z_sipush (v := 255) b dX12_feed_94 (by decide) ?_
  refine z_iand b dX12_feed_97 rfl ?_
  refine y_iast (q0 := 22) (j := 1) b (mw_22 cy a (si (su S 21 0 ((p0 >>> (24 &&& 31)) &&& 255)) 1 1)) (by decide) dX12_feed_98 (mwa_22 cy a (si (su S 21 0 ((p0 >>> (24 &&& 31)) &&& 255)) 1 1) 1 ((p0 >>> (16 &&& 31)) &&& 255)) ?_
  refine z_aload_n b dX12_feed_99 rfl rfl ?_
  refine z_dup b dX12_feed_100 rfl ?_
  refine z_get (q0 := 0) (k9 := 25) (v := .int 1) b (mw_0 cy a (su (si (su S 21 0 ((p0 >>> (24 &&& 31)) &&& 255)) 1 1) 21 1 ((p0 >>> (16 &&& 31)) &&& 255))) rfl in_X12 (by decide) wf_X12_182 rfl dX12_feed_101 ?_
  refine z_iconst (v := 1) b dX12_feed_104 (by decide) ?_
  refine z_iadd (v := 2) b dX12_feed_105 (by decide) ?_
  refine z_put (q0 := 0) (k9 := 25) tyX12 b (mw_0 cy a (su (si (su S 21 0 ((p0 >>> (24 &&& 31)) &&& 255)) 1 1) 21 1 ((p0 >>> (16 &&& 31)) &&& 255))) rfl in_X12 tyX12_ok nmX12 (by decide) wf_X12_182 rfl rfl rfl rfl (Nat.le_of_ble_eq_true rfl) dX12_feed_106 (mwp_0_25 cy a (su (si (su S 21 0 ((p0 >>> (24 &&& 31)) &&& 255)) 1 1) 21 1 ((p0 >>> (16 &&& 31)) &&& 255)) 2) ?_
  refine z_iinc (k9 := 1) (v := 2) (lv' := [(6, .int 2), (7, .int p0), (0, .ref (a 0)), (1, .int p0), (2, .int p1), (3, .int p2), (4, .int p3), (5, .int p4)]) b dX12_feed_109 rfl (by decide) (by decide) rfl ?_
  refine z_goto (tgt := 18) b dX12_feed_112 (by decide) ?_
  refine z_iload b dX12_feed_18 rfl ?_
  refine z_bipush (v := 20) b dX12_feed_20 (by decide) ?_
  refine z_icmp_ge_f (tgt := 115) b dX12_feed_22 (by decide) (by decide) ?_
  refine z_iload b dX12_feed_25 rfl ?_
  refine z_iconst (v := 4) b dX12_feed_27 (by decide) ?_
  refine z_icmp_ge_f (tgt := 35) b dX12_feed_28 (by decide) (by decide) ?_
  refine z_iload_n b dX12_feed_31 rfl rfl ?_
  refine z_goto (tgt := 71) b dX12_feed_32 (by decide) ?_
  refine z_istore (lv' := [(7, .int p0), (6, .int 2), (0, .ref (a 0)), (1, .int p0), (2, .int p1), (3, .int p2), (4, .int p3), (5, .int p4)]) b dX12_feed_71 (by decide) rfl ?_
  refine z_aload_n b dX12_feed_73 rfl rfl ?_
  refine z_get (q0 := 0) (k9 := 23) (v := .ref (a 22)) b (mw_0 cy a (si (su (si (su S 21 0 ((p0 >>> (24 &&& 31)) &&& 255)) 1 1) 21 1 ((p0 >>> (16 &&& 31)) &&& 255)) 1 2)) rfl in_X12 (by decide) wf_X12_78 rfl dX12_feed_74 ?_
  refine z_aload_n b dX12_feed_77 rfl rfl ?_
  refine z_get (q0 := 0) (k9 := 25) (v := .int 2) b (mw_0 cy a (si (su (si (su S 21 0 ((p0 >>> (24 &&& 31)) &&& 255)) 1 1) 21 1 ((p0 >>> (16 &&& 31)) &&& 255)) 1 2)) rfl in_X12 (by decide) wf_X12_182 rfl dX12_feed_78 ?_
  refine z_iload b dX12_feed_81 rfl ?_
  refine z_bipush (v := 24) b dX12_feed_83 (by decide) ?_
  refine z_bipush (v := 8) b dX12_feed_85 (by decide) ?_
  refine z_iload b dX12_feed_87 rfl ?_
  refine z_iconst (v := 4) b dX12_feed_89 (by decide) ?_
  refine z_irem (v := 2) b dX12_feed_90 (by decide) (by decide) ?_
  refine z_imul (v := 16) b dX12_feed_91 (by decide) ?_
  refine z_isub (v := 8) b dX12_feed_92 (by decide) ?_
  refine z_ishr b dX12_feed_93 rfl ?_
  refine z_sipush (v := 255) b dX12_feed_94 (by decide) ?_
  refine z_iand b dX12_feed_97 rfl ?_
  refine y_iast (q0 := 22) (j := 2) b (mw_22 cy a (si (su (si (su S 21 0 ((p0 >>> (24 &&& 31)) &&& 255)) 1 1) 21 1 ((p0 >>> (16 &&& 31)) &&& 255)) 1 2)) (by decide) dX12_feed_98 (mwa_22 cy a (si (su (si (su S 21 0 ((p0 >>> (24 &&& 31)) &&& 255)) 1 1) 21 1 ((p0 >>> (16 &&& 31)) &&& 255)) 1 2) 2 ((p0 >>> (8 &&& 31)) &&& 255)) ?_
  refine z_aload_n b dX12_feed_99 rfl rfl ?_
  refine z_dup b dX12_feed_100 rfl ?_
  refine z_get (q0 := 0) (k9 := 25) (v := .int 2) b (mw_0 cy a (su (si (su (si (su S 21 0 ((p0 >>> (24 &&& 31)) &&& 255)) 1 1) 21 1 ((p0 >>> (16 &&& 31)) &&& 255)) 1 2) 21 2 ((p0 >>> (8 &&& 31)) &&& 255))) rfl in_X12 (by decide) wf_X12_182 rfl dX12_feed_101 ?_
  refine z_iconst (v := 1) b dX12_feed_104 (by decide) ?_
  refine z_iadd (v := 3) b dX12_feed_105 (by decide) ?_
  refine z_put (q0 := 0) (k9 := 25) tyX12 b (mw_0 cy a (su (si (su (si (su S 21 0 ((p0 >>> (24 &&& 31)) &&& 255)) 1 1) 21 1 ((p0 >>> (16 &&& 31)) &&& 255)) 1 2) 21 2 ((p0 >>> (8 &&& 31)) &&& 255))) rfl in_X12 tyX12_ok nmX12 (by decide) wf_X12_182 rfl rfl rfl rfl (Nat.le_of_ble_eq_true rfl) dX12_feed_106 (mwp_0_25 cy a (su (si (su (si (su S 21 0 ((p0 >>> (24 &&& 31)) &&& 255)) 1 1) 21 1 ((p0 >>> (16 &&& 31)) &&& 255)) 1 2) 21 2 ((p0 >>> (8 &&& 31)) &&& 255)) 3) ?_
  refine z_iinc (k9 := 1) (v := 3) (lv' := [(6, .int 3), (7, .int p0), (0, .ref (a 0)), (1, .int p0), (2, .int p1), (3, .int p2), (4, .int p3), (5, .int p4)]) b dX12_feed_109 rfl (by decide) (by decide) rfl ?_
  refine z_goto (tgt := 18) b dX12_feed_112 (by decide) ?_
  refine z_iload b dX12_feed_18 rfl ?_
  refine z_bipush (v := 20) b dX12_feed_20 (by decide) ?_
  refine z_icmp_ge_f (tgt := 115) b dX12_feed_22 (by decide) (by decide) ?_
  refine z_iload b dX12_feed_25 rfl ?_
  refine z_iconst (v := 4) b dX12_feed_27 (by decide) ?_
  refine z_icmp_ge_f (tgt := 35) b dX12_feed_28 (by decide) (by decide) ?_
  refine z_iload_n b dX12_feed_31 rfl rfl ?_
  refine z_goto (tgt := 71) b dX12_feed_32 (by decide) ?_
  refine z_istore (lv' := [(7, .int p0), (6, .int 3), (0, .ref (a 0)), (1, .int p0), (2, .int p1), (3, .int p2), (4, .int p3), (5, .int p4)]) b dX12_feed_71 (by decide) rfl ?_
  refine z_aload_n b dX12_feed_73 rfl rfl ?_
  refine z_get (q0 := 0) (k9 := 23) (v := .ref (a 22)) b (mw_0 cy a (si (su (si (su (si (su S 21 0 ((p0 >>> (24 &&& 31)) &&& 255)) 1 1) 21 1 ((p0 >>> (16 &&& 31)) &&& 255)) 1 2) 21 2 ((p0 >>> (8 &&& 31)) &&& 255)) 1 3)) rfl in_X12 (by decide) wf_X12_78 rfl dX12_feed_74 ?_
  refine z_aload_n b dX12_feed_77 rfl rfl ?_
  refine z_get (q0 := 0) (k9 := 25) (v := .int 3) b (mw_0 cy a (si (su (si (su (si (su S 21 0 ((p0 >>> (24 &&& 31)) &&& 255)) 1 1) 21 1 ((p0 >>> (16 &&& 31)) &&& 255)) 1 2) 21 2 ((p0 >>> (8 &&& 31)) &&& 255)) 1 3)) rfl in_X12 (by decide) wf_X12_182 rfl dX12_feed_78 ?_
  refine z_iload b dX12_feed_81 rfl ?_
  refine z_bipush (v := 24) b dX12_feed_83 (by decide) ?_
  refine z_bipush (v := 8) b dX12_feed_85 (by decide) ?_
  refine z_iload b dX12_feed_87 rfl ?_
  refine z_iconst (v := 4) b dX12_feed_89 (by decide) ?_
  refine z_irem (v := 3) b dX12_feed_90 (by decide) (by decide) ?_
  refine z_imul (v := 24) b dX12_feed_91 (by decide) ?_
  refine z_isub (v := 0) b dX12_feed_92 (by decide) ?_
  refine z_ishr b dX12_feed_93 rfl ?_
  refine z_sipush (v := 255) b dX12_feed_94 (by decide) ?_
  refine z_iand b dX12_feed_97 rfl ?_
  refine y_iast (q0 := 22) (j := 3) b (mw_22 cy a (si (su (si (su (si (su S 21 0 ((p0 >>> (24 &&& 31)) &&& 255)) 1 1) 21 1 ((p0 >>> (16 &&& 31)) &&& 255)) 1 2) 21 2 ((p0 >>> (8 &&& 31)) &&& 255)) 1 3)) (by decide) dX12_feed_98 (mwa_22 cy a (si (su (si (su (si (su S 21 0 ((p0 >>> (24 &&& 31)) &&& 255)) 1 1) 21 1 ((p0 >>> (16 &&& 31)) &&& 255)) 1 2) 21 2 ((p0 >>> (8 &&& 31)) &&& 255)) 1 3) 3 ((p0 >>> (0 &&& 31)) &&& 255)) ?_
  refine z_aload_n b dX12_feed_99 rfl rfl ?_
  refine z_dup b dX12_feed_100 rfl ?_
  refine z_get (q0 := 0) (k9 := 25) (v := .int 3) b (mw_0 cy a (su (si (su (si (su (si (su S 21 0 ((p0 >>> (24 &&& 31)) &&& 255)) 1 1) 21 1 ((p0 >>> (16 &&& 31)) &&& 255)) 1 2) 21 2 ((p0 >>> (8 &&& 31)) &&& 255)) 1 3) 21 3 ((p0 >>> (0 &&& 31)) &&& 255))) rfl in_X12 (by decide) wf_X12_182 rfl dX12_feed_101 ?_
  refine z_iconst (v := 1) b dX12_feed_104 (by decide) ?_
  refine z_iadd (v := 4) b dX12_feed_105 (by decide) ?_
  refine z_put (q0 := 0) (k9 := 25) tyX12 b (mw_0 cy a (su (si (su (si (su (si (su S 21 0 ((p0 >>> (24 &&& 31)) &&& 255)) 1 1) 21 1 ((p0 >>> (16 &&& 31)) &&& 255)) 1 2) 21 2 ((p0 >>> (8 &&& 31)) &&& 255)) 1 3) 21 3 ((p0 >>> (0 &&& 31)) &&& 255))) rfl in_X12 tyX12_ok nmX12 (by decide) wf_X12_182 rfl rfl rfl rfl (Nat.le_of_ble_eq_true rfl) dX12_feed_106 (mwp_0_25 cy a (su (si (su (si (su (si (su S 21 0 ((p0 >>> (24 &&& 31)) &&& 255)) 1 1) 21 1 ((p0 >>> (16 &&& 31)) &&& 255)) 1 2) 21 2 ((p0 >>> (8 &&& 31)) &&& 255)) 1 3) 21 3 ((p0 >>> (0 &&& 31)) &&& 255)) 4) ?_
  refine z_iinc (k9 := 1) (v := 4) (lv' := [(6, .int 4), (7, .int p0), (0, .ref (a 0)), (1, .int p0), (2, .int p1), (3, .int p2), (4, .int p3), (5, .int p4)]) b dX12_feed_109 rfl (by decide) (by decide) rfl ?_
  refine z_goto (tgt := 18) b dX12_feed_112 (by decide) ?_
  refine z_iload b dX12_feed_18 rfl ?_
  refine z_bipush (v := 20) b dX12_feed_20 (by decide) ?_
  refine z_icmp_ge_f (tgt := 115) b dX12_feed_22 (by decide) (by decide) ?_
  refine z_iload b dX12_feed_25 rfl ?_
  refine z_iconst (v := 4) b dX12_feed_27 (by decide) ?_
  refine z_icmp_ge_t (tgt := 35) b dX12_feed_28 (by decide) (by decide) ?_
  refine z_iload b dX12_feed_35 rfl ?_
  refine z_bipush (v := 8) b dX12_feed_37 (by decide) ?_
  exact k

set_option maxHeartbeats 4000000 in
set_option maxRecDepth 100000 in
theorem ch_X12_feed_51 {p : Program} {l : Launch} {e : Env} {R : Room} {s : State} {m : MethodId} {args : Array Value} {below : List Frame} {meth : Method} {c : Code} {D : va_G} {cy : Nat → ClassId} {T0 tB tE : Nat} {A : Nat → Prop} {Q : State → Prop} {a : Nat → Nat} (S : GS) (p0 : Int32) (p1 : Int32) (p2 : Int32) (p3 : Int32) (p4 : Int32)  (b : Bz p R s m args meth c D cy T0 tB tE A 8 cX12_feed RX12 (some .int) "feed" 0 0 0 0) (k : Z p l e R s m args below meth c D A 8 Q 0 0 (mw cy a (si (su (si (su (si (su (si (su (si (su (si (su (si (su (si (su S 21 0 ((p0 >>> (24 &&& 31)) &&& 255)) 1 1) 21 1 ((p0 >>> (16 &&& 31)) &&& 255)) 1 2) 21 2 ((p0 >>> (8 &&& 31)) &&& 255)) 1 3) 21 3 ((p0 >>> (0 &&& 31)) &&& 255)) 1 4) 21 4 ((p1 >>> (24 &&& 31)) &&& 255)) 1 5) 21 5 ((p1 >>> (16 &&& 31)) &&& 255)) 1 6) 21 6 ((p1 >>> (8 &&& 31)) &&& 255)) 1 7) 21 7 ((p1 >>> (0 &&& 31)) &&& 255)) 1 8)) [(7, .int p2), (6, .int 8), (0, .ref (a 0)), (1, .int p0), (2, .int p1), (3, .int p2), (4, .int p3), (5, .int p4)] 73 []) : Z p l e R s m args below meth c D A 8 Q 0 0 (mw cy a (si (su (si (su (si (su (si (su S 21 0 ((p0 >>> (24 &&& 31)) &&& 255)) 1 1) 21 1 ((p0 >>> (16 &&& 31)) &&& 255)) 1 2) 21 2 ((p0 >>> (8 &&& 31)) &&& 255)) 1 3) 21 3 ((p0 >>> (0 &&& 31)) &&& 255)) 1 4)) [(6, .int 4), (7, .int p0), (0, .ref (a 0)), (1, .int p0), (2, .int p1), (3, .int p2), (4, .int p3), (5, .int p4)] 39 [.int 8, .int 4] := by
  refine z_icmp_ge_f (tgt := 46) b dX12_feed_39 (by decide) (by decide) ?_
  refine z_iload_n b dX12_feed_42 rfl rfl ?_
  refine z_goto (tgt := 71) b dX12_feed_43 (by decide) ?_
  refine z_istore (lv' := [(7, .int p1), (6, .int 4), (0, .ref (a 0)), (1, .int p0), (2, .int p1), (3, .int p2), (4, .int p3), (5, .int p4)]) b dX12_feed_71 (by decide) rfl ?_
  refine z_aload_n b dX12_feed_73 rfl rfl ?_
  refine z_get (q0 := 0) (k9 := 23) (v := .ref (a 22)) b (mw_0 cy a (si (su (si (su (si (su (si (su S 21 0 ((p0 >>> (24 &&& 31)) &&& 255)) 1 1) 21 1 ((p0 >>> (16 &&& 31)) &&& 255)) 1 2) 21 2 ((p0 >>> (8 &&& 31)) &&& 255)) 1 3) 21 3 ((p0 >>> (0 &&& 31)) &&& 255)) 1 4)) rfl in_X12 (by decide) wf_X12_78 rfl dX12_feed_74 ?_
  refine z_aload_n b dX12_feed_77 rfl rfl ?_
  refine z_get (q0 := 0) (k9 := 25) (v := .int 4) b (mw_0 cy a (si (su (si (su (si (su (si (su S 21 0 ((p0 >>> (24 &&& 31)) &&& 255)) 1 1) 21 1 ((p0 >>> (16 &&& 31)) &&& 255)) 1 2) 21 2 ((p0 >>> (8 &&& 31)) &&& 255)) 1 3) 21 3 ((p0 >>> (0 &&& 31)) &&& 255)) 1 4)) rfl in_X12 (by decide) wf_X12_182 rfl dX12_feed_78 ?_
  refine z_iload b dX12_feed_81 rfl ?_
  refine z_bipush (v := 24) b dX12_feed_83 (by decide) ?_
  refine z_bipush (v := 8) b dX12_feed_85 (by decide) ?_
  refine z_iload b dX12_feed_87 rfl ?_
  refine z_iconst (v := 4) b dX12_feed_89 (by decide) ?_
  refine z_irem (v := 0) b dX12_feed_90 (by decide) (by decide) ?_
  refine z_imul (v := 0) b dX12_feed_91 (by decide) ?_
  refine z_isub (v := 24) b dX12_feed_92 (by decide) ?_
  refine z_ishr b dX12_feed_93 rfl ?_
  refine z_sipush (v := 255) b dX12_feed_94 (by decide) ?_
  refine z_iand b dX12_feed_97 rfl ?_
  refine y_iast (q0 := 22) (j := 4) b (mw_22 cy a (si (su (si (su (si (su (si (su S 21 0 ((p0 >>> (24 &&& 31)) &&& 255)) 1 1) 21 1 ((p0 >>> (16 &&& 31)) &&& 255)) 1 2) 21 2 ((p0 >>> (8 &&& 31)) &&& 255)) 1 3) 21 3 ((p0 >>> (0 &&& 31)) &&& 255)) 1 4)) (by decide) dX12_feed_98 (mwa_22 cy a (si (su (si (su (si (su (si (su S 21 0 ((p0 >>> (24 &&& 31)) &&& 255)) 1 1) 21 1 ((p0 >>> (16 &&& 31)) &&& 255)) 1 2) 21 2 ((p0 >>> (8 &&& 31)) &&& 255)) 1 3) 21 3 ((p0 >>> (0 &&& 31)) &&& 255)) 1 4) 4 ((p1 >>> (24 &&& 31)) &&& 255)) ?_
  refine z_aload_n b dX12_feed_99 rfl rfl ?_
  refine z_dup b dX12_feed_100 rfl ?_
  refine z_get (q0 := 0) (k9 := 25) (v := .int 4) b (mw_0 cy a (su (si (su (si (su (si (su (si (su S 21 0 ((p0 >>> (24 &&& 31)) &&& 255)) 1 1) 21 1 ((p0 >>> (16 &&& 31)) &&& 255)) 1 2) 21 2 ((p0 >>> (8 &&& 31)) &&& 255)) 1 3) 21 3 ((p0 >>> (0 &&& 31)) &&& 255)) 1 4) 21 4 ((p1 >>> (24 &&& 31)) &&& 255))) rfl in_X12 (by decide) wf_X12_182 rfl dX12_feed_101 ?_
  refine z_iconst (v := 1) b dX12_feed_104 (by decide) ?_
  refine z_iadd (v := 5) b dX12_feed_105 (by decide) ?_
  refine z_put (q0 := 0) (k9 := 25) tyX12 b (mw_0 cy a (su (si (su (si (su (si (su (si (su S 21 0 ((p0 >>> (24 &&& 31)) &&& 255)) 1 1) 21 1 ((p0 >>> (16 &&& 31)) &&& 255)) 1 2) 21 2 ((p0 >>> (8 &&& 31)) &&& 255)) 1 3) 21 3 ((p0 >>> (0 &&& 31)) &&& 255)) 1 4) 21 4 ((p1 >>> (24 &&& 31)) &&& 255))) rfl in_X12 tyX12_ok nmX12 (by decide) wf_X12_182 rfl rfl rfl rfl (Nat.le_of_ble_eq_true rfl) dX12_feed_106 (mwp_0_25 cy a (su (si (su (si (su (si (su (si (su S 21 0 ((p0 >>> (24 &&& 31)) &&& 255)) 1 1) 21 1 ((p0 >>> (16 &&& 31)) &&& 255)) 1 2) 21 2 ((p0 >>> (8 &&& 31)) &&& 255)) 1 3) 21 3 ((p0 >>> (0 &&& 31)) &&& 255)) 1 4) 21 4 ((p1 >>> (24 &&& 31)) &&& 255)) 5) ?_
  refine z_iinc (k9 := 1) (v := 5) (lv' := [(6, .int 5), (7, .int p1), (0, .ref (a 0)), (1, .int p0), (2, .int p1), (3, .int p2), (4, .int p3), (5, .int p4)]) b dX12_feed_109 rfl (by decide) (by decide) rfl ?_
  refine z_goto (tgt := 18) b dX12_feed_112 (by decide) ?_
  refine z_iload b dX12_feed_18 rfl ?_
  refine z_bipush (v := 20) b dX12_feed_20 (by decide) ?_
  refine z_icmp_ge_f (tgt := 115) b dX12_feed_22 (by decide) (by decide) ?_
  refine z_iload b dX12_feed_25 rfl ?_
  refine z_iconst (v := 4) b dX12_feed_27 (by decide) ?_
  refine z_icmp_ge_t (tgt := 35) b dX12_feed_28 (by decide) (by decide) ?_
  refine z_iload b dX12_feed_35 rfl ?_
  refine z_bipush (v := 8) b dX12_feed_37 (by decide) ?_
  refine z_icmp_ge_f (tgt := 46) b dX12_feed_39 (by decide) (by decide) ?_
  refine z_iload_n b dX12_feed_42 rfl rfl ?_
  refine z_goto (tgt := 71) b dX12_feed_43 (by decide) ?_
  refine z_istore (lv' := [(7, .int p1), (6, .int 5), (0, .ref (a 0)), (1, .int p0), (2, .int p1), (3, .int p2), (4, .int p3), (5, .int p4)]) b dX12_feed_71 (by decide) rfl ?_
  refine z_aload_n b dX12_feed_73 rfl rfl ?_
  refine z_get (q0 := 0) (k9 := 23) (v := .ref (a 22)) b (mw_0 cy a (si (su (si (su (si (su (si (su (si (su S 21 0 ((p0 >>> (24 &&& 31)) &&& 255)) 1 1) 21 1 ((p0 >>> (16 &&& 31)) &&& 255)) 1 2) 21 2 ((p0 >>> (8 &&& 31)) &&& 255)) 1 3) 21 3 ((p0 >>> (0 &&& 31)) &&& 255)) 1 4) 21 4 ((p1 >>> (24 &&& 31)) &&& 255)) 1 5)) rfl in_X12 (by decide) wf_X12_78 rfl dX12_feed_74 ?_
  refine z_aload_n b dX12_feed_77 rfl rfl ?_
  refine z_get (q0 := 0) (k9 := 25) (v := .int 5) b (mw_0 cy a (si (su (si (su (si (su (si (su (si (su S 21 0 ((p0 >>> (24 &&& 31)) &&& 255)) 1 1) 21 1 ((p0 >>> (16 &&& 31)) &&& 255)) 1 2) 21 2 ((p0 >>> (8 &&& 31)) &&& 255)) 1 3) 21 3 ((p0 >>> (0 &&& 31)) &&& 255)) 1 4) 21 4 ((p1 >>> (24 &&& 31)) &&& 255)) 1 5)) rfl in_X12 (by decide) wf_X12_182 rfl dX12_feed_78 ?_
  refine z_iload b dX12_feed_81 rfl ?_
  refine z_bipush (v := 24) b dX12_feed_83 (by decide) ?_
  refine z_bipush (v := 8) b dX12_feed_85 (by decide) ?_
  refine z_iload b dX12_feed_87 rfl ?_
  refine z_iconst (v := 4) b dX12_feed_89 (by decide) ?_
  refine z_irem (v := 1) b dX12_feed_90 (by decide) (by decide) ?_
  refine z_imul (v := 8) b dX12_feed_91 (by decide) ?_
  refine z_isub (v := 16) b dX12_feed_92 (by decide) ?_
  refine z_ishr b dX12_feed_93 rfl ?_
  refine z_sipush (v := 255) b dX12_feed_94 (by decide) ?_
  refine z_iand b dX12_feed_97 rfl ?_
  refine y_iast (q0 := 22) (j := 5) b (mw_22 cy a (si (su (si (su (si (su (si (su (si (su S 21 0 ((p0 >>> (24 &&& 31)) &&& 255)) 1 1) 21 1 ((p0 >>> (16 &&& 31)) &&& 255)) 1 2) 21 2 ((p0 >>> (8 &&& 31)) &&& 255)) 1 3) 21 3 ((p0 >>> (0 &&& 31)) &&& 255)) 1 4) 21 4 ((p1 >>> (24 &&& 31)) &&& 255)) 1 5)) (by decide) dX12_feed_98 (mwa_22 cy a (si (su (si (su (si (su (si (su (si (su S 21 0 ((p0 >>> (24 &&& 31)) &&& 255)) 1 1) 21 1 ((p0 >>> (16 &&& 31)) &&& 255)) 1 2) 21 2 ((p0 >>> (8 &&& 31)) &&& 255)) 1 3) 21 3 ((p0 >>> (0 &&& 31)) &&& 255)) 1 4) 21 4 ((p1 >>> (24 &&& 31)) &&& 255)) 1 5) 5 ((p1 >>> (16 &&& 31)) &&& 255)) ?_
  refine z_aload_n b dX12_feed_99 rfl rfl ?_
  refine z_dup b dX12_feed_100 rfl ?_
  refine z_get (q0 := 0) (k9 := 25) (v := .int 5) b (mw_0 cy a (su (si (su (si (su (si (su (si (su (si (su S 21 0 ((p0 >>> (24 &&& 31)) &&& 255)) 1 1) 21 1 ((p0 >>> (16 &&& 31)) &&& 255)) 1 2) 21 2 ((p0 >>> (8 &&& 31)) &&& 255)) 1 3) 21 3 ((p0 >>> (0 &&& 31)) &&& 255)) 1 4) 21 4 ((p1 >>> (24 &&& 31)) &&& 255)) 1 5) 21 5 ((p1 >>> (16 &&& 31)) &&& 255))) rfl in_X12 (by decide) wf_X12_182 rfl dX12_feed_101 ?_
  refine z_iconst (v := 1) b dX12_feed_104 (by decide) ?_
  refine z_iadd (v := 6) b dX12_feed_105 (by decide) ?_
  refine z_put (q0 := 0) (k9 := 25) tyX12 b (mw_0 cy a (su (si (su (si (su (si (su (si (su (si (su S 21 0 ((p0 >>> (24 &&& 31)) &&& 255)) 1 1) 21 1 ((p0 >>> (16 &&& 31)) &&& 255)) 1 2) 21 2 ((p0 >>> (8 &&& 31)) &&& 255)) 1 3) 21 3 ((p0 >>> (0 &&& 31)) &&& 255)) 1 4) 21 4 ((p1 >>> (24 &&& 31)) &&& 255)) 1 5) 21 5 ((p1 >>> (16 &&& 31)) &&& 255))) rfl in_X12 tyX12_ok nmX12 (by decide) wf_X12_182 rfl rfl rfl rfl (Nat.le_of_ble_eq_true rfl) dX12_feed_106 (mwp_0_25 cy a (su (si (su (si (su (si (su (si (su (si (su S 21 0 ((p0 >>> (24 &&& 31)) &&& 255)) 1 1) 21 1 ((p0 >>> (16 &&& 31)) &&& 255)) 1 2) 21 2 ((p0 >>> (8 &&& 31)) &&& 255)) 1 3) 21 3 ((p0 >>> (0 &&& 31)) &&& 255)) 1 4) 21 4 ((p1 >>> (24 &&& 31)) &&& 255)) 1 5) 21 5 ((p1 >>> (16 &&& 31)) &&& 255)) 6) ?_
  refine z_iinc (k9 := 1) (v := 6) (lv' := [(6, .int 6), (7, .int p1), (0, .ref (a 0)), (1, .int p0), (2, .int p1), (3, .int p2), (4, .int p3), (5, .int p4)]) b dX12_feed_109 rfl (by decide) (by decide) rfl ?_
  refine z_goto (tgt := 18) b dX12_feed_112 (by decide) ?_
  refine z_iload b dX12_feed_18 rfl ?_
  refine z_bipush (v := 20) b dX12_feed_20 (by decide) ?_
  refine z_icmp_ge_f (tgt := 115) b dX12_feed_22 (by decide) (by decide) ?_
  refine z_iload b dX12_feed_25 rfl ?_
  refine z_iconst (v := 4) b dX12_feed_27 (by decide) ?_
  refine z_icmp_ge_t (tgt := 35) b dX12_feed_28 (by decide) (by decide) ?_
  refine z_iload b dX12_feed_35 rfl ?_
  refine z_bipush (v := 8) b dX12_feed_37 (by decide) ?_
  refine z_icmp_ge_f (tgt := 46) b dX12_feed_39 (by decide) (by decide) ?_
  refine z_iload_n b dX12_feed_42 rfl rfl ?_
  refine z_goto (tgt := 71) b dX12_feed_43 (by decide) ?_
  refine z_istore (lv' := [(7, .int p1), (6, .int 6), (0, .ref (a 0)), (1, .int p0), (2, .int p1), (3, .int p2), (4, .int p3), (5, .int p4)]) b dX12_feed_71 (by decide) rfl ?_
  refine z_aload_n b dX12_feed_73 rfl rfl ?_
  refine z_get (q0 := 0) (k9 := 23) (v := .ref (a 22)) b (mw_0 cy a (si (su (si (su (si (su (si (su (si (su (si (su S 21 0 ((p0 >>> (24 &&& 31)) &&& 255)) 1 1) 21 1 ((p0 >>> (16 &&& 31)) &&& 255)) 1 2) 21 2 ((p0 >>> (8 &&& 31)) &&& 255)) 1 3) 21 3 ((p0 >>> (0 &&& 31)) &&& 255)) 1 4) 21 4 ((p1 >>> (24 &&& 31)) &&& 255)) 1 5) 21 5 ((p1 >>> (16 &&& 31)) &&& 255)) 1 6)) rfl in_X12 (by decide) wf_X12_78 rfl dX12_feed_74 ?_
  refine z_aload_n b dX12_feed_77 rfl rfl ?_
  refine z_get (q0 := 0) (k9 := 25) (v := .int 6) b (mw_0 cy a (si (su (si (su (si (su (si (su (si (su (si (su S 21 0 ((p0 >>> (24 &&& 31)) &&& 255)) 1 1) 21 1 ((p0 >>> (16 &&& 31)) &&& 255)) 1 2) 21 2 ((p0 >>> (8 &&& 31)) &&& 255)) 1 3) 21 3 ((p0 >>> (0 &&& 31)) &&& 255)) 1 4) 21 4 ((p1 >>> (24 &&& 31)) &&& 255)) 1 5) 21 5 ((p1 >>> (16 &&& 31)) &&& 255)) 1 6)) rfl in_X12 (by decide) wf_X12_182 rfl dX12_feed_78 ?_
  refine z_iload b dX12_feed_81 rfl ?_
  refine z_bipush (v := 24) b dX12_feed_83 (by decide) ?_
  refine z_bipush (v := 8) b dX12_feed_85 (by decide) ?_
  refine z_iload b dX12_feed_87 rfl ?_
  refine z_iconst (v := 4) b dX12_feed_89 (by decide) ?_
  refine z_irem (v := 2) b dX12_feed_90 (by decide) (by decide) ?_
  refine z_imul (v := 16) b dX12_feed_91 (by decide) ?_
  refine z_isub (v := 8) b dX12_feed_92 (by decide) ?_
  refine z_ishr b dX12_feed_93 rfl ?_
  refine z_sipush (v := 255) b dX12_feed_94 (by decide) ?_
  refine z_iand b dX12_feed_97 rfl ?_
  refine y_iast (q0 := 22) (j := 6) b (mw_22 cy a (si (su (si (su (si (su (si (su (si (su (si (su S 21 0 ((p0 >>> (24 &&& 31)) &&& 255)) 1 1) 21 1 ((p0 >>> (16 &&& 31)) &&& 255)) 1 2) 21 2 ((p0 >>> (8 &&& 31)) &&& 255)) 1 3) 21 3 ((p0 >>> (0 &&& 31)) &&& 255)) 1 4) 21 4 ((p1 >>> (24 &&& 31)) &&& 255)) 1 5) 21 5 ((p1 >>> (16 &&& 31)) &&& 255)) 1 6)) (by decide) dX12_feed_98 (mwa_22 cy a (si (su (si (su (si (su (si (su (si (su (si (su S 21 0 ((p0 >>> (24 &&& 31)) &&& 255)) 1 1) 21 1 ((p0 >>> (16 &&& 31)) &&& 255)) 1 2) 21 2 ((p0 >>> (8 &&& 31)) &&& 255)) 1 3) 21 3 ((p0 >>> (0 &&& 31)) &&& 255)) 1 4) 21 4 ((p1 >>> (24 &&& 31)) &&& 255)) 1 5) 21 5 ((p1 >>> (16 &&& 31)) &&& 255)) 1 6) 6 ((p1 >>> (8 &&& 31)) &&& 255)) ?_
  refine z_aload_n b dX12_feed_99 rfl rfl ?_
  refine z_dup b dX12_feed_100 rfl ?_
  refine z_get (q0 := 0) (k9 := 25) (v := .int 6) b (mw_0 cy a (su (si (su (si (su (si (su (si (su (si (su (si (su S 21 0 ((p0 >>> (24 &&& 31)) &&& 255)) 1 1) 21 1 ((p0 >>> (16 &&& 31)) &&& 255)) 1 2) 21 2 ((p0 >>> (8 &&& 31)) &&& 255)) 1 3) 21 3 ((p0 >>> (0 &&& 31)) &&& 255)) 1 4) 21 4 ((p1 >>> (24 &&& 31)) &&& 255)) 1 5) 21 5 ((p1 >>> (16 &&& 31)) &&& 255)) 1 6) 21 6 ((p1 >>> (8 &&& 31)) &&& 255))) rfl in_X12 (by decide) wf_X12_182 rfl dX12_feed_101 ?_
  refine z_iconst (v := 1) b dX12_feed_104 (by decide) ?_
  refine z_iadd (v := 7) b dX12_feed_105 (by decide) ?_
  refine z_put (q0 := 0) (k9 := 25) tyX12 b (mw_0 cy a (su (si (su (si (su (si (su (si (su (si (su (si (su S 21 0 ((p0 >>> (24 &&& 31)) &&& 255)) 1 1) 21 1 ((p0 >>> (16 &&& 31)) &&& 255)) 1 2) 21 2 ((p0 >>> (8 &&& 31)) &&& 255)) 1 3) 21 3 ((p0 >>> (0 &&& 31)) &&& 255)) 1 4) 21 4 ((p1 >>> (24 &&& 31)) &&& 255)) 1 5) 21 5 ((p1 >>> (16 &&& 31)) &&& 255)) 1 6) 21 6 ((p1 >>> (8 &&& 31)) &&& 255))) rfl in_X12 tyX12_ok nmX12 (by decide) wf_X12_182 rfl rfl rfl rfl (Nat.le_of_ble_eq_true rfl) dX12_feed_106 (mwp_0_25 cy a (su (si (su (si (su (si (su (si (su (si (su (si (su S 21 0 ((p0 >>> (24 &&& 31)) &&& 255)) 1 1) 21 1 ((p0 >>> (16 &&& 31)) &&& 255)) 1 2) 21 2 ((p0 >>> (8 &&& 31)) &&& 255)) 1 3) 21 3 ((p0 >>> (0 &&& 31)) &&& 255)) 1 4) 21 4 ((p1 >>> (24 &&& 31)) &&& 255)) 1 5) 21 5 ((p1 >>> (16 &&& 31)) &&& 255)) 1 6) 21 6 ((p1 >>> (8 &&& 31)) &&& 255)) 7) ?_
  refine z_iinc (k9 := 1) (v := 7) (lv' := [(6, .int 7), (7, .int p1), (0, .ref (a 0)), (1, .int p0), (2, .int p1), (3, .int p2), (4, .int p3), (5, .int p4)]) b dX12_feed_109 rfl (by decide) (by decide) rfl ?_
  refine z_goto (tgt := 18) b dX12_feed_112 (by decide) ?_
  refine z_iload b dX12_feed_18 rfl ?_
  refine z_bipush (v := 20) b dX12_feed_20 (by decide) ?_
  refine z_icmp_ge_f (tgt := 115) b dX12_feed_22 (by decide) (by decide) ?_
  refine z_iload b dX12_feed_25 rfl ?_
  refine z_iconst (v := 4) b dX12_feed_27 (by decide) ?_
  refine z_icmp_ge_t (tgt := 35) b dX12_feed_28 (by decide) (by decide) ?_
  refine z_iload b dX12_feed_35 rfl ?_
  refine z_bipush (v := 8) b dX12_feed_37 (by decide) ?_
  refine z_icmp_ge_f (tgt := 46) b dX12_feed_39 (by decide) (by decide) ?_
  refine z_iload_n b dX12_feed_42 rfl rfl ?_
  refine z_goto (tgt := 71) b dX12_feed_43 (by decide) ?_
  refine z_istore (lv' := [(7, .int p1), (6, .int 7), (0, .ref (a 0)), (1, .int p0), (2, .int p1), (3, .int p2), (4, .int p3), (5, .int p4)]) b dX12_feed_71 (by decide) rfl ?_
  refine z_aload_n b dX12_feed_73 rfl rfl ?_
  refine z_get (q0 := 0) (k9 := 23) (v := .ref (a 22)) b (mw_0 cy a (si (su (si (su (si (su (si (su (si (su (si (su (si (su S 21 0 ((p0 >>> (24 &&& 31)) &&& 255)) 1 1) 21 1 ((p0 >>> (16 &&& 31)) &&& 255)) 1 2) 21 2 ((p0 >>> (8 &&& 31)) &&& 255)) 1 3) 21 3 ((p0 >>> (0 &&& 31)) &&& 255)) 1 4) 21 4 ((p1 >>> (24 &&& 31)) &&& 255)) 1 5) 21 5 ((p1 >>> (16 &&& 31)) &&& 255)) 1 6) 21 6 ((p1 >>> (8 &&& 31)) &&& 255)) 1 7)) rfl in_X12 (by decide) wf_X12_78 rfl dX12_feed_74 ?_
  refine z_aload_n b dX12_feed_77 rfl rfl ?_
  refine z_get (q0 := 0) (k9 := 25) (v := .int 7) b (mw_0 cy a (si (su (si (su (si (su (si (su (si (su (si (su (si (su S 21 0 ((p0 >>> (24 &&& 31)) &&& 255)) 1 1) 21 1 ((p0 >>> (16 &&& 31)) &&& 255)) 1 2) 21 2 ((p0 >>> (8 &&& 31)) &&& 255)) 1 3) 21 3 ((p0 >>> (0 &&& 31)) &&& 255)) 1 4) 21 4 ((p1 >>> (24 &&& 31)) &&& 255)) 1 5) 21 5 ((p1 >>> (16 &&& 31)) &&& 255)) 1 6) 21 6 ((p1 >>> (8 &&& 31)) &&& 255)) 1 7)) rfl in_X12 (by decide) wf_X12_182 rfl dX12_feed_78 ?_
  refine z_iload b dX12_feed_81 rfl ?_
  refine z_bipush (v := 24) b dX12_feed_83 (by decide) ?_
  refine z_bipush (v := 8) b dX12_feed_85 (by decide) ?_
  refine z_iload b dX12_feed_87 rfl ?_
  refine z_iconst (v := 4) b dX12_feed_89 (by decide) ?_
  refine z_irem (v := 3) b dX12_feed_90 (by decide) (by decide) ?_
  refine z_imul (v := 24) b dX12_feed_91 (by decide) ?_
  refine z_isub (v := 0) b dX12_feed_92 (by decide) ?_
  refine z_ishr b dX12_feed_93 rfl ?_
  refine z_sipush (v := 255) b dX12_feed_94 (by decide) ?_
  refine z_iand b dX12_feed_97 rfl ?_
  refine y_iast (q0 := 22) (j := 7) b (mw_22 cy a (si (su (si (su (si (su (si (su (si (su (si (su (si (su S 21 0 ((p0 >>> (24 &&& 31)) &&& 255)) 1 1) 21 1 ((p0 >>> (16 &&& 31)) &&& 255)) 1 2) 21 2 ((p0 >>> (8 &&& 31)) &&& 255)) 1 3) 21 3 ((p0 >>> (0 &&& 31)) &&& 255)) 1 4) 21 4 ((p1 >>> (24 &&& 31)) &&& 255)) 1 5) 21 5 ((p1 >>> (16 &&& 31)) &&& 255)) 1 6) 21 6 ((p1 >>> (8 &&& 31)) &&& 255)) 1 7)) (by decide) dX12_feed_98 (mwa_22 cy a (si (su (si (su (si (su (si (su (si (su (si (su (si (su S 21 0 ((p0 >>> (24 &&& 31)) &&& 255)) 1 1) 21 1 ((p0 >>> (16 &&& 31)) &&& 255)) 1 2) 21 2 ((p0 >>> (8 &&& 31)) &&& 255)) 1 3) 21 3 ((p0 >>> (0 &&& 31)) &&& 255)) 1 4) 21 4 ((p1 >>> (24 &&& 31)) &&& 255)) 1 5) 21 5 ((p1 >>> (16 &&& 31)) &&& 255)) 1 6) 21 6 ((p1 >>> (8 &&& 31)) &&& 255)) 1 7) 7 ((p1 >>> (0 &&& 31)) &&& 255)) ?_
  refine z_aload_n b dX12_feed_99 rfl rfl ?_
  refine z_dup b dX12_feed_100 rfl ?_
  refine z_get (q0 := 0) (k9 := 25) (v := .int 7) b (mw_0 cy a (su (si (su (si (su (si (su (si (su (si (su (si (su (si (su S 21 0 ((p0 >>> (24 &&& 31)) &&& 255)) 1 1) 21 1 ((p0 >>> (16 &&& 31)) &&& 255)) 1 2) 21 2 ((p0 >>> (8 &&& 31)) &&& 255)) 1 3) 21 3 ((p0 >>> (0 &&& 31)) &&& 255)) 1 4) 21 4 ((p1 >>> (24 &&& 31)) &&& 255)) 1 5) 21 5 ((p1 >>> (16 &&& 31)) &&& 255)) 1 6) 21 6 ((p1 >>> (8 &&& 31)) &&& 255)) 1 7) 21 7 ((p1 >>> (0 &&& 31)) &&& 255))) rfl in_X12 (by decide) wf_X12_182 rfl dX12_feed_101 ?_
  refine z_iconst (v := 1) b dX12_feed_104 (by decide) ?_
  refine z_iadd (v := 8) b dX12_feed_105 (by decide) ?_
  refine z_put (q0 := 0) (k9 := 25) tyX12 b (mw_0 cy a (su (si (su (si (su (si (su (si (su (si (su (si (su (si (su S 21 0 ((p0 >>> (24 &&& 31)) &&& 255)) 1 1) 21 1 ((p0 >>> (16 &&& 31)) &&& 255)) 1 2) 21 2 ((p0 >>> (8 &&& 31)) &&& 255)) 1 3) 21 3 ((p0 >>> (0 &&& 31)) &&& 255)) 1 4) 21 4 ((p1 >>> (24 &&& 31)) &&& 255)) 1 5) 21 5 ((p1 >>> (16 &&& 31)) &&& 255)) 1 6) 21 6 ((p1 >>> (8 &&& 31)) &&& 255)) 1 7) 21 7 ((p1 >>> (0 &&& 31)) &&& 255))) rfl in_X12 tyX12_ok nmX12 (by decide) wf_X12_182 rfl rfl rfl rfl (Nat.le_of_ble_eq_true rfl) dX12_feed_106 (mwp_0_25 cy a (su (si (su (si (su (si (su (si (su (si (su (si (su (si (su S 21 0 ((p0 >>> (24 &&& 31)) &&& 255)) 1 1) 21 1 ((p0 >>> (16 &&& 31)) &&& 255)) 1 2) 21 2 ((p0 >>> (8 &&& 31)) &&& 255)) 1 3) 21 3 ((p0 >>> (0 &&& 31)) &&& 255)) 1 4) 21 4 ((p1 >>> (24 &&& 31)) &&& 255)) 1 5) 21 5 ((p1 >>> (16 &&& 31)) &&& 255)) 1 6) 21 6 ((p1 >>> (8 &&& 31)) &&& 255)) 1 7) 21 7 ((p1 >>> (0 &&& 31)) &&& 255)) 8) ?_
  refine z_iinc (k9 := 1) (v := 8) (lv' := [(6, .int 8), (7, .int p1), (0, .ref (a 0)), (1, .int p0), (2, .int p1), (3, .int p2), (4, .int p3), (5, .int p4)]) b dX12_feed_109 rfl (by decide) (by decide) rfl ?_
  refine z_goto (tgt := 18) b dX12_feed_112 (by decide) ?_
  refine z_iload b dX12_feed_18 rfl ?_
  refine z_bipush (v := 20) b dX12_feed_20 (by decide) ?_
  refine z_icmp_ge_f (tgt := 115) b dX12_feed_22 (by decide) (by decide) ?_
  refine z_iload b dX12_feed_25 rfl ?_
  refine z_iconst (v := 4) b dX12_feed_27 (by decide) ?_
  refine z_icmp_ge_t (tgt := 35) b dX12_feed_28 (by decide) (by decide) ?_
  refine z_iload b dX12_feed_35 rfl ?_
  refine z_bipush (v := 8) b dX12_feed_37 (by decide) ?_
  refine z_icmp_ge_t (tgt := 46) b dX12_feed_39 (by decide) (by decide) ?_
  refine z_iload b dX12_feed_46 rfl ?_
  refine z_bipush (v := 12) b dX12_feed_48 (by decide) ?_
  refine z_icmp_ge_f (tgt := 57) b dX12_feed_50 (by decide) (by decide) ?_
  refine z_iload_n b dX12_feed_53 rfl rfl ?_
  refine z_goto (tgt := 71) b dX12_feed_54 (by decide) ?_
  refine z_istore (lv' := [(7, .int p2), (6, .int 8), (0, .ref (a 0)), (1, .int p0), (2, .int p1), (3, .int p2), (4, .int p3), (5, .int p4)]) b dX12_feed_71 (by decide) rfl ?_
  exact k

set_option maxHeartbeats 4000000 in
set_option maxRecDepth 100000 in
theorem ch_X12_feed_52 {p : Program} {l : Launch} {e : Env} {R : Room} {s : State} {m : MethodId} {args : Array Value} {below : List Frame} {meth : Method} {c : Code} {D : va_G} {cy : Nat → ClassId} {T0 tB tE : Nat} {A : Nat → Prop} {Q : State → Prop} {a : Nat → Nat} (S : GS) (p0 : Int32) (p1 : Int32) (p2 : Int32) (p3 : Int32) (p4 : Int32)  (b : Bz p R s m args meth c D cy T0 tB tE A 8 cX12_feed RX12 (some .int) "feed" 0 0 0 0) (k : Z p l e R s m args below meth c D A 8 Q 0 0 (mw cy a (si (su (si (su (si (su (si (su (si (su (si (su (si (su (si (su (si (su (si (su (si (su (si (su S 21 0 ((p0 >>> (24 &&& 31)) &&& 255)) 1 1) 21 1 ((p0 >>> (16 &&& 31)) &&& 255)) 1 2) 21 2 ((p0 >>> (8 &&& 31)) &&& 255)) 1 3) 21 3 ((p0 >>> (0 &&& 31)) &&& 255)) 1 4) 21 4 ((p1 >>> (24 &&& 31)) &&& 255)) 1 5) 21 5 ((p1 >>> (16 &&& 31)) &&& 255)) 1 6) 21 6 ((p1 >>> (8 &&& 31)) &&& 255)) 1 7) 21 7 ((p1 >>> (0 &&& 31)) &&& 255)) 1 8) 21 8 ((p2 >>> (24 &&& 31)) &&& 255)) 1 9) 21 9 ((p2 >>> (16 &&& 31)) &&& 255)) 1 10) 21 10 ((p2 >>> (8 &&& 31)) &&& 255)) 1 11) 21 11 ((p2 >>> (0 &&& 31)) &&& 255)) 1 12)) [(6, .int 12), (7, .int p2), (0, .ref (a 0)), (1, .int p0), (2, .int p1), (3, .int p2), (4, .int p3), (5, .int p4)] 48 [.int 12]) : Z p l e R s m args below meth c D A 8 Q 0 0 (mw cy a (si (su (si (su (si (su (si (su (si (su (si (su (si (su (si (su S 21 0 ((p0 >>> (24 &&& 31)) &&& 255)) 1 1) 21 1 ((p0 >>> (16 &&& 31)) &&& 255)) 1 2) 21 2 ((p0 >>> (8 &&& 31)) &&& 255)) 1 3) 21 3 ((p0 >>> (0 &&& 31)) &&& 255)) 1 4) 21 4 ((p1 >>> (24 &&& 31)) &&& 255)) 1 5) 21 5 ((p1 >>> (16 &&& 31)) &&& 255)) 1 6) 21 6 ((p1 >>> (8 &&& 31)) &&& 255)) 1 7) 21 7 ((p1 >>> (0 &&& 31)) &&& 255)) 1 8)) [(7, .int p2), (6, .int 8), (0, .ref (a 0)), (1, .int p0), (2, .int p1), (3, .int p2), (4, .int p3), (5, .int p4)] 73 [] := by
  refine z_aload_n b dX12_feed_73 rfl rfl ?_
  refine z_get (q0 := 0) (k9 := 23) (v := .ref (a 22)) b (mw_0 cy a (si (su (si (su (si (su (si (su (si (su (si (su (si (su (si (su S 21 0 ((p0 >>> (24 &&& 31)) &&& 255)) 1 1) 21 1 ((p0 >>> (16 &&& 31)) &&& 255)) 1 2) 21 2 ((p0 >>> (8 &&& 31)) &&& 255)) 1 3) 21 3 ((p0 >>> (0 &&& 31)) &&& 255)) 1 4) 21 4 ((p1 >>> (24 &&& 31)) &&& 255)) 1 5) 21 5 ((p1 >>> (16 &&& 31)) &&& 255)) 1 6) 21 6 ((p1 >>> (8 &&& 31)) &&& 255)) 1 7) 21 7 ((p1 >>> (0 &&& 31)) &&& 255)) 1 8)) rfl in_X12 (by decide) wf_X12_78 rfl dX12_feed_74 ?_
  refine z_aload_n b dX12_feed_77 rfl rfl ?_
  refine z_get (q0 := 0) (k9 := 25) (v := .int 8) b (mw_0 cy a (si (su (si (su (si (su (si (su (si (su (si (su (si (su (si (su S 21 0 ((p0 >>> (24 &&& 31)) &&& 255)) 1 1) 21 1 ((p0 >>> (16 &&& 31)) &&& 255)) 1 2) 21 2 ((p0 >>> (8 &&& 31)) &&& 255)) 1 3) 21 3 ((p0 >>> (0 &&& 31)) &&& 255)) 1 4) 21 4 ((p1 >>> (24 &&& 31)) &&& 255)) 1 5) 21 5 ((p1 >>> (16 &&& 31)) &&& 255)) 1 6) 21 6 ((p1 >>> (8 &&& 31)) &&& 255)) 1 7) 21 7 ((p1 >>> (0 &&& 31)) &&& 255)) 1 8)) rfl in_X12 (by decide) wf_X12_182 rfl dX12_feed_78 ?_
  refine z_iload b dX12_feed_81 rfl ?_
  refine z_bipush (v := 24) b dX12_feed_83 (by decide) ?_
  refine z_bipush (v := 8) b dX12_feed_85 (by decide) ?_
  refine z_iload b dX12_feed_87 rfl ?_
  refine z_iconst (v := 4) b dX12_feed_89 (by decide) ?_
  refine z_irem (v := 0) b dX12_feed_90 (by decide) (by decide) ?_
  refine z_imul (v := 0) b dX12_feed_91 (by decide) ?_
  refine z_isub (v := 24) b dX12_feed_92 (by decide) ?_
  refine z_ishr b dX12_feed_93 rfl ?_
  refine z_sipush (v := 255) b dX12_feed_94 (by decide) ?_
  refine z_iand b dX12_feed_97 rfl ?_
  refine y_iast (q0 := 22) (j := 8) b (mw_22 cy a (si (su (si (su (si (su (si (su (si (su (si (su (si (su (si (su S 21 0 ((p0 >>> (24 &&& 31)) &&& 255)) 1 1) 21 1 ((p0 >>> (16 &&& 31)) &&& 255)) 1 2) 21 2 ((p0 >>> (8 &&& 31)) &&& 255)) 1 3) 21 3 ((p0 >>> (0 &&& 31)) &&& 255)) 1 4) 21 4 ((p1 >>> (24 &&& 31)) &&& 255)) 1 5) 21 5 ((p1 >>> (16 &&& 31)) &&& 255)) 1 6) 21 6 ((p1 >>> (8 &&& 31)) &&& 255)) 1 7) 21 7 ((p1 >>> (0 &&& 31)) &&& 255)) 1 8)) (by decide) dX12_feed_98 (mwa_22 cy a (si (su (si (su (si (su (si (su (si (su (si (su (si (su (si (su S 21 0 ((p0 >>> (24 &&& 31)) &&& 255)) 1 1) 21 1 ((p0 >>> (16 &&& 31)) &&& 255)) 1 2) 21 2 ((p0 >>> (8 &&& 31)) &&& 255)) 1 3) 21 3 ((p0 >>> (0 &&& 31)) &&& 255)) 1 4) 21 4 ((p1 >>> (24 &&& 31)) &&& 255)) 1 5) 21 5 ((p1 >>> (16 &&& 31)) &&& 255)) 1 6) 21 6 ((p1 >>> (8 &&& 31)) &&& 255)) 1 7) 21 7 ((p1 >>> (0 &&& 31)) &&& 255)) 1 8) 8 ((p2 >>> (24 &&& 31)) &&& 255)) ?_
  refine z_aload_n b dX12_feed_99 rfl rfl ?_
  refine z_dup b dX12_feed_100 rfl ?_
  refine z_get (q0 := 0) (k9 := 25) (v := .int 8) b (mw_0 cy a (su (si (su (si (su (si (su (si (su (si (su (si (su (si (su (si (su S 21 0 ((p0 >>> (24 &&& 31)) &&& 255)) 1 1) 21 1 ((p0 >>> (16 &&& 31)) &&& 255)) 1 2) 21 2 ((p0 >>> (8 &&& 31)) &&& 255)) 1 3) 21 3 ((p0 >>> (0 &&& 31)) &&& 255)) 1 4) 21 4 ((p1 >>> (24 &&& 31)) &&& 255)) 1 5) 21 5 ((p1 >>> (16 &&& 31)) &&& 255)) 1 6) 21 6 ((p1 >>> (8 &&& 31)) &&& 255)) 1 7) 21 7 ((p1 >>> (0 &&& 31)) &&& 255)) 1 8) 21 8 ((p2 >>> (24 &&& 31)) &&& 255))) rfl in_X12 (by decide) wf_X12_182 rfl dX12_feed_101 ?_
  refine z_iconst (v := 1) b dX12_feed_104 (by decide) ?_
  refine z_iadd (v := 9) b dX12_feed_105 (by decide) ?_
  refine z_put (q0 := 0) (k9 := 25) tyX12 b (mw_0 cy a (su (si (su (si (su (si (su (si (su (si (su (si (su (si (su (si (su S 21 0 ((p0 >>> (24 &&& 31)) &&& 255)) 1 1) 21 1 ((p0 >>> (16 &&& 31)) &&& 255)) 1 2) 21 2 ((p0 >>> (8 &&& 31)) &&& 255)) 1 3) 21 3 ((p0 >>> (0 &&& 31)) &&& 255)) 1 4) 21 4 ((p1 >>> (24 &&& 31)) &&& 255)) 1 5) 21 5 ((p1 >>> (16 &&& 31)) &&& 255)) 1 6) 21 6 ((p1 >>> (8 &&& 31)) &&& 255)) 1 7) 21 7 ((p1 >>> (0 &&& 31)) &&& 255)) 1 8) 21 8 ((p2 >>> (24 &&& 31)) &&& 255))) rfl in_X12 tyX12_ok nmX12 (by decide) wf_X12_182 rfl rfl rfl rfl (Nat.le_of_ble_eq_true rfl) dX12_feed_106 (mwp_0_25 cy a (su (si (su (si (su (si (su (si (su (si (su (si (su (si (su (si (su S 21 0 ((p0 >>> (24 &&& 31)) &&& 255)) 1 1) 21 1 ((p0 >>> (16 &&& 31)) &&& 255)) 1 2) 21 2 ((p0 >>> (8 &&& 31)) &&& 255)) 1 3) 21 3 ((p0 >>> (0 &&& 31)) &&& 255)) 1 4) 21 4 ((p1 >>> (24 &&& 31)) &&& 255)) 1 5) 21 5 ((p1 >>> (16 &&& 31)) &&& 255)) 1 6) 21 6 ((p1 >>> (8 &&& 31)) &&& 255)) 1 7) 21 7 ((p1 >>> (0 &&& 31)) &&& 255)) 1 8) 21 8 ((p2 >>> (24 &&& 31)) &&& 255)) 9) ?_
  refine z_iinc (k9 := 1) (v := 9) (lv' := [(6, .int 9), (7, .int p2), (0, .ref (a 0)), (1, .int p0), (2, .int p1), (3, .int p2), (4, .int p3), (5, .int p4)]) b dX12_feed_109 rfl (by decide) (by decide) rfl ?_
  refine z_goto (tgt := 18) b dX12_feed_112 (by decide) ?_
  refine z_iload b dX12_feed_18 rfl ?_
  refine z_bipush (v := 20) b dX12_feed_20 (by decide) ?_
  refine z_icmp_ge_f (tgt := 115) b dX12_feed_22 (by decide) (by decide) ?_
  refine z_iload b dX12_feed_25 rfl ?_
  refine z_iconst (v := 4) b dX12_feed_27 (by decide) ?_
  refine z_icmp_ge_t (tgt := 35) b dX12_feed_28 (by decide) (by decide) ?_
  refine z_iload b dX12_feed_35 rfl ?_
  refine z_bipush (v := 8) b dX12_feed_37 (by decide) ?_
  refine z_icmp_ge_t (tgt := 46) b dX12_feed_39 (by decide) (by decide) ?_
  refine z_iload b dX12_feed_46 rfl ?_
  refine z_bipush (v := 12) b dX12_feed_48 (by decide) ?_
  refine z_icmp_ge_f (tgt := 57) b dX12_feed_50 (by decide) (by decide) ?_
  refine z_iload_n b dX12_feed_53 rfl rfl ?_
  refine z_goto (tgt := 71) b dX12_feed_54 (by decide) ?_
  refine z_istore (lv' := [(7, .int p2), (6, .int 9), (0, .ref (a 0)), (1, .int p0), (2, .int p1), (3, .int p2), (4, .int p3), (5, .int p4)]) b dX12_feed_71 (by decide) rfl ?_
  refine z_aload_n b dX12_feed_73 rfl rfl ?_
  refine z_get (q0 := 0) (k9 := 23) (v := .ref (a 22)) b (mw_0 cy a (si (su (si (su (si (su (si (su (si (su (si (su (si (su (si (su (si (su S 21 0 ((p0 >>> (24 &&& 31)) &&& 255)) 1 1) 21 1 ((p0 >>> (16 &&& 31)) &&& 255)) 1 2) 21 2 ((p0 >>> (8 &&& 31)) &&& 255)) 1 3) 21 3 ((p0 >>> (0 &&& 31)) &&& 255)) 1 4) 21 4 ((p1 >>> (24 &&& 31)) &&& 255)) 1 5) 21 5 ((p1 >>> (16 &&& 31)) &&& 255)) 1 6) 21 6 ((p1 >>> (8 &&& 31)) &&& 255)) 1 7) 21 7 ((p1 >>> (0 &&& 31)) &&& 255)) 1 8) 21 8 ((p2 >>> (24 &&& 31)) &&& 255)) 1 9)) rfl in_X12 (by decide) wf_X12_78 rfl dX12_feed_74 ?_
  refine z_aload_n b dX12_feed_77 rfl rfl ?_
  refine z_get (q0 := 0) (k9 := 25) (v := .int 9) b (mw_0 cy a (si (su (si (su (si (su (si (su (si (su (si (su (si (su (si (su (si (su S 21 0 ((p0 >>> (24 &&& 31)) &&& 255)) 1 1) 21 1 ((p0 >>> (16 &&& 31)) &&& 255)) 1 2) 21 2 ((p0 >>> (8 &&& 31)) &&& 255)) 1 3) 21 3 ((p0 >>> (0 &&& 31)) &&& 255)) 1 4) 21 4 ((p1 >>> (24 &&& 31)) &&& 255)) 1 5) 21 5 ((p1 >>> (16 &&& 31)) &&& 255)) 1 6) 21 6 ((p1 >>> (8 &&& 31)) &&& 255)) 1 7) 21 7 ((p1 >>> (0 &&& 31)) &&& 255)) 1 8) 21 8 ((p2 >>> (24 &&& 31)) &&& 255)) 1 9)) rfl in_X12 (by decide) wf_X12_182 rfl dX12_feed_78 ?_
  refine z_iload b dX12_feed_81 rfl ?_
  refine z_bipush (v := 24) b dX12_feed_83 (by decide) ?_
  refine z_bipush (v := 8) b dX12_feed_85 (by decide) ?_
  refine z_iload b dX12_feed_87 rfl ?_
  refine z_iconst (v := 4) b dX12_feed_89 (by decide) ?_
  refine z_irem (v := 1) b dX12_feed_90 (by decide) (by decide) ?_
  refine z_imul (v := 8) b dX12_feed_91 (by decide) ?_
  refine z_isub (v := 16) b dX12_feed_92 (by decide) ?_
  refine z_ishr b dX12_feed_93 rfl ?_
  refine z_sipush (v := 255) b dX12_feed_94 (by decide) ?_
  refine z_iand b dX12_feed_97 rfl ?_
  refine y_iast (q0 := 22) (j := 9) b (mw_22 cy a (si (su (si (su (si (su (si (su (si (su (si (su (si (su (si (su (si (su S 21 0 ((p0 >>> (24 &&& 31)) &&& 255)) 1 1) 21 1 ((p0 >>> (16 &&& 31)) &&& 255)) 1 2) 21 2 ((p0 >>> (8 &&& 31)) &&& 255)) 1 3) 21 3 ((p0 >>> (0 &&& 31)) &&& 255)) 1 4) 21 4 ((p1 >>> (24 &&& 31)) &&& 255)) 1 5) 21 5 ((p1 >>> (16 &&& 31)) &&& 255)) 1 6) 21 6 ((p1 >>> (8 &&& 31)) &&& 255)) 1 7) 21 7 ((p1 >>> (0 &&& 31)) &&& 255)) 1 8) 21 8 ((p2 >>> (24 &&& 31)) &&& 255)) 1 9)) (by decide) dX12_feed_98 (mwa_22 cy a (si (su (si (su (si (su (si (su (si (su (si (su (si (su (si (su (si (su S 21 0 ((p0 >>> (24 &&& 31)) &&& 255)) 1 1) 21 1 ((p0 >>> (16 &&& 31)) &&& 255)) 1 2) 21 2 ((p0 >>> (8 &&& 31)) &&& 255)) 1 3) 21 3 ((p0 >>> (0 &&& 31)) &&& 255)) 1 4) 21 4 ((p1 >>> (24 &&& 31)) &&& 255)) 1 5) 21 5 ((p1 >>> (16 &&& 31)) &&& 255)) 1 6) 21 6 ((p1 >>> (8 &&& 31)) &&& 255)) 1 7) 21 7 ((p1 >>> (0 &&& 31)) &&& 255)) 1 8) 21 8 ((p2 >>> (24 &&& 31)) &&& 255)) 1 9) 9 ((p2 >>> (16 &&& 31)) &&& 255)) ?_
  refine z_aload_n b dX12_feed_99 rfl rfl ?_
  refine z_dup b dX12_feed_100 rfl ?_
  refine z_get (q0 := 0) (k9 := 25) (v := .int 9) b (mw_0 cy a (su (si (su (si (su (si (su (si (su (si (su (si (su (si (su (si (su (si (su S 21 0 ((p0 >>> (24 &&& 31)) &&& 255)) 1 1) 21 1 ((p0 >>> (16 &&& 31)) &&& 255)) 1 2) 21 2 ((p0 >>> (8 &&& 31)) &&& 255)) 1 3) 21 3 ((p0 >>> (0 &&& 31)) &&& 255)) 1 4) 21 4 ((p1 >>> (24 &&& 31)) &&& 255)) 1 5) 21 5 ((p1 >>> (16 &&& 31)) &&& 255)) 1 6) 21 6 ((p1 >>> (8 &&& 31)) &&& 255)) 1 7) 21 7 ((p1 >>> (0 &&& 31)) &&& 255)) 1 8) 21 8 ((p2 >>> (24 &&& 31)) &&& 255)) 1 9) 21 9 ((p2 >>> (16 &&& 31)) &&& 255))) rfl in_X12 (by decide) wf_X12_182 rfl dX12_feed_101 ?_
  refine z_iconst (v := 1) b dX12_feed_104 (by decide) ?_
  refine z_iadd (v := 10) b dX12_feed_105 (by decide) ?_
  refine z_put (q0 := 0) (k9 := 25) tyX12 b (mw_0 cy a (su (si (su (si (su (si (su (si (su (si (su (si (su (si (su (si (su (si (su S 21 0 ((p0 >>> (24 &&& 31)) &&& 255)) 1 1) 21 1 ((p0 >>> (16 &&& 31)) &&& 255)) 1 2) 21 2 ((p0 >>> (8 &&& 31)) &&& 255)) 1 3) 21 3 ((p0 >>> (0 &&& 31)) &&& 255)) 1 4) 21 4 ((p1 >>> (24 &&& 31)) &&& 255)) 1 5) 21 5 ((p1 >>> (16 &&& 31)) &&& 255)) 1 6) 21 6 ((p1 >>> (8 &&& 31)) &&& 255)) 1 7) 21 7 ((p1 >>> (0 &&& 31)) &&& 255)) 1 8) 21 8 ((p2 >>> (24 &&& 31)) &&& 255)) 1 9) 21 9 ((p2 >>> (16 &&& 31)) &&& 255))) rfl in_X12 tyX12_ok nmX12 (by decide) wf_X12_182 rfl rfl rfl rfl (Nat.le_of_ble_eq_true rfl) dX12_feed_106 (mwp_0_25 cy a (su (si (su (si (su (si (su (si (su (si (su (si (su (si (su (si (su (si (su S 21 0 ((p0 >>> (24 &&& 31)) &&& 255)) 1 1) 21 1 ((p0 >>> (16 &&& 31)) &&& 255)) 1 2) 21 2 ((p0 >>> (8 &&& 31)) &&& 255)) 1 3) 21 3 ((p0 >>> (0 &&& 31)) &&& 255)) 1 4) 21 4 ((p1 >>> (24 &&& 31)) &&& 255)) 1 5) 21 5 ((p1 >>> (16 &&& 31)) &&& 255)) 1 6) 21 6 ((p1 >>> (8 &&& 31)) &&& 255)) 1 7) 21 7 ((p1 >>> (0 &&& 31)) &&& 255)) 1 8) 21 8 ((p2 >>> (24 &&& 31)) &&& 255)) 1 9) 21 9 ((p2 >>> (16 &&& 31)) &&& 255)) 10) ?_
  refine z_iinc (k9 := 1) (v := 10) (lv' := [(6, .int 10), (7, .int p2), (0, .ref (a 0)), (1, .int p0), (2, .int p1), (3, .int p2), (4, .int p3), (5, .int p4)]) b dX12_feed_109 rfl (by decide) (by decide) rfl ?_
  refine z_goto (tgt := 18) b dX12_feed_112 (by decide) ?_
  refine z_iload b dX12_feed_18 rfl ?_
  refine z_bipush (v := 20) b dX12_feed_20 (by decide) ?_
  refine z_icmp_ge_f (tgt := 115) b dX12_feed_22 (by decide) (by decide) ?_
  refine z_iload b dX12_feed_25 rfl ?_
  refine z_iconst (v := 4) b dX12_feed_27 (by decide) ?_
  refine z_icmp_ge_t (tgt := 35) b dX12_feed_28 (by decide) (by decide) ?_
  refine z_iload b dX12_feed_35 rfl ?_
  refine z_bipush (v := 8) b dX12_feed_37 (by decide) ?_
  refine z_icmp_ge_t (tgt := 46) b dX12_feed_39 (by decide) (by decide) ?_
  refine z_iload b dX12_feed_46 rfl ?_
  refine z_bipush (v := 12) b dX12_feed_48 (by decide) ?_
  refine z_icmp_ge_f (tgt := 57) b dX12_feed_50 (by decide) (by decide) ?_
  refine z_iload_n b dX12_feed_53 rfl rfl ?_
  refine z_goto (tgt := 71) b dX12_feed_54 (by decide) ?_
  refine z_istore (lv' := [(7, .int p2), (6, .int 10), (0, .ref (a 0)), (1, .int p0), (2, .int p1), (3, .int p2), (4, .int p3), (5, .int p4)]) b dX12_feed_71 (by decide) rfl ?_
  refine z_aload_n b dX12_feed_73 rfl rfl ?_
  refine z_get (q0 := 0) (k9 := 23) (v := .ref (a 22)) b (mw_0 cy a (si (su (si (su (si (su (si (su (si (su (si (su (si (su (si (su (si (su (si (su S 21 0 ((p0 >>> (24 &&& 31)) &&& 255)) 1 1) 21 1 ((p0 >>> (16 &&& 31)) &&& 255)) 1 2) 21 2 ((p0 >>> (8 &&& 31)) &&& 255)) 1 3) 21 3 ((p0 >>> (0 &&& 31)) &&& 255)) 1 4) 21 4 ((p1 >>> (24 &&& 31)) &&& 255)) 1 5) 21 5 ((p1 >>> (16 &&& 31)) &&& 255)) 1 6) 21 6 ((p1 >>> (8 &&& 31)) &&& 255)) 1 7) 21 7 ((p1 >>> (0 &&& 31)) &&& 255)) 1 8) 21 8 ((p2 >>> (24 &&& 31)) &&& 255)) 1 9) 21 9 ((p2 >>> (16 &&& 31)) &&& 255)) 1 10)) rfl in_X12 (by decide) wf_X12_78 rfl dX12_feed_74 ?_
  refine z_aload_n b dX12_feed_77 rfl rfl ?_
  refine z_get (q0 := 0) (k9 := 25) (v := .int 10) b (mw_0 cy a (si (su (si (su (si (su (si (su (si (su (si (su (si (su (si (su (si (su (si (su S 21 0 ((p0 >>> (24 &&& 31)) &&& 255)) 1 1) 21 1 ((p0 >>> (16 &&& 31)) &&& 255)) 1 2) 21 2 ((p0 >>> (8 &&& 31)) &&& 255)) 1 3) 21 3 ((p0 >>> (0 &&& 31)) &&& 255)) 1 4) 21 4 ((p1 >>> (24 &&& 31)) &&& 255)) 1 5) 21 5 ((p1 >>> (16 &&& 31)) &&& 255)) 1 6) 21 6 ((p1 >>> (8 &&& 31)) &&& 255)) 1 7) 21 7 ((p1 >>> (0 &&& 31)) &&& 255)) 1 8) 21 8 ((p2 >>> (24 &&& 31)) &&& 255)) 1 9) 21 9 ((p2 >>> (16 &&& 31)) &&& 255)) 1 10)) rfl in_X12 (by decide) wf_X12_182 rfl dX12_feed_78 ?_
  refine z_iload b dX12_feed_81 rfl ?_
  refine z_bipush (v := 24) b dX12_feed_83 (by decide) ?_
  refine z_bipush (v := 8) b dX12_feed_85 (by decide) ?_
  refine z_iload b dX12_feed_87 rfl ?_
  refine z_iconst (v := 4) b dX12_feed_89 (by decide) ?_
  refine z_irem (v := 2) b dX12_feed_90 (by decide) (by decide) ?_
  refine z_imul (v := 16) b dX12_feed_91 (by decide) ?_
  refine z_isub (v := 8) b dX12_feed_92 (by decide) ?_
  refine z_ishr b dX12_feed_93 rfl ?_
  refine z_sipush (v := 255) b dX12_feed_94 (by decide) ?_
  refine z_iand b dX12_feed_97 rfl ?_
  refine y_iast (q0 := 22) (j := 10) b (mw_22 cy a (si (su (si (su (si (su (si (su (si (su (si (su (si (su (si (su (si (su (si (su S 21 0 ((p0 >>> (24 &&& 31)) &&& 255)) 1 1) 21 1 ((p0 >>> (16 &&& 31)) &&& 255)) 1 2) 21 2 ((p0 >>> (8 &&& 31)) &&& 255)) 1 3) 21 3 ((p0 >>> (0 &&& 31)) &&& 255)) 1 4) 21 4 ((p1 >>> (24 &&& 31)) &&& 255)) 1 5) 21 5 ((p1 >>> (16 &&& 31)) &&& 255)) 1 6) 21 6 ((p1 >>> (8 &&& 31)) &&& 255)) 1 7) 21 7 ((p1 >>> (0 &&& 31)) &&& 255)) 1 8) 21 8 ((p2 >>> (24 &&& 31)) &&& 255)) 1 9) 21 9 ((p2 >>> (16 &&& 31)) &&& 255)) 1 10)) (by decide) dX12_feed_98 (mwa_22 cy a (si (su (si (su (si (su (si (su (si (su (si (su (si (su (si (su (si (su (si (su S 21 0 ((p0 >>> (24 &&& 31)) &&& 255)) 1 1) 21 1 ((p0 >>> (16 &&& 31)) &&& 255)) 1 2) 21 2 ((p0 >>> (8 &&& 31)) &&& 255)) 1 3) 21 3 ((p0 >>> (0 &&& 31)) &&& 255)) 1 4) 21 4 ((p1 >>> (24 &&& 31)) &&& 255)) 1 5) 21 5 ((p1 >>> (16 &&& 31)) &&& 255)) 1 6) 21 6 ((p1 >>> (8 &&& 31)) &&& 255)) 1 7) 21 7 ((p1 >>> (0 &&& 31)) &&& 255)) 1 8) 21 8 ((p2 >>> (24 &&& 31)) &&& 255)) 1 9) 21 9 ((p2 >>> (16 &&& 31)) &&& 255)) 1 10) 10 ((p2 >>> (8 &&& 31)) &&& 255)) ?_
  refine z_aload_n b dX12_feed_99 rfl rfl ?_
  refine z_dup b dX12_feed_100 rfl ?_
  refine z_get (q0 := 0) (k9 := 25) (v := .int 10) b (mw_0 cy a (su (si (su (si (su (si (su (si (su (si (su (si (su (si (su (si (su (si (su (si (su S 21 0 ((p0 >>> (24 &&& 31)) &&& 255)) 1 1) 21 1 ((p0 >>> (16 &&& 31)) &&& 255)) 1 2) 21 2 ((p0 >>> (8 &&& 31)) &&& 255)) 1 3) 21 3 ((p0 >>> (0 &&& 31)) &&& 255)) 1 4) 21 4 ((p1 >>> (24 &&& 31)) &&& 255)) 1 5) 21 5 ((p1 >>> (16 &&& 31)) &&& 255)) 1 6) 21 6 ((p1 >>> (8 &&& 31)) &&& 255)) 1 7) 21 7 ((p1 >>> (0 &&& 31)) &&& 255)) 1 8) 21 8 ((p2 >>> (24 &&& 31)) &&& 255)) 1 9) 21 9 ((p2 >>> (16 &&& 31)) &&& 255)) 1 10) 21 10 ((p2 >>> (8 &&& 31)) &&& 255))) rfl in_X12 (by decide) wf_X12_182 rfl dX12_feed_101 ?_
  refine z_iconst (v := 1) b dX12_feed_104 (by decide) ?_
  refine z_iadd (v := 11) b dX12_feed_105 (by decide) ?_
  refine z_put (q0 := 0) (k9 := 25) tyX12 b (mw_0 cy a (su (si (su (si (su (si (su (si (su (si (su (si (su (si (su (si (su (si (su (si (su S 21 0 ((p0 >>> (24 &&& 31)) &&& 255)) 1 1) 21 1 ((p0 >>> (16 &&& 31)) &&& 255)) 1 2) 21 2 ((p0 >>> (8 &&& 31)) &&& 255)) 1 3) 21 3 ((p0 >>> (0 &&& 31)) &&& 255)) 1 4) 21 4 ((p1 >>> (24 &&& 31)) &&& 255)) 1 5) 21 5 ((p1 >>> (16 &&& 31)) &&& 255)) 1 6) 21 6 ((p1 >>> (8 &&& 31)) &&& 255)) 1 7) 21 7 ((p1 >>> (0 &&& 31)) &&& 255)) 1 8) 21 8 ((p2 >>> (24 &&& 31)) &&& 255)) 1 9) 21 9 ((p2 >>> (16 &&& 31)) &&& 255)) 1 10) 21 10 ((p2 >>> (8 &&& 31)) &&& 255))) rfl in_X12 tyX12_ok nmX12 (by decide) wf_X12_182 rfl rfl rfl rfl (Nat.le_of_ble_eq_true rfl) dX12_feed_106 (mwp_0_25 cy a (su (si (su (si (su (si (su (si (su (si (su (si (su (si (su (si (su (si (su (si (su S 21 0 ((p0 >>> (24 &&& 31)) &&& 255)) 1 1) 21 1 ((p0 >>> (16 &&& 31)) &&& 255)) 1 2) 21 2 ((p0 >>> (8 &&& 31)) &&& 255)) 1 3) 21 3 ((p0 >>> (0 &&& 31)) &&& 255)) 1 4) 21 4 ((p1 >>> (24 &&& 31)) &&& 255)) 1 5) 21 5 ((p1 >>> (16 &&& 31)) &&& 255)) 1 6) 21 6 ((p1 >>> (8 &&& 31)) &&& 255)) 1 7) 21 7 ((p1 >>> (0 &&& 31)) &&& 255)) 1 8) 21 8 ((p2 >>> (24 &&& 31)) &&& 255)) 1 9) 21 9 ((p2 >>> (16 &&& 31)) &&& 255)) 1 10) 21 10 ((p2 >>> (8 &&& 31)) &&& 255)) 11) ?_
  refine z_iinc (k9 := 1) (v := 11) (lv' := [(6, .int 11), (7, .int p2), (0, .ref (a 0)), (1, .int p0), (2, .int p1), (3, .int p2), (4, .int p3), (5, .int p4)]) b dX12_feed_109 rfl (by decide) (by decide) rfl ?_
  refine z_goto (tgt := 18) b dX12_feed_112 (by decide) ?_
  refine z_iload b dX12_feed_18 rfl ?_
  refine z_bipush (v := 20) b dX12_feed_20 (by decide) ?_
  refine z_icmp_ge_f (tgt := 115) b dX12_feed_22 (by decide) (by decide) ?_
  refine z_iload b dX12_feed_25 rfl ?_
  refine z_iconst (v := 4) b dX12_feed_27 (by decide) ?_
  refine z_icmp_ge_t (tgt := 35) b dX12_feed_28 (by decide) (by decide) ?_
  refine z_iload b dX12_feed_35 rfl ?_
  refine z_bipush (v := 8) b dX12_feed_37 (by decide) ?_
  refine z_icmp_ge_t (tgt := 46) b dX12_feed_39 (by decide) (by decide) ?_
  refine z_iload b dX12_feed_46 rfl ?_
  refine z_bipush (v := 12) b dX12_feed_48 (by decide) ?_
  refine z_icmp_ge_f (tgt := 57) b dX12_feed_50 (by decide) (by decide) ?_
  refine z_iload_n b dX12_feed_53 rfl rfl ?_
  refine z_goto (tgt := 71) b dX12_feed_54 (by decide) ?_
  refine z_istore (lv' := [(7, .int p2), (6, .int 11), (0, .ref (a 0)), (1, .int p0), (2, .int p1), (3, .int p2), (4, .int p3), (5, .int p4)]) b dX12_feed_71 (by decide) rfl ?_
  refine z_aload_n b dX12_feed_73 rfl rfl ?_
  refine z_get (q0 := 0) (k9 := 23) (v := .ref (a 22)) b (mw_0 cy a (si (su (si (su (si (su (si (su (si (su (si (su (si (su (si (su (si (su (si (su (si (su S 21 0 ((p0 >>> (24 &&& 31)) &&& 255)) 1 1) 21 1 ((p0 >>> (16 &&& 31)) &&& 255)) 1 2) 21 2 ((p0 >>> (8 &&& 31)) &&& 255)) 1 3) 21 3 ((p0 >>> (0 &&& 31)) &&& 255)) 1 4) 21 4 ((p1 >>> (24 &&& 31)) &&& 255)) 1 5) 21 5 ((p1 >>> (16 &&& 31)) &&& 255)) 1 6) 21 6 ((p1 >>> (8 &&& 31)) &&& 255)) 1 7) 21 7 ((p1 >>> (0 &&& 31)) &&& 255)) 1 8) 21 8 ((p2 >>> (24 &&& 31)) &&& 255)) 1 9) 21 9 ((p2 >>> (16 &&& 31)) &&& 255)) 1 10) 21 10 ((p2 >>> (8 &&& 31)) &&& 255)) 1 11)) rfl in_X12 (by decide) wf_X12_78 rfl dX12_feed_74 ?_
  refine z_aload_n b dX12_feed_77 rfl rfl ?_
  refine z_get (q0 := 0) (k9 := 25) (v := .int 11) b (mw_0 cy a (si (su (si (su (si (su (si (su (si (su (si (su (si (su (si (su (si (su (si (su (si (su S 21 0 ((p0 >>> (24 &&& 31)) &&& 255)) 1 1) 21 1 ((p0 >>> (16 &&& 31)) &&& 255)) 1 2) 21 2 ((p0 >>> (8 &&& 31)) &&& 255)) 1 3) 21 3 ((p0 >>> (0 &&& 31)) &&& 255)) 1 4) 21 4 ((p1 >>> (24 &&& 31)) &&& 255)) 1 5) 21 5 ((p1 >>> (16 &&& 31)) &&& 255)) 1 6) 21 6 ((p1 >>> (8 &&& 31)) &&& 255)) 1 7) 21 7 ((p1 >>> (0 &&& 31)) &&& 255)) 1 8) 21 8 ((p2 >>> (24 &&& 31)) &&& 255)) 1 9) 21 9 ((p2 >>> (16 &&& 31)) &&& 255)) 1 10) 21 10 ((p2 >>> (8 &&& 31)) &&& 255)) 1 11)) rfl in_X12 (by decide) wf_X12_182 rfl dX12_feed_78 ?_
  refine z_iload b dX12_feed_81 rfl ?_
  refine z_bipush (v := 24) b dX12_feed_83 (by decide) ?_
  refine z_bipush (v := 8) b dX12_feed_85 (by decide) ?_
  refine z_iload b dX12_feed_87 rfl ?_
  refine z_iconst (v := 4) b dX12_feed_89 (by decide) ?_
  refine z_irem (v := 3) b dX12_feed_90 (by decide) (by decide) ?_
  refine z_imul (v := 24) b dX12_feed_91 (by decide) ?_
  refine z_isub (v := 0) b dX12_feed_92 (by decide) ?_
  refine z_ishr b dX12_feed_93 rfl ?_
  refine z_sipush (v := 255) b dX12_feed_94 (by decide) ?_
  refine z_iand b dX12_feed_97 rfl ?_
  refine y_iast (q0 := 22) (j := 11) b (mw_22 cy a (si (su (si (su (si (su (si (su (si (su (si (su (si (su (si (su (si (su (si (su (si (su S 21 0 ((p0 >>> (24 &&& 31)) &&& 255)) 1 1) 21 1 ((p0 >>> (16 &&& 31)) &&& 255)) 1 2) 21 2 ((p0 >>> (8 &&& 31)) &&& 255)) 1 3) 21 3 ((p0 >>> (0 &&& 31)) &&& 255)) 1 4) 21 4 ((p1 >>> (24 &&& 31)) &&& 255)) 1 5) 21 5 ((p1 >>> (16 &&& 31)) &&& 255)) 1 6) 21 6 ((p1 >>> (8 &&& 31)) &&& 255)) 1 7) 21 7 ((p1 >>> (0 &&& 31)) &&& 255)) 1 8) 21 8 ((p2 >>> (24 &&& 31)) &&& 255)) 1 9) 21 9 ((p2 >>> (16 &&& 31)) &&& 255)) 1 10) 21 10 ((p2 >>> (8 &&& 31)) &&& 255)) 1 11)) (by decide) dX12_feed_98 (mwa_22 cy a (si (su (si (su (si (su (si (su (si (su (si (su (si (su (si (su (si (su (si (su (si (su S 21 0 ((p0 >>> (24 &&& 31)) &&& 255)) 1 1) 21 1 ((p0 >>> (16 &&& 31)) &&& 255)) 1 2) 21 2 ((p0 >>> (8 &&& 31)) &&& 255)) 1 3) 21 3 ((p0 >>> (0 &&& 31)) &&& 255)) 1 4) 21 4 ((p1 >>> (24 &&& 31)) &&& 255)) 1 5) 21 5 ((p1 >>> (16 &&& 31)) &&& 255)) 1 6) 21 6 ((p1 >>> (8 &&& 31)) &&& 255)) 1 7) 21 7 ((p1 >>> (0 &&& 31)) &&& 255)) 1 8) 21 8 ((p2 >>> (24 &&& 31)) &&& 255)) 1 9) 21 9 ((p2 >>> (16 &&& 31)) &&& 255)) 1 10) 21 10 ((p2 >>> (8 &&& 31)) &&& 255)) 1 11) 11 ((p2 >>> (0 &&& 31)) &&& 255)) ?_
  refine z_aload_n b dX12_feed_99 rfl rfl ?_
  refine z_dup b dX12_feed_100 rfl ?_
  refine z_get (q0 := 0) (k9 := 25) (v := .int 11) b (mw_0 cy a (su (si (su (si (su (si (su (si (su (si (su (si (su (si (su (si (su (si (su (si (su (si (su S 21 0 ((p0 >>> (24 &&& 31)) &&& 255)) 1 1) 21 1 ((p0 >>> (16 &&& 31)) &&& 255)) 1 2) 21 2 ((p0 >>> (8 &&& 31)) &&& 255)) 1 3) 21 3 ((p0 >>> (0 &&& 31)) &&& 255)) 1 4) 21 4 ((p1 >>> (24 &&& 31)) &&& 255)) 1 5) 21 5 ((p1 >>> (16 &&& 31)) &&& 255)) 1 6) 21 6 ((p1 >>> (8 &&& 31)) &&& 255)) 1 7) 21 7 ((p1 >>> (0 &&& 31)) &&& 255)) 1 8) 21 8 ((p2 >>> (24 &&& 31)) &&& 255)) 1 9) 21 9 ((p2 >>> (16 &&& 31)) &&& 255)) 1 10) 21 10 ((p2 >>> (8 &&& 31)) &&& 255)) 1 11) 21 11 ((p2 >>> (0 &&& 31)) &&& 255))) rfl in_X12 (by decide) wf_X12_182 rfl dX12_feed_101 ?_
  refine z_iconst (v := 1) b dX12_feed_104 (by decide) ?_
  refine z_iadd (v := 12) b dX12_feed_105 (by decide) ?_
  refine z_put (q0 := 0) (k9 := 25) tyX12 b (mw_0 cy a (su (si (su (si (su (si (su (si (su (si (su (si (su (si (su (si (su (si (su (si (su (si (su S 21 0 ((p0 >>> (24 &&& 31)) &&& 255)) 1 1) 21 1 ((p0 >>> (16 &&& 31)) &&& 255)) 1 2) 21 2 ((p0 >>> (8 &&& 31)) &&& 255)) 1 3) 21 3 ((p0 >>> (0 &&& 31)) &&& 255)) 1 4) 21 4 ((p1 >>> (24 &&& 31)) &&& 255)) 1 5) 21 5 ((p1 >>> (16 &&& 31)) &&& 255)) 1 6) 21 6 ((p1 >>> (8 &&& 31)) &&& 255)) 1 7) 21 7 ((p1 >>> (0 &&& 31)) &&& 255)) 1 8) 21 8 ((p2 >>> (24 &&& 31)) &&& 255)) 1 9) 21 9 ((p2 >>> (16 &&& 31)) &&& 255)) 1 10) 21 10 ((p2 >>> (8 &&& 31)) &&& 255)) 1 11) 21 11 ((p2 >>> (0 &&& 31)) &&& 255))) rfl in_X12 tyX12_ok nmX12 (by decide) wf_X12_182 rfl rfl rfl rfl (Nat.le_of_ble_eq_true rfl) dX12_feed_106 (mwp_0_25 cy a (su (si (su (si (su (si (su (si (su (si (su (si (su (si (su (si (su (si (su (si (su (si (su S 21 0 ((p0 >>> (24 &&& 31)) &&& 255)) 1 1) 21 1 ((p0 >>> (16 &&& 31)) &&& 255)) 1 2) 21 2 ((p0 >>> (8 &&& 31)) &&& 255)) 1 3) 21 3 ((p0 >>> (0 &&& 31)) &&& 255)) 1 4) 21 4 ((p1 >>> (24 &&& 31)) &&& 255)) 1 5) 21 5 ((p1 >>> (16 &&& 31)) &&& 255)) 1 6) 21 6 ((p1 >>> (8 &&& 31)) &&& 255)) 1 7) 21 7 ((p1 >>> (0 &&& 31)) &&& 255)) 1 8) 21 8 ((p2 >>> (24 &&& 31)) &&& 255)) 1 9) 21 9 ((p2 >>> (16 &&& 31)) &&& 255)) 1 10) 21 10 ((p2 >>> (8 &&& 31)) &&& 255)) 1 11) 21 11 ((p2 >>> (0 &&& 31)) &&& 255)) 12) ?_
  refine z_iinc (k9 := 1) (v := 12) (lv' := [(6, .int 12), (7, .int p2), (0, .ref (a 0)), (1, .int p0), (2, .int p1), (3, .int p2), (4, .int p3), (5, .int p4)]) b dX12_feed_109 rfl (by decide) (by decide) rfl ?_
  refine z_goto (tgt := 18) b dX12_feed_112 (by decide) ?_
  refine z_iload b dX12_feed_18 rfl ?_
  refine z_bipush (v := 20) b dX12_feed_20 (by decide) ?_
  refine z_icmp_ge_f (tgt := 115) b dX12_feed_22 (by decide) (by decide) ?_
  refine z_iload b dX12_feed_25 rfl ?_
  refine z_iconst (v := 4) b dX12_feed_27 (by decide) ?_
  refine z_icmp_ge_t (tgt := 35) b dX12_feed_28 (by decide) (by decide) ?_
  refine z_iload b dX12_feed_35 rfl ?_
  refine z_bipush (v := 8) b dX12_feed_37 (by decide) ?_
  refine z_icmp_ge_t (tgt := 46) b dX12_feed_39 (by decide) (by decide) ?_
  refine z_iload b dX12_feed_46 rfl ?_
  exact k

set_option maxHeartbeats 4000000 in
set_option maxRecDepth 100000 in
theorem ch_X12_feed_53 {p : Program} {l : Launch} {e : Env} {R : Room} {s : State} {m : MethodId} {args : Array Value} {below : List Frame} {meth : Method} {c : Code} {D : va_G} {cy : Nat → ClassId} {T0 tB tE : Nat} {A : Nat → Prop} {Q : State → Prop} {a : Nat → Nat} (S : GS) (p0 : Int32) (p1 : Int32) (p2 : Int32) (p3 : Int32) (p4 : Int32)  (b : Bz p R s m args meth c D cy T0 tB tE A 8 cX12_feed RX12 (some .int) "feed" 0 0 0 0) (k : Z p l e R s m args below meth c D A 8 Q 0 0 (mw cy a (su (si (su (si (su (si (su (si (su (si (su (si (su (si (su (si (su (si (su (si (su (si (su (si (su (si (su (si (su (si (su S 21 0 ((p0 >>> (24 &&& 31)) &&& 255)) 1 1) 21 1 ((p0 >>> (16 &&& 31)) &&& 255)) 1 2) 21 2 ((p0 >>> (8 &&& 31)) &&& 255)) 1 3) 21 3 ((p0 >>> (0 &&& 31)) &&& 255)) 1 4) 21 4 ((p1 >>> (24 &&& 31)) &&& 255)) 1 5) 21 5 ((p1 >>> (16 &&& 31)) &&& 255)) 1 6) 21 6 ((p1 >>> (8 &&& 31)) &&& 255)) 1 7) 21 7 ((p1 >>> (0 &&& 31)) &&& 255)) 1 8) 21 8 ((p2 >>> (24 &&& 31)) &&& 255)) 1 9) 21 9 ((p2 >>> (16 &&& 31)) &&& 255)) 1 10) 21 10 ((p2 >>> (8 &&& 31)) &&& 255)) 1 11) 21 11 ((p2 >>> (0 &&& 31)) &&& 255)) 1 12) 21 12 ((p3 >>> (24 &&& 31)) &&& 255)) 1 13) 21 13 ((p3 >>> (16 &&& 31)) &&& 255)) 1 14) 21 14 ((p3 >>> (8 &&& 31)) &&& 255)) 1 15) 21 15 ((p3 >>> (0 &&& 31)) &&& 255))) [(7, .int p3), (6, .int 15), (0, .ref (a 0)), (1, .int p0), (2, .int p1), (3, .int p2), (4, .int p3), (5, .int p4)] 100 [.ref (a 0)]) : Z p l e R s m args below meth c D A 8 Q 0 0 (mw cy a (si (su (si (su (si (su (si (su (si (su (si (su (si (su (si (su (si (su (si (su (si (su (si (su S 21 0 ((p0 >>> (24 &&& 31)) &&& 255)) 1 1) 21 1 ((p0 >>> (16 &&& 31)) &&& 255)) 1 2) 21 2 ((p0 >>> (8 &&& 31)) &&& 255)) 1 3) 21 3 ((p0 >>> (0 &&& 31)) &&& 255)) 1 4) 21 4 ((p1 >>> (24 &&& 31)) &&& 255)) 1 5) 21 5 ((p1 >>> (16 &&& 31)) &&& 255)) 1 6) 21 6 ((p1 >>> (8 &&& 31)) &&& 255)) 1 7) 21 7 ((p1 >>> (0 &&& 31)) &&& 255)) 1 8) 21 8 ((p2 >>> (24 &&& 31)) &&& 255)) 1 9) 21 9 ((p2 >>> (16 &&& 31)) &&& 255)) 1 10) 21 10 ((p2 >>> (8 &&& 31)) &&& 255)) 1 11) 21 11 ((p2 >>> (0 &&& 31)) &&& 255)) 1 12)) [(6, .int 12), (7, .int p2), (0, .ref (a 0)), (1, .int p0), (2, .int p1), (3, .int p2), (4, .int p3), (5, .int p4)] 48 [.int 12] := by
  refine z_bipush (v := 12) b dX12_feed_48 (by decide) ?_
  refine z_icmp_ge_t (tgt := 57) b dX12_feed_50 (by decide) (by decide) ?_
  refine z_iload b dX12_feed_57 rfl ?_
  refine z_bipush (v := 16) b dX12_feed_59 (by decide) ?_
  refine z_icmp_ge_f (tgt := 69) b dX12_feed_61 (by decide) (by decide) ?_
  refine z_iload b dX12_feed_64 rfl ?_
  refine z_goto (tgt := 71) b dX12_feed_66 (by decide) ?_
  refine z_istore (lv' := [(7, .int p3), (6, .int 12), (0, .ref (a 0)), (1, .int p0), (2, .int p1), (3, .int p2), (4, .int p3), (5, .int p4)]) b dX12_feed_71 (by decide) rfl ?_
  refine z_aload_n b dX12_feed_73 rfl rfl ?_
  refine z_get (q0 := 0) (k9 := 23) (v := .ref (a 22)) b (mw_0 cy a (si (su (si (su (si (su (si (su (si (su (si (su (si (su (si (su (si (su (si (su (si (su (si (su S 21 0 ((p0 >>> (24 &&& 31)) &&& 255)) 1 1) 21 1 ((p0 >>> (16 &&& 31)) &&& 255)) 1 2) 21 2 ((p0 >>> (8 &&& 31)) &&& 255)) 1 3) 21 3 ((p0 >>> (0 &&& 31)) &&& 255)) 1 4) 21 4 ((p1 >>> (24 &&& 31)) &&& 255)) 1 5) 21 5 ((p1 >>> (16 &&& 31)) &&& 255)) 1 6) 21 6 ((p1 >>> (8 &&& 31)) &&& 255)) 1 7) 21 7 ((p1 >>> (0 &&& 31)) &&& 255)) 1 8) 21 8 ((p2 >>> (24 &&& 31)) &&& 255)) 1 9) 21 9 ((p2 >>> (16 &&& 31)) &&& 255)) 1 10) 21 10 ((p2 >>> (8 &&& 31)) &&& 255)) 1 11) 21 11 ((p2 >>> (0 &&& 31)) &&& 255)) 1 12)) rfl in_X12 (by decide) wf_X12_78 rfl dX12_feed_74 ?_
  refine z_aload_n b dX12_feed_77 rfl rfl ?_
  refine z_get (q0 := 0) (k9 := 25) (v := .int 12) b (mw_0 cy a (si (su (si (su (si (su (si (su (si (su (si (su (si (su (si (su (si (su (si (su (si (su (si (su S 21 0 ((p0 >>> (24 &&& 31)) &&& 255)) 1 1) 21 1 ((p0 >>> (16 &&& 31)) &&& 255)) 1 2) 21 2 ((p0 >>> (8 &&& 31)) &&& 255)) 1 3) 21 3 ((p0 >>> (0 &&& 31)) &&& 255)) 1 4) 21 4 ((p1 >>> (24 &&& 31)) &&& 255)) 1 5) 21 5 ((p1 >>> (16 &&& 31)) &&& 255)) 1 6) 21 6 ((p1 >>> (8 &&& 31)) &&& 255)) 1 7) 21 7 ((p1 >>> (0 &&& 31)) &&& 255)) 1 8) 21 8 ((p2 >>> (24 &&& 31)) &&& 255)) 1 9) 21 9 ((p2 >>> (16 &&& 31)) &&& 255)) 1 10) 21 10 ((p2 >>> (8 &&& 31)) &&& 255)) 1 11) 21 11 ((p2 >>> (0 &&& 31)) &&& 255)) 1 12)) rfl in_X12 (by decide) wf_X12_182 rfl dX12_feed_78 ?_
  refine z_iload b dX12_feed_81 rfl ?_
  refine z_bipush (v := 24) b dX12_feed_83 (by decide) ?_
  refine z_bipush (v := 8) b dX12_feed_85 (by decide) ?_
  refine z_iload b dX12_feed_87 rfl ?_
  refine z_iconst (v := 4) b dX12_feed_89 (by decide) ?_
  refine z_irem (v := 0) b dX12_feed_90 (by decide) (by decide) ?_
  refine z_imul (v := 0) b dX12_feed_91 (by decide) ?_
  refine z_isub (v := 24) b dX12_feed_92 (by decide) ?_
  refine z_ishr b dX12_feed_93 rfl ?_
  refine z_sipush (v := 255) b dX12_feed_94 (by decide) ?_
  refine z_iand b dX12_feed_97 rfl ?_
  refine y_iast (q0 := 22) (j := 12) b (mw_22 cy a (si (su (si (su (si (su (si (su (si (su (si (su (si (su (si (su (si (su (si (su (si (su (si (su S 21 0 ((p0 >>> (24 &&& 31)) &&& 255)) 1 1) 21 1 ((p0 >>> (16 &&& 31)) &&& 255)) 1 2) 21 2 ((p0 >>> (8 &&& 31)) &&& 255)) 1 3) 21 3 ((p0 >>> (0 &&& 31)) &&& 255)) 1 4) 21 4 ((p1 >>> (24 &&& 31)) &&& 255)) 1 5) 21 5 ((p1 >>> (16 &&& 31)) &&& 255)) 1 6) 21 6 ((p1 >>> (8 &&& 31)) &&& 255)) 1 7) 21 7 ((p1 >>> (0 &&& 31)) &&& 255)) 1 8) 21 8 ((p2 >>> (24 &&& 31)) &&& 255)) 1 9) 21 9 ((p2 >>> (16 &&& 31)) &&& 255)) 1 10) 21 10 ((p2 >>> (8 &&& 31)) &&& 255)) 1 11) 21 11 ((p2 >>> (0 &&& 31)) &&& 255)) 1 12)) (by decide) dX12_feed_98 (mwa_22 cy a (si (su (si (su (si (su (si (su (si (su (si (su (si (su (si (su (si (su (si (su (si (su (si (su S 21 0 ((p0 >>> (24 &&& 31)) &&& 255)) 1 1) 21 1 ((p0 >>> (16 &&& 31)) &&& 255)) 1 2) 21 2 ((p0 >>> (8 &&& 31)) &&& 255)) 1 3) 21 3 ((p0 >>> (0 &&& 31)) &&& 255)) 1 4) 21 4 ((p1 >>> (24 &&& 31)) &&& 255)) 1 5) 21 5 ((p1 >>> (16 &&& 31)) &&& 255)) 1 6) 21 6 ((p1 >>> (8 &&& 31)) &&& 255)) 1 7) 21 7 ((p1 >>> (0 &&& 31)) &&& 255)) 1 8) 21 8 ((p2 >>> (24 &&& 31)) &&& 255)) 1 9) 21 9 ((p2 >>> (16 &&& 31)) &&& 255)) 1 10) 21 10 ((p2 >>> (8 &&& 31)) &&& 255)) 1 11) 21 11 ((p2 >>> (0 &&& 31)) &&& 255)) 1 12) 12 ((p3 >>> (24 &&& 31)) &&& 255)) ?_
  refine z_aload_n b dX12_feed_99 rfl rfl ?_
  refine z_dup b dX12_feed_100 rfl ?_
  refine z_get (q0 := 0) (k9 := 25) (v := .int 12) b (mw_0 cy a (su (si (su (si (su (si (su (si (su (si (su (si (su (si (su (si (su (si (su (si (su (si (su (si (su S 21 0 ((p0 >>> (24 &&& 31)) &&& 255)) 1 1) 21 1 ((p0 >>> (16 &&& 31)) &&& 255)) 1 2) 21 2 ((p0 >>> (8 &&& 31)) &&& 255)) 1 3) 21 3 ((p0 >>> (0 &&& 31)) &&& 255)) 1 4) 21 4 ((p1 >>> (24 &&& 31)) &&& 255)) 1 5) 21 5 ((p1 >>> (16 &&& 31)) &&& 255)) 1 6) 21 6 ((p1 >>> (8 &&& 31)) &&& 255)) 1 7) 21 7 ((p1 >>> (0 &&& 31)) &&& 255)) 1 8) 21 8 ((p2 >>> (24 &&& 31)) &&& 255)) 1 9) 21 9 ((p2 >>> (16 &&& 31)) &&& 255)) 1 10) 21 10 ((p2 >>> (8 &&& 31)) &&& 255)) 1 11) 21 11 ((p2 >>> (0 &&& 31)) &&& 255)) 1 12) 21 12 ((p3 >>> (24 &&& 31)) &&& 255))) rfl in_X12 (by decide) wf_X12_182 rfl dX12_feed_101 ?_
  refine z_iconst (v := 1) b dX12_feed_104 (by decide) ?_
  refine z_iadd (v := 13) b dX12_feed_105 (by decide) ?_
  refine z_put (q0 := 0) (k9 := 25) tyX12 b (mw_0 cy a (su (si (su (si (su (si (su (si (su (si (su (si (su (si (su (si (su (si (su (si (su (si (su (si (su S 21 0 ((p0 >>> (24 &&& 31)) &&& 255)) 1 1) 21 1 ((p0 >>> (16 &&& 31)) &&& 255)) 1 2) 21 2 ((p0 >>> (8 &&& 31)) &&& 255)) 1 3) 21 3 ((p0 >>> (0 &&& 31)) &&& 255)) 1 4) 21 4 ((p1 >>> (24 &&& 31)) &&& 255)) 1 5) 21 5 ((p1 >>> (16 &&& 31)) &&& 255)) 1 6) 21 6 ((p1 >>> (8 &&& 31)) &&& 255)) 1 7) 21 7 ((p1 >>> (0 &&& 31)) &&& 255)) 1 8) 21 8 ((p2 >>> (24 &&& 31)) &&& 255)) 1 9) 21 9 ((p2 >>> (16 &&& 31)) &&& 255)) 1 10) 21 10 ((p2 >>> (8 &&& 31)) &&& 255)) 1 11) 21 11 ((p2 >>> (0 &&& 31)) &&& 255)) 1 12) 21 12 ((p3 >>> (24 &&& 31)) &&& 255))) rfl in_X12 tyX12_ok nmX12 (by decide) wf_X12_182 rfl rfl rfl rfl (Nat.le_of_ble_eq_true rfl) dX12_feed_106 (mwp_0_25 cy a (su (si (su (si (su (si (su (si (su (si (su (si (su (si (su (si (su (si (su (si (su (si (su (si (su S 21 0 ((p0 >>> (24 &&& 31)) &&& 255)) 1 1) 21 1 ((p0 >>> (16 &&& 31)) &&& 255)) 1 2) 21 2 ((p0 >>> (8 &&& 31)) &&& 255)) 1 3) 21 3 ((p0 >>> (0 &&& 31)) &&& 255)) 1 4) 21 4 ((p1 >>> (24 &&& 31)) &&& 255)) 1 5) 21 5 ((p1 >>> (16 &&& 31)) &&& 255)) 1 6) 21 6 ((p1 >>> (8 &&& 31)) &&& 255)) 1 7) 21 7 ((p1 >>> (0 &&& 31)) &&& 255)) 1 8) 21 8 ((p2 >>> (24 &&& 31)) &&& 255)) 1 9) 21 9 ((p2 >>> (16 &&& 31)) &&& 255)) 1 10) 21 10 ((p2 >>> (8 &&& 31)) &&& 255)) 1 11) 21 11 ((p2 >>> (0 &&& 31)) &&& 255)) 1 12) 21 12 ((p3 >>> (24 &&& 31)) &&& 255)) 13) ?_
  refine z_iinc (k9 := 1) (v := 13) (lv' := [(6, .int 13), (7, .int p3), (0, .ref (a 0)), (1, .int p0), (2, .int p1), (3, .int p2), (4, .int p3), (5, .int p4)]) b dX12_feed_109 rfl (by decide) (by decide) rfl ?_
  refine z_goto (tgt := 18) b dX12_feed_112 (by decide) ?_
  refine z_iload b dX12_feed_18 rfl ?_
  refine z_bipush (v := 20) b dX12_feed_20 (by decide) ?_
  refine z_icmp_ge_f (tgt := 115) b dX12_feed_22 (by decide) (by decide) ?_
  refine z_iload b dX12_feed_25 rfl ?_
  refine z_iconst (v := 4) b dX12_feed_27 (by decide) ?_
  refine z_icmp_ge_t (tgt := 35) b dX12_feed_28 (by decide) (by decide) ?_
  refine z_iload b dX12_feed_35 rfl ?_
  refine z_bipush (v := 8) b dX12_feed_37 (by decide) ?_
  refine z_icmp_ge_t (tgt := 46) b dX12_feed_39 (by decide) (by decide) ?_
  refine z_iload b dX12_feed_46 rfl ?_
  refine z_bipush (v := 12) b dX12_feed_48 (by decide) ?_
  refine z_icmp_ge_t (tgt := 57) b dX12_feed_50 (by decide) (by decide) ?_
  refine z_iload b dX12_feed_57 rfl ?_
  refine z_bipush (v := 16) b dX12_feed_59 (by decide) ?_
  refine z_icmp_ge_f (tgt := 69) b dX12_feed_61 (by decide) (by decide) ?_
  refine z_iload b dX12_feed_64 rfl ?_
  refine z_goto (tgt := 71) b dX12_feed_66 (by decide) ?_
  refine z_istore (lv' := [(7, .int p3), (6, .int 13), (0, .ref (a 0)), (1, .int p0), (2, .int p1), (3, .int p2), (4, .int p3), (5, .int p4)]) b dX12_feed_71 (by decide) rfl ?_
  refine z_aload_n b dX12_feed_73 rfl rfl ?_
  refine z_get (q0 := 0) (k9 := 23) (v := .ref (a 22)) b (mw_0 cy a (si (su (si (su (si (su (si (su (si (su (si (su (si (su (si (su (si (su (si (su (si (su (si (su (si (su S 21 0 ((p0 >>> (24 &&& 31)) &&& 255)) 1 1) 21 1 ((p0 >>> (16 &&& 31)) &&& 255)) 1 2) 21 2 ((p0 >>> (8 &&& 31)) &&& 255)) 1 3) 21 3 ((p0 >>> (0 &&& 31)) &&& 255)) 1 4) 21 4 ((p1 >>> (24 &&& 31)) &&& 255)) 1 5) 21 5 ((p1 >>> (16 &&& 31)) &&& 255)) 1 6) 21 6 ((p1 >>> (8 &&& 31)) &&& 255)) 1 7) 21 7 ((p1 >>> (0 &&& 31)) &&& 255)) 1 8) 21 8 ((p2 >>> (24 &&& 31)) &&& 255)) 1 9) 21 9 ((p2 >>> (16 &&& 31)) &&& 255)) 1 10) 21 10 ((p2 >>> (8 &&& 31)) &&& 255)) 1 11) 21 11 ((p2 >>> (0 &&& 31)) &&& 255)) 1 12) 21 12 ((p3 >>> (24 &&& 31)) &&& 255)) 1 13)) rfl in_X12 (by decide) wf_X12_78 rfl dX12_feed_74 ?_
  refine z_aload_n b dX12_feed_77 rfl rfl ?_
  refine z_get (q0 := 0) (k9 := 25) (v := .int 13) b (mw_0 cy a (si (su (si (su (si (su (si (su (si (su (si (su (si (su (si (su (si (su (si (su (si (su (si (su (si (su S 21 0 ((p0 >>> (24 &&& 31)) &&& 255)) 1 1) 21 1 ((p0 >>> (16 &&& 31)) &&& 255)) 1 2) 21 2 ((p0 >>> (8 &&& 31)) &&& 255)) 1 3) 21 3 ((p0 >>> (0 &&& 31)) &&& 255)) 1 4) 21 4 ((p1 >>> (24 &&& 31)) &&& 255)) 1 5) 21 5 ((p1 >>> (16 &&& 31)) &&& 255)) 1 6) 21 6 ((p1 >>> (8 &&& 31)) &&& 255)) 1 7) 21 7 ((p1 >>> (0 &&& 31)) &&& 255)) 1 8) 21 8 ((p2 >>> (24 &&& 31)) &&& 255)) 1 9) 21 9 ((p2 >>> (16 &&& 31)) &&& 255)) 1 10) 21 10 ((p2 >>> (8 &&& 31)) &&& 255)) 1 11) 21 11 ((p2 >>> (0 &&& 31)) &&& 255)) 1 12) 21 12 ((p3 >>> (24 &&& 31)) &&& 255)) 1 13)) rfl in_X12 (by decide) wf_X12_182 rfl dX12_feed_78 ?_
  refine z_iload b dX12_feed_81 rfl ?_
  refine z_bipush (v := 24) b dX12_feed_83 (by decide) ?_
  refine z_bipush (v := 8) b dX12_feed_85 (by decide) ?_
  refine z_iload b dX12_feed_87 rfl ?_
  refine z_iconst (v := 4) b dX12_feed_89 (by decide) ?_
  refine z_irem (v := 1) b dX12_feed_90 (by decide) (by decide) ?_
  refine z_imul (v := 8) b dX12_feed_91 (by decide) ?_
  refine z_isub (v := 16) b dX12_feed_92 (by decide) ?_
  refine z_ishr b dX12_feed_93 rfl ?_
  refine z_sipush (v := 255) b dX12_feed_94 (by decide) ?_
  refine z_iand b dX12_feed_97 rfl ?_
  refine y_iast (q0 := 22) (j := 13) b (mw_22 cy a (si (su (si (su (si (su (si (su (si (su (si (su (si (su (si (su (si (su (si (su (si (su (si (su (si (su S 21 0 ((p0 >>> (24 &&& 31)) &&& 255)) 1 1) 21 1 ((p0 >>> (16 &&& 31)) &&& 255)) 1 2) 21 2 ((p0 >>> (8 &&& 31)) &&& 255)) 1 3) 21 3 ((p0 >>> (0 &&& 31)) &&& 255)) 1 4) 21 4 ((p1 >>> (24 &&& 31)) &&& 255)) 1 5) 21 5 ((p1 >>> (16 &&& 31)) &&& 255)) 1 6) 21 6 ((p1 >>> (8 &&& 31)) &&& 255)) 1 7) 21 7 ((p1 >>> (0 &&& 31)) &&& 255)) 1 8) 21 8 ((p2 >>> (24 &&& 31)) &&& 255)) 1 9) 21 9 ((p2 >>> (16 &&& 31)) &&& 255)) 1 10) 21 10 ((p2 >>> (8 &&& 31)) &&& 255)) 1 11) 21 11 ((p2 >>> (0 &&& 31)) &&& 255)) 1 12) 21 12 ((p3 >>> (24 &&& 31)) &&& 255)) 1 13)) (by decide) dX12_feed_98 (mwa_22 cy a (si (su (si (su (si (su (si (su (si (su (si (su (si (su (si (su (si (su (si (su (si (su (si (su (si (su S 21 0 ((p0 >>> (24 &&& 31)) &&& 255)) 1 1) 21 1 ((p0 >>> (16 &&& 31)) &&& 255)) 1 2) 21 2 ((p0 >>> (8 &&& 31)) &&& 255)) 1 3) 21 3 ((p0 >>> (0 &&& 31)) &&& 255)) 1 4) 21 4 ((p1 >>> (24 &&& 31)) &&& 255)) 1 5) 21 5 ((p1 >>> (16 &&& 31)) &&& 255)) 1 6) 21 6 ((p1 >>> (8 &&& 31)) &&& 255)) 1 7) 21 7 ((p1 >>> (0 &&& 31)) &&& 255)) 1 8) 21 8 ((p2 >>> (24 &&& 31)) &&& 255)) 1 9) 21 9 ((p2 >>> (16 &&& 31)) &&& 255)) 1 10) 21 10 ((p2 >>> (8 &&& 31)) &&& 255)) 1 11) 21 11 ((p2 >>> (0 &&& 31)) &&& 255)) 1 12) 21 12 ((p3 >>> (24 &&& 31)) &&& 255)) 1 13) 13 ((p3 >>> (16 &&& 31)) &&& 255)) ?_
  refine z_aload_n b dX12_feed_99 rfl rfl ?_
  refine z_dup b dX12_feed_100 rfl ?_
  refine z_get (q0 := 0) (k9 := 25) (v := .int 13) b (mw_0 cy a (su (si (su (si (su (si (su (si (su (si (su (si (su (si (su (si (su (si (su (si (su (si (su (si (su (si (su S 21 0 ((p0 >>> (24 &&& 31)) &&& 255)) 1 1) 21 1 ((p0 >>> (16 &&& 31)) &&& 255)) 1 2) 21 2 ((p0 >>> (8 &&& 31)) &&& 255)) 1 3) 21 3 ((p0 >>> (0 &&& 31)) &&& 255)) 1 4) 21 4 ((p1 >>> (24 &&& 31)) &&& 255)) 1 5) 21 5 ((p1 >>> (16 &&& 31)) &&& 255)) 1 6) 21 6 ((p1 >>> (8 &&& 31)) &&& 255)) 1 7) 21 7 ((p1 >>> (0 &&& 31)) &&& 255)) 1 8) 21 8 ((p2 >>> (24 &&& 31)) &&& 255)) 1 9) 21 9 ((p2 >>> (16 &&& 31)) &&& 255)) 1 10) 21 10 ((p2 >>> (8 &&& 31)) &&& 255)) 1 11) 21 11 ((p2 >>> (0 &&& 31)) &&& 255)) 1 12) 21 12 ((p3 >>> (24 &&& 31)) &&& 255)) 1 13) 21 13 ((p3 >>> (16 &&& 31)) &&& 255))) rfl in_X12 (by decide) wf_X12_182 rfl dX12_feed_101 ?_
  refine z_iconst (v := 1) b dX12_feed_104 (by decide) ?_
  refine z_iadd (v := 14) b dX12_feed_105 (by decide) ?_
  refine z_put (q0 := 0) (k9 := 25) tyX12 b (mw_0 cy a (su (si (su (si (su (si (su (si (su (si (su (si (su (si (su (si (su (si (su (si (su (si (su (si (su (si (su S 21 0 ((p0 >>> (24 &&& 31)) &&& 255)) 1 1) 21 1 ((p0 >>> (16 &&& 31)) &&& 255)) 1 2) 21 2 ((p0 >>> (8 &&& 31)) &&& 255)) 1 3) 21 3 ((p0 >>> (0 &&& 31)) &&& 255)) 1 4) 21 4 ((p1 >>> (24 &&& 31)) &&& 255)) 1 5) 21 5 ((p1 >>> (16 &&& 31)) &&& 255)) 1 6) 21 6 ((p1 >>> (8 &&& 31)) &&& 255)) 1 7) 21 7 ((p1 >>> (0 &&& 31)) &&& 255)) 1 8) 21 8 ((p2 >>> (24 &&& 31)) &&& 255)) 1 9) 21 9 ((p2 >>> (16 &&& 31)) &&& 255)) 1 10) 21 10 ((p2 >>> (8 &&& 31)) &&& 255)) 1 11) 21 11 ((p2 >>> (0 &&& 31)) &&& 255)) 1 12) 21 12 ((p3 >>> (24 &&& 31)) &&& 255)) 1 13) 21 13 ((p3 >>> (16 &&& 31)) &&& 255))) rfl in_X12 tyX12_ok nmX12 (by decide) wf_X12_182 rfl rfl rfl rfl (Nat.le_of_ble_eq_true rfl) dX12_feed_106 (mwp_0_25 cy a (su (si (su (si (su (si (su (si (su (si (su (si (su (si (su (si (su (si (su (si (su (si (su (si (su (si (su S 21 0 ((p0 >>> (24 &&& 31)) &&& 255)) 1 1) 21 1 ((p0 >>> (16 &&& 31)) &&& 255)) 1 2) 21 2 ((p0 >>> (8 &&& 31)) &&& 255)) 1 3) 21 3 ((p0 >>> (0 &&& 31)) &&& 255)) 1 4) 21 4 ((p1 >>> (24 &&& 31)) &&& 255)) 1 5) 21 5 ((p1 >>> (16 &&& 31)) &&& 255)) 1 6) 21 6 ((p1 >>> (8 &&& 31)) &&& 255)) 1 7) 21 7 ((p1 >>> (0 &&& 31)) &&& 255)) 1 8) 21 8 ((p2 >>> (24 &&& 31)) &&& 255)) 1 9) 21 9 ((p2 >>> (16 &&& 31)) &&& 255)) 1 10) 21 10 ((p2 >>> (8 &&& 31)) &&& 255)) 1 11) 21 11 ((p2 >>> (0 &&& 31)) &&& 255)) 1 12) 21 12 ((p3 >>> (24 &&& 31)) &&& 255)) 1 13) 21 13 ((p3 >>> (16 &&& 31)) &&& 255)) 14) ?_
  refine z_iinc (k9 := 1) (v := 14) (lv' := [(6, .int 14), (7, .int p3), (0, .ref (a 0)), (1, .int p0), (2, .int p1), (3, .int p2), (4, .int p3), (5, .int p4)]) b dX12_feed_109 rfl (by decide) (by decide) rfl ?_
  refine z_goto (tgt := 18) b dX12_feed_112 (by decide) ?_
  refine z_iload b dX12_feed_18 rfl ?_
  refine z_bipush (v := 20) b dX12_feed_20 (by decide) ?_
  refine z_icmp_ge_f (tgt := 115) b dX12_feed_22 (by decide) (by decide) ?_
  refine z_iload b dX12_feed_25 rfl ?_
  refine z_iconst (v := 4) b dX12_feed_27 (by decide) ?_
  refine z_icmp_ge_t (tgt := 35) b dX12_feed_28 (by decide) (by decide) ?_
  refine z_iload b dX12_feed_35 rfl ?_
  refine z_bipush (v := 8) b dX12_feed_37 (by decide) ?_
  refine z_icmp_ge_t (tgt := 46) b dX12_feed_39 (by decide) (by decide) ?_
  refine z_iload b dX12_feed_46 rfl ?_
  refine z_bipush (v := 12) b dX12_feed_48 (by decide) ?_
  refine z_icmp_ge_t (tgt := 57) b dX12_feed_50 (by decide) (by decide) ?_
  refine z_iload b dX12_feed_57 rfl ?_
  refine z_bipush (v := 16) b dX12_feed_59 (by decide) ?_
  refine z_icmp_ge_f (tgt := 69) b dX12_feed_61 (by decide) (by decide) ?_
  refine z_iload b dX12_feed_64 rfl ?_
  refine z_goto (tgt := 71) b dX12_feed_66 (by decide) ?_
  refine z_istore (lv' := [(7, .int p3), (6, .int 14), (0, .ref (a 0)), (1, .int p0), (2, .int p1), (3, .int p2), (4, .int p3), (5, .int p4)]) b dX12_feed_71 (by decide) rfl ?_
  refine z_aload_n b dX12_feed_73 rfl rfl ?_
  refine z_get (q0 := 0) (k9 := 23) (v := .ref (a 22)) b (mw_0 cy a (si (su (si (su (si (su (si (su (si (su (si (su (si (su (si (su (si (su (si (su (si (su (si (su (si (su (si (su S 21 0 ((p0 >>> (24 &&& 31)) &&& 255)) 1 1) 21 1 ((p0 >>> (16 &&& 31)) &&& 255)) 1 2) 21 2 ((p0 >>> (8 &&& 31)) &&& 255)) 1 3) 21 3 ((p0 >>> (0 &&& 31)) &&& 255)) 1 4) 21 4 ((p1 >>> (24 &&& 31)) &&& 255)) 1 5) 21 5 ((p1 >>> (16 &&& 31)) &&& 255)) 1 6) 21 6 ((p1 >>> (8 &&& 31)) &&& 255)) 1 7) 21 7 ((p1 >>> (0 &&& 31)) &&& 255)) 1 8) 21 8 ((p2 >>> (24 &&& 31)) &&& 255)) 1 9) 21 9 ((p2 >>> (16 &&& 31)) &&& 255)) 1 10) 21 10 ((p2 >>> (8 &&& 31)) &&& 255)) 1 11) 21 11 ((p2 >>> (0 &&& 31)) &&& 255)) 1 12) 21 12 ((p3 >>> (24 &&& 31)) &&& 255)) 1 13) 21 13 ((p3 >>> (16 &&& 31)) &&& 255)) 1 14)) rfl in_X12 (by decide) wf_X12_78 rfl dX12_feed_74 ?_
  refine z_aload_n b dX12_feed_77 rfl rfl ?_
  refine z_get (q0 := 0) (k9 := 25) (v := .int 14) b (mw_0 cy a (si (su (si (su (si (su (si (su (si (su (si (su (si (su (si (su (si (su (si (su (si (su (si (su (si (su (si (su S 21 0 ((p0 >>> (24 &&& 31)) &&& 255)) 1 1) 21 1 ((p0 >>> (16 &&& 31)) &&& 255)) 1 2) 21 2 ((p0 >>> (8 &&& 31)) &&& 255)) 1 3) 21 3 ((p0 >>> (0 &&& 31)) &&& 255)) 1 4) 21 4 ((p1 >>> (24 &&& 31)) &&& 255)) 1 5) 21 5 ((p1 >>> (16 &&& 31)) &&& 255)) 1 6) 21 6 ((p1 >>> (8 &&& 31)) &&& 255)) 1 7) 21 7 ((p1 >>> (0 &&& 31)) &&& 255)) 1 8) 21 8 ((p2 >>> (24 &&& 31)) &&& 255)) 1 9) 21 9 ((p2 >>> (16 &&& 31)) &&& 255)) 1 10) 21 10 ((p2 >>> (8 &&& 31)) &&& 255)) 1 11) 21 11 ((p2 >>> (0 &&& 31)) &&& 255)) 1 12) 21 12 ((p3 >>> (24 &&& 31)) &&& 255)) 1 13) 21 13 ((p3 >>> (16 &&& 31)) &&& 255)) 1 14)) rfl in_X12 (by decide) wf_X12_182 rfl dX12_feed_78 ?_
  refine z_iload b dX12_feed_81 rfl ?_
  refine z_bipush (v := 24) b dX12_feed_83 (by decide) ?_
  refine z_bipush (v := 8) b dX12_feed_85 (by decide) ?_
  refine z_iload b dX12_feed_87 rfl ?_
  refine z_iconst (v := 4) b dX12_feed_89 (by decide) ?_
  refine z_irem (v := 2) b dX12_feed_90 (by decide) (by decide) ?_
  refine z_imul (v := 16) b dX12_feed_91 (by decide) ?_
  refine z_isub (v := 8) b dX12_feed_92 (by decide) ?_
  refine z_ishr b dX12_feed_93 rfl ?_
  refine z_sipush (v := 255) b dX12_feed_94 (by decide) ?_
  refine z_iand b dX12_feed_97 rfl ?_
  refine y_iast (q0 := 22) (j := 14) b (mw_22 cy a (si (su (si (su (si (su (si (su (si (su (si (su (si (su (si (su (si (su (si (su (si (su (si (su (si (su (si (su S 21 0 ((p0 >>> (24 &&& 31)) &&& 255)) 1 1) 21 1 ((p0 >>> (16 &&& 31)) &&& 255)) 1 2) 21 2 ((p0 >>> (8 &&& 31)) &&& 255)) 1 3) 21 3 ((p0 >>> (0 &&& 31)) &&& 255)) 1 4) 21 4 ((p1 >>> (24 &&& 31)) &&& 255)) 1 5) 21 5 ((p1 >>> (16 &&& 31)) &&& 255)) 1 6) 21 6 ((p1 >>> (8 &&& 31)) &&& 255)) 1 7) 21 7 ((p1 >>> (0 &&& 31)) &&& 255)) 1 8) 21 8 ((p2 >>> (24 &&& 31)) &&& 255)) 1 9) 21 9 ((p2 >>> (16 &&& 31)) &&& 255)) 1 10) 21 10 ((p2 >>> (8 &&& 31)) &&& 255)) 1 11) 21 11 ((p2 >>> (0 &&& 31)) &&& 255)) 1 12) 21 12 ((p3 >>> (24 &&& 31)) &&& 255)) 1 13) 21 13 ((p3 >>> (16 &&& 31)) &&& 255)) 1 14)) (by decide) dX12_feed_98 (mwa_22 cy a (si (su (si (su (si (su (si (su (si (su (si (su (si (su (si (su (si (su (si (su (si (su (si (su (si (su (si (su S 21 0 ((p0 >>> (24 &&& 31)) &&& 255)) 1 1) 21 1 ((p0 >>> (16 &&& 31)) &&& 255)) 1 2) 21 2 ((p0 >>> (8 &&& 31)) &&& 255)) 1 3) 21 3 ((p0 >>> (0 &&& 31)) &&& 255)) 1 4) 21 4 ((p1 >>> (24 &&& 31)) &&& 255)) 1 5) 21 5 ((p1 >>> (16 &&& 31)) &&& 255)) 1 6) 21 6 ((p1 >>> (8 &&& 31)) &&& 255)) 1 7) 21 7 ((p1 >>> (0 &&& 31)) &&& 255)) 1 8) 21 8 ((p2 >>> (24 &&& 31)) &&& 255)) 1 9) 21 9 ((p2 >>> (16 &&& 31)) &&& 255)) 1 10) 21 10 ((p2 >>> (8 &&& 31)) &&& 255)) 1 11) 21 11 ((p2 >>> (0 &&& 31)) &&& 255)) 1 12) 21 12 ((p3 >>> (24 &&& 31)) &&& 255)) 1 13) 21 13 ((p3 >>> (16 &&& 31)) &&& 255)) 1 14) 14 ((p3 >>> (8 &&& 31)) &&& 255)) ?_
  refine z_aload_n b dX12_feed_99 rfl rfl ?_
  refine z_dup b dX12_feed_100 rfl ?_
  refine z_get (q0 := 0) (k9 := 25) (v := .int 14) b (mw_0 cy a (su (si (su (si (su (si (su (si (su (si (su (si (su (si (su (si (su (si (su (si (su (si (su (si (su (si (su (si (su S 21 0 ((p0 >>> (24 &&& 31)) &&& 255)) 1 1) 21 1 ((p0 >>> (16 &&& 31)) &&& 255)) 1 2) 21 2 ((p0 >>> (8 &&& 31)) &&& 255)) 1 3) 21 3 ((p0 >>> (0 &&& 31)) &&& 255)) 1 4) 21 4 ((p1 >>> (24 &&& 31)) &&& 255)) 1 5) 21 5 ((p1 >>> (16 &&& 31)) &&& 255)) 1 6) 21 6 ((p1 >>> (8 &&& 31)) &&& 255)) 1 7) 21 7 ((p1 >>> (0 &&& 31)) &&& 255)) 1 8) 21 8 ((p2 >>> (24 &&& 31)) &&& 255)) 1 9) 21 9 ((p2 >>> (16 &&& 31)) &&& 255)) 1 10) 21 10 ((p2 >>> (8 &&& 31)) &&& 255)) 1 11) 21 11 ((p2 >>> (0 &&& 31)) &&& 255)) 1 12) 21 12 ((p3 >>> (24 &&& 31)) &&& 255)) 1 13) 21 13 ((p3 >>> (16 &&& 31)) &&& 255)) 1 14) 21 14 ((p3 >>> (8 &&& 31)) &&& 255))) rfl in_X12 (by decide) wf_X12_182 rfl dX12_feed_101 ?_
  refine z_iconst (v := 1) b dX12_feed_104 (by decide) ?_
  refine z_iadd (v := 15) b dX12_feed_105 (by decide) ?_
  refine z_put (q0 := 0) (k9 := 25) tyX12 b (mw_0 cy a (su (si (su (si (su (si (su (si (su (si (su (si (su (si (su (si (su (si (su (si (su (si (su (si (su (si (su (si (su S 21 0 ((p0 >>> (24 &&& 31)) &&& 255)) 1 1) 21 1 ((p0 >>> (16 &&& 31)) &&& 255)) 1 2) 21 2 ((p0 >>> (8 &&& 31)) &&& 255)) 1 3) 21 3 ((p0 >>> (0 &&& 31)) &&& 255)) 1 4) 21 4 ((p1 >>> (24 &&& 31)) &&& 255)) 1 5) 21 5 ((p1 >>> (16 &&& 31)) &&& 255)) 1 6) 21 6 ((p1 >>> (8 &&& 31)) &&& 255)) 1 7) 21 7 ((p1 >>> (0 &&& 31)) &&& 255)) 1 8) 21 8 ((p2 >>> (24 &&& 31)) &&& 255)) 1 9) 21 9 ((p2 >>> (16 &&& 31)) &&& 255)) 1 10) 21 10 ((p2 >>> (8 &&& 31)) &&& 255)) 1 11) 21 11 ((p2 >>> (0 &&& 31)) &&& 255)) 1 12) 21 12 ((p3 >>> (24 &&& 31)) &&& 255)) 1 13) 21 13 ((p3 >>> (16 &&& 31)) &&& 255)) 1 14) 21 14 ((p3 >>> (8 &&& 31)) &&& 255))) rfl in_X12 tyX12_ok nmX12 (by decide) wf_X12_182 rfl rfl rfl rfl (Nat.le_of_ble_eq_true rfl) dX12_feed_106 (mwp_0_25 cy a (su (si (su (si (su (si (su (si (su (si (su (si (su (si (su (si (su (si (su (si (su (si (su (si (su (si (su (si (su S 21 0 ((p0 >>> (24 &&& 31)) &&& 255)) 1 1) 21 1 ((p0 >>> (16 &&& 31)) &&& 255)) 1 2) 21 2 ((p0 >>> (8 &&& 31)) &&& 255)) 1 3) 21 3 ((p0 >>> (0 &&& 31)) &&& 255)) 1 4) 21 4 ((p1 >>> (24 &&& 31)) &&& 255)) 1 5) 21 5 ((p1 >>> (16 &&& 31)) &&& 255)) 1 6) 21 6 ((p1 >>> (8 &&& 31)) &&& 255)) 1 7) 21 7 ((p1 >>> (0 &&& 31)) &&& 255)) 1 8) 21 8 ((p2 >>> (24 &&& 31)) &&& 255)) 1 9) 21 9 ((p2 >>> (16 &&& 31)) &&& 255)) 1 10) 21 10 ((p2 >>> (8 &&& 31)) &&& 255)) 1 11) 21 11 ((p2 >>> (0 &&& 31)) &&& 255)) 1 12) 21 12 ((p3 >>> (24 &&& 31)) &&& 255)) 1 13) 21 13 ((p3 >>> (16 &&& 31)) &&& 255)) 1 14) 21 14 ((p3 >>> (8 &&& 31)) &&& 255)) 15) ?_
  refine z_iinc (k9 := 1) (v := 15) (lv' := [(6, .int 15), (7, .int p3), (0, .ref (a 0)), (1, .int p0), (2, .int p1), (3, .int p2), (4, .int p3), (5, .int p4)]) b dX12_feed_109 rfl (by decide) (by decide) rfl ?_
  refine z_goto (tgt := 18) b dX12_feed_112 (by decide) ?_
  refine z_iload b dX12_feed_18 rfl ?_
  refine z_bipush (v := 20) b dX12_feed_20 (by decide) ?_
  refine z_icmp_ge_f (tgt := 115) b dX12_feed_22 (by decide) (by decide) ?_
  refine z_iload b dX12_feed_25 rfl ?_
  refine z_iconst (v := 4) b dX12_feed_27 (by decide) ?_
  refine z_icmp_ge_t (tgt := 35) b dX12_feed_28 (by decide) (by decide) ?_
  refine z_iload b dX12_feed_35 rfl ?_
  refine z_bipush (v := 8) b dX12_feed_37 (by decide) ?_
  refine z_icmp_ge_t (tgt := 46) b dX12_feed_39 (by decide) (by decide) ?_
  refine z_iload b dX12_feed_46 rfl ?_
  refine z_bipush (v := 12) b dX12_feed_48 (by decide) ?_
  refine z_icmp_ge_t (tgt := 57) b dX12_feed_50 (by decide) (by decide) ?_
  refine z_iload b dX12_feed_57 rfl ?_
  refine z_bipush (v := 16) b dX12_feed_59 (by decide) ?_
  refine z_icmp_ge_f (tgt := 69) b dX12_feed_61 (by decide) (by decide) ?_
  refine z_iload b dX12_feed_64 rfl ?_
  refine z_goto (tgt := 71) b dX12_feed_66 (by decide) ?_
  refine z_istore (lv' := [(7, .int p3), (6, .int 15), (0, .ref (a 0)), (1, .int p0), (2, .int p1), (3, .int p2), (4, .int p3), (5, .int p4)]) b dX12_feed_71 (by decide) rfl ?_
  refine z_aload_n b dX12_feed_73 rfl rfl ?_
  refine z_get (q0 := 0) (k9 := 23) (v := .ref (a 22)) b (mw_0 cy a (si (su (si (su (si (su (si (su (si (su (si (su (si (su (si (su (si (su (si (su (si (su (si (su (si (su (si (su (si (su S 21 0 ((p0 >>> (24 &&& 31)) &&& 255)) 1 1) 21 1 ((p0 >>> (16 &&& 31)) &&& 255)) 1 2) 21 2 ((p0 >>> (8 &&& 31)) &&& 255)) 1 3) 21 3 ((p0 >>> (0 &&& 31)) &&& 255)) 1 4) 21 4 ((p1 >>> (24 &&& 31)) &&& 255)) 1 5) 21 5 ((p1 >>> (16 &&& 31)) &&& 255)) 1 6) 21 6 ((p1 >>> (8 &&& 31)) &&& 255)) 1 7) 21 7 ((p1 >>> (0 &&& 31)) &&& 255)) 1 8) 21 8 ((p2 >>> (24 &&& 31)) &&& 255)) 1 9) 21 9 ((p2 >>> (16 &&& 31)) &&& 255)) 1 10) 21 10 ((p2 >>> (8 &&& 31)) &&& 255)) 1 11) 21 11 ((p2 >>> (0 &&& 31)) &&& 255)) 1 12) 21 12 ((p3 >>> (24 &&& 31)) &&& 255)) 1 13) 21 13 ((p3 >>> (16 &&& 31)) &&& 255)) 1 14) 21 14 ((p3 >>> (8 &&& 31)) &&& 255)) 1 15)) rfl in_X12 (by decide) wf_X12_78 rfl dX12_feed_74 ?_
  refine z_aload_n b dX12_feed_77 rfl rfl ?_
  refine z_get (q0 := 0) (k9 := 25) (v := .int 15) b (mw_0 cy a (si (su (si (su (si (su (si (su (si (su (si (su (si (su (si (su (si (su (si (su (si (su (si (su (si (su (si (su (si (su S 21 0 ((p0 >>> (24 &&& 31)) &&& 255)) 1 1) 21 1 ((p0 >>> (16 &&& 31)) &&& 255)) 1 2) 21 2 ((p0 >>> (8 &&& 31)) &&& 255)) 1 3) 21 3 ((p0 >>> (0 &&& 31)) &&& 255)) 1 4) 21 4 ((p1 >>> (24 &&& 31)) &&& 255)) 1 5) 21 5 ((p1 >>> (16 &&& 31)) &&& 255)) 1 6) 21 6 ((p1 >>> (8 &&& 31)) &&& 255)) 1 7) 21 7 ((p1 >>> (0 &&& 31)) &&& 255)) 1 8) 21 8 ((p2 >>> (24 &&& 31)) &&& 255)) 1 9) 21 9 ((p2 >>> (16 &&& 31)) &&& 255)) 1 10) 21 10 ((p2 >>> (8 &&& 31)) &&& 255)) 1 11) 21 11 ((p2 >>> (0 &&& 31)) &&& 255)) 1 12) 21 12 ((p3 >>> (24 &&& 31)) &&& 255)) 1 13) 21 13 ((p3 >>> (16 &&& 31)) &&& 255)) 1 14) 21 14 ((p3 >>> (8 &&& 31)) &&& 255)) 1 15)) rfl in_X12 (by decide) wf_X12_182 rfl dX12_feed_78 ?_
  refine z_iload b dX12_feed_81 rfl ?_
  refine z_bipush (v := 24) b dX12_feed_83 (by decide) ?_
  refine z_bipush (v := 8) b dX12_feed_85 (by decide) ?_
  refine z_iload b dX12_feed_87 rfl ?_
  refine z_iconst (v := 4) b dX12_feed_89 (by decide) ?_
  refine z_irem (v := 3) b dX12_feed_90 (by decide) (by decide) ?_
  refine z_imul (v := 24) b dX12_feed_91 (by decide) ?_
  refine z_isub (v := 0) b dX12_feed_92 (by decide) ?_
  refine z_ishr b dX12_feed_93 rfl ?_
  refine z_sipush (v := 255) b dX12_feed_94 (by decide) ?_
  refine z_iand b dX12_feed_97 rfl ?_
  refine y_iast (q0 := 22) (j := 15) b (mw_22 cy a (si (su (si (su (si (su (si (su (si (su (si (su (si (su (si (su (si (su (si (su (si (su (si (su (si (su (si (su (si (su S 21 0 ((p0 >>> (24 &&& 31)) &&& 255)) 1 1) 21 1 ((p0 >>> (16 &&& 31)) &&& 255)) 1 2) 21 2 ((p0 >>> (8 &&& 31)) &&& 255)) 1 3) 21 3 ((p0 >>> (0 &&& 31)) &&& 255)) 1 4) 21 4 ((p1 >>> (24 &&& 31)) &&& 255)) 1 5) 21 5 ((p1 >>> (16 &&& 31)) &&& 255)) 1 6) 21 6 ((p1 >>> (8 &&& 31)) &&& 255)) 1 7) 21 7 ((p1 >>> (0 &&& 31)) &&& 255)) 1 8) 21 8 ((p2 >>> (24 &&& 31)) &&& 255)) 1 9) 21 9 ((p2 >>> (16 &&& 31)) &&& 255)) 1 10) 21 10 ((p2 >>> (8 &&& 31)) &&& 255)) 1 11) 21 11 ((p2 >>> (0 &&& 31)) &&& 255)) 1 12) 21 12 ((p3 >>> (24 &&& 31)) &&& 255)) 1 13) 21 13 ((p3 >>> (16 &&& 31)) &&& 255)) 1 14) 21 14 ((p3 >>> (8 &&& 31)) &&& 255)) 1 15)) (by decide) dX12_feed_98 (mwa_22 cy a (si (su (si (su (si (su (si (su (si (su (si (su (si (su (si (su (si (su (si (su (si (su (si (su (si (su (si (su (si (su S 21 0 ((p0 >>> (24 &&& 31)) &&& 255)) 1 1) 21 1 ((p0 >>> (16 &&& 31)) &&& 255)) 1 2) 21 2 ((p0 >>> (8 &&& 31)) &&& 255)) 1 3) 21 3 ((p0 >>> (0 &&& 31)) &&& 255)) 1 4) 21 4 ((p1 >>> (24 &&& 31)) &&& 255)) 1 5) 21 5 ((p1 >>> (16 &&& 31)) &&& 255)) 1 6) 21 6 ((p1 >>> (8 &&& 31)) &&& 255)) 1 7) 21 7 ((p1 >>> (0 &&& 31)) &&& 255)) 1 8) 21 8 ((p2 >>> (24 &&& 31)) &&& 255)) 1 9) 21 9 ((p2 >>> (16 &&& 31)) &&& 255)) 1 10) 21 10 ((p2 >>> (8 &&& 31)) &&& 255)) 1 11) 21 11 ((p2 >>> (0 &&& 31)) &&& 255)) 1 12) 21 12 ((p3 >>> (24 &&& 31)) &&& 255)) 1 13) 21 13 ((p3 >>> (16 &&& 31)) &&& 255)) 1 14) 21 14 ((p3 >>> (8 &&& 31)) &&& 255)) 1 15) 15 ((p3 >>> (0 &&& 31)) &&& 255)) ?_
  refine z_aload_n b dX12_feed_99 rfl rfl ?_
  exact k

set_option maxHeartbeats 4000000 in
set_option maxRecDepth 100000 in
theorem ch_X12_feed_54 {p : Program} {l : Launch} {e : Env} {R : Room} {s : State} {m : MethodId} {args : Array Value} {below : List Frame} {meth : Method} {c : Code} {D : va_G} {cy : Nat → ClassId} {T0 tB tE : Nat} {A : Nat → Prop} {Q : State → Prop} {a : Nat → Nat} (S : GS) (p0 : Int32) (p1 : Int32) (p2 : Int32) (p3 : Int32) (p4 : Int32)  (b : Bz p R s m args meth c D cy T0 tB tE A 8 cX12_feed RX12 (some .int) "feed" 0 0 0 0) (k : Z p l e R s m args below meth c D A 8 Q 0 0 (mw cy a (si (su (si (su (si (su (si (su (si (su (si (su (si (su (si (su (si (su (si (su (si (su (si (su (si (su (si (su (si (su (si (su (si (su (si (su (si (su S 21 0 ((p0 >>> (24 &&& 31)) &&& 255)) 1 1) 21 1 ((p0 >>> (16 &&& 31)) &&& 255)) 1 2) 21 2 ((p0 >>> (8 &&& 31)) &&& 255)) 1 3) 21 3 ((p0 >>> (0 &&& 31)) &&& 255)) 1 4) 21 4 ((p1 >>> (24 &&& 31)) &&& 255)) 1 5) 21 5 ((p1 >>> (16 &&& 31)) &&& 255)) 1 6) 21 6 ((p1 >>> (8 &&& 31)) &&& 255)) 1 7) 21 7 ((p1 >>> (0 &&& 31)) &&& 255)) 1 8) 21 8 ((p2 >>> (24 &&& 31)) &&& 255)) 1 9) 21 9 ((p2 >>> (16 &&& 31)) &&& 255)) 1 10) 21 10 ((p2 >>> (8 &&& 31)) &&& 255)) 1 11) 21 11 ((p2 >>> (0 &&& 31)) &&& 255)) 1 12) 21 12 ((p3 >>> (24 &&& 31)) &&& 255)) 1 13) 21 13 ((p3 >>> (16 &&& 31)) &&& 255)) 1 14) 21 14 ((p3 >>> (8 &&& 31)) &&& 255)) 1 15) 21 15 ((p3 >>> (0 &&& 31)) &&& 255)) 1 16) 21 16 ((p4 >>> (24 &&& 31)) &&& 255)) 1 17) 21 17 ((p4 >>> (16 &&& 31)) &&& 255)) 1 18) 21 18 ((p4 >>> (8 &&& 31)) &&& 255)) 1 19)) [(7, .int p4), (6, .int 19), (0, .ref (a 0)), (1, .int p0), (2, .int p1), (3, .int p2), (4, .int p3), (5, .int p4)] 81 [.int 19, .ref (a 22)]) : Z p l e R s m args below meth c D A 8 Q 0 0 (mw cy a (su (si (su (si (su (si (su (si (su (si (su (si (su (si (su (si (su (si (su (si (su (si (su (si (su (si (su (si (su (si (su S 21 0 ((p0 >>> (24 &&& 31)) &&& 255)) 1 1) 21 1 ((p0 >>> (16 &&& 31)) &&& 255)) 1 2) 21 2 ((p0 >>> (8 &&& 31)) &&& 255)) 1 3) 21 3 ((p0 >>> (0 &&& 31)) &&& 255)) 1 4) 21 4 ((p1 >>> (24 &&& 31)) &&& 255)) 1 5) 21 5 ((p1 >>> (16 &&& 31)) &&& 255)) 1 6) 21 6 ((p1 >>> (8 &&& 31)) &&& 255)) 1 7) 21 7 ((p1 >>> (0 &&& 31)) &&& 255)) 1 8) 21 8 ((p2 >>> (24 &&& 31)) &&& 255)) 1 9) 21 9 ((p2 >>> (16 &&& 31)) &&& 255)) 1 10) 21 10 ((p2 >>> (8 &&& 31)) &&& 255)) 1 11) 21 11 ((p2 >>> (0 &&& 31)) &&& 255)) 1 12) 21 12 ((p3 >>> (24 &&& 31)) &&& 255)) 1 13) 21 13 ((p3 >>> (16 &&& 31)) &&& 255)) 1 14) 21 14 ((p3 >>> (8 &&& 31)) &&& 255)) 1 15) 21 15 ((p3 >>> (0 &&& 31)) &&& 255))) [(7, .int p3), (6, .int 15), (0, .ref (a 0)), (1, .int p0), (2, .int p1), (3, .int p2), (4, .int p3), (5, .int p4)] 100 [.ref (a 0)] := by
  refine z_dup b dX12_feed_100 rfl ?_
  refine z_get (q0 := 0) (k9 := 25) (v := .int 15) b (mw_0 cy a (su (si (su (si (su (si (su (si (su (si (su (si (su (si (su (si (su (si (su (si (su (si (su (si (su (si (su (si (su (si (su S 21 0 ((p0 >>> (24 &&& 31)) &&& 255)) 1 1) 21 1 ((p0 >>> (16 &&& 31)) &&& 255)) 1 2) 21 2 ((p0 >>> (8 &&& 31)) &&& 255)) 1 3) 21 3 ((p0 >>> (0 &&& 31)) &&& 255)) 1 4) 21 4 ((p1 >>> (24 &&& 31)) &&& 255)) 1 5) 21 5 ((p1 >>> (16 &&& 31)) &&& 255)) 1 6) 21 6 ((p1 >>> (8 &&& 31)) &&& 255)) 1 7) 21 7 ((p1 >>> (0 &&& 31)) &&& 255)) 1 8) 21 8 ((p2 >>> (24 &&& 31)) &&& 255)) 1 9) 21 9 ((p2 >>> (16 &&& 31)) &&& 255)) 1 10) 21 10 ((p2 >>> (8 &&& 31)) &&& 255)) 1 11) 21 11 ((p2 >>> (0 &&& 31)) &&& 255)) 1 12) 21 12 ((p3 >>> (24 &&& 31)) &&& 255)) 1 13) 21 13 ((p3 >>> (16 &&& 31)) &&& 255)) 1 14) 21 14 ((p3 >>> (8 &&& 31)) &&& 255)) 1 15) 21 15 ((p3 >>> (0 &&& 31)) &&& 255))) rfl in_X12 (by decide) wf_X12_182 rfl dX12_feed_101 ?_
  refine z_iconst (v := 1) b dX12_feed_104 (by decide) ?_
  refine z_iadd (v := 16) b dX12_feed_105 (by decide) ?_
  refine z_put (q0 := 0) (k9 := 25) tyX12 b (mw_0 cy a (su (si (su (si (su (si (su (si (su (si (su (si (su (si (su (si (su (si (su (si (su (si (su (si (su (si (su (si (su (si (su S 21 0 ((p0 >>> (24 &&& 31)) &&& 255)) 1 1) 21 1 ((p0 >>> (16 &&& 31)) &&& 255)) 1 2) 21 2 ((p0 >>> (8 &&& 31)) &&& 255)) 1 3) 21 3 ((p0 >>> (0 &&& 31)) &&& 255)) 1 4) 21 4 ((p1 >>> (24 &&& 31)) &&& 255)) 1 5) 21 5 ((p1 >>> (16 &&& 31)) &&& 255)) 1 6) 21 6 ((p1 >>> (8 &&& 31)) &&& 255)) 1 7) 21 7 ((p1 >>> (0 &&& 31)) &&& 255)) 1 8) 21 8 ((p2 >>> (24 &&& 31)) &&& 255)) 1 9) 21 9 ((p2 >>> (16 &&& 31)) &&& 255)) 1 10) 21 10 ((p2 >>> (8 &&& 31)) &&& 255)) 1 11) 21 11 ((p2 >>> (0 &&& 31)) &&& 255)) 1 12) 21 12 ((p3 >>> (24 &&& 31)) &&& 255)) 1 13) 21 13 ((p3 >>> (16 &&& 31)) &&& 255)) 1 14) 21 14 ((p3 >>> (8 &&& 31)) &&& 255)) 1 15) 21 15 ((p3 >>> (0 &&& 31)) &&& 255))) rfl in_X12 tyX12_ok nmX12 (by decide) wf_X12_182 rfl rfl rfl rfl (Nat.le_of_ble_eq_true rfl) dX12_feed_106 (mwp_0_25 cy a (su (si (su (si (su (si (su (si (su (si (su (si (su (si (su (si (su (si (su (si (su (si (su (si (su (si (su (si (su (si (su S 21 0 ((p0 >>> (24 &&& 31)) &&& 255)) 1 1) 21 1 ((p0 >>> (16 &&& 31)) &&& 255)) 1 2) 21 2 ((p0 >>> (8 &&& 31)) &&& 255)) 1 3) 21 3 ((p0 >>> (0 &&& 31)) &&& 255)) 1 4) 21 4 ((p1 >>> (24 &&& 31)) &&& 255)) 1 5) 21 5 ((p1 >>> (16 &&& 31)) &&& 255)) 1 6) 21 6 ((p1 >>> (8 &&& 31)) &&& 255)) 1 7) 21 7 ((p1 >>> (0 &&& 31)) &&& 255)) 1 8) 21 8 ((p2 >>> (24 &&& 31)) &&& 255)) 1 9) 21 9 ((p2 >>> (16 &&& 31)) &&& 255)) 1 10) 21 10 ((p2 >>> (8 &&& 31)) &&& 255)) 1 11) 21 11 ((p2 >>> (0 &&& 31)) &&& 255)) 1 12) 21 12 ((p3 >>> (24 &&& 31)) &&& 255)) 1 13) 21 13 ((p3 >>> (16 &&& 31)) &&& 255)) 1 14) 21 14 ((p3 >>> (8 &&& 31)) &&& 255)) 1 15) 21 15 ((p3 >>> (0 &&& 31)) &&& 255)) 16) ?_
  refine z_iinc (k9 := 1) (v := 16) (lv' := [(6, .int 16), (7, .int p3), (0, .ref (a 0)), (1, .int p0), (2, .int p1), (3, .int p2), (4, .int p3), (5, .int p4)]) b dX12_feed_109 rfl (by decide) (by decide) rfl ?_
  refine z_goto (tgt := 18) b dX12_feed_112 (by decide) ?_
  refine z_iload b dX12_feed_18 rfl ?_
  refine z_bipush (v := 20) b dX12_feed_20 (by decide) ?_
  refine z_icmp_ge_f (tgt := 115) b dX12_feed_22 (by decide) (by decide) ?_
  refine z_iload b dX12_feed_25 rfl ?_
  refine z_iconst (v := 4) b dX12_feed_27 (by decide) ?_
  refine z_icmp_ge_t (tgt := 35) b dX12_feed_28 (by decide) (by decide) ?_
  refine z_iload b dX12_feed_35 rfl ?_
  refine z_bipush (v := 8) b dX12_feed_37 (by decide) ?_
  refine z_icmp_ge_t (tgt := 46) b dX12_feed_39 (by decide) (by decide) ?_
  refine z_iload b dX12_feed_46 rfl ?_
  refine z_bipush (v := 12) b dX12_feed_48 (by decide) ?_
  refine z_icmp_ge_t (tgt := 57) b dX12_feed_50 (by decide) (by decide) ?_
  refine z_iload b dX12_feed_57 rfl ?_
  refine z_bipush (v := 16) b dX12_feed_59 (by decide) ?_
  refine z_icmp_ge_t (tgt := 69) b dX12_feed_61 (by decide) (by decide) ?_
  refine z_iload b dX12_feed_69 rfl ?_
  refine z_istore (lv' := [(7, .int p4), (6, .int 16), (0, .ref (a 0)), (1, .int p0), (2, .int p1), (3, .int p2), (4, .int p3), (5, .int p4)]) b dX12_feed_71 (by decide) rfl ?_
  refine z_aload_n b dX12_feed_73 rfl rfl ?_
  refine z_get (q0 := 0) (k9 := 23) (v := .ref (a 22)) b (mw_0 cy a (si (su (si (su (si (su (si (su (si (su (si (su (si (su (si (su (si (su (si (su (si (su (si (su (si (su (si (su (si (su (si (su S 21 0 ((p0 >>> (24 &&& 31)) &&& 255)) 1 1) 21 1 ((p0 >>> (16 &&& 31)) &&& 255)) 1 2) 21 2 ((p0 >>> (8 &&& 31)) &&& 255)) 1 3) 21 3 ((p0 >>> (0 &&& 31)) &&& 255)) 1 4) 21 4 ((p1 >>> (24 &&& 31)) &&& 255)) 1 5) 21 5 ((p1 >>> (16 &&& 31)) &&& 255)) 1 6) 21 6 ((p1 >>> (8 &&& 31)) &&& 255)) 1 7) 21 7 ((p1 >>> (0 &&& 31)) &&& 255)) 1 8) 21 8 ((p2 >>> (24 &&& 31)) &&& 255)) 1 9) 21 9 ((p2 >>> (16 &&& 31)) &&& 255)) 1 10) 21 10 ((p2 >>> (8 &&& 31)) &&& 255)) 1 11) 21 11 ((p2 >>> (0 &&& 31)) &&& 255)) 1 12) 21 12 ((p3 >>> (24 &&& 31)) &&& 255)) 1 13) 21 13 ((p3 >>> (16 &&& 31)) &&& 255)) 1 14) 21 14 ((p3 >>> (8 &&& 31)) &&& 255)) 1 15) 21 15 ((p3 >>> (0 &&& 31)) &&& 255)) 1 16)) rfl in_X12 (by decide) wf_X12_78 rfl dX12_feed_74 ?_
  refine z_aload_n b dX12_feed_77 rfl rfl ?_
  refine z_get (q0 := 0) (k9 := 25) (v := .int 16) b (mw_0 cy a (si (su (si (su (si (su (si (su (si (su (si (su (si (su (si (su (si (su (si (su (si (su (si (su (si (su (si (su (si (su (si (su S 21 0 ((p0 >>> (24 &&& 31)) &&& 255)) 1 1) 21 1 ((p0 >>> (16 &&& 31)) &&& 255)) 1 2) 21 2 ((p0 >>> (8 &&& 31)) &&& 255)) 1 3) 21 3 ((p0 >>> (0 &&& 31)) &&& 255)) 1 4) 21 4 ((p1 >>> (24 &&& 31)) &&& 255)) 1 5) 21 5 ((p1 >>> (16 &&& 31)) &&& 255)) 1 6) 21 6 ((p1 >>> (8 &&& 31)) &&& 255)) 1 7) 21 7 ((p1 >>> (0 &&& 31)) &&& 255)) 1 8) 21 8 ((p2 >>> (24 &&& 31)) &&& 255)) 1 9) 21 9 ((p2 >>> (16 &&& 31)) &&& 255)) 1 10) 21 10 ((p2 >>> (8 &&& 31)) &&& 255)) 1 11) 21 11 ((p2 >>> (0 &&& 31)) &&& 255)) 1 12) 21 12 ((p3 >>> (24 &&& 31)) &&& 255)) 1 13) 21 13 ((p3 >>> (16 &&& 31)) &&& 255)) 1 14) 21 14 ((p3 >>> (8 &&& 31)) &&& 255)) 1 15) 21 15 ((p3 >>> (0 &&& 31)) &&& 255)) 1 16)) rfl in_X12 (by decide) wf_X12_182 rfl dX12_feed_78 ?_
  refine z_iload b dX12_feed_81 rfl ?_
  refine z_bipush (v := 24) b dX12_feed_83 (by decide) ?_
  refine z_bipush (v := 8) b dX12_feed_85 (by decide) ?_
  refine z_iload b dX12_feed_87 rfl ?_
  refine z_iconst (v := 4) b dX12_feed_89 (by decide) ?_
  refine z_irem (v := 0) b dX12_feed_90 (by decide) (by decide) ?_
  refine z_imul (v := 0) b dX12_feed_91 (by decide) ?_
  refine z_isub (v := 24) b dX12_feed_92 (by decide) ?_
  refine z_ishr b dX12_feed_93 rfl ?_
  refine z_sipush (v := 255) b dX12_feed_94 (by decide) ?_
  refine z_iand b dX12_feed_97 rfl ?_
  refine y_iast (q0 := 22) (j := 16) b (mw_22 cy a (si (su (si (su (si (su (si (su (si (su (si (su (si (su (si (su (si (su (si (su (si (su (si (su (si (su (si (su (si (su (si (su S 21 0 ((p0 >>> (24 &&& 31)) &&& 255)) 1 1) 21 1 ((p0 >>> (16 &&& 31)) &&& 255)) 1 2) 21 2 ((p0 >>> (8 &&& 31)) &&& 255)) 1 3) 21 3 ((p0 >>> (0 &&& 31)) &&& 255)) 1 4) 21 4 ((p1 >>> (24 &&& 31)) &&& 255)) 1 5) 21 5 ((p1 >>> (16 &&& 31)) &&& 255)) 1 6) 21 6 ((p1 >>> (8 &&& 31)) &&& 255)) 1 7) 21 7 ((p1 >>> (0 &&& 31)) &&& 255)) 1 8) 21 8 ((p2 >>> (24 &&& 31)) &&& 255)) 1 9) 21 9 ((p2 >>> (16 &&& 31)) &&& 255)) 1 10) 21 10 ((p2 >>> (8 &&& 31)) &&& 255)) 1 11) 21 11 ((p2 >>> (0 &&& 31)) &&& 255)) 1 12) 21 12 ((p3 >>> (24 &&& 31)) &&& 255)) 1 13) 21 13 ((p3 >>> (16 &&& 31)) &&& 255)) 1 14) 21 14 ((p3 >>> (8 &&& 31)) &&& 255)) 1 15) 21 15 ((p3 >>> (0 &&& 31)) &&& 255)) 1 16)) (by decide) dX12_feed_98 (mwa_22 cy a (si (su (si (su (si (su (si (su (si (su (si (su (si (su (si (su (si (su (si (su (si (su (si (su (si (su (si (su (si (su (si (su S 21 0 ((p0 >>> (24 &&& 31)) &&& 255)) 1 1) 21 1 ((p0 >>> (16 &&& 31)) &&& 255)) 1 2) 21 2 ((p0 >>> (8 &&& 31)) &&& 255)) 1 3) 21 3 ((p0 >>> (0 &&& 31)) &&& 255)) 1 4) 21 4 ((p1 >>> (24 &&& 31)) &&& 255)) 1 5) 21 5 ((p1 >>> (16 &&& 31)) &&& 255)) 1 6) 21 6 ((p1 >>> (8 &&& 31)) &&& 255)) 1 7) 21 7 ((p1 >>> (0 &&& 31)) &&& 255)) 1 8) 21 8 ((p2 >>> (24 &&& 31)) &&& 255)) 1 9) 21 9 ((p2 >>> (16 &&& 31)) &&& 255)) 1 10) 21 10 ((p2 >>> (8 &&& 31)) &&& 255)) 1 11) 21 11 ((p2 >>> (0 &&& 31)) &&& 255)) 1 12) 21 12 ((p3 >>> (24 &&& 31)) &&& 255)) 1 13) 21 13 ((p3 >>> (16 &&& 31)) &&& 255)) 1 14) 21 14 ((p3 >>> (8 &&& 31)) &&& 255)) 1 15) 21 15 ((p3 >>> (0 &&& 31)) &&& 255)) 1 16) 16 ((p4 >>> (24 &&& 31)) &&& 255)) ?_
  refine z_aload_n b dX12_feed_99 rfl rfl ?_
  refine z_dup b dX12_feed_100 rfl ?_
  refine z_get (q0 := 0) (k9 := 25) (v := .int 16) b (mw_0 cy a (su (si (su (si (su (si (su (si (su (si (su (si (su (si (su (si (su (si (su (si (su (si (su (si (su (si (su (si (su (si (su (si (su S 21 0 ((p0 >>> (24 &&& 31)) &&& 255)) 1 1) 21 1 ((p0 >>> (16 &&& 31)) &&& 255)) 1 2) 21 2 ((p0 >>> (8 &&& 31)) &&& 255)) 1 3) 21 3 ((p0 >>> (0 &&& 31)) &&& 255)) 1 4) 21 4 ((p1 >>> (24 &&& 31)) &&& 255)) 1 5) 21 5 ((p1 >>> (16 &&& 31)) &&& 255)) 1 6) 21 6 ((p1 >>> (8 &&& 31)) &&& 255)) 1 7) 21 7 ((p1 >>> (0 &&& 31)) &&& 255)) 1 8) 21 8 ((p2 >>> (24 &&& 31)) &&& 255)) 1 9) 21 9 ((p2 >>> (16 &&& 31)) &&& 255)) 1 10) 21 10 ((p2 >>> (8 &&& 31)) &&& 255)) 1 11) 21 11 ((p2 >>> (0 &&& 31)) &&& 255)) 1 12) 21 12 ((p3 >>> (24 &&& 31)) &&& 255)) 1 13) 21 13 ((p3 >>> (16 &&& 31)) &&& 255)) 1 14) 21 14 ((p3 >>> (8 &&& 31)) &&& 255)) 1 15) 21 15 ((p3 >>> (0 &&& 31)) &&& 255)) 1 16) 21 16 ((p4 >>> (24 &&& 31)) &&& 255))) rfl in_X12 (by decide) wf_X12_182 rfl dX12_feed_101 ?_
  refine z_iconst (v := 1) b dX12_feed_104 (by decide) ?_
  refine z_iadd (v := 17) b dX12_feed_105 (by decide) ?_
  refine z_put (q0 := 0) (k9 := 25) tyX12 b (mw_0 cy a (su (si (su (si (su (si (su (si (su (si (su (si (su (si (su (si (su (si (su (si (su (si (su (si (su (si (su (si (su (si (su (si (su S 21 0 ((p0 >>> (24 &&& 31)) &&& 255)) 1 1) 21 1 ((p0 >>> (16 &&& 31)) &&& 255)) 1 2) 21 2 ((p0 >>> (8 &&& 31)) &&& 255)) 1 3) 21 3 ((p0 >>> (0 &&& 31)) &&& 255)) 1 4) 21 4 ((p1 >>> (24 &&& 31)) &&& 255)) 1 5) 21 5 ((p1 >>> (16 &&& 31)) &&& 255)) 1 6) 21 6 ((p1 >>> (8 &&& 31)) &&& 255)) 1 7) 21 7 ((p1 >>> (0 &&& 31)) &&& 255)) 1 8) 21 8 ((p2 >>> (24 &&& 31)) &&& 255)) 1 9) 21 9 ((p2 >>> (16 &&& 31)) &&& 255)) 1 10) 21 10 ((p2 >>> (8 &&& 31)) &&& 255)) 1 11) 21 11 ((p2 >>> (0 &&& 31)) &&& 255)) 1 12) 21 12 ((p3 >>> (24 &&& 31)) &&& 255)) 1 13) 21 13 ((p3 >>> (16 &&& 31)) &&& 255)) 1 14) 21 14 ((p3 >>> (8 &&& 31)) &&& 255)) 1 15) 21 15 ((p3 >>> (0 &&& 31)) &&& 255)) 1 16) 21 16 ((p4 >>> (24 &&& 31)) &&& 255))) rfl in_X12 tyX12_ok nmX12 (by decide) wf_X12_182 rfl rfl rfl rfl (Nat.le_of_ble_eq_true rfl) dX12_feed_106 (mwp_0_25 cy a (su (si (su (si (su (si (su (si (su (si (su (si (su (si (su (si (su (si (su (si (su (si (su (si (su (si (su (si (su (si (su (si (su S 21 0 ((p0 >>> (24 &&& 31)) &&& 255)) 1 1) 21 1 ((p0 >>> (16 &&& 31)) &&& 255)) 1 2) 21 2 ((p0 >>> (8 &&& 31)) &&& 255)) 1 3) 21 3 ((p0 >>> (0 &&& 31)) &&& 255)) 1 4) 21 4 ((p1 >>> (24 &&& 31)) &&& 255)) 1 5) 21 5 ((p1 >>> (16 &&& 31)) &&& 255)) 1 6) 21 6 ((p1 >>> (8 &&& 31)) &&& 255)) 1 7) 21 7 ((p1 >>> (0 &&& 31)) &&& 255)) 1 8) 21 8 ((p2 >>> (24 &&& 31)) &&& 255)) 1 9) 21 9 ((p2 >>> (16 &&& 31)) &&& 255)) 1 10) 21 10 ((p2 >>> (8 &&& 31)) &&& 255)) 1 11) 21 11 ((p2 >>> (0 &&& 31)) &&& 255)) 1 12) 21 12 ((p3 >>> (24 &&& 31)) &&& 255)) 1 13) 21 13 ((p3 >>> (16 &&& 31)) &&& 255)) 1 14) 21 14 ((p3 >>> (8 &&& 31)) &&& 255)) 1 15) 21 15 ((p3 >>> (0 &&& 31)) &&& 255)) 1 16) 21 16 ((p4 >>> (24 &&& 31)) &&& 255)) 17) ?_
  refine z_iinc (k9 := 1) (v := 17) (lv' := [(6, .int 17), (7, .int p4), (0, .ref (a 0)), (1, .int p0), (2, .int p1), (3, .int p2), (4, .int p3), (5, .int p4)]) b dX12_feed_109 rfl (by decide) (by decide) rfl ?_
  refine z_goto (tgt := 18) b dX12_feed_112 (by decide) ?_
  refine z_iload b dX12_feed_18 rfl ?_
  refine z_bipush (v := 20) b dX12_feed_20 (by decide) ?_
  refine z_icmp_ge_f (tgt := 115) b dX12_feed_22 (by decide) (by decide) ?_
  refine z_iload b dX12_feed_25 rfl ?_
  refine z_iconst (v := 4) b dX12_feed_27 (by decide) ?_
  refine z_icmp_ge_t (tgt := 35) b dX12_feed_28 (by decide) (by decide) ?_
  refine z_iload b dX12_feed_35 rfl ?_
  refine z_bipush (v := 8) b dX12_feed_37 (by decide) ?_
  refine z_icmp_ge_t (tgt := 46) b dX12_feed_39 (by decide) (by decide) ?_
  refine z_iload b dX12_feed_46 rfl ?_
  refine z_bipush (v := 12) b dX12_feed_48 (by decide) ?_
  refine z_icmp_ge_t (tgt := 57) b dX12_feed_50 (by decide) (by decide) ?_
  refine z_iload b dX12_feed_57 rfl ?_
  refine z_bipush (v := 16) b dX12_feed_59 (by decide) ?_
  refine z_icmp_ge_t (tgt := 69) b dX12_feed_61 (by decide) (by decide) ?_
  refine z_iload b dX12_feed_69 rfl ?_
  refine z_istore (lv' := [(7, .int p4), (6, .int 17), (0, .ref (a 0)), (1, .int p0), (2, .int p1), (3, .int p2), (4, .int p3), (5, .int p4)]) b dX12_feed_71 (by decide) rfl ?_
  refine z_aload_n b dX12_feed_73 rfl rfl ?_
  refine z_get (q0 := 0) (k9 := 23) (v := .ref (a 22)) b (mw_0 cy a (si (su (si (su (si (su (si (su (si (su (si (su (si (su (si (su (si (su (si (su (si (su (si (su (si (su (si (su (si (su (si (su (si (su S 21 0 ((p0 >>> (24 &&& 31)) &&& 255)) 1 1) 21 1 ((p0 >>> (16 &&& 31)) &&& 255)) 1 2) 21 2 ((p0 >>> (8 &&& 31)) &&& 255)) 1 3) 21 3 ((p0 >>> (0 &&& 31)) &&& 255)) 1 4) 21 4 ((p1 >>> (24 &&& 31)) &&& 255)) 1 5) 21 5 ((p1 >>> (16 &&& 31)) &&& 255)) 1 6) 21 6 ((p1 >>> (8 &&& 31)) &&& 255)) 1 7) 21 7 ((p1 >>> (0 &&& 31)) &&& 255)) 1 8) 21 8 ((p2 >>> (24 &&& 31)) &&& 255)) 1 9) 21 9 ((p2 >>> (16 &&& 31)) &&& 255)) 1 10) 21 10 ((p2 >>> (8 &&& 31)) &&& 255)) 1 11) 21 11 ((p2 >>> (0 &&& 31)) &&& 255)) 1 12) 21 12 ((p3 >>> (24 &&& 31)) &&& 255)) 1 13) 21 13 ((p3 >>> (16 &&& 31)) &&& 255)) 1 14) 21 14 ((p3 >>> (8 &&& 31)) &&& 255)) 1 15) 21 15 ((p3 >>> (0 &&& 31)) &&& 255)) 1 16) 21 16 ((p4 >>> (24 &&& 31)) &&& 255)) 1 17)) rfl in_X12 (by decide) wf_X12_78 rfl dX12_feed_74 ?_
  refine z_aload_n b dX12_feed_77 rfl rfl ?_
  refine z_get (q0 := 0) (k9 := 25) (v := .int 17) b (mw_0 cy a (si (su (si (su (si (su (si (su (si (su (si (su (si (su (si (su (si (su (si (su (si (su (si (su (si (su (si (su (si (su (si (su (si (su S 21 0 ((p0 >>> (24 &&& 31)) &&& 255)) 1 1) 21 1 ((p0 >>> (16 &&& 31)) &&& 255)) 1 2) 21 2 ((p0 >>> (8 &&& 31)) &&& 255)) 1 3) 21 3 ((p0 >>> (0 &&& 31)) &&& 255)) 1 4) 21 4 ((p1 >>> (24 &&& 31)) &&& 255)) 1 5) 21 5 ((p1 >>> (16 &&& 31)) &&& 255)) 1 6) 21 6 ((p1 >>> (8 &&& 31)) &&& 255)) 1 7) 21 7 ((p1 >>> (0 &&& 31)) &&& 255)) 1 8) 21 8 ((p2 >>> (24 &&& 31)) &&& 255)) 1 9) 21 9 ((p2 >>> (16 &&& 31)) &&& 255)) 1 10) 21 10 ((p2 >>> (8 &&& 31)) &&& 255)) 1 11) 21 11 ((p2 >>> (0 &&& 31)) &&& 255)) 1 12) 21 12 ((p3 >>> (24 &&& 31)) &&& 255)) 1 13) 21 13 ((p3 >>> (16 &&& 31)) &&& 255)) 1 14) 21 14 ((p3 >>> (8 &&& 31)) &&& 255)) 1 15) 21 15 ((p3 >>> (0 &&& 31)) &&& 255)) 1 16) 21 16 ((p4 >>> (24 &&& 31)) &&& 255)) 1 17)) rfl in_X12 (by decide) wf_X12_182 rfl dX12_feed_78 ?_
  refine z_iload b dX12_feed_81 rfl ?_
  refine z_bipush (v := 24) b dX12_feed_83 (by decide) ?_
  refine z_bipush (v := 8) b dX12_feed_85 (by decide) ?_
  refine z_iload b dX12_feed_87 rfl ?_
  refine z_iconst (v := 4) b dX12_feed_89 (by decide) ?_
  refine z_irem (v := 1) b dX12_feed_90 (by decide) (by decide) ?_
  refine z_imul (v := 8) b dX12_feed_91 (by decide) ?_
  refine z_isub (v := 16) b dX12_feed_92 (by decide) ?_
  refine z_ishr b dX12_feed_93 rfl ?_
  refine z_sipush (v := 255) b dX12_feed_94 (by decide) ?_
  refine z_iand b dX12_feed_97 rfl ?_
  refine y_iast (q0 := 22) (j := 17) b (mw_22 cy a (si (su (si (su (si (su (si (su (si (su (si (su (si (su (si (su (si (su (si (su (si (su (si (su (si (su (si (su (si (su (si (su (si (su S 21 0 ((p0 >>> (24 &&& 31)) &&& 255)) 1 1) 21 1 ((p0 >>> (16 &&& 31)) &&& 255)) 1 2) 21 2 ((p0 >>> (8 &&& 31)) &&& 255)) 1 3) 21 3 ((p0 >>> (0 &&& 31)) &&& 255)) 1 4) 21 4 ((p1 >>> (24 &&& 31)) &&& 255)) 1 5) 21 5 ((p1 >>> (16 &&& 31)) &&& 255)) 1 6) 21 6 ((p1 >>> (8 &&& 31)) &&& 255)) 1 7) 21 7 ((p1 >>> (0 &&& 31)) &&& 255)) 1 8) 21 8 ((p2 >>> (24 &&& 31)) &&& 255)) 1 9) 21 9 ((p2 >>> (16 &&& 31)) &&& 255)) 1 10) 21 10 ((p2 >>> (8 &&& 31)) &&& 255)) 1 11) 21 11 ((p2 >>> (0 &&& 31)) &&& 255)) 1 12) 21 12 ((p3 >>> (24 &&& 31)) &&& 255)) 1 13) 21 13 ((p3 >>> (16 &&& 31)) &&& 255)) 1 14) 21 14 ((p3 >>> (8 &&& 31)) &&& 255)) 1 15) 21 15 ((p3 >>> (0 &&& 31)) &&& 255)) 1 16) 21 16 ((p4 >>> (24 &&& 31)) &&& 255)) 1 17)) (by decide) dX12_feed_98 (mwa_22 cy a (si (su (si (su (si (su (si (su (si (su (si (su (si (su (si (su (si (su (si (su (si (su (si (su (si (su (si (su (si (su (si (su (si (su S 21 0 ((p0 >>> (24 &&& 31)) &&& 255)) 1 1) 21 1 ((p0 >>> (16 &&& 31)) &&& 255)) 1 2) 21 2 ((p0 >>> (8 &&& 31)) &&& 255)) 1 3) 21 3 ((p0 >>> (0 &&& 31)) &&& 255)) 1 4) 21 4 ((p1 >>> (24 &&& 31)) &&& 255)) 1 5) 21 5 ((p1 >>> (16 &&& 31)) &&& 255)) 1 6) 21 6 ((p1 >>> (8 &&& 31)) &&& 255)) 1 7) 21 7 ((p1 >>> (0 &&& 31)) &&& 255)) 1 8) 21 8 ((p2 >>> (24 &&& 31)) &&& 255)) 1 9) 21 9 ((p2 >>> (16 &&& 31)) &&& 255)) 1 10) 21 10 ((p2 >>> (8 &&& 31)) &&& 255)) 1 11) 21 11 ((p2 >>> (0 &&& 31)) &&& 255)) 1 12) 21 12 ((p3 >>> (24 &&& 31)) &&& 255)) 1 13) 21 13 ((p3 >>> (16 &&& 31)) &&& 255)) 1 14) 21 14 ((p3 >>> (8 &&& 31)) &&& 255)) 1 15) 21 15 ((p3 >>> (0 &&& 31)) &&& 255)) 1 16) 21 16 ((p4 >>> (24 &&& 31)) &&& 255)) 1 17) 17 ((p4 >>> (16 &&& 31)) &&& 255)) ?_
  refine z_aload_n b dX12_feed_99 rfl rfl ?_
  refine z_dup b dX12_feed_100 rfl ?_
  refine z_get (q0 := 0) (k9 := 25) (v := .int 17) b (mw_0 cy a (su (si (su (si (su (si (su (si (su (si (su (si (su (si (su (si (su (si (su (si (su (si (su (si (su (si (su (si (su (si (su (si (su (si (su S 21 0 ((p0 >>> (24 &&& 31)) &&& 255)) 1 1) 21 1 ((p0 >>> (16 &&& 31)) &&& 255)) 1 2) 21 2 ((p0 >>> (8 &&& 31)) &&& 255)) 1 3) 21 3 ((p0 >>> (0 &&& 31)) &&& 255)) 1 4) 21 4 ((p1 >>> (24 &&& 31)) &&& 255)) 1 5) 21 5 ((p1 >>> (16 &&& 31)) &&& 255)) 1 6) 21 6 ((p1 >>> (8 &&& 31)) &&& 255)) 1 7) 21 7 ((p1 >>> (0 &&& 31)) &&& 255)) 1 8) 21 8 ((p2 >>> (24 &&& 31)) &&& 255)) 1 9) 21 9 ((p2 >>> (16 &&& 31)) &&& 255)) 1 10) 21 10 ((p2 >>> (8 &&& 31)) &&& 255)) 1 11) 21 11 ((p2 >>> (0 &&& 31)) &&& 255)) 1 12) 21 12 ((p3 >>> (24 &&& 31)) &&& 255)) 1 13) 21 13 ((p3 >>> (16 &&& 31)) &&& 255)) 1 14) 21 14 ((p3 >>> (8 &&& 31)) &&& 255)) 1 15) 21 15 ((p3 >>> (0 &&& 31)) &&& 255)) 1 16) 21 16 ((p4 >>> (24 &&& 31)) &&& 255)) 1 17) 21 17 ((p4 >>> (16 &&& 31)) &&& 255))) rfl in_X12 (by decide) wf_X12_182 rfl dX12_feed_101 ?_
  refine z_iconst (v := 1) b dX12_feed_104 (by decide) ?_
  refine z_iadd (v := 18) b dX12_feed_105 (by decide) ?_
  refine z_put (q0 := 0) (k9 := 25) tyX12 b (mw_0 cy a (su (si (su (si (su (si (su (si (su (si (su (si (su (si (su (si (su (si (su (si (su (si (su (si (su (si (su (si (su (si (su (si (su (si (su S 21 0 ((p0 >>> (24 &&& 31)) &&& 255)) 1 1) 21 1 ((p0 >>> (16 &&& 31)) &&& 255)) 1 2) 21 2 ((p0 >>> (8 &&& 31)) &&& 255)) 1 3) 21 3 ((p0 >>> (0 &&& 31)) &&& 255)) 1 4) 21 4 ((p1 >>> (24 &&& 31)) &&& 255)) 1 5) 21 5 ((p1 >>> (16 &&& 31)) &&& 255)) 1 6) 21 6 ((p1 >>> (8 &&& 31)) &&& 255)) 1 7) 21 7 ((p1 >>> (0 &&& 31)) &&& 255)) 1 8) 21 8 ((p2 >>> (24 &&& 31)) &&& 255)) 1 9) 21 9 ((p2 >>> (16 &&& 31)) &&& 255)) 1 10) 21 10 ((p2 >>> (8 &&& 31)) &&& 255)) 1 11) 21 11 ((p2 >>> (0 &&& 31)) &&& 255)) 1 12) 21 12 ((p3 >>> (24 &&& 31)) &&& 255)) 1 13) 21 13 ((p3 >>> (16 &&& 31)) &&& 255)) 1 14) 21 14 ((p3 >>> (8 &&& 31)) &&& 255)) 1 15) 21 15 ((p3 >>> (0 &&& 31)) &&& 255)) 1 16) 21 16 ((p4 >>> (24 &&& 31)) &&& 255)) 1 17) 21 17 ((p4 >>> (16 &&& 31)) &&& 255))) rfl in_X12 tyX12_ok nmX12 (by decide) wf_X12_182 rfl rfl rfl rfl (Nat.le_of_ble_eq_true rfl) dX12_feed_106 (mwp_0_25 cy a (su (si (su (si (su (si (su (si (su (si (su (si (su (si (su (si (su (si (su (si (su (si (su (si (su (si (su (si (su (si (su (si (su (si (su S 21 0 ((p0 >>> (24 &&& 31)) &&& 255)) 1 1) 21 1 ((p0 >>> (16 &&& 31)) &&& 255)) 1 2) 21 2 ((p0 >>> (8 &&& 31)) &&& 255)) 1 3) 21 3 ((p0 >>> (0 &&& 31)) &&& 255)) 1 4) 21 4 ((p1 >>> (24 &&& 31)) &&& 255)) 1 5) 21 5 ((p1 >>> (16 &&& 31)) &&& 255)) 1 6) 21 6 ((p1 >>> (8 &&& 31)) &&& 255)) 1 7) 21 7 ((p1 >>> (0 &&& 31)) &&& 255)) 1 8) 21 8 ((p2 >>> (24 &&& 31)) &&& 255)) 1 9) 21 9 ((p2 >>> (16 &&& 31)) &&& 255)) 1 10) 21 10 ((p2 >>> (8 &&& 31)) &&& 255)) 1 11) 21 11 ((p2 >>> (0 &&& 31)) &&& 255)) 1 12) 21 12 ((p3 >>> (24 &&& 31)) &&& 255)) 1 13) 21 13 ((p3 >>> (16 &&& 31)) &&& 255)) 1 14) 21 14 ((p3 >>> (8 &&& 31)) &&& 255)) 1 15) 21 15 ((p3 >>> (0 &&& 31)) &&& 255)) 1 16) 21 16 ((p4 >>> (24 &&& 31)) &&& 255)) 1 17) 21 17 ((p4 >>> (16 &&& 31)) &&& 255)) 18) ?_
  refine z_iinc (k9 := 1) (v := 18) (lv' := [(6, .int 18), (7, .int p4), (0, .ref (a 0)), (1, .int p0), (2, .int p1), (3, .int p2), (4, .int p3), (5, .int p4)]) b dX12_feed_109 rfl (by decide) (by decide) rfl ?_
  refine z_goto (tgt := 18) b dX12_feed_112 (by decide) ?_
  refine z_iload b dX12_feed_18 rfl ?_
  refine z_bipush (v := 20) b dX12_feed_20 (by decide) ?_
  refine z_icmp_ge_f (tgt := 115) b dX12_feed_22 (by decide) (by decide) ?_
  refine z_iload b dX12_feed_25 rfl ?_
  refine z_iconst (v := 4) b dX12_feed_27 (by decide) ?_
  refine z_icmp_ge_t (tgt := 35) b dX12_feed_28 (by decide) (by decide) ?_
  refine z_iload b dX12_feed_35 rfl ?_
  refine z_bipush (v := 8) b dX12_feed_37 (by decide) ?_
  refine z_icmp_ge_t (tgt := 46) b dX12_feed_39 (by decide) (by decide) ?_
  refine z_iload b dX12_feed_46 rfl ?_
  refine z_bipush (v := 12) b dX12_feed_48 (by decide) ?_
  refine z_icmp_ge_t (tgt := 57) b dX12_feed_50 (by decide) (by decide) ?_
  refine z_iload b dX12_feed_57 rfl ?_
  refine z_bipush (v := 16) b dX12_feed_59 (by decide) ?_
  refine z_icmp_ge_t (tgt := 69) b dX12_feed_61 (by decide) (by decide) ?_
  refine z_iload b dX12_feed_69 rfl ?_
  refine z_istore (lv' := [(7, .int p4), (6, .int 18), (0, .ref (a 0)), (1, .int p0), (2, .int p1), (3, .int p2), (4, .int p3), (5, .int p4)]) b dX12_feed_71 (by decide) rfl ?_
  refine z_aload_n b dX12_feed_73 rfl rfl ?_
  refine z_get (q0 := 0) (k9 := 23) (v := .ref (a 22)) b (mw_0 cy a (si (su (si (su (si (su (si (su (si (su (si (su (si (su (si (su (si (su (si (su (si (su (si (su (si (su (si (su (si (su (si (su (si (su (si (su S 21 0 ((p0 >>> (24 &&& 31)) &&& 255)) 1 1) 21 1 ((p0 >>> (16 &&& 31)) &&& 255)) 1 2) 21 2 ((p0 >>> (8 &&& 31)) &&& 255)) 1 3) 21 3 ((p0 >>> (0 &&& 31)) &&& 255)) 1 4) 21 4 ((p1 >>> (24 &&& 31)) &&& 255)) 1 5) 21 5 ((p1 >>> (16 &&& 31)) &&& 255)) 1 6) 21 6 ((p1 >>> (8 &&& 31)) &&& 255)) 1 7) 21 7 ((p1 >>> (0 &&& 31)) &&& 255)) 1 8) 21 8 ((p2 >>> (24 &&& 31)) &&& 255)) 1 9) 21 9 ((p2 >>> (16 &&& 31)) &&& 255)) 1 10) 21 10 ((p2 >>> (8 &&& 31)) &&& 255)) 1 11) 21 11 ((p2 >>> (0 &&& 31)) &&& 255)) 1 12) 21 12 ((p3 >>> (24 &&& 31)) &&& 255)) 1 13) 21 13 ((p3 >>> (16 &&& 31)) &&& 255)) 1 14) 21 14 ((p3 >>> (8 &&& 31)) &&& 255)) 1 15) 21 15 ((p3 >>> (0 &&& 31)) &&& 255)) 1 16) 21 16 ((p4 >>> (24 &&& 31)) &&& 255)) 1 17) 21 17 ((p4 >>> (16 &&& 31)) &&& 255)) 1 18)) rfl in_X12 (by decide) wf_X12_78 rfl dX12_feed_74 ?_
  refine z_aload_n b dX12_feed_77 rfl rfl ?_
  refine z_get (q0 := 0) (k9 := 25) (v := .int 18) b (mw_0 cy a (si (su (si (su (si (su (si (su (si (su (si (su (si (su (si (su (si (su (si (su (si (su (si (su (si (su (si (su (si (su (si (su (si (su (si (su S 21 0 ((p0 >>> (24 &&& 31)) &&& 255)) 1 1) 21 1 ((p0 >>> (16 &&& 31)) &&& 255)) 1 2) 21 2 ((p0 >>> (8 &&& 31)) &&& 255)) 1 3) 21 3 ((p0 >>> (0 &&& 31)) &&& 255)) 1 4) 21 4 ((p1 >>> (24 &&& 31)) &&& 255)) 1 5) 21 5 ((p1 >>> (16 &&& 31)) &&& 255)) 1 6) 21 6 ((p1 >>> (8 &&& 31)) &&& 255)) 1 7) 21 7 ((p1 >>> (0 &&& 31)) &&& 255)) 1 8) 21 8 ((p2 >>> (24 &&& 31)) &&& 255)) 1 9) 21 9 ((p2 >>> (16 &&& 31)) &&& 255)) 1 10) 21 10 ((p2 >>> (8 &&& 31)) &&& 255)) 1 11) 21 11 ((p2 >>> (0 &&& 31)) &&& 255)) 1 12) 21 12 ((p3 >>> (24 &&& 31)) &&& 255)) 1 13) 21 13 ((p3 >>> (16 &&& 31)) &&& 255)) 1 14) 21 14 ((p3 >>> (8 &&& 31)) &&& 255)) 1 15) 21 15 ((p3 >>> (0 &&& 31)) &&& 255)) 1 16) 21 16 ((p4 >>> (24 &&& 31)) &&& 255)) 1 17) 21 17 ((p4 >>> (16 &&& 31)) &&& 255)) 1 18)) rfl in_X12 (by decide) wf_X12_182 rfl dX12_feed_78 ?_
  refine z_iload b dX12_feed_81 rfl ?_
  refine z_bipush (v := 24) b dX12_feed_83 (by decide) ?_
  refine z_bipush (v := 8) b dX12_feed_85 (by decide) ?_
  refine z_iload b dX12_feed_87 rfl ?_
  refine z_iconst (v := 4) b dX12_feed_89 (by decide) ?_
  refine z_irem (v := 2) b dX12_feed_90 (by decide) (by decide) ?_
  refine z_imul (v := 16) b dX12_feed_91 (by decide) ?_
  refine z_isub (v := 8) b dX12_feed_92 (by decide) ?_
  refine z_ishr b dX12_feed_93 rfl ?_
  refine z_sipush (v := 255) b dX12_feed_94 (by decide) ?_
  refine z_iand b dX12_feed_97 rfl ?_
  refine y_iast (q0 := 22) (j := 18) b (mw_22 cy a (si (su (si (su (si (su (si (su (si (su (si (su (si (su (si (su (si (su (si (su (si (su (si (su (si (su (si (su (si (su (si (su (si (su (si (su S 21 0 ((p0 >>> (24 &&& 31)) &&& 255)) 1 1) 21 1 ((p0 >>> (16 &&& 31)) &&& 255)) 1 2) 21 2 ((p0 >>> (8 &&& 31)) &&& 255)) 1 3) 21 3 ((p0 >>> (0 &&& 31)) &&& 255)) 1 4) 21 4 ((p1 >>> (24 &&& 31)) &&& 255)) 1 5) 21 5 ((p1 >>> (16 &&& 31)) &&& 255)) 1 6) 21 6 ((p1 >>> (8 &&& 31)) &&& 255)) 1 7) 21 7 ((p1 >>> (0 &&& 31)) &&& 255)) 1 8) 21 8 ((p2 >>> (24 &&& 31)) &&& 255)) 1 9) 21 9 ((p2 >>> (16 &&& 31)) &&& 255)) 1 10) 21 10 ((p2 >>> (8 &&& 31)) &&& 255)) 1 11) 21 11 ((p2 >>> (0 &&& 31)) &&& 255)) 1 12) 21 12 ((p3 >>> (24 &&& 31)) &&& 255)) 1 13) 21 13 ((p3 >>> (16 &&& 31)) &&& 255)) 1 14) 21 14 ((p3 >>> (8 &&& 31)) &&& 255)) 1 15) 21 15 ((p3 >>> (0 &&& 31)) &&& 255)) 1 16) 21 16 ((p4 >>> (24 &&& 31)) &&& 255)) 1 17) 21 17 ((p4 >>> (16 &&& 31)) &&& 255)) 1 18)) (by decide) dX12_feed_98 (mwa_22 cy a (si (su (si (su (si (su (si (su (si (su (si (su (si (su (si (su (si (su (si (su (si (su (si (su (si (su (si (su (si (su (si (su (si (su (si (su S 21 0 ((p0 >>> (24 &&& 31)) &&& 255)) 1 1) 21 1 ((p0 >>> (16 &&& 31)) &&& 255)) 1 2) 21 2 ((p0 >>> (8 &&& 31)) &&& 255)) 1 3) 21 3 ((p0 >>> (0 &&& 31)) &&& 255)) 1 4) 21 4 ((p1 >>> (24 &&& 31)) &&& 255)) 1 5) 21 5 ((p1 >>> (16 &&& 31)) &&& 255)) 1 6) 21 6 ((p1 >>> (8 &&& 31)) &&& 255)) 1 7) 21 7 ((p1 >>> (0 &&& 31)) &&& 255)) 1 8) 21 8 ((p2 >>> (24 &&& 31)) &&& 255)) 1 9) 21 9 ((p2 >>> (16 &&& 31)) &&& 255)) 1 10) 21 10 ((p2 >>> (8 &&& 31)) &&& 255)) 1 11) 21 11 ((p2 >>> (0 &&& 31)) &&& 255)) 1 12) 21 12 ((p3 >>> (24 &&& 31)) &&& 255)) 1 13) 21 13 ((p3 >>> (16 &&& 31)) &&& 255)) 1 14) 21 14 ((p3 >>> (8 &&& 31)) &&& 255)) 1 15) 21 15 ((p3 >>> (0 &&& 31)) &&& 255)) 1 16) 21 16 ((p4 >>> (24 &&& 31)) &&& 255)) 1 17) 21 17 ((p4 >>> (16 &&& 31)) &&& 255)) 1 18) 18 ((p4 >>> (8 &&& 31)) &&& 255)) ?_
  refine z_aload_n b dX12_feed_99 rfl rfl ?_
  refine z_dup b dX12_feed_100 rfl ?_
  refine z_get (q0 := 0) (k9 := 25) (v := .int 18) b (mw_0 cy a (su (si (su (si (su (si (su (si (su (si (su (si (su (si (su (si (su (si (su (si (su (si (su (si (su (si (su (si (su (si (su (si (su (si (su (si (su S 21 0 ((p0 >>> (24 &&& 31)) &&& 255)) 1 1) 21 1 ((p0 >>> (16 &&& 31)) &&& 255)) 1 2) 21 2 ((p0 >>> (8 &&& 31)) &&& 255)) 1 3) 21 3 ((p0 >>> (0 &&& 31)) &&& 255)) 1 4) 21 4 ((p1 >>> (24 &&& 31)) &&& 255)) 1 5) 21 5 ((p1 >>> (16 &&& 31)) &&& 255)) 1 6) 21 6 ((p1 >>> (8 &&& 31)) &&& 255)) 1 7) 21 7 ((p1 >>> (0 &&& 31)) &&& 255)) 1 8) 21 8 ((p2 >>> (24 &&& 31)) &&& 255)) 1 9) 21 9 ((p2 >>> (16 &&& 31)) &&& 255)) 1 10) 21 10 ((p2 >>> (8 &&& 31)) &&& 255)) 1 11) 21 11 ((p2 >>> (0 &&& 31)) &&& 255)) 1 12) 21 12 ((p3 >>> (24 &&& 31)) &&& 255)) 1 13) 21 13 ((p3 >>> (16 &&& 31)) &&& 255)) 1 14) 21 14 ((p3 >>> (8 &&& 31)) &&& 255)) 1 15) 21 15 ((p3 >>> (0 &&& 31)) &&& 255)) 1 16) 21 16 ((p4 >>> (24 &&& 31)) &&& 255)) 1 17) 21 17 ((p4 >>> (16 &&& 31)) &&& 255)) 1 18) 21 18 ((p4 >>> (8 &&& 31)) &&& 255))) rfl in_X12 (by decide) wf_X12_182 rfl dX12_feed_101 ?_
  refine z_iconst (v := 1) b dX12_feed_104 (by decide) ?_
  refine z_iadd (v := 19) b dX12_feed_105 (by decide) ?_
  refine z_put (q0 := 0) (k9 := 25) tyX12 b (mw_0 cy a (su (si (su (si (su (si (su (si (su (si (su (si (su (si (su (si (su (si (su (si (su (si (su (si (su (si (su (si (su (si (su (si (su (si (su (si (su S 21 0 ((p0 >>> (24 &&& 31)) &&& 255)) 1 1) 21 1 ((p0 >>> (16 &&& 31)) &&& 255)) 1 2) 21 2 ((p0 >>> (8 &&& 31)) &&& 255)) 1 3) 21 3 ((p0 >>> (0 &&& 31)) &&& 255)) 1 4) 21 4 ((p1 >>> (24 &&& 31)) &&& 255)) 1 5) 21 5 ((p1 >>> (16 &&& 31)) &&& 255)) 1 6) 21 6 ((p1 >>> (8 &&& 31)) &&& 255)) 1 7) 21 7 ((p1 >>> (0 &&& 31)) &&& 255)) 1 8) 21 8 ((p2 >>> (24 &&& 31)) &&& 255)) 1 9) 21 9 ((p2 >>> (16 &&& 31)) &&& 255)) 1 10) 21 10 ((p2 >>> (8 &&& 31)) &&& 255)) 1 11) 21 11 ((p2 >>> (0 &&& 31)) &&& 255)) 1 12) 21 12 ((p3 >>> (24 &&& 31)) &&& 255)) 1 13) 21 13 ((p3 >>> (16 &&& 31)) &&& 255)) 1 14) 21 14 ((p3 >>> (8 &&& 31)) &&& 255)) 1 15) 21 15 ((p3 >>> (0 &&& 31)) &&& 255)) 1 16) 21 16 ((p4 >>> (24 &&& 31)) &&& 255)) 1 17) 21 17 ((p4 >>> (16 &&& 31)) &&& 255)) 1 18) 21 18 ((p4 >>> (8 &&& 31)) &&& 255))) rfl in_X12 tyX12_ok nmX12 (by decide) wf_X12_182 rfl rfl rfl rfl (Nat.le_of_ble_eq_true rfl) dX12_feed_106 (mwp_0_25 cy a (su (si (su (si (su (si (su (si (su (si (su (si (su (si (su (si (su (si (su (si (su (si (su (si (su (si (su (si (su (si (su (si (su (si (su (si (su S 21 0 ((p0 >>> (24 &&& 31)) &&& 255)) 1 1) 21 1 ((p0 >>> (16 &&& 31)) &&& 255)) 1 2) 21 2 ((p0 >>> (8 &&& 31)) &&& 255)) 1 3) 21 3 ((p0 >>> (0 &&& 31)) &&& 255)) 1 4) 21 4 ((p1 >>> (24 &&& 31)) &&& 255)) 1 5) 21 5 ((p1 >>> (16 &&& 31)) &&& 255)) 1 6) 21 6 ((p1 >>> (8 &&& 31)) &&& 255)) 1 7) 21 7 ((p1 >>> (0 &&& 31)) &&& 255)) 1 8) 21 8 ((p2 >>> (24 &&& 31)) &&& 255)) 1 9) 21 9 ((p2 >>> (16 &&& 31)) &&& 255)) 1 10) 21 10 ((p2 >>> (8 &&& 31)) &&& 255)) 1 11) 21 11 ((p2 >>> (0 &&& 31)) &&& 255)) 1 12) 21 12 ((p3 >>> (24 &&& 31)) &&& 255)) 1 13) 21 13 ((p3 >>> (16 &&& 31)) &&& 255)) 1 14) 21 14 ((p3 >>> (8 &&& 31)) &&& 255)) 1 15) 21 15 ((p3 >>> (0 &&& 31)) &&& 255)) 1 16) 21 16 ((p4 >>> (24 &&& 31)) &&& 255)) 1 17) 21 17 ((p4 >>> (16 &&& 31)) &&& 255)) 1 18) 21 18 ((p4 >>> (8 &&& 31)) &&& 255)) 19) ?_
  refine z_iinc (k9 := 1) (v := 19) (lv' := [(6, .int 19), (7, .int p4), (0, .ref (a 0)), (1, .int p0), (2, .int p1), (3, .int p2), (4, .int p3), (5, .int p4)]) b dX12_feed_109 rfl (by decide) (by decide) rfl ?_
  refine z_goto (tgt := 18) b dX12_feed_112 (by decide) ?_
  refine z_iload b dX12_feed_18 rfl ?_
  refine z_bipush (v := 20) b dX12_feed_20 (by decide) ?_
  refine z_icmp_ge_f (tgt := 115) b dX12_feed_22 (by decide) (by decide) ?_
  refine z_iload b dX12_feed_25 rfl ?_
  refine z_iconst (v := 4) b dX12_feed_27 (by decide) ?_
  refine z_icmp_ge_t (tgt := 35) b dX12_feed_28 (by decide) (by decide) ?_
  refine z_iload b dX12_feed_35 rfl ?_
  refine z_bipush (v := 8) b dX12_feed_37 (by decide) ?_
  refine z_icmp_ge_t (tgt := 46) b dX12_feed_39 (by decide) (by decide) ?_
  refine z_iload b dX12_feed_46 rfl ?_
  refine z_bipush (v := 12) b dX12_feed_48 (by decide) ?_
  refine z_icmp_ge_t (tgt := 57) b dX12_feed_50 (by decide) (by decide) ?_
  refine z_iload b dX12_feed_57 rfl ?_
  refine z_bipush (v := 16) b dX12_feed_59 (by decide) ?_
  refine z_icmp_ge_t (tgt := 69) b dX12_feed_61 (by decide) (by decide) ?_
  refine z_iload b dX12_feed_69 rfl ?_
  refine z_istore (lv' := [(7, .int p4), (6, .int 19), (0, .ref (a 0)), (1, .int p0), (2, .int p1), (3, .int p2), (4, .int p3), (5, .int p4)]) b dX12_feed_71 (by decide) rfl ?_
  refine z_aload_n b dX12_feed_73 rfl rfl ?_
  refine z_get (q0 := 0) (k9 := 23) (v := .ref (a 22)) b (mw_0 cy a (si (su (si (su (si (su (si (su (si (su (si (su (si (su (si (su (si (su (si (su (si (su (si (su (si (su (si (su (si (su (si (su (si (su (si (su (si (su S 21 0 ((p0 >>> (24 &&& 31)) &&& 255)) 1 1) 21 1 ((p0 >>> (16 &&& 31)) &&& 255)) 1 2) 21 2 ((p0 >>> (8 &&& 31)) &&& 255)) 1 3) 21 3 ((p0 >>> (0 &&& 31)) &&& 255)) 1 4) 21 4 ((p1 >>> (24 &&& 31)) &&& 255)) 1 5) 21 5 ((p1 >>> (16 &&& 31)) &&& 255)) 1 6) 21 6 ((p1 >>> (8 &&& 31)) &&& 255)) 1 7) 21 7 ((p1 >>> (0 &&& 31)) &&& 255)) 1 8) 21 8 ((p2 >>> (24 &&& 31)) &&& 255)) 1 9) 21 9 ((p2 >>> (16 &&& 31)) &&& 255)) 1 10) 21 10 ((p2 >>> (8 &&& 31)) &&& 255)) 1 11) 21 11 ((p2 >>> (0 &&& 31)) &&& 255)) 1 12) 21 12 ((p3 >>> (24 &&& 31)) &&& 255)) 1 13) 21 13 ((p3 >>> (16 &&& 31)) &&& 255)) 1 14) 21 14 ((p3 >>> (8 &&& 31)) &&& 255)) 1 15) 21 15 ((p3 >>> (0 &&& 31)) &&& 255)) 1 16) 21 16 ((p4 >>> (24 &&& 31)) &&& 255)) 1 17) 21 17 ((p4 >>> (16 &&& 31)) &&& 255)) 1 18) 21 18 ((p4 >>> (8 &&& 31)) &&& 255)) 1 19)) rfl in_X12 (by decide) wf_X12_78 rfl dX12_feed_74 ?_
  refine z_aload_n b dX12_feed_77 rfl rfl ?_
  refine z_get (q0 := 0) (k9 := 25) (v := .int 19) b (mw_0 cy a (si (su (si (su (si (su (si (su (si (su (si (su (si (su (si (su (si (su (si (su (si (su (si (su (si (su (si (su (si (su (si (su (si (su (si (su (si (su S 21 0 ((p0 >>> (24 &&& 31)) &&& 255)) 1 1) 21 1 ((p0 >>> (16 &&& 31)) &&& 255)) 1 2) 21 2 ((p0 >>> (8 &&& 31)) &&& 255)) 1 3) 21 3 ((p0 >>> (0 &&& 31)) &&& 255)) 1 4) 21 4 ((p1 >>> (24 &&& 31)) &&& 255)) 1 5) 21 5 ((p1 >>> (16 &&& 31)) &&& 255)) 1 6) 21 6 ((p1 >>> (8 &&& 31)) &&& 255)) 1 7) 21 7 ((p1 >>> (0 &&& 31)) &&& 255)) 1 8) 21 8 ((p2 >>> (24 &&& 31)) &&& 255)) 1 9) 21 9 ((p2 >>> (16 &&& 31)) &&& 255)) 1 10) 21 10 ((p2 >>> (8 &&& 31)) &&& 255)) 1 11) 21 11 ((p2 >>> (0 &&& 31)) &&& 255)) 1 12) 21 12 ((p3 >>> (24 &&& 31)) &&& 255)) 1 13) 21 13 ((p3 >>> (16 &&& 31)) &&& 255)) 1 14) 21 14 ((p3 >>> (8 &&& 31)) &&& 255)) 1 15) 21 15 ((p3 >>> (0 &&& 31)) &&& 255)) 1 16) 21 16 ((p4 >>> (24 &&& 31)) &&& 255)) 1 17) 21 17 ((p4 >>> (16 &&& 31)) &&& 255)) 1 18) 21 18 ((p4 >>> (8 &&& 31)) &&& 255)) 1 19)) rfl in_X12 (by decide) wf_X12_182 rfl dX12_feed_78 ?_
  exact k

set_option maxHeartbeats 4000000 in
set_option maxRecDepth 100000 in
theorem c_X12_feed {l : Launch} {D : va_G} {cy : Nat → ClassId} {T0 tB tE : Nat} {a : Nat → Nat} (S : GS) (p0 : Int32) (p1 : Int32) (p2 : Int32) (p3 : Int32) (p4 : Int32) (h_i_1 : fi S 1 = 0) : Ct l D cy T0 tB tE yX12_feed cX12_feed 8 (some .int) 0 0 0 0 (mw cy a S) [.ref (a 0), .int p0, .int p1, .int p2, .int p3, .int p4] (QI D (U := GS) (fun r u => 20 = r ∧ si (su (si (su (si (su (si (su (si (su (si (su (si (su (si (su (si (su (si (su (si (su (si (su (si (su (si (su (si (su (si (su (si (su (si (su (si (su (si (su S 21 0 ((p0 >>> (24 &&& 31)) &&& 255)) 1 1) 21 1 ((p0 >>> (16 &&& 31)) &&& 255)) 1 2) 21 2 ((p0 >>> (8 &&& 31)) &&& 255)) 1 3) 21 3 ((p0 >>> (0 &&& 31)) &&& 255)) 1 4) 21 4 ((p1 >>> (24 &&& 31)) &&& 255)) 1 5) 21 5 ((p1 >>> (16 &&& 31)) &&& 255)) 1 6) 21 6 ((p1 >>> (8 &&& 31)) &&& 255)) 1 7) 21 7 ((p1 >>> (0 &&& 31)) &&& 255)) 1 8) 21 8 ((p2 >>> (24 &&& 31)) &&& 255)) 1 9) 21 9 ((p2 >>> (16 &&& 31)) &&& 255)) 1 10) 21 10 ((p2 >>> (8 &&& 31)) &&& 255)) 1 11) 21 11 ((p2 >>> (0 &&& 31)) &&& 255)) 1 12) 21 12 ((p3 >>> (24 &&& 31)) &&& 255)) 1 13) 21 13 ((p3 >>> (16 &&& 31)) &&& 255)) 1 14) 21 14 ((p3 >>> (8 &&& 31)) &&& 255)) 1 15) 21 15 ((p3 >>> (0 &&& 31)) &&& 255)) 1 16) 21 16 ((p4 >>> (24 &&& 31)) &&& 255)) 1 17) 21 17 ((p4 >>> (16 &&& 31)) &&& 255)) 1 18) 21 18 ((p4 >>> (8 &&& 31)) &&& 255)) 1 19) 21 19 ((p4 >>> (0 &&& 31)) &&& 255)) 1 20 = u) (mw cy a)) := by
  refine Ct.ofZ RX12 "feed" [(0, .ref (a 0)), (1, .int p0), (2, .int p1), (3, .int p2), (4, .int p3), (5, .int p4)] rfl rfl rfl rfl (Nat.le_of_ble_eq_true rfl) ?_
  intro p e R s m args below meth c A b
  refine ch_X12_feed_50 S p0 p1 p2 p3 p4 h_i_1  b ?_
  refine ch_X12_feed_51 S p0 p1 p2 p3 p4   b ?_
  refine ch_X12_feed_52 S p0 p1 p2 p3 p4   b ?_
  refine ch_X12_feed_53 S p0 p1 p2 p3 p4   b ?_
  refine ch_X12_feed_54 S p0 p1 p2 p3 p4   b ?_
  refine z_iload b dX12_feed_81 rfl ?_
  refine z_bipush (v := 24) b dX12_feed_83 (by decide) ?_
  refine z_bipush (v := 8) b dX12_feed_85 (by decide) ?_
  refine z_iload b dX12_feed_87 rfl ?_
  refine z_iconst (v := 4) b dX12_feed_89 (by decide) ?_
  refine z_irem (v := 3) b dX12_feed_90 (by decide) (by decide) ?_
  refine z_imul (v := 24) b dX12_feed_91 (by decide) ?_
  refine z_isub (v := 0) b dX12_feed_92 (by decide) ?_
  refine z_ishr b dX12_feed_93 rfl ?_
  refine z_sipush (v := 255) b dX12_feed_94 (by decide) ?_
  refine z_iand b dX12_feed_97 rfl ?_
  refine y_iast (q0 := 22) (j := 19) b (mw_22 cy a (si (su (si (su (si (su (si (su (si (su (si (su (si (su (si (su (si (su (si (su (si (su (si (su (si (su (si (su (si (su (si (su (si (su (si (su (si (su S 21 0 ((p0 >>> (24 &&& 31)) &&& 255)) 1 1) 21 1 ((p0 >>> (16 &&& 31)) &&& 255)) 1 2) 21 2 ((p0 >>> (8 &&& 31)) &&& 255)) 1 3) 21 3 ((p0 >>> (0 &&& 31)) &&& 255)) 1 4) 21 4 ((p1 >>> (24 &&& 31)) &&& 255)) 1 5) 21 5 ((p1 >>> (16 &&& 31)) &&& 255)) 1 6) 21 6 ((p1 >>> (8 &&& 31)) &&& 255)) 1 7) 21 7 ((p1 >>> (0 &&& 31)) &&& 255)) 1 8) 21 8 ((p2 >>> (24 &&& 31)) &&& 255)) 1 9) 21 9 ((p2 >>> (16 &&& 31)) &&& 255)) 1 10) 21 10 ((p2 >>> (8 &&& 31)) &&& 255)) 1 11) 21 11 ((p2 >>> (0 &&& 31)) &&& 255)) 1 12) 21 12 ((p3 >>> (24 &&& 31)) &&& 255)) 1 13) 21 13 ((p3 >>> (16 &&& 31)) &&& 255)) 1 14) 21 14 ((p3 >>> (8 &&& 31)) &&& 255)) 1 15) 21 15 ((p3 >>> (0 &&& 31)) &&& 255)) 1 16) 21 16 ((p4 >>> (24 &&& 31)) &&& 255)) 1 17) 21 17 ((p4 >>> (16 &&& 31)) &&& 255)) 1 18) 21 18 ((p4 >>> (8 &&& 31)) &&& 255)) 1 19)) (by decide) dX12_feed_98 (mwa_22 cy a (si (su (si (su (si (su (si (su (si (su (si (su (si (su (si (su (si (su (si (su (si (su (si (su (si (su (si (su (si (su (si (su (si (su (si (su (si (su S 21 0 ((p0 >>> (24 &&& 31)) &&& 255)) 1 1) 21 1 ((p0 >>> (16 &&& 31)) &&& 255)) 1 2) 21 2 ((p0 >>> (8 &&& 31)) &&& 255)) 1 3) 21 3 ((p0 >>> (0 &&& 31)) &&& 255)) 1 4) 21 4 ((p1 >>> (24 &&& 31)) &&& 255)) 1 5) 21 5 ((p1 >>> (16 &&& 31)) &&& 255)) 1 6) 21 6 ((p1 >>> (8 &&& 31)) &&& 255)) 1 7) 21 7 ((p1 >>> (0 &&& 31)) &&& 255)) 1 8) 21 8 ((p2 >>> (24 &&& 31)) &&& 255)) 1 9) 21 9 ((p2 >>> (16 &&& 31)) &&& 255)) 1 10) 21 10 ((p2 >>> (8 &&& 31)) &&& 255)) 1 11) 21 11 ((p2 >>> (0 &&& 31)) &&& 255)) 1 12) 21 12 ((p3 >>> (24 &&& 31)) &&& 255)) 1 13) 21 13 ((p3 >>> (16 &&& 31)) &&& 255)) 1 14) 21 14 ((p3 >>> (8 &&& 31)) &&& 255)) 1 15) 21 15 ((p3 >>> (0 &&& 31)) &&& 255)) 1 16) 21 16 ((p4 >>> (24 &&& 31)) &&& 255)) 1 17) 21 17 ((p4 >>> (16 &&& 31)) &&& 255)) 1 18) 21 18 ((p4 >>> (8 &&& 31)) &&& 255)) 1 19) 19 ((p4 >>> (0 &&& 31)) &&& 255)) ?_
  refine z_aload_n b dX12_feed_99 rfl rfl ?_
  refine z_dup b dX12_feed_100 rfl ?_
  refine z_get (q0 := 0) (k9 := 25) (v := .int 19) b (mw_0 cy a (su (si (su (si (su (si (su (si (su (si (su (si (su (si (su (si (su (si (su (si (su (si (su (si (su (si (su (si (su (si (su (si (su (si (su (si (su (si (su S 21 0 ((p0 >>> (24 &&& 31)) &&& 255)) 1 1) 21 1 ((p0 >>> (16 &&& 31)) &&& 255)) 1 2) 21 2 ((p0 >>> (8 &&& 31)) &&& 255)) 1 3) 21 3 ((p0 >>> (0 &&& 31)) &&& 255)) 1 4) 21 4 ((p1 >>> (24 &&& 31)) &&& 255)) 1 5) 21 5 ((p1 >>> (16 &&& 31)) &&& 255)) 1 6) 21 6 ((p1 >>> (8 &&& 31)) &&& 255)) 1 7) 21 7 ((p1 >>> (0 &&& 31)) &&& 255)) 1 8) 21 8 ((p2 >>> (24 &&& 31)) &&& 255)) 1 9) 21 9 ((p2 >>> (16 &&& 31)) &&& 255)) 1 10) 21 10 ((p2 >>> (8 &&& 31)) &&& 255)) 1 11) 21 11 ((p2 >>> (0 &&& 31)) &&& 255)) 1 12) 21 12 ((p3 >>> (24 &&& 31)) &&& 255)) 1 13) 21 13 ((p3 >>> (16 &&& 31)) &&& 255)) 1 14) 21 14 ((p3 >>> (8 &&& 31)) &&& 255)) 1 15) 21 15 ((p3 >>> (0 &&& 31)) &&& 255)) 1 16) 21 16 ((p4 >>> (24 &&& 31)) &&& 255)) 1 17) 21 17 ((p4 >>> (16 &&& 31)) &&& 255)) 1 18) 21 18 ((p4 >>> (8 &&& 31)) &&& 255)) 1 19) 21 19 ((p4 >>> (0 &&& 31)) &&& 255))) rfl in_X12 (by decide) wf_X12_182 rfl dX12_feed_101 ?_
  refine z_iconst (v := 1) b dX12_feed_104 (by decide) ?_
  refine z_iadd (v := 20) b dX12_feed_105 (by decide) ?_
  refine z_put (q0 := 0) (k9 := 25) tyX12 b (mw_0 cy a (su (si (su (si (su (si (su (si (su (si (su (si (su (si (su (si (su (si (su (si (su (si (su (si (su (si (su (si (su (si (su (si (su (si (su (si (su (si (su S 21 0 ((p0 >>> (24 &&& 31)) &&& 255)) 1 1) 21 1 ((p0 >>> (16 &&& 31)) &&& 255)) 1 2) 21 2 ((p0 >>> (8 &&& 31)) &&& 255)) 1 3) 21 3 ((p0 >>> (0 &&& 31)) &&& 255)) 1 4) 21 4 ((p1 >>> (24 &&& 31)) &&& 255)) 1 5) 21 5 ((p1 >>> (16 &&& 31)) &&& 255)) 1 6) 21 6 ((p1 >>> (8 &&& 31)) &&& 255)) 1 7) 21 7 ((p1 >>> (0 &&& 31)) &&& 255)) 1 8) 21 8 ((p2 >>> (24 &&& 31)) &&& 255)) 1 9) 21 9 ((p2 >>> (16 &&& 31)) &&& 255)) 1 10) 21 10 ((p2 >>> (8 &&& 31)) &&& 255)) 1 11) 21 11 ((p2 >>> (0 &&& 31)) &&& 255)) 1 12) 21 12 ((p3 >>> (24 &&& 31)) &&& 255)) 1 13) 21 13 ((p3 >>> (16 &&& 31)) &&& 255)) 1 14) 21 14 ((p3 >>> (8 &&& 31)) &&& 255)) 1 15) 21 15 ((p3 >>> (0 &&& 31)) &&& 255)) 1 16) 21 16 ((p4 >>> (24 &&& 31)) &&& 255)) 1 17) 21 17 ((p4 >>> (16 &&& 31)) &&& 255)) 1 18) 21 18 ((p4 >>> (8 &&& 31)) &&& 255)) 1 19) 21 19 ((p4 >>> (0 &&& 31)) &&& 255))) rfl in_X12 tyX12_ok nmX12 (by decide) wf_X12_182 rfl rfl rfl rfl (Nat.le_of_ble_eq_true rfl) dX12_feed_106 (mwp_0_25 cy a (su (si (su (si (su (si (su (si (su (si (su (si (su (si (su (si (su (si (su (si (su (si (su (si (su (si (su (si (su (si (su (si (su (si (su (si (su (si (su S 21 0 ((p0 >>> (24 &&& 31)) &&& 255)) 1 1) 21 1 ((p0 >>> (16 &&& 31)) &&& 255)) 1 2) 21 2 ((p0 >>> (8 &&& 31)) &&& 255)) 1 3) 21 3 ((p0 >>> (0 &&& 31)) &&& 255)) 1 4) 21 4 ((p1 >>> (24 &&& 31)) &&& 255)) 1 5) 21 5 ((p1 >>> (16 &&& 31)) &&& 255)) 1 6) 21 6 ((p1 >>> (8 &&& 31)) &&& 255)) 1 7) 21 7 ((p1 >>> (0 &&& 31)) &&& 255)) 1 8) 21 8 ((p2 >>> (24 &&& 31)) &&& 255)) 1 9) 21 9 ((p2 >>> (16 &&& 31)) &&& 255)) 1 10) 21 10 ((p2 >>> (8 &&& 31)) &&& 255)) 1 11) 21 11 ((p2 >>> (0 &&& 31)) &&& 255)) 1 12) 21 12 ((p3 >>> (24 &&& 31)) &&& 255)) 1 13) 21 13 ((p3 >>> (16 &&& 31)) &&& 255)) 1 14) 21 14 ((p3 >>> (8 &&& 31)) &&& 255)) 1 15) 21 15 ((p3 >>> (0 &&& 31)) &&& 255)) 1 16) 21 16 ((p4 >>> (24 &&& 31)) &&& 255)) 1 17) 21 17 ((p4 >>> (16 &&& 31)) &&& 255)) 1 18) 21 18 ((p4 >>> (8 &&& 31)) &&& 255)) 1 19) 21 19 ((p4 >>> (0 &&& 31)) &&& 255)) 20) ?_
  refine z_iinc (k9 := 1) (v := 20) (lv' := [(6, .int 20), (7, .int p4), (0, .ref (a 0)), (1, .int p0), (2, .int p1), (3, .int p2), (4, .int p3), (5, .int p4)]) b dX12_feed_109 rfl (by decide) (by decide) rfl ?_
  refine z_goto (tgt := 18) b dX12_feed_112 (by decide) ?_
  refine z_iload b dX12_feed_18 rfl ?_
  refine z_bipush (v := 20) b dX12_feed_20 (by decide) ?_
  refine z_icmp_ge_t (tgt := 115) b dX12_feed_22 (by decide) (by decide) ?_
  refine z_aload_n b dX12_feed_115 rfl rfl ?_
  refine z_get (q0 := 0) (k9 := 25) (v := .int 20) b (mw_0 cy a (si (su (si (su (si (su (si (su (si (su (si (su (si (su (si (su (si (su (si (su (si (su (si (su (si (su (si (su (si (su (si (su (si (su (si (su (si (su (si (su S 21 0 ((p0 >>> (24 &&& 31)) &&& 255)) 1 1) 21 1 ((p0 >>> (16 &&& 31)) &&& 255)) 1 2) 21 2 ((p0 >>> (8 &&& 31)) &&& 255)) 1 3) 21 3 ((p0 >>> (0 &&& 31)) &&& 255)) 1 4) 21 4 ((p1 >>> (24 &&& 31)) &&& 255)) 1 5) 21 5 ((p1 >>> (16 &&& 31)) &&& 255)) 1 6) 21 6 ((p1 >>> (8 &&& 31)) &&& 255)) 1 7) 21 7 ((p1 >>> (0 &&& 31)) &&& 255)) 1 8) 21 8 ((p2 >>> (24 &&& 31)) &&& 255)) 1 9) 21 9 ((p2 >>> (16 &&& 31)) &&& 255)) 1 10) 21 10 ((p2 >>> (8 &&& 31)) &&& 255)) 1 11) 21 11 ((p2 >>> (0 &&& 31)) &&& 255)) 1 12) 21 12 ((p3 >>> (24 &&& 31)) &&& 255)) 1 13) 21 13 ((p3 >>> (16 &&& 31)) &&& 255)) 1 14) 21 14 ((p3 >>> (8 &&& 31)) &&& 255)) 1 15) 21 15 ((p3 >>> (0 &&& 31)) &&& 255)) 1 16) 21 16 ((p4 >>> (24 &&& 31)) &&& 255)) 1 17) 21 17 ((p4 >>> (16 &&& 31)) &&& 255)) 1 18) 21 18 ((p4 >>> (8 &&& 31)) &&& 255)) 1 19) 21 19 ((p4 >>> (0 &&& 31)) &&& 255)) 1 20)) rfl in_X12 (by decide) wf_X12_182 rfl dX12_feed_116 ?_
  exact z_iret (u := (si (su (si (su (si (su (si (su (si (su (si (su (si (su (si (su (si (su (si (su (si (su (si (su (si (su (si (su (si (su (si (su (si (su (si (su (si (su (si (su S 21 0 ((p0 >>> (24 &&& 31)) &&& 255)) 1 1) 21 1 ((p0 >>> (16 &&& 31)) &&& 255)) 1 2) 21 2 ((p0 >>> (8 &&& 31)) &&& 255)) 1 3) 21 3 ((p0 >>> (0 &&& 31)) &&& 255)) 1 4) 21 4 ((p1 >>> (24 &&& 31)) &&& 255)) 1 5) 21 5 ((p1 >>> (16 &&& 31)) &&& 255)) 1 6) 21 6 ((p1 >>> (8 &&& 31)) &&& 255)) 1 7) 21 7 ((p1 >>> (0 &&& 31)) &&& 255)) 1 8) 21 8 ((p2 >>> (24 &&& 31)) &&& 255)) 1 9) 21 9 ((p2 >>> (16 &&& 31)) &&& 255)) 1 10) 21 10 ((p2 >>> (8 &&& 31)) &&& 255)) 1 11) 21 11 ((p2 >>> (0 &&& 31)) &&& 255)) 1 12) 21 12 ((p3 >>> (24 &&& 31)) &&& 255)) 1 13) 21 13 ((p3 >>> (16 &&& 31)) &&& 255)) 1 14) 21 14 ((p3 >>> (8 &&& 31)) &&& 255)) 1 15) 21 15 ((p3 >>> (0 &&& 31)) &&& 255)) 1 16) 21 16 ((p4 >>> (24 &&& 31)) &&& 255)) 1 17) 21 17 ((p4 >>> (16 &&& 31)) &&& 255)) 1 18) 21 18 ((p4 >>> (8 &&& 31)) &&& 255)) 1 19) 21 19 ((p4 >>> (0 &&& 31)) &&& 255)) 1 20)) b rfl dX12_feed_119 ⟨rfl, rfl⟩ rfl (by decide) (by decide)

set_option maxHeartbeats 4000000 in
set_option maxRecDepth 100000 in
theorem c_X11_isWithin_14 {l : Launch} {D : va_G} {cy : Nat → ClassId} {T0 tB tE : Nat} {a : Nat → Nat} {rw : Nat → Option Nat} (S : GS) (p0 : Int32)  (hr_p0 : (-2147483648) ≤ p0.toInt ∧ p0.toInt ≤ (-1)) : Ct l D cy T0 tB tE yX11_isWithin cX11_isWithin 2 (some .boolean) 0 0 0 0 (cw cy tE a rw S) [.int p0, .int 0] (QI D (U := GS) (fun r u => 0 = r ∧ S = u) (cw cy tE a rw)) := by
  refine Ct.ofZ RX11 "isWithin" [(0, .int p0), (1, .int 0)] rfl rfl rfl rfl (Nat.le_of_ble_eq_true rfl) ?_
  intro p e R s m args below meth c A b
  refine z_iload_n b dX11_isWithin_0 rfl rfl ?_
  refine y_if_lt (tgt := 13) (xl := p0.toInt) b rfl dX11_isWithin_1 (by decide) (fun c3328 => ?_) (fun c3328 => ?_)
  · refine z_iconst (v := 0) b dX11_isWithin_13 (by decide) ?_
    exact z_zret (u := S) b rfl (by decide) dX11_isWithin_14 ⟨rfl, rfl⟩ rfl (by decide) (by decide)
  · exfalso; omega

set_option maxHeartbeats 4000000 in
set_option maxRecDepth 100000 in
theorem c_X11_end {l : Launch} {D : va_G} {cy : Nat → ClassId} {T0 tB tE : Nat} {a : Nat → Nat} {rw : Nat → Option Nat} (S : GS) (p0 : Int32) (h_i_0 : fi S 0 = 0) (hr_p0 : (-2147483648) ≤ p0.toInt ∧ p0.toInt ≤ (-1)) : Ct l D cy T0 tB tE yX11_end cX11_end 2 (some .boolean) 1 21 0 0 (cw cy tE a rw S) [.ref (a 0), .int p0] (QI D (U := GS) (fun r u => 0 = r ∧ S = u) (cw cy tE a rw)) := by
  refine Ct.ofZ RX11 "end" [(0, .ref (a 0)), (1, .int p0)] rfl rfl rfl rfl (Nat.le_of_ble_eq_true rfl) ?_
  intro p e R s m args below meth c A b
  refine z_iload_n b dX11_end_0 rfl rfl ?_
  refine z_aload_n b dX11_end_1 rfl rfl ?_
  refine z_get (q0 := 0) (k9 := 1) (v := .int (fi S 0)) b (cw_0 cy tE a rw S) rfl in_X11 (by decide) wf_X11_13 rfl dX11_end_2 ?_
  refine z_eqi h_i_0 ?_
  refine z_calli b (z_runS (As := [.int p0, .int 0]) (st := []) b (c_X11_isWithin_14 S p0 ⟨by omega, by omega⟩) cf_X11_isWithin wm_X11_73 ws_X11_isWithin dX11_end_5 rfl (Nat.le_of_ble_eq_true rfl) ⟨by decide, by decide, by decide, by decide⟩) (fun r3330 u3331 h3329 => ?_)
  obtain ⟨rfl, rfl⟩ := h3329
  refine z_if_ne_f (tgt := 13) b dX11_end_8 (by decide) (by decide) ?_
  refine z_iconst (v := 0) b dX11_end_11 (by decide) ?_
  exact z_zret (u := S) b rfl (by decide) dX11_end_12 ⟨rfl, rfl⟩ rfl (by decide) (by decide)

set_option maxHeartbeats 4000000 in
set_option maxRecDepth 100000 in
theorem c_X12_isIn_19 {l : Launch} {D : va_G} {cy : Nat → ClassId} {T0 tB tE : Nat} {a : Nat → Nat} (S : GS) (p0 : Int32)  (hr_p0 : (-2147483648) ≤ p0.toInt ∧ p0.toInt ≤ (-1)) : Ct l D cy T0 tB tE yX12_isIn cX12_isIn 3 (some .boolean) 0 0 0 0 (mw cy a S) [.int p0, .int 0, .int 0] (QI D (U := GS) (fun r u => 0 = r ∧ S = u) (mw cy a)) := by
  refine Ct.ofZ RX12 "isIn" [(0, .int p0), (1, .int 0), (2, .int 0)] rfl rfl rfl rfl (Nat.le_of_ble_eq_true rfl) ?_
  intro p e R s m args below meth c A b
  refine z_iload_n b dX12_isIn_0 rfl rfl ?_
  refine z_iload_n b dX12_isIn_1 rfl rfl ?_
  refine y_icmp_lt (tgt := 14) (xl := p0.toInt) (yl := 0) b rfl (by decide) dX12_isIn_2 (by decide) (fun c3332 => ?_) (fun c3332 => ?_)
  · refine z_iconst (v := 0) b dX12_isIn_14 (by decide) ?_
    exact z_zret (u := S) b rfl (by decide) dX12_isIn_15 ⟨rfl, rfl⟩ rfl (by decide) (by decide)
  · exfalso; omega

set_option maxHeartbeats 4000000 in
set_option maxRecDepth 100000 in
theorem c_X12_end {l : Launch} {D : va_G} {cy : Nat → ClassId} {T0 tB tE : Nat} {a : Nat → Nat} (S : GS) (p0 : Int32) (h_i_1 : fi S 1 = 0) (hr_p0 : (-2147483648) ≤ p0.toInt ∧ p0.toInt ≤ (-1)) : Ct l D cy T0 tB tE yX12_end cX12_end 2 (some .boolean) 1 22 0 0 (mw cy a S) [.ref (a 0), .int p0] (QI D (U := GS) (fun r u => 0 = r ∧ S = u) (mw cy a)) := by
  refine Ct.ofZ RX12 "end" [(0, .ref (a 0)), (1, .int p0)] rfl rfl rfl rfl (Nat.le_of_ble_eq_true rfl) ?_
  intro p e R s m args below meth c A b
  refine z_iload_n b dX12_end_0 rfl rfl ?_
  refine z_iconst (v := 0) b dX12_end_1 (by decide) ?_
  refine z_aload_n b dX12_end_2 rfl rfl ?_
  refine z_get (q0 := 0) (k9 := 25) (v := .int (fi S 1)) b (mw_0 cy a S) rfl in_X12 (by decide) wf_X12_182 rfl dX12_end_3 ?_
  refine z_eqi h_i_1 ?_
  refine z_calli b (z_runS (As := [.int p0, .int 0, .int 0]) (st := []) b (c_X12_isIn_19 S p0 ⟨by omega, by omega⟩) cf_X12_isIn wm_X12_1 ws_X12_isIn dX12_end_6 rfl (Nat.le_of_ble_eq_true rfl) ⟨by decide, by decide, by decide, by decide⟩) (fun r3334 u3335 h3333 => ?_)
  obtain ⟨rfl, rfl⟩ := h3333
  refine z_if_ne_f (tgt := 14) b dX12_end_9 (by decide) (by decide) ?_
  refine z_iconst (v := 0) b dX12_end_12 (by decide) ?_
  exact z_zret (u := S) b rfl (by decide) dX12_end_13 ⟨rfl, rfl⟩ rfl (by decide) (by decide)

set_option maxHeartbeats 4000000 in
set_option maxRecDepth 100000 in
theorem c_X11_isWithin_15 {l : Launch} {D : va_G} {cy : Nat → ClassId} {T0 tB tE : Nat} {a : Nat → Nat} {rw : Nat → Option Nat} (S : GS)   : Ct l D cy T0 tB tE yX11_isWithin cX11_isWithin 2 (some .boolean) 0 0 0 0 (cw cy tE a rw S) [.int 0, .int 0] (QI D (U := GS) (fun r u => 1 = r ∧ S = u) (cw cy tE a rw)) := by
  refine Ct.ofZ RX11 "isWithin" [(0, .int 0), (1, .int 0)] rfl rfl rfl rfl (Nat.le_of_ble_eq_true rfl) ?_
  intro p e R s m args below meth c A b
  refine z_iload_n b dX11_isWithin_0 rfl rfl ?_
  refine z_if_lt_f (tgt := 13) b dX11_isWithin_1 (by decide) (by decide) ?_
  refine z_iload_n b dX11_isWithin_4 rfl rfl ?_
  refine z_iload_n b dX11_isWithin_5 rfl rfl ?_
  refine z_icmp_gt_f (tgt := 13) b dX11_isWithin_6 (by decide) (by decide) ?_
  refine z_iconst (v := 1) b dX11_isWithin_9 (by decide) ?_
  refine z_goto (tgt := 14) b dX11_isWithin_10 (by decide) ?_
  exact z_zret (u := S) b rfl (by decide) dX11_isWithin_14 ⟨rfl, rfl⟩ rfl (by decide) (by decide)

set_option maxHeartbeats 4000000 in
set_option maxRecDepth 100000 in
theorem c_X11_end_2 {l : Launch} {D : va_G} {cy : Nat → ClassId} {T0 tB tE : Nat} {a : Nat → Nat} {rw : Nat → Option Nat} (S : GS)  (h_i_0 : fi S 0 = 0) : Ct l D cy T0 tB tE yX11_end cX11_end 2 (some .boolean) 1 21 0 0 (cw cy tE a rw S) [.ref (a 0), .int 0] (QI D (U := GS) (fun r u => 1 = r ∧ S = u) (cw cy tE a rw)) := by
  refine Ct.ofZ RX11 "end" [(0, .ref (a 0)), (1, .int 0)] rfl rfl rfl rfl (Nat.le_of_ble_eq_true rfl) ?_
  intro p e R s m args below meth c A b
  refine z_iload_n b dX11_end_0 rfl rfl ?_
  refine z_aload_n b dX11_end_1 rfl rfl ?_
  refine z_get (q0 := 0) (k9 := 1) (v := .int (fi S 0)) b (cw_0 cy tE a rw S) rfl in_X11 (by decide) wf_X11_13 rfl dX11_end_2 ?_
  refine z_eqi h_i_0 ?_
  refine z_calli b (z_runS (As := [.int 0, .int 0]) (st := []) b (c_X11_isWithin_15 S ) cf_X11_isWithin wm_X11_73 ws_X11_isWithin dX11_end_5 rfl (Nat.le_of_ble_eq_true rfl) ⟨by decide, by decide, by decide, by decide⟩) (fun r3337 u3338 h3336 => ?_)
  obtain ⟨rfl, rfl⟩ := h3336
  refine z_if_ne_t (tgt := 13) b dX11_end_8 (by decide) (by decide) ?_
  refine z_aload_n b dX11_end_13 rfl rfl ?_
  refine z_iload_n b dX11_end_14 rfl rfl ?_
  refine z_put (q0 := 0) (k9 := 1) tyX11 b (cw_0 cy tE a rw S) rfl in_X11 tyX11_ok nmX11 (by decide) wf_X11_13 rfl rfl rfl rfl (Nat.le_of_ble_eq_true rfl) dX11_end_15 ((cwp_0_1 cy tE a rw S 0).trans (congrArg (cw cy tE a rw) (si_same h_i_0))) ?_
  refine z_iconst (v := 1) b dX11_end_18 (by decide) ?_
  exact z_zret (u := S) b rfl (by decide) dX11_end_19 ⟨rfl, rfl⟩ rfl (by decide) (by decide)

set_option maxHeartbeats 4000000 in
set_option maxRecDepth 100000 in
theorem c_X12_isIn_20 {l : Launch} {D : va_G} {cy : Nat → ClassId} {T0 tB tE : Nat} {a : Nat → Nat} (S : GS)   : Ct l D cy T0 tB tE yX12_isIn cX12_isIn 3 (some .boolean) 0 0 0 0 (mw cy a S) [.int 0, .int 0, .int 0] (QI D (U := GS) (fun r u => 1 = r ∧ S = u) (mw cy a)) := by
  refine Ct.ofZ RX12 "isIn" [(0, .int 0), (1, .int 0), (2, .int 0)] rfl rfl rfl rfl (Nat.le_of_ble_eq_true rfl) ?_
  intro p e R s m args below meth c A b
  refine z_iload_n b dX12_isIn_0 rfl rfl ?_
  refine z_iload_n b dX12_isIn_1 rfl rfl ?_
  refine z_icmp_lt_f (tgt := 14) b dX12_isIn_2 (by decide) (by decide) ?_
  refine z_iload_n b dX12_isIn_5 rfl rfl ?_
  refine z_iload_n b dX12_isIn_6 rfl rfl ?_
  refine z_icmp_gt_f (tgt := 14) b dX12_isIn_7 (by decide) (by decide) ?_
  refine z_iconst (v := 1) b dX12_isIn_10 (by decide) ?_
  refine z_goto (tgt := 15) b dX12_isIn_11 (by decide) ?_
  exact z_zret (u := S) b rfl (by decide) dX12_isIn_15 ⟨rfl, rfl⟩ rfl (by decide) (by decide)

set_option maxHeartbeats 4000000 in
set_option maxRecDepth 100000 in
theorem c_X12_end_2 {l : Launch} {D : va_G} {cy : Nat → ClassId} {T0 tB tE : Nat} {a : Nat → Nat} (S : GS)  (h_i_1 : fi S 1 = 0) : Ct l D cy T0 tB tE yX12_end cX12_end 2 (some .boolean) 1 22 0 0 (mw cy a S) [.ref (a 0), .int 0] (QI D (U := GS) (fun r u => 1 = r ∧ S = u) (mw cy a)) := by
  refine Ct.ofZ RX12 "end" [(0, .ref (a 0)), (1, .int 0)] rfl rfl rfl rfl (Nat.le_of_ble_eq_true rfl) ?_
  intro p e R s m args below meth c A b
  refine z_iload_n b dX12_end_0 rfl rfl ?_
  refine z_iconst (v := 0) b dX12_end_1 (by decide) ?_
  refine z_aload_n b dX12_end_2 rfl rfl ?_
  refine z_get (q0 := 0) (k9 := 25) (v := .int (fi S 1)) b (mw_0 cy a S) rfl in_X12 (by decide) wf_X12_182 rfl dX12_end_3 ?_
  refine z_eqi h_i_1 ?_
  refine z_calli b (z_runS (As := [.int 0, .int 0, .int 0]) (st := []) b (c_X12_isIn_20 S ) cf_X12_isIn wm_X12_1 ws_X12_isIn dX12_end_6 rfl (Nat.le_of_ble_eq_true rfl) ⟨by decide, by decide, by decide, by decide⟩) (fun r3340 u3341 h3339 => ?_)
  obtain ⟨rfl, rfl⟩ := h3339
  refine z_if_ne_t (tgt := 14) b dX12_end_9 (by decide) (by decide) ?_
  refine z_aload_n b dX12_end_14 rfl rfl ?_
  refine z_iload_n b dX12_end_15 rfl rfl ?_
  refine z_put (q0 := 0) (k9 := 25) tyX12 b (mw_0 cy a S) rfl in_X12 tyX12_ok nmX12 (by decide) wf_X12_182 rfl rfl rfl rfl (Nat.le_of_ble_eq_true rfl) dX12_end_16 ((mwp_0_25 cy a S 0).trans (congrArg (mw cy a) (si_same h_i_1))) ?_
  refine z_iconst (v := 1) b dX12_end_19 (by decide) ?_
  exact z_zret (u := S) b rfl (by decide) dX12_end_20 ⟨rfl, rfl⟩ rfl (by decide) (by decide)

set_option maxHeartbeats 4000000 in
set_option maxRecDepth 100000 in
theorem c_X11_isWithin_16 {l : Launch} {D : va_G} {cy : Nat → ClassId} {T0 tB tE : Nat} {a : Nat → Nat} {rw : Nat → Option Nat} (S : GS) (p0 : Int32)  (hr_p0 : 1 ≤ p0.toInt ∧ p0.toInt ≤ 2147483647) : Ct l D cy T0 tB tE yX11_isWithin cX11_isWithin 2 (some .boolean) 0 0 0 0 (cw cy tE a rw S) [.int p0, .int 0] (QI D (U := GS) (fun r u => 0 = r ∧ S = u) (cw cy tE a rw)) := by
  refine Ct.ofZ RX11 "isWithin" [(0, .int p0), (1, .int 0)] rfl rfl rfl rfl (Nat.le_of_ble_eq_true rfl) ?_
  intro p e R s m args below meth c A b
  refine z_iload_n b dX11_isWithin_0 rfl rfl ?_
  refine y_if_lt (tgt := 13) (xl := p0.toInt) b rfl dX11_isWithin_1 (by decide) (fun c3342 => ?_) (fun c3342 => ?_)
  · exfalso; omega
  · refine z_iload_n b dX11_isWithin_4 rfl rfl ?_
    refine z_iload_n b dX11_isWithin_5 rfl rfl ?_
    refine y_icmp_gt (tgt := 13) (xl := p0.toInt) (yl := 0) b rfl (by decide) dX11_isWithin_6 (by decide) (fun c3343 => ?_) (fun c3343 => ?_)
    · refine z_iconst (v := 0) b dX11_isWithin_13 (by decide) ?_
      exact z_zret (u := S) b rfl (by decide) dX11_isWithin_14 ⟨rfl, rfl⟩ rfl (by decide) (by decide)
    · exfalso; omega

set_option maxHeartbeats 4000000 in
set_option maxRecDepth 100000 in
theorem c_X11_end_3 {l : Launch} {D : va_G} {cy : Nat → ClassId} {T0 tB tE : Nat} {a : Nat → Nat} {rw : Nat → Option Nat} (S : GS) (p0 : Int32) (h_i_0 : fi S 0 = 0) (hr_p0 : 1 ≤ p0.toInt ∧ p0.toInt ≤ 2147483647) : Ct l D cy T0 tB tE yX11_end cX11_end 2 (some .boolean) 1 21 0 0 (cw cy tE a rw S) [.ref (a 0), .int p0] (QI D (U := GS) (fun r u => 0 = r ∧ S = u) (cw cy tE a rw)) := by
  refine Ct.ofZ RX11 "end" [(0, .ref (a 0)), (1, .int p0)] rfl rfl rfl rfl (Nat.le_of_ble_eq_true rfl) ?_
  intro p e R s m args below meth c A b
  refine z_iload_n b dX11_end_0 rfl rfl ?_
  refine z_aload_n b dX11_end_1 rfl rfl ?_
  refine z_get (q0 := 0) (k9 := 1) (v := .int (fi S 0)) b (cw_0 cy tE a rw S) rfl in_X11 (by decide) wf_X11_13 rfl dX11_end_2 ?_
  refine z_eqi h_i_0 ?_
  refine z_calli b (z_runS (As := [.int p0, .int 0]) (st := []) b (c_X11_isWithin_16 S p0 ⟨by omega, by omega⟩) cf_X11_isWithin wm_X11_73 ws_X11_isWithin dX11_end_5 rfl (Nat.le_of_ble_eq_true rfl) ⟨by decide, by decide, by decide, by decide⟩) (fun r3345 u3346 h3344 => ?_)
  obtain ⟨rfl, rfl⟩ := h3344
  refine z_if_ne_f (tgt := 13) b dX11_end_8 (by decide) (by decide) ?_
  refine z_iconst (v := 0) b dX11_end_11 (by decide) ?_
  exact z_zret (u := S) b rfl (by decide) dX11_end_12 ⟨rfl, rfl⟩ rfl (by decide) (by decide)

set_option maxHeartbeats 4000000 in
set_option maxRecDepth 100000 in
theorem c_X12_isIn_21 {l : Launch} {D : va_G} {cy : Nat → ClassId} {T0 tB tE : Nat} {a : Nat → Nat} (S : GS) (p0 : Int32)  (hr_p0 : 1 ≤ p0.toInt ∧ p0.toInt ≤ 2147483647) : Ct l D cy T0 tB tE yX12_isIn cX12_isIn 3 (some .boolean) 0 0 0 0 (mw cy a S) [.int p0, .int 0, .int 0] (QI D (U := GS) (fun r u => 0 = r ∧ S = u) (mw cy a)) := by
  refine Ct.ofZ RX12 "isIn" [(0, .int p0), (1, .int 0), (2, .int 0)] rfl rfl rfl rfl (Nat.le_of_ble_eq_true rfl) ?_
  intro p e R s m args below meth c A b
  refine z_iload_n b dX12_isIn_0 rfl rfl ?_
  refine z_iload_n b dX12_isIn_1 rfl rfl ?_
  refine y_icmp_lt (tgt := 14) (xl := p0.toInt) (yl := 0) b rfl (by decide) dX12_isIn_2 (by decide) (fun c3347 => ?_) (fun c3347 => ?_)
  · exfalso; omega
  · refine z_iload_n b dX12_isIn_5 rfl rfl ?_
    refine z_iload_n b dX12_isIn_6 rfl rfl ?_
    refine y_icmp_gt (tgt := 14) (xl := p0.toInt) (yl := 0) b rfl (by decide) dX12_isIn_7 (by decide) (fun c3348 => ?_) (fun c3348 => ?_)
    · refine z_iconst (v := 0) b dX12_isIn_14 (by decide) ?_
      exact z_zret (u := S) b rfl (by decide) dX12_isIn_15 ⟨rfl, rfl⟩ rfl (by decide) (by decide)
    · exfalso; omega

set_option maxHeartbeats 4000000 in
set_option maxRecDepth 100000 in
theorem c_X12_end_3 {l : Launch} {D : va_G} {cy : Nat → ClassId} {T0 tB tE : Nat} {a : Nat → Nat} (S : GS) (p0 : Int32) (h_i_1 : fi S 1 = 0) (hr_p0 : 1 ≤ p0.toInt ∧ p0.toInt ≤ 2147483647) : Ct l D cy T0 tB tE yX12_end cX12_end 2 (some .boolean) 1 22 0 0 (mw cy a S) [.ref (a 0), .int p0] (QI D (U := GS) (fun r u => 0 = r ∧ S = u) (mw cy a)) := by
  refine Ct.ofZ RX12 "end" [(0, .ref (a 0)), (1, .int p0)] rfl rfl rfl rfl (Nat.le_of_ble_eq_true rfl) ?_
  intro p e R s m args below meth c A b
  refine z_iload_n b dX12_end_0 rfl rfl ?_
  refine z_iconst (v := 0) b dX12_end_1 (by decide) ?_
  refine z_aload_n b dX12_end_2 rfl rfl ?_
  refine z_get (q0 := 0) (k9 := 25) (v := .int (fi S 1)) b (mw_0 cy a S) rfl in_X12 (by decide) wf_X12_182 rfl dX12_end_3 ?_
  refine z_eqi h_i_1 ?_
  refine z_calli b (z_runS (As := [.int p0, .int 0, .int 0]) (st := []) b (c_X12_isIn_21 S p0 ⟨by omega, by omega⟩) cf_X12_isIn wm_X12_1 ws_X12_isIn dX12_end_6 rfl (Nat.le_of_ble_eq_true rfl) ⟨by decide, by decide, by decide, by decide⟩) (fun r3350 u3351 h3349 => ?_)
  obtain ⟨rfl, rfl⟩ := h3349
  refine z_if_ne_f (tgt := 14) b dX12_end_9 (by decide) (by decide) ?_
  refine z_iconst (v := 0) b dX12_end_12 (by decide) ?_
  exact z_zret (u := S) b rfl (by decide) dX12_end_13 ⟨rfl, rfl⟩ rfl (by decide) (by decide)

set_option maxHeartbeats 4000000 in
set_option maxRecDepth 100000 in
theorem c_X10_add {l : Launch} {D : va_G} {cy : Nat → ClassId} {T0 tB tE : Nat} {a : Nat → Nat} {rw : Nat → Option Nat} (S : GS)  (h_i_7 : fi S 7 = 0) (h_a_1_0 : ar S 1 0 = 0) (h_a_2_0 : ar S 2 0 = 0) (h_A_1_0 : al S 1 0 = 0) : Ct l D cy T0 tB tE yX10_add cX10_add 5 none 0 0 0 0 (cw cy tE a rw S) [.ref (a 3), .int 0, .int 0, .long 0] (QV D (U := GS) (fun u => si S 7 1 = u) (cw cy tE a rw)) := by
  refine Ct.ofZ RX10 "add" [(0, .ref (a 3)), (1, .int 0), (2, .int 0), (3, .long 0)] rfl rfl rfl rfl (Nat.le_of_ble_eq_true rfl) ?_
  intro p e R s m args below meth c A b
  refine z_aload_n b dX10_add_0 rfl rfl ?_
  refine z_get (q0 := 3) (k9 := 4) (v := .int (fi S 7)) b (cw_3 cy tE a rw S) rfl in_X10 (by decide) wf_X10_25 rfl dX10_add_1 ?_
  refine z_eqi h_i_7 ?_
  refine z_aload_n b dX10_add_4 rfl rfl ?_
  refine z_get (q0 := 3) (k9 := 1) (v := .ref (a 5)) b (cw_3 cy tE a rw S) rfl in_X10 (by decide) wf_X10_15 rfl dX10_add_5 ?_
  refine z_alen (q0 := 5) (t0 := 0) (v := 701) b (cw_5 cy tE a rw S) rfl rfl dX10_add_8 ?_
  refine z_icmp_ge_f (tgt := 52) b dX10_add_9 (by decide) (by decide) ?_
  refine z_aload_n b dX10_add_12 rfl rfl ?_
  refine z_get (q0 := 3) (k9 := 1) (v := .ref (a 5)) b (cw_3 cy tE a rw S) rfl in_X10 (by decide) wf_X10_15 rfl dX10_add_13 ?_
  refine z_aload_n b dX10_add_16 rfl rfl ?_
  refine z_get (q0 := 3) (k9 := 4) (v := .int (fi S 7)) b (cw_3 cy tE a rw S) rfl in_X10 (by decide) wf_X10_25 rfl dX10_add_17 ?_
  refine z_eqi h_i_7 ?_
  refine z_iload_n b dX10_add_20 rfl rfl ?_
  refine y_iast (q0 := 5) (j := 0) b (cw_5 cy tE a rw S) (by decide) dX10_add_21 ((cwa_5 cy tE a rw S 0 0).trans (congrArg (cw cy tE a rw) (su_same h_a_1_0))) ?_
  refine z_aload_n b dX10_add_22 rfl rfl ?_
  refine z_get (q0 := 3) (k9 := 2) (v := .ref (a 6)) b (cw_3 cy tE a rw S) rfl in_X10 (by decide) wf_X10_19 rfl dX10_add_23 ?_
  refine z_aload_n b dX10_add_26 rfl rfl ?_
  refine z_get (q0 := 3) (k9 := 4) (v := .int (fi S 7)) b (cw_3 cy tE a rw S) rfl in_X10 (by decide) wf_X10_25 rfl dX10_add_27 ?_
  refine z_eqi h_i_7 ?_
  refine z_iload_n b dX10_add_30 rfl rfl ?_
  refine y_iast (q0 := 6) (j := 0) b (cw_6 cy tE a rw S) (by decide) dX10_add_31 ((cwa_6 cy tE a rw S 0 0).trans (congrArg (cw cy tE a rw) (su_same h_a_2_0))) ?_
  refine z_aload_n b dX10_add_32 rfl rfl ?_
  refine z_get (q0 := 3) (k9 := 3) (v := .ref (a 7)) b (cw_3 cy tE a rw S) rfl in_X10 (by decide) wf_X10_22 rfl dX10_add_33 ?_
  refine z_aload_n b dX10_add_36 rfl rfl ?_
  refine z_get (q0 := 3) (k9 := 4) (v := .int (fi S 7)) b (cw_3 cy tE a rw S) rfl in_X10 (by decide) wf_X10_25 rfl dX10_add_37 ?_
  refine z_eqi h_i_7 ?_
  refine z_lload_n b dX10_add_40 rfl rfl ?_
  refine y_last (q0 := 7) (j := 0) b (cw_7 cy tE a rw S) (by decide) dX10_add_41 ((cwa_7 cy tE a rw S 0 0).trans (congrArg (cw cy tE a rw) (sv_same h_A_1_0))) ?_
  refine z_aload_n b dX10_add_42 rfl rfl ?_
  refine z_dup b dX10_add_43 rfl ?_
  refine z_get (q0 := 3) (k9 := 4) (v := .int (fi S 7)) b (cw_3 cy tE a rw S) rfl in_X10 (by decide) wf_X10_25 rfl dX10_add_44 ?_
  refine z_eqi h_i_7 ?_
  refine z_iconst (v := 1) b dX10_add_47 (by decide) ?_
  refine z_iadd (v := 1) b dX10_add_48 (by decide) ?_
  refine z_put (q0 := 3) (k9 := 4) tyX10 b (cw_3 cy tE a rw S) rfl in_X10 tyX10_ok nmX10 (by decide) wf_X10_25 rfl rfl rfl rfl (Nat.le_of_ble_eq_true rfl) dX10_add_49 (cwp_3_4 cy tE a rw S 1) ?_
  exact z_vret (u := (si S 7 1)) b rfl dX10_add_52 rfl rfl (by decide) (by decide)

set_option maxHeartbeats 4000000 in
set_option maxRecDepth 100000 in
theorem c_X10_read {l : Launch} {D : va_G} {cy : Nat → ClassId} {T0 tB tE : Nat} {a : Nat → Nat} {rw : Nat → Option Nat} (S : GS)  (h_i_7 : fi S 7 = 0) (h_a_1_0 : ar S 1 0 = 0) (h_a_2_0 : ar S 2 0 = 0) (h_A_1_0 : al S 1 0 = 0) : Ct l D cy T0 tB tE yX10_read cX10_read 9 none 1 24 0 0 (cw cy tE a rw S) [.ref (a 3), .ref (a 1), .int 0] (QV D (U := GS) (fun u => si S 7 1 = u) (cw cy tE a rw)) := by
  refine Ct.ofZ RX10 "read" [(0, .ref (a 3)), (1, .ref (a 1)), (2, .int 0)] rfl rfl rfl rfl (Nat.le_of_ble_eq_true rfl) ?_
  intro p e R s m args below meth c A b
  refine z_aload_n b dX10_read_0 rfl rfl ?_
  refine z_iconst (v := 0) b dX10_read_1 (by decide) ?_
  refine z_put (q0 := 3) (k9 := 4) tyX10 b (cw_3 cy tE a rw S) rfl in_X10 tyX10_ok nmX10 (by decide) wf_X10_25 rfl rfl rfl rfl (Nat.le_of_ble_eq_true rfl) dX10_read_2 ((cwp_3_4 cy tE a rw S 0).trans (congrArg (cw cy tE a rw) (si_same h_i_7))) ?_
  refine z_iload_n b dX10_read_5 rfl rfl ?_
  refine z_aload_n b dX10_read_6 rfl rfl ?_
  refine z_alen (q0 := 1) (t0 := 0) (v := 700) b (cw_1 cy tE a rw S) rfl rfl dX10_read_7 ?_
  refine z_mmin (v := 0) b wL_X10_49 wLs_mmin wi_Math wLc_mmin dX10_read_8 (by decide) (Nat.le_of_ble_eq_true rfl) ⟨by decide, by decide⟩ (by decide) ?_
  refine z_istore_n (lv' := [(3, .int 0), (0, .ref (a 3)), (1, .ref (a 1)), (2, .int 0)]) b dX10_read_11 rfl (by decide) rfl ?_
  refine z_iconst (v := 0) b dX10_read_12 (by decide) ?_
  refine z_istore (lv' := [(4, .int 0), (3, .int 0), (0, .ref (a 3)), (1, .ref (a 1)), (2, .int 0)]) b dX10_read_13 (by decide) rfl ?_
  refine z_iconst (v := 0) b dX10_read_15 (by decide) ?_
  refine z_istore (lv' := [(5, .int 0), (4, .int 0), (3, .int 0), (0, .ref (a 3)), (1, .ref (a 1)), (2, .int 0)]) b dX10_read_16 (by decide) rfl ?_
  refine z_iload b dX10_read_18 rfl ?_
  refine z_iload_n b dX10_read_20 rfl rfl ?_
  refine z_icmp_ge_t (tgt := 139) b dX10_read_21 (by decide) (by decide) ?_
  refine z_aload_n b dX10_read_139 rfl rfl ?_
  refine z_iconst (v := 0) b dX10_read_140 (by decide) ?_
  refine z_iload_n b dX10_read_141 rfl rfl ?_
  refine z_lconst (v := 0) b dX10_read_142 (by decide) ?_
  refine z_callv b (z_runV (q0 := 3) (As := [.int 0, .int 0, .long 0]) (st := []) b (c_X10_add S h_i_7 h_a_1_0 h_a_2_0 h_A_1_0) cf_X10_add (cw_3 cy tE a rw S) rfl wm_X10_71 wi_X10_add ws_X10_add dX10_read_143 rfl (Nat.le_of_ble_eq_true rfl) ⟨by decide, by decide, by decide, by decide⟩) (fun u3354 h3352 => ?_)
  obtain rfl := h3352
  exact z_vret (u := (si S 7 1)) b rfl dX10_read_146 rfl rfl (by decide) (by decide)

set_option maxHeartbeats 4000000 in
set_option maxRecDepth 100000 in
theorem c_Jx4a65c_clear_da8c8 {l : Launch} {D : va_G} {cy : Nat → ClassId} {T0 tB tE : Nat} {a : Nat → Nat} {rw : Nat → Option Nat} (S : GS)  (h_i_8 : fi S 8 = 0) (h_i_9 : fi S 9 = 0) : Ct l D cy T0 tB tE yJx4a65c_clear_da8c8 cJx4a65c_clear_da8c8 4 none 0 0 0 0 (cw cy tE a rw S) [.ref (a 9)] (QV D (U := GS) (fun u => si S 8 1 = u) (cw cy tE a rw)) := by
  refine Ct.ofZ RJx4a65c "clear" [(0, .ref (a 9))] rfl rfl rfl rfl (Nat.le_of_ble_eq_true rfl) ?_
  intro p e R s m args below meth c A b
  refine z_aload_n b dJx4a65c_clear_da8c8_0 rfl rfl ?_
  refine z_dup b dJx4a65c_clear_da8c8_1 rfl ?_
  refine z_getS (q0 := 9) (k9 := 0) (v := .int (fi S 8)) b (cw_9 cy tE a rw S) rfl in_Jx4a65c (by decide) wf_Jx4a65c_63 wsf_mod rfl dJx4a65c_clear_da8c8_2 ?_
  refine z_eqi h_i_8 ?_
  refine z_iconst (v := 1) b dJx4a65c_clear_da8c8_5 (by decide) ?_
  refine z_iadd (v := 1) b dJx4a65c_clear_da8c8_6 (by decide) ?_
  refine z_putS (q0 := 9) (k9 := 0) tyJx4a65c b (cw_9 cy tE a rw S) rfl in_Jx4a65c tyJx4a65c_ok nmJx4a65c (by decide) wf_Jx4a65c_63 wsf_mod rfl rfl rfl rfl (Nat.le_of_ble_eq_true rfl) dJx4a65c_clear_da8c8_7 (cwp_9_0 cy tE a rw S 1) ?_
  refine z_aload_n b dJx4a65c_clear_da8c8_10 rfl rfl ?_
  refine z_get (q0 := 9) (k9 := 1) (v := .ref tE) b (cw_9 cy tE a rw (si S 8 1)) rfl in_Jx4a65c (by decide) wf_Jx4a65c_9 rfl dJx4a65c_clear_da8c8_11 ?_
  refine z_astore_n (lv' := [(1, .ref tE), (0, .ref (a 9))]) b dJx4a65c_clear_da8c8_14 rfl (by decide) rfl ?_
  refine z_aload_n b dJx4a65c_clear_da8c8_15 rfl rfl ?_
  refine z_get (q0 := 9) (k9 := 2) (v := .int (fi (si S 8 1) 9)) b (cw_9 cy tE a rw (si S 8 1)) rfl in_Jx4a65c (by decide) wf_Jx4a65c_48 rfl dJx4a65c_clear_da8c8_16 ?_
  refine z_eqi h_i_9 ?_
  refine z_istore_n (lv' := [(2, .int 0), (1, .ref tE), (0, .ref (a 9))]) b dJx4a65c_clear_da8c8_19 rfl (by decide) rfl ?_
  refine z_aload_n b dJx4a65c_clear_da8c8_20 rfl rfl ?_
  refine z_iconst (v := 0) b dJx4a65c_clear_da8c8_21 (by decide) ?_
  refine z_dup_x1 b dJx4a65c_clear_da8c8_22 rfl rfl ?_
  refine z_put (q0 := 9) (k9 := 2) tyJx4a65c b (cw_9 cy tE a rw (si S 8 1)) rfl in_Jx4a65c tyJx4a65c_ok nmJx4a65c (by decide) wf_Jx4a65c_48 rfl rfl rfl rfl (Nat.le_of_ble_eq_true rfl) dJx4a65c_clear_da8c8_23 ((cwp_9_2 cy tE a rw (si S 8 1) 0).trans (congrArg (cw cy tE a rw) (si_same h_i_9))) ?_
  refine z_istore_n (lv' := [(3, .int 0), (2, .int 0), (1, .ref tE), (0, .ref (a 9))]) b dJx4a65c_clear_da8c8_26 rfl (by decide) rfl ?_
  refine z_iload_n b dJx4a65c_clear_da8c8_27 rfl rfl ?_
  refine z_iload_n b dJx4a65c_clear_da8c8_28 rfl rfl ?_
  refine z_icmp_ge_t (tgt := 42) b dJx4a65c_clear_da8c8_29 (by decide) (by decide) ?_
  exact z_vret (u := (si S 8 1)) b rfl dJx4a65c_clear_da8c8_42 rfl rfl (by decide) (by decide)

set_option maxHeartbeats 4000000 in
set_option maxRecDepth 100000 in
theorem c_X5_open {l : Launch} {D : va_G} {cy : Nat → ClassId} {T0 tB tE : Nat} {a : Nat → Nat} {rw : Nat → Option Nat} (S : GS)  (h_i_7 : fi S 7 = 0) (h_a_1_0 : ar S 1 0 = 0) (h_a_2_0 : ar S 2 0 = 0) (h_A_1_0 : al S 1 0 = 0) (h_i_1 : fi S 1 = 0) (h_i_2 : fi S 2 = 0) (h_i_8 : fi S 8 = 0) (h_i_9 : fi S 9 = 0) (h_i_5 : fi S 5 = 0) (h_i_6 : fi S 6 = (-1)) : Ct l D cy T0 tB tE yX5_open cX5_open 3 none 2 52 0 0 (cw cy tE a rw S) [.ref (a 2), .ref (a 1), .int 0] (QV D (U := GS) (fun u => si (si S 7 1) 8 1 = u) (cw cy tE a rw)) := by
  refine Ct.ofZ RX5 "open" [(0, .ref (a 2)), (1, .ref (a 1)), (2, .int 0)] rfl rfl rfl rfl (Nat.le_of_ble_eq_true rfl) ?_
  intro p e R s m args below meth c A b
  refine z_aload_n b dX5_open_0 rfl rfl ?_
  refine z_get (q0 := 2) (k9 := 0) (v := .ref (a 3)) b (cw_2 cy tE a rw S) rfl in_X5 (by decide) wf_X5_12 rfl dX5_open_1 ?_
  refine z_aload_n b dX5_open_4 rfl rfl ?_
  refine z_iload_n b dX5_open_5 rfl rfl ?_
  refine z_callv b (z_runV (q0 := 3) (As := [.ref (a 1), .int 0]) (st := []) b (c_X10_read S h_i_7 h_a_1_0 h_a_2_0 h_A_1_0) cf_X10_read (cw_3 cy tE a rw S) rfl wm_X5_49 wi_X10_read ws_X10_read dX5_open_6 rfl (Nat.le_of_ble_eq_true rfl) ⟨by decide, by decide, by decide, by decide⟩) (fun u3357 h3355 => ?_)
  obtain rfl := h3355
  refine z_aload_n b dX5_open_9 rfl rfl ?_
  refine z_iconst (v := 0) b dX5_open_10 (by decide) ?_
  refine z_put (q0 := 2) (k9 := 1) tyX5 b (cw_2 cy tE a rw (si S 7 1)) rfl in_X5 tyX5_ok nmX5 (by decide) wf_X5_18 rfl rfl rfl rfl (Nat.le_of_ble_eq_true rfl) dX5_open_11 ((cwp_2_1 cy tE a rw (si S 7 1) 0).trans (congrArg (cw cy tE a rw) (si_same h_i_1))) ?_
  refine z_aload_n b dX5_open_14 rfl rfl ?_
  refine z_iconst (v := 0) b dX5_open_15 (by decide) ?_
  refine z_put (q0 := 2) (k9 := 3) tyX5 b (cw_2 cy tE a rw (si S 7 1)) rfl in_X5 tyX5_ok nmX5 (by decide) wf_X5_26 rfl rfl rfl rfl (Nat.le_of_ble_eq_true rfl) dX5_open_16 ((cwp_2_3 cy tE a rw (si S 7 1) 0).trans (congrArg (cw cy tE a rw) (si_same h_i_2))) ?_
  refine z_aload_n b dX5_open_19 rfl rfl ?_
  refine z_get (q0 := 2) (k9 := 6) (v := .ref (a 9)) b (cw_2 cy tE a rw (si S 7 1)) rfl in_X5 (by decide) wf_X5_39 rfl dX5_open_20 ?_
  refine z_callv b (z_runV (q0 := 9) (As := []) (st := []) b (c_Jx4a65c_clear_da8c8 (si S 7 1) h_i_8 h_i_9) cf_Jx4a65c_clear_da8c8 (cw_9 cy tE a rw (si S 7 1)) rfl wm_X5_53 wi_Jx4a65c_clear_da8c8 ws_Jx4a65c_clear_da8c8 dX5_open_23 rfl (Nat.le_of_ble_eq_true rfl) ⟨by decide, by decide, by decide, by decide⟩) (fun u3360 h3358 => ?_)
  obtain rfl := h3358
  refine z_aload_n b dX5_open_26 rfl rfl ?_
  refine z_iconst (v := 0) b dX5_open_27 (by decide) ?_
  refine z_put (q0 := 2) (k9 := 7) tyX5 b (cw_2 cy tE a rw (si (si S 7 1) 8 1)) rfl in_X5 tyX5_ok nmX5 (by decide) wf_X5_43 rfl rfl rfl rfl (Nat.le_of_ble_eq_true rfl) dX5_open_28 ((cwp_2_7 cy tE a rw (si (si S 7 1) 8 1) 0).trans (congrArg (cw cy tE a rw) (si_same h_i_5))) ?_
  refine z_aload_n b dX5_open_31 rfl rfl ?_
  refine z_iconst (v := (-1)) b dX5_open_32 (by decide) ?_
  refine z_put (q0 := 2) (k9 := 8) tyX5 b (cw_2 cy tE a rw (si (si S 7 1) 8 1)) rfl in_X5 tyX5_ok nmX5 (by decide) wf_X5_46 rfl rfl rfl rfl (Nat.le_of_ble_eq_true rfl) dX5_open_33 ((cwp_2_8 cy tE a rw (si (si S 7 1) 8 1) (-1)).trans (congrArg (cw cy tE a rw) (si_same h_i_6))) ?_
  exact z_vret (u := (si (si S 7 1) 8 1)) b rfl dX5_open_36 rfl rfl (by decide) (by decide)

set_option maxHeartbeats 4000000 in
set_option maxRecDepth 100000 in
theorem c_X11_takeTape {l : Launch} {D : va_G} {cy : Nat → ClassId} {T0 tB tE : Nat} {a : Nat → Nat} {rw : Nat → Option Nat} (S : GS)  (h_i_0 : fi S 0 = 0) (h_i_7 : fi S 7 = 0) (h_a_1_0 : ar S 1 0 = 0) (h_a_2_0 : ar S 2 0 = 0) (h_A_1_0 : al S 1 0 = 0) (h_i_1 : fi S 1 = 0) (h_i_2 : fi S 2 = 0) (h_i_8 : fi S 8 = 0) (h_i_9 : fi S 9 = 0) (h_i_5 : fi S 5 = 0) (h_i_6 : fi S 6 = (-1)) : Ct l D cy T0 tB tE yX11_takeTape cX11_takeTape 1 none 3 74 0 0 (cw cy tE a rw S) [.ref (a 0)] (QV D (U := GS) (fun u => si (si S 7 1) 8 1 = u) (cw cy tE a rw)) := by
  refine Ct.ofZ RX11 "takeTape" [(0, .ref (a 0))] rfl rfl rfl rfl (Nat.le_of_ble_eq_true rfl) ?_
  intro p e R s m args below meth c A b
  refine z_aload_n b dX11_takeTape_0 rfl rfl ?_
  refine z_get (q0 := 0) (k9 := 2) (v := .ref (a 2)) b (cw_0 cy tE a rw S) rfl in_X11 (by decide) wf_X11_20 rfl dX11_takeTape_1 ?_
  refine z_aload_n b dX11_takeTape_4 rfl rfl ?_
  refine z_get (q0 := 0) (k9 := 0) (v := .ref (a 1)) b (cw_0 cy tE a rw S) rfl in_X11 (by decide) wf_X11_9 rfl dX11_takeTape_5 ?_
  refine z_aload_n b dX11_takeTape_8 rfl rfl ?_
  refine z_get (q0 := 0) (k9 := 1) (v := .int (fi S 0)) b (cw_0 cy tE a rw S) rfl in_X11 (by decide) wf_X11_13 rfl dX11_takeTape_9 ?_
  refine z_eqi h_i_0 ?_
  refine z_callv b (z_runV (q0 := 2) (As := [.ref (a 1), .int 0]) (st := []) b (c_X5_open S h_i_7 h_a_1_0 h_a_2_0 h_A_1_0 h_i_1 h_i_2 h_i_8 h_i_9 h_i_5 h_i_6) cf_X5_open (cw_2 cy tE a rw S) rfl wm_X11_261 wi_X5_open ws_X5_open dX11_takeTape_12 rfl (Nat.le_of_ble_eq_true rfl) ⟨by decide, by decide, by decide, by decide⟩) (fun u3363 h3361 => ?_)
  obtain rfl := h3361
  refine z_aload_n b dX11_takeTape_15 rfl rfl ?_
  refine z_iconst (v := 0) b dX11_takeTape_16 (by decide) ?_
  refine z_put (q0 := 0) (k9 := 1) tyX11 b (cw_0 cy tE a rw (si (si S 7 1) 8 1)) rfl in_X11 tyX11_ok nmX11 (by decide) wf_X11_13 rfl rfl rfl rfl (Nat.le_of_ble_eq_true rfl) dX11_takeTape_17 ((cwp_0_1 cy tE a rw (si (si S 7 1) 8 1) 0).trans (congrArg (cw cy tE a rw) (si_same h_i_0))) ?_
  exact z_vret (u := (si (si S 7 1) 8 1)) b rfl dX11_takeTape_20 rfl rfl (by decide) (by decide)

set_option maxHeartbeats 4000000 in
set_option maxRecDepth 100000 in
theorem c_X11_statute {l : Launch} {D : va_G} {cy : Nat → ClassId} {T0 tB tE : Nat} {a : Nat → Nat} {rw : Nat → Option Nat} (S : GS) (p0 : Int32) (h_i_0 : fi S 0 = 0) (h_i_7 : fi S 7 = 0) (h_a_1_0 : ar S 1 0 = 0) (h_a_2_0 : ar S 2 0 = 0) (h_A_1_0 : al S 1 0 = 0) (h_i_1 : fi S 1 = 0) (h_i_2 : fi S 2 = 0) (h_i_8 : fi S 8 = 0) (h_i_9 : fi S 9 = 0) (h_i_5 : fi S 5 = 0) (h_i_6 : fi S 6 = (-1)) (hr_p0 : (-2147483648) ≤ p0.toInt ∧ p0.toInt ≤ (-1)) : Ct l D cy T0 tB tE yX11_statute cX11_statute 3 (some .int) 4 94 0 0 (cw cy tE a rw S) [.ref (a 0), .int p0] (QI D (U := GS) (fun r u => (-1) = r ∧ (si (si S 7 1) 8 1) = u) (cw cy tE a rw)) := by
  refine Ct.ofZ RX11 "statute" [(0, .ref (a 0)), (1, .int p0)] rfl rfl rfl rfl (Nat.le_of_ble_eq_true rfl) ?_
  intro p e R s m args below meth c A b
  refine z_aload_n b dX11_statute_0 rfl rfl ?_
  refine z_callv b (z_runV (q0 := 0) (As := []) (st := []) b (c_X11_takeTape S h_i_0 h_i_7 h_a_1_0 h_a_2_0 h_A_1_0 h_i_1 h_i_2 h_i_8 h_i_9 h_i_5 h_i_6) cf_X11_takeTape (cw_0 cy tE a rw S) rfl wm_X11_93 wi_X11_takeTape ws_X11_takeTape dX11_statute_1 rfl (Nat.le_of_ble_eq_true rfl) ⟨by decide, by decide, by decide, by decide⟩) (fun u3366 h3364 => ?_)
  obtain rfl := h3364
  refine z_iload_n b dX11_statute_4 rfl rfl ?_
  refine z_iconst (v := 1) b dX11_statute_5 (by decide) ?_
  refine z_calli b (z_runS (As := [.int p0, .int 1]) (st := []) b (c_X11_isWithin_10 (si (si S 7 1) 8 1) p0 ⟨by omega, by omega⟩) cf_X11_isWithin wm_X11_73 ws_X11_isWithin dX11_statute_6 rfl (Nat.le_of_ble_eq_true rfl) ⟨by decide, by decide, by decide, by decide⟩) (fun r3368 u3369 h3367 => ?_)
  obtain ⟨rfl, rfl⟩ := h3367
  refine z_if_ne_f (tgt := 14) b dX11_statute_9 (by decide) (by decide) ?_
  refine z_iconst (v := (-1)) b dX11_statute_12 (by decide) ?_
  exact z_iret (u := (si (si S 7 1) 8 1)) b rfl dX11_statute_13 ⟨rfl, rfl⟩ rfl (by decide) (by decide)

set_option maxHeartbeats 4000000 in
set_option maxRecDepth 100000 in
theorem c_X12_ends {l : Launch} {D : va_G} {cy : Nat → ClassId} {T0 tB tE : Nat} {a : Nat → Nat} (S : GS)  (h_i_1 : fi S 1 = 0) (h_i_6 : fi S 6 = 0) (h_i_8 : fi S 8 = 0) (h_i_13 : fi S 13 = (-1)) : Ct l D cy T0 tB tE yX12_ends cX12_ends 1 none 0 0 0 0 (mw cy a S) [.ref (a 0)] (QV D (U := GS) (fun u => S = u) (mw cy a)) := by
  refine Ct.ofZ RX12 "ends" [(0, .ref (a 0))] rfl rfl rfl rfl (Nat.le_of_ble_eq_true rfl) ?_
  intro p e R s m args below meth c A b
  refine z_aload_n b dX12_ends_0 rfl rfl ?_
  refine z_iconst (v := 0) b dX12_ends_1 (by decide) ?_
  refine z_put (q0 := 0) (k9 := 25) tyX12 b (mw_0 cy a S) rfl in_X12 tyX12_ok nmX12 (by decide) wf_X12_182 rfl rfl rfl rfl (Nat.le_of_ble_eq_true rfl) dX12_ends_2 ((mwp_0_25 cy a S 0).trans (congrArg (mw cy a) (si_same h_i_1))) ?_
  refine z_aload_n b dX12_ends_5 rfl rfl ?_
  refine z_aload_n b dX12_ends_6 rfl rfl ?_
  refine z_get (q0 := 0) (k9 := 30) (v := .int (fi S 6)) b (mw_0 cy a S) rfl in_X12 (by decide) wf_X12_257 rfl dX12_ends_7 ?_
  refine z_eqi h_i_6 ?_
  refine z_put (q0 := 0) (k9 := 32) tyX12 b (mw_0 cy a S) rfl in_X12 tyX12_ok nmX12 (by decide) wf_X12_333 rfl rfl rfl rfl (Nat.le_of_ble_eq_true rfl) dX12_ends_10 ((mwp_0_32 cy a S 0).trans (congrArg (mw cy a) (si_same h_i_8))) ?_
  refine z_aload_n b dX12_ends_13 rfl rfl ?_
  refine z_aload_n b dX12_ends_14 rfl rfl ?_
  refine z_get (q0 := 0) (k9 := 30) (v := .int (fi S 6)) b (mw_0 cy a S) rfl in_X12 (by decide) wf_X12_257 rfl dX12_ends_15 ?_
  refine z_eqi h_i_6 ?_
  refine z_if_ne_f (tgt := 25) b dX12_ends_18 (by decide) (by decide) ?_
  refine z_iconst (v := (-1)) b dX12_ends_21 (by decide) ?_
  refine z_goto (tgt := 29) b dX12_ends_22 (by decide) ?_
  refine z_put (q0 := 0) (k9 := 37) tyX12 b (mw_0 cy a S) rfl in_X12 tyX12_ok nmX12 (by decide) wf_X12_84 rfl rfl rfl rfl (Nat.le_of_ble_eq_true rfl) dX12_ends_29 ((mwp_0_37 cy a S (-1)).trans (congrArg (mw cy a) (si_same h_i_13))) ?_
  exact z_vret (u := S) b rfl dX12_ends_32 rfl rfl (by decide) (by decide)

set_option maxHeartbeats 4000000 in
set_option maxRecDepth 100000 in
theorem c_X12_statute {l : Launch} {D : va_G} {cy : Nat → ClassId} {T0 tB tE : Nat} {a : Nat → Nat} (S : GS) (p0 : Int32) (h_i_6 : fi S 6 = 0) (h_i_1 : fi S 1 = 0) (h_i_8 : fi S 8 = 0) (h_i_13 : fi S 13 = (-1)) (hr_p0 : (-2147483648) ≤ p0.toInt ∧ p0.toInt ≤ (-1)) : Ct l D cy T0 tB tE yX12_statute cX12_statute 4 (some .int) 1 22 0 0 (mw cy a S) [.ref (a 0), .int p0] (QI D (U := GS) (fun r u => (-1) = r ∧ S = u) (mw cy a)) := by
  refine Ct.ofZ RX12 "statute" [(0, .ref (a 0)), (1, .int p0)] rfl rfl rfl rfl (Nat.le_of_ble_eq_true rfl) ?_
  intro p e R s m args below meth c A b
  refine z_aload_n b dX12_statute_0 rfl rfl ?_
  refine z_iconst (v := 0) b dX12_statute_1 (by decide) ?_
  refine z_put (q0 := 0) (k9 := 30) tyX12 b (mw_0 cy a S) rfl in_X12 tyX12_ok nmX12 (by decide) wf_X12_257 rfl rfl rfl rfl (Nat.le_of_ble_eq_true rfl) dX12_statute_2 ((mwp_0_30 cy a S 0).trans (congrArg (mw cy a) (si_same h_i_6))) ?_
  refine z_iload_n b dX12_statute_5 rfl rfl ?_
  refine z_iconst (v := 0) b dX12_statute_6 (by decide) ?_
  refine z_iconst (v := 1) b dX12_statute_7 (by decide) ?_
  refine z_calli b (z_runS (As := [.int p0, .int 0, .int 1]) (st := []) b (c_X12_isIn_15 S p0 ⟨by omega, by omega⟩) cf_X12_isIn wm_X12_1 ws_X12_isIn dX12_statute_8 rfl (Nat.le_of_ble_eq_true rfl) ⟨by decide, by decide, by decide, by decide⟩) (fun r3371 u3372 h3370 => ?_)
  obtain ⟨rfl, rfl⟩ := h3370
  refine z_if_ne_f (tgt := 20) b dX12_statute_11 (by decide) (by decide) ?_
  refine z_aload_n b dX12_statute_14 rfl rfl ?_
  refine z_callv b (z_runV (q0 := 0) (As := []) (st := []) b (c_X12_ends S h_i_1 h_i_6 h_i_8 h_i_13) cf_X12_ends (mw_0 cy a S) rfl wm_X12_336 wi_X12_ends ws_X12_ends dX12_statute_15 rfl (Nat.le_of_ble_eq_true rfl) ⟨by decide, by decide, by decide, by decide⟩) (fun u3375 h3373 => ?_)
  obtain rfl := h3373
  refine z_iconst (v := (-1)) b dX12_statute_18 (by decide) ?_
  exact z_iret (u := S) b rfl dX12_statute_19 ⟨rfl, rfl⟩ rfl (by decide) (by decide)

set_option maxHeartbeats 4000000 in
set_option maxRecDepth 100000 in
theorem c_X5_kind {l : Launch} {D : va_G} {cy : Nat → ClassId} {T0 tB tE : Nat} {a : Nat → Nat} {rw : Nat → Option Nat} (S : GS)  (h_i_1 : fi S 1 = 0) (h_i_7 : fi S 7 = 1) (h_a_1_0 : ar S 1 0 = 0) : Ct l D cy T0 tB tE yX5_kind cX5_kind 1 (some .int) 0 0 0 0 (cw cy tE a rw S) [.ref (a 2)] (QI D (U := GS) (fun r u => 0 = r ∧ S = u) (cw cy tE a rw)) := by
  refine Ct.ofZ RX5 "kind" [(0, .ref (a 2))] rfl rfl rfl rfl (Nat.le_of_ble_eq_true rfl) ?_
  intro p e R s m args below meth c A b
  refine z_aload_n b dX5_kind_0 rfl rfl ?_
  refine z_get (q0 := 2) (k9 := 1) (v := .int (fi S 1)) b (cw_2 cy tE a rw S) rfl in_X5 (by decide) wf_X5_18 rfl dX5_kind_1 ?_
  refine z_eqi h_i_1 ?_
  refine z_aload_n b dX5_kind_4 rfl rfl ?_
  refine z_get (q0 := 2) (k9 := 0) (v := .ref (a 3)) b (cw_2 cy tE a rw S) rfl in_X5 (by decide) wf_X5_12 rfl dX5_kind_5 ?_
  refine z_get (q0 := 3) (k9 := 4) (v := .int (fi S 7)) b (cw_3 cy tE a rw S) rfl in_X10 (by decide) wf_X5_56 rfl dX5_kind_8 ?_
  refine z_eqi h_i_7 ?_
  refine z_icmp_ge_f (tgt := 29) b dX5_kind_11 (by decide) (by decide) ?_
  refine z_aload_n b dX5_kind_14 rfl rfl ?_
  refine z_get (q0 := 2) (k9 := 0) (v := .ref (a 3)) b (cw_2 cy tE a rw S) rfl in_X5 (by decide) wf_X5_12 rfl dX5_kind_15 ?_
  refine z_get (q0 := 3) (k9 := 1) (v := .ref (a 5)) b (cw_3 cy tE a rw S) rfl in_X10 (by decide) wf_X5_59 rfl dX5_kind_18 ?_
  refine z_aload_n b dX5_kind_21 rfl rfl ?_
  refine z_get (q0 := 2) (k9 := 1) (v := .int (fi S 1)) b (cw_2 cy tE a rw S) rfl in_X5 (by decide) wf_X5_18 rfl dX5_kind_22 ?_
  refine z_eqi h_i_1 ?_
  refine y_iald (q0 := 5) (j := 0) (v := (ar S 1 0)) b (cw_5 cy tE a rw S) (by decide) rfl dX5_kind_25 ?_
  refine z_eqi h_a_1_0 ?_
  refine z_goto (tgt := 30) b dX5_kind_26 (by decide) ?_
  exact z_iret (u := S) b rfl dX5_kind_30 ⟨rfl, rfl⟩ rfl (by decide) (by decide)

set_option maxHeartbeats 4000000 in
set_option maxRecDepth 100000 in
theorem c_X5_isAtEnd {l : Launch} {D : va_G} {cy : Nat → ClassId} {T0 tB tE : Nat} {a : Nat → Nat} {rw : Nat → Option Nat} (S : GS)  (h_i_1 : fi S 1 = 0) (h_i_7 : fi S 7 = 1) (h_a_1_0 : ar S 1 0 = 0) : Ct l D cy T0 tB tE yX5_isAtEnd cX5_isAtEnd 1 (some .boolean) 1 20 0 0 (cw cy tE a rw S) [.ref (a 2)] (QI D (U := GS) (fun r u => 1 = r ∧ S = u) (cw cy tE a rw)) := by
  refine Ct.ofZ RX5 "isAtEnd" [(0, .ref (a 2))] rfl rfl rfl rfl (Nat.le_of_ble_eq_true rfl) ?_
  intro p e R s m args below meth c A b
  refine z_aload_n b dX5_isAtEnd_0 rfl rfl ?_
  refine z_calli b (z_runV (q0 := 2) (As := []) (st := []) b (c_X5_kind S h_i_1 h_i_7 h_a_1_0) cf_X5_kind (cw_2 cy tE a rw S) rfl wm_X5_66 wi_X5_kind ws_X5_kind dX5_isAtEnd_1 rfl (Nat.le_of_ble_eq_true rfl) ⟨by decide, by decide, by decide, by decide⟩) (fun r3386 u3387 h3385 => ?_)
  obtain ⟨rfl, rfl⟩ := h3385
  refine z_if_eq_t (tgt := 15) b dX5_isAtEnd_4 (by decide) (by decide) ?_
  refine z_iconst (v := 1) b dX5_isAtEnd_15 (by decide) ?_
  refine z_goto (tgt := 20) b dX5_isAtEnd_16 (by decide) ?_
  exact z_zret (u := S) b rfl (by decide) dX5_isAtEnd_20 ⟨rfl, rfl⟩ rfl (by decide) (by decide)

set_option maxHeartbeats 4000000 in
set_option maxRecDepth 100000 in
theorem c_Jx4a65c_size_8abf5 {l : Launch} {D : va_G} {cy : Nat → ClassId} {T0 tB tE : Nat} {a : Nat → Nat} {rw : Nat → Option Nat} (S : GS)  (h_i_9 : fi S 9 = 0) : Ct l D cy T0 tB tE yJx4a65c_size_8abf5 cJx4a65c_size_8abf5 1 (some .int) 0 0 0 0 (cw cy tE a rw S) [.ref (a 9)] (QI D (U := GS) (fun r u => 0 = r ∧ S = u) (cw cy tE a rw)) := by
  refine Ct.ofZ RJx4a65c "size" [(0, .ref (a 9))] rfl rfl rfl rfl (Nat.le_of_ble_eq_true rfl) ?_
  intro p e R s m args below meth c A b
  refine z_aload_n b dJx4a65c_size_8abf5_0 rfl rfl ?_
  refine z_get (q0 := 9) (k9 := 2) (v := .int (fi S 9)) b (cw_9 cy tE a rw S) rfl in_Jx4a65c (by decide) wf_Jx4a65c_48 rfl dJx4a65c_size_8abf5_1 ?_
  refine z_eqi h_i_9 ?_
  exact z_iret (u := S) b rfl dJx4a65c_size_8abf5_4 ⟨rfl, rfl⟩ rfl (by decide) (by decide)

set_option maxHeartbeats 4000000 in
set_option maxRecDepth 100000 in
theorem ch_X4_enact_55 {p : Program} {l : Launch} {e : Env} {R : Room} {s : State} {m : MethodId} {args : Array Value} {below : List Frame} {meth : Method} {c : Code} {D : va_G} {cy : Nat → ClassId} {T0 tB tE : Nat} {A : Nat → Prop} {Q : State → Prop} {a : Nat → Nat} {rw : Nat → Option Nat} (S : GS)  (h_i_9 : fi S 9 = 0) (b : Bz p R s m args meth c D cy T0 tB tE A 5 cX4_enact RX4 none "enact" 1 20 0 0) (k : Z p l e R s m args below meth c D A 5 Q 0 0 (cw cy tE a rw S) [(4, .int 5), (3, .int 5), (0, .ref (a 10)), (1, .int 0), (2, .ref (a 9))] 16 []) : Z p l e R s m args below meth c D A 5 Q 0 0 (cw cy tE a rw S) [(0, .ref (a 10)), (1, .int 0), (2, .ref (a 9))] 0 [] := by
  refine z_iconst (v := 0) b dX4_enact_0 (by decide) ?_
  refine z_istore_n (lv' := [(3, .int 0), (0, .ref (a 10)), (1, .int 0), (2, .ref (a 9))]) b dX4_enact_1 rfl (by decide) rfl ?_
  refine z_iload_n b dX4_enact_2 rfl rfl ?_
  refine z_bipush (v := 6) b dX4_enact_3 (by decide) ?_
  refine z_icmp_ge_f (tgt := 64) b dX4_enact_5 (by decide) (by decide) ?_
  refine z_bipush (v := 6) b dX4_enact_8 (by decide) ?_
  refine z_iload_n b dX4_enact_10 rfl rfl ?_
  refine z_imul (v := 0) b dX4_enact_11 (by decide) ?_
  refine z_iload_n b dX4_enact_12 rfl rfl ?_
  refine z_iadd (v := 0) b dX4_enact_13 (by decide) ?_
  refine z_istore (lv' := [(4, .int 0), (3, .int 0), (0, .ref (a 10)), (1, .int 0), (2, .ref (a 9))]) b dX4_enact_14 (by decide) rfl ?_
  refine z_iload b dX4_enact_16 rfl ?_
  refine z_if_lt_f (tgt := 58) b dX4_enact_18 (by decide) (by decide) ?_
  refine z_iload b dX4_enact_21 rfl ?_
  refine z_aload_n b dX4_enact_23 rfl rfl ?_
  refine z_get (q0 := 10) (k9 := 0) (v := .ref (a 11)) b (cw_10 cy tE a rw S) rfl in_X4 (by decide) wf_X4_11 rfl dX4_enact_24 ?_
  refine z_alen (q0 := 11) (t0 := 3) (v := 12) b (cw_11 cy tE a rw S) rfl rfl dX4_enact_27 ?_
  refine z_icmp_ge_f (tgt := 58) b dX4_enact_28 (by decide) (by decide) ?_
  refine z_aload_n b dX4_enact_31 rfl rfl ?_
  refine z_get (q0 := 10) (k9 := 0) (v := .ref (a 11)) b (cw_10 cy tE a rw S) rfl in_X4 (by decide) wf_X4_11 rfl dX4_enact_32 ?_
  refine z_iload b dX4_enact_35 rfl ?_
  refine z_iload_n b dX4_enact_37 rfl rfl ?_
  refine z_aload_n b dX4_enact_38 rfl rfl ?_
  refine z_calli b (z_runV (q0 := 9) (As := []) (st := [.int 0, .int 0, .ref (a 11)]) b (c_Jx4a65c_size_8abf5 S h_i_9) cf_Jx4a65c_size_8abf5 (cw_9 cy tE a rw S) rfl wm_X4_27 wi_Jx4a65c_size_8abf5 ws_Jx4a65c_size_8abf5 dX4_enact_39 rfl (Nat.le_of_ble_eq_true rfl) ⟨by decide, by decide, by decide, by decide⟩) (fun r3392 u3393 h3391 => ?_)
  obtain ⟨rfl, rfl⟩ := h3391
  refine z_icmp_ge_t (tgt := 56) b dX4_enact_42 (by decide) (by decide) ?_
  refine z_null b dX4_enact_56 ?_
  refine y_aastN (q0 := 11) (t0 := 3) (j := 0) b (cw_11 cy tE a rw S) rfl (by decide) dX4_enact_57 (cwn_11 cy tE a rw S 0) ?_
  refine z_iinc (k9 := 1) (v := 1) (lv' := [(3, .int 1), (4, .int 0), (0, .ref (a 10)), (1, .int 0), (2, .ref (a 9))]) b dX4_enact_58 rfl (by decide) (by decide) rfl ?_
  refine z_goto (tgt := 2) b dX4_enact_61 (by decide) ?_
  refine z_iload_n b dX4_enact_2 rfl rfl ?_
  refine z_bipush (v := 6) b dX4_enact_3 (by decide) ?_
  refine z_icmp_ge_f (tgt := 64) b dX4_enact_5 (by decide) (by decide) ?_
  refine z_bipush (v := 6) b dX4_enact_8 (by decide) ?_
  refine z_iload_n b dX4_enact_10 rfl rfl ?_
  refine z_imul (v := 0) b dX4_enact_11 (by decide) ?_
  refine z_iload_n b dX4_enact_12 rfl rfl ?_
  refine z_iadd (v := 1) b dX4_enact_13 (by decide) ?_
  refine z_istore (lv' := [(4, .int 1), (3, .int 1), (0, .ref (a 10)), (1, .int 0), (2, .ref (a 9))]) b dX4_enact_14 (by decide) rfl ?_
  refine z_iload b dX4_enact_16 rfl ?_
  refine z_if_lt_f (tgt := 58) b dX4_enact_18 (by decide) (by decide) ?_
  refine z_iload b dX4_enact_21 rfl ?_
  refine z_aload_n b dX4_enact_23 rfl rfl ?_
  refine z_get (q0 := 10) (k9 := 0) (v := .ref (a 11)) b (cw_10 cy tE a rw S) rfl in_X4 (by decide) wf_X4_11 rfl dX4_enact_24 ?_
  refine z_alen (q0 := 11) (t0 := 3) (v := 12) b (cw_11 cy tE a rw S) rfl rfl dX4_enact_27 ?_
  refine z_icmp_ge_f (tgt := 58) b dX4_enact_28 (by decide) (by decide) ?_
  refine z_aload_n b dX4_enact_31 rfl rfl ?_
  refine z_get (q0 := 10) (k9 := 0) (v := .ref (a 11)) b (cw_10 cy tE a rw S) rfl in_X4 (by decide) wf_X4_11 rfl dX4_enact_32 ?_
  refine z_iload b dX4_enact_35 rfl ?_
  refine z_iload_n b dX4_enact_37 rfl rfl ?_
  refine z_aload_n b dX4_enact_38 rfl rfl ?_
  refine z_calli b (z_runV (q0 := 9) (As := []) (st := [.int 1, .int 1, .ref (a 11)]) b (c_Jx4a65c_size_8abf5 S h_i_9) cf_Jx4a65c_size_8abf5 (cw_9 cy tE a rw S) rfl wm_X4_27 wi_Jx4a65c_size_8abf5 ws_Jx4a65c_size_8abf5 dX4_enact_39 rfl (Nat.le_of_ble_eq_true rfl) ⟨by decide, by decide, by decide, by decide⟩) (fun r3395 u3396 h3394 => ?_)
  obtain ⟨rfl, rfl⟩ := h3394
  refine z_icmp_ge_t (tgt := 56) b dX4_enact_42 (by decide) (by decide) ?_
  refine z_null b dX4_enact_56 ?_
  refine y_aastN (q0 := 11) (t0 := 3) (j := 1) b (cw_11 cy tE a rw S) rfl (by decide) dX4_enact_57 (cwn_11 cy tE a rw S 1) ?_
  refine z_iinc (k9 := 1) (v := 2) (lv' := [(3, .int 2), (4, .int 1), (0, .ref (a 10)), (1, .int 0), (2, .ref (a 9))]) b dX4_enact_58 rfl (by decide) (by decide) rfl ?_
  refine z_goto (tgt := 2) b dX4_enact_61 (by decide) ?_
  refine z_iload_n b dX4_enact_2 rfl rfl ?_
  refine z_bipush (v := 6) b dX4_enact_3 (by decide) ?_
  refine z_icmp_ge_f (tgt := 64) b dX4_enact_5 (by decide) (by decide) ?_
  refine z_bipush (v := 6) b dX4_enact_8 (by decide) ?_
  refine z_iload_n b dX4_enact_10 rfl rfl ?_
  refine z_imul (v := 0) b dX4_enact_11 (by decide) ?_
  refine z_iload_n b dX4_enact_12 rfl rfl ?_
  refine z_iadd (v := 2) b dX4_enact_13 (by decide) ?_
  refine z_istore (lv' := [(4, .int 2), (3, .int 2), (0, .ref (a 10)), (1, .int 0), (2, .ref (a 9))]) b dX4_enact_14 (by decide) rfl ?_
  refine z_iload b dX4_enact_16 rfl ?_
  refine z_if_lt_f (tgt := 58) b dX4_enact_18 (by decide) (by decide) ?_
  refine z_iload b dX4_enact_21 rfl ?_
  refine z_aload_n b dX4_enact_23 rfl rfl ?_
  refine z_get (q0 := 10) (k9 := 0) (v := .ref (a 11)) b (cw_10 cy tE a rw S) rfl in_X4 (by decide) wf_X4_11 rfl dX4_enact_24 ?_
  refine z_alen (q0 := 11) (t0 := 3) (v := 12) b (cw_11 cy tE a rw S) rfl rfl dX4_enact_27 ?_
  refine z_icmp_ge_f (tgt := 58) b dX4_enact_28 (by decide) (by decide) ?_
  refine z_aload_n b dX4_enact_31 rfl rfl ?_
  refine z_get (q0 := 10) (k9 := 0) (v := .ref (a 11)) b (cw_10 cy tE a rw S) rfl in_X4 (by decide) wf_X4_11 rfl dX4_enact_32 ?_
  refine z_iload b dX4_enact_35 rfl ?_
  refine z_iload_n b dX4_enact_37 rfl rfl ?_
  refine z_aload_n b dX4_enact_38 rfl rfl ?_
  refine z_calli b (z_runV (q0 := 9) (As := []) (st := [.int 2, .int 2, .ref (a 11)]) b (c_Jx4a65c_size_8abf5 S h_i_9) cf_Jx4a65c_size_8abf5 (cw_9 cy tE a rw S) rfl wm_X4_27 wi_Jx4a65c_size_8abf5 ws_Jx4a65c_size_8abf5 dX4_enact_39 rfl (Nat.le_of_ble_eq_true rfl) ⟨by decide, by decide, by decide, by decide⟩) (fun r3398 u3399 h3397 => ?_)
  obtain ⟨rfl, rfl⟩ := h3397
  refine z_icmp_ge_t (tgt := 56) b dX4_enact_42 (by decide) (by decide) ?_
  refine z_null b dX4_enact_56 ?_
  refine y_aastN (q0 := 11) (t0 := 3) (j := 2) b (cw_11 cy tE a rw S) rfl (by decide) dX4_enact_57 (cwn_11 cy tE a rw S 2) ?_
  refine z_iinc (k9 := 1) (v := 3) (lv' := [(3, .int 3), (4, .int 2), (0, .ref (a 10)), (1, .int 0), (2, .ref (a 9))]) b dX4_enact_58 rfl (by decide) (by decide) rfl ?_
  refine z_goto (tgt := 2) b dX4_enact_61 (by decide) ?_
  refine z_iload_n b dX4_enact_2 rfl rfl ?_
  refine z_bipush (v := 6) b dX4_enact_3 (by decide) ?_
  refine z_icmp_ge_f (tgt := 64) b dX4_enact_5 (by decide) (by decide) ?_
  refine z_bipush (v := 6) b dX4_enact_8 (by decide) ?_
  refine z_iload_n b dX4_enact_10 rfl rfl ?_
  refine z_imul (v := 0) b dX4_enact_11 (by decide) ?_
  refine z_iload_n b dX4_enact_12 rfl rfl ?_
  refine z_iadd (v := 3) b dX4_enact_13 (by decide) ?_
  refine z_istore (lv' := [(4, .int 3), (3, .int 3), (0, .ref (a 10)), (1, .int 0), (2, .ref (a 9))]) b dX4_enact_14 (by decide) rfl ?_
  refine z_iload b dX4_enact_16 rfl ?_
  refine z_if_lt_f (tgt := 58) b dX4_enact_18 (by decide) (by decide) ?_
  refine z_iload b dX4_enact_21 rfl ?_
  refine z_aload_n b dX4_enact_23 rfl rfl ?_
  refine z_get (q0 := 10) (k9 := 0) (v := .ref (a 11)) b (cw_10 cy tE a rw S) rfl in_X4 (by decide) wf_X4_11 rfl dX4_enact_24 ?_
  refine z_alen (q0 := 11) (t0 := 3) (v := 12) b (cw_11 cy tE a rw S) rfl rfl dX4_enact_27 ?_
  refine z_icmp_ge_f (tgt := 58) b dX4_enact_28 (by decide) (by decide) ?_
  refine z_aload_n b dX4_enact_31 rfl rfl ?_
  refine z_get (q0 := 10) (k9 := 0) (v := .ref (a 11)) b (cw_10 cy tE a rw S) rfl in_X4 (by decide) wf_X4_11 rfl dX4_enact_32 ?_
  refine z_iload b dX4_enact_35 rfl ?_
  refine z_iload_n b dX4_enact_37 rfl rfl ?_
  refine z_aload_n b dX4_enact_38 rfl rfl ?_
  refine z_calli b (z_runV (q0 := 9) (As := []) (st := [.int 3, .int 3, .ref (a 11)]) b (c_Jx4a65c_size_8abf5 S h_i_9) cf_Jx4a65c_size_8abf5 (cw_9 cy tE a rw S) rfl wm_X4_27 wi_Jx4a65c_size_8abf5 ws_Jx4a65c_size_8abf5 dX4_enact_39 rfl (Nat.le_of_ble_eq_true rfl) ⟨by decide, by decide, by decide, by decide⟩) (fun r3401 u3402 h3400 => ?_)
  obtain ⟨rfl, rfl⟩ := h3400
  refine z_icmp_ge_t (tgt := 56) b dX4_enact_42 (by decide) (by decide) ?_
  refine z_null b dX4_enact_56 ?_
  refine y_aastN (q0 := 11) (t0 := 3) (j := 3) b (cw_11 cy tE a rw S) rfl (by decide) dX4_enact_57 (cwn_11 cy tE a rw S 3) ?_
  refine z_iinc (k9 := 1) (v := 4) (lv' := [(3, .int 4), (4, .int 3), (0, .ref (a 10)), (1, .int 0), (2, .ref (a 9))]) b dX4_enact_58 rfl (by decide) (by decide) rfl ?_
  refine z_goto (tgt := 2) b dX4_enact_61 (by decide) ?_
  refine z_iload_n b dX4_enact_2 rfl rfl ?_
  refine z_bipush (v := 6) b dX4_enact_3 (by decide) ?_
  refine z_icmp_ge_f (tgt := 64) b dX4_enact_5 (by decide) (by decide) ?_
  refine z_bipush (v := 6) b dX4_enact_8 (by decide) ?_
  refine z_iload_n b dX4_enact_10 rfl rfl ?_
  refine z_imul (v := 0) b dX4_enact_11 (by decide) ?_
  refine z_iload_n b dX4_enact_12 rfl rfl ?_
  refine z_iadd (v := 4) b dX4_enact_13 (by decide) ?_
  refine z_istore (lv' := [(4, .int 4), (3, .int 4), (0, .ref (a 10)), (1, .int 0), (2, .ref (a 9))]) b dX4_enact_14 (by decide) rfl ?_
  refine z_iload b dX4_enact_16 rfl ?_
  refine z_if_lt_f (tgt := 58) b dX4_enact_18 (by decide) (by decide) ?_
  refine z_iload b dX4_enact_21 rfl ?_
  refine z_aload_n b dX4_enact_23 rfl rfl ?_
  refine z_get (q0 := 10) (k9 := 0) (v := .ref (a 11)) b (cw_10 cy tE a rw S) rfl in_X4 (by decide) wf_X4_11 rfl dX4_enact_24 ?_
  refine z_alen (q0 := 11) (t0 := 3) (v := 12) b (cw_11 cy tE a rw S) rfl rfl dX4_enact_27 ?_
  refine z_icmp_ge_f (tgt := 58) b dX4_enact_28 (by decide) (by decide) ?_
  refine z_aload_n b dX4_enact_31 rfl rfl ?_
  refine z_get (q0 := 10) (k9 := 0) (v := .ref (a 11)) b (cw_10 cy tE a rw S) rfl in_X4 (by decide) wf_X4_11 rfl dX4_enact_32 ?_
  refine z_iload b dX4_enact_35 rfl ?_
  refine z_iload_n b dX4_enact_37 rfl rfl ?_
  refine z_aload_n b dX4_enact_38 rfl rfl ?_
  refine z_calli b (z_runV (q0 := 9) (As := []) (st := [.int 4, .int 4, .ref (a 11)]) b (c_Jx4a65c_size_8abf5 S h_i_9) cf_Jx4a65c_size_8abf5 (cw_9 cy tE a rw S) rfl wm_X4_27 wi_Jx4a65c_size_8abf5 ws_Jx4a65c_size_8abf5 dX4_enact_39 rfl (Nat.le_of_ble_eq_true rfl) ⟨by decide, by decide, by decide, by decide⟩) (fun r3404 u3405 h3403 => ?_)
  obtain ⟨rfl, rfl⟩ := h3403
  refine z_icmp_ge_t (tgt := 56) b dX4_enact_42 (by decide) (by decide) ?_
  refine z_null b dX4_enact_56 ?_
  refine y_aastN (q0 := 11) (t0 := 3) (j := 4) b (cw_11 cy tE a rw S) rfl (by decide) dX4_enact_57 (cwn_11 cy tE a rw S 4) ?_
  refine z_iinc (k9 := 1) (v := 5) (lv' := [(3, .int 5), (4, .int 4), (0, .ref (a 10)), (1, .int 0), (2, .ref (a 9))]) b dX4_enact_58 rfl (by decide) (by decide) rfl ?_
  refine z_goto (tgt := 2) b dX4_enact_61 (by decide) ?_
  refine z_iload_n b dX4_enact_2 rfl rfl ?_
  refine z_bipush (v := 6) b dX4_enact_3 (by decide) ?_
  refine z_icmp_ge_f (tgt := 64) b dX4_enact_5 (by decide) (by decide) ?_
  refine z_bipush (v := 6) b dX4_enact_8 (by decide) ?_
  refine z_iload_n b dX4_enact_10 rfl rfl ?_
  refine z_imul (v := 0) b dX4_enact_11 (by decide) ?_
  refine z_iload_n b dX4_enact_12 rfl rfl ?_
  refine z_iadd (v := 5) b dX4_enact_13 (by decide) ?_
  refine z_istore (lv' := [(4, .int 5), (3, .int 5), (0, .ref (a 10)), (1, .int 0), (2, .ref (a 9))]) b dX4_enact_14 (by decide) rfl ?_
  exact k

set_option maxHeartbeats 4000000 in
set_option maxRecDepth 100000 in
theorem c_X4_enact {l : Launch} {D : va_G} {cy : Nat → ClassId} {T0 tB tE : Nat} {a : Nat → Nat} {rw : Nat → Option Nat} (S : GS)  (h_i_9 : fi S 9 = 0) : Ct l D cy T0 tB tE yX4_enact cX4_enact 5 none 1 20 0 0 (cw cy tE a rw S) [.ref (a 10), .int 0, .ref (a 9)] (QV D (U := GS) (fun u => S = u) (cw cy tE a rw)) := by
  refine Ct.ofZ RX4 "enact" [(0, .ref (a 10)), (1, .int 0), (2, .ref (a 9))] rfl rfl rfl rfl (Nat.le_of_ble_eq_true rfl) ?_
  intro p e R s m args below meth c A b
  refine ch_X4_enact_55 S  h_i_9  b ?_
  refine z_iload b dX4_enact_16 rfl ?_
  refine z_if_lt_f (tgt := 58) b dX4_enact_18 (by decide) (by decide) ?_
  refine z_iload b dX4_enact_21 rfl ?_
  refine z_aload_n b dX4_enact_23 rfl rfl ?_
  refine z_get (q0 := 10) (k9 := 0) (v := .ref (a 11)) b (cw_10 cy tE a rw S) rfl in_X4 (by decide) wf_X4_11 rfl dX4_enact_24 ?_
  refine z_alen (q0 := 11) (t0 := 3) (v := 12) b (cw_11 cy tE a rw S) rfl rfl dX4_enact_27 ?_
  refine z_icmp_ge_f (tgt := 58) b dX4_enact_28 (by decide) (by decide) ?_
  refine z_aload_n b dX4_enact_31 rfl rfl ?_
  refine z_get (q0 := 10) (k9 := 0) (v := .ref (a 11)) b (cw_10 cy tE a rw S) rfl in_X4 (by decide) wf_X4_11 rfl dX4_enact_32 ?_
  refine z_iload b dX4_enact_35 rfl ?_
  refine z_iload_n b dX4_enact_37 rfl rfl ?_
  refine z_aload_n b dX4_enact_38 rfl rfl ?_
  refine z_calli b (z_runV (q0 := 9) (As := []) (st := [.int 5, .int 5, .ref (a 11)]) b (c_Jx4a65c_size_8abf5 S h_i_9) cf_Jx4a65c_size_8abf5 (cw_9 cy tE a rw S) rfl wm_X4_27 wi_Jx4a65c_size_8abf5 ws_Jx4a65c_size_8abf5 dX4_enact_39 rfl (Nat.le_of_ble_eq_true rfl) ⟨by decide, by decide, by decide, by decide⟩) (fun r3407 u3408 h3406 => ?_)
  obtain ⟨rfl, rfl⟩ := h3406
  refine z_icmp_ge_t (tgt := 56) b dX4_enact_42 (by decide) (by decide) ?_
  refine z_null b dX4_enact_56 ?_
  refine y_aastN (q0 := 11) (t0 := 3) (j := 5) b (cw_11 cy tE a rw S) rfl (by decide) dX4_enact_57 (cwn_11 cy tE a rw S 5) ?_
  refine z_iinc (k9 := 1) (v := 6) (lv' := [(3, .int 6), (4, .int 5), (0, .ref (a 10)), (1, .int 0), (2, .ref (a 9))]) b dX4_enact_58 rfl (by decide) (by decide) rfl ?_
  refine z_goto (tgt := 2) b dX4_enact_61 (by decide) ?_
  refine z_iload_n b dX4_enact_2 rfl rfl ?_
  refine z_bipush (v := 6) b dX4_enact_3 (by decide) ?_
  refine z_icmp_ge_t (tgt := 64) b dX4_enact_5 (by decide) (by decide) ?_
  exact z_vret (u := S) b rfl dX4_enact_64 rfl rfl (by decide) (by decide)

set_option maxHeartbeats 4000000 in
set_option maxRecDepth 100000 in
theorem c_X11_statute_2 {l : Launch} {D : va_G} {cy : Nat → ClassId} {T0 tB tE : Nat} {a : Nat → Nat} {rw : Nat → Option Nat} (S : GS)  (h_i_0 : fi S 0 = 0) (h_i_7 : fi S 7 = 0) (h_a_1_0 : ar S 1 0 = 0) (h_a_2_0 : ar S 2 0 = 0) (h_A_1_0 : al S 1 0 = 0) (h_i_1 : fi S 1 = 0) (h_i_2 : fi S 2 = 0) (h_i_8 : fi S 8 = 0) (h_i_9 : fi S 9 = 0) (h_i_5 : fi S 5 = 0) (h_i_6 : fi S 6 = (-1)) (h_i_24 : fi S 24 = 0) : Ct l D cy T0 tB tE yX11_statute cX11_statute 3 (some .int) 4 94 0 0 (cw cy tE a rw S) [.ref (a 0), .int 0] (QI D (U := GS) (fun r u => 0 = r ∧ (si (si S 7 1) 8 1) = u) (cw cy tE a rw)) := by
  refine Ct.ofZ RX11 "statute" [(0, .ref (a 0)), (1, .int 0)] rfl rfl rfl rfl (Nat.le_of_ble_eq_true rfl) ?_
  intro p e R s m args below meth c A b
  refine z_aload_n b dX11_statute_0 rfl rfl ?_
  refine z_callv b (z_runV (q0 := 0) (As := []) (st := []) b (c_X11_takeTape S h_i_0 h_i_7 h_a_1_0 h_a_2_0 h_A_1_0 h_i_1 h_i_2 h_i_8 h_i_9 h_i_5 h_i_6) cf_X11_takeTape (cw_0 cy tE a rw S) rfl wm_X11_93 wi_X11_takeTape ws_X11_takeTape dX11_statute_1 rfl (Nat.le_of_ble_eq_true rfl) ⟨by decide, by decide, by decide, by decide⟩) (fun u3378 h3376 => ?_)
  obtain rfl := h3376
  refine z_iload_n b dX11_statute_4 rfl rfl ?_
  refine z_iconst (v := 1) b dX11_statute_5 (by decide) ?_
  refine z_calli b (z_runS (As := [.int 0, .int 1]) (st := []) b (c_X11_isWithin_11 (si (si S 7 1) 8 1) ) cf_X11_isWithin wm_X11_73 ws_X11_isWithin dX11_statute_6 rfl (Nat.le_of_ble_eq_true rfl) ⟨by decide, by decide, by decide, by decide⟩) (fun r3380 u3381 h3379 => ?_)
  obtain ⟨rfl, rfl⟩ := h3379
  refine z_if_ne_t (tgt := 14) b dX11_statute_9 (by decide) (by decide) ?_
  refine z_iconst (v := 0) b dX11_statute_14 (by decide) ?_
  refine z_istore_n (lv' := [(2, .int 0), (0, .ref (a 0)), (1, .int 0)]) b dX11_statute_15 rfl (by decide) rfl ?_
  refine z_iload_n b dX11_statute_16 rfl rfl ?_
  refine z_bipush (v := 6) b dX11_statute_17 (by decide) ?_
  refine z_icmp_gt_f (tgt := 51) b dX11_statute_19 (by decide) (by decide) ?_
  refine z_aload_n b dX11_statute_22 rfl rfl ?_
  refine z_get (q0 := 0) (k9 := 2) (v := .ref (a 2)) b (cw_0 cy tE a rw (si (si S 7 1) 8 1)) rfl in_X11 (by decide) wf_X11_20 rfl dX11_statute_23 ?_
  refine z_calli b (z_runV (q0 := 2) (As := []) (st := []) b (c_X5_kind (si (si S 7 1) 8 1) h_i_1 rfl h_a_1_0) cf_X5_kind (cw_2 cy tE a rw (si (si S 7 1) 8 1)) rfl wm_X11_96 wi_X5_kind ws_X5_kind dX11_statute_26 rfl (Nat.le_of_ble_eq_true rfl) ⟨by decide, by decide, by decide, by decide⟩) (fun r3383 u3384 h3382 => ?_)
  obtain ⟨rfl, rfl⟩ := h3382
  refine z_iconst (v := 4) b dX11_statute_29 (by decide) ?_
  refine z_icmp_ne_t (tgt := 51) b dX11_statute_30 (by decide) (by decide) ?_
  refine z_aload_n b dX11_statute_51 rfl rfl ?_
  refine z_get (q0 := 0) (k9 := 2) (v := .ref (a 2)) b (cw_0 cy tE a rw (si (si S 7 1) 8 1)) rfl in_X11 (by decide) wf_X11_20 rfl dX11_statute_52 ?_
  refine z_calli b (z_runV (q0 := 2) (As := []) (st := []) b (c_X5_isAtEnd (si (si S 7 1) 8 1) h_i_1 rfl h_a_1_0) cf_X5_isAtEnd (cw_2 cy tE a rw (si (si S 7 1) 8 1)) rfl wm_X11_106 wi_X5_isAtEnd ws_X5_isAtEnd dX11_statute_55 rfl (Nat.le_of_ble_eq_true rfl) ⟨by decide, by decide, by decide, by decide⟩) (fun r3389 u3390 h3388 => ?_)
  obtain ⟨rfl, rfl⟩ := h3388
  refine z_if_ne_t (tgt := 63) b dX11_statute_58 (by decide) (by decide) ?_
  refine z_aload_n b dX11_statute_63 rfl rfl ?_
  refine z_get (q0 := 0) (k9 := 3) (v := .ref (a 10)) b (cw_0 cy tE a rw (si (si S 7 1) 8 1)) rfl in_X11 (by decide) wf_X11_27 rfl dX11_statute_64 ?_
  refine z_iload_n b dX11_statute_67 rfl rfl ?_
  refine z_aload_n b dX11_statute_68 rfl rfl ?_
  refine z_get (q0 := 0) (k9 := 2) (v := .ref (a 2)) b (cw_0 cy tE a rw (si (si S 7 1) 8 1)) rfl in_X11 (by decide) wf_X11_20 rfl dX11_statute_69 ?_
  refine z_get (q0 := 2) (k9 := 6) (v := .ref (a 9)) b (cw_2 cy tE a rw (si (si S 7 1) 8 1)) rfl in_X5 (by decide) wf_X11_109 rfl dX11_statute_72 ?_
  refine z_callv b (z_runV (q0 := 10) (As := [.int 0, .ref (a 9)]) (st := []) b (c_X4_enact (si (si S 7 1) 8 1) h_i_9) cf_X4_enact (cw_10 cy tE a rw (si (si S 7 1) 8 1)) rfl wm_X11_113 wi_X4_enact ws_X4_enact dX11_statute_75 rfl (Nat.le_of_ble_eq_true rfl) ⟨by decide, by decide, by decide, by decide⟩) (fun u3411 h3409 => ?_)
  obtain rfl := h3409
  refine z_aload_n b dX11_statute_78 rfl rfl ?_
  refine z_get (q0 := 0) (k9 := 6) (v := .ref (a 25)) b (cw_0 cy tE a rw (si (si S 7 1) 8 1)) rfl in_X11 (by decide) wf_X11_52 rfl dX11_statute_79 ?_
  refine z_callv b (z_runV (q0 := 25) (As := []) (st := []) b (c_X8_forget (si (si S 7 1) 8 1) h_i_24) cf_X8_forget (cw_25 cy tE a rw (si (si S 7 1) 8 1)) rfl wm_X11_81 wi_X8_forget ws_X8_forget dX11_statute_82 rfl (Nat.le_of_ble_eq_true rfl) ⟨by decide, by decide, by decide, by decide⟩) (fun u3414 h3412 => ?_)
  obtain rfl := h3412
  refine z_aload_n b dX11_statute_85 rfl rfl ?_
  refine z_get (q0 := 0) (k9 := 2) (v := .ref (a 2)) b (cw_0 cy tE a rw (si (si S 7 1) 8 1)) rfl in_X11 (by decide) wf_X11_20 rfl dX11_statute_86 ?_
  refine z_get (q0 := 2) (k9 := 6) (v := .ref (a 9)) b (cw_2 cy tE a rw (si (si S 7 1) 8 1)) rfl in_X5 (by decide) wf_X11_109 rfl dX11_statute_89 ?_
  refine z_calli b (z_runV (q0 := 9) (As := []) (st := []) b (c_Jx4a65c_size_8abf5 (si (si S 7 1) 8 1) h_i_9) cf_Jx4a65c_size_8abf5 (cw_9 cy tE a rw (si (si S 7 1) 8 1)) rfl wm_X11_117 wi_Jx4a65c_size_8abf5 ws_Jx4a65c_size_8abf5 dX11_statute_92 rfl (Nat.le_of_ble_eq_true rfl) ⟨by decide, by decide, by decide, by decide⟩) (fun r3416 u3417 h3415 => ?_)
  obtain ⟨rfl, rfl⟩ := h3415
  exact z_iret (u := (si (si S 7 1) 8 1)) b rfl dX11_statute_95 ⟨rfl, rfl⟩ rfl (by decide) (by decide)

set_option maxHeartbeats 4000000 in
set_option maxRecDepth 100000 in
theorem c_X12_see {l : Launch} {D : va_G} {cy : Nat → ClassId} {T0 tB tE : Nat} {a : Nat → Nat} (S : GS)  (h_i_1 : fi S 1 = 0) : Ct l D cy T0 tB tE yX12_see cX12_see 2 (some .int) 0 0 0 0 (mw cy a S) [.ref (a 0), .int 0] (QI D (U := GS) (fun r u => (-1) = r ∧ S = u) (mw cy a)) := by
  refine Ct.ofZ RX12 "see" [(0, .ref (a 0)), (1, .int 0)] rfl rfl rfl rfl (Nat.le_of_ble_eq_true rfl) ?_
  intro p e R s m args below meth c A b
  refine z_iload_n b dX12_see_0 rfl rfl ?_
  refine z_aload_n b dX12_see_1 rfl rfl ?_
  refine z_get (q0 := 0) (k9 := 25) (v := .int (fi S 1)) b (mw_0 cy a S) rfl in_X12 (by decide) wf_X12_182 rfl dX12_see_2 ?_
  refine z_eqi h_i_1 ?_
  refine z_icmp_ge_t (tgt := 17) b dX12_see_5 (by decide) (by decide) ?_
  refine z_iconst (v := (-1)) b dX12_see_17 (by decide) ?_
  exact z_iret (u := S) b rfl dX12_see_18 ⟨rfl, rfl⟩ rfl (by decide) (by decide)

set_option maxHeartbeats 4000000 in
set_option maxRecDepth 100000 in
theorem c_X12_next0 {l : Launch} {D : va_G} {cy : Nat → ClassId} {T0 tB tE : Nat} {a : Nat → Nat} (S : GS)  (h_i_2 : fi S 2 = 0) (h_i_1 : fi S 1 = 0) (h_i_4 : fi S 4 = 0) (h_i_3 : fi S 3 = 0) : Ct l D cy T0 tB tE yX12_next0 cX12_next0 3 none 1 21 0 0 (mw cy a S) [.ref (a 0)] (QV D (U := GS) (fun u => S = u) (mw cy a)) := by
  refine Ct.ofZ RX12 "next0" [(0, .ref (a 0))] rfl rfl rfl rfl (Nat.le_of_ble_eq_true rfl) ?_
  intro p e R s m args below meth c A b
  refine z_aload_n b dX12_next0_0 rfl rfl ?_
  refine z_aload_n b dX12_next0_1 rfl rfl ?_
  refine z_get (q0 := 0) (k9 := 26) (v := .int (fi S 2)) b (mw_0 cy a S) rfl in_X12 (by decide) wf_X12_185 rfl dX12_next0_2 ?_
  refine z_eqi h_i_2 ?_
  refine z_calli b (z_runV (q0 := 0) (As := [.int 0]) (st := []) b (c_X12_see S h_i_1) cf_X12_see (mw_0 cy a S) rfl wm_X12_238 wi_X12_see ws_X12_see dX12_next0_5 rfl (Nat.le_of_ble_eq_true rfl) ⟨by decide, by decide, by decide, by decide⟩) (fun r3422 u3423 h3421 => ?_)
  obtain ⟨rfl, rfl⟩ := h3421
  refine z_bipush (v := 32) b dX12_next0_8 (by decide) ?_
  refine z_icmp_eq_f (tgt := 26) b dX12_next0_10 (by decide) (by decide) ?_
  refine z_aload_n b dX12_next0_13 rfl rfl ?_
  refine z_aload_n b dX12_next0_14 rfl rfl ?_
  refine z_get (q0 := 0) (k9 := 26) (v := .int (fi S 2)) b (mw_0 cy a S) rfl in_X12 (by decide) wf_X12_185 rfl dX12_next0_15 ?_
  refine z_eqi h_i_2 ?_
  refine z_calli b (z_runV (q0 := 0) (As := [.int 0]) (st := []) b (c_X12_see S h_i_1) cf_X12_see (mw_0 cy a S) rfl wm_X12_238 wi_X12_see ws_X12_see dX12_next0_18 rfl (Nat.le_of_ble_eq_true rfl) ⟨by decide, by decide, by decide, by decide⟩) (fun r3425 u3426 h3424 => ?_)
  obtain ⟨rfl, rfl⟩ := h3424
  refine z_bipush (v := 10) b dX12_next0_21 (by decide) ?_
  refine z_icmp_ne_t (tgt := 39) b dX12_next0_23 (by decide) (by decide) ?_
  refine z_aload_n b dX12_next0_39 rfl rfl ?_
  refine z_aload_n b dX12_next0_40 rfl rfl ?_
  refine z_get (q0 := 0) (k9 := 26) (v := .int (fi S 2)) b (mw_0 cy a S) rfl in_X12 (by decide) wf_X12_185 rfl dX12_next0_41 ?_
  refine z_eqi h_i_2 ?_
  refine z_put (q0 := 0) (k9 := 28) tyX12 b (mw_0 cy a S) rfl in_X12 tyX12_ok nmX12 (by decide) wf_X12_188 rfl rfl rfl rfl (Nat.le_of_ble_eq_true rfl) dX12_next0_44 ((mwp_0_28 cy a S 0).trans (congrArg (mw cy a) (si_same h_i_4))) ?_
  refine z_aload_n b dX12_next0_47 rfl rfl ?_
  refine z_aload_n b dX12_next0_48 rfl rfl ?_
  refine z_get (q0 := 0) (k9 := 26) (v := .int (fi S 2)) b (mw_0 cy a S) rfl in_X12 (by decide) wf_X12_185 rfl dX12_next0_49 ?_
  refine z_eqi h_i_2 ?_
  refine z_calli b (z_runV (q0 := 0) (As := [.int 0]) (st := []) b (c_X12_see S h_i_1) cf_X12_see (mw_0 cy a S) rfl wm_X12_238 wi_X12_see ws_X12_see dX12_next0_52 rfl (Nat.le_of_ble_eq_true rfl) ⟨by decide, by decide, by decide, by decide⟩) (fun r3428 u3429 h3427 => ?_)
  obtain ⟨rfl, rfl⟩ := h3427
  refine z_istore_n (lv' := [(1, .int (-1)), (0, .ref (a 0))]) b dX12_next0_55 rfl (by decide) rfl ?_
  refine z_iload_n b dX12_next0_56 rfl rfl ?_
  refine z_iconst (v := (-1)) b dX12_next0_57 (by decide) ?_
  refine z_icmp_ne_f (tgt := 69) b dX12_next0_58 (by decide) (by decide) ?_
  refine z_aload_n b dX12_next0_61 rfl rfl ?_
  refine z_iconst (v := 0) b dX12_next0_62 (by decide) ?_
  refine z_put (q0 := 0) (k9 := 27) tyX12 b (mw_0 cy a S) rfl in_X12 tyX12_ok nmX12 (by decide) wf_X12_242 rfl rfl rfl rfl (Nat.le_of_ble_eq_true rfl) dX12_next0_63 ((mwp_0_27 cy a S 0).trans (congrArg (mw cy a) (si_same h_i_3))) ?_
  refine z_goto (tgt := 297) b dX12_next0_66 (by decide) ?_
  exact z_vret (u := S) b rfl dX12_next0_297 rfl rfl (by decide) (by decide)

set_option maxHeartbeats 4000000 in
set_option maxRecDepth 100000 in
theorem c_X12_begins {l : Launch} {D : va_G} {cy : Nat → ClassId} {T0 tB tE : Nat} {a : Nat → Nat} (S : GS)  (h_i_6 : fi S 6 = 0) (h_i_2 : fi S 2 = 0) (h_i_12 : fi S 12 = 0) (h_a_6_13 : ar S 6 13 = 0) (h_i_1 : fi S 1 = 0) (h_i_4 : fi S 4 = 0) (h_i_3 : fi S 3 = 0) : Ct l D cy T0 tB tE yX12_begins cX12_begins 1 none 2 43 0 0 (mw cy a S) [.ref (a 0)] (QV D (U := GS) (fun u => S = u) (mw cy a)) := by
  refine Ct.ofZ RX12 "begins" [(0, .ref (a 0))] rfl rfl rfl rfl (Nat.le_of_ble_eq_true rfl) ?_
  intro p e R s m args below meth c A b
  refine z_aload_n b dX12_begins_0 rfl rfl ?_
  refine z_iconst (v := 0) b dX12_begins_1 (by decide) ?_
  refine z_put (q0 := 0) (k9 := 30) tyX12 b (mw_0 cy a S) rfl in_X12 tyX12_ok nmX12 (by decide) wf_X12_257 rfl rfl rfl rfl (Nat.le_of_ble_eq_true rfl) dX12_begins_2 ((mwp_0_30 cy a S 0).trans (congrArg (mw cy a) (si_same h_i_6))) ?_
  refine z_aload_n b dX12_begins_5 rfl rfl ?_
  refine z_iconst (v := 0) b dX12_begins_6 (by decide) ?_
  refine z_put (q0 := 0) (k9 := 26) tyX12 b (mw_0 cy a S) rfl in_X12 tyX12_ok nmX12 (by decide) wf_X12_185 rfl rfl rfl rfl (Nat.le_of_ble_eq_true rfl) dX12_begins_7 ((mwp_0_26 cy a S 0).trans (congrArg (mw cy a) (si_same h_i_2))) ?_
  refine z_aload_n b dX12_begins_10 rfl rfl ?_
  refine z_iconst (v := 0) b dX12_begins_11 (by decide) ?_
  refine z_put (q0 := 0) (k9 := 36) tyX12 b (mw_0 cy a S) rfl in_X12 tyX12_ok nmX12 (by decide) wf_X12_321 rfl rfl rfl rfl (Nat.le_of_ble_eq_true rfl) dX12_begins_12 ((mwp_0_36 cy a S 0).trans (congrArg (mw cy a) (si_same h_i_12))) ?_
  refine z_aload_n b dX12_begins_15 rfl rfl ?_
  refine z_get (q0 := 0) (k9 := 8) (v := .ref (a 7)) b (mw_0 cy a S) rfl in_X12 (by decide) wf_X12_33 rfl dX12_begins_16 ?_
  refine z_bipush (v := 13) b dX12_begins_19 (by decide) ?_
  refine z_iconst (v := 0) b dX12_begins_21 (by decide) ?_
  refine y_iast (q0 := 7) (j := 13) b (mw_7 cy a S) (by decide) dX12_begins_22 ((mwa_7 cy a S 13 0).trans (congrArg (mw cy a) (su_same h_a_6_13))) ?_
  refine z_aload_n b dX12_begins_23 rfl rfl ?_
  refine z_callv b (z_runV (q0 := 0) (As := []) (st := []) b (c_X12_next0 S h_i_2 h_i_1 h_i_4 h_i_3) cf_X12_next0 (mw_0 cy a S) rfl wm_X12_266 wi_X12_next0 ws_X12_next0 dX12_begins_24 rfl (Nat.le_of_ble_eq_true rfl) ⟨by decide, by decide, by decide, by decide⟩) (fun u3432 h3430 => ?_)
  obtain rfl := h3430
  exact z_vret (u := S) b rfl dX12_begins_27 rfl rfl (by decide) (by decide)

set_option maxHeartbeats 4000000 in
set_option maxRecDepth 100000 in
theorem c_X12_keeps {l : Launch} {D : va_G} {cy : Nat → ClassId} {T0 tB tE : Nat} {a : Nat → Nat} (S : GS)  (h_a_6_13 : ar S 6 13 = 0) (h_a_6_0 : ar S 6 0 = 0) : Ct l D cy T0 tB tE yX12_keeps cX12_keeps 3 none 0 0 0 0 (mw cy a S) [.ref (a 0), .int 0] (QV D (U := GS) (fun u => S = u) (mw cy a)) := by
  refine Ct.ofZ RX12 "keeps" [(0, .ref (a 0)), (1, .int 0)] rfl rfl rfl rfl (Nat.le_of_ble_eq_true rfl) ?_
  intro p e R s m args below meth c A b
  refine z_aload_n b dX12_keeps_0 rfl rfl ?_
  refine z_get (q0 := 0) (k9 := 8) (v := .ref (a 7)) b (mw_0 cy a S) rfl in_X12 (by decide) wf_X12_33 rfl dX12_keeps_1 ?_
  refine z_iload_n b dX12_keeps_4 rfl rfl ?_
  refine z_aload_n b dX12_keeps_5 rfl rfl ?_
  refine z_get (q0 := 0) (k9 := 8) (v := .ref (a 7)) b (mw_0 cy a S) rfl in_X12 (by decide) wf_X12_33 rfl dX12_keeps_6 ?_
  refine z_bipush (v := 13) b dX12_keeps_9 (by decide) ?_
  refine y_iald (q0 := 7) (j := 13) (v := (ar S 6 13)) b (mw_7 cy a S) (by decide) rfl dX12_keeps_11 ?_
  refine z_eqi h_a_6_13 ?_
  refine y_iast (q0 := 7) (j := 0) b (mw_7 cy a S) (by decide) dX12_keeps_12 ((mwa_7 cy a S 0 0).trans (congrArg (mw cy a) (su_same h_a_6_0))) ?_
  refine z_iconst (v := 0) b dX12_keeps_13 (by decide) ?_
  refine z_istore_n (lv' := [(2, .int 0), (0, .ref (a 0)), (1, .int 0)]) b dX12_keeps_14 rfl (by decide) rfl ?_
  refine z_iload_n b dX12_keeps_15 rfl rfl ?_
  refine z_iconst (v := 2) b dX12_keeps_16 (by decide) ?_
  refine z_aload_n b dX12_keeps_17 rfl rfl ?_
  refine z_get (q0 := 0) (k9 := 8) (v := .ref (a 7)) b (mw_0 cy a S) rfl in_X12 (by decide) wf_X12_33 rfl dX12_keeps_18 ?_
  refine z_bipush (v := 13) b dX12_keeps_21 (by decide) ?_
  refine y_iald (q0 := 7) (j := 13) (v := (ar S 6 13)) b (mw_7 cy a S) (by decide) rfl dX12_keeps_23 ?_
  refine z_eqi h_a_6_13 ?_
  refine z_imul (v := 0) b dX12_keeps_24 (by decide) ?_
  refine z_icmp_ge_t (tgt := 56) b dX12_keeps_25 (by decide) (by decide) ?_
  exact z_vret (u := S) b rfl dX12_keeps_56 rfl rfl (by decide) (by decide)

set_option maxHeartbeats 4000000 in
set_option maxRecDepth 100000 in
theorem c_X12_statute_2 {l : Launch} {D : va_G} {cy : Nat → ClassId} {T0 tB tE : Nat} {a : Nat → Nat} (S : GS)  (h_i_6 : fi S 6 = 0) (h_i_2 : fi S 2 = 0) (h_i_12 : fi S 12 = 0) (h_a_6_13 : ar S 6 13 = 0) (h_i_1 : fi S 1 = 0) (h_i_4 : fi S 4 = 0) (h_i_3 : fi S 3 = 0) (h_i_8 : fi S 8 = 0) (h_i_13 : fi S 13 = (-1)) (h_a_6_0 : ar S 6 0 = 0) (h_a_7_0 : ar S 7 0 = 0) : Ct l D cy T0 tB tE yX12_statute cX12_statute 4 (some .int) 3 63 0 0 (mw cy a S) [.ref (a 0), .int 0] (QI D (U := GS) (fun r u => 0 = r ∧ S = u) (mw cy a)) := by
  refine Ct.ofZ RX12 "statute" [(0, .ref (a 0)), (1, .int 0)] rfl rfl rfl rfl (Nat.le_of_ble_eq_true rfl) ?_
  intro p e R s m args below meth c A b
  refine z_aload_n b dX12_statute_0 rfl rfl ?_
  refine z_iconst (v := 0) b dX12_statute_1 (by decide) ?_
  refine z_put (q0 := 0) (k9 := 30) tyX12 b (mw_0 cy a S) rfl in_X12 tyX12_ok nmX12 (by decide) wf_X12_257 rfl rfl rfl rfl (Nat.le_of_ble_eq_true rfl) dX12_statute_2 ((mwp_0_30 cy a S 0).trans (congrArg (mw cy a) (si_same h_i_6))) ?_
  refine z_iload_n b dX12_statute_5 rfl rfl ?_
  refine z_iconst (v := 0) b dX12_statute_6 (by decide) ?_
  refine z_iconst (v := 1) b dX12_statute_7 (by decide) ?_
  refine z_calli b (z_runS (As := [.int 0, .int 0, .int 1]) (st := []) b (c_X12_isIn_16 S ) cf_X12_isIn wm_X12_1 ws_X12_isIn dX12_statute_8 rfl (Nat.le_of_ble_eq_true rfl) ⟨by decide, by decide, by decide, by decide⟩) (fun r3419 u3420 h3418 => ?_)
  obtain ⟨rfl, rfl⟩ := h3418
  refine z_if_ne_t (tgt := 20) b dX12_statute_11 (by decide) (by decide) ?_
  refine z_aload_n b dX12_statute_20 rfl rfl ?_
  refine z_callv b (z_runV (q0 := 0) (As := []) (st := []) b (c_X12_begins S h_i_6 h_i_2 h_i_12 h_a_6_13 h_i_1 h_i_4 h_i_3) cf_X12_begins (mw_0 cy a S) rfl wm_X12_339 wi_X12_begins ws_X12_begins dX12_statute_21 rfl (Nat.le_of_ble_eq_true rfl) ⟨by decide, by decide, by decide, by decide⟩) (fun u3435 h3433 => ?_)
  obtain rfl := h3433
  refine z_iconst (v := 1) b dX12_statute_24 (by decide) ?_
  refine z_istore_n (lv' := [(2, .int 1), (0, .ref (a 0)), (1, .int 0)]) b dX12_statute_25 rfl (by decide) rfl ?_
  refine z_iload_n b dX12_statute_26 rfl rfl ?_
  refine z_if_eq_f (tgt := 45) b dX12_statute_27 (by decide) (by decide) ?_
  refine z_aload_n b dX12_statute_30 rfl rfl ?_
  refine z_get (q0 := 0) (k9 := 27) (v := .int (fi S 3)) b (mw_0 cy a S) rfl in_X12 (by decide) wf_X12_242 rfl dX12_statute_31 ?_
  refine z_eqi h_i_3 ?_
  refine z_if_eq_t (tgt := 45) b dX12_statute_34 (by decide) (by decide) ?_
  refine z_aload_n b dX12_statute_45 rfl rfl ?_
  refine z_callv b (z_runV (q0 := 0) (As := []) (st := []) b (c_X12_ends S h_i_1 h_i_6 h_i_8 h_i_13) cf_X12_ends (mw_0 cy a S) rfl wm_X12_336 wi_X12_ends ws_X12_ends dX12_statute_46 rfl (Nat.le_of_ble_eq_true rfl) ⟨by decide, by decide, by decide, by decide⟩) (fun u3438 h3436 => ?_)
  obtain rfl := h3436
  refine z_iload_n b dX12_statute_49 rfl rfl ?_
  refine z_if_ne_t (tgt := 55) b dX12_statute_50 (by decide) (by decide) ?_
  refine z_aload_n b dX12_statute_55 rfl rfl ?_
  refine z_iload_n b dX12_statute_56 rfl rfl ?_
  refine z_callv b (z_runV (q0 := 0) (As := [.int 0]) (st := []) b (c_X12_keeps S h_a_6_13 h_a_6_0) cf_X12_keeps (mw_0 cy a S) rfl wm_X12_345 wi_X12_keeps ws_X12_keeps dX12_statute_57 rfl (Nat.le_of_ble_eq_true rfl) ⟨by decide, by decide, by decide, by decide⟩) (fun u3441 h3439 => ?_)
  obtain rfl := h3439
  refine z_aload_n b dX12_statute_60 rfl rfl ?_
  refine z_get (q0 := 0) (k9 := 9) (v := .ref (a 8)) b (mw_0 cy a S) rfl in_X12 (by decide) wf_X12_36 rfl dX12_statute_61 ?_
  refine z_iload_n b dX12_statute_64 rfl rfl ?_
  refine z_aload_n b dX12_statute_65 rfl rfl ?_
  refine z_get (q0 := 0) (k9 := 36) (v := .int (fi S 12)) b (mw_0 cy a S) rfl in_X12 (by decide) wf_X12_321 rfl dX12_statute_66 ?_
  refine z_eqi h_i_12 ?_
  refine y_iast (q0 := 8) (j := 0) b (mw_8 cy a S) (by decide) dX12_statute_69 ((mwa_8 cy a S 0 0).trans (congrArg (mw cy a) (su_same h_a_7_0))) ?_
  refine z_iconst (v := 0) b dX12_statute_70 (by decide) ?_
  refine z_istore_n (lv' := [(3, .int 0), (2, .int 1), (0, .ref (a 0)), (1, .int 0)]) b dX12_statute_71 rfl (by decide) rfl ?_
  refine z_iload_n b dX12_statute_72 rfl rfl ?_
  refine z_aload_n b dX12_statute_73 rfl rfl ?_
  refine z_get (q0 := 0) (k9 := 36) (v := .int (fi S 12)) b (mw_0 cy a S) rfl in_X12 (by decide) wf_X12_321 rfl dX12_statute_74 ?_
  refine z_eqi h_i_12 ?_
  refine z_icmp_ge_t (tgt := 100) b dX12_statute_77 (by decide) (by decide) ?_
  refine z_aload_n b dX12_statute_100 rfl rfl ?_
  refine z_get (q0 := 0) (k9 := 36) (v := .int (fi S 12)) b (mw_0 cy a S) rfl in_X12 (by decide) wf_X12_321 rfl dX12_statute_101 ?_
  refine z_eqi h_i_12 ?_
  exact z_iret (u := S) b rfl dX12_statute_104 ⟨rfl, rfl⟩ rfl (by decide) (by decide)

set_option maxHeartbeats 4000000 in
set_option maxRecDepth 100000 in
theorem ch_X4_enact_56 {p : Program} {l : Launch} {e : Env} {R : Room} {s : State} {m : MethodId} {args : Array Value} {below : List Frame} {meth : Method} {c : Code} {D : va_G} {cy : Nat → ClassId} {T0 tB tE : Nat} {A : Nat → Prop} {Q : State → Prop} {a : Nat → Nat} {rw : Nat → Option Nat} (S : GS)  (h_i_9 : fi S 9 = 0) (b : Bz p R s m args meth c D cy T0 tB tE A 5 cX4_enact RX4 none "enact" 1 20 0 0) (k : Z p l e R s m args below meth c D A 5 Q 0 0 (cw cy tE a rw S) [(4, .int 11), (3, .int 5), (0, .ref (a 10)), (1, .int 1), (2, .ref (a 9))] 16 []) : Z p l e R s m args below meth c D A 5 Q 0 0 (cw cy tE a rw S) [(0, .ref (a 10)), (1, .int 1), (2, .ref (a 9))] 0 [] := by
  refine z_iconst (v := 0) b dX4_enact_0 (by decide) ?_
  refine z_istore_n (lv' := [(3, .int 0), (0, .ref (a 10)), (1, .int 1), (2, .ref (a 9))]) b dX4_enact_1 rfl (by decide) rfl ?_
  refine z_iload_n b dX4_enact_2 rfl rfl ?_
  refine z_bipush (v := 6) b dX4_enact_3 (by decide) ?_
  refine z_icmp_ge_f (tgt := 64) b dX4_enact_5 (by decide) (by decide) ?_
  refine z_bipush (v := 6) b dX4_enact_8 (by decide) ?_
  refine z_iload_n b dX4_enact_10 rfl rfl ?_
  refine z_imul (v := 6) b dX4_enact_11 (by decide) ?_
  refine z_iload_n b dX4_enact_12 rfl rfl ?_
  refine z_iadd (v := 6) b dX4_enact_13 (by decide) ?_
  refine z_istore (lv' := [(4, .int 6), (3, .int 0), (0, .ref (a 10)), (1, .int 1), (2, .ref (a 9))]) b dX4_enact_14 (by decide) rfl ?_
  refine z_iload b dX4_enact_16 rfl ?_
  refine z_if_lt_f (tgt := 58) b dX4_enact_18 (by decide) (by decide) ?_
  refine z_iload b dX4_enact_21 rfl ?_
  refine z_aload_n b dX4_enact_23 rfl rfl ?_
  refine z_get (q0 := 10) (k9 := 0) (v := .ref (a 11)) b (cw_10 cy tE a rw S) rfl in_X4 (by decide) wf_X4_11 rfl dX4_enact_24 ?_
  refine z_alen (q0 := 11) (t0 := 3) (v := 12) b (cw_11 cy tE a rw S) rfl rfl dX4_enact_27 ?_
  refine z_icmp_ge_f (tgt := 58) b dX4_enact_28 (by decide) (by decide) ?_
  refine z_aload_n b dX4_enact_31 rfl rfl ?_
  refine z_get (q0 := 10) (k9 := 0) (v := .ref (a 11)) b (cw_10 cy tE a rw S) rfl in_X4 (by decide) wf_X4_11 rfl dX4_enact_32 ?_
  refine z_iload b dX4_enact_35 rfl ?_
  refine z_iload_n b dX4_enact_37 rfl rfl ?_
  refine z_aload_n b dX4_enact_38 rfl rfl ?_
  refine z_calli b (z_runV (q0 := 9) (As := []) (st := [.int 0, .int 6, .ref (a 11)]) b (c_Jx4a65c_size_8abf5 S h_i_9) cf_Jx4a65c_size_8abf5 (cw_9 cy tE a rw S) rfl wm_X4_27 wi_Jx4a65c_size_8abf5 ws_Jx4a65c_size_8abf5 dX4_enact_39 rfl (Nat.le_of_ble_eq_true rfl) ⟨by decide, by decide, by decide, by decide⟩) (fun r3455 u3456 h3454 => ?_)
  obtain ⟨rfl, rfl⟩ := h3454
  refine z_icmp_ge_t (tgt := 56) b dX4_enact_42 (by decide) (by decide) ?_
  refine z_null b dX4_enact_56 ?_
  refine y_aastN (q0 := 11) (t0 := 3) (j := 6) b (cw_11 cy tE a rw S) rfl (by decide) dX4_enact_57 (cwn_11 cy tE a rw S 6) ?_
  refine z_iinc (k9 := 1) (v := 1) (lv' := [(3, .int 1), (4, .int 6), (0, .ref (a 10)), (1, .int 1), (2, .ref (a 9))]) b dX4_enact_58 rfl (by decide) (by decide) rfl ?_
  refine z_goto (tgt := 2) b dX4_enact_61 (by decide) ?_
  refine z_iload_n b dX4_enact_2 rfl rfl ?_
  refine z_bipush (v := 6) b dX4_enact_3 (by decide) ?_
  refine z_icmp_ge_f (tgt := 64) b dX4_enact_5 (by decide) (by decide) ?_
  refine z_bipush (v := 6) b dX4_enact_8 (by decide) ?_
  refine z_iload_n b dX4_enact_10 rfl rfl ?_
  refine z_imul (v := 6) b dX4_enact_11 (by decide) ?_
  refine z_iload_n b dX4_enact_12 rfl rfl ?_
  refine z_iadd (v := 7) b dX4_enact_13 (by decide) ?_
  refine z_istore (lv' := [(4, .int 7), (3, .int 1), (0, .ref (a 10)), (1, .int 1), (2, .ref (a 9))]) b dX4_enact_14 (by decide) rfl ?_
  refine z_iload b dX4_enact_16 rfl ?_
  refine z_if_lt_f (tgt := 58) b dX4_enact_18 (by decide) (by decide) ?_
  refine z_iload b dX4_enact_21 rfl ?_
  refine z_aload_n b dX4_enact_23 rfl rfl ?_
  refine z_get (q0 := 10) (k9 := 0) (v := .ref (a 11)) b (cw_10 cy tE a rw S) rfl in_X4 (by decide) wf_X4_11 rfl dX4_enact_24 ?_
  refine z_alen (q0 := 11) (t0 := 3) (v := 12) b (cw_11 cy tE a rw S) rfl rfl dX4_enact_27 ?_
  refine z_icmp_ge_f (tgt := 58) b dX4_enact_28 (by decide) (by decide) ?_
  refine z_aload_n b dX4_enact_31 rfl rfl ?_
  refine z_get (q0 := 10) (k9 := 0) (v := .ref (a 11)) b (cw_10 cy tE a rw S) rfl in_X4 (by decide) wf_X4_11 rfl dX4_enact_32 ?_
  refine z_iload b dX4_enact_35 rfl ?_
  refine z_iload_n b dX4_enact_37 rfl rfl ?_
  refine z_aload_n b dX4_enact_38 rfl rfl ?_
  refine z_calli b (z_runV (q0 := 9) (As := []) (st := [.int 1, .int 7, .ref (a 11)]) b (c_Jx4a65c_size_8abf5 S h_i_9) cf_Jx4a65c_size_8abf5 (cw_9 cy tE a rw S) rfl wm_X4_27 wi_Jx4a65c_size_8abf5 ws_Jx4a65c_size_8abf5 dX4_enact_39 rfl (Nat.le_of_ble_eq_true rfl) ⟨by decide, by decide, by decide, by decide⟩) (fun r3458 u3459 h3457 => ?_)
  obtain ⟨rfl, rfl⟩ := h3457
  refine z_icmp_ge_t (tgt := 56) b dX4_enact_42 (by decide) (by decide) ?_
  refine z_null b dX4_enact_56 ?_
  refine y_aastN (q0 := 11) (t0 := 3) (j := 7) b (cw_11 cy tE a rw S) rfl (by decide) dX4_enact_57 (cwn_11 cy tE a rw S 7) ?_
  refine z_iinc (k9 := 1) (v := 2) (lv' := [(3, .int 2), (4, .int 7), (0, .ref (a 10)), (1, .int 1), (2, .ref (a 9))]) b dX4_enact_58 rfl (by decide) (by decide) rfl ?_
  refine z_goto (tgt := 2) b dX4_enact_61 (by decide) ?_
  refine z_iload_n b dX4_enact_2 rfl rfl ?_
  refine z_bipush (v := 6) b dX4_enact_3 (by decide) ?_
  refine z_icmp_ge_f (tgt := 64) b dX4_enact_5 (by decide) (by decide) ?_
  refine z_bipush (v := 6) b dX4_enact_8 (by decide) ?_
  refine z_iload_n b dX4_enact_10 rfl rfl ?_
  refine z_imul (v := 6) b dX4_enact_11 (by decide) ?_
  refine z_iload_n b dX4_enact_12 rfl rfl ?_
  refine z_iadd (v := 8) b dX4_enact_13 (by decide) ?_
  refine z_istore (lv' := [(4, .int 8), (3, .int 2), (0, .ref (a 10)), (1, .int 1), (2, .ref (a 9))]) b dX4_enact_14 (by decide) rfl ?_
  refine z_iload b dX4_enact_16 rfl ?_
  refine z_if_lt_f (tgt := 58) b dX4_enact_18 (by decide) (by decide) ?_
  refine z_iload b dX4_enact_21 rfl ?_
  refine z_aload_n b dX4_enact_23 rfl rfl ?_
  refine z_get (q0 := 10) (k9 := 0) (v := .ref (a 11)) b (cw_10 cy tE a rw S) rfl in_X4 (by decide) wf_X4_11 rfl dX4_enact_24 ?_
  refine z_alen (q0 := 11) (t0 := 3) (v := 12) b (cw_11 cy tE a rw S) rfl rfl dX4_enact_27 ?_
  refine z_icmp_ge_f (tgt := 58) b dX4_enact_28 (by decide) (by decide) ?_
  refine z_aload_n b dX4_enact_31 rfl rfl ?_
  refine z_get (q0 := 10) (k9 := 0) (v := .ref (a 11)) b (cw_10 cy tE a rw S) rfl in_X4 (by decide) wf_X4_11 rfl dX4_enact_32 ?_
  refine z_iload b dX4_enact_35 rfl ?_
  refine z_iload_n b dX4_enact_37 rfl rfl ?_
  refine z_aload_n b dX4_enact_38 rfl rfl ?_
  refine z_calli b (z_runV (q0 := 9) (As := []) (st := [.int 2, .int 8, .ref (a 11)]) b (c_Jx4a65c_size_8abf5 S h_i_9) cf_Jx4a65c_size_8abf5 (cw_9 cy tE a rw S) rfl wm_X4_27 wi_Jx4a65c_size_8abf5 ws_Jx4a65c_size_8abf5 dX4_enact_39 rfl (Nat.le_of_ble_eq_true rfl) ⟨by decide, by decide, by decide, by decide⟩) (fun r3461 u3462 h3460 => ?_)
  obtain ⟨rfl, rfl⟩ := h3460
  refine z_icmp_ge_t (tgt := 56) b dX4_enact_42 (by decide) (by decide) ?_
  refine z_null b dX4_enact_56 ?_
  refine y_aastN (q0 := 11) (t0 := 3) (j := 8) b (cw_11 cy tE a rw S) rfl (by decide) dX4_enact_57 (cwn_11 cy tE a rw S 8) ?_
  refine z_iinc (k9 := 1) (v := 3) (lv' := [(3, .int 3), (4, .int 8), (0, .ref (a 10)), (1, .int 1), (2, .ref (a 9))]) b dX4_enact_58 rfl (by decide) (by decide) rfl ?_
  refine z_goto (tgt := 2) b dX4_enact_61 (by decide) ?_
  refine z_iload_n b dX4_enact_2 rfl rfl ?_
  refine z_bipush (v := 6) b dX4_enact_3 (by decide) ?_
  refine z_icmp_ge_f (tgt := 64) b dX4_enact_5 (by decide) (by decide) ?_
  refine z_bipush (v := 6) b dX4_enact_8 (by decide) ?_
  refine z_iload_n b dX4_enact_10 rfl rfl ?_
  refine z_imul (v := 6) b dX4_enact_11 (by decide) ?_
  refine z_iload_n b dX4_enact_12 rfl rfl ?_
  refine z_iadd (v := 9) b dX4_enact_13 (by decide) ?_
  refine z_istore (lv' := [(4, .int 9), (3, .int 3), (0, .ref (a 10)), (1, .int 1), (2, .ref (a 9))]) b dX4_enact_14 (by decide) rfl ?_
  refine z_iload b dX4_enact_16 rfl ?_
  refine z_if_lt_f (tgt := 58) b dX4_enact_18 (by decide) (by decide) ?_
  refine z_iload b dX4_enact_21 rfl ?_
  refine z_aload_n b dX4_enact_23 rfl rfl ?_
  refine z_get (q0 := 10) (k9 := 0) (v := .ref (a 11)) b (cw_10 cy tE a rw S) rfl in_X4 (by decide) wf_X4_11 rfl dX4_enact_24 ?_
  refine z_alen (q0 := 11) (t0 := 3) (v := 12) b (cw_11 cy tE a rw S) rfl rfl dX4_enact_27 ?_
  refine z_icmp_ge_f (tgt := 58) b dX4_enact_28 (by decide) (by decide) ?_
  refine z_aload_n b dX4_enact_31 rfl rfl ?_
  refine z_get (q0 := 10) (k9 := 0) (v := .ref (a 11)) b (cw_10 cy tE a rw S) rfl in_X4 (by decide) wf_X4_11 rfl dX4_enact_32 ?_
  refine z_iload b dX4_enact_35 rfl ?_
  refine z_iload_n b dX4_enact_37 rfl rfl ?_
  refine z_aload_n b dX4_enact_38 rfl rfl ?_
  refine z_calli b (z_runV (q0 := 9) (As := []) (st := [.int 3, .int 9, .ref (a 11)]) b (c_Jx4a65c_size_8abf5 S h_i_9) cf_Jx4a65c_size_8abf5 (cw_9 cy tE a rw S) rfl wm_X4_27 wi_Jx4a65c_size_8abf5 ws_Jx4a65c_size_8abf5 dX4_enact_39 rfl (Nat.le_of_ble_eq_true rfl) ⟨by decide, by decide, by decide, by decide⟩) (fun r3464 u3465 h3463 => ?_)
  obtain ⟨rfl, rfl⟩ := h3463
  refine z_icmp_ge_t (tgt := 56) b dX4_enact_42 (by decide) (by decide) ?_
  refine z_null b dX4_enact_56 ?_
  refine y_aastN (q0 := 11) (t0 := 3) (j := 9) b (cw_11 cy tE a rw S) rfl (by decide) dX4_enact_57 (cwn_11 cy tE a rw S 9) ?_
  refine z_iinc (k9 := 1) (v := 4) (lv' := [(3, .int 4), (4, .int 9), (0, .ref (a 10)), (1, .int 1), (2, .ref (a 9))]) b dX4_enact_58 rfl (by decide) (by decide) rfl ?_
  refine z_goto (tgt := 2) b dX4_enact_61 (by decide) ?_
  refine z_iload_n b dX4_enact_2 rfl rfl ?_
  refine z_bipush (v := 6) b dX4_enact_3 (by decide) ?_
  refine z_icmp_ge_f (tgt := 64) b dX4_enact_5 (by decide) (by decide) ?_
  refine z_bipush (v := 6) b dX4_enact_8 (by decide) ?_
  refine z_iload_n b dX4_enact_10 rfl rfl ?_
  refine z_imul (v := 6) b dX4_enact_11 (by decide) ?_
  refine z_iload_n b dX4_enact_12 rfl rfl ?_
  refine z_iadd (v := 10) b dX4_enact_13 (by decide) ?_
  refine z_istore (lv' := [(4, .int 10), (3, .int 4), (0, .ref (a 10)), (1, .int 1), (2, .ref (a 9))]) b dX4_enact_14 (by decide) rfl ?_
  refine z_iload b dX4_enact_16 rfl ?_
  refine z_if_lt_f (tgt := 58) b dX4_enact_18 (by decide) (by decide) ?_
  refine z_iload b dX4_enact_21 rfl ?_
  refine z_aload_n b dX4_enact_23 rfl rfl ?_
  refine z_get (q0 := 10) (k9 := 0) (v := .ref (a 11)) b (cw_10 cy tE a rw S) rfl in_X4 (by decide) wf_X4_11 rfl dX4_enact_24 ?_
  refine z_alen (q0 := 11) (t0 := 3) (v := 12) b (cw_11 cy tE a rw S) rfl rfl dX4_enact_27 ?_
  refine z_icmp_ge_f (tgt := 58) b dX4_enact_28 (by decide) (by decide) ?_
  refine z_aload_n b dX4_enact_31 rfl rfl ?_
  refine z_get (q0 := 10) (k9 := 0) (v := .ref (a 11)) b (cw_10 cy tE a rw S) rfl in_X4 (by decide) wf_X4_11 rfl dX4_enact_32 ?_
  refine z_iload b dX4_enact_35 rfl ?_
  refine z_iload_n b dX4_enact_37 rfl rfl ?_
  refine z_aload_n b dX4_enact_38 rfl rfl ?_
  refine z_calli b (z_runV (q0 := 9) (As := []) (st := [.int 4, .int 10, .ref (a 11)]) b (c_Jx4a65c_size_8abf5 S h_i_9) cf_Jx4a65c_size_8abf5 (cw_9 cy tE a rw S) rfl wm_X4_27 wi_Jx4a65c_size_8abf5 ws_Jx4a65c_size_8abf5 dX4_enact_39 rfl (Nat.le_of_ble_eq_true rfl) ⟨by decide, by decide, by decide, by decide⟩) (fun r3467 u3468 h3466 => ?_)
  obtain ⟨rfl, rfl⟩ := h3466
  refine z_icmp_ge_t (tgt := 56) b dX4_enact_42 (by decide) (by decide) ?_
  refine z_null b dX4_enact_56 ?_
  refine y_aastN (q0 := 11) (t0 := 3) (j := 10) b (cw_11 cy tE a rw S) rfl (by decide) dX4_enact_57 (cwn_11 cy tE a rw S 10) ?_
  refine z_iinc (k9 := 1) (v := 5) (lv' := [(3, .int 5), (4, .int 10), (0, .ref (a 10)), (1, .int 1), (2, .ref (a 9))]) b dX4_enact_58 rfl (by decide) (by decide) rfl ?_
  refine z_goto (tgt := 2) b dX4_enact_61 (by decide) ?_
  refine z_iload_n b dX4_enact_2 rfl rfl ?_
  refine z_bipush (v := 6) b dX4_enact_3 (by decide) ?_
  refine z_icmp_ge_f (tgt := 64) b dX4_enact_5 (by decide) (by decide) ?_
  refine z_bipush (v := 6) b dX4_enact_8 (by decide) ?_
  refine z_iload_n b dX4_enact_10 rfl rfl ?_
  refine z_imul (v := 6) b dX4_enact_11 (by decide) ?_
  refine z_iload_n b dX4_enact_12 rfl rfl ?_
  refine z_iadd (v := 11) b dX4_enact_13 (by decide) ?_
  refine z_istore (lv' := [(4, .int 11), (3, .int 5), (0, .ref (a 10)), (1, .int 1), (2, .ref (a 9))]) b dX4_enact_14 (by decide) rfl ?_
  exact k

set_option maxHeartbeats 4000000 in
set_option maxRecDepth 100000 in
theorem c_X4_enact_2 {l : Launch} {D : va_G} {cy : Nat → ClassId} {T0 tB tE : Nat} {a : Nat → Nat} {rw : Nat → Option Nat} (S : GS)  (h_i_9 : fi S 9 = 0) : Ct l D cy T0 tB tE yX4_enact cX4_enact 5 none 1 20 0 0 (cw cy tE a rw S) [.ref (a 10), .int 1, .ref (a 9)] (QV D (U := GS) (fun u => S = u) (cw cy tE a rw)) := by
  refine Ct.ofZ RX4 "enact" [(0, .ref (a 10)), (1, .int 1), (2, .ref (a 9))] rfl rfl rfl rfl (Nat.le_of_ble_eq_true rfl) ?_
  intro p e R s m args below meth c A b
  refine ch_X4_enact_56 S  h_i_9  b ?_
  refine z_iload b dX4_enact_16 rfl ?_
  refine z_if_lt_f (tgt := 58) b dX4_enact_18 (by decide) (by decide) ?_
  refine z_iload b dX4_enact_21 rfl ?_
  refine z_aload_n b dX4_enact_23 rfl rfl ?_
  refine z_get (q0 := 10) (k9 := 0) (v := .ref (a 11)) b (cw_10 cy tE a rw S) rfl in_X4 (by decide) wf_X4_11 rfl dX4_enact_24 ?_
  refine z_alen (q0 := 11) (t0 := 3) (v := 12) b (cw_11 cy tE a rw S) rfl rfl dX4_enact_27 ?_
  refine z_icmp_ge_f (tgt := 58) b dX4_enact_28 (by decide) (by decide) ?_
  refine z_aload_n b dX4_enact_31 rfl rfl ?_
  refine z_get (q0 := 10) (k9 := 0) (v := .ref (a 11)) b (cw_10 cy tE a rw S) rfl in_X4 (by decide) wf_X4_11 rfl dX4_enact_32 ?_
  refine z_iload b dX4_enact_35 rfl ?_
  refine z_iload_n b dX4_enact_37 rfl rfl ?_
  refine z_aload_n b dX4_enact_38 rfl rfl ?_
  refine z_calli b (z_runV (q0 := 9) (As := []) (st := [.int 5, .int 11, .ref (a 11)]) b (c_Jx4a65c_size_8abf5 S h_i_9) cf_Jx4a65c_size_8abf5 (cw_9 cy tE a rw S) rfl wm_X4_27 wi_Jx4a65c_size_8abf5 ws_Jx4a65c_size_8abf5 dX4_enact_39 rfl (Nat.le_of_ble_eq_true rfl) ⟨by decide, by decide, by decide, by decide⟩) (fun r3470 u3471 h3469 => ?_)
  obtain ⟨rfl, rfl⟩ := h3469
  refine z_icmp_ge_t (tgt := 56) b dX4_enact_42 (by decide) (by decide) ?_
  refine z_null b dX4_enact_56 ?_
  refine y_aastN (q0 := 11) (t0 := 3) (j := 11) b (cw_11 cy tE a rw S) rfl (by decide) dX4_enact_57 (cwn_11 cy tE a rw S 11) ?_
  refine z_iinc (k9 := 1) (v := 6) (lv' := [(3, .int 6), (4, .int 11), (0, .ref (a 10)), (1, .int 1), (2, .ref (a 9))]) b dX4_enact_58 rfl (by decide) (by decide) rfl ?_
  refine z_goto (tgt := 2) b dX4_enact_61 (by decide) ?_
  refine z_iload_n b dX4_enact_2 rfl rfl ?_
  refine z_bipush (v := 6) b dX4_enact_3 (by decide) ?_
  refine z_icmp_ge_t (tgt := 64) b dX4_enact_5 (by decide) (by decide) ?_
  exact z_vret (u := S) b rfl dX4_enact_64 rfl rfl (by decide) (by decide)

set_option maxHeartbeats 4000000 in
set_option maxRecDepth 100000 in
theorem c_X11_statute_3 {l : Launch} {D : va_G} {cy : Nat → ClassId} {T0 tB tE : Nat} {a : Nat → Nat} {rw : Nat → Option Nat} (S : GS)  (h_i_0 : fi S 0 = 0) (h_i_7 : fi S 7 = 0) (h_a_1_0 : ar S 1 0 = 0) (h_a_2_0 : ar S 2 0 = 0) (h_A_1_0 : al S 1 0 = 0) (h_i_1 : fi S 1 = 0) (h_i_2 : fi S 2 = 0) (h_i_8 : fi S 8 = 0) (h_i_9 : fi S 9 = 0) (h_i_5 : fi S 5 = 0) (h_i_6 : fi S 6 = (-1)) (h_i_24 : fi S 24 = 0) : Ct l D cy T0 tB tE yX11_statute cX11_statute 3 (some .int) 4 94 0 0 (cw cy tE a rw S) [.ref (a 0), .int 1] (QI D (U := GS) (fun r u => 0 = r ∧ (si (si S 7 1) 8 1) = u) (cw cy tE a rw)) := by
  refine Ct.ofZ RX11 "statute" [(0, .ref (a 0)), (1, .int 1)] rfl rfl rfl rfl (Nat.le_of_ble_eq_true rfl) ?_
  intro p e R s m args below meth c A b
  refine z_aload_n b dX11_statute_0 rfl rfl ?_
  refine z_callv b (z_runV (q0 := 0) (As := []) (st := []) b (c_X11_takeTape S h_i_0 h_i_7 h_a_1_0 h_a_2_0 h_A_1_0 h_i_1 h_i_2 h_i_8 h_i_9 h_i_5 h_i_6) cf_X11_takeTape (cw_0 cy tE a rw S) rfl wm_X11_93 wi_X11_takeTape ws_X11_takeTape dX11_statute_1 rfl (Nat.le_of_ble_eq_true rfl) ⟨by decide, by decide, by decide, by decide⟩) (fun u3444 h3442 => ?_)
  obtain rfl := h3442
  refine z_iload_n b dX11_statute_4 rfl rfl ?_
  refine z_iconst (v := 1) b dX11_statute_5 (by decide) ?_
  refine z_calli b (z_runS (As := [.int 1, .int 1]) (st := []) b (c_X11_isWithin_12 (si (si S 7 1) 8 1) ) cf_X11_isWithin wm_X11_73 ws_X11_isWithin dX11_statute_6 rfl (Nat.le_of_ble_eq_true rfl) ⟨by decide, by decide, by decide, by decide⟩) (fun r3446 u3447 h3445 => ?_)
  obtain ⟨rfl, rfl⟩ := h3445
  refine z_if_ne_t (tgt := 14) b dX11_statute_9 (by decide) (by decide) ?_
  refine z_iconst (v := 0) b dX11_statute_14 (by decide) ?_
  refine z_istore_n (lv' := [(2, .int 0), (0, .ref (a 0)), (1, .int 1)]) b dX11_statute_15 rfl (by decide) rfl ?_
  refine z_iload_n b dX11_statute_16 rfl rfl ?_
  refine z_bipush (v := 6) b dX11_statute_17 (by decide) ?_
  refine z_icmp_gt_f (tgt := 51) b dX11_statute_19 (by decide) (by decide) ?_
  refine z_aload_n b dX11_statute_22 rfl rfl ?_
  refine z_get (q0 := 0) (k9 := 2) (v := .ref (a 2)) b (cw_0 cy tE a rw (si (si S 7 1) 8 1)) rfl in_X11 (by decide) wf_X11_20 rfl dX11_statute_23 ?_
  refine z_calli b (z_runV (q0 := 2) (As := []) (st := []) b (c_X5_kind (si (si S 7 1) 8 1) h_i_1 rfl h_a_1_0) cf_X5_kind (cw_2 cy tE a rw (si (si S 7 1) 8 1)) rfl wm_X11_96 wi_X5_kind ws_X5_kind dX11_statute_26 rfl (Nat.le_of_ble_eq_true rfl) ⟨by decide, by decide, by decide, by decide⟩) (fun r3449 u3450 h3448 => ?_)
  obtain ⟨rfl, rfl⟩ := h3448
  refine z_iconst (v := 4) b dX11_statute_29 (by decide) ?_
  refine z_icmp_ne_t (tgt := 51) b dX11_statute_30 (by decide) (by decide) ?_
  refine z_aload_n b dX11_statute_51 rfl rfl ?_
  refine z_get (q0 := 0) (k9 := 2) (v := .ref (a 2)) b (cw_0 cy tE a rw (si (si S 7 1) 8 1)) rfl in_X11 (by decide) wf_X11_20 rfl dX11_statute_52 ?_
  refine z_calli b (z_runV (q0 := 2) (As := []) (st := []) b (c_X5_isAtEnd (si (si S 7 1) 8 1) h_i_1 rfl h_a_1_0) cf_X5_isAtEnd (cw_2 cy tE a rw (si (si S 7 1) 8 1)) rfl wm_X11_106 wi_X5_isAtEnd ws_X5_isAtEnd dX11_statute_55 rfl (Nat.le_of_ble_eq_true rfl) ⟨by decide, by decide, by decide, by decide⟩) (fun r3452 u3453 h3451 => ?_)
  obtain ⟨rfl, rfl⟩ := h3451
  refine z_if_ne_t (tgt := 63) b dX11_statute_58 (by decide) (by decide) ?_
  refine z_aload_n b dX11_statute_63 rfl rfl ?_
  refine z_get (q0 := 0) (k9 := 3) (v := .ref (a 10)) b (cw_0 cy tE a rw (si (si S 7 1) 8 1)) rfl in_X11 (by decide) wf_X11_27 rfl dX11_statute_64 ?_
  refine z_iload_n b dX11_statute_67 rfl rfl ?_
  refine z_aload_n b dX11_statute_68 rfl rfl ?_
  refine z_get (q0 := 0) (k9 := 2) (v := .ref (a 2)) b (cw_0 cy tE a rw (si (si S 7 1) 8 1)) rfl in_X11 (by decide) wf_X11_20 rfl dX11_statute_69 ?_
  refine z_get (q0 := 2) (k9 := 6) (v := .ref (a 9)) b (cw_2 cy tE a rw (si (si S 7 1) 8 1)) rfl in_X5 (by decide) wf_X11_109 rfl dX11_statute_72 ?_
  refine z_callv b (z_runV (q0 := 10) (As := [.int 1, .ref (a 9)]) (st := []) b (c_X4_enact_2 (si (si S 7 1) 8 1) h_i_9) cf_X4_enact (cw_10 cy tE a rw (si (si S 7 1) 8 1)) rfl wm_X11_113 wi_X4_enact ws_X4_enact dX11_statute_75 rfl (Nat.le_of_ble_eq_true rfl) ⟨by decide, by decide, by decide, by decide⟩) (fun u3474 h3472 => ?_)
  obtain rfl := h3472
  refine z_aload_n b dX11_statute_78 rfl rfl ?_
  refine z_get (q0 := 0) (k9 := 6) (v := .ref (a 25)) b (cw_0 cy tE a rw (si (si S 7 1) 8 1)) rfl in_X11 (by decide) wf_X11_52 rfl dX11_statute_79 ?_
  refine z_callv b (z_runV (q0 := 25) (As := []) (st := []) b (c_X8_forget (si (si S 7 1) 8 1) h_i_24) cf_X8_forget (cw_25 cy tE a rw (si (si S 7 1) 8 1)) rfl wm_X11_81 wi_X8_forget ws_X8_forget dX11_statute_82 rfl (Nat.le_of_ble_eq_true rfl) ⟨by decide, by decide, by decide, by decide⟩) (fun u3477 h3475 => ?_)
  obtain rfl := h3475
  refine z_aload_n b dX11_statute_85 rfl rfl ?_
  refine z_get (q0 := 0) (k9 := 2) (v := .ref (a 2)) b (cw_0 cy tE a rw (si (si S 7 1) 8 1)) rfl in_X11 (by decide) wf_X11_20 rfl dX11_statute_86 ?_
  refine z_get (q0 := 2) (k9 := 6) (v := .ref (a 9)) b (cw_2 cy tE a rw (si (si S 7 1) 8 1)) rfl in_X5 (by decide) wf_X11_109 rfl dX11_statute_89 ?_
  refine z_calli b (z_runV (q0 := 9) (As := []) (st := []) b (c_Jx4a65c_size_8abf5 (si (si S 7 1) 8 1) h_i_9) cf_Jx4a65c_size_8abf5 (cw_9 cy tE a rw (si (si S 7 1) 8 1)) rfl wm_X11_117 wi_Jx4a65c_size_8abf5 ws_Jx4a65c_size_8abf5 dX11_statute_92 rfl (Nat.le_of_ble_eq_true rfl) ⟨by decide, by decide, by decide, by decide⟩) (fun r3479 u3480 h3478 => ?_)
  obtain ⟨rfl, rfl⟩ := h3478
  exact z_iret (u := (si (si S 7 1) 8 1)) b rfl dX11_statute_95 ⟨rfl, rfl⟩ rfl (by decide) (by decide)

set_option maxHeartbeats 4000000 in
set_option maxRecDepth 100000 in
theorem c_X12_keeps_2 {l : Launch} {D : va_G} {cy : Nat → ClassId} {T0 tB tE : Nat} {a : Nat → Nat} (S : GS)  (h_a_6_13 : ar S 6 13 = 0) (h_a_6_1 : ar S 6 1 = 0) : Ct l D cy T0 tB tE yX12_keeps cX12_keeps 3 none 0 0 0 0 (mw cy a S) [.ref (a 0), .int 1] (QV D (U := GS) (fun u => S = u) (mw cy a)) := by
  refine Ct.ofZ RX12 "keeps" [(0, .ref (a 0)), (1, .int 1)] rfl rfl rfl rfl (Nat.le_of_ble_eq_true rfl) ?_
  intro p e R s m args below meth c A b
  refine z_aload_n b dX12_keeps_0 rfl rfl ?_
  refine z_get (q0 := 0) (k9 := 8) (v := .ref (a 7)) b (mw_0 cy a S) rfl in_X12 (by decide) wf_X12_33 rfl dX12_keeps_1 ?_
  refine z_iload_n b dX12_keeps_4 rfl rfl ?_
  refine z_aload_n b dX12_keeps_5 rfl rfl ?_
  refine z_get (q0 := 0) (k9 := 8) (v := .ref (a 7)) b (mw_0 cy a S) rfl in_X12 (by decide) wf_X12_33 rfl dX12_keeps_6 ?_
  refine z_bipush (v := 13) b dX12_keeps_9 (by decide) ?_
  refine y_iald (q0 := 7) (j := 13) (v := (ar S 6 13)) b (mw_7 cy a S) (by decide) rfl dX12_keeps_11 ?_
  refine z_eqi h_a_6_13 ?_
  refine y_iast (q0 := 7) (j := 1) b (mw_7 cy a S) (by decide) dX12_keeps_12 ((mwa_7 cy a S 1 0).trans (congrArg (mw cy a) (su_same h_a_6_1))) ?_
  refine z_iconst (v := 0) b dX12_keeps_13 (by decide) ?_
  refine z_istore_n (lv' := [(2, .int 0), (0, .ref (a 0)), (1, .int 1)]) b dX12_keeps_14 rfl (by decide) rfl ?_
  refine z_iload_n b dX12_keeps_15 rfl rfl ?_
  refine z_iconst (v := 2) b dX12_keeps_16 (by decide) ?_
  refine z_aload_n b dX12_keeps_17 rfl rfl ?_
  refine z_get (q0 := 0) (k9 := 8) (v := .ref (a 7)) b (mw_0 cy a S) rfl in_X12 (by decide) wf_X12_33 rfl dX12_keeps_18 ?_
  refine z_bipush (v := 13) b dX12_keeps_21 (by decide) ?_
  refine y_iald (q0 := 7) (j := 13) (v := (ar S 6 13)) b (mw_7 cy a S) (by decide) rfl dX12_keeps_23 ?_
  refine z_eqi h_a_6_13 ?_
  refine z_imul (v := 0) b dX12_keeps_24 (by decide) ?_
  refine z_icmp_ge_t (tgt := 56) b dX12_keeps_25 (by decide) (by decide) ?_
  exact z_vret (u := S) b rfl dX12_keeps_56 rfl rfl (by decide) (by decide)

set_option maxHeartbeats 4000000 in
set_option maxRecDepth 100000 in
theorem c_X12_statute_3 {l : Launch} {D : va_G} {cy : Nat → ClassId} {T0 tB tE : Nat} {a : Nat → Nat} (S : GS)  (h_i_6 : fi S 6 = 0) (h_i_2 : fi S 2 = 0) (h_i_12 : fi S 12 = 0) (h_a_6_13 : ar S 6 13 = 0) (h_i_1 : fi S 1 = 0) (h_i_4 : fi S 4 = 0) (h_i_3 : fi S 3 = 0) (h_i_8 : fi S 8 = 0) (h_i_13 : fi S 13 = (-1)) (h_a_6_1 : ar S 6 1 = 0) (h_a_7_1 : ar S 7 1 = 0) : Ct l D cy T0 tB tE yX12_statute cX12_statute 4 (some .int) 3 63 0 0 (mw cy a S) [.ref (a 0), .int 1] (QI D (U := GS) (fun r u => 0 = r ∧ S = u) (mw cy a)) := by
  refine Ct.ofZ RX12 "statute" [(0, .ref (a 0)), (1, .int 1)] rfl rfl rfl rfl (Nat.le_of_ble_eq_true rfl) ?_
  intro p e R s m args below meth c A b
  refine z_aload_n b dX12_statute_0 rfl rfl ?_
  refine z_iconst (v := 0) b dX12_statute_1 (by decide) ?_
  refine z_put (q0 := 0) (k9 := 30) tyX12 b (mw_0 cy a S) rfl in_X12 tyX12_ok nmX12 (by decide) wf_X12_257 rfl rfl rfl rfl (Nat.le_of_ble_eq_true rfl) dX12_statute_2 ((mwp_0_30 cy a S 0).trans (congrArg (mw cy a) (si_same h_i_6))) ?_
  refine z_iload_n b dX12_statute_5 rfl rfl ?_
  refine z_iconst (v := 0) b dX12_statute_6 (by decide) ?_
  refine z_iconst (v := 1) b dX12_statute_7 (by decide) ?_
  refine z_calli b (z_runS (As := [.int 1, .int 0, .int 1]) (st := []) b (c_X12_isIn_17 S ) cf_X12_isIn wm_X12_1 ws_X12_isIn dX12_statute_8 rfl (Nat.le_of_ble_eq_true rfl) ⟨by decide, by decide, by decide, by decide⟩) (fun r3482 u3483 h3481 => ?_)
  obtain ⟨rfl, rfl⟩ := h3481
  refine z_if_ne_t (tgt := 20) b dX12_statute_11 (by decide) (by decide) ?_
  refine z_aload_n b dX12_statute_20 rfl rfl ?_
  refine z_callv b (z_runV (q0 := 0) (As := []) (st := []) b (c_X12_begins S h_i_6 h_i_2 h_i_12 h_a_6_13 h_i_1 h_i_4 h_i_3) cf_X12_begins (mw_0 cy a S) rfl wm_X12_339 wi_X12_begins ws_X12_begins dX12_statute_21 rfl (Nat.le_of_ble_eq_true rfl) ⟨by decide, by decide, by decide, by decide⟩) (fun u3486 h3484 => ?_)
  obtain rfl := h3484
  refine z_iconst (v := 1) b dX12_statute_24 (by decide) ?_
  refine z_istore_n (lv' := [(2, .int 1), (0, .ref (a 0)), (1, .int 1)]) b dX12_statute_25 rfl (by decide) rfl ?_
  refine z_iload_n b dX12_statute_26 rfl rfl ?_
  refine z_if_eq_f (tgt := 45) b dX12_statute_27 (by decide) (by decide) ?_
  refine z_aload_n b dX12_statute_30 rfl rfl ?_
  refine z_get (q0 := 0) (k9 := 27) (v := .int (fi S 3)) b (mw_0 cy a S) rfl in_X12 (by decide) wf_X12_242 rfl dX12_statute_31 ?_
  refine z_eqi h_i_3 ?_
  refine z_if_eq_t (tgt := 45) b dX12_statute_34 (by decide) (by decide) ?_
  refine z_aload_n b dX12_statute_45 rfl rfl ?_
  refine z_callv b (z_runV (q0 := 0) (As := []) (st := []) b (c_X12_ends S h_i_1 h_i_6 h_i_8 h_i_13) cf_X12_ends (mw_0 cy a S) rfl wm_X12_336 wi_X12_ends ws_X12_ends dX12_statute_46 rfl (Nat.le_of_ble_eq_true rfl) ⟨by decide, by decide, by decide, by decide⟩) (fun u3489 h3487 => ?_)
  obtain rfl := h3487
  refine z_iload_n b dX12_statute_49 rfl rfl ?_
  refine z_if_ne_t (tgt := 55) b dX12_statute_50 (by decide) (by decide) ?_
  refine z_aload_n b dX12_statute_55 rfl rfl ?_
  refine z_iload_n b dX12_statute_56 rfl rfl ?_
  refine z_callv b (z_runV (q0 := 0) (As := [.int 1]) (st := []) b (c_X12_keeps_2 S h_a_6_13 h_a_6_1) cf_X12_keeps (mw_0 cy a S) rfl wm_X12_345 wi_X12_keeps ws_X12_keeps dX12_statute_57 rfl (Nat.le_of_ble_eq_true rfl) ⟨by decide, by decide, by decide, by decide⟩) (fun u3492 h3490 => ?_)
  obtain rfl := h3490
  refine z_aload_n b dX12_statute_60 rfl rfl ?_
  refine z_get (q0 := 0) (k9 := 9) (v := .ref (a 8)) b (mw_0 cy a S) rfl in_X12 (by decide) wf_X12_36 rfl dX12_statute_61 ?_
  refine z_iload_n b dX12_statute_64 rfl rfl ?_
  refine z_aload_n b dX12_statute_65 rfl rfl ?_
  refine z_get (q0 := 0) (k9 := 36) (v := .int (fi S 12)) b (mw_0 cy a S) rfl in_X12 (by decide) wf_X12_321 rfl dX12_statute_66 ?_
  refine z_eqi h_i_12 ?_
  refine y_iast (q0 := 8) (j := 1) b (mw_8 cy a S) (by decide) dX12_statute_69 ((mwa_8 cy a S 1 0).trans (congrArg (mw cy a) (su_same h_a_7_1))) ?_
  refine z_iconst (v := 0) b dX12_statute_70 (by decide) ?_
  refine z_istore_n (lv' := [(3, .int 0), (2, .int 1), (0, .ref (a 0)), (1, .int 1)]) b dX12_statute_71 rfl (by decide) rfl ?_
  refine z_iload_n b dX12_statute_72 rfl rfl ?_
  refine z_aload_n b dX12_statute_73 rfl rfl ?_
  refine z_get (q0 := 0) (k9 := 36) (v := .int (fi S 12)) b (mw_0 cy a S) rfl in_X12 (by decide) wf_X12_321 rfl dX12_statute_74 ?_
  refine z_eqi h_i_12 ?_
  refine z_icmp_ge_t (tgt := 100) b dX12_statute_77 (by decide) (by decide) ?_
  refine z_aload_n b dX12_statute_100 rfl rfl ?_
  refine z_get (q0 := 0) (k9 := 36) (v := .int (fi S 12)) b (mw_0 cy a S) rfl in_X12 (by decide) wf_X12_321 rfl dX12_statute_101 ?_
  refine z_eqi h_i_12 ?_
  exact z_iret (u := S) b rfl dX12_statute_104 ⟨rfl, rfl⟩ rfl (by decide) (by decide)

set_option maxHeartbeats 4000000 in
set_option maxRecDepth 100000 in
theorem c_X11_statute_4 {l : Launch} {D : va_G} {cy : Nat → ClassId} {T0 tB tE : Nat} {a : Nat → Nat} {rw : Nat → Option Nat} (S : GS) (p0 : Int32) (h_i_0 : fi S 0 = 0) (h_i_7 : fi S 7 = 0) (h_a_1_0 : ar S 1 0 = 0) (h_a_2_0 : ar S 2 0 = 0) (h_A_1_0 : al S 1 0 = 0) (h_i_1 : fi S 1 = 0) (h_i_2 : fi S 2 = 0) (h_i_8 : fi S 8 = 0) (h_i_9 : fi S 9 = 0) (h_i_5 : fi S 5 = 0) (h_i_6 : fi S 6 = (-1)) (hr_p0 : 2 ≤ p0.toInt ∧ p0.toInt ≤ 2147483647) : Ct l D cy T0 tB tE yX11_statute cX11_statute 3 (some .int) 4 94 0 0 (cw cy tE a rw S) [.ref (a 0), .int p0] (QI D (U := GS) (fun r u => (-1) = r ∧ (si (si S 7 1) 8 1) = u) (cw cy tE a rw)) := by
  refine Ct.ofZ RX11 "statute" [(0, .ref (a 0)), (1, .int p0)] rfl rfl rfl rfl (Nat.le_of_ble_eq_true rfl) ?_
  intro p e R s m args below meth c A b
  refine z_aload_n b dX11_statute_0 rfl rfl ?_
  refine z_callv b (z_runV (q0 := 0) (As := []) (st := []) b (c_X11_takeTape S h_i_0 h_i_7 h_a_1_0 h_a_2_0 h_A_1_0 h_i_1 h_i_2 h_i_8 h_i_9 h_i_5 h_i_6) cf_X11_takeTape (cw_0 cy tE a rw S) rfl wm_X11_93 wi_X11_takeTape ws_X11_takeTape dX11_statute_1 rfl (Nat.le_of_ble_eq_true rfl) ⟨by decide, by decide, by decide, by decide⟩) (fun u3495 h3493 => ?_)
  obtain rfl := h3493
  refine z_iload_n b dX11_statute_4 rfl rfl ?_
  refine z_iconst (v := 1) b dX11_statute_5 (by decide) ?_
  refine z_calli b (z_runS (As := [.int p0, .int 1]) (st := []) b (c_X11_isWithin_13 (si (si S 7 1) 8 1) p0 ⟨by omega, by omega⟩) cf_X11_isWithin wm_X11_73 ws_X11_isWithin dX11_statute_6 rfl (Nat.le_of_ble_eq_true rfl) ⟨by decide, by decide, by decide, by decide⟩) (fun r3497 u3498 h3496 => ?_)
  obtain ⟨rfl, rfl⟩ := h3496
  refine z_if_ne_f (tgt := 14) b dX11_statute_9 (by decide) (by decide) ?_
  refine z_iconst (v := (-1)) b dX11_statute_12 (by decide) ?_
  exact z_iret (u := (si (si S 7 1) 8 1)) b rfl dX11_statute_13 ⟨rfl, rfl⟩ rfl (by decide) (by decide)

set_option maxHeartbeats 4000000 in
set_option maxRecDepth 100000 in
theorem c_X12_statute_4 {l : Launch} {D : va_G} {cy : Nat → ClassId} {T0 tB tE : Nat} {a : Nat → Nat} (S : GS) (p0 : Int32) (h_i_6 : fi S 6 = 0) (h_i_1 : fi S 1 = 0) (h_i_8 : fi S 8 = 0) (h_i_13 : fi S 13 = (-1)) (hr_p0 : 2 ≤ p0.toInt ∧ p0.toInt ≤ 2147483647) : Ct l D cy T0 tB tE yX12_statute cX12_statute 4 (some .int) 1 22 0 0 (mw cy a S) [.ref (a 0), .int p0] (QI D (U := GS) (fun r u => (-1) = r ∧ S = u) (mw cy a)) := by
  refine Ct.ofZ RX12 "statute" [(0, .ref (a 0)), (1, .int p0)] rfl rfl rfl rfl (Nat.le_of_ble_eq_true rfl) ?_
  intro p e R s m args below meth c A b
  refine z_aload_n b dX12_statute_0 rfl rfl ?_
  refine z_iconst (v := 0) b dX12_statute_1 (by decide) ?_
  refine z_put (q0 := 0) (k9 := 30) tyX12 b (mw_0 cy a S) rfl in_X12 tyX12_ok nmX12 (by decide) wf_X12_257 rfl rfl rfl rfl (Nat.le_of_ble_eq_true rfl) dX12_statute_2 ((mwp_0_30 cy a S 0).trans (congrArg (mw cy a) (si_same h_i_6))) ?_
  refine z_iload_n b dX12_statute_5 rfl rfl ?_
  refine z_iconst (v := 0) b dX12_statute_6 (by decide) ?_
  refine z_iconst (v := 1) b dX12_statute_7 (by decide) ?_
  refine z_calli b (z_runS (As := [.int p0, .int 0, .int 1]) (st := []) b (c_X12_isIn_18 S p0 ⟨by omega, by omega⟩) cf_X12_isIn wm_X12_1 ws_X12_isIn dX12_statute_8 rfl (Nat.le_of_ble_eq_true rfl) ⟨by decide, by decide, by decide, by decide⟩) (fun r3500 u3501 h3499 => ?_)
  obtain ⟨rfl, rfl⟩ := h3499
  refine z_if_ne_f (tgt := 20) b dX12_statute_11 (by decide) (by decide) ?_
  refine z_aload_n b dX12_statute_14 rfl rfl ?_
  refine z_callv b (z_runV (q0 := 0) (As := []) (st := []) b (c_X12_ends S h_i_1 h_i_6 h_i_8 h_i_13) cf_X12_ends (mw_0 cy a S) rfl wm_X12_336 wi_X12_ends ws_X12_ends dX12_statute_15 rfl (Nat.le_of_ble_eq_true rfl) ⟨by decide, by decide, by decide, by decide⟩) (fun u3504 h3502 => ?_)
  obtain rfl := h3502
  refine z_iconst (v := (-1)) b dX12_statute_18 (by decide) ?_
  exact z_iret (u := S) b rfl dX12_statute_19 ⟨rfl, rfl⟩ rfl (by decide) (by decide)

set_option maxHeartbeats 4000000 in
set_option maxRecDepth 100000 in
theorem c_Jx4a65c_size_8abf5_2 {l : Launch} {D : va_G} {cy : Nat → ClassId} {T0 tB tE : Nat} {a : Nat → Nat} {rw : Nat → Option Nat} (S : GS)  (h_i_11 : fi S 11 = 0) : Ct l D cy T0 tB tE yJx4a65c_size_8abf5 cJx4a65c_size_8abf5 1 (some .int) 0 0 0 0 (cw cy tE a rw S) [.ref (a 12)] (QI D (U := GS) (fun r u => 0 = r ∧ S = u) (cw cy tE a rw)) := by
  refine Ct.ofZ RJx4a65c "size" [(0, .ref (a 12))] rfl rfl rfl rfl (Nat.le_of_ble_eq_true rfl) ?_
  intro p e R s m args below meth c A b
  refine z_aload_n b dJx4a65c_size_8abf5_0 rfl rfl ?_
  refine z_get (q0 := 12) (k9 := 2) (v := .int (fi S 11)) b (cw_12 cy tE a rw S) rfl in_Jx4a65c (by decide) wf_Jx4a65c_48 rfl dJx4a65c_size_8abf5_1 ?_
  refine z_eqi h_i_11 ?_
  exact z_iret (u := S) b rfl dJx4a65c_size_8abf5_4 ⟨rfl, rfl⟩ rfl (by decide) (by decide)

set_option maxHeartbeats 4000000 in
set_option maxRecDepth 100000 in
theorem c_X5_refuse {l : Launch} {D : va_G} {cy : Nat → ClassId} {T0 tB tE : Nat} {a : Nat → Nat} {rw : Nat → Option Nat} (S : GS)  (h_i_1 : fi S 1 = 0) (h_i_7 : fi S 7 = 1) (h_a_2_0 : ar S 2 0 = 0) : Ct l D cy T0 tB tE yX5_refuse cX5_refuse 2 (some .boolean) 0 0 0 0 (cw cy tE a rw S) [.ref (a 2), .int 1] (QI D (U := GS) (fun r u => 0 = r ∧ si (si S 5 1) 6 0 = u) (cw cy tE a rw)) := by
  refine Ct.ofZ RX5 "refuse" [(0, .ref (a 2)), (1, .int 1)] rfl rfl rfl rfl (Nat.le_of_ble_eq_true rfl) ?_
  intro p e R s m args below meth c A b
  refine z_aload_n b dX5_refuse_0 rfl rfl ?_
  refine z_iload_n b dX5_refuse_1 rfl rfl ?_
  refine z_put (q0 := 2) (k9 := 7) tyX5 b (cw_2 cy tE a rw S) rfl in_X5 tyX5_ok nmX5 (by decide) wf_X5_43 rfl rfl rfl rfl (Nat.le_of_ble_eq_true rfl) dX5_refuse_2 (cwp_2_7 cy tE a rw S 1) ?_
  refine z_aload_n b dX5_refuse_5 rfl rfl ?_
  refine z_aload_n b dX5_refuse_6 rfl rfl ?_
  refine z_get (q0 := 2) (k9 := 1) (v := .int (fi (si S 5 1) 1)) b (cw_2 cy tE a rw (si S 5 1)) rfl in_X5 (by decide) wf_X5_18 rfl dX5_refuse_7 ?_
  refine z_eqi h_i_1 ?_
  refine z_aload_n b dX5_refuse_10 rfl rfl ?_
  refine z_get (q0 := 2) (k9 := 0) (v := .ref (a 3)) b (cw_2 cy tE a rw (si S 5 1)) rfl in_X5 (by decide) wf_X5_12 rfl dX5_refuse_11 ?_
  refine z_get (q0 := 3) (k9 := 4) (v := .int (fi (si S 5 1) 7)) b (cw_3 cy tE a rw (si S 5 1)) rfl in_X10 (by decide) wf_X5_56 rfl dX5_refuse_14 ?_
  refine z_eqi h_i_7 ?_
  refine z_icmp_ge_f (tgt := 35) b dX5_refuse_17 (by decide) (by decide) ?_
  refine z_aload_n b dX5_refuse_20 rfl rfl ?_
  refine z_get (q0 := 2) (k9 := 0) (v := .ref (a 3)) b (cw_2 cy tE a rw (si S 5 1)) rfl in_X5 (by decide) wf_X5_12 rfl dX5_refuse_21 ?_
  refine z_get (q0 := 3) (k9 := 2) (v := .ref (a 6)) b (cw_3 cy tE a rw (si S 5 1)) rfl in_X10 (by decide) wf_X5_168 rfl dX5_refuse_24 ?_
  refine z_aload_n b dX5_refuse_27 rfl rfl ?_
  refine z_get (q0 := 2) (k9 := 1) (v := .int (fi (si S 5 1) 1)) b (cw_2 cy tE a rw (si S 5 1)) rfl in_X5 (by decide) wf_X5_18 rfl dX5_refuse_28 ?_
  refine z_eqi h_i_1 ?_
  refine y_iald (q0 := 6) (j := 0) (v := (ar (si S 5 1) 2 0)) b (cw_6 cy tE a rw (si S 5 1)) (by decide) rfl dX5_refuse_31 ?_
  refine z_eqi h_a_2_0 ?_
  refine z_goto (tgt := 36) b dX5_refuse_32 (by decide) ?_
  refine z_put (q0 := 2) (k9 := 8) tyX5 b (cw_2 cy tE a rw (si S 5 1)) rfl in_X5 tyX5_ok nmX5 (by decide) wf_X5_46 rfl rfl rfl rfl (Nat.le_of_ble_eq_true rfl) dX5_refuse_36 (cwp_2_8 cy tE a rw (si S 5 1) 0) ?_
  refine z_iconst (v := 0) b dX5_refuse_39 (by decide) ?_
  exact z_zret (u := (si (si S 5 1) 6 0)) b rfl (by decide) dX5_refuse_40 ⟨rfl, rfl⟩ rfl (by decide) (by decide)

set_option maxHeartbeats 4000000 in
set_option maxRecDepth 100000 in
theorem c_X5_readOperand {l : Launch} {D : va_G} {cy : Nat → ClassId} {T0 tB tE : Nat} {a : Nat → Nat} {rw : Nat → Option Nat} (S : GS)  (h_i_1 : fi S 1 = 0) (h_i_7 : fi S 7 = 1) (h_a_1_0 : ar S 1 0 = 0) (h_a_2_0 : ar S 2 0 = 0) : Ct l D cy T0 tB tE yX5_readOperand cX5_readOperand 3 (some .boolean) 1 21 0 0 (cw cy tE a rw S) [.ref (a 2)] (QI D (U := GS) (fun r u => 0 = r ∧ si (si S 5 1) 6 0 = u) (cw cy tE a rw)) := by
  refine Ct.ofZ RX5 "readOperand" [(0, .ref (a 2))] rfl rfl rfl rfl (Nat.le_of_ble_eq_true rfl) ?_
  intro p e R s m args below meth c A b
  refine z_aload_n b dX5_readOperand_0 rfl rfl ?_
  refine z_calli b (z_runV (q0 := 2) (As := []) (st := []) b (c_X5_kind S h_i_1 h_i_7 h_a_1_0) cf_X5_kind (cw_2 cy tE a rw S) rfl wm_X5_66 wi_X5_kind ws_X5_kind dX5_readOperand_1 rfl (Nat.le_of_ble_eq_true rfl) ⟨by decide, by decide, by decide, by decide⟩) (fun r3515 u3516 h3514 => ?_)
  obtain ⟨rfl, rfl⟩ := h3514
  refine z_istore_n (lv' := [(1, .int 0), (0, .ref (a 2))]) b dX5_readOperand_4 rfl (by decide) rfl ?_
  refine z_iconst (v := 0) b dX5_readOperand_5 (by decide) ?_
  refine z_istore_n (lv' := [(2, .int 0), (1, .int 0), (0, .ref (a 2))]) b dX5_readOperand_6 rfl (by decide) rfl ?_
  refine z_iload_n b dX5_readOperand_7 rfl rfl ?_
  refine z_tableOut (tgt := 170) b dX5_readOperand_8 (by decide) (by decide) ?_
  refine z_aload_n b dX5_readOperand_170 rfl rfl ?_
  refine z_iconst (v := 1) b dX5_readOperand_171 (by decide) ?_
  refine z_calli b (z_runV (q0 := 2) (As := [.int 1]) (st := []) b (c_X5_refuse S h_i_1 h_i_7 h_a_2_0) cf_X5_refuse (cw_2 cy tE a rw S) rfl wm_X5_70 wi_X5_refuse ws_X5_refuse dX5_readOperand_172 rfl (Nat.le_of_ble_eq_true rfl) ⟨by decide, by decide, by decide, by decide⟩) (fun r3518 u3519 h3517 => ?_)
  obtain ⟨rfl, rfl⟩ := h3517
  exact z_zret (u := (si (si S 5 1) 6 0)) b rfl (by decide) dX5_readOperand_175 ⟨rfl, rfl⟩ rfl (by decide) (by decide)

set_option maxHeartbeats 4000000 in
set_option maxRecDepth 100000 in
theorem c_X5_readSum {l : Launch} {D : va_G} {cy : Nat → ClassId} {T0 tB tE : Nat} {a : Nat → Nat} {rw : Nat → Option Nat} (S : GS)  (h_i_1 : fi S 1 = 0) (h_i_7 : fi S 7 = 1) (h_a_1_0 : ar S 1 0 = 0) (h_a_2_0 : ar S 2 0 = 0) : Ct l D cy T0 tB tE yX5_readSum cX5_readSum 4 (some .boolean) 2 43 0 0 (cw cy tE a rw S) [.ref (a 2)] (QI D (U := GS) (fun r u => 0 = r ∧ si (si S 5 1) 6 0 = u) (cw cy tE a rw)) := by
  refine Ct.ofZ RX5 "readSum" [(0, .ref (a 2))] rfl rfl rfl rfl (Nat.le_of_ble_eq_true rfl) ?_
  intro p e R s m args below meth c A b
  refine z_aload_n b dX5_readSum_0 rfl rfl ?_
  refine z_calli b (z_runV (q0 := 2) (As := []) (st := []) b (c_X5_readOperand S h_i_1 h_i_7 h_a_1_0 h_a_2_0) cf_X5_readOperand (cw_2 cy tE a rw S) rfl wm_X5_165 wi_X5_readOperand ws_X5_readOperand dX5_readSum_1 rfl (Nat.le_of_ble_eq_true rfl) ⟨by decide, by decide, by decide, by decide⟩) (fun r3521 u3522 h3520 => ?_)
  obtain ⟨rfl, rfl⟩ := h3520
  refine z_if_ne_f (tgt := 9) b dX5_readSum_4 (by decide) (by decide) ?_
  refine z_iconst (v := 0) b dX5_readSum_7 (by decide) ?_
  exact z_zret (u := (si (si S 5 1) 6 0)) b rfl (by decide) dX5_readSum_8 ⟨rfl, rfl⟩ rfl (by decide) (by decide)

set_option maxHeartbeats 4000000 in
set_option maxRecDepth 100000 in
theorem c_X5_readClaim {l : Launch} {D : va_G} {cy : Nat → ClassId} {T0 tB tE : Nat} {a : Nat → Nat} {rw : Nat → Option Nat} (S : GS)  (h_i_1 : fi S 1 = 0) (h_i_7 : fi S 7 = 1) (h_a_1_0 : ar S 1 0 = 0) (h_a_2_0 : ar S 2 0 = 0) : Ct l D cy T0 tB tE yX5_readClaim cX5_readClaim 4 (some .boolean) 3 66 0 0 (cw cy tE a rw S) [.ref (a 2), .int 0] (QI D (U := GS) (fun r u => 0 = r ∧ si (si S 5 1) 6 0 = u) (cw cy tE a rw)) := by
  refine Ct.ofZ RX5 "readClaim" [(0, .ref (a 2)), (1, .int 0)] rfl rfl rfl rfl (Nat.le_of_ble_eq_true rfl) ?_
  intro p e R s m args below meth c A b
  refine z_aload_n b dX5_readClaim_0 rfl rfl ?_
  refine z_calli b (z_runV (q0 := 2) (As := []) (st := []) b (c_X5_kind S h_i_1 h_i_7 h_a_1_0) cf_X5_kind (cw_2 cy tE a rw S) rfl wm_X5_66 wi_X5_kind ws_X5_kind dX5_readClaim_1 rfl (Nat.le_of_ble_eq_true rfl) ⟨by decide, by decide, by decide, by decide⟩) (fun r3512 u3513 h3511 => ?_)
  obtain ⟨rfl, rfl⟩ := h3511
  refine z_istore_n (lv' := [(2, .int 0), (0, .ref (a 2)), (1, .int 0)]) b dX5_readClaim_4 rfl (by decide) rfl ?_
  refine z_iload_n b dX5_readClaim_5 rfl rfl ?_
  refine z_bipush (v := 17) b dX5_readClaim_6 (by decide) ?_
  refine z_icmp_eq_f (tgt := 17) b dX5_readClaim_8 (by decide) (by decide) ?_
  refine z_iload_n b dX5_readClaim_11 rfl rfl ?_
  refine z_bipush (v := 27) b dX5_readClaim_12 (by decide) ?_
  refine z_icmp_ne_t (tgt := 40) b dX5_readClaim_14 (by decide) (by decide) ?_
  refine z_aload_n b dX5_readClaim_40 rfl rfl ?_
  refine z_calli b (z_runV (q0 := 2) (As := []) (st := []) b (c_X5_readSum S h_i_1 h_i_7 h_a_1_0 h_a_2_0) cf_X5_readSum (cw_2 cy tE a rw S) rfl wm_X5_151 wi_X5_readSum ws_X5_readSum dX5_readClaim_41 rfl (Nat.le_of_ble_eq_true rfl) ⟨by decide, by decide, by decide, by decide⟩) (fun r3524 u3525 h3523 => ?_)
  obtain ⟨rfl, rfl⟩ := h3523
  refine z_if_ne_f (tgt := 49) b dX5_readClaim_44 (by decide) (by decide) ?_
  refine z_iconst (v := 0) b dX5_readClaim_47 (by decide) ?_
  exact z_zret (u := (si (si S 5 1) 6 0)) b rfl (by decide) dX5_readClaim_48 ⟨rfl, rfl⟩ rfl (by decide) (by decide)

set_option maxHeartbeats 4000000 in
set_option maxRecDepth 100000 in
theorem c_X5_readEither {l : Launch} {D : va_G} {cy : Nat → ClassId} {T0 tB tE : Nat} {a : Nat → Nat} {rw : Nat → Option Nat} (S : GS)  (h_i_1 : fi S 1 = 0) (h_i_7 : fi S 7 = 1) (h_a_1_0 : ar S 1 0 = 0) (h_a_2_0 : ar S 2 0 = 0) : Ct l D cy T0 tB tE yX5_readEither cX5_readEither 5 (some .boolean) 4 89 0 0 (cw cy tE a rw S) [.ref (a 2), .int 0] (QI D (U := GS) (fun r u => 0 = r ∧ si (si S 5 1) 6 0 = u) (cw cy tE a rw)) := by
  refine Ct.ofZ RX5 "readEither" [(0, .ref (a 2)), (1, .int 0)] rfl rfl rfl rfl (Nat.le_of_ble_eq_true rfl) ?_
  intro p e R s m args below meth c A b
  refine z_aload_n b dX5_readEither_0 rfl rfl ?_
  refine z_iload_n b dX5_readEither_1 rfl rfl ?_
  refine z_calli b (z_runV (q0 := 2) (As := [.int 0]) (st := []) b (c_X5_readClaim S h_i_1 h_i_7 h_a_1_0 h_a_2_0) cf_X5_readClaim (cw_2 cy tE a rw S) rfl wm_X5_158 wi_X5_readClaim ws_X5_readClaim dX5_readEither_2 rfl (Nat.le_of_ble_eq_true rfl) ⟨by decide, by decide, by decide, by decide⟩) (fun r3527 u3528 h3526 => ?_)
  obtain ⟨rfl, rfl⟩ := h3526
  refine z_if_ne_f (tgt := 10) b dX5_readEither_5 (by decide) (by decide) ?_
  refine z_iconst (v := 0) b dX5_readEither_8 (by decide) ?_
  exact z_zret (u := (si (si S 5 1) 6 0)) b rfl (by decide) dX5_readEither_9 ⟨rfl, rfl⟩ rfl (by decide) (by decide)

set_option maxHeartbeats 4000000 in
set_option maxRecDepth 100000 in
theorem c_X5_readCondition {l : Launch} {D : va_G} {cy : Nat → ClassId} {T0 tB tE : Nat} {a : Nat → Nat} {rw : Nat → Option Nat} (S : GS)  (h_i_1 : fi S 1 = 0) (h_i_7 : fi S 7 = 1) (h_a_1_0 : ar S 1 0 = 0) (h_a_2_0 : ar S 2 0 = 0) : Ct l D cy T0 tB tE yX5_readCondition cX5_readCondition 1 (some .boolean) 5 113 0 0 (cw cy tE a rw S) [.ref (a 2)] (QI D (U := GS) (fun r u => 0 = r ∧ si (si S 5 1) 6 0 = u) (cw cy tE a rw)) := by
  refine Ct.ofZ RX5 "readCondition" [(0, .ref (a 2))] rfl rfl rfl rfl (Nat.le_of_ble_eq_true rfl) ?_
  intro p e R s m args below meth c A b
  refine z_aload_n b dX5_readCondition_0 rfl rfl ?_
  refine z_iconst (v := 0) b dX5_readCondition_1 (by decide) ?_
  refine z_calli b (z_runV (q0 := 2) (As := [.int 0]) (st := []) b (c_X5_readEither S h_i_1 h_i_7 h_a_1_0 h_a_2_0) cf_X5_readEither (cw_2 cy tE a rw S) rfl wm_X5_112 wi_X5_readEither ws_X5_readEither dX5_readCondition_2 rfl (Nat.le_of_ble_eq_true rfl) ⟨by decide, by decide, by decide, by decide⟩) (fun r3530 u3531 h3529 => ?_)
  obtain ⟨rfl, rfl⟩ := h3529
  refine z_if_eq_t (tgt := 19) b dX5_readCondition_5 (by decide) (by decide) ?_
  refine z_iconst (v := 0) b dX5_readCondition_19 (by decide) ?_
  exact z_zret (u := (si (si S 5 1) 6 0)) b rfl (by decide) dX5_readCondition_20 ⟨rfl, rfl⟩ rfl (by decide) (by decide)

set_option maxHeartbeats 4000000 in
set_option maxRecDepth 100000 in
theorem c_X11_never {l : Launch} {D : va_G} {cy : Nat → ClassId} {T0 tB tE : Nat} {a : Nat → Nat} {rw : Nat → Option Nat} (S : GS)  (h_i_0 : fi S 0 = 0) (h_i_7 : fi S 7 = 0) (h_a_1_0 : ar S 1 0 = 0) (h_a_2_0 : ar S 2 0 = 0) (h_A_1_0 : al S 1 0 = 0) (h_i_1 : fi S 1 = 0) (h_i_2 : fi S 2 = 0) (h_i_8 : fi S 8 = 0) (h_i_9 : fi S 9 = 0) (h_i_5 : fi S 5 = 0) (h_i_6 : fi S 6 = (-1)) (h_i_11 : fi S 11 = 0) : Ct l D cy T0 tB tE yX11_never cX11_never 1 (some .int) 6 133 0 0 (cw cy tE a rw S) [.ref (a 0)] (QI D (U := GS) (fun r u => (-1) = r ∧ si (si (si (si S 7 1) 8 1) 5 1) 6 0 = u) (cw cy tE a rw)) := by
  refine Ct.ofZ RX11 "never" [(0, .ref (a 0))] rfl rfl rfl rfl (Nat.le_of_ble_eq_true rfl) ?_
  intro p e R s m args below meth c A b
  refine z_aload_n b dX11_never_0 rfl rfl ?_
  refine z_callv b (z_runV (q0 := 0) (As := []) (st := []) b (c_X11_takeTape S h_i_0 h_i_7 h_a_1_0 h_a_2_0 h_A_1_0 h_i_1 h_i_2 h_i_8 h_i_9 h_i_5 h_i_6) cf_X11_takeTape (cw_0 cy tE a rw S) rfl wm_X11_93 wi_X11_takeTape ws_X11_takeTape dX11_never_1 rfl (Nat.le_of_ble_eq_true rfl) ⟨by decide, by decide, by decide, by decide⟩) (fun u3507 h3505 => ?_)
  obtain rfl := h3505
  refine z_aload_n b dX11_never_4 rfl rfl ?_
  refine z_get (q0 := 0) (k9 := 3) (v := .ref (a 10)) b (cw_0 cy tE a rw (si (si S 7 1) 8 1)) rfl in_X11 (by decide) wf_X11_27 rfl dX11_never_5 ?_
  refine z_get (q0 := 10) (k9 := 1) (v := .ref (a 12)) b (cw_10 cy tE a rw (si (si S 7 1) 8 1)) rfl in_X4 (by decide) wf_X11_122 rfl dX11_never_8 ?_
  refine z_calli b (z_runV (q0 := 12) (As := []) (st := []) b (c_Jx4a65c_size_8abf5_2 (si (si S 7 1) 8 1) h_i_11) cf_Jx4a65c_size_8abf5 (cw_12 cy tE a rw (si (si S 7 1) 8 1)) rfl wm_X11_117 wi_Jx4a65c_size_8abf5 ws_Jx4a65c_size_8abf5 dX11_never_11 rfl (Nat.le_of_ble_eq_true rfl) ⟨by decide, by decide, by decide, by decide⟩) (fun r3509 u3510 h3508 => ?_)
  obtain ⟨rfl, rfl⟩ := h3508
  refine z_bipush (v := 6) b dX11_never_14 (by decide) ?_
  refine z_icmp_ge_f (tgt := 29) b dX11_never_16 (by decide) (by decide) ?_
  refine z_aload_n b dX11_never_19 rfl rfl ?_
  refine z_get (q0 := 0) (k9 := 2) (v := .ref (a 2)) b (cw_0 cy tE a rw (si (si S 7 1) 8 1)) rfl in_X11 (by decide) wf_X11_20 rfl dX11_never_20 ?_
  refine z_calli b (z_runV (q0 := 2) (As := []) (st := []) b (c_X5_readCondition (si (si S 7 1) 8 1) h_i_1 rfl h_a_1_0 h_a_2_0) cf_X5_readCondition (cw_2 cy tE a rw (si (si S 7 1) 8 1)) rfl wm_X11_125 wi_X5_readCondition ws_X5_readCondition dX11_never_23 rfl (Nat.le_of_ble_eq_true rfl) ⟨by decide, by decide, by decide, by decide⟩) (fun r3533 u3534 h3532 => ?_)
  obtain ⟨rfl, rfl⟩ := h3532
  refine z_if_ne_f (tgt := 31) b dX11_never_26 (by decide) (by decide) ?_
  refine z_iconst (v := (-1)) b dX11_never_29 (by decide) ?_
  exact z_iret (u := (si (si (si (si S 7 1) 8 1) 5 1) 6 0)) b rfl dX11_never_30 ⟨rfl, rfl⟩ rfl (by decide) (by decide)

set_option maxHeartbeats 4000000 in
set_option maxRecDepth 100000 in
theorem c_X12_bad {l : Launch} {D : va_G} {cy : Nat → ClassId} {T0 tB tE : Nat} {a : Nat → Nat} (S : GS)  (h_i_4 : fi S 4 = 0) (h_i_7 : fi S 7 = 0) : Ct l D cy T0 tB tE yX12_bad cX12_bad 2 (some .boolean) 0 0 0 0 (mw cy a S) [.ref (a 0), .int 1] (QI D (U := GS) (fun r u => 0 = r ∧ si S 6 1 = u) (mw cy a)) := by
  refine Ct.ofZ RX12 "bad" [(0, .ref (a 0)), (1, .int 1)] rfl rfl rfl rfl (Nat.le_of_ble_eq_true rfl) ?_
  intro p e R s m args below meth c A b
  refine z_aload_n b dX12_bad_0 rfl rfl ?_
  refine z_iload_n b dX12_bad_1 rfl rfl ?_
  refine z_put (q0 := 0) (k9 := 30) tyX12 b (mw_0 cy a S) rfl in_X12 tyX12_ok nmX12 (by decide) wf_X12_257 rfl rfl rfl rfl (Nat.le_of_ble_eq_true rfl) dX12_bad_2 (mwp_0_30 cy a S 1) ?_
  refine z_aload_n b dX12_bad_5 rfl rfl ?_
  refine z_aload_n b dX12_bad_6 rfl rfl ?_
  refine z_get (q0 := 0) (k9 := 28) (v := .int (fi (si S 6 1) 4)) b (mw_0 cy a (si S 6 1)) rfl in_X12 (by decide) wf_X12_188 rfl dX12_bad_7 ?_
  refine z_eqi h_i_4 ?_
  refine z_put (q0 := 0) (k9 := 31) tyX12 b (mw_0 cy a (si S 6 1)) rfl in_X12 tyX12_ok nmX12 (by decide) wf_X12_260 rfl rfl rfl rfl (Nat.le_of_ble_eq_true rfl) dX12_bad_10 ((mwp_0_31 cy a (si S 6 1) 0).trans (congrArg (mw cy a) (si_same h_i_7))) ?_
  refine z_iconst (v := 0) b dX12_bad_13 (by decide) ?_
  exact z_zret (u := (si S 6 1)) b rfl (by decide) dX12_bad_14 ⟨rfl, rfl⟩ rfl (by decide) (by decide)

set_option maxHeartbeats 4000000 in
set_option maxRecDepth 100000 in
theorem c_X12_unit {l : Launch} {D : va_G} {cy : Nat → ClassId} {T0 tB tE : Nat} {a : Nat → Nat} (S : GS)  (h_i_3 : fi S 3 = 0) (h_i_4 : fi S 4 = 0) (h_i_7 : fi S 7 = 0) : Ct l D cy T0 tB tE yX12_unit cX12_unit 3 (some .boolean) 1 21 0 0 (mw cy a S) [.ref (a 0)] (QI D (U := GS) (fun r u => 0 = r ∧ si S 6 1 = u) (mw cy a)) := by
  refine Ct.ofZ RX12 "unit" [(0, .ref (a 0))] rfl rfl rfl rfl (Nat.le_of_ble_eq_true rfl) ?_
  intro p e R s m args below meth c A b
  refine z_aload_n b dX12_unit_0 rfl rfl ?_
  refine z_get (q0 := 0) (k9 := 27) (v := .int (fi S 3)) b (mw_0 cy a S) rfl in_X12 (by decide) wf_X12_242 rfl dX12_unit_1 ?_
  refine z_eqi h_i_3 ?_
  refine z_istore_n (lv' := [(1, .int 0), (0, .ref (a 0))]) b dX12_unit_4 rfl (by decide) rfl ?_
  refine z_iload_n b dX12_unit_5 rfl rfl ?_
  refine z_iconst (v := 2) b dX12_unit_6 (by decide) ?_
  refine z_icmp_eq_f (tgt := 17) b dX12_unit_7 (by decide) (by decide) ?_
  refine z_iload_n b dX12_unit_10 rfl rfl ?_
  refine z_sipush (v := 311) b dX12_unit_11 (by decide) ?_
  refine z_icmp_ne_t (tgt := 44) b dX12_unit_14 (by decide) (by decide) ?_
  refine z_iload_n b dX12_unit_44 rfl rfl ?_
  refine z_sipush (v := 304) b dX12_unit_45 (by decide) ?_
  refine z_icmp_ne_t (tgt := 55) b dX12_unit_48 (by decide) (by decide) ?_
  refine z_iload_n b dX12_unit_55 rfl rfl ?_
  refine z_sipush (v := 305) b dX12_unit_56 (by decide) ?_
  refine z_icmp_ne_t (tgt := 66) b dX12_unit_59 (by decide) (by decide) ?_
  refine z_iload_n b dX12_unit_66 rfl rfl ?_
  refine z_sipush (v := 308) b dX12_unit_67 (by decide) ?_
  refine z_icmp_ne_t (tgt := 77) b dX12_unit_70 (by decide) (by decide) ?_
  refine z_iload_n b dX12_unit_77 rfl rfl ?_
  refine z_sipush (v := 315) b dX12_unit_78 (by decide) ?_
  refine z_icmp_ne_t (tgt := 88) b dX12_unit_81 (by decide) (by decide) ?_
  refine z_iload_n b dX12_unit_88 rfl rfl ?_
  refine z_sipush (v := 316) b dX12_unit_89 (by decide) ?_
  refine z_icmp_ne_t (tgt := 99) b dX12_unit_92 (by decide) (by decide) ?_
  refine z_iload_n b dX12_unit_99 rfl rfl ?_
  refine z_sipush (v := 317) b dX12_unit_100 (by decide) ?_
  refine z_icmp_ne_t (tgt := 111) b dX12_unit_103 (by decide) (by decide) ?_
  refine z_iconst (v := (-1)) b dX12_unit_111 (by decide) ?_
  refine z_istore_n (lv' := [(2, .int (-1)), (1, .int 0), (0, .ref (a 0))]) b dX12_unit_112 rfl (by decide) rfl ?_
  refine z_iload_n b dX12_unit_113 rfl rfl ?_
  refine z_iconst (v := (-1)) b dX12_unit_114 (by decide) ?_
  refine z_icmp_ne_f (tgt := 124) b dX12_unit_115 (by decide) (by decide) ?_
  refine z_aload_n b dX12_unit_118 rfl rfl ?_
  refine z_iconst (v := 1) b dX12_unit_119 (by decide) ?_
  refine z_calli b (z_runV (q0 := 0) (As := [.int 1]) (st := []) b (c_X12_bad S h_i_4 h_i_7) cf_X12_bad (mw_0 cy a S) rfl wm_X12_263 wi_X12_bad ws_X12_bad dX12_unit_120 rfl (Nat.le_of_ble_eq_true rfl) ⟨by decide, by decide, by decide, by decide⟩) (fun r3539 u3540 h3538 => ?_)
  obtain ⟨rfl, rfl⟩ := h3538
  exact z_zret (u := (si S 6 1)) b rfl (by decide) dX12_unit_123 ⟨rfl, rfl⟩ rfl (by decide) (by decide)

set_option maxHeartbeats 4000000 in
set_option maxRecDepth 100000 in
theorem c_X12_product {l : Launch} {D : va_G} {cy : Nat → ClassId} {T0 tB tE : Nat} {a : Nat → Nat} (S : GS)  (h_i_3 : fi S 3 = 0) (h_i_4 : fi S 4 = 0) (h_i_7 : fi S 7 = 0) : Ct l D cy T0 tB tE yX12_product cX12_product 1 (some .boolean) 2 43 0 0 (mw cy a S) [.ref (a 0)] (QI D (U := GS) (fun r u => 0 = r ∧ si S 6 1 = u) (mw cy a)) := by
  refine Ct.ofZ RX12 "product" [(0, .ref (a 0))] rfl rfl rfl rfl (Nat.le_of_ble_eq_true rfl) ?_
  intro p e R s m args below meth c A b
  refine z_aload_n b dX12_product_0 rfl rfl ?_
  refine z_calli b (z_runV (q0 := 0) (As := []) (st := []) b (c_X12_unit S h_i_3 h_i_4 h_i_7) cf_X12_unit (mw_0 cy a S) rfl wm_X12_292 wi_X12_unit ws_X12_unit dX12_product_1 rfl (Nat.le_of_ble_eq_true rfl) ⟨by decide, by decide, by decide, by decide⟩) (fun r3542 u3543 h3541 => ?_)
  obtain ⟨rfl, rfl⟩ := h3541
  refine z_if_ne_f (tgt := 9) b dX12_product_4 (by decide) (by decide) ?_
  refine z_iconst (v := 0) b dX12_product_7 (by decide) ?_
  exact z_zret (u := (si S 6 1)) b rfl (by decide) dX12_product_8 ⟨rfl, rfl⟩ rfl (by decide) (by decide)

set_option maxHeartbeats 4000000 in
set_option maxRecDepth 100000 in
theorem c_X12_sumUp {l : Launch} {D : va_G} {cy : Nat → ClassId} {T0 tB tE : Nat} {a : Nat → Nat} (S : GS)  (h_i_3 : fi S 3 = 0) (h_i_4 : fi S 4 = 0) (h_i_7 : fi S 7 = 0) : Ct l D cy T0 tB tE yX12_sumUp cX12_sumUp 2 (some .boolean) 3 63 0 0 (mw cy a S) [.ref (a 0)] (QI D (U := GS) (fun r u => 0 = r ∧ si S 6 1 = u) (mw cy a)) := by
  refine Ct.ofZ RX12 "sumUp" [(0, .ref (a 0))] rfl rfl rfl rfl (Nat.le_of_ble_eq_true rfl) ?_
  intro p e R s m args below meth c A b
  refine z_aload_n b dX12_sumUp_0 rfl rfl ?_
  refine z_calli b (z_runV (q0 := 0) (As := []) (st := []) b (c_X12_product S h_i_3 h_i_4 h_i_7) cf_X12_product (mw_0 cy a S) rfl wm_X12_285 wi_X12_product ws_X12_product dX12_sumUp_1 rfl (Nat.le_of_ble_eq_true rfl) ⟨by decide, by decide, by decide, by decide⟩) (fun r3545 u3546 h3544 => ?_)
  obtain ⟨rfl, rfl⟩ := h3544
  refine z_if_ne_f (tgt := 9) b dX12_sumUp_4 (by decide) (by decide) ?_
  refine z_iconst (v := 0) b dX12_sumUp_7 (by decide) ?_
  exact z_zret (u := (si S 6 1)) b rfl (by decide) dX12_sumUp_8 ⟨rfl, rfl⟩ rfl (by decide) (by decide)

set_option maxHeartbeats 4000000 in
set_option maxRecDepth 100000 in
theorem c_X12_single {l : Launch} {D : va_G} {cy : Nat → ClassId} {T0 tB tE : Nat} {a : Nat → Nat} (S : GS)  (h_i_3 : fi S 3 = 0) (h_i_4 : fi S 4 = 0) (h_i_7 : fi S 7 = 0) : Ct l D cy T0 tB tE yX12_single cX12_single 2 (some .boolean) 4 84 0 0 (mw cy a S) [.ref (a 0)] (QI D (U := GS) (fun r u => 0 = r ∧ si S 6 1 = u) (mw cy a)) := by
  refine Ct.ofZ RX12 "single" [(0, .ref (a 0))] rfl rfl rfl rfl (Nat.le_of_ble_eq_true rfl) ?_
  intro p e R s m args below meth c A b
  refine z_aload_n b dX12_single_0 rfl rfl ?_
  refine z_get (q0 := 0) (k9 := 27) (v := .int (fi S 3)) b (mw_0 cy a S) rfl in_X12 (by decide) wf_X12_242 rfl dX12_single_1 ?_
  refine z_eqi h_i_3 ?_
  refine z_sipush (v := 314) b dX12_single_4 (by decide) ?_
  refine z_icmp_ne_t (tgt := 45) b dX12_single_7 (by decide) (by decide) ?_
  refine z_aload_n b dX12_single_45 rfl rfl ?_
  refine z_get (q0 := 0) (k9 := 27) (v := .int (fi S 3)) b (mw_0 cy a S) rfl in_X12 (by decide) wf_X12_242 rfl dX12_single_46 ?_
  refine z_eqi h_i_3 ?_
  refine z_bipush (v := 40) b dX12_single_49 (by decide) ?_
  refine z_icmp_ne_t (tgt := 91) b dX12_single_51 (by decide) (by decide) ?_
  refine z_aload_n b dX12_single_91 rfl rfl ?_
  refine z_calli b (z_runV (q0 := 0) (As := []) (st := []) b (c_X12_sumUp S h_i_3 h_i_4 h_i_7) cf_X12_sumUp (mw_0 cy a S) rfl wm_X12_315 wi_X12_sumUp ws_X12_sumUp dX12_single_92 rfl (Nat.le_of_ble_eq_true rfl) ⟨by decide, by decide, by decide, by decide⟩) (fun r3548 u3549 h3547 => ?_)
  obtain ⟨rfl, rfl⟩ := h3547
  refine z_if_ne_f (tgt := 100) b dX12_single_95 (by decide) (by decide) ?_
  refine z_iconst (v := 0) b dX12_single_98 (by decide) ?_
  exact z_zret (u := (si S 6 1)) b rfl (by decide) dX12_single_99 ⟨rfl, rfl⟩ rfl (by decide) (by decide)

set_option maxHeartbeats 4000000 in
set_option maxRecDepth 100000 in
theorem c_X12_every {l : Launch} {D : va_G} {cy : Nat → ClassId} {T0 tB tE : Nat} {a : Nat → Nat} (S : GS)  (h_i_3 : fi S 3 = 0) (h_i_4 : fi S 4 = 0) (h_i_7 : fi S 7 = 0) : Ct l D cy T0 tB tE yX12_every cX12_every 1 (some .boolean) 5 105 0 0 (mw cy a S) [.ref (a 0)] (QI D (U := GS) (fun r u => 0 = r ∧ si S 6 1 = u) (mw cy a)) := by
  refine Ct.ofZ RX12 "every" [(0, .ref (a 0))] rfl rfl rfl rfl (Nat.le_of_ble_eq_true rfl) ?_
  intro p e R s m args below meth c A b
  refine z_aload_n b dX12_every_0 rfl rfl ?_
  refine z_calli b (z_runV (q0 := 0) (As := []) (st := []) b (c_X12_single S h_i_3 h_i_4 h_i_7) cf_X12_single (mw_0 cy a S) rfl wm_X12_304 wi_X12_single ws_X12_single dX12_every_1 rfl (Nat.le_of_ble_eq_true rfl) ⟨by decide, by decide, by decide, by decide⟩) (fun r3551 u3552 h3550 => ?_)
  obtain ⟨rfl, rfl⟩ := h3550
  refine z_if_ne_f (tgt := 9) b dX12_every_4 (by decide) (by decide) ?_
  refine z_iconst (v := 0) b dX12_every_7 (by decide) ?_
  exact z_zret (u := (si S 6 1)) b rfl (by decide) dX12_every_8 ⟨rfl, rfl⟩ rfl (by decide) (by decide)

set_option maxHeartbeats 4000000 in
set_option maxRecDepth 100000 in
theorem c_X12_any {l : Launch} {D : va_G} {cy : Nat → ClassId} {T0 tB tE : Nat} {a : Nat → Nat} (S : GS)  (h_i_3 : fi S 3 = 0) (h_i_4 : fi S 4 = 0) (h_i_7 : fi S 7 = 0) : Ct l D cy T0 tB tE yX12_any cX12_any 1 (some .boolean) 6 125 0 0 (mw cy a S) [.ref (a 0)] (QI D (U := GS) (fun r u => 0 = r ∧ si S 6 1 = u) (mw cy a)) := by
  refine Ct.ofZ RX12 "any" [(0, .ref (a 0))] rfl rfl rfl rfl (Nat.le_of_ble_eq_true rfl) ?_
  intro p e R s m args below meth c A b
  refine z_aload_n b dX12_any_0 rfl rfl ?_
  refine z_calli b (z_runV (q0 := 0) (As := []) (st := []) b (c_X12_every S h_i_3 h_i_4 h_i_7) cf_X12_every (mw_0 cy a S) rfl wm_X12_301 wi_X12_every ws_X12_every dX12_any_1 rfl (Nat.le_of_ble_eq_true rfl) ⟨by decide, by decide, by decide, by decide⟩) (fun r3554 u3555 h3553 => ?_)
  obtain ⟨rfl, rfl⟩ := h3553
  refine z_if_ne_f (tgt := 9) b dX12_any_4 (by decide) (by decide) ?_
  refine z_iconst (v := 0) b dX12_any_7 (by decide) ?_
  exact z_zret (u := (si S 6 1)) b rfl (by decide) dX12_any_8 ⟨rfl, rfl⟩ rfl (by decide) (by decide)

set_option maxHeartbeats 4000000 in
set_option maxRecDepth 100000 in
theorem c_X12_asked {l : Launch} {D : va_G} {cy : Nat → ClassId} {T0 tB tE : Nat} {a : Nat → Nat} (S : GS)  (h_i_9 : fi S 9 = 0) (h_i_3 : fi S 3 = 0) (h_i_4 : fi S 4 = 0) (h_i_7 : fi S 7 = 0) : Ct l D cy T0 tB tE yX12_asked cX12_asked 1 (some .boolean) 7 145 0 0 (mw cy a S) [.ref (a 0)] (QI D (U := GS) (fun r u => 0 = r ∧ si S 6 1 = u) (mw cy a)) := by
  refine Ct.ofZ RX12 "asked" [(0, .ref (a 0))] rfl rfl rfl rfl (Nat.le_of_ble_eq_true rfl) ?_
  intro p e R s m args below meth c A b
  refine z_aload_n b dX12_asked_0 rfl rfl ?_
  refine z_iconst (v := 0) b dX12_asked_1 (by decide) ?_
  refine z_put (q0 := 0) (k9 := 33) tyX12 b (mw_0 cy a S) rfl in_X12 tyX12_ok nmX12 (by decide) wf_X12_282 rfl rfl rfl rfl (Nat.le_of_ble_eq_true rfl) dX12_asked_2 ((mwp_0_33 cy a S 0).trans (congrArg (mw cy a) (si_same h_i_9))) ?_
  refine z_aload_n b dX12_asked_5 rfl rfl ?_
  refine z_calli b (z_runV (q0 := 0) (As := []) (st := []) b (c_X12_any S h_i_3 h_i_4 h_i_7) cf_X12_any (mw_0 cy a S) rfl wm_X12_310 wi_X12_any ws_X12_any dX12_asked_6 rfl (Nat.le_of_ble_eq_true rfl) ⟨by decide, by decide, by decide, by decide⟩) (fun r3557 u3558 h3556 => ?_)
  obtain ⟨rfl, rfl⟩ := h3556
  exact z_zret (u := (si S 6 1)) b rfl (by decide) dX12_asked_9 ⟨rfl, rfl⟩ rfl (by decide) (by decide)

set_option maxHeartbeats 4000000 in
set_option maxRecDepth 100000 in
theorem c_X12_ends_2 {l : Launch} {D : va_G} {cy : Nat → ClassId} {T0 tB tE : Nat} {a : Nat → Nat} (S : GS)  (h_i_1 : fi S 1 = 0) (h_i_6 : fi S 6 = 1) (h_i_7 : fi S 7 = 0) : Ct l D cy T0 tB tE yX12_ends cX12_ends 1 none 0 0 0 0 (mw cy a S) [.ref (a 0)] (QV D (U := GS) (fun u => si (si S 8 1) 13 0 = u) (mw cy a)) := by
  refine Ct.ofZ RX12 "ends" [(0, .ref (a 0))] rfl rfl rfl rfl (Nat.le_of_ble_eq_true rfl) ?_
  intro p e R s m args below meth c A b
  refine z_aload_n b dX12_ends_0 rfl rfl ?_
  refine z_iconst (v := 0) b dX12_ends_1 (by decide) ?_
  refine z_put (q0 := 0) (k9 := 25) tyX12 b (mw_0 cy a S) rfl in_X12 tyX12_ok nmX12 (by decide) wf_X12_182 rfl rfl rfl rfl (Nat.le_of_ble_eq_true rfl) dX12_ends_2 ((mwp_0_25 cy a S 0).trans (congrArg (mw cy a) (si_same h_i_1))) ?_
  refine z_aload_n b dX12_ends_5 rfl rfl ?_
  refine z_aload_n b dX12_ends_6 rfl rfl ?_
  refine z_get (q0 := 0) (k9 := 30) (v := .int (fi S 6)) b (mw_0 cy a S) rfl in_X12 (by decide) wf_X12_257 rfl dX12_ends_7 ?_
  refine z_eqi h_i_6 ?_
  refine z_put (q0 := 0) (k9 := 32) tyX12 b (mw_0 cy a S) rfl in_X12 tyX12_ok nmX12 (by decide) wf_X12_333 rfl rfl rfl rfl (Nat.le_of_ble_eq_true rfl) dX12_ends_10 (mwp_0_32 cy a S 1) ?_
  refine z_aload_n b dX12_ends_13 rfl rfl ?_
  refine z_aload_n b dX12_ends_14 rfl rfl ?_
  refine z_get (q0 := 0) (k9 := 30) (v := .int (fi (si S 8 1) 6)) b (mw_0 cy a (si S 8 1)) rfl in_X12 (by decide) wf_X12_257 rfl dX12_ends_15 ?_
  refine z_eqi h_i_6 ?_
  refine z_if_ne_t (tgt := 25) b dX12_ends_18 (by decide) (by decide) ?_
  refine z_aload_n b dX12_ends_25 rfl rfl ?_
  refine z_get (q0 := 0) (k9 := 31) (v := .int (fi (si S 8 1) 7)) b (mw_0 cy a (si S 8 1)) rfl in_X12 (by decide) wf_X12_260 rfl dX12_ends_26 ?_
  refine z_eqi h_i_7 ?_
  refine z_put (q0 := 0) (k9 := 37) tyX12 b (mw_0 cy a (si S 8 1)) rfl in_X12 tyX12_ok nmX12 (by decide) wf_X12_84 rfl rfl rfl rfl (Nat.le_of_ble_eq_true rfl) dX12_ends_29 (mwp_0_37 cy a (si S 8 1) 0) ?_
  exact z_vret (u := (si (si S 8 1) 13 0)) b rfl dX12_ends_32 rfl rfl (by decide) (by decide)

set_option maxHeartbeats 4000000 in
set_option maxRecDepth 100000 in
theorem c_X12_reads {l : Launch} {D : va_G} {cy : Nat → ClassId} {T0 tB tE : Nat} {a : Nat → Nat} (S : GS)  (h_i_6 : fi S 6 = 0) (h_i_2 : fi S 2 = 0) (h_i_12 : fi S 12 = 0) (h_a_6_13 : ar S 6 13 = 0) (h_i_1 : fi S 1 = 0) (h_i_4 : fi S 4 = 0) (h_i_3 : fi S 3 = 0) (h_i_9 : fi S 9 = 0) (h_i_7 : fi S 7 = 0) : Ct l D cy T0 tB tE yX12_reads cX12_reads 2 (some .boolean) 8 165 0 0 (mw cy a S) [.ref (a 0)] (QI D (U := GS) (fun r u => 0 = r ∧ si (si (si S 6 1) 8 1) 13 0 = u) (mw cy a)) := by
  refine Ct.ofZ RX12 "reads" [(0, .ref (a 0))] rfl rfl rfl rfl (Nat.le_of_ble_eq_true rfl) ?_
  intro p e R s m args below meth c A b
  refine z_aload_n b dX12_reads_0 rfl rfl ?_
  refine z_callv b (z_runV (q0 := 0) (As := []) (st := []) b (c_X12_begins S h_i_6 h_i_2 h_i_12 h_a_6_13 h_i_1 h_i_4 h_i_3) cf_X12_begins (mw_0 cy a S) rfl wm_X12_339 wi_X12_begins ws_X12_begins dX12_reads_1 rfl (Nat.le_of_ble_eq_true rfl) ⟨by decide, by decide, by decide, by decide⟩) (fun u3537 h3535 => ?_)
  obtain rfl := h3535
  refine z_aload_n b dX12_reads_4 rfl rfl ?_
  refine z_calli b (z_runV (q0 := 0) (As := []) (st := []) b (c_X12_asked S h_i_9 h_i_3 h_i_4 h_i_7) cf_X12_asked (mw_0 cy a S) rfl wm_X12_327 wi_X12_asked ws_X12_asked dX12_reads_5 rfl (Nat.le_of_ble_eq_true rfl) ⟨by decide, by decide, by decide, by decide⟩) (fun r3560 u3561 h3559 => ?_)
  obtain ⟨rfl, rfl⟩ := h3559
  refine z_if_eq_t (tgt := 30) b dX12_reads_8 (by decide) (by decide) ?_
  refine z_iconst (v := 0) b dX12_reads_30 (by decide) ?_
  refine z_istore_n (lv' := [(1, .int 0), (0, .ref (a 0))]) b dX12_reads_31 rfl (by decide) rfl ?_
  refine z_aload_n b dX12_reads_32 rfl rfl ?_
  refine z_callv b (z_runV (q0 := 0) (As := []) (st := []) b (c_X12_ends_2 (si S 6 1) h_i_1 rfl h_i_7) cf_X12_ends (mw_0 cy a (si S 6 1)) rfl wm_X12_336 wi_X12_ends ws_X12_ends dX12_reads_33 rfl (Nat.le_of_ble_eq_true rfl) ⟨by decide, by decide, by decide, by decide⟩) (fun u3564 h3562 => ?_)
  obtain rfl := h3562
  refine z_iload_n b dX12_reads_36 rfl rfl ?_
  exact z_zret (u := (si (si (si S 6 1) 8 1) 13 0)) b rfl (by decide) dX12_reads_37 ⟨rfl, rfl⟩ rfl (by decide) (by decide)

set_option maxHeartbeats 4000000 in
set_option maxRecDepth 100000 in
theorem c_X12_never {l : Launch} {D : va_G} {cy : Nat → ClassId} {T0 tB tE : Nat} {a : Nat → Nat} (S : GS)  (h_i_6 : fi S 6 = 0) (h_i_16 : fi S 16 = 0) (h_i_2 : fi S 2 = 0) (h_i_12 : fi S 12 = 0) (h_a_6_13 : ar S 6 13 = 0) (h_i_1 : fi S 1 = 0) (h_i_4 : fi S 4 = 0) (h_i_3 : fi S 3 = 0) (h_i_9 : fi S 9 = 0) (h_i_7 : fi S 7 = 0) : Ct l D cy T0 tB tE yX12_never cX12_never 1 (some .int) 9 186 0 0 (mw cy a S) [.ref (a 0)] (QI D (U := GS) (fun r u => (-1) = r ∧ si (si (si S 6 1) 8 1) 13 0 = u) (mw cy a)) := by
  refine Ct.ofZ RX12 "never" [(0, .ref (a 0))] rfl rfl rfl rfl (Nat.le_of_ble_eq_true rfl) ?_
  intro p e R s m args below meth c A b
  refine z_aload_n b dX12_never_0 rfl rfl ?_
  refine z_iconst (v := 0) b dX12_never_1 (by decide) ?_
  refine z_put (q0 := 0) (k9 := 30) tyX12 b (mw_0 cy a S) rfl in_X12 tyX12_ok nmX12 (by decide) wf_X12_257 rfl rfl rfl rfl (Nat.le_of_ble_eq_true rfl) dX12_never_2 ((mwp_0_30 cy a S 0).trans (congrArg (mw cy a) (si_same h_i_6))) ?_
  refine z_aload_n b dX12_never_5 rfl rfl ?_
  refine z_get (q0 := 0) (k9 := 40) (v := .int (fi S 16)) b (mw_0 cy a S) rfl in_X12 (by decide) wf_X12_352 rfl dX12_never_6 ?_
  refine z_eqi h_i_16 ?_
  refine z_bipush (v := 6) b dX12_never_9 (by decide) ?_
  refine z_icmp_ne_t (tgt := 20) b dX12_never_11 (by decide) (by decide) ?_
  refine z_aload_n b dX12_never_20 rfl rfl ?_
  refine z_calli b (z_runV (q0 := 0) (As := []) (st := []) b (c_X12_reads S h_i_6 h_i_2 h_i_12 h_a_6_13 h_i_1 h_i_4 h_i_3 h_i_9 h_i_7) cf_X12_reads (mw_0 cy a S) rfl wm_X12_355 wi_X12_reads ws_X12_reads dX12_never_21 rfl (Nat.le_of_ble_eq_true rfl) ⟨by decide, by decide, by decide, by decide⟩) (fun r3566 u3567 h3565 => ?_)
  obtain ⟨rfl, rfl⟩ := h3565
  refine z_if_ne_f (tgt := 29) b dX12_never_24 (by decide) (by decide) ?_
  refine z_iconst (v := (-1)) b dX12_never_27 (by decide) ?_
  exact z_iret (u := (si (si (si S 6 1) 8 1) 13 0)) b rfl dX12_never_28 ⟨rfl, rfl⟩ rfl (by decide) (by decide)

set_option maxHeartbeats 4000000 in
set_option maxRecDepth 100000 in
theorem c_Jx4a65c_size_8abf5_3 {l : Launch} {D : va_G} {cy : Nat → ClassId} {T0 tB tE : Nat} {a : Nat → Nat} {rw : Nat → Option Nat} (S : GS)  (h_i_13 : fi S 13 = 0) : Ct l D cy T0 tB tE yJx4a65c_size_8abf5 cJx4a65c_size_8abf5 1 (some .int) 0 0 0 0 (cw cy tE a rw S) [.ref (a 13)] (QI D (U := GS) (fun r u => 0 = r ∧ S = u) (cw cy tE a rw)) := by
  refine Ct.ofZ RJx4a65c "size" [(0, .ref (a 13))] rfl rfl rfl rfl (Nat.le_of_ble_eq_true rfl) ?_
  intro p e R s m args below meth c A b
  refine z_aload_n b dJx4a65c_size_8abf5_0 rfl rfl ?_
  refine z_get (q0 := 13) (k9 := 2) (v := .int (fi S 13)) b (cw_13 cy tE a rw S) rfl in_Jx4a65c (by decide) wf_Jx4a65c_48 rfl dJx4a65c_size_8abf5_1 ?_
  refine z_eqi h_i_13 ?_
  exact z_iret (u := S) b rfl dJx4a65c_size_8abf5_4 ⟨rfl, rfl⟩ rfl (by decide) (by decide)

set_option maxHeartbeats 4000000 in
set_option maxRecDepth 100000 in
theorem c_X11_isWithin_17 {l : Launch} {D : va_G} {cy : Nat → ClassId} {T0 tB tE : Nat} {a : Nat → Nat} {rw : Nat → Option Nat} (S : GS) (p0 : Int32)  (hr_p0 : (-2147483648) ≤ p0.toInt ∧ p0.toInt ≤ (-1)) : Ct l D cy T0 tB tE yX11_isWithin cX11_isWithin 2 (some .boolean) 0 0 0 0 (cw cy tE a rw S) [.int p0, .int 11] (QI D (U := GS) (fun r u => 0 = r ∧ S = u) (cw cy tE a rw)) := by
  refine Ct.ofZ RX11 "isWithin" [(0, .int p0), (1, .int 11)] rfl rfl rfl rfl (Nat.le_of_ble_eq_true rfl) ?_
  intro p e R s m args below meth c A b
  refine z_iload_n b dX11_isWithin_0 rfl rfl ?_
  refine y_if_lt (tgt := 13) (xl := p0.toInt) b rfl dX11_isWithin_1 (by decide) (fun c3574 => ?_) (fun c3574 => ?_)
  · refine z_iconst (v := 0) b dX11_isWithin_13 (by decide) ?_
    exact z_zret (u := S) b rfl (by decide) dX11_isWithin_14 ⟨rfl, rfl⟩ rfl (by decide) (by decide)
  · exfalso; omega

set_option maxHeartbeats 4000000 in
set_option maxRecDepth 100000 in
theorem c_X11_cure {l : Launch} {D : va_G} {cy : Nat → ClassId} {T0 tB tE : Nat} {a : Nat → Nat} {rw : Nat → Option Nat} (S : GS) (p0 : Int32) (h_i_0 : fi S 0 = 0) (h_i_7 : fi S 7 = 0) (h_a_1_0 : ar S 1 0 = 0) (h_a_2_0 : ar S 2 0 = 0) (h_A_1_0 : al S 1 0 = 0) (h_i_1 : fi S 1 = 0) (h_i_2 : fi S 2 = 0) (h_i_8 : fi S 8 = 0) (h_i_9 : fi S 9 = 0) (h_i_5 : fi S 5 = 0) (h_i_6 : fi S 6 = (-1)) (h_i_13 : fi S 13 = 0) (hr_p0 : (-2147483648) ≤ p0.toInt ∧ p0.toInt ≤ (-1)) : Ct l D cy T0 tB tE yX11_cure cX11_cure 2 (some .int) 4 94 0 0 (cw cy tE a rw S) [.ref (a 0), .int p0] (QI D (U := GS) (fun r u => (-1) = r ∧ (si (si S 7 1) 8 1) = u) (cw cy tE a rw)) := by
  refine Ct.ofZ RX11 "cure" [(0, .ref (a 0)), (1, .int p0)] rfl rfl rfl rfl (Nat.le_of_ble_eq_true rfl) ?_
  intro p e R s m args below meth c A b
  refine z_aload_n b dX11_cure_0 rfl rfl ?_
  refine z_callv b (z_runV (q0 := 0) (As := []) (st := []) b (c_X11_takeTape S h_i_0 h_i_7 h_a_1_0 h_a_2_0 h_A_1_0 h_i_1 h_i_2 h_i_8 h_i_9 h_i_5 h_i_6) cf_X11_takeTape (cw_0 cy tE a rw S) rfl wm_X11_93 wi_X11_takeTape ws_X11_takeTape dX11_cure_1 rfl (Nat.le_of_ble_eq_true rfl) ⟨by decide, by decide, by decide, by decide⟩) (fun u3570 h3568 => ?_)
  obtain rfl := h3568
  refine z_aload_n b dX11_cure_4 rfl rfl ?_
  refine z_get (q0 := 0) (k9 := 3) (v := .ref (a 10)) b (cw_0 cy tE a rw (si (si S 7 1) 8 1)) rfl in_X11 (by decide) wf_X11_27 rfl dX11_cure_5 ?_
  refine z_get (q0 := 10) (k9 := 2) (v := .ref (a 13)) b (cw_10 cy tE a rw (si (si S 7 1) 8 1)) rfl in_X4 (by decide) wf_X11_136 rfl dX11_cure_8 ?_
  refine z_calli b (z_runV (q0 := 13) (As := []) (st := []) b (c_Jx4a65c_size_8abf5_3 (si (si S 7 1) 8 1) h_i_13) cf_Jx4a65c_size_8abf5 (cw_13 cy tE a rw (si (si S 7 1) 8 1)) rfl wm_X11_117 wi_Jx4a65c_size_8abf5 ws_Jx4a65c_size_8abf5 dX11_cure_11 rfl (Nat.le_of_ble_eq_true rfl) ⟨by decide, by decide, by decide, by decide⟩) (fun r3572 u3573 h3571 => ?_)
  obtain ⟨rfl, rfl⟩ := h3571
  refine z_iconst (v := 5) b dX11_cure_14 (by decide) ?_
  refine z_icmp_ge_f (tgt := 37) b dX11_cure_15 (by decide) (by decide) ?_
  refine z_iload_n b dX11_cure_18 rfl rfl ?_
  refine z_bipush (v := 11) b dX11_cure_19 (by decide) ?_
  refine z_calli b (z_runS (As := [.int p0, .int 11]) (st := []) b (c_X11_isWithin_17 (si (si S 7 1) 8 1) p0 ⟨by omega, by omega⟩) cf_X11_isWithin wm_X11_73 ws_X11_isWithin dX11_cure_21 rfl (Nat.le_of_ble_eq_true rfl) ⟨by decide, by decide, by decide, by decide⟩) (fun r3576 u3577 h3575 => ?_)
  obtain ⟨rfl, rfl⟩ := h3575
  refine z_if_eq_t (tgt := 37) b dX11_cure_24 (by decide) (by decide) ?_
  refine z_iconst (v := (-1)) b dX11_cure_37 (by decide) ?_
  exact z_iret (u := (si (si S 7 1) 8 1)) b rfl dX11_cure_38 ⟨rfl, rfl⟩ rfl (by decide) (by decide)

set_option maxHeartbeats 4000000 in
set_option maxRecDepth 100000 in
theorem c_X12_isIn_22 {l : Launch} {D : va_G} {cy : Nat → ClassId} {T0 tB tE : Nat} {a : Nat → Nat} (S : GS) (p0 : Int32)  (hr_p0 : (-2147483648) ≤ p0.toInt ∧ p0.toInt ≤ (-1)) : Ct l D cy T0 tB tE yX12_isIn cX12_isIn 3 (some .boolean) 0 0 0 0 (mw cy a S) [.int p0, .int 0, .int 11] (QI D (U := GS) (fun r u => 0 = r ∧ S = u) (mw cy a)) := by
  refine Ct.ofZ RX12 "isIn" [(0, .int p0), (1, .int 0), (2, .int 11)] rfl rfl rfl rfl (Nat.le_of_ble_eq_true rfl) ?_
  intro p e R s m args below meth c A b
  refine z_iload_n b dX12_isIn_0 rfl rfl ?_
  refine z_iload_n b dX12_isIn_1 rfl rfl ?_
  refine y_icmp_lt (tgt := 14) (xl := p0.toInt) (yl := 0) b rfl (by decide) dX12_isIn_2 (by decide) (fun c3578 => ?_) (fun c3578 => ?_)
  · refine z_iconst (v := 0) b dX12_isIn_14 (by decide) ?_
    exact z_zret (u := S) b rfl (by decide) dX12_isIn_15 ⟨rfl, rfl⟩ rfl (by decide) (by decide)
  · exfalso; omega

set_option maxHeartbeats 4000000 in
set_option maxRecDepth 100000 in
theorem c_X12_cure {l : Launch} {D : va_G} {cy : Nat → ClassId} {T0 tB tE : Nat} {a : Nat → Nat} (S : GS) (p0 : Int32) (h_i_6 : fi S 6 = 0) (h_i_17 : fi S 17 = 0) (h_i_1 : fi S 1 = 0) (h_i_8 : fi S 8 = 0) (h_i_13 : fi S 13 = (-1)) (hr_p0 : (-2147483648) ≤ p0.toInt ∧ p0.toInt ≤ (-1)) : Ct l D cy T0 tB tE yX12_cure cX12_cure 2 (some .int) 1 22 0 0 (mw cy a S) [.ref (a 0), .int p0] (QI D (U := GS) (fun r u => (-1) = r ∧ S = u) (mw cy a)) := by
  refine Ct.ofZ RX12 "cure" [(0, .ref (a 0)), (1, .int p0)] rfl rfl rfl rfl (Nat.le_of_ble_eq_true rfl) ?_
  intro p e R s m args below meth c A b
  refine z_aload_n b dX12_cure_0 rfl rfl ?_
  refine z_iconst (v := 0) b dX12_cure_1 (by decide) ?_
  refine z_put (q0 := 0) (k9 := 30) tyX12 b (mw_0 cy a S) rfl in_X12 tyX12_ok nmX12 (by decide) wf_X12_257 rfl rfl rfl rfl (Nat.le_of_ble_eq_true rfl) dX12_cure_2 ((mwp_0_30 cy a S 0).trans (congrArg (mw cy a) (si_same h_i_6))) ?_
  refine z_aload_n b dX12_cure_5 rfl rfl ?_
  refine z_get (q0 := 0) (k9 := 41) (v := .int (fi S 17)) b (mw_0 cy a S) rfl in_X12 (by decide) wf_X12_358 rfl dX12_cure_6 ?_
  refine z_eqi h_i_17 ?_
  refine z_iconst (v := 5) b dX12_cure_9 (by decide) ?_
  refine z_icmp_eq_f (tgt := 23) b dX12_cure_10 (by decide) (by decide) ?_
  refine z_iload_n b dX12_cure_13 rfl rfl ?_
  refine z_iconst (v := 0) b dX12_cure_14 (by decide) ?_
  refine z_bipush (v := 11) b dX12_cure_15 (by decide) ?_
  refine z_calli b (z_runS (As := [.int p0, .int 0, .int 11]) (st := []) b (c_X12_isIn_22 S p0 ⟨by omega, by omega⟩) cf_X12_isIn wm_X12_1 ws_X12_isIn dX12_cure_17 rfl (Nat.le_of_ble_eq_true rfl) ⟨by decide, by decide, by decide, by decide⟩) (fun r3580 u3581 h3579 => ?_)
  obtain ⟨rfl, rfl⟩ := h3579
  refine z_if_ne_f (tgt := 29) b dX12_cure_20 (by decide) (by decide) ?_
  refine z_aload_n b dX12_cure_23 rfl rfl ?_
  refine z_callv b (z_runV (q0 := 0) (As := []) (st := []) b (c_X12_ends S h_i_1 h_i_6 h_i_8 h_i_13) cf_X12_ends (mw_0 cy a S) rfl wm_X12_336 wi_X12_ends ws_X12_ends dX12_cure_24 rfl (Nat.le_of_ble_eq_true rfl) ⟨by decide, by decide, by decide, by decide⟩) (fun u3584 h3582 => ?_)
  obtain rfl := h3582
  refine z_iconst (v := (-1)) b dX12_cure_27 (by decide) ?_
  exact z_iret (u := S) b rfl dX12_cure_28 ⟨rfl, rfl⟩ rfl (by decide) (by decide)

set_option maxHeartbeats 4000000 in
set_option maxRecDepth 100000 in
theorem c_X11_isWithin_18 {l : Launch} {D : va_G} {cy : Nat → ClassId} {T0 tB tE : Nat} {a : Nat → Nat} {rw : Nat → Option Nat} (S : GS) (p0 : Int32)  (hr_p0 : 0 ≤ p0.toInt ∧ p0.toInt ≤ 11) : Ct l D cy T0 tB tE yX11_isWithin cX11_isWithin 2 (some .boolean) 0 0 0 0 (cw cy tE a rw S) [.int p0, .int 11] (QI D (U := GS) (fun r u => 1 = r ∧ S = u) (cw cy tE a rw)) := by
  refine Ct.ofZ RX11 "isWithin" [(0, .int p0), (1, .int 11)] rfl rfl rfl rfl (Nat.le_of_ble_eq_true rfl) ?_
  intro p e R s m args below meth c A b
  refine z_iload_n b dX11_isWithin_0 rfl rfl ?_
  refine y_if_lt (tgt := 13) (xl := p0.toInt) b rfl dX11_isWithin_1 (by decide) (fun c3591 => ?_) (fun c3591 => ?_)
  · exfalso; omega
  · refine z_iload_n b dX11_isWithin_4 rfl rfl ?_
    refine z_iload_n b dX11_isWithin_5 rfl rfl ?_
    refine y_icmp_gt (tgt := 13) (xl := p0.toInt) (yl := 11) b rfl (by decide) dX11_isWithin_6 (by decide) (fun c3592 => ?_) (fun c3592 => ?_)
    · exfalso; omega
    · refine z_iconst (v := 1) b dX11_isWithin_9 (by decide) ?_
      refine z_goto (tgt := 14) b dX11_isWithin_10 (by decide) ?_
      exact z_zret (u := S) b rfl (by decide) dX11_isWithin_14 ⟨rfl, rfl⟩ rfl (by decide) (by decide)

set_option maxHeartbeats 4000000 in
set_option maxRecDepth 100000 in
theorem c_X11_cure_2 {l : Launch} {D : va_G} {cy : Nat → ClassId} {T0 tB tE : Nat} {a : Nat → Nat} {rw : Nat → Option Nat} (S : GS) (p0 : Int32) (h_i_0 : fi S 0 = 0) (h_i_7 : fi S 7 = 0) (h_a_1_0 : ar S 1 0 = 0) (h_a_2_0 : ar S 2 0 = 0) (h_A_1_0 : al S 1 0 = 0) (h_i_1 : fi S 1 = 0) (h_i_2 : fi S 2 = 0) (h_i_8 : fi S 8 = 0) (h_i_9 : fi S 9 = 0) (h_i_5 : fi S 5 = 0) (h_i_6 : fi S 6 = (-1)) (h_i_13 : fi S 13 = 0) (hr_p0 : 0 ≤ p0.toInt ∧ p0.toInt ≤ 11) : Ct l D cy T0 tB tE yX11_cure cX11_cure 2 (some .int) 6 133 0 0 (cw cy tE a rw S) [.ref (a 0), .int p0] (QI D (U := GS) (fun r u => (-1) = r ∧ si (si (si (si S 7 1) 8 1) 5 1) 6 0 = u) (cw cy tE a rw)) := by
  refine Ct.ofZ RX11 "cure" [(0, .ref (a 0)), (1, .int p0)] rfl rfl rfl rfl (Nat.le_of_ble_eq_true rfl) ?_
  intro p e R s m args below meth c A b
  refine z_aload_n b dX11_cure_0 rfl rfl ?_
  refine z_callv b (z_runV (q0 := 0) (As := []) (st := []) b (c_X11_takeTape S h_i_0 h_i_7 h_a_1_0 h_a_2_0 h_A_1_0 h_i_1 h_i_2 h_i_8 h_i_9 h_i_5 h_i_6) cf_X11_takeTape (cw_0 cy tE a rw S) rfl wm_X11_93 wi_X11_takeTape ws_X11_takeTape dX11_cure_1 rfl (Nat.le_of_ble_eq_true rfl) ⟨by decide, by decide, by decide, by decide⟩) (fun u3587 h3585 => ?_)
  obtain rfl := h3585
  refine z_aload_n b dX11_cure_4 rfl rfl ?_
  refine z_get (q0 := 0) (k9 := 3) (v := .ref (a 10)) b (cw_0 cy tE a rw (si (si S 7 1) 8 1)) rfl in_X11 (by decide) wf_X11_27 rfl dX11_cure_5 ?_
  refine z_get (q0 := 10) (k9 := 2) (v := .ref (a 13)) b (cw_10 cy tE a rw (si (si S 7 1) 8 1)) rfl in_X4 (by decide) wf_X11_136 rfl dX11_cure_8 ?_
  refine z_calli b (z_runV (q0 := 13) (As := []) (st := []) b (c_Jx4a65c_size_8abf5_3 (si (si S 7 1) 8 1) h_i_13) cf_Jx4a65c_size_8abf5 (cw_13 cy tE a rw (si (si S 7 1) 8 1)) rfl wm_X11_117 wi_Jx4a65c_size_8abf5 ws_Jx4a65c_size_8abf5 dX11_cure_11 rfl (Nat.le_of_ble_eq_true rfl) ⟨by decide, by decide, by decide, by decide⟩) (fun r3589 u3590 h3588 => ?_)
  obtain ⟨rfl, rfl⟩ := h3588
  refine z_iconst (v := 5) b dX11_cure_14 (by decide) ?_
  refine z_icmp_ge_f (tgt := 37) b dX11_cure_15 (by decide) (by decide) ?_
  refine z_iload_n b dX11_cure_18 rfl rfl ?_
  refine z_bipush (v := 11) b dX11_cure_19 (by decide) ?_
  refine z_calli b (z_runS (As := [.int p0, .int 11]) (st := []) b (c_X11_isWithin_18 (si (si S 7 1) 8 1) p0 ⟨by omega, by omega⟩) cf_X11_isWithin wm_X11_73 ws_X11_isWithin dX11_cure_21 rfl (Nat.le_of_ble_eq_true rfl) ⟨by decide, by decide, by decide, by decide⟩) (fun r3594 u3595 h3593 => ?_)
  obtain ⟨rfl, rfl⟩ := h3593
  refine z_if_eq_f (tgt := 37) b dX11_cure_24 (by decide) (by decide) ?_
  refine z_aload_n b dX11_cure_27 rfl rfl ?_
  refine z_get (q0 := 0) (k9 := 2) (v := .ref (a 2)) b (cw_0 cy tE a rw (si (si S 7 1) 8 1)) rfl in_X11 (by decide) wf_X11_20 rfl dX11_cure_28 ?_
  refine z_calli b (z_runV (q0 := 2) (As := []) (st := []) b (c_X5_readCondition (si (si S 7 1) 8 1) h_i_1 rfl h_a_1_0 h_a_2_0) cf_X5_readCondition (cw_2 cy tE a rw (si (si S 7 1) 8 1)) rfl wm_X11_125 wi_X5_readCondition ws_X5_readCondition dX11_cure_31 rfl (Nat.le_of_ble_eq_true rfl) ⟨by decide, by decide, by decide, by decide⟩) (fun r3597 u3598 h3596 => ?_)
  obtain ⟨rfl, rfl⟩ := h3596
  refine z_if_ne_f (tgt := 39) b dX11_cure_34 (by decide) (by decide) ?_
  refine z_iconst (v := (-1)) b dX11_cure_37 (by decide) ?_
  exact z_iret (u := (si (si (si (si S 7 1) 8 1) 5 1) 6 0)) b rfl dX11_cure_38 ⟨rfl, rfl⟩ rfl (by decide) (by decide)

set_option maxHeartbeats 4000000 in
set_option maxRecDepth 100000 in
theorem c_X12_isIn_23 {l : Launch} {D : va_G} {cy : Nat → ClassId} {T0 tB tE : Nat} {a : Nat → Nat} (S : GS) (p0 : Int32)  (hr_p0 : 0 ≤ p0.toInt ∧ p0.toInt ≤ 11) : Ct l D cy T0 tB tE yX12_isIn cX12_isIn 3 (some .boolean) 0 0 0 0 (mw cy a S) [.int p0, .int 0, .int 11] (QI D (U := GS) (fun r u => 1 = r ∧ S = u) (mw cy a)) := by
  refine Ct.ofZ RX12 "isIn" [(0, .int p0), (1, .int 0), (2, .int 11)] rfl rfl rfl rfl (Nat.le_of_ble_eq_true rfl) ?_
  intro p e R s m args below meth c A b
  refine z_iload_n b dX12_isIn_0 rfl rfl ?_
  refine z_iload_n b dX12_isIn_1 rfl rfl ?_
  refine y_icmp_lt (tgt := 14) (xl := p0.toInt) (yl := 0) b rfl (by decide) dX12_isIn_2 (by decide) (fun c3599 => ?_) (fun c3599 => ?_)
  · exfalso; omega
  · refine z_iload_n b dX12_isIn_5 rfl rfl ?_
    refine z_iload_n b dX12_isIn_6 rfl rfl ?_
    refine y_icmp_gt (tgt := 14) (xl := p0.toInt) (yl := 11) b rfl (by decide) dX12_isIn_7 (by decide) (fun c3600 => ?_) (fun c3600 => ?_)
    · exfalso; omega
    · refine z_iconst (v := 1) b dX12_isIn_10 (by decide) ?_
      refine z_goto (tgt := 15) b dX12_isIn_11 (by decide) ?_
      exact z_zret (u := S) b rfl (by decide) dX12_isIn_15 ⟨rfl, rfl⟩ rfl (by decide) (by decide)

set_option maxHeartbeats 4000000 in
set_option maxRecDepth 100000 in
theorem c_X12_cure_2 {l : Launch} {D : va_G} {cy : Nat → ClassId} {T0 tB tE : Nat} {a : Nat → Nat} (S : GS) (p0 : Int32) (h_i_6 : fi S 6 = 0) (h_i_17 : fi S 17 = 0) (h_i_2 : fi S 2 = 0) (h_i_12 : fi S 12 = 0) (h_a_6_13 : ar S 6 13 = 0) (h_i_1 : fi S 1 = 0) (h_i_4 : fi S 4 = 0) (h_i_3 : fi S 3 = 0) (h_i_9 : fi S 9 = 0) (h_i_7 : fi S 7 = 0) (hr_p0 : 0 ≤ p0.toInt ∧ p0.toInt ≤ 11) : Ct l D cy T0 tB tE yX12_cure cX12_cure 2 (some .int) 9 186 0 0 (mw cy a S) [.ref (a 0), .int p0] (QI D (U := GS) (fun r u => (-1) = r ∧ si (si (si S 6 1) 8 1) 13 0 = u) (mw cy a)) := by
  refine Ct.ofZ RX12 "cure" [(0, .ref (a 0)), (1, .int p0)] rfl rfl rfl rfl (Nat.le_of_ble_eq_true rfl) ?_
  intro p e R s m args below meth c A b
  refine z_aload_n b dX12_cure_0 rfl rfl ?_
  refine z_iconst (v := 0) b dX12_cure_1 (by decide) ?_
  refine z_put (q0 := 0) (k9 := 30) tyX12 b (mw_0 cy a S) rfl in_X12 tyX12_ok nmX12 (by decide) wf_X12_257 rfl rfl rfl rfl (Nat.le_of_ble_eq_true rfl) dX12_cure_2 ((mwp_0_30 cy a S 0).trans (congrArg (mw cy a) (si_same h_i_6))) ?_
  refine z_aload_n b dX12_cure_5 rfl rfl ?_
  refine z_get (q0 := 0) (k9 := 41) (v := .int (fi S 17)) b (mw_0 cy a S) rfl in_X12 (by decide) wf_X12_358 rfl dX12_cure_6 ?_
  refine z_eqi h_i_17 ?_
  refine z_iconst (v := 5) b dX12_cure_9 (by decide) ?_
  refine z_icmp_eq_f (tgt := 23) b dX12_cure_10 (by decide) (by decide) ?_
  refine z_iload_n b dX12_cure_13 rfl rfl ?_
  refine z_iconst (v := 0) b dX12_cure_14 (by decide) ?_
  refine z_bipush (v := 11) b dX12_cure_15 (by decide) ?_
  refine z_calli b (z_runS (As := [.int p0, .int 0, .int 11]) (st := []) b (c_X12_isIn_23 S p0 ⟨by omega, by omega⟩) cf_X12_isIn wm_X12_1 ws_X12_isIn dX12_cure_17 rfl (Nat.le_of_ble_eq_true rfl) ⟨by decide, by decide, by decide, by decide⟩) (fun r3602 u3603 h3601 => ?_)
  obtain ⟨rfl, rfl⟩ := h3601
  refine z_if_ne_t (tgt := 29) b dX12_cure_20 (by decide) (by decide) ?_
  refine z_aload_n b dX12_cure_29 rfl rfl ?_
  refine z_calli b (z_runV (q0 := 0) (As := []) (st := []) b (c_X12_reads S h_i_6 h_i_2 h_i_12 h_a_6_13 h_i_1 h_i_4 h_i_3 h_i_9 h_i_7) cf_X12_reads (mw_0 cy a S) rfl wm_X12_355 wi_X12_reads ws_X12_reads dX12_cure_30 rfl (Nat.le_of_ble_eq_true rfl) ⟨by decide, by decide, by decide, by decide⟩) (fun r3605 u3606 h3604 => ?_)
  obtain ⟨rfl, rfl⟩ := h3604
  refine z_if_ne_f (tgt := 38) b dX12_cure_33 (by decide) (by decide) ?_
  refine z_iconst (v := (-1)) b dX12_cure_36 (by decide) ?_
  exact z_iret (u := (si (si (si S 6 1) 8 1) 13 0)) b rfl dX12_cure_37 ⟨rfl, rfl⟩ rfl (by decide) (by decide)

set_option maxHeartbeats 4000000 in
set_option maxRecDepth 100000 in
theorem c_X11_isWithin_19 {l : Launch} {D : va_G} {cy : Nat → ClassId} {T0 tB tE : Nat} {a : Nat → Nat} {rw : Nat → Option Nat} (S : GS) (p0 : Int32)  (hr_p0 : 12 ≤ p0.toInt ∧ p0.toInt ≤ 2147483647) : Ct l D cy T0 tB tE yX11_isWithin cX11_isWithin 2 (some .boolean) 0 0 0 0 (cw cy tE a rw S) [.int p0, .int 11] (QI D (U := GS) (fun r u => 0 = r ∧ S = u) (cw cy tE a rw)) := by
  refine Ct.ofZ RX11 "isWithin" [(0, .int p0), (1, .int 11)] rfl rfl rfl rfl (Nat.le_of_ble_eq_true rfl) ?_
  intro p e R s m args below meth c A b
  refine z_iload_n b dX11_isWithin_0 rfl rfl ?_
  refine y_if_lt (tgt := 13) (xl := p0.toInt) b rfl dX11_isWithin_1 (by decide) (fun c3613 => ?_) (fun c3613 => ?_)
  · exfalso; omega
  · refine z_iload_n b dX11_isWithin_4 rfl rfl ?_
    refine z_iload_n b dX11_isWithin_5 rfl rfl ?_
    refine y_icmp_gt (tgt := 13) (xl := p0.toInt) (yl := 11) b rfl (by decide) dX11_isWithin_6 (by decide) (fun c3614 => ?_) (fun c3614 => ?_)
    · refine z_iconst (v := 0) b dX11_isWithin_13 (by decide) ?_
      exact z_zret (u := S) b rfl (by decide) dX11_isWithin_14 ⟨rfl, rfl⟩ rfl (by decide) (by decide)
    · exfalso; omega

set_option maxHeartbeats 4000000 in
set_option maxRecDepth 100000 in
theorem c_X11_cure_3 {l : Launch} {D : va_G} {cy : Nat → ClassId} {T0 tB tE : Nat} {a : Nat → Nat} {rw : Nat → Option Nat} (S : GS) (p0 : Int32) (h_i_0 : fi S 0 = 0) (h_i_7 : fi S 7 = 0) (h_a_1_0 : ar S 1 0 = 0) (h_a_2_0 : ar S 2 0 = 0) (h_A_1_0 : al S 1 0 = 0) (h_i_1 : fi S 1 = 0) (h_i_2 : fi S 2 = 0) (h_i_8 : fi S 8 = 0) (h_i_9 : fi S 9 = 0) (h_i_5 : fi S 5 = 0) (h_i_6 : fi S 6 = (-1)) (h_i_13 : fi S 13 = 0) (hr_p0 : 12 ≤ p0.toInt ∧ p0.toInt ≤ 2147483647) : Ct l D cy T0 tB tE yX11_cure cX11_cure 2 (some .int) 4 94 0 0 (cw cy tE a rw S) [.ref (a 0), .int p0] (QI D (U := GS) (fun r u => (-1) = r ∧ (si (si S 7 1) 8 1) = u) (cw cy tE a rw)) := by
  refine Ct.ofZ RX11 "cure" [(0, .ref (a 0)), (1, .int p0)] rfl rfl rfl rfl (Nat.le_of_ble_eq_true rfl) ?_
  intro p e R s m args below meth c A b
  refine z_aload_n b dX11_cure_0 rfl rfl ?_
  refine z_callv b (z_runV (q0 := 0) (As := []) (st := []) b (c_X11_takeTape S h_i_0 h_i_7 h_a_1_0 h_a_2_0 h_A_1_0 h_i_1 h_i_2 h_i_8 h_i_9 h_i_5 h_i_6) cf_X11_takeTape (cw_0 cy tE a rw S) rfl wm_X11_93 wi_X11_takeTape ws_X11_takeTape dX11_cure_1 rfl (Nat.le_of_ble_eq_true rfl) ⟨by decide, by decide, by decide, by decide⟩) (fun u3609 h3607 => ?_)
  obtain rfl := h3607
  refine z_aload_n b dX11_cure_4 rfl rfl ?_
  refine z_get (q0 := 0) (k9 := 3) (v := .ref (a 10)) b (cw_0 cy tE a rw (si (si S 7 1) 8 1)) rfl in_X11 (by decide) wf_X11_27 rfl dX11_cure_5 ?_
  refine z_get (q0 := 10) (k9 := 2) (v := .ref (a 13)) b (cw_10 cy tE a rw (si (si S 7 1) 8 1)) rfl in_X4 (by decide) wf_X11_136 rfl dX11_cure_8 ?_
  refine z_calli b (z_runV (q0 := 13) (As := []) (st := []) b (c_Jx4a65c_size_8abf5_3 (si (si S 7 1) 8 1) h_i_13) cf_Jx4a65c_size_8abf5 (cw_13 cy tE a rw (si (si S 7 1) 8 1)) rfl wm_X11_117 wi_Jx4a65c_size_8abf5 ws_Jx4a65c_size_8abf5 dX11_cure_11 rfl (Nat.le_of_ble_eq_true rfl) ⟨by decide, by decide, by decide, by decide⟩) (fun r3611 u3612 h3610 => ?_)
  obtain ⟨rfl, rfl⟩ := h3610
  refine z_iconst (v := 5) b dX11_cure_14 (by decide) ?_
  refine z_icmp_ge_f (tgt := 37) b dX11_cure_15 (by decide) (by decide) ?_
  refine z_iload_n b dX11_cure_18 rfl rfl ?_
  refine z_bipush (v := 11) b dX11_cure_19 (by decide) ?_
  refine z_calli b (z_runS (As := [.int p0, .int 11]) (st := []) b (c_X11_isWithin_19 (si (si S 7 1) 8 1) p0 ⟨by omega, by omega⟩) cf_X11_isWithin wm_X11_73 ws_X11_isWithin dX11_cure_21 rfl (Nat.le_of_ble_eq_true rfl) ⟨by decide, by decide, by decide, by decide⟩) (fun r3616 u3617 h3615 => ?_)
  obtain ⟨rfl, rfl⟩ := h3615
  refine z_if_eq_t (tgt := 37) b dX11_cure_24 (by decide) (by decide) ?_
  refine z_iconst (v := (-1)) b dX11_cure_37 (by decide) ?_
  exact z_iret (u := (si (si S 7 1) 8 1)) b rfl dX11_cure_38 ⟨rfl, rfl⟩ rfl (by decide) (by decide)

set_option maxHeartbeats 4000000 in
set_option maxRecDepth 100000 in
theorem c_X12_isIn_24 {l : Launch} {D : va_G} {cy : Nat → ClassId} {T0 tB tE : Nat} {a : Nat → Nat} (S : GS) (p0 : Int32)  (hr_p0 : 12 ≤ p0.toInt ∧ p0.toInt ≤ 2147483647) : Ct l D cy T0 tB tE yX12_isIn cX12_isIn 3 (some .boolean) 0 0 0 0 (mw cy a S) [.int p0, .int 0, .int 11] (QI D (U := GS) (fun r u => 0 = r ∧ S = u) (mw cy a)) := by
  refine Ct.ofZ RX12 "isIn" [(0, .int p0), (1, .int 0), (2, .int 11)] rfl rfl rfl rfl (Nat.le_of_ble_eq_true rfl) ?_
  intro p e R s m args below meth c A b
  refine z_iload_n b dX12_isIn_0 rfl rfl ?_
  refine z_iload_n b dX12_isIn_1 rfl rfl ?_
  refine y_icmp_lt (tgt := 14) (xl := p0.toInt) (yl := 0) b rfl (by decide) dX12_isIn_2 (by decide) (fun c3618 => ?_) (fun c3618 => ?_)
  · exfalso; omega
  · refine z_iload_n b dX12_isIn_5 rfl rfl ?_
    refine z_iload_n b dX12_isIn_6 rfl rfl ?_
    refine y_icmp_gt (tgt := 14) (xl := p0.toInt) (yl := 11) b rfl (by decide) dX12_isIn_7 (by decide) (fun c3619 => ?_) (fun c3619 => ?_)
    · refine z_iconst (v := 0) b dX12_isIn_14 (by decide) ?_
      exact z_zret (u := S) b rfl (by decide) dX12_isIn_15 ⟨rfl, rfl⟩ rfl (by decide) (by decide)
    · exfalso; omega

set_option maxHeartbeats 4000000 in
set_option maxRecDepth 100000 in
theorem c_X12_cure_3 {l : Launch} {D : va_G} {cy : Nat → ClassId} {T0 tB tE : Nat} {a : Nat → Nat} (S : GS) (p0 : Int32) (h_i_6 : fi S 6 = 0) (h_i_17 : fi S 17 = 0) (h_i_1 : fi S 1 = 0) (h_i_8 : fi S 8 = 0) (h_i_13 : fi S 13 = (-1)) (hr_p0 : 12 ≤ p0.toInt ∧ p0.toInt ≤ 2147483647) : Ct l D cy T0 tB tE yX12_cure cX12_cure 2 (some .int) 1 22 0 0 (mw cy a S) [.ref (a 0), .int p0] (QI D (U := GS) (fun r u => (-1) = r ∧ S = u) (mw cy a)) := by
  refine Ct.ofZ RX12 "cure" [(0, .ref (a 0)), (1, .int p0)] rfl rfl rfl rfl (Nat.le_of_ble_eq_true rfl) ?_
  intro p e R s m args below meth c A b
  refine z_aload_n b dX12_cure_0 rfl rfl ?_
  refine z_iconst (v := 0) b dX12_cure_1 (by decide) ?_
  refine z_put (q0 := 0) (k9 := 30) tyX12 b (mw_0 cy a S) rfl in_X12 tyX12_ok nmX12 (by decide) wf_X12_257 rfl rfl rfl rfl (Nat.le_of_ble_eq_true rfl) dX12_cure_2 ((mwp_0_30 cy a S 0).trans (congrArg (mw cy a) (si_same h_i_6))) ?_
  refine z_aload_n b dX12_cure_5 rfl rfl ?_
  refine z_get (q0 := 0) (k9 := 41) (v := .int (fi S 17)) b (mw_0 cy a S) rfl in_X12 (by decide) wf_X12_358 rfl dX12_cure_6 ?_
  refine z_eqi h_i_17 ?_
  refine z_iconst (v := 5) b dX12_cure_9 (by decide) ?_
  refine z_icmp_eq_f (tgt := 23) b dX12_cure_10 (by decide) (by decide) ?_
  refine z_iload_n b dX12_cure_13 rfl rfl ?_
  refine z_iconst (v := 0) b dX12_cure_14 (by decide) ?_
  refine z_bipush (v := 11) b dX12_cure_15 (by decide) ?_
  refine z_calli b (z_runS (As := [.int p0, .int 0, .int 11]) (st := []) b (c_X12_isIn_24 S p0 ⟨by omega, by omega⟩) cf_X12_isIn wm_X12_1 ws_X12_isIn dX12_cure_17 rfl (Nat.le_of_ble_eq_true rfl) ⟨by decide, by decide, by decide, by decide⟩) (fun r3621 u3622 h3620 => ?_)
  obtain ⟨rfl, rfl⟩ := h3620
  refine z_if_ne_f (tgt := 29) b dX12_cure_20 (by decide) (by decide) ?_
  refine z_aload_n b dX12_cure_23 rfl rfl ?_
  refine z_callv b (z_runV (q0 := 0) (As := []) (st := []) b (c_X12_ends S h_i_1 h_i_6 h_i_8 h_i_13) cf_X12_ends (mw_0 cy a S) rfl wm_X12_336 wi_X12_ends ws_X12_ends dX12_cure_24 rfl (Nat.le_of_ble_eq_true rfl) ⟨by decide, by decide, by decide, by decide⟩) (fun u3625 h3623 => ?_)
  obtain rfl := h3623
  refine z_iconst (v := (-1)) b dX12_cure_27 (by decide) ?_
  exact z_iret (u := S) b rfl dX12_cure_28 ⟨rfl, rfl⟩ rfl (by decide) (by decide)

set_option maxHeartbeats 4000000 in
set_option maxRecDepth 100000 in
theorem c_X11_fault {l : Launch} {D : va_G} {cy : Nat → ClassId} {T0 tB tE : Nat} {a : Nat → Nat} {rw : Nat → Option Nat} (S : GS) (p0 : Int32)  (hr_p0 : (-2147483648) ≤ p0.toInt ∧ p0.toInt ≤ (-1)) : Ct l D cy T0 tB tE yX11_fault cX11_fault 2 (some .int) 0 0 0 0 (cw cy tE a rw S) [.ref (a 0), .int p0] (QI D (U := GS) (fun r u => (-1) = r ∧ S = u) (cw cy tE a rw)) := by
  refine Ct.ofZ RX11 "fault" [(0, .ref (a 0)), (1, .int p0)] rfl rfl rfl rfl (Nat.le_of_ble_eq_true rfl) ?_
  intro p e R s m args below meth c A b
  refine z_iload_n b dX11_fault_0 rfl rfl ?_
  refine y_if_ne (tgt := 12) (xl := p0.toInt) b rfl dX11_fault_1 (by decide) (fun c3626 => ?_) (fun c3626 => ?_)
  · refine z_iload_n b dX11_fault_12 rfl rfl ?_
    refine z_iconst (v := 1) b dX11_fault_13 (by decide) ?_
    refine y_icmp_ne (tgt := 27) (xl := p0.toInt) (yl := 1) b rfl (by decide) dX11_fault_14 (by decide) (fun c3627 => ?_) (fun c3627 => ?_)
    · refine z_iconst (v := (-1)) b dX11_fault_27 (by decide) ?_
      exact z_iret (u := S) b rfl dX11_fault_28 ⟨rfl, rfl⟩ rfl (by decide) (by decide)
    · exfalso; omega
  · exfalso; omega

set_option maxHeartbeats 4000000 in
set_option maxRecDepth 100000 in
theorem c_X12_fault {l : Launch} {D : va_G} {cy : Nat → ClassId} {T0 tB tE : Nat} {a : Nat → Nat} (S : GS) (p0 : Int32)  (hr_p0 : (-2147483648) ≤ p0.toInt ∧ p0.toInt ≤ (-1)) : Ct l D cy T0 tB tE yX12_fault cX12_fault 2 (some .int) 0 0 0 0 (mw cy a S) [.ref (a 0), .int p0] (QI D (U := GS) (fun r u => (-1) = r ∧ S = u) (mw cy a)) := by
  refine Ct.ofZ RX12 "fault" [(0, .ref (a 0)), (1, .int p0)] rfl rfl rfl rfl (Nat.le_of_ble_eq_true rfl) ?_
  intro p e R s m args below meth c A b
  refine z_iload_n b dX12_fault_0 rfl rfl ?_
  refine y_if_ne (tgt := 11) (xl := p0.toInt) b rfl dX12_fault_1 (by decide) (fun c3628 => ?_) (fun c3628 => ?_)
  · refine z_iload_n b dX12_fault_11 rfl rfl ?_
    refine z_iconst (v := 1) b dX12_fault_12 (by decide) ?_
    refine y_icmp_ne (tgt := 23) (xl := p0.toInt) (yl := 1) b rfl (by decide) dX12_fault_13 (by decide) (fun c3629 => ?_) (fun c3629 => ?_)
    · refine z_iconst (v := (-1)) b dX12_fault_23 (by decide) ?_
      exact z_iret (u := S) b rfl dX12_fault_24 ⟨rfl, rfl⟩ rfl (by decide) (by decide)
    · exfalso; omega
  · exfalso; omega

set_option maxHeartbeats 4000000 in
set_option maxRecDepth 100000 in
theorem c_X11_fault_2 {l : Launch} {D : va_G} {cy : Nat → ClassId} {T0 tB tE : Nat} {a : Nat → Nat} {rw : Nat → Option Nat} (S : GS)  (h_i_5 : fi S 5 = 0) : Ct l D cy T0 tB tE yX11_fault cX11_fault 2 (some .int) 0 0 0 0 (cw cy tE a rw S) [.ref (a 0), .int 0] (QI D (U := GS) (fun r u => 0 = r ∧ S = u) (cw cy tE a rw)) := by
  refine Ct.ofZ RX11 "fault" [(0, .ref (a 0)), (1, .int 0)] rfl rfl rfl rfl (Nat.le_of_ble_eq_true rfl) ?_
  intro p e R s m args below meth c A b
  refine z_iload_n b dX11_fault_0 rfl rfl ?_
  refine z_if_ne_f (tgt := 12) b dX11_fault_1 (by decide) (by decide) ?_
  refine z_aload_n b dX11_fault_4 rfl rfl ?_
  refine z_get (q0 := 0) (k9 := 2) (v := .ref (a 2)) b (cw_0 cy tE a rw S) rfl in_X11 (by decide) wf_X11_20 rfl dX11_fault_5 ?_
  refine z_get (q0 := 2) (k9 := 7) (v := .int (fi S 5)) b (cw_2 cy tE a rw S) rfl in_X5 (by decide) wf_X11_144 rfl dX11_fault_8 ?_
  refine z_eqi h_i_5 ?_
  exact z_iret (u := S) b rfl dX11_fault_11 ⟨rfl, rfl⟩ rfl (by decide) (by decide)

set_option maxHeartbeats 4000000 in
set_option maxRecDepth 100000 in
theorem c_X12_fault_2 {l : Launch} {D : va_G} {cy : Nat → ClassId} {T0 tB tE : Nat} {a : Nat → Nat} (S : GS)  (h_i_8 : fi S 8 = 0) : Ct l D cy T0 tB tE yX12_fault cX12_fault 2 (some .int) 0 0 0 0 (mw cy a S) [.ref (a 0), .int 0] (QI D (U := GS) (fun r u => 0 = r ∧ S = u) (mw cy a)) := by
  refine Ct.ofZ RX12 "fault" [(0, .ref (a 0)), (1, .int 0)] rfl rfl rfl rfl (Nat.le_of_ble_eq_true rfl) ?_
  intro p e R s m args below meth c A b
  refine z_iload_n b dX12_fault_0 rfl rfl ?_
  refine z_if_ne_f (tgt := 11) b dX12_fault_1 (by decide) (by decide) ?_
  refine z_aload_n b dX12_fault_4 rfl rfl ?_
  refine z_get (q0 := 0) (k9 := 32) (v := .int (fi S 8)) b (mw_0 cy a S) rfl in_X12 (by decide) wf_X12_333 rfl dX12_fault_5 ?_
  refine z_eqi h_i_8 ?_
  refine z_goto (tgt := 24) b dX12_fault_8 (by decide) ?_
  exact z_iret (u := S) b rfl dX12_fault_24 ⟨rfl, rfl⟩ rfl (by decide) (by decide)

set_option maxHeartbeats 4000000 in
set_option maxRecDepth 100000 in
theorem c_X11_fault_3 {l : Launch} {D : va_G} {cy : Nat → ClassId} {T0 tB tE : Nat} {a : Nat → Nat} {rw : Nat → Option Nat} (S : GS)  (h_i_6 : fi S 6 = (-1)) : Ct l D cy T0 tB tE yX11_fault cX11_fault 2 (some .int) 0 0 0 0 (cw cy tE a rw S) [.ref (a 0), .int 1] (QI D (U := GS) (fun r u => (-1) = r ∧ S = u) (cw cy tE a rw)) := by
  refine Ct.ofZ RX11 "fault" [(0, .ref (a 0)), (1, .int 1)] rfl rfl rfl rfl (Nat.le_of_ble_eq_true rfl) ?_
  intro p e R s m args below meth c A b
  refine z_iload_n b dX11_fault_0 rfl rfl ?_
  refine z_if_ne_t (tgt := 12) b dX11_fault_1 (by decide) (by decide) ?_
  refine z_iload_n b dX11_fault_12 rfl rfl ?_
  refine z_iconst (v := 1) b dX11_fault_13 (by decide) ?_
  refine z_icmp_ne_f (tgt := 27) b dX11_fault_14 (by decide) (by decide) ?_
  refine z_aload_n b dX11_fault_17 rfl rfl ?_
  refine z_get (q0 := 0) (k9 := 2) (v := .ref (a 2)) b (cw_0 cy tE a rw S) rfl in_X11 (by decide) wf_X11_20 rfl dX11_fault_18 ?_
  refine z_get (q0 := 2) (k9 := 8) (v := .int (fi S 6)) b (cw_2 cy tE a rw S) rfl in_X5 (by decide) wf_X11_147 rfl dX11_fault_21 ?_
  refine z_eqi h_i_6 ?_
  refine z_goto (tgt := 28) b dX11_fault_24 (by decide) ?_
  exact z_iret (u := S) b rfl dX11_fault_28 ⟨rfl, rfl⟩ rfl (by decide) (by decide)

set_option maxHeartbeats 4000000 in
set_option maxRecDepth 100000 in
theorem c_X12_fault_3 {l : Launch} {D : va_G} {cy : Nat → ClassId} {T0 tB tE : Nat} {a : Nat → Nat} (S : GS)  (h_i_13 : fi S 13 = (-1)) : Ct l D cy T0 tB tE yX12_fault cX12_fault 2 (some .int) 0 0 0 0 (mw cy a S) [.ref (a 0), .int 1] (QI D (U := GS) (fun r u => (-1) = r ∧ S = u) (mw cy a)) := by
  refine Ct.ofZ RX12 "fault" [(0, .ref (a 0)), (1, .int 1)] rfl rfl rfl rfl (Nat.le_of_ble_eq_true rfl) ?_
  intro p e R s m args below meth c A b
  refine z_iload_n b dX12_fault_0 rfl rfl ?_
  refine z_if_ne_t (tgt := 11) b dX12_fault_1 (by decide) (by decide) ?_
  refine z_iload_n b dX12_fault_11 rfl rfl ?_
  refine z_iconst (v := 1) b dX12_fault_12 (by decide) ?_
  refine z_icmp_ne_f (tgt := 23) b dX12_fault_13 (by decide) (by decide) ?_
  refine z_aload_n b dX12_fault_16 rfl rfl ?_
  refine z_get (q0 := 0) (k9 := 37) (v := .int (fi S 13)) b (mw_0 cy a S) rfl in_X12 (by decide) wf_X12_84 rfl dX12_fault_17 ?_
  refine z_eqi h_i_13 ?_
  refine z_goto (tgt := 24) b dX12_fault_20 (by decide) ?_
  exact z_iret (u := S) b rfl dX12_fault_24 ⟨rfl, rfl⟩ rfl (by decide) (by decide)

set_option maxHeartbeats 4000000 in
set_option maxRecDepth 100000 in
theorem c_X11_fault_4 {l : Launch} {D : va_G} {cy : Nat → ClassId} {T0 tB tE : Nat} {a : Nat → Nat} {rw : Nat → Option Nat} (S : GS) (p0 : Int32)  (hr_p0 : 2 ≤ p0.toInt ∧ p0.toInt ≤ 2147483647) : Ct l D cy T0 tB tE yX11_fault cX11_fault 2 (some .int) 0 0 0 0 (cw cy tE a rw S) [.ref (a 0), .int p0] (QI D (U := GS) (fun r u => (-1) = r ∧ S = u) (cw cy tE a rw)) := by
  refine Ct.ofZ RX11 "fault" [(0, .ref (a 0)), (1, .int p0)] rfl rfl rfl rfl (Nat.le_of_ble_eq_true rfl) ?_
  intro p e R s m args below meth c A b
  refine z_iload_n b dX11_fault_0 rfl rfl ?_
  refine y_if_ne (tgt := 12) (xl := p0.toInt) b rfl dX11_fault_1 (by decide) (fun c3630 => ?_) (fun c3630 => ?_)
  · refine z_iload_n b dX11_fault_12 rfl rfl ?_
    refine z_iconst (v := 1) b dX11_fault_13 (by decide) ?_
    refine y_icmp_ne (tgt := 27) (xl := p0.toInt) (yl := 1) b rfl (by decide) dX11_fault_14 (by decide) (fun c3631 => ?_) (fun c3631 => ?_)
    · refine z_iconst (v := (-1)) b dX11_fault_27 (by decide) ?_
      exact z_iret (u := S) b rfl dX11_fault_28 ⟨rfl, rfl⟩ rfl (by decide) (by decide)
    · exfalso; omega
  · exfalso; omega

set_option maxHeartbeats 4000000 in
set_option maxRecDepth 100000 in
theorem c_X12_fault_4 {l : Launch} {D : va_G} {cy : Nat → ClassId} {T0 tB tE : Nat} {a : Nat → Nat} (S : GS) (p0 : Int32)  (hr_p0 : 2 ≤ p0.toInt ∧ p0.toInt ≤ 2147483647) : Ct l D cy T0 tB tE yX12_fault cX12_fault 2 (some .int) 0 0 0 0 (mw cy a S) [.ref (a 0), .int p0] (QI D (U := GS) (fun r u => (-1) = r ∧ S = u) (mw cy a)) := by
  refine Ct.ofZ RX12 "fault" [(0, .ref (a 0)), (1, .int p0)] rfl rfl rfl rfl (Nat.le_of_ble_eq_true rfl) ?_
  intro p e R s m args below meth c A b
  refine z_iload_n b dX12_fault_0 rfl rfl ?_
  refine y_if_ne (tgt := 11) (xl := p0.toInt) b rfl dX12_fault_1 (by decide) (fun c3632 => ?_) (fun c3632 => ?_)
  · refine z_iload_n b dX12_fault_11 rfl rfl ?_
    refine z_iconst (v := 1) b dX12_fault_12 (by decide) ?_
    refine y_icmp_ne (tgt := 23) (xl := p0.toInt) (yl := 1) b rfl (by decide) dX12_fault_13 (by decide) (fun c3633 => ?_) (fun c3633 => ?_)
    · refine z_iconst (v := (-1)) b dX12_fault_23 (by decide) ?_
      exact z_iret (u := S) b rfl dX12_fault_24 ⟨rfl, rfl⟩ rfl (by decide) (by decide)
    · exfalso; omega
  · exfalso; omega

set_option maxHeartbeats 4000000 in
set_option maxRecDepth 100000 in
theorem c_X4_actAt {l : Launch} {D : va_G} {cy : Nat → ClassId} {T0 tB tE : Nat} {a : Nat → Nat} {rw : Nat → Option Nat} (S : GS) (p0 : Int32)  (hr_p0 : (-2147483648) ≤ p0.toInt ∧ p0.toInt ≤ (-1)) : Ct l D cy T0 tB tE yX4_actAt cX4_actAt 2 (some (.object "LawHoles$Act")) 0 0 0 0 (cw cy tE a rw S) [.ref (a 10), .int p0] (QQ D (U := GS) (fun r u => none = r ∧ S = u) (cw cy tE a rw)) := by
  refine Ct.ofZ RX4 "actAt" [(0, .ref (a 10)), (1, .int p0)] rfl rfl rfl rfl (Nat.le_of_ble_eq_true rfl) ?_
  intro p e R s m args below meth c A b
  refine z_iload_n b dX4_actAt_0 rfl rfl ?_
  refine y_if_lt (tgt := 22) (xl := p0.toInt) b rfl dX4_actAt_1 (by decide) (fun c3634 => ?_) (fun c3634 => ?_)
  · refine z_null b dX4_actAt_22 ?_
    exact z_aret (v := none) (u := S) b rfl (Or.inl ⟨_, rfl⟩) dX4_actAt_23 ⟨rfl, rfl⟩ rfl (by decide) (by decide)
  · exfalso; omega

set_option maxHeartbeats 4000000 in
set_option maxRecDepth 100000 in
theorem c_X11_act {l : Launch} {D : va_G} {cy : Nat → ClassId} {T0 tB tE : Nat} {a : Nat → Nat} {rw : Nat → Option Nat} (S : GS) (p0 : Int32) (p1 : Int32)  (hr_p0 : (-2147483648) ≤ p0.toInt ∧ p0.toInt ≤ (-1)) : Ct l D cy T0 tB tE yX11_act cX11_act 4 (some .int) 1 21 0 0 (cw cy tE a rw S) [.ref (a 0), .int p0, .int p1] (QI D (U := GS) (fun r u => (-1) = r ∧ S = u) (cw cy tE a rw)) := by
  refine Ct.ofZ RX11 "act" [(0, .ref (a 0)), (1, .int p0), (2, .int p1)] rfl rfl rfl rfl (Nat.le_of_ble_eq_true rfl) ?_
  intro p e R s m args below meth c A b
  refine z_aload_n b dX11_act_0 rfl rfl ?_
  refine z_get (q0 := 0) (k9 := 3) (v := .ref (a 10)) b (cw_0 cy tE a rw S) rfl in_X11 (by decide) wf_X11_27 rfl dX11_act_1 ?_
  refine z_iload_n b dX11_act_4 rfl rfl ?_
  refine z_callq b (z_runV (q0 := 10) (As := [.int p0]) (st := []) b (c_X4_actAt S p0 ⟨by omega, by omega⟩) cf_X4_actAt (cw_10 cy tE a rw S) rfl wm_X11_150 wi_X4_actAt ws_X4_actAt dX11_act_5 rfl (Nat.le_of_ble_eq_true rfl) ⟨by decide, by decide, by decide, by decide⟩) (fun r3636 u3637 h3635 => ?_)
  obtain ⟨rfl, rfl⟩ := h3635
  refine z_astore_nN (lv' := [(3, .null), (0, .ref (a 0)), (1, .int p0), (2, .int p1)]) b dX11_act_8 rfl (by decide) rfl ?_
  refine z_aload_nN b dX11_act_9 rfl rfl ?_
  refine z_ifnonnullN b dX11_act_10 ?_
  refine z_iconst (v := (-1)) b dX11_act_13 (by decide) ?_
  exact z_iret (u := S) b rfl dX11_act_14 ⟨rfl, rfl⟩ rfl (by decide) (by decide)

set_option maxHeartbeats 4000000 in
set_option maxRecDepth 100000 in
theorem c_X12_isAct {l : Launch} {D : va_G} {cy : Nat → ClassId} {T0 tB tE : Nat} {a : Nat → Nat} (S : GS) (p0 : Int32)  (hr_p0 : (-2147483648) ≤ p0.toInt ∧ p0.toInt ≤ (-1)) : Ct l D cy T0 tB tE yX12_isAct cX12_isAct 2 (some .boolean) 1 22 0 0 (mw cy a S) [.ref (a 0), .int p0] (QI D (U := GS) (fun r u => 0 = r ∧ S = u) (mw cy a)) := by
  refine Ct.ofZ RX12 "isAct" [(0, .ref (a 0)), (1, .int p0)] rfl rfl rfl rfl (Nat.le_of_ble_eq_true rfl) ?_
  intro p e R s m args below meth c A b
  refine z_iload_n b dX12_isAct_0 rfl rfl ?_
  refine z_iconst (v := 0) b dX12_isAct_1 (by decide) ?_
  refine z_bipush (v := 11) b dX12_isAct_2 (by decide) ?_
  refine z_calli b (z_runS (As := [.int p0, .int 0, .int 11]) (st := []) b (c_X12_isIn_22 S p0 ⟨by omega, by omega⟩) cf_X12_isIn wm_X12_1 ws_X12_isIn dX12_isAct_4 rfl (Nat.le_of_ble_eq_true rfl) ⟨by decide, by decide, by decide, by decide⟩) (fun r3639 u3640 h3638 => ?_)
  obtain ⟨rfl, rfl⟩ := h3638
  refine z_if_eq_t (tgt := 30) b dX12_isAct_7 (by decide) (by decide) ?_
  refine z_iconst (v := 0) b dX12_isAct_30 (by decide) ?_
  exact z_zret (u := S) b rfl (by decide) dX12_isAct_31 ⟨rfl, rfl⟩ rfl (by decide) (by decide)

set_option maxHeartbeats 4000000 in
set_option maxRecDepth 100000 in
theorem c_X12_act {l : Launch} {D : va_G} {cy : Nat → ClassId} {T0 tB tE : Nat} {a : Nat → Nat} (S : GS) (p0 : Int32) (p1 : Int32)  (hr_p0 : (-2147483648) ≤ p0.toInt ∧ p0.toInt ≤ (-1)) : Ct l D cy T0 tB tE yX12_act cX12_act 3 (some .int) 2 43 0 0 (mw cy a S) [.ref (a 0), .int p0, .int p1] (QI D (U := GS) (fun r u => (-1) = r ∧ S = u) (mw cy a)) := by
  refine Ct.ofZ RX12 "act" [(0, .ref (a 0)), (1, .int p0), (2, .int p1)] rfl rfl rfl rfl (Nat.le_of_ble_eq_true rfl) ?_
  intro p e R s m args below meth c A b
  refine z_aload_n b dX12_act_0 rfl rfl ?_
  refine z_iload_n b dX12_act_1 rfl rfl ?_
  refine z_calli b (z_runV (q0 := 0) (As := [.int p0]) (st := []) b (c_X12_isAct S p0 ⟨by omega, by omega⟩) cf_X12_isAct (mw_0 cy a S) rfl wm_X12_361 wi_X12_isAct ws_X12_isAct dX12_act_2 rfl (Nat.le_of_ble_eq_true rfl) ⟨by decide, by decide, by decide, by decide⟩) (fun r3642 u3643 h3641 => ?_)
  obtain ⟨rfl, rfl⟩ := h3641
  refine z_if_ne_f (tgt := 10) b dX12_act_5 (by decide) (by decide) ?_
  refine z_iconst (v := (-1)) b dX12_act_8 (by decide) ?_
  exact z_iret (u := S) b rfl dX12_act_9 ⟨rfl, rfl⟩ rfl (by decide) (by decide)

set_option maxHeartbeats 4000000 in
set_option maxRecDepth 100000 in
theorem c_X4_actAt_2 {l : Launch} {D : va_G} {cy : Nat → ClassId} {T0 tB tE : Nat} {a : Nat → Nat} {rw : Nat → Option Nat} (S : GS) (p0 : Int32)  (hr_p0 : 12 ≤ p0.toInt ∧ p0.toInt ≤ 2147483647) : Ct l D cy T0 tB tE yX4_actAt cX4_actAt 2 (some (.object "LawHoles$Act")) 0 0 0 0 (cw cy tE a rw S) [.ref (a 10), .int p0] (QQ D (U := GS) (fun r u => none = r ∧ S = u) (cw cy tE a rw)) := by
  refine Ct.ofZ RX4 "actAt" [(0, .ref (a 10)), (1, .int p0)] rfl rfl rfl rfl (Nat.le_of_ble_eq_true rfl) ?_
  intro p e R s m args below meth c A b
  refine z_iload_n b dX4_actAt_0 rfl rfl ?_
  refine y_if_lt (tgt := 22) (xl := p0.toInt) b rfl dX4_actAt_1 (by decide) (fun c3644 => ?_) (fun c3644 => ?_)
  · exfalso; omega
  · refine z_iload_n b dX4_actAt_4 rfl rfl ?_
    refine z_aload_n b dX4_actAt_5 rfl rfl ?_
    refine z_get (q0 := 10) (k9 := 0) (v := .ref (a 11)) b (cw_10 cy tE a rw S) rfl in_X4 (by decide) wf_X4_11 rfl dX4_actAt_6 ?_
    refine z_alen (q0 := 11) (t0 := 3) (v := 12) b (cw_11 cy tE a rw S) rfl rfl dX4_actAt_9 ?_
    refine y_icmp_ge (tgt := 22) (xl := p0.toInt) (yl := 12) b rfl (by decide) dX4_actAt_10 (by decide) (fun c3645 => ?_) (fun c3645 => ?_)
    · refine z_null b dX4_actAt_22 ?_
      exact z_aret (v := none) (u := S) b rfl (Or.inl ⟨_, rfl⟩) dX4_actAt_23 ⟨rfl, rfl⟩ rfl (by decide) (by decide)
    · exfalso; omega

set_option maxHeartbeats 4000000 in
set_option maxRecDepth 100000 in
theorem c_X11_act_2 {l : Launch} {D : va_G} {cy : Nat → ClassId} {T0 tB tE : Nat} {a : Nat → Nat} {rw : Nat → Option Nat} (S : GS) (p0 : Int32) (p1 : Int32)  (hr_p0 : 12 ≤ p0.toInt ∧ p0.toInt ≤ 2147483647) : Ct l D cy T0 tB tE yX11_act cX11_act 4 (some .int) 1 21 0 0 (cw cy tE a rw S) [.ref (a 0), .int p0, .int p1] (QI D (U := GS) (fun r u => (-1) = r ∧ S = u) (cw cy tE a rw)) := by
  refine Ct.ofZ RX11 "act" [(0, .ref (a 0)), (1, .int p0), (2, .int p1)] rfl rfl rfl rfl (Nat.le_of_ble_eq_true rfl) ?_
  intro p e R s m args below meth c A b
  refine z_aload_n b dX11_act_0 rfl rfl ?_
  refine z_get (q0 := 0) (k9 := 3) (v := .ref (a 10)) b (cw_0 cy tE a rw S) rfl in_X11 (by decide) wf_X11_27 rfl dX11_act_1 ?_
  refine z_iload_n b dX11_act_4 rfl rfl ?_
  refine z_callq b (z_runV (q0 := 10) (As := [.int p0]) (st := []) b (c_X4_actAt_2 S p0 ⟨by omega, by omega⟩) cf_X4_actAt (cw_10 cy tE a rw S) rfl wm_X11_150 wi_X4_actAt ws_X4_actAt dX11_act_5 rfl (Nat.le_of_ble_eq_true rfl) ⟨by decide, by decide, by decide, by decide⟩) (fun r3647 u3648 h3646 => ?_)
  obtain ⟨rfl, rfl⟩ := h3646
  refine z_astore_nN (lv' := [(3, .null), (0, .ref (a 0)), (1, .int p0), (2, .int p1)]) b dX11_act_8 rfl (by decide) rfl ?_
  refine z_aload_nN b dX11_act_9 rfl rfl ?_
  refine z_ifnonnullN b dX11_act_10 ?_
  refine z_iconst (v := (-1)) b dX11_act_13 (by decide) ?_
  exact z_iret (u := S) b rfl dX11_act_14 ⟨rfl, rfl⟩ rfl (by decide) (by decide)

set_option maxHeartbeats 4000000 in
set_option maxRecDepth 100000 in
theorem c_X12_isAct_2 {l : Launch} {D : va_G} {cy : Nat → ClassId} {T0 tB tE : Nat} {a : Nat → Nat} (S : GS) (p0 : Int32)  (hr_p0 : 12 ≤ p0.toInt ∧ p0.toInt ≤ 2147483647) : Ct l D cy T0 tB tE yX12_isAct cX12_isAct 2 (some .boolean) 1 22 0 0 (mw cy a S) [.ref (a 0), .int p0] (QI D (U := GS) (fun r u => 0 = r ∧ S = u) (mw cy a)) := by
  refine Ct.ofZ RX12 "isAct" [(0, .ref (a 0)), (1, .int p0)] rfl rfl rfl rfl (Nat.le_of_ble_eq_true rfl) ?_
  intro p e R s m args below meth c A b
  refine z_iload_n b dX12_isAct_0 rfl rfl ?_
  refine z_iconst (v := 0) b dX12_isAct_1 (by decide) ?_
  refine z_bipush (v := 11) b dX12_isAct_2 (by decide) ?_
  refine z_calli b (z_runS (As := [.int p0, .int 0, .int 11]) (st := []) b (c_X12_isIn_24 S p0 ⟨by omega, by omega⟩) cf_X12_isIn wm_X12_1 ws_X12_isIn dX12_isAct_4 rfl (Nat.le_of_ble_eq_true rfl) ⟨by decide, by decide, by decide, by decide⟩) (fun r3650 u3651 h3649 => ?_)
  obtain ⟨rfl, rfl⟩ := h3649
  refine z_if_eq_t (tgt := 30) b dX12_isAct_7 (by decide) (by decide) ?_
  refine z_iconst (v := 0) b dX12_isAct_30 (by decide) ?_
  exact z_zret (u := S) b rfl (by decide) dX12_isAct_31 ⟨rfl, rfl⟩ rfl (by decide) (by decide)

set_option maxHeartbeats 4000000 in
set_option maxRecDepth 100000 in
theorem c_X12_act_2 {l : Launch} {D : va_G} {cy : Nat → ClassId} {T0 tB tE : Nat} {a : Nat → Nat} (S : GS) (p0 : Int32) (p1 : Int32)  (hr_p0 : 12 ≤ p0.toInt ∧ p0.toInt ≤ 2147483647) : Ct l D cy T0 tB tE yX12_act cX12_act 3 (some .int) 2 43 0 0 (mw cy a S) [.ref (a 0), .int p0, .int p1] (QI D (U := GS) (fun r u => (-1) = r ∧ S = u) (mw cy a)) := by
  refine Ct.ofZ RX12 "act" [(0, .ref (a 0)), (1, .int p0), (2, .int p1)] rfl rfl rfl rfl (Nat.le_of_ble_eq_true rfl) ?_
  intro p e R s m args below meth c A b
  refine z_aload_n b dX12_act_0 rfl rfl ?_
  refine z_iload_n b dX12_act_1 rfl rfl ?_
  refine z_calli b (z_runV (q0 := 0) (As := [.int p0]) (st := []) b (c_X12_isAct_2 S p0 ⟨by omega, by omega⟩) cf_X12_isAct (mw_0 cy a S) rfl wm_X12_361 wi_X12_isAct ws_X12_isAct dX12_act_2 rfl (Nat.le_of_ble_eq_true rfl) ⟨by decide, by decide, by decide, by decide⟩) (fun r3653 u3654 h3652 => ?_)
  obtain ⟨rfl, rfl⟩ := h3652
  refine z_if_ne_f (tgt := 10) b dX12_act_5 (by decide) (by decide) ?_
  refine z_iconst (v := (-1)) b dX12_act_8 (by decide) ?_
  exact z_iret (u := S) b rfl dX12_act_9 ⟨rfl, rfl⟩ rfl (by decide) (by decide)

set_option maxHeartbeats 4000000 in
set_option maxRecDepth 100000 in
theorem c_X4_actAt_3 {l : Launch} {D : va_G} {cy : Nat → ClassId} {T0 tB tE : Nat} {a : Nat → Nat} {rw : Nat → Option Nat} (S : GS)   : Ct l D cy T0 tB tE yX4_actAt cX4_actAt 2 (some (.object "LawHoles$Act")) 0 0 0 0 (cw cy tE a rw S) [.ref (a 10), .int 0] (QQ D (U := GS) (fun r u => none = r ∧ S = u) (cw cy tE a rw)) := by
  refine Ct.ofZ RX4 "actAt" [(0, .ref (a 10)), (1, .int 0)] rfl rfl rfl rfl (Nat.le_of_ble_eq_true rfl) ?_
  intro p e R s m args below meth c A b
  refine z_iload_n b dX4_actAt_0 rfl rfl ?_
  refine z_if_lt_f (tgt := 22) b dX4_actAt_1 (by decide) (by decide) ?_
  refine z_iload_n b dX4_actAt_4 rfl rfl ?_
  refine z_aload_n b dX4_actAt_5 rfl rfl ?_
  refine z_get (q0 := 10) (k9 := 0) (v := .ref (a 11)) b (cw_10 cy tE a rw S) rfl in_X4 (by decide) wf_X4_11 rfl dX4_actAt_6 ?_
  refine z_alen (q0 := 11) (t0 := 3) (v := 12) b (cw_11 cy tE a rw S) rfl rfl dX4_actAt_9 ?_
  refine z_icmp_ge_f (tgt := 22) b dX4_actAt_10 (by decide) (by decide) ?_
  refine z_aload_n b dX4_actAt_13 rfl rfl ?_
  refine z_get (q0 := 10) (k9 := 0) (v := .ref (a 11)) b (cw_10 cy tE a rw S) rfl in_X4 (by decide) wf_X4_11 rfl dX4_actAt_14 ?_
  refine z_iload_n b dX4_actAt_17 rfl rfl ?_
  refine y_aald (q0 := 11) (t0 := 3) (j := 0) (v := .null) b (cw_11 cy tE a rw S) rfl (by decide) rfl dX4_actAt_18 ?_
  refine z_goto (tgt := 23) b dX4_actAt_19 (by decide) ?_
  exact z_aret (v := none) (u := S) b rfl (Or.inl ⟨_, rfl⟩) dX4_actAt_23 ⟨rfl, rfl⟩ rfl (by decide) (by decide)

set_option maxHeartbeats 4000000 in
set_option maxRecDepth 100000 in
theorem c_X11_act_3 {l : Launch} {D : va_G} {cy : Nat → ClassId} {T0 tB tE : Nat} {a : Nat → Nat} {rw : Nat → Option Nat} (S : GS) (p0 : Int32)  : Ct l D cy T0 tB tE yX11_act cX11_act 4 (some .int) 1 21 0 0 (cw cy tE a rw S) [.ref (a 0), .int 0, .int p0] (QI D (U := GS) (fun r u => (-1) = r ∧ S = u) (cw cy tE a rw)) := by
  refine Ct.ofZ RX11 "act" [(0, .ref (a 0)), (1, .int 0), (2, .int p0)] rfl rfl rfl rfl (Nat.le_of_ble_eq_true rfl) ?_
  intro p e R s m args below meth c A b
  refine z_aload_n b dX11_act_0 rfl rfl ?_
  refine z_get (q0 := 0) (k9 := 3) (v := .ref (a 10)) b (cw_0 cy tE a rw S) rfl in_X11 (by decide) wf_X11_27 rfl dX11_act_1 ?_
  refine z_iload_n b dX11_act_4 rfl rfl ?_
  refine z_callq b (z_runV (q0 := 10) (As := [.int 0]) (st := []) b (c_X4_actAt_3 S ) cf_X4_actAt (cw_10 cy tE a rw S) rfl wm_X11_150 wi_X4_actAt ws_X4_actAt dX11_act_5 rfl (Nat.le_of_ble_eq_true rfl) ⟨by decide, by decide, by decide, by decide⟩) (fun r3656 u3657 h3655 => ?_)
  obtain ⟨rfl, rfl⟩ := h3655
  refine z_astore_nN (lv' := [(3, .null), (0, .ref (a 0)), (1, .int 0), (2, .int p0)]) b dX11_act_8 rfl (by decide) rfl ?_
  refine z_aload_nN b dX11_act_9 rfl rfl ?_
  refine z_ifnonnullN b dX11_act_10 ?_
  refine z_iconst (v := (-1)) b dX11_act_13 (by decide) ?_
  exact z_iret (u := S) b rfl dX11_act_14 ⟨rfl, rfl⟩ rfl (by decide) (by decide)

set_option maxHeartbeats 4000000 in
set_option maxRecDepth 100000 in
theorem c_X12_isIn_25 {l : Launch} {D : va_G} {cy : Nat → ClassId} {T0 tB tE : Nat} {a : Nat → Nat} (S : GS)   : Ct l D cy T0 tB tE yX12_isIn cX12_isIn 3 (some .boolean) 0 0 0 0 (mw cy a S) [.int 0, .int 0, .int 11] (QI D (U := GS) (fun r u => 1 = r ∧ S = u) (mw cy a)) := by
  refine Ct.ofZ RX12 "isIn" [(0, .int 0), (1, .int 0), (2, .int 11)] rfl rfl rfl rfl (Nat.le_of_ble_eq_true rfl) ?_
  intro p e R s m args below meth c A b
  refine z_iload_n b dX12_isIn_0 rfl rfl ?_
  refine z_iload_n b dX12_isIn_1 rfl rfl ?_
  refine z_icmp_lt_f (tgt := 14) b dX12_isIn_2 (by decide) (by decide) ?_
  refine z_iload_n b dX12_isIn_5 rfl rfl ?_
  refine z_iload_n b dX12_isIn_6 rfl rfl ?_
  refine z_icmp_gt_f (tgt := 14) b dX12_isIn_7 (by decide) (by decide) ?_
  refine z_iconst (v := 1) b dX12_isIn_10 (by decide) ?_
  refine z_goto (tgt := 15) b dX12_isIn_11 (by decide) ?_
  exact z_zret (u := S) b rfl (by decide) dX12_isIn_15 ⟨rfl, rfl⟩ rfl (by decide) (by decide)

set_option maxHeartbeats 4000000 in
set_option maxRecDepth 100000 in
theorem c_X12_isAct_3 {l : Launch} {D : va_G} {cy : Nat → ClassId} {T0 tB tE : Nat} {a : Nat → Nat} (S : GS)  (h_a_7_0 : ar S 7 0 = 0) : Ct l D cy T0 tB tE yX12_isAct cX12_isAct 2 (some .boolean) 1 22 0 0 (mw cy a S) [.ref (a 0), .int 0] (QI D (U := GS) (fun r u => 0 = r ∧ S = u) (mw cy a)) := by
  refine Ct.ofZ RX12 "isAct" [(0, .ref (a 0)), (1, .int 0)] rfl rfl rfl rfl (Nat.le_of_ble_eq_true rfl) ?_
  intro p e R s m args below meth c A b
  refine z_iload_n b dX12_isAct_0 rfl rfl ?_
  refine z_iconst (v := 0) b dX12_isAct_1 (by decide) ?_
  refine z_bipush (v := 11) b dX12_isAct_2 (by decide) ?_
  refine z_calli b (z_runS (As := [.int 0, .int 0, .int 11]) (st := []) b (c_X12_isIn_25 S ) cf_X12_isIn wm_X12_1 ws_X12_isIn dX12_isAct_4 rfl (Nat.le_of_ble_eq_true rfl) ⟨by decide, by decide, by decide, by decide⟩) (fun r3659 u3660 h3658 => ?_)
  obtain ⟨rfl, rfl⟩ := h3658
  refine z_if_eq_f (tgt := 30) b dX12_isAct_7 (by decide) (by decide) ?_
  refine z_iload_n b dX12_isAct_10 rfl rfl ?_
  refine z_bipush (v := 6) b dX12_isAct_11 (by decide) ?_
  refine z_irem (v := 0) b dX12_isAct_13 (by decide) (by decide) ?_
  refine z_aload_n b dX12_isAct_14 rfl rfl ?_
  refine z_get (q0 := 0) (k9 := 9) (v := .ref (a 8)) b (mw_0 cy a S) rfl in_X12 (by decide) wf_X12_36 rfl dX12_isAct_15 ?_
  refine z_iload_n b dX12_isAct_18 rfl rfl ?_
  refine z_bipush (v := 6) b dX12_isAct_19 (by decide) ?_
  refine z_idiv (v := 0) b dX12_isAct_21 (by decide) (by decide) ?_
  refine y_iald (q0 := 8) (j := 0) (v := (ar S 7 0)) b (mw_8 cy a S) (by decide) rfl dX12_isAct_22 ?_
  refine z_eqi h_a_7_0 ?_
  refine z_icmp_ge_t (tgt := 30) b dX12_isAct_23 (by decide) (by decide) ?_
  refine z_iconst (v := 0) b dX12_isAct_30 (by decide) ?_
  exact z_zret (u := S) b rfl (by decide) dX12_isAct_31 ⟨rfl, rfl⟩ rfl (by decide) (by decide)

set_option maxHeartbeats 4000000 in
set_option maxRecDepth 100000 in
theorem c_X12_act_3 {l : Launch} {D : va_G} {cy : Nat → ClassId} {T0 tB tE : Nat} {a : Nat → Nat} (S : GS) (p0 : Int32) (h_a_7_0 : ar S 7 0 = 0) : Ct l D cy T0 tB tE yX12_act cX12_act 3 (some .int) 2 43 0 0 (mw cy a S) [.ref (a 0), .int 0, .int p0] (QI D (U := GS) (fun r u => (-1) = r ∧ S = u) (mw cy a)) := by
  refine Ct.ofZ RX12 "act" [(0, .ref (a 0)), (1, .int 0), (2, .int p0)] rfl rfl rfl rfl (Nat.le_of_ble_eq_true rfl) ?_
  intro p e R s m args below meth c A b
  refine z_aload_n b dX12_act_0 rfl rfl ?_
  refine z_iload_n b dX12_act_1 rfl rfl ?_
  refine z_calli b (z_runV (q0 := 0) (As := [.int 0]) (st := []) b (c_X12_isAct_3 S h_a_7_0) cf_X12_isAct (mw_0 cy a S) rfl wm_X12_361 wi_X12_isAct ws_X12_isAct dX12_act_2 rfl (Nat.le_of_ble_eq_true rfl) ⟨by decide, by decide, by decide, by decide⟩) (fun r3662 u3663 h3661 => ?_)
  obtain ⟨rfl, rfl⟩ := h3661
  refine z_if_ne_f (tgt := 10) b dX12_act_5 (by decide) (by decide) ?_
  refine z_iconst (v := (-1)) b dX12_act_8 (by decide) ?_
  exact z_iret (u := S) b rfl dX12_act_9 ⟨rfl, rfl⟩ rfl (by decide) (by decide)

set_option maxHeartbeats 4000000 in
set_option maxRecDepth 100000 in
theorem c_X4_actAt_4 {l : Launch} {D : va_G} {cy : Nat → ClassId} {T0 tB tE : Nat} {a : Nat → Nat} {rw : Nat → Option Nat} (S : GS)   : Ct l D cy T0 tB tE yX4_actAt cX4_actAt 2 (some (.object "LawHoles$Act")) 0 0 0 0 (cw cy tE a rw S) [.ref (a 10), .int 1] (QQ D (U := GS) (fun r u => none = r ∧ S = u) (cw cy tE a rw)) := by
  refine Ct.ofZ RX4 "actAt" [(0, .ref (a 10)), (1, .int 1)] rfl rfl rfl rfl (Nat.le_of_ble_eq_true rfl) ?_
  intro p e R s m args below meth c A b
  refine z_iload_n b dX4_actAt_0 rfl rfl ?_
  refine z_if_lt_f (tgt := 22) b dX4_actAt_1 (by decide) (by decide) ?_
  refine z_iload_n b dX4_actAt_4 rfl rfl ?_
  refine z_aload_n b dX4_actAt_5 rfl rfl ?_
  refine z_get (q0 := 10) (k9 := 0) (v := .ref (a 11)) b (cw_10 cy tE a rw S) rfl in_X4 (by decide) wf_X4_11 rfl dX4_actAt_6 ?_
  refine z_alen (q0 := 11) (t0 := 3) (v := 12) b (cw_11 cy tE a rw S) rfl rfl dX4_actAt_9 ?_
  refine z_icmp_ge_f (tgt := 22) b dX4_actAt_10 (by decide) (by decide) ?_
  refine z_aload_n b dX4_actAt_13 rfl rfl ?_
  refine z_get (q0 := 10) (k9 := 0) (v := .ref (a 11)) b (cw_10 cy tE a rw S) rfl in_X4 (by decide) wf_X4_11 rfl dX4_actAt_14 ?_
  refine z_iload_n b dX4_actAt_17 rfl rfl ?_
  refine y_aald (q0 := 11) (t0 := 3) (j := 1) (v := .null) b (cw_11 cy tE a rw S) rfl (by decide) rfl dX4_actAt_18 ?_
  refine z_goto (tgt := 23) b dX4_actAt_19 (by decide) ?_
  exact z_aret (v := none) (u := S) b rfl (Or.inl ⟨_, rfl⟩) dX4_actAt_23 ⟨rfl, rfl⟩ rfl (by decide) (by decide)

set_option maxHeartbeats 4000000 in
set_option maxRecDepth 100000 in
theorem c_X11_act_4 {l : Launch} {D : va_G} {cy : Nat → ClassId} {T0 tB tE : Nat} {a : Nat → Nat} {rw : Nat → Option Nat} (S : GS) (p0 : Int32)  : Ct l D cy T0 tB tE yX11_act cX11_act 4 (some .int) 1 21 0 0 (cw cy tE a rw S) [.ref (a 0), .int 1, .int p0] (QI D (U := GS) (fun r u => (-1) = r ∧ S = u) (cw cy tE a rw)) := by
  refine Ct.ofZ RX11 "act" [(0, .ref (a 0)), (1, .int 1), (2, .int p0)] rfl rfl rfl rfl (Nat.le_of_ble_eq_true rfl) ?_
  intro p e R s m args below meth c A b
  refine z_aload_n b dX11_act_0 rfl rfl ?_
  refine z_get (q0 := 0) (k9 := 3) (v := .ref (a 10)) b (cw_0 cy tE a rw S) rfl in_X11 (by decide) wf_X11_27 rfl dX11_act_1 ?_
  refine z_iload_n b dX11_act_4 rfl rfl ?_
  refine z_callq b (z_runV (q0 := 10) (As := [.int 1]) (st := []) b (c_X4_actAt_4 S ) cf_X4_actAt (cw_10 cy tE a rw S) rfl wm_X11_150 wi_X4_actAt ws_X4_actAt dX11_act_5 rfl (Nat.le_of_ble_eq_true rfl) ⟨by decide, by decide, by decide, by decide⟩) (fun r3665 u3666 h3664 => ?_)
  obtain ⟨rfl, rfl⟩ := h3664
  refine z_astore_nN (lv' := [(3, .null), (0, .ref (a 0)), (1, .int 1), (2, .int p0)]) b dX11_act_8 rfl (by decide) rfl ?_
  refine z_aload_nN b dX11_act_9 rfl rfl ?_
  refine z_ifnonnullN b dX11_act_10 ?_
  refine z_iconst (v := (-1)) b dX11_act_13 (by decide) ?_
  exact z_iret (u := S) b rfl dX11_act_14 ⟨rfl, rfl⟩ rfl (by decide) (by decide)

set_option maxHeartbeats 4000000 in
set_option maxRecDepth 100000 in
theorem c_X12_isIn_26 {l : Launch} {D : va_G} {cy : Nat → ClassId} {T0 tB tE : Nat} {a : Nat → Nat} (S : GS)   : Ct l D cy T0 tB tE yX12_isIn cX12_isIn 3 (some .boolean) 0 0 0 0 (mw cy a S) [.int 1, .int 0, .int 11] (QI D (U := GS) (fun r u => 1 = r ∧ S = u) (mw cy a)) := by
  refine Ct.ofZ RX12 "isIn" [(0, .int 1), (1, .int 0), (2, .int 11)] rfl rfl rfl rfl (Nat.le_of_ble_eq_true rfl) ?_
  intro p e R s m args below meth c A b
  refine z_iload_n b dX12_isIn_0 rfl rfl ?_
  refine z_iload_n b dX12_isIn_1 rfl rfl ?_
  refine z_icmp_lt_f (tgt := 14) b dX12_isIn_2 (by decide) (by decide) ?_
  refine z_iload_n b dX12_isIn_5 rfl rfl ?_
  refine z_iload_n b dX12_isIn_6 rfl rfl ?_
  refine z_icmp_gt_f (tgt := 14) b dX12_isIn_7 (by decide) (by decide) ?_
  refine z_iconst (v := 1) b dX12_isIn_10 (by decide) ?_
  refine z_goto (tgt := 15) b dX12_isIn_11 (by decide) ?_
  exact z_zret (u := S) b rfl (by decide) dX12_isIn_15 ⟨rfl, rfl⟩ rfl (by decide) (by decide)

set_option maxHeartbeats 4000000 in
set_option maxRecDepth 100000 in
theorem c_X12_isAct_4 {l : Launch} {D : va_G} {cy : Nat → ClassId} {T0 tB tE : Nat} {a : Nat → Nat} (S : GS)  (h_a_7_0 : ar S 7 0 = 0) : Ct l D cy T0 tB tE yX12_isAct cX12_isAct 2 (some .boolean) 1 22 0 0 (mw cy a S) [.ref (a 0), .int 1] (QI D (U := GS) (fun r u => 0 = r ∧ S = u) (mw cy a)) := by
  refine Ct.ofZ RX12 "isAct" [(0, .ref (a 0)), (1, .int 1)] rfl rfl rfl rfl (Nat.le_of_ble_eq_true rfl) ?_
  intro p e R s m args below meth c A b
  refine z_iload_n b dX12_isAct_0 rfl rfl ?_
  refine z_iconst (v := 0) b dX12_isAct_1 (by decide) ?_
  refine z_bipush (v := 11) b dX12_isAct_2 (by decide) ?_
  refine z_calli b (z_runS (As := [.int 1, .int 0, .int 11]) (st := []) b (c_X12_isIn_26 S ) cf_X12_isIn wm_X12_1 ws_X12_isIn dX12_isAct_4 rfl (Nat.le_of_ble_eq_true rfl) ⟨by decide, by decide, by decide, by decide⟩) (fun r3668 u3669 h3667 => ?_)
  obtain ⟨rfl, rfl⟩ := h3667
  refine z_if_eq_f (tgt := 30) b dX12_isAct_7 (by decide) (by decide) ?_
  refine z_iload_n b dX12_isAct_10 rfl rfl ?_
  refine z_bipush (v := 6) b dX12_isAct_11 (by decide) ?_
  refine z_irem (v := 1) b dX12_isAct_13 (by decide) (by decide) ?_
  refine z_aload_n b dX12_isAct_14 rfl rfl ?_
  refine z_get (q0 := 0) (k9 := 9) (v := .ref (a 8)) b (mw_0 cy a S) rfl in_X12 (by decide) wf_X12_36 rfl dX12_isAct_15 ?_
  refine z_iload_n b dX12_isAct_18 rfl rfl ?_
  refine z_bipush (v := 6) b dX12_isAct_19 (by decide) ?_
  refine z_idiv (v := 0) b dX12_isAct_21 (by decide) (by decide) ?_
  refine y_iald (q0 := 8) (j := 0) (v := (ar S 7 0)) b (mw_8 cy a S) (by decide) rfl dX12_isAct_22 ?_
  refine z_eqi h_a_7_0 ?_
  refine z_icmp_ge_t (tgt := 30) b dX12_isAct_23 (by decide) (by decide) ?_
  refine z_iconst (v := 0) b dX12_isAct_30 (by decide) ?_
  exact z_zret (u := S) b rfl (by decide) dX12_isAct_31 ⟨rfl, rfl⟩ rfl (by decide) (by decide)

set_option maxHeartbeats 4000000 in
set_option maxRecDepth 100000 in
theorem c_X12_act_4 {l : Launch} {D : va_G} {cy : Nat → ClassId} {T0 tB tE : Nat} {a : Nat → Nat} (S : GS) (p0 : Int32) (h_a_7_0 : ar S 7 0 = 0) : Ct l D cy T0 tB tE yX12_act cX12_act 3 (some .int) 2 43 0 0 (mw cy a S) [.ref (a 0), .int 1, .int p0] (QI D (U := GS) (fun r u => (-1) = r ∧ S = u) (mw cy a)) := by
  refine Ct.ofZ RX12 "act" [(0, .ref (a 0)), (1, .int 1), (2, .int p0)] rfl rfl rfl rfl (Nat.le_of_ble_eq_true rfl) ?_
  intro p e R s m args below meth c A b
  refine z_aload_n b dX12_act_0 rfl rfl ?_
  refine z_iload_n b dX12_act_1 rfl rfl ?_
  refine z_calli b (z_runV (q0 := 0) (As := [.int 1]) (st := []) b (c_X12_isAct_4 S h_a_7_0) cf_X12_isAct (mw_0 cy a S) rfl wm_X12_361 wi_X12_isAct ws_X12_isAct dX12_act_2 rfl (Nat.le_of_ble_eq_true rfl) ⟨by decide, by decide, by decide, by decide⟩) (fun r3671 u3672 h3670 => ?_)
  obtain ⟨rfl, rfl⟩ := h3670
  refine z_if_ne_f (tgt := 10) b dX12_act_5 (by decide) (by decide) ?_
  refine z_iconst (v := (-1)) b dX12_act_8 (by decide) ?_
  exact z_iret (u := S) b rfl dX12_act_9 ⟨rfl, rfl⟩ rfl (by decide) (by decide)

set_option maxHeartbeats 4000000 in
set_option maxRecDepth 100000 in
theorem c_X4_actAt_5 {l : Launch} {D : va_G} {cy : Nat → ClassId} {T0 tB tE : Nat} {a : Nat → Nat} {rw : Nat → Option Nat} (S : GS)   : Ct l D cy T0 tB tE yX4_actAt cX4_actAt 2 (some (.object "LawHoles$Act")) 0 0 0 0 (cw cy tE a rw S) [.ref (a 10), .int 2] (QQ D (U := GS) (fun r u => none = r ∧ S = u) (cw cy tE a rw)) := by
  refine Ct.ofZ RX4 "actAt" [(0, .ref (a 10)), (1, .int 2)] rfl rfl rfl rfl (Nat.le_of_ble_eq_true rfl) ?_
  intro p e R s m args below meth c A b
  refine z_iload_n b dX4_actAt_0 rfl rfl ?_
  refine z_if_lt_f (tgt := 22) b dX4_actAt_1 (by decide) (by decide) ?_
  refine z_iload_n b dX4_actAt_4 rfl rfl ?_
  refine z_aload_n b dX4_actAt_5 rfl rfl ?_
  refine z_get (q0 := 10) (k9 := 0) (v := .ref (a 11)) b (cw_10 cy tE a rw S) rfl in_X4 (by decide) wf_X4_11 rfl dX4_actAt_6 ?_
  refine z_alen (q0 := 11) (t0 := 3) (v := 12) b (cw_11 cy tE a rw S) rfl rfl dX4_actAt_9 ?_
  refine z_icmp_ge_f (tgt := 22) b dX4_actAt_10 (by decide) (by decide) ?_
  refine z_aload_n b dX4_actAt_13 rfl rfl ?_
  refine z_get (q0 := 10) (k9 := 0) (v := .ref (a 11)) b (cw_10 cy tE a rw S) rfl in_X4 (by decide) wf_X4_11 rfl dX4_actAt_14 ?_
  refine z_iload_n b dX4_actAt_17 rfl rfl ?_
  refine y_aald (q0 := 11) (t0 := 3) (j := 2) (v := .null) b (cw_11 cy tE a rw S) rfl (by decide) rfl dX4_actAt_18 ?_
  refine z_goto (tgt := 23) b dX4_actAt_19 (by decide) ?_
  exact z_aret (v := none) (u := S) b rfl (Or.inl ⟨_, rfl⟩) dX4_actAt_23 ⟨rfl, rfl⟩ rfl (by decide) (by decide)

set_option maxHeartbeats 4000000 in
set_option maxRecDepth 100000 in
theorem c_X11_act_5 {l : Launch} {D : va_G} {cy : Nat → ClassId} {T0 tB tE : Nat} {a : Nat → Nat} {rw : Nat → Option Nat} (S : GS) (p0 : Int32)  : Ct l D cy T0 tB tE yX11_act cX11_act 4 (some .int) 1 21 0 0 (cw cy tE a rw S) [.ref (a 0), .int 2, .int p0] (QI D (U := GS) (fun r u => (-1) = r ∧ S = u) (cw cy tE a rw)) := by
  refine Ct.ofZ RX11 "act" [(0, .ref (a 0)), (1, .int 2), (2, .int p0)] rfl rfl rfl rfl (Nat.le_of_ble_eq_true rfl) ?_
  intro p e R s m args below meth c A b
  refine z_aload_n b dX11_act_0 rfl rfl ?_
  refine z_get (q0 := 0) (k9 := 3) (v := .ref (a 10)) b (cw_0 cy tE a rw S) rfl in_X11 (by decide) wf_X11_27 rfl dX11_act_1 ?_
  refine z_iload_n b dX11_act_4 rfl rfl ?_
  refine z_callq b (z_runV (q0 := 10) (As := [.int 2]) (st := []) b (c_X4_actAt_5 S ) cf_X4_actAt (cw_10 cy tE a rw S) rfl wm_X11_150 wi_X4_actAt ws_X4_actAt dX11_act_5 rfl (Nat.le_of_ble_eq_true rfl) ⟨by decide, by decide, by decide, by decide⟩) (fun r3674 u3675 h3673 => ?_)
  obtain ⟨rfl, rfl⟩ := h3673
  refine z_astore_nN (lv' := [(3, .null), (0, .ref (a 0)), (1, .int 2), (2, .int p0)]) b dX11_act_8 rfl (by decide) rfl ?_
  refine z_aload_nN b dX11_act_9 rfl rfl ?_
  refine z_ifnonnullN b dX11_act_10 ?_
  refine z_iconst (v := (-1)) b dX11_act_13 (by decide) ?_
  exact z_iret (u := S) b rfl dX11_act_14 ⟨rfl, rfl⟩ rfl (by decide) (by decide)

set_option maxHeartbeats 4000000 in
set_option maxRecDepth 100000 in
theorem c_X12_isIn_27 {l : Launch} {D : va_G} {cy : Nat → ClassId} {T0 tB tE : Nat} {a : Nat → Nat} (S : GS)   : Ct l D cy T0 tB tE yX12_isIn cX12_isIn 3 (some .boolean) 0 0 0 0 (mw cy a S) [.int 2, .int 0, .int 11] (QI D (U := GS) (fun r u => 1 = r ∧ S = u) (mw cy a)) := by
  refine Ct.ofZ RX12 "isIn" [(0, .int 2), (1, .int 0), (2, .int 11)] rfl rfl rfl rfl (Nat.le_of_ble_eq_true rfl) ?_
  intro p e R s m args below meth c A b
  refine z_iload_n b dX12_isIn_0 rfl rfl ?_
  refine z_iload_n b dX12_isIn_1 rfl rfl ?_
  refine z_icmp_lt_f (tgt := 14) b dX12_isIn_2 (by decide) (by decide) ?_
  refine z_iload_n b dX12_isIn_5 rfl rfl ?_
  refine z_iload_n b dX12_isIn_6 rfl rfl ?_
  refine z_icmp_gt_f (tgt := 14) b dX12_isIn_7 (by decide) (by decide) ?_
  refine z_iconst (v := 1) b dX12_isIn_10 (by decide) ?_
  refine z_goto (tgt := 15) b dX12_isIn_11 (by decide) ?_
  exact z_zret (u := S) b rfl (by decide) dX12_isIn_15 ⟨rfl, rfl⟩ rfl (by decide) (by decide)

set_option maxHeartbeats 4000000 in
set_option maxRecDepth 100000 in
theorem c_X12_isAct_5 {l : Launch} {D : va_G} {cy : Nat → ClassId} {T0 tB tE : Nat} {a : Nat → Nat} (S : GS)  (h_a_7_0 : ar S 7 0 = 0) : Ct l D cy T0 tB tE yX12_isAct cX12_isAct 2 (some .boolean) 1 22 0 0 (mw cy a S) [.ref (a 0), .int 2] (QI D (U := GS) (fun r u => 0 = r ∧ S = u) (mw cy a)) := by
  refine Ct.ofZ RX12 "isAct" [(0, .ref (a 0)), (1, .int 2)] rfl rfl rfl rfl (Nat.le_of_ble_eq_true rfl) ?_
  intro p e R s m args below meth c A b
  refine z_iload_n b dX12_isAct_0 rfl rfl ?_
  refine z_iconst (v := 0) b dX12_isAct_1 (by decide) ?_
  refine z_bipush (v := 11) b dX12_isAct_2 (by decide) ?_
  refine z_calli b (z_runS (As := [.int 2, .int 0, .int 11]) (st := []) b (c_X12_isIn_27 S ) cf_X12_isIn wm_X12_1 ws_X12_isIn dX12_isAct_4 rfl (Nat.le_of_ble_eq_true rfl) ⟨by decide, by decide, by decide, by decide⟩) (fun r3677 u3678 h3676 => ?_)
  obtain ⟨rfl, rfl⟩ := h3676
  refine z_if_eq_f (tgt := 30) b dX12_isAct_7 (by decide) (by decide) ?_
  refine z_iload_n b dX12_isAct_10 rfl rfl ?_
  refine z_bipush (v := 6) b dX12_isAct_11 (by decide) ?_
  refine z_irem (v := 2) b dX12_isAct_13 (by decide) (by decide) ?_
  refine z_aload_n b dX12_isAct_14 rfl rfl ?_
  refine z_get (q0 := 0) (k9 := 9) (v := .ref (a 8)) b (mw_0 cy a S) rfl in_X12 (by decide) wf_X12_36 rfl dX12_isAct_15 ?_
  refine z_iload_n b dX12_isAct_18 rfl rfl ?_
  refine z_bipush (v := 6) b dX12_isAct_19 (by decide) ?_
  refine z_idiv (v := 0) b dX12_isAct_21 (by decide) (by decide) ?_
  refine y_iald (q0 := 8) (j := 0) (v := (ar S 7 0)) b (mw_8 cy a S) (by decide) rfl dX12_isAct_22 ?_
  refine z_eqi h_a_7_0 ?_
  refine z_icmp_ge_t (tgt := 30) b dX12_isAct_23 (by decide) (by decide) ?_
  refine z_iconst (v := 0) b dX12_isAct_30 (by decide) ?_
  exact z_zret (u := S) b rfl (by decide) dX12_isAct_31 ⟨rfl, rfl⟩ rfl (by decide) (by decide)

set_option maxHeartbeats 4000000 in
set_option maxRecDepth 100000 in
theorem c_X12_act_5 {l : Launch} {D : va_G} {cy : Nat → ClassId} {T0 tB tE : Nat} {a : Nat → Nat} (S : GS) (p0 : Int32) (h_a_7_0 : ar S 7 0 = 0) : Ct l D cy T0 tB tE yX12_act cX12_act 3 (some .int) 2 43 0 0 (mw cy a S) [.ref (a 0), .int 2, .int p0] (QI D (U := GS) (fun r u => (-1) = r ∧ S = u) (mw cy a)) := by
  refine Ct.ofZ RX12 "act" [(0, .ref (a 0)), (1, .int 2), (2, .int p0)] rfl rfl rfl rfl (Nat.le_of_ble_eq_true rfl) ?_
  intro p e R s m args below meth c A b
  refine z_aload_n b dX12_act_0 rfl rfl ?_
  refine z_iload_n b dX12_act_1 rfl rfl ?_
  refine z_calli b (z_runV (q0 := 0) (As := [.int 2]) (st := []) b (c_X12_isAct_5 S h_a_7_0) cf_X12_isAct (mw_0 cy a S) rfl wm_X12_361 wi_X12_isAct ws_X12_isAct dX12_act_2 rfl (Nat.le_of_ble_eq_true rfl) ⟨by decide, by decide, by decide, by decide⟩) (fun r3680 u3681 h3679 => ?_)
  obtain ⟨rfl, rfl⟩ := h3679
  refine z_if_ne_f (tgt := 10) b dX12_act_5 (by decide) (by decide) ?_
  refine z_iconst (v := (-1)) b dX12_act_8 (by decide) ?_
  exact z_iret (u := S) b rfl dX12_act_9 ⟨rfl, rfl⟩ rfl (by decide) (by decide)

set_option maxHeartbeats 4000000 in
set_option maxRecDepth 100000 in
theorem c_X4_actAt_6 {l : Launch} {D : va_G} {cy : Nat → ClassId} {T0 tB tE : Nat} {a : Nat → Nat} {rw : Nat → Option Nat} (S : GS)   : Ct l D cy T0 tB tE yX4_actAt cX4_actAt 2 (some (.object "LawHoles$Act")) 0 0 0 0 (cw cy tE a rw S) [.ref (a 10), .int 3] (QQ D (U := GS) (fun r u => none = r ∧ S = u) (cw cy tE a rw)) := by
  refine Ct.ofZ RX4 "actAt" [(0, .ref (a 10)), (1, .int 3)] rfl rfl rfl rfl (Nat.le_of_ble_eq_true rfl) ?_
  intro p e R s m args below meth c A b
  refine z_iload_n b dX4_actAt_0 rfl rfl ?_
  refine z_if_lt_f (tgt := 22) b dX4_actAt_1 (by decide) (by decide) ?_
  refine z_iload_n b dX4_actAt_4 rfl rfl ?_
  refine z_aload_n b dX4_actAt_5 rfl rfl ?_
  refine z_get (q0 := 10) (k9 := 0) (v := .ref (a 11)) b (cw_10 cy tE a rw S) rfl in_X4 (by decide) wf_X4_11 rfl dX4_actAt_6 ?_
  refine z_alen (q0 := 11) (t0 := 3) (v := 12) b (cw_11 cy tE a rw S) rfl rfl dX4_actAt_9 ?_
  refine z_icmp_ge_f (tgt := 22) b dX4_actAt_10 (by decide) (by decide) ?_
  refine z_aload_n b dX4_actAt_13 rfl rfl ?_
  refine z_get (q0 := 10) (k9 := 0) (v := .ref (a 11)) b (cw_10 cy tE a rw S) rfl in_X4 (by decide) wf_X4_11 rfl dX4_actAt_14 ?_
  refine z_iload_n b dX4_actAt_17 rfl rfl ?_
  refine y_aald (q0 := 11) (t0 := 3) (j := 3) (v := .null) b (cw_11 cy tE a rw S) rfl (by decide) rfl dX4_actAt_18 ?_
  refine z_goto (tgt := 23) b dX4_actAt_19 (by decide) ?_
  exact z_aret (v := none) (u := S) b rfl (Or.inl ⟨_, rfl⟩) dX4_actAt_23 ⟨rfl, rfl⟩ rfl (by decide) (by decide)

set_option maxHeartbeats 4000000 in
set_option maxRecDepth 100000 in
theorem c_X11_act_6 {l : Launch} {D : va_G} {cy : Nat → ClassId} {T0 tB tE : Nat} {a : Nat → Nat} {rw : Nat → Option Nat} (S : GS) (p0 : Int32)  : Ct l D cy T0 tB tE yX11_act cX11_act 4 (some .int) 1 21 0 0 (cw cy tE a rw S) [.ref (a 0), .int 3, .int p0] (QI D (U := GS) (fun r u => (-1) = r ∧ S = u) (cw cy tE a rw)) := by
  refine Ct.ofZ RX11 "act" [(0, .ref (a 0)), (1, .int 3), (2, .int p0)] rfl rfl rfl rfl (Nat.le_of_ble_eq_true rfl) ?_
  intro p e R s m args below meth c A b
  refine z_aload_n b dX11_act_0 rfl rfl ?_
  refine z_get (q0 := 0) (k9 := 3) (v := .ref (a 10)) b (cw_0 cy tE a rw S) rfl in_X11 (by decide) wf_X11_27 rfl dX11_act_1 ?_
  refine z_iload_n b dX11_act_4 rfl rfl ?_
  refine z_callq b (z_runV (q0 := 10) (As := [.int 3]) (st := []) b (c_X4_actAt_6 S ) cf_X4_actAt (cw_10 cy tE a rw S) rfl wm_X11_150 wi_X4_actAt ws_X4_actAt dX11_act_5 rfl (Nat.le_of_ble_eq_true rfl) ⟨by decide, by decide, by decide, by decide⟩) (fun r3683 u3684 h3682 => ?_)
  obtain ⟨rfl, rfl⟩ := h3682
  refine z_astore_nN (lv' := [(3, .null), (0, .ref (a 0)), (1, .int 3), (2, .int p0)]) b dX11_act_8 rfl (by decide) rfl ?_
  refine z_aload_nN b dX11_act_9 rfl rfl ?_
  refine z_ifnonnullN b dX11_act_10 ?_
  refine z_iconst (v := (-1)) b dX11_act_13 (by decide) ?_
  exact z_iret (u := S) b rfl dX11_act_14 ⟨rfl, rfl⟩ rfl (by decide) (by decide)

set_option maxHeartbeats 4000000 in
set_option maxRecDepth 100000 in
theorem c_X12_isIn_28 {l : Launch} {D : va_G} {cy : Nat → ClassId} {T0 tB tE : Nat} {a : Nat → Nat} (S : GS)   : Ct l D cy T0 tB tE yX12_isIn cX12_isIn 3 (some .boolean) 0 0 0 0 (mw cy a S) [.int 3, .int 0, .int 11] (QI D (U := GS) (fun r u => 1 = r ∧ S = u) (mw cy a)) := by
  refine Ct.ofZ RX12 "isIn" [(0, .int 3), (1, .int 0), (2, .int 11)] rfl rfl rfl rfl (Nat.le_of_ble_eq_true rfl) ?_
  intro p e R s m args below meth c A b
  refine z_iload_n b dX12_isIn_0 rfl rfl ?_
  refine z_iload_n b dX12_isIn_1 rfl rfl ?_
  refine z_icmp_lt_f (tgt := 14) b dX12_isIn_2 (by decide) (by decide) ?_
  refine z_iload_n b dX12_isIn_5 rfl rfl ?_
  refine z_iload_n b dX12_isIn_6 rfl rfl ?_
  refine z_icmp_gt_f (tgt := 14) b dX12_isIn_7 (by decide) (by decide) ?_
  refine z_iconst (v := 1) b dX12_isIn_10 (by decide) ?_
  refine z_goto (tgt := 15) b dX12_isIn_11 (by decide) ?_
  exact z_zret (u := S) b rfl (by decide) dX12_isIn_15 ⟨rfl, rfl⟩ rfl (by decide) (by decide)

set_option maxHeartbeats 4000000 in
set_option maxRecDepth 100000 in
theorem c_X12_isAct_6 {l : Launch} {D : va_G} {cy : Nat → ClassId} {T0 tB tE : Nat} {a : Nat → Nat} (S : GS)  (h_a_7_0 : ar S 7 0 = 0) : Ct l D cy T0 tB tE yX12_isAct cX12_isAct 2 (some .boolean) 1 22 0 0 (mw cy a S) [.ref (a 0), .int 3] (QI D (U := GS) (fun r u => 0 = r ∧ S = u) (mw cy a)) := by
  refine Ct.ofZ RX12 "isAct" [(0, .ref (a 0)), (1, .int 3)] rfl rfl rfl rfl (Nat.le_of_ble_eq_true rfl) ?_
  intro p e R s m args below meth c A b
  refine z_iload_n b dX12_isAct_0 rfl rfl ?_
  refine z_iconst (v := 0) b dX12_isAct_1 (by decide) ?_
  refine z_bipush (v := 11) b dX12_isAct_2 (by decide) ?_
  refine z_calli b (z_runS (As := [.int 3, .int 0, .int 11]) (st := []) b (c_X12_isIn_28 S ) cf_X12_isIn wm_X12_1 ws_X12_isIn dX12_isAct_4 rfl (Nat.le_of_ble_eq_true rfl) ⟨by decide, by decide, by decide, by decide⟩) (fun r3686 u3687 h3685 => ?_)
  obtain ⟨rfl, rfl⟩ := h3685
  refine z_if_eq_f (tgt := 30) b dX12_isAct_7 (by decide) (by decide) ?_
  refine z_iload_n b dX12_isAct_10 rfl rfl ?_
  refine z_bipush (v := 6) b dX12_isAct_11 (by decide) ?_
  refine z_irem (v := 3) b dX12_isAct_13 (by decide) (by decide) ?_
  refine z_aload_n b dX12_isAct_14 rfl rfl ?_
  refine z_get (q0 := 0) (k9 := 9) (v := .ref (a 8)) b (mw_0 cy a S) rfl in_X12 (by decide) wf_X12_36 rfl dX12_isAct_15 ?_
  refine z_iload_n b dX12_isAct_18 rfl rfl ?_
  refine z_bipush (v := 6) b dX12_isAct_19 (by decide) ?_
  refine z_idiv (v := 0) b dX12_isAct_21 (by decide) (by decide) ?_
  refine y_iald (q0 := 8) (j := 0) (v := (ar S 7 0)) b (mw_8 cy a S) (by decide) rfl dX12_isAct_22 ?_
  refine z_eqi h_a_7_0 ?_
  refine z_icmp_ge_t (tgt := 30) b dX12_isAct_23 (by decide) (by decide) ?_
  refine z_iconst (v := 0) b dX12_isAct_30 (by decide) ?_
  exact z_zret (u := S) b rfl (by decide) dX12_isAct_31 ⟨rfl, rfl⟩ rfl (by decide) (by decide)

set_option maxHeartbeats 4000000 in
set_option maxRecDepth 100000 in
theorem c_X12_act_6 {l : Launch} {D : va_G} {cy : Nat → ClassId} {T0 tB tE : Nat} {a : Nat → Nat} (S : GS) (p0 : Int32) (h_a_7_0 : ar S 7 0 = 0) : Ct l D cy T0 tB tE yX12_act cX12_act 3 (some .int) 2 43 0 0 (mw cy a S) [.ref (a 0), .int 3, .int p0] (QI D (U := GS) (fun r u => (-1) = r ∧ S = u) (mw cy a)) := by
  refine Ct.ofZ RX12 "act" [(0, .ref (a 0)), (1, .int 3), (2, .int p0)] rfl rfl rfl rfl (Nat.le_of_ble_eq_true rfl) ?_
  intro p e R s m args below meth c A b
  refine z_aload_n b dX12_act_0 rfl rfl ?_
  refine z_iload_n b dX12_act_1 rfl rfl ?_
  refine z_calli b (z_runV (q0 := 0) (As := [.int 3]) (st := []) b (c_X12_isAct_6 S h_a_7_0) cf_X12_isAct (mw_0 cy a S) rfl wm_X12_361 wi_X12_isAct ws_X12_isAct dX12_act_2 rfl (Nat.le_of_ble_eq_true rfl) ⟨by decide, by decide, by decide, by decide⟩) (fun r3689 u3690 h3688 => ?_)
  obtain ⟨rfl, rfl⟩ := h3688
  refine z_if_ne_f (tgt := 10) b dX12_act_5 (by decide) (by decide) ?_
  refine z_iconst (v := (-1)) b dX12_act_8 (by decide) ?_
  exact z_iret (u := S) b rfl dX12_act_9 ⟨rfl, rfl⟩ rfl (by decide) (by decide)

set_option maxHeartbeats 4000000 in
set_option maxRecDepth 100000 in
theorem c_X4_actAt_7 {l : Launch} {D : va_G} {cy : Nat → ClassId} {T0 tB tE : Nat} {a : Nat → Nat} {rw : Nat → Option Nat} (S : GS)   : Ct l D cy T0 tB tE yX4_actAt cX4_actAt 2 (some (.object "LawHoles$Act")) 0 0 0 0 (cw cy tE a rw S) [.ref (a 10), .int 4] (QQ D (U := GS) (fun r u => none = r ∧ S = u) (cw cy tE a rw)) := by
  refine Ct.ofZ RX4 "actAt" [(0, .ref (a 10)), (1, .int 4)] rfl rfl rfl rfl (Nat.le_of_ble_eq_true rfl) ?_
  intro p e R s m args below meth c A b
  refine z_iload_n b dX4_actAt_0 rfl rfl ?_
  refine z_if_lt_f (tgt := 22) b dX4_actAt_1 (by decide) (by decide) ?_
  refine z_iload_n b dX4_actAt_4 rfl rfl ?_
  refine z_aload_n b dX4_actAt_5 rfl rfl ?_
  refine z_get (q0 := 10) (k9 := 0) (v := .ref (a 11)) b (cw_10 cy tE a rw S) rfl in_X4 (by decide) wf_X4_11 rfl dX4_actAt_6 ?_
  refine z_alen (q0 := 11) (t0 := 3) (v := 12) b (cw_11 cy tE a rw S) rfl rfl dX4_actAt_9 ?_
  refine z_icmp_ge_f (tgt := 22) b dX4_actAt_10 (by decide) (by decide) ?_
  refine z_aload_n b dX4_actAt_13 rfl rfl ?_
  refine z_get (q0 := 10) (k9 := 0) (v := .ref (a 11)) b (cw_10 cy tE a rw S) rfl in_X4 (by decide) wf_X4_11 rfl dX4_actAt_14 ?_
  refine z_iload_n b dX4_actAt_17 rfl rfl ?_
  refine y_aald (q0 := 11) (t0 := 3) (j := 4) (v := .null) b (cw_11 cy tE a rw S) rfl (by decide) rfl dX4_actAt_18 ?_
  refine z_goto (tgt := 23) b dX4_actAt_19 (by decide) ?_
  exact z_aret (v := none) (u := S) b rfl (Or.inl ⟨_, rfl⟩) dX4_actAt_23 ⟨rfl, rfl⟩ rfl (by decide) (by decide)

set_option maxHeartbeats 4000000 in
set_option maxRecDepth 100000 in
theorem c_X11_act_7 {l : Launch} {D : va_G} {cy : Nat → ClassId} {T0 tB tE : Nat} {a : Nat → Nat} {rw : Nat → Option Nat} (S : GS) (p0 : Int32)  : Ct l D cy T0 tB tE yX11_act cX11_act 4 (some .int) 1 21 0 0 (cw cy tE a rw S) [.ref (a 0), .int 4, .int p0] (QI D (U := GS) (fun r u => (-1) = r ∧ S = u) (cw cy tE a rw)) := by
  refine Ct.ofZ RX11 "act" [(0, .ref (a 0)), (1, .int 4), (2, .int p0)] rfl rfl rfl rfl (Nat.le_of_ble_eq_true rfl) ?_
  intro p e R s m args below meth c A b
  refine z_aload_n b dX11_act_0 rfl rfl ?_
  refine z_get (q0 := 0) (k9 := 3) (v := .ref (a 10)) b (cw_0 cy tE a rw S) rfl in_X11 (by decide) wf_X11_27 rfl dX11_act_1 ?_
  refine z_iload_n b dX11_act_4 rfl rfl ?_
  refine z_callq b (z_runV (q0 := 10) (As := [.int 4]) (st := []) b (c_X4_actAt_7 S ) cf_X4_actAt (cw_10 cy tE a rw S) rfl wm_X11_150 wi_X4_actAt ws_X4_actAt dX11_act_5 rfl (Nat.le_of_ble_eq_true rfl) ⟨by decide, by decide, by decide, by decide⟩) (fun r3692 u3693 h3691 => ?_)
  obtain ⟨rfl, rfl⟩ := h3691
  refine z_astore_nN (lv' := [(3, .null), (0, .ref (a 0)), (1, .int 4), (2, .int p0)]) b dX11_act_8 rfl (by decide) rfl ?_
  refine z_aload_nN b dX11_act_9 rfl rfl ?_
  refine z_ifnonnullN b dX11_act_10 ?_
  refine z_iconst (v := (-1)) b dX11_act_13 (by decide) ?_
  exact z_iret (u := S) b rfl dX11_act_14 ⟨rfl, rfl⟩ rfl (by decide) (by decide)

set_option maxHeartbeats 4000000 in
set_option maxRecDepth 100000 in
theorem c_X12_isIn_29 {l : Launch} {D : va_G} {cy : Nat → ClassId} {T0 tB tE : Nat} {a : Nat → Nat} (S : GS)   : Ct l D cy T0 tB tE yX12_isIn cX12_isIn 3 (some .boolean) 0 0 0 0 (mw cy a S) [.int 4, .int 0, .int 11] (QI D (U := GS) (fun r u => 1 = r ∧ S = u) (mw cy a)) := by
  refine Ct.ofZ RX12 "isIn" [(0, .int 4), (1, .int 0), (2, .int 11)] rfl rfl rfl rfl (Nat.le_of_ble_eq_true rfl) ?_
  intro p e R s m args below meth c A b
  refine z_iload_n b dX12_isIn_0 rfl rfl ?_
  refine z_iload_n b dX12_isIn_1 rfl rfl ?_
  refine z_icmp_lt_f (tgt := 14) b dX12_isIn_2 (by decide) (by decide) ?_
  refine z_iload_n b dX12_isIn_5 rfl rfl ?_
  refine z_iload_n b dX12_isIn_6 rfl rfl ?_
  refine z_icmp_gt_f (tgt := 14) b dX12_isIn_7 (by decide) (by decide) ?_
  refine z_iconst (v := 1) b dX12_isIn_10 (by decide) ?_
  refine z_goto (tgt := 15) b dX12_isIn_11 (by decide) ?_
  exact z_zret (u := S) b rfl (by decide) dX12_isIn_15 ⟨rfl, rfl⟩ rfl (by decide) (by decide)

set_option maxHeartbeats 4000000 in
set_option maxRecDepth 100000 in
theorem c_X12_isAct_7 {l : Launch} {D : va_G} {cy : Nat → ClassId} {T0 tB tE : Nat} {a : Nat → Nat} (S : GS)  (h_a_7_0 : ar S 7 0 = 0) : Ct l D cy T0 tB tE yX12_isAct cX12_isAct 2 (some .boolean) 1 22 0 0 (mw cy a S) [.ref (a 0), .int 4] (QI D (U := GS) (fun r u => 0 = r ∧ S = u) (mw cy a)) := by
  refine Ct.ofZ RX12 "isAct" [(0, .ref (a 0)), (1, .int 4)] rfl rfl rfl rfl (Nat.le_of_ble_eq_true rfl) ?_
  intro p e R s m args below meth c A b
  refine z_iload_n b dX12_isAct_0 rfl rfl ?_
  refine z_iconst (v := 0) b dX12_isAct_1 (by decide) ?_
  refine z_bipush (v := 11) b dX12_isAct_2 (by decide) ?_
  refine z_calli b (z_runS (As := [.int 4, .int 0, .int 11]) (st := []) b (c_X12_isIn_29 S ) cf_X12_isIn wm_X12_1 ws_X12_isIn dX12_isAct_4 rfl (Nat.le_of_ble_eq_true rfl) ⟨by decide, by decide, by decide, by decide⟩) (fun r3695 u3696 h3694 => ?_)
  obtain ⟨rfl, rfl⟩ := h3694
  refine z_if_eq_f (tgt := 30) b dX12_isAct_7 (by decide) (by decide) ?_
  refine z_iload_n b dX12_isAct_10 rfl rfl ?_
  refine z_bipush (v := 6) b dX12_isAct_11 (by decide) ?_
  refine z_irem (v := 4) b dX12_isAct_13 (by decide) (by decide) ?_
  refine z_aload_n b dX12_isAct_14 rfl rfl ?_
  refine z_get (q0 := 0) (k9 := 9) (v := .ref (a 8)) b (mw_0 cy a S) rfl in_X12 (by decide) wf_X12_36 rfl dX12_isAct_15 ?_
  refine z_iload_n b dX12_isAct_18 rfl rfl ?_
  refine z_bipush (v := 6) b dX12_isAct_19 (by decide) ?_
  refine z_idiv (v := 0) b dX12_isAct_21 (by decide) (by decide) ?_
  refine y_iald (q0 := 8) (j := 0) (v := (ar S 7 0)) b (mw_8 cy a S) (by decide) rfl dX12_isAct_22 ?_
  refine z_eqi h_a_7_0 ?_
  refine z_icmp_ge_t (tgt := 30) b dX12_isAct_23 (by decide) (by decide) ?_
  refine z_iconst (v := 0) b dX12_isAct_30 (by decide) ?_
  exact z_zret (u := S) b rfl (by decide) dX12_isAct_31 ⟨rfl, rfl⟩ rfl (by decide) (by decide)

set_option maxHeartbeats 4000000 in
set_option maxRecDepth 100000 in
theorem c_X12_act_7 {l : Launch} {D : va_G} {cy : Nat → ClassId} {T0 tB tE : Nat} {a : Nat → Nat} (S : GS) (p0 : Int32) (h_a_7_0 : ar S 7 0 = 0) : Ct l D cy T0 tB tE yX12_act cX12_act 3 (some .int) 2 43 0 0 (mw cy a S) [.ref (a 0), .int 4, .int p0] (QI D (U := GS) (fun r u => (-1) = r ∧ S = u) (mw cy a)) := by
  refine Ct.ofZ RX12 "act" [(0, .ref (a 0)), (1, .int 4), (2, .int p0)] rfl rfl rfl rfl (Nat.le_of_ble_eq_true rfl) ?_
  intro p e R s m args below meth c A b
  refine z_aload_n b dX12_act_0 rfl rfl ?_
  refine z_iload_n b dX12_act_1 rfl rfl ?_
  refine z_calli b (z_runV (q0 := 0) (As := [.int 4]) (st := []) b (c_X12_isAct_7 S h_a_7_0) cf_X12_isAct (mw_0 cy a S) rfl wm_X12_361 wi_X12_isAct ws_X12_isAct dX12_act_2 rfl (Nat.le_of_ble_eq_true rfl) ⟨by decide, by decide, by decide, by decide⟩) (fun r3698 u3699 h3697 => ?_)
  obtain ⟨rfl, rfl⟩ := h3697
  refine z_if_ne_f (tgt := 10) b dX12_act_5 (by decide) (by decide) ?_
  refine z_iconst (v := (-1)) b dX12_act_8 (by decide) ?_
  exact z_iret (u := S) b rfl dX12_act_9 ⟨rfl, rfl⟩ rfl (by decide) (by decide)

set_option maxHeartbeats 4000000 in
set_option maxRecDepth 100000 in
theorem c_X4_actAt_8 {l : Launch} {D : va_G} {cy : Nat → ClassId} {T0 tB tE : Nat} {a : Nat → Nat} {rw : Nat → Option Nat} (S : GS)   : Ct l D cy T0 tB tE yX4_actAt cX4_actAt 2 (some (.object "LawHoles$Act")) 0 0 0 0 (cw cy tE a rw S) [.ref (a 10), .int 5] (QQ D (U := GS) (fun r u => none = r ∧ S = u) (cw cy tE a rw)) := by
  refine Ct.ofZ RX4 "actAt" [(0, .ref (a 10)), (1, .int 5)] rfl rfl rfl rfl (Nat.le_of_ble_eq_true rfl) ?_
  intro p e R s m args below meth c A b
  refine z_iload_n b dX4_actAt_0 rfl rfl ?_
  refine z_if_lt_f (tgt := 22) b dX4_actAt_1 (by decide) (by decide) ?_
  refine z_iload_n b dX4_actAt_4 rfl rfl ?_
  refine z_aload_n b dX4_actAt_5 rfl rfl ?_
  refine z_get (q0 := 10) (k9 := 0) (v := .ref (a 11)) b (cw_10 cy tE a rw S) rfl in_X4 (by decide) wf_X4_11 rfl dX4_actAt_6 ?_
  refine z_alen (q0 := 11) (t0 := 3) (v := 12) b (cw_11 cy tE a rw S) rfl rfl dX4_actAt_9 ?_
  refine z_icmp_ge_f (tgt := 22) b dX4_actAt_10 (by decide) (by decide) ?_
  refine z_aload_n b dX4_actAt_13 rfl rfl ?_
  refine z_get (q0 := 10) (k9 := 0) (v := .ref (a 11)) b (cw_10 cy tE a rw S) rfl in_X4 (by decide) wf_X4_11 rfl dX4_actAt_14 ?_
  refine z_iload_n b dX4_actAt_17 rfl rfl ?_
  refine y_aald (q0 := 11) (t0 := 3) (j := 5) (v := .null) b (cw_11 cy tE a rw S) rfl (by decide) rfl dX4_actAt_18 ?_
  refine z_goto (tgt := 23) b dX4_actAt_19 (by decide) ?_
  exact z_aret (v := none) (u := S) b rfl (Or.inl ⟨_, rfl⟩) dX4_actAt_23 ⟨rfl, rfl⟩ rfl (by decide) (by decide)

set_option maxHeartbeats 4000000 in
set_option maxRecDepth 100000 in
theorem c_X11_act_8 {l : Launch} {D : va_G} {cy : Nat → ClassId} {T0 tB tE : Nat} {a : Nat → Nat} {rw : Nat → Option Nat} (S : GS) (p0 : Int32)  : Ct l D cy T0 tB tE yX11_act cX11_act 4 (some .int) 1 21 0 0 (cw cy tE a rw S) [.ref (a 0), .int 5, .int p0] (QI D (U := GS) (fun r u => (-1) = r ∧ S = u) (cw cy tE a rw)) := by
  refine Ct.ofZ RX11 "act" [(0, .ref (a 0)), (1, .int 5), (2, .int p0)] rfl rfl rfl rfl (Nat.le_of_ble_eq_true rfl) ?_
  intro p e R s m args below meth c A b
  refine z_aload_n b dX11_act_0 rfl rfl ?_
  refine z_get (q0 := 0) (k9 := 3) (v := .ref (a 10)) b (cw_0 cy tE a rw S) rfl in_X11 (by decide) wf_X11_27 rfl dX11_act_1 ?_
  refine z_iload_n b dX11_act_4 rfl rfl ?_
  refine z_callq b (z_runV (q0 := 10) (As := [.int 5]) (st := []) b (c_X4_actAt_8 S ) cf_X4_actAt (cw_10 cy tE a rw S) rfl wm_X11_150 wi_X4_actAt ws_X4_actAt dX11_act_5 rfl (Nat.le_of_ble_eq_true rfl) ⟨by decide, by decide, by decide, by decide⟩) (fun r3701 u3702 h3700 => ?_)
  obtain ⟨rfl, rfl⟩ := h3700
  refine z_astore_nN (lv' := [(3, .null), (0, .ref (a 0)), (1, .int 5), (2, .int p0)]) b dX11_act_8 rfl (by decide) rfl ?_
  refine z_aload_nN b dX11_act_9 rfl rfl ?_
  refine z_ifnonnullN b dX11_act_10 ?_
  refine z_iconst (v := (-1)) b dX11_act_13 (by decide) ?_
  exact z_iret (u := S) b rfl dX11_act_14 ⟨rfl, rfl⟩ rfl (by decide) (by decide)

set_option maxHeartbeats 4000000 in
set_option maxRecDepth 100000 in
theorem c_X12_isIn_30 {l : Launch} {D : va_G} {cy : Nat → ClassId} {T0 tB tE : Nat} {a : Nat → Nat} (S : GS)   : Ct l D cy T0 tB tE yX12_isIn cX12_isIn 3 (some .boolean) 0 0 0 0 (mw cy a S) [.int 5, .int 0, .int 11] (QI D (U := GS) (fun r u => 1 = r ∧ S = u) (mw cy a)) := by
  refine Ct.ofZ RX12 "isIn" [(0, .int 5), (1, .int 0), (2, .int 11)] rfl rfl rfl rfl (Nat.le_of_ble_eq_true rfl) ?_
  intro p e R s m args below meth c A b
  refine z_iload_n b dX12_isIn_0 rfl rfl ?_
  refine z_iload_n b dX12_isIn_1 rfl rfl ?_
  refine z_icmp_lt_f (tgt := 14) b dX12_isIn_2 (by decide) (by decide) ?_
  refine z_iload_n b dX12_isIn_5 rfl rfl ?_
  refine z_iload_n b dX12_isIn_6 rfl rfl ?_
  refine z_icmp_gt_f (tgt := 14) b dX12_isIn_7 (by decide) (by decide) ?_
  refine z_iconst (v := 1) b dX12_isIn_10 (by decide) ?_
  refine z_goto (tgt := 15) b dX12_isIn_11 (by decide) ?_
  exact z_zret (u := S) b rfl (by decide) dX12_isIn_15 ⟨rfl, rfl⟩ rfl (by decide) (by decide)

set_option maxHeartbeats 4000000 in
set_option maxRecDepth 100000 in
theorem c_X12_isAct_8 {l : Launch} {D : va_G} {cy : Nat → ClassId} {T0 tB tE : Nat} {a : Nat → Nat} (S : GS)  (h_a_7_0 : ar S 7 0 = 0) : Ct l D cy T0 tB tE yX12_isAct cX12_isAct 2 (some .boolean) 1 22 0 0 (mw cy a S) [.ref (a 0), .int 5] (QI D (U := GS) (fun r u => 0 = r ∧ S = u) (mw cy a)) := by
  refine Ct.ofZ RX12 "isAct" [(0, .ref (a 0)), (1, .int 5)] rfl rfl rfl rfl (Nat.le_of_ble_eq_true rfl) ?_
  intro p e R s m args below meth c A b
  refine z_iload_n b dX12_isAct_0 rfl rfl ?_
  refine z_iconst (v := 0) b dX12_isAct_1 (by decide) ?_
  refine z_bipush (v := 11) b dX12_isAct_2 (by decide) ?_
  refine z_calli b (z_runS (As := [.int 5, .int 0, .int 11]) (st := []) b (c_X12_isIn_30 S ) cf_X12_isIn wm_X12_1 ws_X12_isIn dX12_isAct_4 rfl (Nat.le_of_ble_eq_true rfl) ⟨by decide, by decide, by decide, by decide⟩) (fun r3704 u3705 h3703 => ?_)
  obtain ⟨rfl, rfl⟩ := h3703
  refine z_if_eq_f (tgt := 30) b dX12_isAct_7 (by decide) (by decide) ?_
  refine z_iload_n b dX12_isAct_10 rfl rfl ?_
  refine z_bipush (v := 6) b dX12_isAct_11 (by decide) ?_
  refine z_irem (v := 5) b dX12_isAct_13 (by decide) (by decide) ?_
  refine z_aload_n b dX12_isAct_14 rfl rfl ?_
  refine z_get (q0 := 0) (k9 := 9) (v := .ref (a 8)) b (mw_0 cy a S) rfl in_X12 (by decide) wf_X12_36 rfl dX12_isAct_15 ?_
  refine z_iload_n b dX12_isAct_18 rfl rfl ?_
  refine z_bipush (v := 6) b dX12_isAct_19 (by decide) ?_
  refine z_idiv (v := 0) b dX12_isAct_21 (by decide) (by decide) ?_
  refine y_iald (q0 := 8) (j := 0) (v := (ar S 7 0)) b (mw_8 cy a S) (by decide) rfl dX12_isAct_22 ?_
  refine z_eqi h_a_7_0 ?_
  refine z_icmp_ge_t (tgt := 30) b dX12_isAct_23 (by decide) (by decide) ?_
  refine z_iconst (v := 0) b dX12_isAct_30 (by decide) ?_
  exact z_zret (u := S) b rfl (by decide) dX12_isAct_31 ⟨rfl, rfl⟩ rfl (by decide) (by decide)

set_option maxHeartbeats 4000000 in
set_option maxRecDepth 100000 in
theorem c_X12_act_8 {l : Launch} {D : va_G} {cy : Nat → ClassId} {T0 tB tE : Nat} {a : Nat → Nat} (S : GS) (p0 : Int32) (h_a_7_0 : ar S 7 0 = 0) : Ct l D cy T0 tB tE yX12_act cX12_act 3 (some .int) 2 43 0 0 (mw cy a S) [.ref (a 0), .int 5, .int p0] (QI D (U := GS) (fun r u => (-1) = r ∧ S = u) (mw cy a)) := by
  refine Ct.ofZ RX12 "act" [(0, .ref (a 0)), (1, .int 5), (2, .int p0)] rfl rfl rfl rfl (Nat.le_of_ble_eq_true rfl) ?_
  intro p e R s m args below meth c A b
  refine z_aload_n b dX12_act_0 rfl rfl ?_
  refine z_iload_n b dX12_act_1 rfl rfl ?_
  refine z_calli b (z_runV (q0 := 0) (As := [.int 5]) (st := []) b (c_X12_isAct_8 S h_a_7_0) cf_X12_isAct (mw_0 cy a S) rfl wm_X12_361 wi_X12_isAct ws_X12_isAct dX12_act_2 rfl (Nat.le_of_ble_eq_true rfl) ⟨by decide, by decide, by decide, by decide⟩) (fun r3707 u3708 h3706 => ?_)
  obtain ⟨rfl, rfl⟩ := h3706
  refine z_if_ne_f (tgt := 10) b dX12_act_5 (by decide) (by decide) ?_
  refine z_iconst (v := (-1)) b dX12_act_8 (by decide) ?_
  exact z_iret (u := S) b rfl dX12_act_9 ⟨rfl, rfl⟩ rfl (by decide) (by decide)

set_option maxHeartbeats 4000000 in
set_option maxRecDepth 100000 in
theorem c_X4_actAt_9 {l : Launch} {D : va_G} {cy : Nat → ClassId} {T0 tB tE : Nat} {a : Nat → Nat} {rw : Nat → Option Nat} (S : GS)   : Ct l D cy T0 tB tE yX4_actAt cX4_actAt 2 (some (.object "LawHoles$Act")) 0 0 0 0 (cw cy tE a rw S) [.ref (a 10), .int 6] (QQ D (U := GS) (fun r u => none = r ∧ S = u) (cw cy tE a rw)) := by
  refine Ct.ofZ RX4 "actAt" [(0, .ref (a 10)), (1, .int 6)] rfl rfl rfl rfl (Nat.le_of_ble_eq_true rfl) ?_
  intro p e R s m args below meth c A b
  refine z_iload_n b dX4_actAt_0 rfl rfl ?_
  refine z_if_lt_f (tgt := 22) b dX4_actAt_1 (by decide) (by decide) ?_
  refine z_iload_n b dX4_actAt_4 rfl rfl ?_
  refine z_aload_n b dX4_actAt_5 rfl rfl ?_
  refine z_get (q0 := 10) (k9 := 0) (v := .ref (a 11)) b (cw_10 cy tE a rw S) rfl in_X4 (by decide) wf_X4_11 rfl dX4_actAt_6 ?_
  refine z_alen (q0 := 11) (t0 := 3) (v := 12) b (cw_11 cy tE a rw S) rfl rfl dX4_actAt_9 ?_
  refine z_icmp_ge_f (tgt := 22) b dX4_actAt_10 (by decide) (by decide) ?_
  refine z_aload_n b dX4_actAt_13 rfl rfl ?_
  refine z_get (q0 := 10) (k9 := 0) (v := .ref (a 11)) b (cw_10 cy tE a rw S) rfl in_X4 (by decide) wf_X4_11 rfl dX4_actAt_14 ?_
  refine z_iload_n b dX4_actAt_17 rfl rfl ?_
  refine y_aald (q0 := 11) (t0 := 3) (j := 6) (v := .null) b (cw_11 cy tE a rw S) rfl (by decide) rfl dX4_actAt_18 ?_
  refine z_goto (tgt := 23) b dX4_actAt_19 (by decide) ?_
  exact z_aret (v := none) (u := S) b rfl (Or.inl ⟨_, rfl⟩) dX4_actAt_23 ⟨rfl, rfl⟩ rfl (by decide) (by decide)

set_option maxHeartbeats 4000000 in
set_option maxRecDepth 100000 in
theorem c_X11_act_9 {l : Launch} {D : va_G} {cy : Nat → ClassId} {T0 tB tE : Nat} {a : Nat → Nat} {rw : Nat → Option Nat} (S : GS) (p0 : Int32)  : Ct l D cy T0 tB tE yX11_act cX11_act 4 (some .int) 1 21 0 0 (cw cy tE a rw S) [.ref (a 0), .int 6, .int p0] (QI D (U := GS) (fun r u => (-1) = r ∧ S = u) (cw cy tE a rw)) := by
  refine Ct.ofZ RX11 "act" [(0, .ref (a 0)), (1, .int 6), (2, .int p0)] rfl rfl rfl rfl (Nat.le_of_ble_eq_true rfl) ?_
  intro p e R s m args below meth c A b
  refine z_aload_n b dX11_act_0 rfl rfl ?_
  refine z_get (q0 := 0) (k9 := 3) (v := .ref (a 10)) b (cw_0 cy tE a rw S) rfl in_X11 (by decide) wf_X11_27 rfl dX11_act_1 ?_
  refine z_iload_n b dX11_act_4 rfl rfl ?_
  refine z_callq b (z_runV (q0 := 10) (As := [.int 6]) (st := []) b (c_X4_actAt_9 S ) cf_X4_actAt (cw_10 cy tE a rw S) rfl wm_X11_150 wi_X4_actAt ws_X4_actAt dX11_act_5 rfl (Nat.le_of_ble_eq_true rfl) ⟨by decide, by decide, by decide, by decide⟩) (fun r3710 u3711 h3709 => ?_)
  obtain ⟨rfl, rfl⟩ := h3709
  refine z_astore_nN (lv' := [(3, .null), (0, .ref (a 0)), (1, .int 6), (2, .int p0)]) b dX11_act_8 rfl (by decide) rfl ?_
  refine z_aload_nN b dX11_act_9 rfl rfl ?_
  refine z_ifnonnullN b dX11_act_10 ?_
  refine z_iconst (v := (-1)) b dX11_act_13 (by decide) ?_
  exact z_iret (u := S) b rfl dX11_act_14 ⟨rfl, rfl⟩ rfl (by decide) (by decide)

set_option maxHeartbeats 4000000 in
set_option maxRecDepth 100000 in
theorem c_X12_isIn_31 {l : Launch} {D : va_G} {cy : Nat → ClassId} {T0 tB tE : Nat} {a : Nat → Nat} (S : GS)   : Ct l D cy T0 tB tE yX12_isIn cX12_isIn 3 (some .boolean) 0 0 0 0 (mw cy a S) [.int 6, .int 0, .int 11] (QI D (U := GS) (fun r u => 1 = r ∧ S = u) (mw cy a)) := by
  refine Ct.ofZ RX12 "isIn" [(0, .int 6), (1, .int 0), (2, .int 11)] rfl rfl rfl rfl (Nat.le_of_ble_eq_true rfl) ?_
  intro p e R s m args below meth c A b
  refine z_iload_n b dX12_isIn_0 rfl rfl ?_
  refine z_iload_n b dX12_isIn_1 rfl rfl ?_
  refine z_icmp_lt_f (tgt := 14) b dX12_isIn_2 (by decide) (by decide) ?_
  refine z_iload_n b dX12_isIn_5 rfl rfl ?_
  refine z_iload_n b dX12_isIn_6 rfl rfl ?_
  refine z_icmp_gt_f (tgt := 14) b dX12_isIn_7 (by decide) (by decide) ?_
  refine z_iconst (v := 1) b dX12_isIn_10 (by decide) ?_
  refine z_goto (tgt := 15) b dX12_isIn_11 (by decide) ?_
  exact z_zret (u := S) b rfl (by decide) dX12_isIn_15 ⟨rfl, rfl⟩ rfl (by decide) (by decide)

set_option maxHeartbeats 4000000 in
set_option maxRecDepth 100000 in
theorem c_X12_isAct_9 {l : Launch} {D : va_G} {cy : Nat → ClassId} {T0 tB tE : Nat} {a : Nat → Nat} (S : GS)  (h_a_7_1 : ar S 7 1 = 0) : Ct l D cy T0 tB tE yX12_isAct cX12_isAct 2 (some .boolean) 1 22 0 0 (mw cy a S) [.ref (a 0), .int 6] (QI D (U := GS) (fun r u => 0 = r ∧ S = u) (mw cy a)) := by
  refine Ct.ofZ RX12 "isAct" [(0, .ref (a 0)), (1, .int 6)] rfl rfl rfl rfl (Nat.le_of_ble_eq_true rfl) ?_
  intro p e R s m args below meth c A b
  refine z_iload_n b dX12_isAct_0 rfl rfl ?_
  refine z_iconst (v := 0) b dX12_isAct_1 (by decide) ?_
  refine z_bipush (v := 11) b dX12_isAct_2 (by decide) ?_
  refine z_calli b (z_runS (As := [.int 6, .int 0, .int 11]) (st := []) b (c_X12_isIn_31 S ) cf_X12_isIn wm_X12_1 ws_X12_isIn dX12_isAct_4 rfl (Nat.le_of_ble_eq_true rfl) ⟨by decide, by decide, by decide, by decide⟩) (fun r3713 u3714 h3712 => ?_)
  obtain ⟨rfl, rfl⟩ := h3712
  refine z_if_eq_f (tgt := 30) b dX12_isAct_7 (by decide) (by decide) ?_
  refine z_iload_n b dX12_isAct_10 rfl rfl ?_
  refine z_bipush (v := 6) b dX12_isAct_11 (by decide) ?_
  refine z_irem (v := 0) b dX12_isAct_13 (by decide) (by decide) ?_
  refine z_aload_n b dX12_isAct_14 rfl rfl ?_
  refine z_get (q0 := 0) (k9 := 9) (v := .ref (a 8)) b (mw_0 cy a S) rfl in_X12 (by decide) wf_X12_36 rfl dX12_isAct_15 ?_
  refine z_iload_n b dX12_isAct_18 rfl rfl ?_
  refine z_bipush (v := 6) b dX12_isAct_19 (by decide) ?_
  refine z_idiv (v := 1) b dX12_isAct_21 (by decide) (by decide) ?_
  refine y_iald (q0 := 8) (j := 1) (v := (ar S 7 1)) b (mw_8 cy a S) (by decide) rfl dX12_isAct_22 ?_
  refine z_eqi h_a_7_1 ?_
  refine z_icmp_ge_t (tgt := 30) b dX12_isAct_23 (by decide) (by decide) ?_
  refine z_iconst (v := 0) b dX12_isAct_30 (by decide) ?_
  exact z_zret (u := S) b rfl (by decide) dX12_isAct_31 ⟨rfl, rfl⟩ rfl (by decide) (by decide)

set_option maxHeartbeats 4000000 in
set_option maxRecDepth 100000 in
theorem c_X12_act_9 {l : Launch} {D : va_G} {cy : Nat → ClassId} {T0 tB tE : Nat} {a : Nat → Nat} (S : GS) (p0 : Int32) (h_a_7_1 : ar S 7 1 = 0) : Ct l D cy T0 tB tE yX12_act cX12_act 3 (some .int) 2 43 0 0 (mw cy a S) [.ref (a 0), .int 6, .int p0] (QI D (U := GS) (fun r u => (-1) = r ∧ S = u) (mw cy a)) := by
  refine Ct.ofZ RX12 "act" [(0, .ref (a 0)), (1, .int 6), (2, .int p0)] rfl rfl rfl rfl (Nat.le_of_ble_eq_true rfl) ?_
  intro p e R s m args below meth c A b
  refine z_aload_n b dX12_act_0 rfl rfl ?_
  refine z_iload_n b dX12_act_1 rfl rfl ?_
  refine z_calli b (z_runV (q0 := 0) (As := [.int 6]) (st := []) b (c_X12_isAct_9 S h_a_7_1) cf_X12_isAct (mw_0 cy a S) rfl wm_X12_361 wi_X12_isAct ws_X12_isAct dX12_act_2 rfl (Nat.le_of_ble_eq_true rfl) ⟨by decide, by decide, by decide, by decide⟩) (fun r3716 u3717 h3715 => ?_)
  obtain ⟨rfl, rfl⟩ := h3715
  refine z_if_ne_f (tgt := 10) b dX12_act_5 (by decide) (by decide) ?_
  refine z_iconst (v := (-1)) b dX12_act_8 (by decide) ?_
  exact z_iret (u := S) b rfl dX12_act_9 ⟨rfl, rfl⟩ rfl (by decide) (by decide)

set_option maxHeartbeats 4000000 in
set_option maxRecDepth 100000 in
theorem c_X4_actAt_10 {l : Launch} {D : va_G} {cy : Nat → ClassId} {T0 tB tE : Nat} {a : Nat → Nat} {rw : Nat → Option Nat} (S : GS)   : Ct l D cy T0 tB tE yX4_actAt cX4_actAt 2 (some (.object "LawHoles$Act")) 0 0 0 0 (cw cy tE a rw S) [.ref (a 10), .int 7] (QQ D (U := GS) (fun r u => none = r ∧ S = u) (cw cy tE a rw)) := by
  refine Ct.ofZ RX4 "actAt" [(0, .ref (a 10)), (1, .int 7)] rfl rfl rfl rfl (Nat.le_of_ble_eq_true rfl) ?_
  intro p e R s m args below meth c A b
  refine z_iload_n b dX4_actAt_0 rfl rfl ?_
  refine z_if_lt_f (tgt := 22) b dX4_actAt_1 (by decide) (by decide) ?_
  refine z_iload_n b dX4_actAt_4 rfl rfl ?_
  refine z_aload_n b dX4_actAt_5 rfl rfl ?_
  refine z_get (q0 := 10) (k9 := 0) (v := .ref (a 11)) b (cw_10 cy tE a rw S) rfl in_X4 (by decide) wf_X4_11 rfl dX4_actAt_6 ?_
  refine z_alen (q0 := 11) (t0 := 3) (v := 12) b (cw_11 cy tE a rw S) rfl rfl dX4_actAt_9 ?_
  refine z_icmp_ge_f (tgt := 22) b dX4_actAt_10 (by decide) (by decide) ?_
  refine z_aload_n b dX4_actAt_13 rfl rfl ?_
  refine z_get (q0 := 10) (k9 := 0) (v := .ref (a 11)) b (cw_10 cy tE a rw S) rfl in_X4 (by decide) wf_X4_11 rfl dX4_actAt_14 ?_
  refine z_iload_n b dX4_actAt_17 rfl rfl ?_
  refine y_aald (q0 := 11) (t0 := 3) (j := 7) (v := .null) b (cw_11 cy tE a rw S) rfl (by decide) rfl dX4_actAt_18 ?_
  refine z_goto (tgt := 23) b dX4_actAt_19 (by decide) ?_
  exact z_aret (v := none) (u := S) b rfl (Or.inl ⟨_, rfl⟩) dX4_actAt_23 ⟨rfl, rfl⟩ rfl (by decide) (by decide)

set_option maxHeartbeats 4000000 in
set_option maxRecDepth 100000 in
theorem c_X11_act_10 {l : Launch} {D : va_G} {cy : Nat → ClassId} {T0 tB tE : Nat} {a : Nat → Nat} {rw : Nat → Option Nat} (S : GS) (p0 : Int32)  : Ct l D cy T0 tB tE yX11_act cX11_act 4 (some .int) 1 21 0 0 (cw cy tE a rw S) [.ref (a 0), .int 7, .int p0] (QI D (U := GS) (fun r u => (-1) = r ∧ S = u) (cw cy tE a rw)) := by
  refine Ct.ofZ RX11 "act" [(0, .ref (a 0)), (1, .int 7), (2, .int p0)] rfl rfl rfl rfl (Nat.le_of_ble_eq_true rfl) ?_
  intro p e R s m args below meth c A b
  refine z_aload_n b dX11_act_0 rfl rfl ?_
  refine z_get (q0 := 0) (k9 := 3) (v := .ref (a 10)) b (cw_0 cy tE a rw S) rfl in_X11 (by decide) wf_X11_27 rfl dX11_act_1 ?_
  refine z_iload_n b dX11_act_4 rfl rfl ?_
  refine z_callq b (z_runV (q0 := 10) (As := [.int 7]) (st := []) b (c_X4_actAt_10 S ) cf_X4_actAt (cw_10 cy tE a rw S) rfl wm_X11_150 wi_X4_actAt ws_X4_actAt dX11_act_5 rfl (Nat.le_of_ble_eq_true rfl) ⟨by decide, by decide, by decide, by decide⟩) (fun r3719 u3720 h3718 => ?_)
  obtain ⟨rfl, rfl⟩ := h3718
  refine z_astore_nN (lv' := [(3, .null), (0, .ref (a 0)), (1, .int 7), (2, .int p0)]) b dX11_act_8 rfl (by decide) rfl ?_
  refine z_aload_nN b dX11_act_9 rfl rfl ?_
  refine z_ifnonnullN b dX11_act_10 ?_
  refine z_iconst (v := (-1)) b dX11_act_13 (by decide) ?_
  exact z_iret (u := S) b rfl dX11_act_14 ⟨rfl, rfl⟩ rfl (by decide) (by decide)

set_option maxHeartbeats 4000000 in
set_option maxRecDepth 100000 in
theorem c_X12_isIn_32 {l : Launch} {D : va_G} {cy : Nat → ClassId} {T0 tB tE : Nat} {a : Nat → Nat} (S : GS)   : Ct l D cy T0 tB tE yX12_isIn cX12_isIn 3 (some .boolean) 0 0 0 0 (mw cy a S) [.int 7, .int 0, .int 11] (QI D (U := GS) (fun r u => 1 = r ∧ S = u) (mw cy a)) := by
  refine Ct.ofZ RX12 "isIn" [(0, .int 7), (1, .int 0), (2, .int 11)] rfl rfl rfl rfl (Nat.le_of_ble_eq_true rfl) ?_
  intro p e R s m args below meth c A b
  refine z_iload_n b dX12_isIn_0 rfl rfl ?_
  refine z_iload_n b dX12_isIn_1 rfl rfl ?_
  refine z_icmp_lt_f (tgt := 14) b dX12_isIn_2 (by decide) (by decide) ?_
  refine z_iload_n b dX12_isIn_5 rfl rfl ?_
  refine z_iload_n b dX12_isIn_6 rfl rfl ?_
  refine z_icmp_gt_f (tgt := 14) b dX12_isIn_7 (by decide) (by decide) ?_
  refine z_iconst (v := 1) b dX12_isIn_10 (by decide) ?_
  refine z_goto (tgt := 15) b dX12_isIn_11 (by decide) ?_
  exact z_zret (u := S) b rfl (by decide) dX12_isIn_15 ⟨rfl, rfl⟩ rfl (by decide) (by decide)

set_option maxHeartbeats 4000000 in
set_option maxRecDepth 100000 in
theorem c_X12_isAct_10 {l : Launch} {D : va_G} {cy : Nat → ClassId} {T0 tB tE : Nat} {a : Nat → Nat} (S : GS)  (h_a_7_1 : ar S 7 1 = 0) : Ct l D cy T0 tB tE yX12_isAct cX12_isAct 2 (some .boolean) 1 22 0 0 (mw cy a S) [.ref (a 0), .int 7] (QI D (U := GS) (fun r u => 0 = r ∧ S = u) (mw cy a)) := by
  refine Ct.ofZ RX12 "isAct" [(0, .ref (a 0)), (1, .int 7)] rfl rfl rfl rfl (Nat.le_of_ble_eq_true rfl) ?_
  intro p e R s m args below meth c A b
  refine z_iload_n b dX12_isAct_0 rfl rfl ?_
  refine z_iconst (v := 0) b dX12_isAct_1 (by decide) ?_
  refine z_bipush (v := 11) b dX12_isAct_2 (by decide) ?_
  refine z_calli b (z_runS (As := [.int 7, .int 0, .int 11]) (st := []) b (c_X12_isIn_32 S ) cf_X12_isIn wm_X12_1 ws_X12_isIn dX12_isAct_4 rfl (Nat.le_of_ble_eq_true rfl) ⟨by decide, by decide, by decide, by decide⟩) (fun r3722 u3723 h3721 => ?_)
  obtain ⟨rfl, rfl⟩ := h3721
  refine z_if_eq_f (tgt := 30) b dX12_isAct_7 (by decide) (by decide) ?_
  refine z_iload_n b dX12_isAct_10 rfl rfl ?_
  refine z_bipush (v := 6) b dX12_isAct_11 (by decide) ?_
  refine z_irem (v := 1) b dX12_isAct_13 (by decide) (by decide) ?_
  refine z_aload_n b dX12_isAct_14 rfl rfl ?_
  refine z_get (q0 := 0) (k9 := 9) (v := .ref (a 8)) b (mw_0 cy a S) rfl in_X12 (by decide) wf_X12_36 rfl dX12_isAct_15 ?_
  refine z_iload_n b dX12_isAct_18 rfl rfl ?_
  refine z_bipush (v := 6) b dX12_isAct_19 (by decide) ?_
  refine z_idiv (v := 1) b dX12_isAct_21 (by decide) (by decide) ?_
  refine y_iald (q0 := 8) (j := 1) (v := (ar S 7 1)) b (mw_8 cy a S) (by decide) rfl dX12_isAct_22 ?_
  refine z_eqi h_a_7_1 ?_
  refine z_icmp_ge_t (tgt := 30) b dX12_isAct_23 (by decide) (by decide) ?_
  refine z_iconst (v := 0) b dX12_isAct_30 (by decide) ?_
  exact z_zret (u := S) b rfl (by decide) dX12_isAct_31 ⟨rfl, rfl⟩ rfl (by decide) (by decide)

set_option maxHeartbeats 4000000 in
set_option maxRecDepth 100000 in
theorem c_X12_act_10 {l : Launch} {D : va_G} {cy : Nat → ClassId} {T0 tB tE : Nat} {a : Nat → Nat} (S : GS) (p0 : Int32) (h_a_7_1 : ar S 7 1 = 0) : Ct l D cy T0 tB tE yX12_act cX12_act 3 (some .int) 2 43 0 0 (mw cy a S) [.ref (a 0), .int 7, .int p0] (QI D (U := GS) (fun r u => (-1) = r ∧ S = u) (mw cy a)) := by
  refine Ct.ofZ RX12 "act" [(0, .ref (a 0)), (1, .int 7), (2, .int p0)] rfl rfl rfl rfl (Nat.le_of_ble_eq_true rfl) ?_
  intro p e R s m args below meth c A b
  refine z_aload_n b dX12_act_0 rfl rfl ?_
  refine z_iload_n b dX12_act_1 rfl rfl ?_
  refine z_calli b (z_runV (q0 := 0) (As := [.int 7]) (st := []) b (c_X12_isAct_10 S h_a_7_1) cf_X12_isAct (mw_0 cy a S) rfl wm_X12_361 wi_X12_isAct ws_X12_isAct dX12_act_2 rfl (Nat.le_of_ble_eq_true rfl) ⟨by decide, by decide, by decide, by decide⟩) (fun r3725 u3726 h3724 => ?_)
  obtain ⟨rfl, rfl⟩ := h3724
  refine z_if_ne_f (tgt := 10) b dX12_act_5 (by decide) (by decide) ?_
  refine z_iconst (v := (-1)) b dX12_act_8 (by decide) ?_
  exact z_iret (u := S) b rfl dX12_act_9 ⟨rfl, rfl⟩ rfl (by decide) (by decide)

set_option maxHeartbeats 4000000 in
set_option maxRecDepth 100000 in
theorem c_X4_actAt_11 {l : Launch} {D : va_G} {cy : Nat → ClassId} {T0 tB tE : Nat} {a : Nat → Nat} {rw : Nat → Option Nat} (S : GS)   : Ct l D cy T0 tB tE yX4_actAt cX4_actAt 2 (some (.object "LawHoles$Act")) 0 0 0 0 (cw cy tE a rw S) [.ref (a 10), .int 8] (QQ D (U := GS) (fun r u => none = r ∧ S = u) (cw cy tE a rw)) := by
  refine Ct.ofZ RX4 "actAt" [(0, .ref (a 10)), (1, .int 8)] rfl rfl rfl rfl (Nat.le_of_ble_eq_true rfl) ?_
  intro p e R s m args below meth c A b
  refine z_iload_n b dX4_actAt_0 rfl rfl ?_
  refine z_if_lt_f (tgt := 22) b dX4_actAt_1 (by decide) (by decide) ?_
  refine z_iload_n b dX4_actAt_4 rfl rfl ?_
  refine z_aload_n b dX4_actAt_5 rfl rfl ?_
  refine z_get (q0 := 10) (k9 := 0) (v := .ref (a 11)) b (cw_10 cy tE a rw S) rfl in_X4 (by decide) wf_X4_11 rfl dX4_actAt_6 ?_
  refine z_alen (q0 := 11) (t0 := 3) (v := 12) b (cw_11 cy tE a rw S) rfl rfl dX4_actAt_9 ?_
  refine z_icmp_ge_f (tgt := 22) b dX4_actAt_10 (by decide) (by decide) ?_
  refine z_aload_n b dX4_actAt_13 rfl rfl ?_
  refine z_get (q0 := 10) (k9 := 0) (v := .ref (a 11)) b (cw_10 cy tE a rw S) rfl in_X4 (by decide) wf_X4_11 rfl dX4_actAt_14 ?_
  refine z_iload_n b dX4_actAt_17 rfl rfl ?_
  refine y_aald (q0 := 11) (t0 := 3) (j := 8) (v := .null) b (cw_11 cy tE a rw S) rfl (by decide) rfl dX4_actAt_18 ?_
  refine z_goto (tgt := 23) b dX4_actAt_19 (by decide) ?_
  exact z_aret (v := none) (u := S) b rfl (Or.inl ⟨_, rfl⟩) dX4_actAt_23 ⟨rfl, rfl⟩ rfl (by decide) (by decide)

set_option maxHeartbeats 4000000 in
set_option maxRecDepth 100000 in
theorem c_X11_act_11 {l : Launch} {D : va_G} {cy : Nat → ClassId} {T0 tB tE : Nat} {a : Nat → Nat} {rw : Nat → Option Nat} (S : GS) (p0 : Int32)  : Ct l D cy T0 tB tE yX11_act cX11_act 4 (some .int) 1 21 0 0 (cw cy tE a rw S) [.ref (a 0), .int 8, .int p0] (QI D (U := GS) (fun r u => (-1) = r ∧ S = u) (cw cy tE a rw)) := by
  refine Ct.ofZ RX11 "act" [(0, .ref (a 0)), (1, .int 8), (2, .int p0)] rfl rfl rfl rfl (Nat.le_of_ble_eq_true rfl) ?_
  intro p e R s m args below meth c A b
  refine z_aload_n b dX11_act_0 rfl rfl ?_
  refine z_get (q0 := 0) (k9 := 3) (v := .ref (a 10)) b (cw_0 cy tE a rw S) rfl in_X11 (by decide) wf_X11_27 rfl dX11_act_1 ?_
  refine z_iload_n b dX11_act_4 rfl rfl ?_
  refine z_callq b (z_runV (q0 := 10) (As := [.int 8]) (st := []) b (c_X4_actAt_11 S ) cf_X4_actAt (cw_10 cy tE a rw S) rfl wm_X11_150 wi_X4_actAt ws_X4_actAt dX11_act_5 rfl (Nat.le_of_ble_eq_true rfl) ⟨by decide, by decide, by decide, by decide⟩) (fun r3728 u3729 h3727 => ?_)
  obtain ⟨rfl, rfl⟩ := h3727
  refine z_astore_nN (lv' := [(3, .null), (0, .ref (a 0)), (1, .int 8), (2, .int p0)]) b dX11_act_8 rfl (by decide) rfl ?_
  refine z_aload_nN b dX11_act_9 rfl rfl ?_
  refine z_ifnonnullN b dX11_act_10 ?_
  refine z_iconst (v := (-1)) b dX11_act_13 (by decide) ?_
  exact z_iret (u := S) b rfl dX11_act_14 ⟨rfl, rfl⟩ rfl (by decide) (by decide)

set_option maxHeartbeats 4000000 in
set_option maxRecDepth 100000 in
theorem c_X12_isIn_33 {l : Launch} {D : va_G} {cy : Nat → ClassId} {T0 tB tE : Nat} {a : Nat → Nat} (S : GS)   : Ct l D cy T0 tB tE yX12_isIn cX12_isIn 3 (some .boolean) 0 0 0 0 (mw cy a S) [.int 8, .int 0, .int 11] (QI D (U := GS) (fun r u => 1 = r ∧ S = u) (mw cy a)) := by
  refine Ct.ofZ RX12 "isIn" [(0, .int 8), (1, .int 0), (2, .int 11)] rfl rfl rfl rfl (Nat.le_of_ble_eq_true rfl) ?_
  intro p e R s m args below meth c A b
  refine z_iload_n b dX12_isIn_0 rfl rfl ?_
  refine z_iload_n b dX12_isIn_1 rfl rfl ?_
  refine z_icmp_lt_f (tgt := 14) b dX12_isIn_2 (by decide) (by decide) ?_
  refine z_iload_n b dX12_isIn_5 rfl rfl ?_
  refine z_iload_n b dX12_isIn_6 rfl rfl ?_
  refine z_icmp_gt_f (tgt := 14) b dX12_isIn_7 (by decide) (by decide) ?_
  refine z_iconst (v := 1) b dX12_isIn_10 (by decide) ?_
  refine z_goto (tgt := 15) b dX12_isIn_11 (by decide) ?_
  exact z_zret (u := S) b rfl (by decide) dX12_isIn_15 ⟨rfl, rfl⟩ rfl (by decide) (by decide)

set_option maxHeartbeats 4000000 in
set_option maxRecDepth 100000 in
theorem c_X12_isAct_11 {l : Launch} {D : va_G} {cy : Nat → ClassId} {T0 tB tE : Nat} {a : Nat → Nat} (S : GS)  (h_a_7_1 : ar S 7 1 = 0) : Ct l D cy T0 tB tE yX12_isAct cX12_isAct 2 (some .boolean) 1 22 0 0 (mw cy a S) [.ref (a 0), .int 8] (QI D (U := GS) (fun r u => 0 = r ∧ S = u) (mw cy a)) := by
  refine Ct.ofZ RX12 "isAct" [(0, .ref (a 0)), (1, .int 8)] rfl rfl rfl rfl (Nat.le_of_ble_eq_true rfl) ?_
  intro p e R s m args below meth c A b
  refine z_iload_n b dX12_isAct_0 rfl rfl ?_
  refine z_iconst (v := 0) b dX12_isAct_1 (by decide) ?_
  refine z_bipush (v := 11) b dX12_isAct_2 (by decide) ?_
  refine z_calli b (z_runS (As := [.int 8, .int 0, .int 11]) (st := []) b (c_X12_isIn_33 S ) cf_X12_isIn wm_X12_1 ws_X12_isIn dX12_isAct_4 rfl (Nat.le_of_ble_eq_true rfl) ⟨by decide, by decide, by decide, by decide⟩) (fun r3731 u3732 h3730 => ?_)
  obtain ⟨rfl, rfl⟩ := h3730
  refine z_if_eq_f (tgt := 30) b dX12_isAct_7 (by decide) (by decide) ?_
  refine z_iload_n b dX12_isAct_10 rfl rfl ?_
  refine z_bipush (v := 6) b dX12_isAct_11 (by decide) ?_
  refine z_irem (v := 2) b dX12_isAct_13 (by decide) (by decide) ?_
  refine z_aload_n b dX12_isAct_14 rfl rfl ?_
  refine z_get (q0 := 0) (k9 := 9) (v := .ref (a 8)) b (mw_0 cy a S) rfl in_X12 (by decide) wf_X12_36 rfl dX12_isAct_15 ?_
  refine z_iload_n b dX12_isAct_18 rfl rfl ?_
  refine z_bipush (v := 6) b dX12_isAct_19 (by decide) ?_
  refine z_idiv (v := 1) b dX12_isAct_21 (by decide) (by decide) ?_
  refine y_iald (q0 := 8) (j := 1) (v := (ar S 7 1)) b (mw_8 cy a S) (by decide) rfl dX12_isAct_22 ?_
  refine z_eqi h_a_7_1 ?_
  refine z_icmp_ge_t (tgt := 30) b dX12_isAct_23 (by decide) (by decide) ?_
  refine z_iconst (v := 0) b dX12_isAct_30 (by decide) ?_
  exact z_zret (u := S) b rfl (by decide) dX12_isAct_31 ⟨rfl, rfl⟩ rfl (by decide) (by decide)

set_option maxHeartbeats 4000000 in
set_option maxRecDepth 100000 in
theorem c_X12_act_11 {l : Launch} {D : va_G} {cy : Nat → ClassId} {T0 tB tE : Nat} {a : Nat → Nat} (S : GS) (p0 : Int32) (h_a_7_1 : ar S 7 1 = 0) : Ct l D cy T0 tB tE yX12_act cX12_act 3 (some .int) 2 43 0 0 (mw cy a S) [.ref (a 0), .int 8, .int p0] (QI D (U := GS) (fun r u => (-1) = r ∧ S = u) (mw cy a)) := by
  refine Ct.ofZ RX12 "act" [(0, .ref (a 0)), (1, .int 8), (2, .int p0)] rfl rfl rfl rfl (Nat.le_of_ble_eq_true rfl) ?_
  intro p e R s m args below meth c A b
  refine z_aload_n b dX12_act_0 rfl rfl ?_
  refine z_iload_n b dX12_act_1 rfl rfl ?_
  refine z_calli b (z_runV (q0 := 0) (As := [.int 8]) (st := []) b (c_X12_isAct_11 S h_a_7_1) cf_X12_isAct (mw_0 cy a S) rfl wm_X12_361 wi_X12_isAct ws_X12_isAct dX12_act_2 rfl (Nat.le_of_ble_eq_true rfl) ⟨by decide, by decide, by decide, by decide⟩) (fun r3734 u3735 h3733 => ?_)
  obtain ⟨rfl, rfl⟩ := h3733
  refine z_if_ne_f (tgt := 10) b dX12_act_5 (by decide) (by decide) ?_
  refine z_iconst (v := (-1)) b dX12_act_8 (by decide) ?_
  exact z_iret (u := S) b rfl dX12_act_9 ⟨rfl, rfl⟩ rfl (by decide) (by decide)

set_option maxHeartbeats 4000000 in
set_option maxRecDepth 100000 in
theorem c_X4_actAt_12 {l : Launch} {D : va_G} {cy : Nat → ClassId} {T0 tB tE : Nat} {a : Nat → Nat} {rw : Nat → Option Nat} (S : GS)   : Ct l D cy T0 tB tE yX4_actAt cX4_actAt 2 (some (.object "LawHoles$Act")) 0 0 0 0 (cw cy tE a rw S) [.ref (a 10), .int 9] (QQ D (U := GS) (fun r u => none = r ∧ S = u) (cw cy tE a rw)) := by
  refine Ct.ofZ RX4 "actAt" [(0, .ref (a 10)), (1, .int 9)] rfl rfl rfl rfl (Nat.le_of_ble_eq_true rfl) ?_
  intro p e R s m args below meth c A b
  refine z_iload_n b dX4_actAt_0 rfl rfl ?_
  refine z_if_lt_f (tgt := 22) b dX4_actAt_1 (by decide) (by decide) ?_
  refine z_iload_n b dX4_actAt_4 rfl rfl ?_
  refine z_aload_n b dX4_actAt_5 rfl rfl ?_
  refine z_get (q0 := 10) (k9 := 0) (v := .ref (a 11)) b (cw_10 cy tE a rw S) rfl in_X4 (by decide) wf_X4_11 rfl dX4_actAt_6 ?_
  refine z_alen (q0 := 11) (t0 := 3) (v := 12) b (cw_11 cy tE a rw S) rfl rfl dX4_actAt_9 ?_
  refine z_icmp_ge_f (tgt := 22) b dX4_actAt_10 (by decide) (by decide) ?_
  refine z_aload_n b dX4_actAt_13 rfl rfl ?_
  refine z_get (q0 := 10) (k9 := 0) (v := .ref (a 11)) b (cw_10 cy tE a rw S) rfl in_X4 (by decide) wf_X4_11 rfl dX4_actAt_14 ?_
  refine z_iload_n b dX4_actAt_17 rfl rfl ?_
  refine y_aald (q0 := 11) (t0 := 3) (j := 9) (v := .null) b (cw_11 cy tE a rw S) rfl (by decide) rfl dX4_actAt_18 ?_
  refine z_goto (tgt := 23) b dX4_actAt_19 (by decide) ?_
  exact z_aret (v := none) (u := S) b rfl (Or.inl ⟨_, rfl⟩) dX4_actAt_23 ⟨rfl, rfl⟩ rfl (by decide) (by decide)

set_option maxHeartbeats 4000000 in
set_option maxRecDepth 100000 in
theorem c_X11_act_12 {l : Launch} {D : va_G} {cy : Nat → ClassId} {T0 tB tE : Nat} {a : Nat → Nat} {rw : Nat → Option Nat} (S : GS) (p0 : Int32)  : Ct l D cy T0 tB tE yX11_act cX11_act 4 (some .int) 1 21 0 0 (cw cy tE a rw S) [.ref (a 0), .int 9, .int p0] (QI D (U := GS) (fun r u => (-1) = r ∧ S = u) (cw cy tE a rw)) := by
  refine Ct.ofZ RX11 "act" [(0, .ref (a 0)), (1, .int 9), (2, .int p0)] rfl rfl rfl rfl (Nat.le_of_ble_eq_true rfl) ?_
  intro p e R s m args below meth c A b
  refine z_aload_n b dX11_act_0 rfl rfl ?_
  refine z_get (q0 := 0) (k9 := 3) (v := .ref (a 10)) b (cw_0 cy tE a rw S) rfl in_X11 (by decide) wf_X11_27 rfl dX11_act_1 ?_
  refine z_iload_n b dX11_act_4 rfl rfl ?_
  refine z_callq b (z_runV (q0 := 10) (As := [.int 9]) (st := []) b (c_X4_actAt_12 S ) cf_X4_actAt (cw_10 cy tE a rw S) rfl wm_X11_150 wi_X4_actAt ws_X4_actAt dX11_act_5 rfl (Nat.le_of_ble_eq_true rfl) ⟨by decide, by decide, by decide, by decide⟩) (fun r3737 u3738 h3736 => ?_)
  obtain ⟨rfl, rfl⟩ := h3736
  refine z_astore_nN (lv' := [(3, .null), (0, .ref (a 0)), (1, .int 9), (2, .int p0)]) b dX11_act_8 rfl (by decide) rfl ?_
  refine z_aload_nN b dX11_act_9 rfl rfl ?_
  refine z_ifnonnullN b dX11_act_10 ?_
  refine z_iconst (v := (-1)) b dX11_act_13 (by decide) ?_
  exact z_iret (u := S) b rfl dX11_act_14 ⟨rfl, rfl⟩ rfl (by decide) (by decide)

set_option maxHeartbeats 4000000 in
set_option maxRecDepth 100000 in
theorem c_X12_isIn_34 {l : Launch} {D : va_G} {cy : Nat → ClassId} {T0 tB tE : Nat} {a : Nat → Nat} (S : GS)   : Ct l D cy T0 tB tE yX12_isIn cX12_isIn 3 (some .boolean) 0 0 0 0 (mw cy a S) [.int 9, .int 0, .int 11] (QI D (U := GS) (fun r u => 1 = r ∧ S = u) (mw cy a)) := by
  refine Ct.ofZ RX12 "isIn" [(0, .int 9), (1, .int 0), (2, .int 11)] rfl rfl rfl rfl (Nat.le_of_ble_eq_true rfl) ?_
  intro p e R s m args below meth c A b
  refine z_iload_n b dX12_isIn_0 rfl rfl ?_
  refine z_iload_n b dX12_isIn_1 rfl rfl ?_
  refine z_icmp_lt_f (tgt := 14) b dX12_isIn_2 (by decide) (by decide) ?_
  refine z_iload_n b dX12_isIn_5 rfl rfl ?_
  refine z_iload_n b dX12_isIn_6 rfl rfl ?_
  refine z_icmp_gt_f (tgt := 14) b dX12_isIn_7 (by decide) (by decide) ?_
  refine z_iconst (v := 1) b dX12_isIn_10 (by decide) ?_
  refine z_goto (tgt := 15) b dX12_isIn_11 (by decide) ?_
  exact z_zret (u := S) b rfl (by decide) dX12_isIn_15 ⟨rfl, rfl⟩ rfl (by decide) (by decide)

set_option maxHeartbeats 4000000 in
set_option maxRecDepth 100000 in
theorem c_X12_isAct_12 {l : Launch} {D : va_G} {cy : Nat → ClassId} {T0 tB tE : Nat} {a : Nat → Nat} (S : GS)  (h_a_7_1 : ar S 7 1 = 0) : Ct l D cy T0 tB tE yX12_isAct cX12_isAct 2 (some .boolean) 1 22 0 0 (mw cy a S) [.ref (a 0), .int 9] (QI D (U := GS) (fun r u => 0 = r ∧ S = u) (mw cy a)) := by
  refine Ct.ofZ RX12 "isAct" [(0, .ref (a 0)), (1, .int 9)] rfl rfl rfl rfl (Nat.le_of_ble_eq_true rfl) ?_
  intro p e R s m args below meth c A b
  refine z_iload_n b dX12_isAct_0 rfl rfl ?_
  refine z_iconst (v := 0) b dX12_isAct_1 (by decide) ?_
  refine z_bipush (v := 11) b dX12_isAct_2 (by decide) ?_
  refine z_calli b (z_runS (As := [.int 9, .int 0, .int 11]) (st := []) b (c_X12_isIn_34 S ) cf_X12_isIn wm_X12_1 ws_X12_isIn dX12_isAct_4 rfl (Nat.le_of_ble_eq_true rfl) ⟨by decide, by decide, by decide, by decide⟩) (fun r3740 u3741 h3739 => ?_)
  obtain ⟨rfl, rfl⟩ := h3739
  refine z_if_eq_f (tgt := 30) b dX12_isAct_7 (by decide) (by decide) ?_
  refine z_iload_n b dX12_isAct_10 rfl rfl ?_
  refine z_bipush (v := 6) b dX12_isAct_11 (by decide) ?_
  refine z_irem (v := 3) b dX12_isAct_13 (by decide) (by decide) ?_
  refine z_aload_n b dX12_isAct_14 rfl rfl ?_
  refine z_get (q0 := 0) (k9 := 9) (v := .ref (a 8)) b (mw_0 cy a S) rfl in_X12 (by decide) wf_X12_36 rfl dX12_isAct_15 ?_
  refine z_iload_n b dX12_isAct_18 rfl rfl ?_
  refine z_bipush (v := 6) b dX12_isAct_19 (by decide) ?_
  refine z_idiv (v := 1) b dX12_isAct_21 (by decide) (by decide) ?_
  refine y_iald (q0 := 8) (j := 1) (v := (ar S 7 1)) b (mw_8 cy a S) (by decide) rfl dX12_isAct_22 ?_
  refine z_eqi h_a_7_1 ?_
  refine z_icmp_ge_t (tgt := 30) b dX12_isAct_23 (by decide) (by decide) ?_
  refine z_iconst (v := 0) b dX12_isAct_30 (by decide) ?_
  exact z_zret (u := S) b rfl (by decide) dX12_isAct_31 ⟨rfl, rfl⟩ rfl (by decide) (by decide)

set_option maxHeartbeats 4000000 in
set_option maxRecDepth 100000 in
theorem c_X12_act_12 {l : Launch} {D : va_G} {cy : Nat → ClassId} {T0 tB tE : Nat} {a : Nat → Nat} (S : GS) (p0 : Int32) (h_a_7_1 : ar S 7 1 = 0) : Ct l D cy T0 tB tE yX12_act cX12_act 3 (some .int) 2 43 0 0 (mw cy a S) [.ref (a 0), .int 9, .int p0] (QI D (U := GS) (fun r u => (-1) = r ∧ S = u) (mw cy a)) := by
  refine Ct.ofZ RX12 "act" [(0, .ref (a 0)), (1, .int 9), (2, .int p0)] rfl rfl rfl rfl (Nat.le_of_ble_eq_true rfl) ?_
  intro p e R s m args below meth c A b
  refine z_aload_n b dX12_act_0 rfl rfl ?_
  refine z_iload_n b dX12_act_1 rfl rfl ?_
  refine z_calli b (z_runV (q0 := 0) (As := [.int 9]) (st := []) b (c_X12_isAct_12 S h_a_7_1) cf_X12_isAct (mw_0 cy a S) rfl wm_X12_361 wi_X12_isAct ws_X12_isAct dX12_act_2 rfl (Nat.le_of_ble_eq_true rfl) ⟨by decide, by decide, by decide, by decide⟩) (fun r3743 u3744 h3742 => ?_)
  obtain ⟨rfl, rfl⟩ := h3742
  refine z_if_ne_f (tgt := 10) b dX12_act_5 (by decide) (by decide) ?_
  refine z_iconst (v := (-1)) b dX12_act_8 (by decide) ?_
  exact z_iret (u := S) b rfl dX12_act_9 ⟨rfl, rfl⟩ rfl (by decide) (by decide)

set_option maxHeartbeats 4000000 in
set_option maxRecDepth 100000 in
theorem c_X4_actAt_13 {l : Launch} {D : va_G} {cy : Nat → ClassId} {T0 tB tE : Nat} {a : Nat → Nat} {rw : Nat → Option Nat} (S : GS)   : Ct l D cy T0 tB tE yX4_actAt cX4_actAt 2 (some (.object "LawHoles$Act")) 0 0 0 0 (cw cy tE a rw S) [.ref (a 10), .int 10] (QQ D (U := GS) (fun r u => none = r ∧ S = u) (cw cy tE a rw)) := by
  refine Ct.ofZ RX4 "actAt" [(0, .ref (a 10)), (1, .int 10)] rfl rfl rfl rfl (Nat.le_of_ble_eq_true rfl) ?_
  intro p e R s m args below meth c A b
  refine z_iload_n b dX4_actAt_0 rfl rfl ?_
  refine z_if_lt_f (tgt := 22) b dX4_actAt_1 (by decide) (by decide) ?_
  refine z_iload_n b dX4_actAt_4 rfl rfl ?_
  refine z_aload_n b dX4_actAt_5 rfl rfl ?_
  refine z_get (q0 := 10) (k9 := 0) (v := .ref (a 11)) b (cw_10 cy tE a rw S) rfl in_X4 (by decide) wf_X4_11 rfl dX4_actAt_6 ?_
  refine z_alen (q0 := 11) (t0 := 3) (v := 12) b (cw_11 cy tE a rw S) rfl rfl dX4_actAt_9 ?_
  refine z_icmp_ge_f (tgt := 22) b dX4_actAt_10 (by decide) (by decide) ?_
  refine z_aload_n b dX4_actAt_13 rfl rfl ?_
  refine z_get (q0 := 10) (k9 := 0) (v := .ref (a 11)) b (cw_10 cy tE a rw S) rfl in_X4 (by decide) wf_X4_11 rfl dX4_actAt_14 ?_
  refine z_iload_n b dX4_actAt_17 rfl rfl ?_
  refine y_aald (q0 := 11) (t0 := 3) (j := 10) (v := .null) b (cw_11 cy tE a rw S) rfl (by decide) rfl dX4_actAt_18 ?_
  refine z_goto (tgt := 23) b dX4_actAt_19 (by decide) ?_
  exact z_aret (v := none) (u := S) b rfl (Or.inl ⟨_, rfl⟩) dX4_actAt_23 ⟨rfl, rfl⟩ rfl (by decide) (by decide)

set_option maxHeartbeats 4000000 in
set_option maxRecDepth 100000 in
theorem c_X11_act_13 {l : Launch} {D : va_G} {cy : Nat → ClassId} {T0 tB tE : Nat} {a : Nat → Nat} {rw : Nat → Option Nat} (S : GS) (p0 : Int32)  : Ct l D cy T0 tB tE yX11_act cX11_act 4 (some .int) 1 21 0 0 (cw cy tE a rw S) [.ref (a 0), .int 10, .int p0] (QI D (U := GS) (fun r u => (-1) = r ∧ S = u) (cw cy tE a rw)) := by
  refine Ct.ofZ RX11 "act" [(0, .ref (a 0)), (1, .int 10), (2, .int p0)] rfl rfl rfl rfl (Nat.le_of_ble_eq_true rfl) ?_
  intro p e R s m args below meth c A b
  refine z_aload_n b dX11_act_0 rfl rfl ?_
  refine z_get (q0 := 0) (k9 := 3) (v := .ref (a 10)) b (cw_0 cy tE a rw S) rfl in_X11 (by decide) wf_X11_27 rfl dX11_act_1 ?_
  refine z_iload_n b dX11_act_4 rfl rfl ?_
  refine z_callq b (z_runV (q0 := 10) (As := [.int 10]) (st := []) b (c_X4_actAt_13 S ) cf_X4_actAt (cw_10 cy tE a rw S) rfl wm_X11_150 wi_X4_actAt ws_X4_actAt dX11_act_5 rfl (Nat.le_of_ble_eq_true rfl) ⟨by decide, by decide, by decide, by decide⟩) (fun r3746 u3747 h3745 => ?_)
  obtain ⟨rfl, rfl⟩ := h3745
  refine z_astore_nN (lv' := [(3, .null), (0, .ref (a 0)), (1, .int 10), (2, .int p0)]) b dX11_act_8 rfl (by decide) rfl ?_
  refine z_aload_nN b dX11_act_9 rfl rfl ?_
  refine z_ifnonnullN b dX11_act_10 ?_
  refine z_iconst (v := (-1)) b dX11_act_13 (by decide) ?_
  exact z_iret (u := S) b rfl dX11_act_14 ⟨rfl, rfl⟩ rfl (by decide) (by decide)

set_option maxHeartbeats 4000000 in
set_option maxRecDepth 100000 in
theorem c_X12_isIn_35 {l : Launch} {D : va_G} {cy : Nat → ClassId} {T0 tB tE : Nat} {a : Nat → Nat} (S : GS)   : Ct l D cy T0 tB tE yX12_isIn cX12_isIn 3 (some .boolean) 0 0 0 0 (mw cy a S) [.int 10, .int 0, .int 11] (QI D (U := GS) (fun r u => 1 = r ∧ S = u) (mw cy a)) := by
  refine Ct.ofZ RX12 "isIn" [(0, .int 10), (1, .int 0), (2, .int 11)] rfl rfl rfl rfl (Nat.le_of_ble_eq_true rfl) ?_
  intro p e R s m args below meth c A b
  refine z_iload_n b dX12_isIn_0 rfl rfl ?_
  refine z_iload_n b dX12_isIn_1 rfl rfl ?_
  refine z_icmp_lt_f (tgt := 14) b dX12_isIn_2 (by decide) (by decide) ?_
  refine z_iload_n b dX12_isIn_5 rfl rfl ?_
  refine z_iload_n b dX12_isIn_6 rfl rfl ?_
  refine z_icmp_gt_f (tgt := 14) b dX12_isIn_7 (by decide) (by decide) ?_
  refine z_iconst (v := 1) b dX12_isIn_10 (by decide) ?_
  refine z_goto (tgt := 15) b dX12_isIn_11 (by decide) ?_
  exact z_zret (u := S) b rfl (by decide) dX12_isIn_15 ⟨rfl, rfl⟩ rfl (by decide) (by decide)

set_option maxHeartbeats 4000000 in
set_option maxRecDepth 100000 in
theorem c_X12_isAct_13 {l : Launch} {D : va_G} {cy : Nat → ClassId} {T0 tB tE : Nat} {a : Nat → Nat} (S : GS)  (h_a_7_1 : ar S 7 1 = 0) : Ct l D cy T0 tB tE yX12_isAct cX12_isAct 2 (some .boolean) 1 22 0 0 (mw cy a S) [.ref (a 0), .int 10] (QI D (U := GS) (fun r u => 0 = r ∧ S = u) (mw cy a)) := by
  refine Ct.ofZ RX12 "isAct" [(0, .ref (a 0)), (1, .int 10)] rfl rfl rfl rfl (Nat.le_of_ble_eq_true rfl) ?_
  intro p e R s m args below meth c A b
  refine z_iload_n b dX12_isAct_0 rfl rfl ?_
  refine z_iconst (v := 0) b dX12_isAct_1 (by decide) ?_
  refine z_bipush (v := 11) b dX12_isAct_2 (by decide) ?_
  refine z_calli b (z_runS (As := [.int 10, .int 0, .int 11]) (st := []) b (c_X12_isIn_35 S ) cf_X12_isIn wm_X12_1 ws_X12_isIn dX12_isAct_4 rfl (Nat.le_of_ble_eq_true rfl) ⟨by decide, by decide, by decide, by decide⟩) (fun r3749 u3750 h3748 => ?_)
  obtain ⟨rfl, rfl⟩ := h3748
  refine z_if_eq_f (tgt := 30) b dX12_isAct_7 (by decide) (by decide) ?_
  refine z_iload_n b dX12_isAct_10 rfl rfl ?_
  refine z_bipush (v := 6) b dX12_isAct_11 (by decide) ?_
  refine z_irem (v := 4) b dX12_isAct_13 (by decide) (by decide) ?_
  refine z_aload_n b dX12_isAct_14 rfl rfl ?_
  refine z_get (q0 := 0) (k9 := 9) (v := .ref (a 8)) b (mw_0 cy a S) rfl in_X12 (by decide) wf_X12_36 rfl dX12_isAct_15 ?_
  refine z_iload_n b dX12_isAct_18 rfl rfl ?_
  refine z_bipush (v := 6) b dX12_isAct_19 (by decide) ?_
  refine z_idiv (v := 1) b dX12_isAct_21 (by decide) (by decide) ?_
  refine y_iald (q0 := 8) (j := 1) (v := (ar S 7 1)) b (mw_8 cy a S) (by decide) rfl dX12_isAct_22 ?_
  refine z_eqi h_a_7_1 ?_
  refine z_icmp_ge_t (tgt := 30) b dX12_isAct_23 (by decide) (by decide) ?_
  refine z_iconst (v := 0) b dX12_isAct_30 (by decide) ?_
  exact z_zret (u := S) b rfl (by decide) dX12_isAct_31 ⟨rfl, rfl⟩ rfl (by decide) (by decide)

set_option maxHeartbeats 4000000 in
set_option maxRecDepth 100000 in
theorem c_X12_act_13 {l : Launch} {D : va_G} {cy : Nat → ClassId} {T0 tB tE : Nat} {a : Nat → Nat} (S : GS) (p0 : Int32) (h_a_7_1 : ar S 7 1 = 0) : Ct l D cy T0 tB tE yX12_act cX12_act 3 (some .int) 2 43 0 0 (mw cy a S) [.ref (a 0), .int 10, .int p0] (QI D (U := GS) (fun r u => (-1) = r ∧ S = u) (mw cy a)) := by
  refine Ct.ofZ RX12 "act" [(0, .ref (a 0)), (1, .int 10), (2, .int p0)] rfl rfl rfl rfl (Nat.le_of_ble_eq_true rfl) ?_
  intro p e R s m args below meth c A b
  refine z_aload_n b dX12_act_0 rfl rfl ?_
  refine z_iload_n b dX12_act_1 rfl rfl ?_
  refine z_calli b (z_runV (q0 := 0) (As := [.int 10]) (st := []) b (c_X12_isAct_13 S h_a_7_1) cf_X12_isAct (mw_0 cy a S) rfl wm_X12_361 wi_X12_isAct ws_X12_isAct dX12_act_2 rfl (Nat.le_of_ble_eq_true rfl) ⟨by decide, by decide, by decide, by decide⟩) (fun r3752 u3753 h3751 => ?_)
  obtain ⟨rfl, rfl⟩ := h3751
  refine z_if_ne_f (tgt := 10) b dX12_act_5 (by decide) (by decide) ?_
  refine z_iconst (v := (-1)) b dX12_act_8 (by decide) ?_
  exact z_iret (u := S) b rfl dX12_act_9 ⟨rfl, rfl⟩ rfl (by decide) (by decide)

set_option maxHeartbeats 4000000 in
set_option maxRecDepth 100000 in
theorem c_X4_actAt_14 {l : Launch} {D : va_G} {cy : Nat → ClassId} {T0 tB tE : Nat} {a : Nat → Nat} {rw : Nat → Option Nat} (S : GS)   : Ct l D cy T0 tB tE yX4_actAt cX4_actAt 2 (some (.object "LawHoles$Act")) 0 0 0 0 (cw cy tE a rw S) [.ref (a 10), .int 11] (QQ D (U := GS) (fun r u => none = r ∧ S = u) (cw cy tE a rw)) := by
  refine Ct.ofZ RX4 "actAt" [(0, .ref (a 10)), (1, .int 11)] rfl rfl rfl rfl (Nat.le_of_ble_eq_true rfl) ?_
  intro p e R s m args below meth c A b
  refine z_iload_n b dX4_actAt_0 rfl rfl ?_
  refine z_if_lt_f (tgt := 22) b dX4_actAt_1 (by decide) (by decide) ?_
  refine z_iload_n b dX4_actAt_4 rfl rfl ?_
  refine z_aload_n b dX4_actAt_5 rfl rfl ?_
  refine z_get (q0 := 10) (k9 := 0) (v := .ref (a 11)) b (cw_10 cy tE a rw S) rfl in_X4 (by decide) wf_X4_11 rfl dX4_actAt_6 ?_
  refine z_alen (q0 := 11) (t0 := 3) (v := 12) b (cw_11 cy tE a rw S) rfl rfl dX4_actAt_9 ?_
  refine z_icmp_ge_f (tgt := 22) b dX4_actAt_10 (by decide) (by decide) ?_
  refine z_aload_n b dX4_actAt_13 rfl rfl ?_
  refine z_get (q0 := 10) (k9 := 0) (v := .ref (a 11)) b (cw_10 cy tE a rw S) rfl in_X4 (by decide) wf_X4_11 rfl dX4_actAt_14 ?_
  refine z_iload_n b dX4_actAt_17 rfl rfl ?_
  refine y_aald (q0 := 11) (t0 := 3) (j := 11) (v := .null) b (cw_11 cy tE a rw S) rfl (by decide) rfl dX4_actAt_18 ?_
  refine z_goto (tgt := 23) b dX4_actAt_19 (by decide) ?_
  exact z_aret (v := none) (u := S) b rfl (Or.inl ⟨_, rfl⟩) dX4_actAt_23 ⟨rfl, rfl⟩ rfl (by decide) (by decide)

set_option maxHeartbeats 4000000 in
set_option maxRecDepth 100000 in
theorem c_X11_act_14 {l : Launch} {D : va_G} {cy : Nat → ClassId} {T0 tB tE : Nat} {a : Nat → Nat} {rw : Nat → Option Nat} (S : GS) (p0 : Int32)  : Ct l D cy T0 tB tE yX11_act cX11_act 4 (some .int) 1 21 0 0 (cw cy tE a rw S) [.ref (a 0), .int 11, .int p0] (QI D (U := GS) (fun r u => (-1) = r ∧ S = u) (cw cy tE a rw)) := by
  refine Ct.ofZ RX11 "act" [(0, .ref (a 0)), (1, .int 11), (2, .int p0)] rfl rfl rfl rfl (Nat.le_of_ble_eq_true rfl) ?_
  intro p e R s m args below meth c A b
  refine z_aload_n b dX11_act_0 rfl rfl ?_
  refine z_get (q0 := 0) (k9 := 3) (v := .ref (a 10)) b (cw_0 cy tE a rw S) rfl in_X11 (by decide) wf_X11_27 rfl dX11_act_1 ?_
  refine z_iload_n b dX11_act_4 rfl rfl ?_
  refine z_callq b (z_runV (q0 := 10) (As := [.int 11]) (st := []) b (c_X4_actAt_14 S ) cf_X4_actAt (cw_10 cy tE a rw S) rfl wm_X11_150 wi_X4_actAt ws_X4_actAt dX11_act_5 rfl (Nat.le_of_ble_eq_true rfl) ⟨by decide, by decide, by decide, by decide⟩) (fun r3755 u3756 h3754 => ?_)
  obtain ⟨rfl, rfl⟩ := h3754
  refine z_astore_nN (lv' := [(3, .null), (0, .ref (a 0)), (1, .int 11), (2, .int p0)]) b dX11_act_8 rfl (by decide) rfl ?_
  refine z_aload_nN b dX11_act_9 rfl rfl ?_
  refine z_ifnonnullN b dX11_act_10 ?_
  refine z_iconst (v := (-1)) b dX11_act_13 (by decide) ?_
  exact z_iret (u := S) b rfl dX11_act_14 ⟨rfl, rfl⟩ rfl (by decide) (by decide)

set_option maxHeartbeats 4000000 in
set_option maxRecDepth 100000 in
theorem c_X12_isIn_36 {l : Launch} {D : va_G} {cy : Nat → ClassId} {T0 tB tE : Nat} {a : Nat → Nat} (S : GS)   : Ct l D cy T0 tB tE yX12_isIn cX12_isIn 3 (some .boolean) 0 0 0 0 (mw cy a S) [.int 11, .int 0, .int 11] (QI D (U := GS) (fun r u => 1 = r ∧ S = u) (mw cy a)) := by
  refine Ct.ofZ RX12 "isIn" [(0, .int 11), (1, .int 0), (2, .int 11)] rfl rfl rfl rfl (Nat.le_of_ble_eq_true rfl) ?_
  intro p e R s m args below meth c A b
  refine z_iload_n b dX12_isIn_0 rfl rfl ?_
  refine z_iload_n b dX12_isIn_1 rfl rfl ?_
  refine z_icmp_lt_f (tgt := 14) b dX12_isIn_2 (by decide) (by decide) ?_
  refine z_iload_n b dX12_isIn_5 rfl rfl ?_
  refine z_iload_n b dX12_isIn_6 rfl rfl ?_
  refine z_icmp_gt_f (tgt := 14) b dX12_isIn_7 (by decide) (by decide) ?_
  refine z_iconst (v := 1) b dX12_isIn_10 (by decide) ?_
  refine z_goto (tgt := 15) b dX12_isIn_11 (by decide) ?_
  exact z_zret (u := S) b rfl (by decide) dX12_isIn_15 ⟨rfl, rfl⟩ rfl (by decide) (by decide)

set_option maxHeartbeats 4000000 in
set_option maxRecDepth 100000 in
theorem c_X12_isAct_14 {l : Launch} {D : va_G} {cy : Nat → ClassId} {T0 tB tE : Nat} {a : Nat → Nat} (S : GS)  (h_a_7_1 : ar S 7 1 = 0) : Ct l D cy T0 tB tE yX12_isAct cX12_isAct 2 (some .boolean) 1 22 0 0 (mw cy a S) [.ref (a 0), .int 11] (QI D (U := GS) (fun r u => 0 = r ∧ S = u) (mw cy a)) := by
  refine Ct.ofZ RX12 "isAct" [(0, .ref (a 0)), (1, .int 11)] rfl rfl rfl rfl (Nat.le_of_ble_eq_true rfl) ?_
  intro p e R s m args below meth c A b
  refine z_iload_n b dX12_isAct_0 rfl rfl ?_
  refine z_iconst (v := 0) b dX12_isAct_1 (by decide) ?_
  refine z_bipush (v := 11) b dX12_isAct_2 (by decide) ?_
  refine z_calli b (z_runS (As := [.int 11, .int 0, .int 11]) (st := []) b (c_X12_isIn_36 S ) cf_X12_isIn wm_X12_1 ws_X12_isIn dX12_isAct_4 rfl (Nat.le_of_ble_eq_true rfl) ⟨by decide, by decide, by decide, by decide⟩) (fun r3758 u3759 h3757 => ?_)
  obtain ⟨rfl, rfl⟩ := h3757
  refine z_if_eq_f (tgt := 30) b dX12_isAct_7 (by decide) (by decide) ?_
  refine z_iload_n b dX12_isAct_10 rfl rfl ?_
  refine z_bipush (v := 6) b dX12_isAct_11 (by decide) ?_
  refine z_irem (v := 5) b dX12_isAct_13 (by decide) (by decide) ?_
  refine z_aload_n b dX12_isAct_14 rfl rfl ?_
  refine z_get (q0 := 0) (k9 := 9) (v := .ref (a 8)) b (mw_0 cy a S) rfl in_X12 (by decide) wf_X12_36 rfl dX12_isAct_15 ?_
  refine z_iload_n b dX12_isAct_18 rfl rfl ?_
  refine z_bipush (v := 6) b dX12_isAct_19 (by decide) ?_
  refine z_idiv (v := 1) b dX12_isAct_21 (by decide) (by decide) ?_
  refine y_iald (q0 := 8) (j := 1) (v := (ar S 7 1)) b (mw_8 cy a S) (by decide) rfl dX12_isAct_22 ?_
  refine z_eqi h_a_7_1 ?_
  refine z_icmp_ge_t (tgt := 30) b dX12_isAct_23 (by decide) (by decide) ?_
  refine z_iconst (v := 0) b dX12_isAct_30 (by decide) ?_
  exact z_zret (u := S) b rfl (by decide) dX12_isAct_31 ⟨rfl, rfl⟩ rfl (by decide) (by decide)

set_option maxHeartbeats 4000000 in
set_option maxRecDepth 100000 in
theorem c_X12_act_14 {l : Launch} {D : va_G} {cy : Nat → ClassId} {T0 tB tE : Nat} {a : Nat → Nat} (S : GS) (p0 : Int32) (h_a_7_1 : ar S 7 1 = 0) : Ct l D cy T0 tB tE yX12_act cX12_act 3 (some .int) 2 43 0 0 (mw cy a S) [.ref (a 0), .int 11, .int p0] (QI D (U := GS) (fun r u => (-1) = r ∧ S = u) (mw cy a)) := by
  refine Ct.ofZ RX12 "act" [(0, .ref (a 0)), (1, .int 11), (2, .int p0)] rfl rfl rfl rfl (Nat.le_of_ble_eq_true rfl) ?_
  intro p e R s m args below meth c A b
  refine z_aload_n b dX12_act_0 rfl rfl ?_
  refine z_iload_n b dX12_act_1 rfl rfl ?_
  refine z_calli b (z_runV (q0 := 0) (As := [.int 11]) (st := []) b (c_X12_isAct_14 S h_a_7_1) cf_X12_isAct (mw_0 cy a S) rfl wm_X12_361 wi_X12_isAct ws_X12_isAct dX12_act_2 rfl (Nat.le_of_ble_eq_true rfl) ⟨by decide, by decide, by decide, by decide⟩) (fun r3761 u3762 h3760 => ?_)
  obtain ⟨rfl, rfl⟩ := h3760
  refine z_if_ne_f (tgt := 10) b dX12_act_5 (by decide) (by decide) ?_
  refine z_iconst (v := (-1)) b dX12_act_8 (by decide) ?_
  exact z_iret (u := S) b rfl dX12_act_9 ⟨rfl, rfl⟩ rfl (by decide) (by decide)

