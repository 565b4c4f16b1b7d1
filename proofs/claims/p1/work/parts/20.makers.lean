theorem wm_X9_3 : Cond.methodLink RX9 3 objectInit ∈ gT := gT_of 297 (by decide +kernel) (by decide +kernel)
theorem wi_obj : Cond.instanceMethod objectInit ∈ gT := gT_of 117 (by decide +kernel) (by decide +kernel)
theorem wc_obj : Cond.code objectInit ⟨#[0xb1]⟩ 1 none ∈ gT := gT_of 118 (by decide +kernel) (by decide +kernel)
theorem wA_I : Cond.arrayClass .int ∈ gT := gT_of 208 (by decide +kernel) (by decide +kernel)
theorem wm_Jx4a65c_1 : Cond.methodLink RJx4a65c 1 yJxc12de_init_da8c8 ∈ gT := gT_of 216 (by decide +kernel) (by decide +kernel)
theorem wm_Jxc12de_1 : Cond.methodLink RJxc12de 1 yJxa1e45_init_da8c8 ∈ gT := gT_of 219 (by decide +kernel) (by decide +kernel)
theorem wm_Jxa1e45_1 : Cond.methodLink RJxa1e45 1 objectInit ∈ gT := gT_of 222 (by decide +kernel) (by decide +kernel)
theorem cf_Jxa1e45_init_da8c8 : Cf yJxa1e45_init_da8c8 cJxa1e45_init_da8c8 1 none 0 := ⟨gT_of 221 (by decide +kernel) (by decide +kernel), gT_of 91 (by decide +kernel) (by decide +kernel), by decide +kernel, by decide +kernel, by decide +kernel⟩
theorem wi_Jxa1e45_init_da8c8 : Cond.instanceMethod yJxa1e45_init_da8c8 ∈ gT := gT_of 220 (by decide +kernel) (by decide +kernel)
theorem wf_Jxc12de_7 : Cond.fieldLink RJxc12de 7 "java/util/AbstractList" "modCount" "I" ∈ gT := gT_of 227 (by decide +kernel) (by decide +kernel)
theorem cf_Jxc12de_init_da8c8 : Cf yJxc12de_init_da8c8 cJxc12de_init_da8c8 1 none 0 := ⟨gT_of 218 (by decide +kernel) (by decide +kernel), gT_of 92 (by decide +kernel) (by decide +kernel), by decide +kernel, by decide +kernel, by decide +kernel⟩
theorem wi_Jxc12de_init_da8c8 : Cond.instanceMethod yJxc12de_init_da8c8 ∈ gT := gT_of 217 (by decide +kernel) (by decide +kernel)
theorem wf_Jx4a65c_39 : Cond.fieldLink RJx4a65c 39 "java/util/ArrayList" "DEFAULTCAPACITY_EMPTY_ELEMENTDATA" "[Ljava/lang/Object;" ∈ gT := gT_of 223 (by decide +kernel) (by decide +kernel)
theorem wf_Jx4a65c_9 : Cond.fieldLink RJx4a65c 9 "java/util/ArrayList" "elementData" "[Ljava/lang/Object;" ∈ gT := gT_of 225 (by decide +kernel) (by decide +kernel)
theorem wm_X7_3 : Cond.methodLink RX7 3 objectInit ∈ gT := gT_of 428 (by decide +kernel) (by decide +kernel)
theorem wf_X7_9 : Cond.fieldLink RX7 9 "LawHoles$Row" "count" "I" ∈ gT := gT_of 433 (by decide +kernel) (by decide +kernel)
theorem wf_X7_15 : Cond.fieldLink RX7 15 "LawHoles$Row" "isHonest" "Z" ∈ gT := gT_of 436 (by decide +kernel) (by decide +kernel)
theorem wm_X7_19 : Cond.methodLink RX7 19 yJ9_max_7cf53 ∈ gT := gT_of 429 (by decide +kernel) (by decide +kernel)
theorem wL_X7_19 : Cond.methodLink RX7 19 Lib.Math.max.name ∈ gT := gT_of 429 (by decide +kernel) (by decide +kernel)
theorem wLs_mmax : Cond.static Lib.Math.max.name ∈ gT := gT_of 430 (by decide +kernel) (by decide +kernel)
theorem wi_Math : Cond.initialized "java/lang/Math" ∈ gT := gT_of 100 (by decide +kernel) (by decide +kernel)
theorem wLc_mmax : Cond.code Lib.Math.max.name Lib.Math.max.code 2 (some .int) ∈ gT := gT_of 431 (by decide +kernel) (by decide +kernel)
theorem wf_X7_25 : Cond.fieldLink RX7 25 "LawHoles$Row" "codes" "[I" ∈ gT := gT_of 432 (by decide +kernel) (by decide +kernel)
theorem wm_X6_3 : Cond.methodLink RX6 3 objectInit ∈ gT := gT_of 313 (by decide +kernel) (by decide +kernel)
theorem wf_X6_11 : Cond.fieldLink RX6 11 "LawHoles$Reckoner" "waiting" "[I" ∈ gT := gT_of 316 (by decide +kernel) (by decide +kernel)
theorem wk_X6_15 : Cond.classLink RX6 15 RX9 ∈ gT := gT_of 314 (by decide +kernel) (by decide +kernel)
theorem wI_X9 : Cond.instantiable RX9 1 ∈ gT := gT_of 293 (by decide +kernel) (by decide +kernel)
theorem wN_X9 : Cond.initialized RX9 ∈ gT := gT_of 95 (by decide +kernel) (by decide +kernel)
theorem wm_X6_17 : Cond.methodLink RX6 17 yX9_init ∈ gT := gT_of 315 (by decide +kernel) (by decide +kernel)
theorem cf_X9_init : Cf yX9_init cX9_init 2 none 0 := ⟨gT_of 296 (by decide +kernel) (by decide +kernel), gT_of 95 (by decide +kernel) (by decide +kernel), by decide +kernel, by decide +kernel, by decide +kernel⟩
theorem wi_X9_init : Cond.instanceMethod yX9_init ∈ gT := gT_of 295 (by decide +kernel) (by decide +kernel)
theorem wf_X6_18 : Cond.fieldLink RX6 18 "LawHoles$Reckoner" "state" "LLawHoles$State;" ∈ gT := gT_of 317 (by decide +kernel) (by decide +kernel)
theorem wf_X6_22 : Cond.fieldLink RX6 22 "LawHoles$Reckoner" "a" "I" ∈ gT := gT_of 318 (by decide +kernel) (by decide +kernel)
theorem wf_X6_26 : Cond.fieldLink RX6 26 "LawHoles$Reckoner" "b" "I" ∈ gT := gT_of 319 (by decide +kernel) (by decide +kernel)
theorem wf_X6_29 : Cond.fieldLink RX6 29 "LawHoles$Reckoner" "t" "I" ∈ gT := gT_of 320 (by decide +kernel) (by decide +kernel)
theorem wm_X4_3 : Cond.methodLink RX4 3 objectInit ∈ gT := gT_of 273 (by decide +kernel) (by decide +kernel)
theorem wk_X4_9 : Cond.classLink RX4 9 RX0 ∈ gT := gT_of 274 (by decide +kernel) (by decide +kernel)
theorem wf_X4_11 : Cond.fieldLink RX4 11 "LawHoles$Law" "acts" "[LLawHoles$Act;" ∈ gT := gT_of 278 (by decide +kernel) (by decide +kernel)
theorem wk_X4_17 : Cond.classLink RX4 17 RJx4a65c ∈ gT := gT_of 276 (by decide +kernel) (by decide +kernel)
theorem wI_Jx4a65c : Cond.instantiable RJx4a65c 3 ∈ gT := gT_of 212 (by decide +kernel) (by decide +kernel)
theorem wN_Jx4a65c : Cond.initialized RJx4a65c ∈ gT := gT_of 93 (by decide +kernel) (by decide +kernel)
theorem wm_X4_19 : Cond.methodLink RX4 19 yJx4a65c_init_da8c8 ∈ gT := gT_of 277 (by decide +kernel) (by decide +kernel)
theorem cf_Jx4a65c_init_da8c8 : Cf yJx4a65c_init_da8c8 cJx4a65c_init_da8c8 1 none 0 := ⟨gT_of 215 (by decide +kernel) (by decide +kernel), gT_of 93 (by decide +kernel) (by decide +kernel), by decide +kernel, by decide +kernel, by decide +kernel⟩
theorem wi_Jx4a65c_init_da8c8 : Cond.instanceMethod yJx4a65c_init_da8c8 ∈ gT := gT_of 214 (by decide +kernel) (by decide +kernel)
theorem wf_X4_20 : Cond.fieldLink RX4 20 "LawHoles$Law" "nevers" "Ljava/util/ArrayList;" ∈ gT := gT_of 279 (by decide +kernel) (by decide +kernel)
theorem wf_X4_24 : Cond.fieldLink RX4 24 "LawHoles$Law" "cures" "Ljava/util/ArrayList;" ∈ gT := gT_of 282 (by decide +kernel) (by decide +kernel)
theorem wm_X2_3 : Cond.methodLink RX2 3 objectInit ∈ gT := gT_of 307 (by decide +kernel) (by decide +kernel)
theorem wk_X2_9 : Cond.classLink RX2 9 RX6 ∈ gT := gT_of 308 (by decide +kernel) (by decide +kernel)
theorem wI_X6 : Cond.instantiable RX6 5 ∈ gT := gT_of 309 (by decide +kernel) (by decide +kernel)
theorem wN_X6 : Cond.initialized RX6 ∈ gT := gT_of 97 (by decide +kernel) (by decide +kernel)
theorem cf_X6_init : Cf yX6_init cX6_init 1 none 0 := ⟨gT_of 312 (by decide +kernel) (by decide +kernel), gT_of 97 (by decide +kernel) (by decide +kernel), by decide +kernel, by decide +kernel, by decide +kernel⟩
theorem wi_X6_init : Cond.instanceMethod yX6_init ∈ gT := gT_of 311 (by decide +kernel) (by decide +kernel)
theorem wf_X2_12 : Cond.fieldLink RX2 12 "LawHoles$Court" "reckoner" "LLawHoles$Reckoner;" ∈ gT := gT_of 336 (by decide +kernel) (by decide +kernel)
theorem wk_X2_18 : Cond.classLink RX2 18 RX9 ∈ gT := gT_of 332 (by decide +kernel) (by decide +kernel)
theorem wm_X2_20 : Cond.methodLink RX2 20 yX9_init ∈ gT := gT_of 333 (by decide +kernel) (by decide +kernel)
theorem wf_X2_21 : Cond.fieldLink RX2 21 "LawHoles$Court" "next" "LLawHoles$State;" ∈ gT := gT_of 337 (by decide +kernel) (by decide +kernel)
theorem wf_X2_25 : Cond.fieldLink RX2 25 "LawHoles$Court" "here" "LLawHoles$State;" ∈ gT := gT_of 339 (by decide +kernel) (by decide +kernel)
theorem wf_X2_28 : Cond.fieldLink RX2 28 "LawHoles$Court" "reason" "I" ∈ gT := gT_of 341 (by decide +kernel) (by decide +kernel)
theorem wf_X2_32 : Cond.fieldLink RX2 32 "LawHoles$Court" "law" "LLawHoles$Law;" ∈ gT := gT_of 334 (by decide +kernel) (by decide +kernel)
theorem wm_X8_3 : Cond.methodLink RX8 3 objectInit ∈ gT := gT_of 359 (by decide +kernel) (by decide +kernel)
theorem wk_X8_9 : Cond.classLink RX8 9 RX9 ∈ gT := gT_of 360 (by decide +kernel) (by decide +kernel)
theorem wm_X8_11 : Cond.methodLink RX8 11 yX9_init ∈ gT := gT_of 361 (by decide +kernel) (by decide +kernel)
theorem wf_X8_12 : Cond.fieldLink RX8 12 "LawHoles$Search" "now" "LLawHoles$State;" ∈ gT := gT_of 364 (by decide +kernel) (by decide +kernel)
theorem wA_J : Cond.arrayClass .long ∈ gT := gT_of 209 (by decide +kernel) (by decide +kernel)
theorem wf_X8_18 : Cond.fieldLink RX8 18 "LawHoles$Search" "states" "[J" ∈ gT := gT_of 365 (by decide +kernel) (by decide +kernel)
theorem wf_X8_22 : Cond.fieldLink RX8 22 "LawHoles$Search" "depths" "[I" ∈ gT := gT_of 366 (by decide +kernel) (by decide +kernel)
theorem wf_X8_26 : Cond.fieldLink RX8 26 "LawHoles$Search" "from" "[I" ∈ gT := gT_of 367 (by decide +kernel) (by decide +kernel)
theorem wf_X8_29 : Cond.fieldLink RX8 29 "LawHoles$Search" "by" "[I" ∈ gT := gT_of 368 (by decide +kernel) (by decide +kernel)
theorem wf_X8_32 : Cond.fieldLink RX8 32 "LawHoles$Search" "slots" "[I" ∈ gT := gT_of 369 (by decide +kernel) (by decide +kernel)
theorem wf_X8_35 : Cond.fieldLink RX8 35 "LawHoles$Search" "names" "[J" ∈ gT := gT_of 370 (by decide +kernel) (by decide +kernel)
theorem wf_X8_38 : Cond.fieldLink RX8 38 "LawHoles$Search" "codes" "[I" ∈ gT := gT_of 371 (by decide +kernel) (by decide +kernel)
theorem wf_X8_41 : Cond.fieldLink RX8 41 "LawHoles$Search" "codeCount" "I" ∈ gT := gT_of 372 (by decide +kernel) (by decide +kernel)
theorem wf_X8_45 : Cond.fieldLink RX8 45 "LawHoles$Search" "laws" "I" ∈ gT := gT_of 373 (by decide +kernel) (by decide +kernel)
theorem wf_X8_48 : Cond.fieldLink RX8 48 "LawHoles$Search" "most" "I" ∈ gT := gT_of 374 (by decide +kernel) (by decide +kernel)
theorem wf_X8_51 : Cond.fieldLink RX8 51 "LawHoles$Search" "persons" "I" ∈ gT := gT_of 375 (by decide +kernel) (by decide +kernel)
theorem wf_X8_54 : Cond.fieldLink RX8 54 "LawHoles$Search" "cures" "I" ∈ gT := gT_of 376 (by decide +kernel) (by decide +kernel)
theorem wf_X8_57 : Cond.fieldLink RX8 57 "LawHoles$Search" "done" "I" ∈ gT := gT_of 377 (by decide +kernel) (by decide +kernel)
theorem wf_X8_64 : Cond.fieldLink RX8 64 "LawHoles$Search" "count" "I" ∈ gT := gT_of 379 (by decide +kernel) (by decide +kernel)
theorem wf_X8_67 : Cond.fieldLink RX8 67 "LawHoles$Search" "isSpent" "Z" ∈ gT := gT_of 381 (by decide +kernel) (by decide +kernel)
theorem wf_X8_70 : Cond.fieldLink RX8 70 "LawHoles$Search" "court" "LLawHoles$Court;" ∈ gT := gT_of 362 (by decide +kernel) (by decide +kernel)
theorem wf_X8_74 : Cond.fieldLink RX8 74 "LawHoles$Search" "beginning" "LLawHoles$State;" ∈ gT := gT_of 363 (by decide +kernel) (by decide +kernel)
theorem dJx4a65c_init_da8c8_0 : decode cJx4a65c_init_da8c8 0 = .ok (.aload_n 0, 1) := by decide +kernel
theorem dJx4a65c_init_da8c8_1 : decode cJx4a65c_init_da8c8 1 = .ok (.invokespecial 1, 3) := by decide +kernel
theorem dJx4a65c_init_da8c8_4 : decode cJx4a65c_init_da8c8 4 = .ok (.aload_n 0, 1) := by decide +kernel
theorem dJx4a65c_init_da8c8_5 : decode cJx4a65c_init_da8c8 5 = .ok (.getstatic 39, 3) := by decide +kernel
theorem dJx4a65c_init_da8c8_8 : decode cJx4a65c_init_da8c8 8 = .ok (.putfield 9, 3) := by decide +kernel
theorem dJx4a65c_init_da8c8_11 : decode cJx4a65c_init_da8c8 11 = .ok (.return_, 1) := by decide +kernel
theorem dJxa1e45_init_da8c8_0 : decode cJxa1e45_init_da8c8 0 = .ok (.aload_n 0, 1) := by decide +kernel
theorem dJxa1e45_init_da8c8_1 : decode cJxa1e45_init_da8c8 1 = .ok (.invokespecial 1, 3) := by decide +kernel
theorem dJxa1e45_init_da8c8_4 : decode cJxa1e45_init_da8c8 4 = .ok (.return_, 1) := by decide +kernel
theorem dJxc12de_init_da8c8_0 : decode cJxc12de_init_da8c8 0 = .ok (.aload_n 0, 1) := by decide +kernel
theorem dJxc12de_init_da8c8_1 : decode cJxc12de_init_da8c8 1 = .ok (.invokespecial 1, 3) := by decide +kernel
theorem dJxc12de_init_da8c8_4 : decode cJxc12de_init_da8c8 4 = .ok (.aload_n 0, 1) := by decide +kernel
theorem dJxc12de_init_da8c8_5 : decode cJxc12de_init_da8c8 5 = .ok (.iconst 0, 1) := by decide +kernel
theorem dJxc12de_init_da8c8_6 : decode cJxc12de_init_da8c8 6 = .ok (.putfield 7, 3) := by decide +kernel
theorem dJxc12de_init_da8c8_9 : decode cJxc12de_init_da8c8 9 = .ok (.return_, 1) := by decide +kernel
theorem dX2_init_0 : decode cX2_init 0 = .ok (.aload_n 0, 1) := by decide +kernel
theorem dX2_init_1 : decode cX2_init 1 = .ok (.invokespecial 3, 3) := by decide +kernel
theorem dX2_init_4 : decode cX2_init 4 = .ok (.aload_n 0, 1) := by decide +kernel
theorem dX2_init_5 : decode cX2_init 5 = .ok (.new 9, 3) := by decide +kernel
theorem dX2_init_8 : decode cX2_init 8 = .ok (.dup, 1) := by decide +kernel
theorem dX2_init_9 : decode cX2_init 9 = .ok (.invokespecial 11, 3) := by decide +kernel
theorem dX2_init_12 : decode cX2_init 12 = .ok (.putfield 12, 3) := by decide +kernel
theorem dX2_init_15 : decode cX2_init 15 = .ok (.aload_n 0, 1) := by decide +kernel
theorem dX2_init_16 : decode cX2_init 16 = .ok (.new 18, 3) := by decide +kernel
theorem dX2_init_19 : decode cX2_init 19 = .ok (.dup, 1) := by decide +kernel
theorem dX2_init_20 : decode cX2_init 20 = .ok (.invokespecial 20, 3) := by decide +kernel
theorem dX2_init_23 : decode cX2_init 23 = .ok (.putfield 21, 3) := by decide +kernel
theorem dX2_init_26 : decode cX2_init 26 = .ok (.aload_n 0, 1) := by decide +kernel
theorem dX2_init_27 : decode cX2_init 27 = .ok (.new 18, 3) := by decide +kernel
theorem dX2_init_30 : decode cX2_init 30 = .ok (.dup, 1) := by decide +kernel
theorem dX2_init_31 : decode cX2_init 31 = .ok (.invokespecial 20, 3) := by decide +kernel
theorem dX2_init_34 : decode cX2_init 34 = .ok (.putfield 25, 3) := by decide +kernel
theorem dX2_init_37 : decode cX2_init 37 = .ok (.aload_n 0, 1) := by decide +kernel
theorem dX2_init_38 : decode cX2_init 38 = .ok (.iconst (-1), 1) := by decide +kernel
theorem dX2_init_39 : decode cX2_init 39 = .ok (.putfield 28, 3) := by decide +kernel
theorem dX2_init_42 : decode cX2_init 42 = .ok (.aload_n 0, 1) := by decide +kernel
theorem dX2_init_43 : decode cX2_init 43 = .ok (.aload_n 1, 1) := by decide +kernel
theorem dX2_init_44 : decode cX2_init 44 = .ok (.putfield 32, 3) := by decide +kernel
theorem dX2_init_47 : decode cX2_init 47 = .ok (.return_, 1) := by decide +kernel
theorem dX4_init_0 : decode cX4_init 0 = .ok (.aload_n 0, 1) := by decide +kernel
theorem dX4_init_1 : decode cX4_init 1 = .ok (.invokespecial 3, 3) := by decide +kernel
theorem dX4_init_4 : decode cX4_init 4 = .ok (.aload_n 0, 1) := by decide +kernel
theorem dX4_init_5 : decode cX4_init 5 = .ok (.bipush 12, 2) := by decide +kernel
theorem dX4_init_7 : decode cX4_init 7 = .ok (.anewarray 9, 3) := by decide +kernel
theorem dX4_init_10 : decode cX4_init 10 = .ok (.putfield 11, 3) := by decide +kernel
theorem dX4_init_13 : decode cX4_init 13 = .ok (.aload_n 0, 1) := by decide +kernel
theorem dX4_init_14 : decode cX4_init 14 = .ok (.new 17, 3) := by decide +kernel
theorem dX4_init_17 : decode cX4_init 17 = .ok (.dup, 1) := by decide +kernel
theorem dX4_init_18 : decode cX4_init 18 = .ok (.invokespecial 19, 3) := by decide +kernel
theorem dX4_init_21 : decode cX4_init 21 = .ok (.putfield 20, 3) := by decide +kernel
theorem dX4_init_24 : decode cX4_init 24 = .ok (.aload_n 0, 1) := by decide +kernel
theorem dX4_init_25 : decode cX4_init 25 = .ok (.new 17, 3) := by decide +kernel
theorem dX4_init_28 : decode cX4_init 28 = .ok (.dup, 1) := by decide +kernel
theorem dX4_init_29 : decode cX4_init 29 = .ok (.invokespecial 19, 3) := by decide +kernel
theorem dX4_init_32 : decode cX4_init 32 = .ok (.putfield 24, 3) := by decide +kernel
theorem dX4_init_35 : decode cX4_init 35 = .ok (.return_, 1) := by decide +kernel
theorem dX6_init_0 : decode cX6_init 0 = .ok (.aload_n 0, 1) := by decide +kernel
theorem dX6_init_1 : decode cX6_init 1 = .ok (.invokespecial 3, 3) := by decide +kernel
theorem dX6_init_4 : decode cX6_init 4 = .ok (.aload_n 0, 1) := by decide +kernel
theorem dX6_init_5 : decode cX6_init 5 = .ok (.bipush 40, 2) := by decide +kernel
theorem dX6_init_7 : decode cX6_init 7 = .ok (.newarray .int, 2) := by decide +kernel
theorem dX6_init_9 : decode cX6_init 9 = .ok (.putfield 11, 3) := by decide +kernel
theorem dX6_init_12 : decode cX6_init 12 = .ok (.aload_n 0, 1) := by decide +kernel
theorem dX6_init_13 : decode cX6_init 13 = .ok (.new 15, 3) := by decide +kernel
theorem dX6_init_16 : decode cX6_init 16 = .ok (.dup, 1) := by decide +kernel
theorem dX6_init_17 : decode cX6_init 17 = .ok (.invokespecial 17, 3) := by decide +kernel
theorem dX6_init_20 : decode cX6_init 20 = .ok (.putfield 18, 3) := by decide +kernel
theorem dX6_init_23 : decode cX6_init 23 = .ok (.aload_n 0, 1) := by decide +kernel
theorem dX6_init_24 : decode cX6_init 24 = .ok (.iconst 0, 1) := by decide +kernel
theorem dX6_init_25 : decode cX6_init 25 = .ok (.putfield 22, 3) := by decide +kernel
theorem dX6_init_28 : decode cX6_init 28 = .ok (.aload_n 0, 1) := by decide +kernel
theorem dX6_init_29 : decode cX6_init 29 = .ok (.iconst 3, 1) := by decide +kernel
theorem dX6_init_30 : decode cX6_init 30 = .ok (.putfield 26, 3) := by decide +kernel
theorem dX6_init_33 : decode cX6_init 33 = .ok (.aload_n 0, 1) := by decide +kernel
theorem dX6_init_34 : decode cX6_init 34 = .ok (.iconst 3, 1) := by decide +kernel
theorem dX6_init_35 : decode cX6_init 35 = .ok (.putfield 29, 3) := by decide +kernel
theorem dX6_init_38 : decode cX6_init 38 = .ok (.return_, 1) := by decide +kernel
theorem dX7_init_0 : decode cX7_init 0 = .ok (.aload_n 0, 1) := by decide +kernel
theorem dX7_init_1 : decode cX7_init 1 = .ok (.invokespecial 3, 3) := by decide +kernel
theorem dX7_init_4 : decode cX7_init 4 = .ok (.aload_n 0, 1) := by decide +kernel
theorem dX7_init_5 : decode cX7_init 5 = .ok (.iconst 0, 1) := by decide +kernel
theorem dX7_init_6 : decode cX7_init 6 = .ok (.putfield 9, 3) := by decide +kernel
theorem dX7_init_9 : decode cX7_init 9 = .ok (.aload_n 0, 1) := by decide +kernel
theorem dX7_init_10 : decode cX7_init 10 = .ok (.iconst 0, 1) := by decide +kernel
theorem dX7_init_11 : decode cX7_init 11 = .ok (.putfield 15, 3) := by decide +kernel
theorem dX7_init_14 : decode cX7_init 14 = .ok (.aload_n 0, 1) := by decide +kernel
theorem dX7_init_15 : decode cX7_init 15 = .ok (.iload_n 1, 1) := by decide +kernel
theorem dX7_init_16 : decode cX7_init 16 = .ok (.iconst 0, 1) := by decide +kernel
theorem dX7_init_17 : decode cX7_init 17 = .ok (.invokestatic 19, 3) := by decide +kernel
theorem dX7_init_20 : decode cX7_init 20 = .ok (.newarray .int, 2) := by decide +kernel
theorem dX7_init_22 : decode cX7_init 22 = .ok (.putfield 25, 3) := by decide +kernel
theorem dX7_init_25 : decode cX7_init 25 = .ok (.return_, 1) := by decide +kernel
theorem dX8_init_0 : decode cX8_init 0 = .ok (.aload_n 0, 1) := by decide +kernel
theorem dX8_init_1 : decode cX8_init 1 = .ok (.invokespecial 3, 3) := by decide +kernel
theorem dX8_init_4 : decode cX8_init 4 = .ok (.aload_n 0, 1) := by decide +kernel
theorem dX8_init_5 : decode cX8_init 5 = .ok (.new 9, 3) := by decide +kernel
theorem dX8_init_8 : decode cX8_init 8 = .ok (.dup, 1) := by decide +kernel
theorem dX8_init_9 : decode cX8_init 9 = .ok (.invokespecial 11, 3) := by decide +kernel
theorem dX8_init_12 : decode cX8_init 12 = .ok (.putfield 12, 3) := by decide +kernel
theorem dX8_init_15 : decode cX8_init 15 = .ok (.aload_n 0, 1) := by decide +kernel
theorem dX8_init_16 : decode cX8_init 16 = .ok (.sipush 400, 3) := by decide +kernel
theorem dX8_init_19 : decode cX8_init 19 = .ok (.newarray .long, 2) := by decide +kernel
theorem dX8_init_21 : decode cX8_init 21 = .ok (.putfield 18, 3) := by decide +kernel
theorem dX8_init_24 : decode cX8_init 24 = .ok (.aload_n 0, 1) := by decide +kernel
theorem dX8_init_25 : decode cX8_init 25 = .ok (.sipush 400, 3) := by decide +kernel
theorem dX8_init_28 : decode cX8_init 28 = .ok (.newarray .int, 2) := by decide +kernel
theorem dX8_init_30 : decode cX8_init 30 = .ok (.putfield 22, 3) := by decide +kernel
theorem dX8_init_33 : decode cX8_init 33 = .ok (.aload_n 0, 1) := by decide +kernel
theorem dX8_init_34 : decode cX8_init 34 = .ok (.sipush 400, 3) := by decide +kernel
theorem dX8_init_37 : decode cX8_init 37 = .ok (.newarray .int, 2) := by decide +kernel
theorem dX8_init_39 : decode cX8_init 39 = .ok (.putfield 26, 3) := by decide +kernel
theorem dX8_init_42 : decode cX8_init 42 = .ok (.aload_n 0, 1) := by decide +kernel
theorem dX8_init_43 : decode cX8_init 43 = .ok (.sipush 400, 3) := by decide +kernel
theorem dX8_init_46 : decode cX8_init 46 = .ok (.newarray .int, 2) := by decide +kernel
theorem dX8_init_48 : decode cX8_init 48 = .ok (.putfield 29, 3) := by decide +kernel
theorem dX8_init_51 : decode cX8_init 51 = .ok (.aload_n 0, 1) := by decide +kernel
theorem dX8_init_52 : decode cX8_init 52 = .ok (.sipush 1024, 3) := by decide +kernel
theorem dX8_init_55 : decode cX8_init 55 = .ok (.newarray .int, 2) := by decide +kernel
theorem dX8_init_57 : decode cX8_init 57 = .ok (.putfield 32, 3) := by decide +kernel
theorem dX8_init_60 : decode cX8_init 60 = .ok (.aload_n 0, 1) := by decide +kernel
theorem dX8_init_61 : decode cX8_init 61 = .ok (.sipush 400, 3) := by decide +kernel
theorem dX8_init_64 : decode cX8_init 64 = .ok (.newarray .long, 2) := by decide +kernel
theorem dX8_init_66 : decode cX8_init 66 = .ok (.putfield 35, 3) := by decide +kernel
theorem dX8_init_69 : decode cX8_init 69 = .ok (.aload_n 0, 1) := by decide +kernel
theorem dX8_init_70 : decode cX8_init 70 = .ok (.sipush 216, 3) := by decide +kernel
theorem dX8_init_73 : decode cX8_init 73 = .ok (.newarray .int, 2) := by decide +kernel
theorem dX8_init_75 : decode cX8_init 75 = .ok (.putfield 38, 3) := by decide +kernel
theorem dX8_init_78 : decode cX8_init 78 = .ok (.aload_n 0, 1) := by decide +kernel
theorem dX8_init_79 : decode cX8_init 79 = .ok (.iconst 0, 1) := by decide +kernel
theorem dX8_init_80 : decode cX8_init 80 = .ok (.putfield 41, 3) := by decide +kernel
theorem dX8_init_83 : decode cX8_init 83 = .ok (.aload_n 0, 1) := by decide +kernel
theorem dX8_init_84 : decode cX8_init 84 = .ok (.iconst 0, 1) := by decide +kernel
theorem dX8_init_85 : decode cX8_init 85 = .ok (.putfield 45, 3) := by decide +kernel
theorem dX8_init_88 : decode cX8_init 88 = .ok (.aload_n 0, 1) := by decide +kernel
theorem dX8_init_89 : decode cX8_init 89 = .ok (.iconst 0, 1) := by decide +kernel
theorem dX8_init_90 : decode cX8_init 90 = .ok (.putfield 48, 3) := by decide +kernel
theorem dX8_init_93 : decode cX8_init 93 = .ok (.aload_n 0, 1) := by decide +kernel
theorem dX8_init_94 : decode cX8_init 94 = .ok (.iconst 0, 1) := by decide +kernel
theorem dX8_init_95 : decode cX8_init 95 = .ok (.putfield 51, 3) := by decide +kernel
theorem dX8_init_98 : decode cX8_init 98 = .ok (.aload_n 0, 1) := by decide +kernel
theorem dX8_init_99 : decode cX8_init 99 = .ok (.iconst 0, 1) := by decide +kernel
theorem dX8_init_100 : decode cX8_init 100 = .ok (.putfield 54, 3) := by decide +kernel
theorem dX8_init_103 : decode cX8_init 103 = .ok (.aload_n 0, 1) := by decide +kernel
theorem dX8_init_104 : decode cX8_init 104 = .ok (.iconst 0, 1) := by decide +kernel
theorem dX8_init_105 : decode cX8_init 105 = .ok (.putfield 57, 3) := by decide +kernel
theorem dX8_init_108 : decode cX8_init 108 = .ok (.aload_n 0, 1) := by decide +kernel
theorem dX8_init_109 : decode cX8_init 109 = .ok (.iconst 0, 1) := by decide +kernel
theorem dX8_init_110 : decode cX8_init 110 = .ok (.putfield 60, 3) := by decide +kernel
theorem dX8_init_113 : decode cX8_init 113 = .ok (.aload_n 0, 1) := by decide +kernel
theorem dX8_init_114 : decode cX8_init 114 = .ok (.iconst 0, 1) := by decide +kernel
theorem dX8_init_115 : decode cX8_init 115 = .ok (.putfield 64, 3) := by decide +kernel
theorem dX8_init_118 : decode cX8_init 118 = .ok (.aload_n 0, 1) := by decide +kernel
theorem dX8_init_119 : decode cX8_init 119 = .ok (.iconst 0, 1) := by decide +kernel
theorem dX8_init_120 : decode cX8_init 120 = .ok (.putfield 67, 3) := by decide +kernel
theorem dX8_init_123 : decode cX8_init 123 = .ok (.aload_n 0, 1) := by decide +kernel
theorem dX8_init_124 : decode cX8_init 124 = .ok (.aload_n 1, 1) := by decide +kernel
theorem dX8_init_125 : decode cX8_init 125 = .ok (.putfield 70, 3) := by decide +kernel
theorem dX8_init_128 : decode cX8_init 128 = .ok (.aload_n 0, 1) := by decide +kernel
theorem dX8_init_129 : decode cX8_init 129 = .ok (.aload_n 2, 1) := by decide +kernel
theorem dX8_init_130 : decode cX8_init 130 = .ok (.putfield 74, 3) := by decide +kernel
theorem dX8_init_133 : decode cX8_init 133 = .ok (.return_, 1) := by decide +kernel
theorem dX9_init_0 : decode cX9_init 0 = .ok (.aload_n 0, 1) := by decide +kernel
theorem dX9_init_1 : decode cX9_init 1 = .ok (.invokespecial 3, 3) := by decide +kernel
theorem dX9_init_4 : decode cX9_init 4 = .ok (.aload_n 0, 1) := by decide +kernel
theorem dX9_init_5 : decode cX9_init 5 = .ok (.bipush 51, 2) := by decide +kernel
theorem dX9_init_7 : decode cX9_init 7 = .ok (.newarray .int, 2) := by decide +kernel
theorem dX9_init_9 : decode cX9_init 9 = .ok (.putfield 11, 3) := by decide +kernel
theorem dX9_init_12 : decode cX9_init 12 = .ok (.iconst 0, 1) := by decide +kernel
theorem dX9_init_13 : decode cX9_init 13 = .ok (.istore_n 1, 1) := by decide +kernel
theorem dX9_init_14 : decode cX9_init 14 = .ok (.iload_n 1, 1) := by decide +kernel
theorem dX9_init_15 : decode cX9_init 15 = .ok (.iconst 3, 1) := by decide +kernel
theorem dX9_init_16 : decode cX9_init 16 = .ok (.if_icmp .ge 19, 3) := by decide +kernel
theorem dX9_init_19 : decode cX9_init 19 = .ok (.aload_n 0, 1) := by decide +kernel
theorem dX9_init_20 : decode cX9_init 20 = .ok (.getfield 11, 3) := by decide +kernel
theorem dX9_init_23 : decode cX9_init 23 = .ok (.bipush 40, 2) := by decide +kernel
theorem dX9_init_25 : decode cX9_init 25 = .ok (.iload_n 1, 1) := by decide +kernel
theorem dX9_init_26 : decode cX9_init 26 = .ok (.iadd, 1) := by decide +kernel
theorem dX9_init_27 : decode cX9_init 27 = .ok (.iconst 3, 1) := by decide +kernel
theorem dX9_init_28 : decode cX9_init 28 = .ok (.iastore, 1) := by decide +kernel
theorem dX9_init_29 : decode cX9_init 29 = .ok (.iinc 1 1, 3) := by decide +kernel
theorem dX9_init_32 : decode cX9_init 32 = .ok (.goto (-18), 3) := by decide +kernel
theorem dX9_init_35 : decode cX9_init 35 = .ok (.return_, 1) := by decide +kernel
set_option maxHeartbeats 4000000 in
set_option maxRecDepth 100000 in
theorem k_X9_init {l : Launch} {D : va_G} {cy : Nat → ClassId} {T0 tB tE : Nat} (h : Nat)  : Ct l D cy T0 tB tE yX9_init cX9_init 2 none 1 24 1 51 [(h, .inr (10, [.null]))] [.ref h] (QV D (U := Nat → Nat) (fun _ => True) (fun u => [(h, .inr (10, [.ref (u 0)])), ((u 0), .inl (cy 0, 51, .inl (upd (upd (upd (fun _ => 0) 40 3) 41 3) 42 3)))])) := by
  refine Ct.ofZ RX9 "<init>" [(0, .ref h)] rfl rfl rfl rfl (Nat.le_of_ble_eq_true rfl) ?_
  intro p e R s m args below meth c A b
  refine z_aload_n b dX9_init_0 rfl rfl ?_
  refine z_objInit b wm_X9_3 wi_obj wc_obj dX9_init_1 (by decide) (Nat.le_of_ble_eq_true rfl) ?_
  refine z_aload_n b dX9_init_4 rfl rfl ?_
  refine z_bipush (v := 51) b dX9_init_5 (by decide) ?_
  refine z_newI (N' := 51) b wA_I (by decide) (by decide) (by decide) ⟨by decide, by decide⟩ dX9_init_7 (fun q768 => ?_)
  refine z_putF (q0 := 0) (k9 := 0) (ws' := [(h, .inr (10, [.ref q768])), (q768, .inl (cy 0, 51, .inl (fun _ => 0)))]) tyX9 b rfl rfl in_X9 tyX9_ok nmX9 (by decide) wf_X9_11 rfl rfl rfl rfl rfl rfl (Nat.le_of_ble_eq_true rfl) dX9_init_9 rfl ?_
  refine z_iconst (v := 0) b dX9_init_12 (by decide) ?_
  refine z_istore_n (lv' := [(1, .int 0), (0, .ref h)]) b dX9_init_13 rfl (by decide) rfl ?_
  refine z_iload_n b dX9_init_14 rfl rfl ?_
  refine z_iconst (v := 3) b dX9_init_15 (by decide) ?_
  refine z_icmp_ge_f (tgt := 35) b dX9_init_16 (by decide) (by decide) ?_
  refine z_aload_n b dX9_init_19 rfl rfl ?_
  refine z_get (q0 := 0) (k9 := 0) (v := .ref q768) b rfl rfl in_X9 (by decide) wf_X9_11 rfl dX9_init_20 ?_
  refine z_bipush (v := 40) b dX9_init_23 (by decide) ?_
  refine z_iload_n b dX9_init_25 rfl rfl ?_
  refine z_iadd (v := 40) b dX9_init_26 (by decide) ?_
  refine z_iconst (v := 3) b dX9_init_27 (by decide) ?_
  refine y_iast (q0 := 1) (j := 40) (ws' := [(h, .inr (10, [.ref q768])), (q768, .inl (cy 0, 51, .inl (upd (fun _ => 0) 40 3)))]) b rfl (by decide) dX9_init_28 rfl ?_
  refine z_iinc (k9 := 0) (v := 1) (lv' := [(1, .int 1), (0, .ref h)]) b dX9_init_29 rfl (by decide) (by decide) rfl ?_
  refine z_goto (tgt := 14) b dX9_init_32 (by decide) ?_
  refine z_iload_n b dX9_init_14 rfl rfl ?_
  refine z_iconst (v := 3) b dX9_init_15 (by decide) ?_
  refine z_icmp_ge_f (tgt := 35) b dX9_init_16 (by decide) (by decide) ?_
  refine z_aload_n b dX9_init_19 rfl rfl ?_
  refine z_get (q0 := 0) (k9 := 0) (v := .ref q768) b rfl rfl in_X9 (by decide) wf_X9_11 rfl dX9_init_20 ?_
  refine z_bipush (v := 40) b dX9_init_23 (by decide) ?_
  refine z_iload_n b dX9_init_25 rfl rfl ?_
  refine z_iadd (v := 41) b dX9_init_26 (by decide) ?_
  refine z_iconst (v := 3) b dX9_init_27 (by decide) ?_
  refine y_iast (q0 := 1) (j := 41) (ws' := [(h, .inr (10, [.ref q768])), (q768, .inl (cy 0, 51, .inl (upd (upd (fun _ => 0) 40 3) 41 3)))]) b rfl (by decide) dX9_init_28 rfl ?_
  refine z_iinc (k9 := 0) (v := 2) (lv' := [(1, .int 2), (0, .ref h)]) b dX9_init_29 rfl (by decide) (by decide) rfl ?_
  refine z_goto (tgt := 14) b dX9_init_32 (by decide) ?_
  refine z_iload_n b dX9_init_14 rfl rfl ?_
  refine z_iconst (v := 3) b dX9_init_15 (by decide) ?_
  refine z_icmp_ge_f (tgt := 35) b dX9_init_16 (by decide) (by decide) ?_
  refine z_aload_n b dX9_init_19 rfl rfl ?_
  refine z_get (q0 := 0) (k9 := 0) (v := .ref q768) b rfl rfl in_X9 (by decide) wf_X9_11 rfl dX9_init_20 ?_
  refine z_bipush (v := 40) b dX9_init_23 (by decide) ?_
  refine z_iload_n b dX9_init_25 rfl rfl ?_
  refine z_iadd (v := 42) b dX9_init_26 (by decide) ?_
  refine z_iconst (v := 3) b dX9_init_27 (by decide) ?_
  refine y_iast (q0 := 1) (j := 42) (ws' := [(h, .inr (10, [.ref q768])), (q768, .inl (cy 0, 51, .inl (upd (upd (upd (fun _ => 0) 40 3) 41 3) 42 3)))]) b rfl (by decide) dX9_init_28 rfl ?_
  refine z_iinc (k9 := 0) (v := 3) (lv' := [(1, .int 3), (0, .ref h)]) b dX9_init_29 rfl (by decide) (by decide) rfl ?_
  refine z_goto (tgt := 14) b dX9_init_32 (by decide) ?_
  refine z_iload_n b dX9_init_14 rfl rfl ?_
  refine z_iconst (v := 3) b dX9_init_15 (by decide) ?_
  refine z_icmp_ge_t (tgt := 35) b dX9_init_16 (by decide) (by decide) ?_
  exact z_vret (u := (fun k => ([q768] : List Nat).getD k 0)) b rfl dX9_init_35 trivial rfl (by decide) (by decide)

set_option maxHeartbeats 4000000 in
set_option maxRecDepth 100000 in
theorem k_Jxa1e45_init_da8c8 {l : Launch} {D : va_G} {cy : Nat → ClassId} {T0 tB tE : Nat} (h : Nat)  : Ct l D cy T0 tB tE yJxa1e45_init_da8c8 cJxa1e45_init_da8c8 1 none 1 24 0 0 [(h, .inr (0, [.int 0, .null, .int 0]))] [.ref h] (QV D (U := Nat → Nat) (fun _ => True) (fun u => [(h, .inr (0, [.int 0, .null, .int 0]))])) := by
  refine Ct.ofZ RJxa1e45 "<init>" [(0, .ref h)] rfl rfl rfl rfl (Nat.le_of_ble_eq_true rfl) ?_
  intro p e R s m args below meth c A b
  refine z_aload_n b dJxa1e45_init_da8c8_0 rfl rfl ?_
  refine z_objInit b wm_Jxa1e45_1 wi_obj wc_obj dJxa1e45_init_da8c8_1 (by decide) (Nat.le_of_ble_eq_true rfl) ?_
  exact z_vret (u := (fun k => ([] : List Nat).getD k 0)) b rfl dJxa1e45_init_da8c8_4 trivial rfl (by decide) (by decide)

set_option maxHeartbeats 4000000 in
set_option maxRecDepth 100000 in
theorem k_Jxc12de_init_da8c8 {l : Launch} {D : va_G} {cy : Nat → ClassId} {T0 tB tE : Nat} (h : Nat)  : Ct l D cy T0 tB tE yJxc12de_init_da8c8 cJxc12de_init_da8c8 1 none 2 44 0 0 [(h, .inr (0, [.int 0, .null, .int 0]))] [.ref h] (QV D (U := Nat → Nat) (fun _ => True) (fun u => [(h, .inr (0, [.int 0, .null, .int 0]))])) := by
  refine Ct.ofZ RJxc12de "<init>" [(0, .ref h)] rfl rfl rfl rfl (Nat.le_of_ble_eq_true rfl) ?_
  intro p e R s m args below meth c A b
  refine z_aload_n b dJxc12de_init_da8c8_0 rfl rfl ?_
  refine z_callvF (wc := [(h, .inr (0, [.int 0, .null, .int 0]))]) (wr := []) [0] [] b rfl (by decide) rfl (by decide) (by decide) (z_runI (As := []) (st := []) b (k_Jxa1e45_init_da8c8 h ) cf_Jxa1e45_init_da8c8 wm_Jxc12de_1 wi_Jxa1e45_init_da8c8 rfl dJxc12de_init_da8c8_1 rfl (Nat.le_of_ble_eq_true rfl) ⟨by decide, by decide, by decide, by decide⟩) (fun u769 hu769 => ?_)
  show Z p l e R s m args below meth c D A 1 (MQ below (QV D (U := Nat → Nat) (fun _ => True) (fun u => [(h, .inr (0, [.int 0, .null, .int 0]))]) A) args s 0 0 A) _ _ [(h, .inr (0, [.int 0, .null, .int 0]))] [(0, .ref h)] 4 []
  refine z_aload_n b dJxc12de_init_da8c8_4 rfl rfl ?_
  refine z_iconst (v := 0) b dJxc12de_init_da8c8_5 (by decide) ?_
  refine z_put (q0 := 0) (k9 := 0) (ws' := [(h, .inr (0, [.int 0, .null, .int 0]))]) tyJx4a65c b rfl rfl in_Jx4a65c tyJx4a65c_ok nmJx4a65c (by decide) wf_Jxc12de_7 rfl rfl rfl rfl (Nat.le_of_ble_eq_true rfl) dJxc12de_init_da8c8_6 rfl ?_
  exact z_vret (u := (fun k => ([] : List Nat).getD k 0)) b rfl dJxc12de_init_da8c8_9 trivial rfl (by decide) (by decide)

set_option maxHeartbeats 4000000 in
set_option maxRecDepth 100000 in
theorem k_Jx4a65c_init_da8c8 {l : Launch} {D : va_G} {cy : Nat → ClassId} {T0 tB tE : Nat} (h : Nat)  : Ct l D cy T0 tB tE yJx4a65c_init_da8c8 cJx4a65c_init_da8c8 1 none 3 64 0 0 [(h, .inr (0, [.int 0, .null, .int 0]))] [.ref h] (QV D (U := Nat → Nat) (fun _ => True) (fun u => [(h, .inr (0, [.int 0, .ref tE, .int 0]))])) := by
  refine Ct.ofZ RJx4a65c "<init>" [(0, .ref h)] rfl rfl rfl rfl (Nat.le_of_ble_eq_true rfl) ?_
  intro p e R s m args below meth c A b
  refine z_aload_n b dJx4a65c_init_da8c8_0 rfl rfl ?_
  refine z_callvF (wc := [(h, .inr (0, [.int 0, .null, .int 0]))]) (wr := []) [0] [] b rfl (by decide) rfl (by decide) (by decide) (z_runI (As := []) (st := []) b (k_Jxc12de_init_da8c8 h ) cf_Jxc12de_init_da8c8 wm_Jx4a65c_1 wi_Jxc12de_init_da8c8 rfl dJx4a65c_init_da8c8_1 rfl (Nat.le_of_ble_eq_true rfl) ⟨by decide, by decide, by decide, by decide⟩) (fun u770 hu770 => ?_)
  show Z p l e R s m args below meth c D A 1 (MQ below (QV D (U := Nat → Nat) (fun _ => True) (fun u => [(h, .inr (0, [.int 0, .ref tE, .int 0]))]) A) args s 0 0 A) _ _ [(h, .inr (0, [.int 0, .null, .int 0]))] [(0, .ref h)] 4 []
  refine z_aload_n b dJx4a65c_init_da8c8_4 rfl rfl ?_
  refine z_getE b wf_Jx4a65c_39 dJx4a65c_init_da8c8_5 ?_
  refine z_put (q0 := 0) (k9 := 1) (ws' := [(h, .inr (0, [.int 0, .ref tE, .int 0]))]) tyJx4a65c b rfl rfl in_Jx4a65c tyJx4a65c_ok nmJx4a65c (by decide) wf_Jx4a65c_9 rfl rfl rfl rfl (Nat.le_of_ble_eq_true rfl) dJx4a65c_init_da8c8_8 rfl ?_
  exact z_vret (u := (fun k => ([] : List Nat).getD k 0)) b rfl dJx4a65c_init_da8c8_11 trivial rfl (by decide) (by decide)

set_option maxHeartbeats 4000000 in
set_option maxRecDepth 100000 in
theorem k_X7_init {l : Launch} {D : va_G} {cy : Nat → ClassId} {T0 tB tE : Nat} (h : Nat)  : Ct l D cy T0 tB tE yX7_init cX7_init 2 none 1 24 1 12 [(h, .inr (8, [.null, .int 0, .int 0]))] [.ref h, .int 12] (QV D (U := Nat → Nat) (fun _ => True) (fun u => [(h, .inr (8, [.ref (u 0), .int 0, .int 0])), ((u 0), .inl (cy 0, 12, .inl (fun _ => 0)))])) := by
  refine Ct.ofZ RX7 "<init>" [(0, .ref h), (1, .int 12)] rfl rfl rfl rfl (Nat.le_of_ble_eq_true rfl) ?_
  intro p e R s m args below meth c A b
  refine z_aload_n b dX7_init_0 rfl rfl ?_
  refine z_objInit b wm_X7_3 wi_obj wc_obj dX7_init_1 (by decide) (Nat.le_of_ble_eq_true rfl) ?_
  refine z_aload_n b dX7_init_4 rfl rfl ?_
  refine z_iconst (v := 0) b dX7_init_5 (by decide) ?_
  refine z_put (q0 := 0) (k9 := 1) (ws' := [(h, .inr (8, [.null, .int 0, .int 0]))]) tyX7 b rfl rfl in_X7 tyX7_ok nmX7 (by decide) wf_X7_9 rfl rfl rfl rfl (Nat.le_of_ble_eq_true rfl) dX7_init_6 rfl ?_
  refine z_aload_n b dX7_init_9 rfl rfl ?_
  refine z_iconst (v := 0) b dX7_init_10 (by decide) ?_
  refine z_put (q0 := 0) (k9 := 2) (ws' := [(h, .inr (8, [.null, .int 0, .int 0]))]) tyX7 b rfl rfl in_X7 tyX7_ok nmX7 (by decide) wf_X7_15 rfl rfl rfl rfl (Nat.le_of_ble_eq_true rfl) dX7_init_11 rfl ?_
  refine z_aload_n b dX7_init_14 rfl rfl ?_
  refine z_iload_n b dX7_init_15 rfl rfl ?_
  refine z_iconst (v := 0) b dX7_init_16 (by decide) ?_
  refine z_mmax (v := 12) b wL_X7_19 wLs_mmax wi_Math wLc_mmax dX7_init_17 (by decide) (Nat.le_of_ble_eq_true rfl) ⟨by decide, by decide⟩ (by decide) ?_
  refine z_newI (N' := 12) b wA_I (by decide) (by decide) (by decide) ⟨by decide, by decide⟩ dX7_init_20 (fun q771 => ?_)
  refine z_putF (q0 := 0) (k9 := 0) (ws' := [(h, .inr (8, [.ref q771, .int 0, .int 0])), (q771, .inl (cy 0, 12, .inl (fun _ => 0)))]) tyX7 b rfl rfl in_X7 tyX7_ok nmX7 (by decide) wf_X7_25 rfl rfl rfl rfl rfl rfl (Nat.le_of_ble_eq_true rfl) dX7_init_22 rfl ?_
  exact z_vret (u := (fun k => ([q771] : List Nat).getD k 0)) b rfl dX7_init_25 trivial rfl (by decide) (by decide)

set_option maxHeartbeats 4000000 in
set_option maxRecDepth 100000 in
theorem k_X7_init_2 {l : Launch} {D : va_G} {cy : Nat → ClassId} {T0 tB tE : Nat} (h : Nat)  : Ct l D cy T0 tB tE yX7_init cX7_init 2 none 1 24 1 200 [(h, .inr (8, [.null, .int 0, .int 0]))] [.ref h, .int 200] (QV D (U := Nat → Nat) (fun _ => True) (fun u => [(h, .inr (8, [.ref (u 0), .int 0, .int 0])), ((u 0), .inl (cy 0, 200, .inl (fun _ => 0)))])) := by
  refine Ct.ofZ RX7 "<init>" [(0, .ref h), (1, .int 200)] rfl rfl rfl rfl (Nat.le_of_ble_eq_true rfl) ?_
  intro p e R s m args below meth c A b
  refine z_aload_n b dX7_init_0 rfl rfl ?_
  refine z_objInit b wm_X7_3 wi_obj wc_obj dX7_init_1 (by decide) (Nat.le_of_ble_eq_true rfl) ?_
  refine z_aload_n b dX7_init_4 rfl rfl ?_
  refine z_iconst (v := 0) b dX7_init_5 (by decide) ?_
  refine z_put (q0 := 0) (k9 := 1) (ws' := [(h, .inr (8, [.null, .int 0, .int 0]))]) tyX7 b rfl rfl in_X7 tyX7_ok nmX7 (by decide) wf_X7_9 rfl rfl rfl rfl (Nat.le_of_ble_eq_true rfl) dX7_init_6 rfl ?_
  refine z_aload_n b dX7_init_9 rfl rfl ?_
  refine z_iconst (v := 0) b dX7_init_10 (by decide) ?_
  refine z_put (q0 := 0) (k9 := 2) (ws' := [(h, .inr (8, [.null, .int 0, .int 0]))]) tyX7 b rfl rfl in_X7 tyX7_ok nmX7 (by decide) wf_X7_15 rfl rfl rfl rfl (Nat.le_of_ble_eq_true rfl) dX7_init_11 rfl ?_
  refine z_aload_n b dX7_init_14 rfl rfl ?_
  refine z_iload_n b dX7_init_15 rfl rfl ?_
  refine z_iconst (v := 0) b dX7_init_16 (by decide) ?_
  refine z_mmax (v := 200) b wL_X7_19 wLs_mmax wi_Math wLc_mmax dX7_init_17 (by decide) (Nat.le_of_ble_eq_true rfl) ⟨by decide, by decide⟩ (by decide) ?_
  refine z_newI (N' := 200) b wA_I (by decide) (by decide) (by decide) ⟨by decide, by decide⟩ dX7_init_20 (fun q772 => ?_)
  refine z_putF (q0 := 0) (k9 := 0) (ws' := [(h, .inr (8, [.ref q772, .int 0, .int 0])), (q772, .inl (cy 0, 200, .inl (fun _ => 0)))]) tyX7 b rfl rfl in_X7 tyX7_ok nmX7 (by decide) wf_X7_25 rfl rfl rfl rfl rfl rfl (Nat.le_of_ble_eq_true rfl) dX7_init_22 rfl ?_
  exact z_vret (u := (fun k => ([q772] : List Nat).getD k 0)) b rfl dX7_init_25 trivial rfl (by decide) (by decide)

set_option maxHeartbeats 4000000 in
set_option maxRecDepth 100000 in
theorem k_X6_init {l : Launch} {D : va_G} {cy : Nat → ClassId} {T0 tB tE : Nat} (h : Nat)  : Ct l D cy T0 tB tE yX6_init cX6_init 1 none 2 45 3 92 [(h, .inr (7, [.null, .null, .int 0, .int 0, .int 0]))] [.ref h] (QV D (U := Nat → Nat) (fun _ => True) (fun u => [(h, .inr (7, [.ref (u 0), .ref (u 1), .int 0, .int 3, .int 3])), ((u 0), .inl (cy 0, 40, .inl (fun _ => 0))), ((u 1), .inr (10, [.ref (u 2)])), ((u 2), .inl (cy 0, 51, .inl (upd (upd (upd (fun _ => 0) 40 3) 41 3) 42 3)))])) := by
  refine Ct.ofZ RX6 "<init>" [(0, .ref h)] rfl rfl rfl rfl (Nat.le_of_ble_eq_true rfl) ?_
  intro p e R s m args below meth c A b
  refine z_aload_n b dX6_init_0 rfl rfl ?_
  refine z_objInit b wm_X6_3 wi_obj wc_obj dX6_init_1 (by decide) (Nat.le_of_ble_eq_true rfl) ?_
  refine z_aload_n b dX6_init_4 rfl rfl ?_
  refine z_bipush (v := 40) b dX6_init_5 (by decide) ?_
  refine z_newI (N' := 40) b wA_I (by decide) (by decide) (by decide) ⟨by decide, by decide⟩ dX6_init_7 (fun q773 => ?_)
  refine z_putF (q0 := 0) (k9 := 0) (ws' := [(h, .inr (7, [.ref q773, .null, .int 0, .int 0, .int 0])), (q773, .inl (cy 0, 40, .inl (fun _ => 0)))]) tyX6 b rfl rfl in_X6 tyX6_ok nmX6 (by decide) wf_X6_11 rfl rfl rfl rfl rfl rfl (Nat.le_of_ble_eq_true rfl) dX6_init_9 rfl ?_
  refine z_aload_n b dX6_init_12 rfl rfl ?_
  refine z_new (ci := 10) (fs := [.null]) tyX9 b in_X9 tyX9_ok wk_X6_15 wI_X9 wN_X9 rfl (by decide +kernel) ⟨by decide, by decide⟩ dX6_init_13 (fun q774 => ?_)
  refine z_dup b dX6_init_16 rfl ?_
  refine z_callvF (wc := [(q774, .inr (10, [.null]))]) (wr := [(h, .inr (7, [.ref q773, .null, .int 0, .int 0, .int 0])), (q773, .inl (cy 0, 40, .inl (fun _ => 0)))]) [2] [0, 1] b rfl (by decide) rfl (by decide) (by decide) (z_runI (As := []) (st := [.ref q774, .ref h]) b (k_X9_init q774 ) cf_X9_init wm_X6_17 wi_X9_init rfl dX6_init_17 rfl (Nat.le_of_ble_eq_true rfl) ⟨by decide, by decide, by decide, by decide⟩) (fun u775 hu775 => ?_)
  show Z p l e R s m args below meth c D A 1 (MQ below (QV D (U := Nat → Nat) (fun _ => True) (fun u => [(h, .inr (7, [.ref (u 0), .ref (u 1), .int 0, .int 3, .int 3])), ((u 0), .inl (cy 0, 40, .inl (fun _ => 0))), ((u 1), .inr (10, [.ref (u 2)])), ((u 2), .inl (cy 0, 51, .inl (upd (upd (upd (fun _ => 0) 40 3) 41 3) 42 3)))]) A) args s 3 92 A) _ _ [(h, .inr (7, [.ref q773, .null, .int 0, .int 0, .int 0])), (q773, .inl (cy 0, 40, .inl (fun _ => 0))), (q774, .inr (10, [.ref (u775 0)])), ((u775 0), .inl (cy 0, 51, .inl (upd (upd (upd (fun _ => 0) 40 3) 41 3) 42 3)))] [(0, .ref h)] 20 [.ref q774, .ref h]
  refine z_put (q0 := 0) (k9 := 1) (ws' := [(h, .inr (7, [.ref q773, .ref q774, .int 0, .int 0, .int 0])), (q773, .inl (cy 0, 40, .inl (fun _ => 0))), (q774, .inr (10, [.ref (u775 0)])), ((u775 0), .inl (cy 0, 51, .inl (upd (upd (upd (fun _ => 0) 40 3) 41 3) 42 3)))]) tyX6 b rfl rfl in_X6 tyX6_ok nmX6 (by decide) wf_X6_18 rfl rfl rfl rfl (Nat.le_of_ble_eq_true rfl) dX6_init_20 rfl ?_
  refine z_aload_n b dX6_init_23 rfl rfl ?_
  refine z_iconst (v := 0) b dX6_init_24 (by decide) ?_
  refine z_put (q0 := 0) (k9 := 2) (ws' := [(h, .inr (7, [.ref q773, .ref q774, .int 0, .int 0, .int 0])), (q773, .inl (cy 0, 40, .inl (fun _ => 0))), (q774, .inr (10, [.ref (u775 0)])), ((u775 0), .inl (cy 0, 51, .inl (upd (upd (upd (fun _ => 0) 40 3) 41 3) 42 3)))]) tyX6 b rfl rfl in_X6 tyX6_ok nmX6 (by decide) wf_X6_22 rfl rfl rfl rfl (Nat.le_of_ble_eq_true rfl) dX6_init_25 rfl ?_
  refine z_aload_n b dX6_init_28 rfl rfl ?_
  refine z_iconst (v := 3) b dX6_init_29 (by decide) ?_
  refine z_put (q0 := 0) (k9 := 3) (ws' := [(h, .inr (7, [.ref q773, .ref q774, .int 0, .int 3, .int 0])), (q773, .inl (cy 0, 40, .inl (fun _ => 0))), (q774, .inr (10, [.ref (u775 0)])), ((u775 0), .inl (cy 0, 51, .inl (upd (upd (upd (fun _ => 0) 40 3) 41 3) 42 3)))]) tyX6 b rfl rfl in_X6 tyX6_ok nmX6 (by decide) wf_X6_26 rfl rfl rfl rfl (Nat.le_of_ble_eq_true rfl) dX6_init_30 rfl ?_
  refine z_aload_n b dX6_init_33 rfl rfl ?_
  refine z_iconst (v := 3) b dX6_init_34 (by decide) ?_
  refine z_put (q0 := 0) (k9 := 4) (ws' := [(h, .inr (7, [.ref q773, .ref q774, .int 0, .int 3, .int 3])), (q773, .inl (cy 0, 40, .inl (fun _ => 0))), (q774, .inr (10, [.ref (u775 0)])), ((u775 0), .inl (cy 0, 51, .inl (upd (upd (upd (fun _ => 0) 40 3) 41 3) 42 3)))]) tyX6 b rfl rfl in_X6 tyX6_ok nmX6 (by decide) wf_X6_29 rfl rfl rfl rfl (Nat.le_of_ble_eq_true rfl) dX6_init_35 rfl ?_
  exact z_vret (u := (fun k => ([q773, q774, (u775 0)] : List Nat).getD k 0)) b rfl dX6_init_38 trivial rfl (by decide) (by decide)

set_option maxHeartbeats 4000000 in
set_option maxRecDepth 100000 in
theorem k_X4_init {l : Launch} {D : va_G} {cy : Nat → ClassId} {T0 tB tE : Nat} (h : Nat)  : Ct l D cy T0 tB tE yX4_init cX4_init 1 none 4 84 3 18 [(h, .inr (5, [.null, .null, .null]))] [.ref h] (QV D (U := Nat → Nat) (fun _ => True) (fun u => [(h, .inr (5, [.ref (u 0), .ref (u 1), .ref (u 2)])), ((u 0), .inl (cy 3, 12, .inr (.inr (.inr (.inr (fun _ => none)))))), ((u 1), .inr (0, [.int 0, .ref tE, .int 0])), ((u 2), .inr (0, [.int 0, .ref tE, .int 0]))])) := by
  refine Ct.ofZ RX4 "<init>" [(0, .ref h)] rfl rfl rfl rfl (Nat.le_of_ble_eq_true rfl) ?_
  intro p e R s m args below meth c A b
  refine z_aload_n b dX4_init_0 rfl rfl ?_
  refine z_objInit b wm_X4_3 wi_obj wc_obj dX4_init_1 (by decide) (Nat.le_of_ble_eq_true rfl) ?_
  refine z_aload_n b dX4_init_4 rfl rfl ?_
  refine z_bipush (v := 12) b dX4_init_5 (by decide) ?_
  refine z_newq (N' := 12) (t0 := 3) b wk_X4_9 b.E1.2.2.2.2.2.1 rfl (by decide) (by decide) (by decide) ⟨by decide, by decide⟩ dX4_init_7 (fun q776 => ?_)
  refine z_putF (q0 := 0) (k9 := 0) (ws' := [(h, .inr (5, [.ref q776, .null, .null])), (q776, .inl (cy 3, 12, .inr (.inr (.inr (.inr (fun _ => none))))))]) tyX4 b rfl rfl in_X4 tyX4_ok nmX4 (by decide) wf_X4_11 rfl rfl rfl rfl rfl rfl (Nat.le_of_ble_eq_true rfl) dX4_init_10 rfl ?_
  refine z_aload_n b dX4_init_13 rfl rfl ?_
  refine z_new (ci := 0) (fs := [.int 0, .null, .int 0]) tyJx4a65c b in_Jx4a65c tyJx4a65c_ok wk_X4_17 wI_Jx4a65c wN_Jx4a65c rfl (by decide +kernel) ⟨by decide, by decide⟩ dX4_init_14 (fun q777 => ?_)
  refine z_dup b dX4_init_17 rfl ?_
  refine z_callvF (wc := [(q777, .inr (0, [.int 0, .null, .int 0]))]) (wr := [(h, .inr (5, [.ref q776, .null, .null])), (q776, .inl (cy 3, 12, .inr (.inr (.inr (.inr (fun _ => none))))))]) [2] [0, 1] b rfl (by decide) rfl (by decide) (by decide) (z_runI (As := []) (st := [.ref q777, .ref h]) b (k_Jx4a65c_init_da8c8 q777 ) cf_Jx4a65c_init_da8c8 wm_X4_19 wi_Jx4a65c_init_da8c8 rfl dX4_init_18 rfl (Nat.le_of_ble_eq_true rfl) ⟨by decide, by decide, by decide, by decide⟩) (fun u778 hu778 => ?_)
  show Z p l e R s m args below meth c D A 1 (MQ below (QV D (U := Nat → Nat) (fun _ => True) (fun u => [(h, .inr (5, [.ref (u 0), .ref (u 1), .ref (u 2)])), ((u 0), .inl (cy 3, 12, .inr (.inr (.inr (.inr (fun _ => none)))))), ((u 1), .inr (0, [.int 0, .ref tE, .int 0])), ((u 2), .inr (0, [.int 0, .ref tE, .int 0]))]) A) args s 3 18 A) _ _ [(h, .inr (5, [.ref q776, .null, .null])), (q776, .inl (cy 3, 12, .inr (.inr (.inr (.inr (fun _ => none)))))), (q777, .inr (0, [.int 0, .ref tE, .int 0]))] [(0, .ref h)] 21 [.ref q777, .ref h]
  refine z_putF (q0 := 0) (k9 := 1) (ws' := [(h, .inr (5, [.ref q776, .ref q777, .null])), (q776, .inl (cy 3, 12, .inr (.inr (.inr (.inr (fun _ => none)))))), (q777, .inr (0, [.int 0, .ref tE, .int 0]))]) tyX4 b rfl rfl in_X4 tyX4_ok nmX4 (by decide) wf_X4_20 rfl rfl rfl rfl rfl rfl (Nat.le_of_ble_eq_true rfl) dX4_init_21 rfl ?_
  refine z_aload_n b dX4_init_24 rfl rfl ?_
  refine z_new (ci := 0) (fs := [.int 0, .null, .int 0]) tyJx4a65c b in_Jx4a65c tyJx4a65c_ok wk_X4_17 wI_Jx4a65c wN_Jx4a65c rfl (by decide +kernel) ⟨by decide, by decide⟩ dX4_init_25 (fun q779 => ?_)
  refine z_dup b dX4_init_28 rfl ?_
  refine z_callvF (wc := [(q779, .inr (0, [.int 0, .null, .int 0]))]) (wr := [(h, .inr (5, [.ref q776, .ref q777, .null])), (q776, .inl (cy 3, 12, .inr (.inr (.inr (.inr (fun _ => none)))))), (q777, .inr (0, [.int 0, .ref tE, .int 0]))]) [3] [0, 1, 2] b rfl (by decide) rfl (by decide) (by decide) (z_runI (As := []) (st := [.ref q779, .ref h]) b (k_Jx4a65c_init_da8c8 q779 ) cf_Jx4a65c_init_da8c8 wm_X4_19 wi_Jx4a65c_init_da8c8 rfl dX4_init_29 rfl (Nat.le_of_ble_eq_true rfl) ⟨by decide, by decide, by decide, by decide⟩) (fun u780 hu780 => ?_)
  show Z p l e R s m args below meth c D A 1 (MQ below (QV D (U := Nat → Nat) (fun _ => True) (fun u => [(h, .inr (5, [.ref (u 0), .ref (u 1), .ref (u 2)])), ((u 0), .inl (cy 3, 12, .inr (.inr (.inr (.inr (fun _ => none)))))), ((u 1), .inr (0, [.int 0, .ref tE, .int 0])), ((u 2), .inr (0, [.int 0, .ref tE, .int 0]))]) A) args s 3 18 A) _ _ [(h, .inr (5, [.ref q776, .ref q777, .null])), (q776, .inl (cy 3, 12, .inr (.inr (.inr (.inr (fun _ => none)))))), (q777, .inr (0, [.int 0, .ref tE, .int 0])), (q779, .inr (0, [.int 0, .ref tE, .int 0]))] [(0, .ref h)] 32 [.ref q779, .ref h]
  refine z_putF (q0 := 0) (k9 := 2) (ws' := [(h, .inr (5, [.ref q776, .ref q777, .ref q779])), (q776, .inl (cy 3, 12, .inr (.inr (.inr (.inr (fun _ => none)))))), (q777, .inr (0, [.int 0, .ref tE, .int 0])), (q779, .inr (0, [.int 0, .ref tE, .int 0]))]) tyX4 b rfl rfl in_X4 tyX4_ok nmX4 (by decide) wf_X4_24 rfl rfl rfl rfl rfl rfl (Nat.le_of_ble_eq_true rfl) dX4_init_32 rfl ?_
  exact z_vret (u := (fun k => ([q776, q777, q779] : List Nat).getD k 0)) b rfl dX4_init_35 trivial rfl (by decide) (by decide)

set_option maxHeartbeats 4000000 in
set_option maxRecDepth 100000 in
theorem k_X2_init {l : Launch} {D : va_G} {cy : Nat → ClassId} {T0 tB tE : Nat} (h : Nat) (g0 : Nat) : Ct l D cy T0 tB tE yX2_init cX2_init 2 none 3 65 8 201 [(h, .inr (3, [.null, .null, .null, .null, .int 0]))] [.ref h, .ref g0] (QV D (U := Nat → Nat) (fun _ => True) (fun u => [(h, .inr (3, [.ref g0, .ref (u 0), .ref (u 4), .ref (u 6), .int (-1)])), ((u 0), .inr (7, [.ref (u 1), .ref (u 2), .int 0, .int 3, .int 3])), ((u 1), .inl (cy 0, 40, .inl (fun _ => 0))), ((u 2), .inr (10, [.ref (u 3)])), ((u 3), .inl (cy 0, 51, .inl (upd (upd (upd (fun _ => 0) 40 3) 41 3) 42 3))), ((u 4), .inr (10, [.ref (u 5)])), ((u 5), .inl (cy 0, 51, .inl (upd (upd (upd (fun _ => 0) 40 3) 41 3) 42 3))), ((u 6), .inr (10, [.ref (u 7)])), ((u 7), .inl (cy 0, 51, .inl (upd (upd (upd (fun _ => 0) 40 3) 41 3) 42 3)))])) := by
  refine Ct.ofZ RX2 "<init>" [(0, .ref h), (1, .ref g0)] rfl rfl rfl rfl (Nat.le_of_ble_eq_true rfl) ?_
  intro p e R s m args below meth c A b
  refine z_aload_n b dX2_init_0 rfl rfl ?_
  refine z_objInit b wm_X2_3 wi_obj wc_obj dX2_init_1 (by decide) (Nat.le_of_ble_eq_true rfl) ?_
  refine z_aload_n b dX2_init_4 rfl rfl ?_
  refine z_new (ci := 7) (fs := [.null, .null, .int 0, .int 0, .int 0]) tyX6 b in_X6 tyX6_ok wk_X2_9 wI_X6 wN_X6 rfl (by decide +kernel) ⟨by decide, by decide⟩ dX2_init_5 (fun q781 => ?_)
  refine z_dup b dX2_init_8 rfl ?_
  refine z_callvF (wc := [(q781, .inr (7, [.null, .null, .int 0, .int 0, .int 0]))]) (wr := [(h, .inr (3, [.null, .null, .null, .null, .int 0]))]) [1] [0] b rfl (by decide) rfl (by decide) (by decide) (z_runIN (As := []) (st := [.ref q781, .ref h]) b (k_X6_init q781 ) cf_X6_init (nw_X2_11) wi_X6_init rfl dX2_init_9 rfl (Nat.le_of_ble_eq_true rfl) ⟨by decide, by decide, by decide, by decide⟩) (fun u782 hu782 => ?_)
  show Z p l e R s m args below meth c D A 2 (MQ below (QV D (U := Nat → Nat) (fun _ => True) (fun u => [(h, .inr (3, [.ref g0, .ref (u 0), .ref (u 4), .ref (u 6), .int (-1)])), ((u 0), .inr (7, [.ref (u 1), .ref (u 2), .int 0, .int 3, .int 3])), ((u 1), .inl (cy 0, 40, .inl (fun _ => 0))), ((u 2), .inr (10, [.ref (u 3)])), ((u 3), .inl (cy 0, 51, .inl (upd (upd (upd (fun _ => 0) 40 3) 41 3) 42 3))), ((u 4), .inr (10, [.ref (u 5)])), ((u 5), .inl (cy 0, 51, .inl (upd (upd (upd (fun _ => 0) 40 3) 41 3) 42 3))), ((u 6), .inr (10, [.ref (u 7)])), ((u 7), .inl (cy 0, 51, .inl (upd (upd (upd (fun _ => 0) 40 3) 41 3) 42 3)))]) A) args s 8 201 A) _ _ [(h, .inr (3, [.null, .null, .null, .null, .int 0])), (q781, .inr (7, [.ref (u782 0), .ref (u782 1), .int 0, .int 3, .int 3])), ((u782 0), .inl (cy 0, 40, .inl (fun _ => 0))), ((u782 1), .inr (10, [.ref (u782 2)])), ((u782 2), .inl (cy 0, 51, .inl (upd (upd (upd (fun _ => 0) 40 3) 41 3) 42 3)))] [(0, .ref h), (1, .ref g0)] 12 [.ref q781, .ref h]
  refine z_putF (q0 := 0) (k9 := 1) (ws' := [(h, .inr (3, [.null, .ref q781, .null, .null, .int 0])), (q781, .inr (7, [.ref (u782 0), .ref (u782 1), .int 0, .int 3, .int 3])), ((u782 0), .inl (cy 0, 40, .inl (fun _ => 0))), ((u782 1), .inr (10, [.ref (u782 2)])), ((u782 2), .inl (cy 0, 51, .inl (upd (upd (upd (fun _ => 0) 40 3) 41 3) 42 3)))]) tyX2 b rfl rfl in_X2 tyX2_ok nmX2 (by decide) wf_X2_12 rfl rfl rfl rfl rfl rfl (Nat.le_of_ble_eq_true rfl) dX2_init_12 rfl ?_
  refine z_aload_n b dX2_init_15 rfl rfl ?_
  refine z_new (ci := 10) (fs := [.null]) tyX9 b in_X9 tyX9_ok wk_X2_18 wI_X9 wN_X9 rfl (by decide +kernel) ⟨by decide, by decide⟩ dX2_init_16 (fun q783 => ?_)
  refine z_dup b dX2_init_19 rfl ?_
  refine z_callvF (wc := [(q783, .inr (10, [.null]))]) (wr := [(h, .inr (3, [.null, .ref q781, .null, .null, .int 0])), (q781, .inr (7, [.ref (u782 0), .ref (u782 1), .int 0, .int 3, .int 3])), ((u782 0), .inl (cy 0, 40, .inl (fun _ => 0))), ((u782 1), .inr (10, [.ref (u782 2)])), ((u782 2), .inl (cy 0, 51, .inl (upd (upd (upd (fun _ => 0) 40 3) 41 3) 42 3)))]) [5] [0, 1, 2, 3, 4] b rfl (by decide) rfl (by decide) (by decide) (z_runI (As := []) (st := [.ref q783, .ref h]) b (k_X9_init q783 ) cf_X9_init wm_X2_20 wi_X9_init rfl dX2_init_20 rfl (Nat.le_of_ble_eq_true rfl) ⟨by decide, by decide, by decide, by decide⟩) (fun u784 hu784 => ?_)
  show Z p l e R s m args below meth c D A 2 (MQ below (QV D (U := Nat → Nat) (fun _ => True) (fun u => [(h, .inr (3, [.ref g0, .ref (u 0), .ref (u 4), .ref (u 6), .int (-1)])), ((u 0), .inr (7, [.ref (u 1), .ref (u 2), .int 0, .int 3, .int 3])), ((u 1), .inl (cy 0, 40, .inl (fun _ => 0))), ((u 2), .inr (10, [.ref (u 3)])), ((u 3), .inl (cy 0, 51, .inl (upd (upd (upd (fun _ => 0) 40 3) 41 3) 42 3))), ((u 4), .inr (10, [.ref (u 5)])), ((u 5), .inl (cy 0, 51, .inl (upd (upd (upd (fun _ => 0) 40 3) 41 3) 42 3))), ((u 6), .inr (10, [.ref (u 7)])), ((u 7), .inl (cy 0, 51, .inl (upd (upd (upd (fun _ => 0) 40 3) 41 3) 42 3)))]) A) args s 8 201 A) _ _ [(h, .inr (3, [.null, .ref q781, .null, .null, .int 0])), (q781, .inr (7, [.ref (u782 0), .ref (u782 1), .int 0, .int 3, .int 3])), ((u782 0), .inl (cy 0, 40, .inl (fun _ => 0))), ((u782 1), .inr (10, [.ref (u782 2)])), ((u782 2), .inl (cy 0, 51, .inl (upd (upd (upd (fun _ => 0) 40 3) 41 3) 42 3))), (q783, .inr (10, [.ref (u784 0)])), ((u784 0), .inl (cy 0, 51, .inl (upd (upd (upd (fun _ => 0) 40 3) 41 3) 42 3)))] [(0, .ref h), (1, .ref g0)] 23 [.ref q783, .ref h]
  refine z_putF (q0 := 0) (k9 := 2) (ws' := [(h, .inr (3, [.null, .ref q781, .ref q783, .null, .int 0])), (q781, .inr (7, [.ref (u782 0), .ref (u782 1), .int 0, .int 3, .int 3])), ((u782 0), .inl (cy 0, 40, .inl (fun _ => 0))), ((u782 1), .inr (10, [.ref (u782 2)])), ((u782 2), .inl (cy 0, 51, .inl (upd (upd (upd (fun _ => 0) 40 3) 41 3) 42 3))), (q783, .inr (10, [.ref (u784 0)])), ((u784 0), .inl (cy 0, 51, .inl (upd (upd (upd (fun _ => 0) 40 3) 41 3) 42 3)))]) tyX2 b rfl rfl in_X2 tyX2_ok nmX2 (by decide) wf_X2_21 rfl rfl rfl rfl rfl rfl (Nat.le_of_ble_eq_true rfl) dX2_init_23 rfl ?_
  refine z_aload_n b dX2_init_26 rfl rfl ?_
  refine z_new (ci := 10) (fs := [.null]) tyX9 b in_X9 tyX9_ok wk_X2_18 wI_X9 wN_X9 rfl (by decide +kernel) ⟨by decide, by decide⟩ dX2_init_27 (fun q785 => ?_)
  refine z_dup b dX2_init_30 rfl ?_
  refine z_callvF (wc := [(q785, .inr (10, [.null]))]) (wr := [(h, .inr (3, [.null, .ref q781, .ref q783, .null, .int 0])), (q781, .inr (7, [.ref (u782 0), .ref (u782 1), .int 0, .int 3, .int 3])), ((u782 0), .inl (cy 0, 40, .inl (fun _ => 0))), ((u782 1), .inr (10, [.ref (u782 2)])), ((u782 2), .inl (cy 0, 51, .inl (upd (upd (upd (fun _ => 0) 40 3) 41 3) 42 3))), (q783, .inr (10, [.ref (u784 0)])), ((u784 0), .inl (cy 0, 51, .inl (upd (upd (upd (fun _ => 0) 40 3) 41 3) 42 3)))]) [7] [0, 1, 2, 3, 4, 5, 6] b rfl (by decide) rfl (by decide) (by decide) (z_runI (As := []) (st := [.ref q785, .ref h]) b (k_X9_init q785 ) cf_X9_init wm_X2_20 wi_X9_init rfl dX2_init_31 rfl (Nat.le_of_ble_eq_true rfl) ⟨by decide, by decide, by decide, by decide⟩) (fun u786 hu786 => ?_)
  show Z p l e R s m args below meth c D A 2 (MQ below (QV D (U := Nat → Nat) (fun _ => True) (fun u => [(h, .inr (3, [.ref g0, .ref (u 0), .ref (u 4), .ref (u 6), .int (-1)])), ((u 0), .inr (7, [.ref (u 1), .ref (u 2), .int 0, .int 3, .int 3])), ((u 1), .inl (cy 0, 40, .inl (fun _ => 0))), ((u 2), .inr (10, [.ref (u 3)])), ((u 3), .inl (cy 0, 51, .inl (upd (upd (upd (fun _ => 0) 40 3) 41 3) 42 3))), ((u 4), .inr (10, [.ref (u 5)])), ((u 5), .inl (cy 0, 51, .inl (upd (upd (upd (fun _ => 0) 40 3) 41 3) 42 3))), ((u 6), .inr (10, [.ref (u 7)])), ((u 7), .inl (cy 0, 51, .inl (upd (upd (upd (fun _ => 0) 40 3) 41 3) 42 3)))]) A) args s 8 201 A) _ _ [(h, .inr (3, [.null, .ref q781, .ref q783, .null, .int 0])), (q781, .inr (7, [.ref (u782 0), .ref (u782 1), .int 0, .int 3, .int 3])), ((u782 0), .inl (cy 0, 40, .inl (fun _ => 0))), ((u782 1), .inr (10, [.ref (u782 2)])), ((u782 2), .inl (cy 0, 51, .inl (upd (upd (upd (fun _ => 0) 40 3) 41 3) 42 3))), (q783, .inr (10, [.ref (u784 0)])), ((u784 0), .inl (cy 0, 51, .inl (upd (upd (upd (fun _ => 0) 40 3) 41 3) 42 3))), (q785, .inr (10, [.ref (u786 0)])), ((u786 0), .inl (cy 0, 51, .inl (upd (upd (upd (fun _ => 0) 40 3) 41 3) 42 3)))] [(0, .ref h), (1, .ref g0)] 34 [.ref q785, .ref h]
  refine z_putF (q0 := 0) (k9 := 3) (ws' := [(h, .inr (3, [.null, .ref q781, .ref q783, .ref q785, .int 0])), (q781, .inr (7, [.ref (u782 0), .ref (u782 1), .int 0, .int 3, .int 3])), ((u782 0), .inl (cy 0, 40, .inl (fun _ => 0))), ((u782 1), .inr (10, [.ref (u782 2)])), ((u782 2), .inl (cy 0, 51, .inl (upd (upd (upd (fun _ => 0) 40 3) 41 3) 42 3))), (q783, .inr (10, [.ref (u784 0)])), ((u784 0), .inl (cy 0, 51, .inl (upd (upd (upd (fun _ => 0) 40 3) 41 3) 42 3))), (q785, .inr (10, [.ref (u786 0)])), ((u786 0), .inl (cy 0, 51, .inl (upd (upd (upd (fun _ => 0) 40 3) 41 3) 42 3)))]) tyX2 b rfl rfl in_X2 tyX2_ok nmX2 (by decide) wf_X2_25 rfl rfl rfl rfl rfl rfl (Nat.le_of_ble_eq_true rfl) dX2_init_34 rfl ?_
  refine z_aload_n b dX2_init_37 rfl rfl ?_
  refine z_iconst (v := (-1)) b dX2_init_38 (by decide) ?_
  refine z_put (q0 := 0) (k9 := 4) (ws' := [(h, .inr (3, [.null, .ref q781, .ref q783, .ref q785, .int (-1)])), (q781, .inr (7, [.ref (u782 0), .ref (u782 1), .int 0, .int 3, .int 3])), ((u782 0), .inl (cy 0, 40, .inl (fun _ => 0))), ((u782 1), .inr (10, [.ref (u782 2)])), ((u782 2), .inl (cy 0, 51, .inl (upd (upd (upd (fun _ => 0) 40 3) 41 3) 42 3))), (q783, .inr (10, [.ref (u784 0)])), ((u784 0), .inl (cy 0, 51, .inl (upd (upd (upd (fun _ => 0) 40 3) 41 3) 42 3))), (q785, .inr (10, [.ref (u786 0)])), ((u786 0), .inl (cy 0, 51, .inl (upd (upd (upd (fun _ => 0) 40 3) 41 3) 42 3)))]) tyX2 b rfl rfl in_X2 tyX2_ok nmX2 (by decide) wf_X2_28 rfl rfl rfl rfl (Nat.le_of_ble_eq_true rfl) dX2_init_39 rfl ?_
  refine z_aload_n b dX2_init_42 rfl rfl ?_
  refine z_aload_n b dX2_init_43 rfl rfl ?_
  refine z_putF (q0 := 0) (k9 := 0) (ws' := [(h, .inr (3, [.ref g0, .ref q781, .ref q783, .ref q785, .int (-1)])), (q781, .inr (7, [.ref (u782 0), .ref (u782 1), .int 0, .int 3, .int 3])), ((u782 0), .inl (cy 0, 40, .inl (fun _ => 0))), ((u782 1), .inr (10, [.ref (u782 2)])), ((u782 2), .inl (cy 0, 51, .inl (upd (upd (upd (fun _ => 0) 40 3) 41 3) 42 3))), (q783, .inr (10, [.ref (u784 0)])), ((u784 0), .inl (cy 0, 51, .inl (upd (upd (upd (fun _ => 0) 40 3) 41 3) 42 3))), (q785, .inr (10, [.ref (u786 0)])), ((u786 0), .inl (cy 0, 51, .inl (upd (upd (upd (fun _ => 0) 40 3) 41 3) 42 3)))]) tyX2 b rfl rfl in_X2 tyX2_ok nmX2 (by decide) wf_X2_32 rfl rfl rfl rfl rfl rfl (Nat.le_of_ble_eq_true rfl) dX2_init_44 rfl ?_
  exact z_vret (u := (fun k => ([q781, (u782 0), (u782 1), (u782 2), q783, (u784 0), q785, (u786 0)] : List Nat).getD k 0)) b rfl dX2_init_47 trivial rfl (by decide) (by decide)

set_option maxHeartbeats 4000000 in
set_option maxRecDepth 100000 in
theorem k_X8_init {l : Launch} {D : va_G} {cy : Nat → ClassId} {T0 tB tE : Nat} (h : Nat) (g0 : Nat) (g1 : Nat) : Ct l D cy T0 tB tE yX8_init cX8_init 3 none 2 45 9 3292 [(h, .inr (9, [.null, .null, .null, .null, .null, .null, .null, .null, .null, .null, .int 0, .int 0, .int 0, .int 0, .int 0, .int 0, .int 0, .int 0, .int 0]))] [.ref h, .ref g0, .ref g1] (QV D (U := Nat → Nat) (fun _ => True) (fun u => [(h, .inr (9, [.ref g0, .ref g1, .ref (u 0), .ref (u 2), .ref (u 3), .ref (u 4), .ref (u 5), .ref (u 6), .ref (u 7), .ref (u 8), .int 0, .int 0, .int 0, .int 0, .int 0, .int 0, .int 0, .int 0, .int 0])), ((u 0), .inr (10, [.ref (u 1)])), ((u 1), .inl (cy 0, 51, .inl (upd (upd (upd (fun _ => 0) 40 3) 41 3) 42 3))), ((u 2), .inl (cy 1, 400, .inr (.inl (fun _ => 0)))), ((u 3), .inl (cy 0, 400, .inl (fun _ => 0))), ((u 4), .inl (cy 0, 400, .inl (fun _ => 0))), ((u 5), .inl (cy 0, 400, .inl (fun _ => 0))), ((u 6), .inl (cy 0, 1024, .inl (fun _ => 0))), ((u 7), .inl (cy 1, 400, .inr (.inl (fun _ => 0)))), ((u 8), .inl (cy 0, 216, .inl (fun _ => 0)))])) := by
  refine Ct.ofZ RX8 "<init>" [(0, .ref h), (1, .ref g0), (2, .ref g1)] rfl rfl rfl rfl (Nat.le_of_ble_eq_true rfl) ?_
  intro p e R s m args below meth c A b
  refine z_aload_n b dX8_init_0 rfl rfl ?_
  refine z_objInit b wm_X8_3 wi_obj wc_obj dX8_init_1 (by decide) (Nat.le_of_ble_eq_true rfl) ?_
  refine z_aload_n b dX8_init_4 rfl rfl ?_
  refine z_new (ci := 10) (fs := [.null]) tyX9 b in_X9 tyX9_ok wk_X8_9 wI_X9 wN_X9 rfl (by decide +kernel) ⟨by decide, by decide⟩ dX8_init_5 (fun q787 => ?_)
  refine z_dup b dX8_init_8 rfl ?_
  refine z_callvF (wc := [(q787, .inr (10, [.null]))]) (wr := [(h, .inr (9, [.null, .null, .null, .null, .null, .null, .null, .null, .null, .null, .int 0, .int 0, .int 0, .int 0, .int 0, .int 0, .int 0, .int 0, .int 0]))]) [1] [0] b rfl (by decide) rfl (by decide) (by decide) (z_runI (As := []) (st := [.ref q787, .ref h]) b (k_X9_init q787 ) cf_X9_init wm_X8_11 wi_X9_init rfl dX8_init_9 rfl (Nat.le_of_ble_eq_true rfl) ⟨by decide, by decide, by decide, by decide⟩) (fun u788 hu788 => ?_)
  show Z p l e R s m args below meth c D A 3 (MQ below (QV D (U := Nat → Nat) (fun _ => True) (fun u => [(h, .inr (9, [.ref g0, .ref g1, .ref (u 0), .ref (u 2), .ref (u 3), .ref (u 4), .ref (u 5), .ref (u 6), .ref (u 7), .ref (u 8), .int 0, .int 0, .int 0, .int 0, .int 0, .int 0, .int 0, .int 0, .int 0])), ((u 0), .inr (10, [.ref (u 1)])), ((u 1), .inl (cy 0, 51, .inl (upd (upd (upd (fun _ => 0) 40 3) 41 3) 42 3))), ((u 2), .inl (cy 1, 400, .inr (.inl (fun _ => 0)))), ((u 3), .inl (cy 0, 400, .inl (fun _ => 0))), ((u 4), .inl (cy 0, 400, .inl (fun _ => 0))), ((u 5), .inl (cy 0, 400, .inl (fun _ => 0))), ((u 6), .inl (cy 0, 1024, .inl (fun _ => 0))), ((u 7), .inl (cy 1, 400, .inr (.inl (fun _ => 0)))), ((u 8), .inl (cy 0, 216, .inl (fun _ => 0)))]) A) args s 9 3292 A) _ _ [(h, .inr (9, [.null, .null, .null, .null, .null, .null, .null, .null, .null, .null, .int 0, .int 0, .int 0, .int 0, .int 0, .int 0, .int 0, .int 0, .int 0])), (q787, .inr (10, [.ref (u788 0)])), ((u788 0), .inl (cy 0, 51, .inl (upd (upd (upd (fun _ => 0) 40 3) 41 3) 42 3)))] [(0, .ref h), (1, .ref g0), (2, .ref g1)] 12 [.ref q787, .ref h]
  refine z_putF (q0 := 0) (k9 := 2) (ws' := [(h, .inr (9, [.null, .null, .ref q787, .null, .null, .null, .null, .null, .null, .null, .int 0, .int 0, .int 0, .int 0, .int 0, .int 0, .int 0, .int 0, .int 0])), (q787, .inr (10, [.ref (u788 0)])), ((u788 0), .inl (cy 0, 51, .inl (upd (upd (upd (fun _ => 0) 40 3) 41 3) 42 3)))]) tyX8 b rfl rfl in_X8 tyX8_ok nmX8 (by decide) wf_X8_12 rfl rfl rfl rfl rfl rfl (Nat.le_of_ble_eq_true rfl) dX8_init_12 rfl ?_
  refine z_aload_n b dX8_init_15 rfl rfl ?_
  refine z_sipush (v := 400) b dX8_init_16 (by decide) ?_
  refine z_newJ (N' := 400) b wA_J (by decide) (by decide) (by decide) ⟨by decide, by decide⟩ dX8_init_19 (fun q789 => ?_)
  refine z_putF (q0 := 0) (k9 := 3) (ws' := [(h, .inr (9, [.null, .null, .ref q787, .ref q789, .null, .null, .null, .null, .null, .null, .int 0, .int 0, .int 0, .int 0, .int 0, .int 0, .int 0, .int 0, .int 0])), (q787, .inr (10, [.ref (u788 0)])), ((u788 0), .inl (cy 0, 51, .inl (upd (upd (upd (fun _ => 0) 40 3) 41 3) 42 3))), (q789, .inl (cy 1, 400, .inr (.inl (fun _ => 0))))]) tyX8 b rfl rfl in_X8 tyX8_ok nmX8 (by decide) wf_X8_18 rfl rfl rfl rfl rfl rfl (Nat.le_of_ble_eq_true rfl) dX8_init_21 rfl ?_
  refine z_aload_n b dX8_init_24 rfl rfl ?_
  refine z_sipush (v := 400) b dX8_init_25 (by decide) ?_
  refine z_newI (N' := 400) b wA_I (by decide) (by decide) (by decide) ⟨by decide, by decide⟩ dX8_init_28 (fun q790 => ?_)
  refine z_putF (q0 := 0) (k9 := 4) (ws' := [(h, .inr (9, [.null, .null, .ref q787, .ref q789, .ref q790, .null, .null, .null, .null, .null, .int 0, .int 0, .int 0, .int 0, .int 0, .int 0, .int 0, .int 0, .int 0])), (q787, .inr (10, [.ref (u788 0)])), ((u788 0), .inl (cy 0, 51, .inl (upd (upd (upd (fun _ => 0) 40 3) 41 3) 42 3))), (q789, .inl (cy 1, 400, .inr (.inl (fun _ => 0)))), (q790, .inl (cy 0, 400, .inl (fun _ => 0)))]) tyX8 b rfl rfl in_X8 tyX8_ok nmX8 (by decide) wf_X8_22 rfl rfl rfl rfl rfl rfl (Nat.le_of_ble_eq_true rfl) dX8_init_30 rfl ?_
  refine z_aload_n b dX8_init_33 rfl rfl ?_
  refine z_sipush (v := 400) b dX8_init_34 (by decide) ?_
  refine z_newI (N' := 400) b wA_I (by decide) (by decide) (by decide) ⟨by decide, by decide⟩ dX8_init_37 (fun q791 => ?_)
  refine z_putF (q0 := 0) (k9 := 5) (ws' := [(h, .inr (9, [.null, .null, .ref q787, .ref q789, .ref q790, .ref q791, .null, .null, .null, .null, .int 0, .int 0, .int 0, .int 0, .int 0, .int 0, .int 0, .int 0, .int 0])), (q787, .inr (10, [.ref (u788 0)])), ((u788 0), .inl (cy 0, 51, .inl (upd (upd (upd (fun _ => 0) 40 3) 41 3) 42 3))), (q789, .inl (cy 1, 400, .inr (.inl (fun _ => 0)))), (q790, .inl (cy 0, 400, .inl (fun _ => 0))), (q791, .inl (cy 0, 400, .inl (fun _ => 0)))]) tyX8 b rfl rfl in_X8 tyX8_ok nmX8 (by decide) wf_X8_26 rfl rfl rfl rfl rfl rfl (Nat.le_of_ble_eq_true rfl) dX8_init_39 rfl ?_
  refine z_aload_n b dX8_init_42 rfl rfl ?_
  refine z_sipush (v := 400) b dX8_init_43 (by decide) ?_
  refine z_newI (N' := 400) b wA_I (by decide) (by decide) (by decide) ⟨by decide, by decide⟩ dX8_init_46 (fun q792 => ?_)
  refine z_putF (q0 := 0) (k9 := 6) (ws' := [(h, .inr (9, [.null, .null, .ref q787, .ref q789, .ref q790, .ref q791, .ref q792, .null, .null, .null, .int 0, .int 0, .int 0, .int 0, .int 0, .int 0, .int 0, .int 0, .int 0])), (q787, .inr (10, [.ref (u788 0)])), ((u788 0), .inl (cy 0, 51, .inl (upd (upd (upd (fun _ => 0) 40 3) 41 3) 42 3))), (q789, .inl (cy 1, 400, .inr (.inl (fun _ => 0)))), (q790, .inl (cy 0, 400, .inl (fun _ => 0))), (q791, .inl (cy 0, 400, .inl (fun _ => 0))), (q792, .inl (cy 0, 400, .inl (fun _ => 0)))]) tyX8 b rfl rfl in_X8 tyX8_ok nmX8 (by decide) wf_X8_29 rfl rfl rfl rfl rfl rfl (Nat.le_of_ble_eq_true rfl) dX8_init_48 rfl ?_
  refine z_aload_n b dX8_init_51 rfl rfl ?_
  refine z_sipush (v := 1024) b dX8_init_52 (by decide) ?_
  refine z_newI (N' := 1024) b wA_I (by decide) (by decide) (by decide) ⟨by decide, by decide⟩ dX8_init_55 (fun q793 => ?_)
  refine z_putF (q0 := 0) (k9 := 7) (ws' := [(h, .inr (9, [.null, .null, .ref q787, .ref q789, .ref q790, .ref q791, .ref q792, .ref q793, .null, .null, .int 0, .int 0, .int 0, .int 0, .int 0, .int 0, .int 0, .int 0, .int 0])), (q787, .inr (10, [.ref (u788 0)])), ((u788 0), .inl (cy 0, 51, .inl (upd (upd (upd (fun _ => 0) 40 3) 41 3) 42 3))), (q789, .inl (cy 1, 400, .inr (.inl (fun _ => 0)))), (q790, .inl (cy 0, 400, .inl (fun _ => 0))), (q791, .inl (cy 0, 400, .inl (fun _ => 0))), (q792, .inl (cy 0, 400, .inl (fun _ => 0))), (q793, .inl (cy 0, 1024, .inl (fun _ => 0)))]) tyX8 b rfl rfl in_X8 tyX8_ok nmX8 (by decide) wf_X8_32 rfl rfl rfl rfl rfl rfl (Nat.le_of_ble_eq_true rfl) dX8_init_57 rfl ?_
  refine z_aload_n b dX8_init_60 rfl rfl ?_
  refine z_sipush (v := 400) b dX8_init_61 (by decide) ?_
  refine z_newJ (N' := 400) b wA_J (by decide) (by decide) (by decide) ⟨by decide, by decide⟩ dX8_init_64 (fun q794 => ?_)
  refine z_putF (q0 := 0) (k9 := 8) (ws' := [(h, .inr (9, [.null, .null, .ref q787, .ref q789, .ref q790, .ref q791, .ref q792, .ref q793, .ref q794, .null, .int 0, .int 0, .int 0, .int 0, .int 0, .int 0, .int 0, .int 0, .int 0])), (q787, .inr (10, [.ref (u788 0)])), ((u788 0), .inl (cy 0, 51, .inl (upd (upd (upd (fun _ => 0) 40 3) 41 3) 42 3))), (q789, .inl (cy 1, 400, .inr (.inl (fun _ => 0)))), (q790, .inl (cy 0, 400, .inl (fun _ => 0))), (q791, .inl (cy 0, 400, .inl (fun _ => 0))), (q792, .inl (cy 0, 400, .inl (fun _ => 0))), (q793, .inl (cy 0, 1024, .inl (fun _ => 0))), (q794, .inl (cy 1, 400, .inr (.inl (fun _ => 0))))]) tyX8 b rfl rfl in_X8 tyX8_ok nmX8 (by decide) wf_X8_35 rfl rfl rfl rfl rfl rfl (Nat.le_of_ble_eq_true rfl) dX8_init_66 rfl ?_
  refine z_aload_n b dX8_init_69 rfl rfl ?_
  refine z_sipush (v := 216) b dX8_init_70 (by decide) ?_
  refine z_newI (N' := 216) b wA_I (by decide) (by decide) (by decide) ⟨by decide, by decide⟩ dX8_init_73 (fun q795 => ?_)
  refine z_putF (q0 := 0) (k9 := 9) (ws' := [(h, .inr (9, [.null, .null, .ref q787, .ref q789, .ref q790, .ref q791, .ref q792, .ref q793, .ref q794, .ref q795, .int 0, .int 0, .int 0, .int 0, .int 0, .int 0, .int 0, .int 0, .int 0])), (q787, .inr (10, [.ref (u788 0)])), ((u788 0), .inl (cy 0, 51, .inl (upd (upd (upd (fun _ => 0) 40 3) 41 3) 42 3))), (q789, .inl (cy 1, 400, .inr (.inl (fun _ => 0)))), (q790, .inl (cy 0, 400, .inl (fun _ => 0))), (q791, .inl (cy 0, 400, .inl (fun _ => 0))), (q792, .inl (cy 0, 400, .inl (fun _ => 0))), (q793, .inl (cy 0, 1024, .inl (fun _ => 0))), (q794, .inl (cy 1, 400, .inr (.inl (fun _ => 0)))), (q795, .inl (cy 0, 216, .inl (fun _ => 0)))]) tyX8 b rfl rfl in_X8 tyX8_ok nmX8 (by decide) wf_X8_38 rfl rfl rfl rfl rfl rfl (Nat.le_of_ble_eq_true rfl) dX8_init_75 rfl ?_
  refine z_aload_n b dX8_init_78 rfl rfl ?_
  refine z_iconst (v := 0) b dX8_init_79 (by decide) ?_
  refine z_put (q0 := 0) (k9 := 10) (ws' := [(h, .inr (9, [.null, .null, .ref q787, .ref q789, .ref q790, .ref q791, .ref q792, .ref q793, .ref q794, .ref q795, .int 0, .int 0, .int 0, .int 0, .int 0, .int 0, .int 0, .int 0, .int 0])), (q787, .inr (10, [.ref (u788 0)])), ((u788 0), .inl (cy 0, 51, .inl (upd (upd (upd (fun _ => 0) 40 3) 41 3) 42 3))), (q789, .inl (cy 1, 400, .inr (.inl (fun _ => 0)))), (q790, .inl (cy 0, 400, .inl (fun _ => 0))), (q791, .inl (cy 0, 400, .inl (fun _ => 0))), (q792, .inl (cy 0, 400, .inl (fun _ => 0))), (q793, .inl (cy 0, 1024, .inl (fun _ => 0))), (q794, .inl (cy 1, 400, .inr (.inl (fun _ => 0)))), (q795, .inl (cy 0, 216, .inl (fun _ => 0)))]) tyX8 b rfl rfl in_X8 tyX8_ok nmX8 (by decide) wf_X8_41 rfl rfl rfl rfl (Nat.le_of_ble_eq_true rfl) dX8_init_80 rfl ?_
  refine z_aload_n b dX8_init_83 rfl rfl ?_
  refine z_iconst (v := 0) b dX8_init_84 (by decide) ?_
  refine z_put (q0 := 0) (k9 := 11) (ws' := [(h, .inr (9, [.null, .null, .ref q787, .ref q789, .ref q790, .ref q791, .ref q792, .ref q793, .ref q794, .ref q795, .int 0, .int 0, .int 0, .int 0, .int 0, .int 0, .int 0, .int 0, .int 0])), (q787, .inr (10, [.ref (u788 0)])), ((u788 0), .inl (cy 0, 51, .inl (upd (upd (upd (fun _ => 0) 40 3) 41 3) 42 3))), (q789, .inl (cy 1, 400, .inr (.inl (fun _ => 0)))), (q790, .inl (cy 0, 400, .inl (fun _ => 0))), (q791, .inl (cy 0, 400, .inl (fun _ => 0))), (q792, .inl (cy 0, 400, .inl (fun _ => 0))), (q793, .inl (cy 0, 1024, .inl (fun _ => 0))), (q794, .inl (cy 1, 400, .inr (.inl (fun _ => 0)))), (q795, .inl (cy 0, 216, .inl (fun _ => 0)))]) tyX8 b rfl rfl in_X8 tyX8_ok nmX8 (by decide) wf_X8_45 rfl rfl rfl rfl (Nat.le_of_ble_eq_true rfl) dX8_init_85 rfl ?_
  refine z_aload_n b dX8_init_88 rfl rfl ?_
  refine z_iconst (v := 0) b dX8_init_89 (by decide) ?_
  refine z_put (q0 := 0) (k9 := 12) (ws' := [(h, .inr (9, [.null, .null, .ref q787, .ref q789, .ref q790, .ref q791, .ref q792, .ref q793, .ref q794, .ref q795, .int 0, .int 0, .int 0, .int 0, .int 0, .int 0, .int 0, .int 0, .int 0])), (q787, .inr (10, [.ref (u788 0)])), ((u788 0), .inl (cy 0, 51, .inl (upd (upd (upd (fun _ => 0) 40 3) 41 3) 42 3))), (q789, .inl (cy 1, 400, .inr (.inl (fun _ => 0)))), (q790, .inl (cy 0, 400, .inl (fun _ => 0))), (q791, .inl (cy 0, 400, .inl (fun _ => 0))), (q792, .inl (cy 0, 400, .inl (fun _ => 0))), (q793, .inl (cy 0, 1024, .inl (fun _ => 0))), (q794, .inl (cy 1, 400, .inr (.inl (fun _ => 0)))), (q795, .inl (cy 0, 216, .inl (fun _ => 0)))]) tyX8 b rfl rfl in_X8 tyX8_ok nmX8 (by decide) wf_X8_48 rfl rfl rfl rfl (Nat.le_of_ble_eq_true rfl) dX8_init_90 rfl ?_
  refine z_aload_n b dX8_init_93 rfl rfl ?_
  refine z_iconst (v := 0) b dX8_init_94 (by decide) ?_
  refine z_put (q0 := 0) (k9 := 13) (ws' := [(h, .inr (9, [.null, .null, .ref q787, .ref q789, .ref q790, .ref q791, .ref q792, .ref q793, .ref q794, .ref q795, .int 0, .int 0, .int 0, .int 0, .int 0, .int 0, .int 0, .int 0, .int 0])), (q787, .inr (10, [.ref (u788 0)])), ((u788 0), .inl (cy 0, 51, .inl (upd (upd (upd (fun _ => 0) 40 3) 41 3) 42 3))), (q789, .inl (cy 1, 400, .inr (.inl (fun _ => 0)))), (q790, .inl (cy 0, 400, .inl (fun _ => 0))), (q791, .inl (cy 0, 400, .inl (fun _ => 0))), (q792, .inl (cy 0, 400, .inl (fun _ => 0))), (q793, .inl (cy 0, 1024, .inl (fun _ => 0))), (q794, .inl (cy 1, 400, .inr (.inl (fun _ => 0)))), (q795, .inl (cy 0, 216, .inl (fun _ => 0)))]) tyX8 b rfl rfl in_X8 tyX8_ok nmX8 (by decide) wf_X8_51 rfl rfl rfl rfl (Nat.le_of_ble_eq_true rfl) dX8_init_95 rfl ?_
  refine z_aload_n b dX8_init_98 rfl rfl ?_
  refine z_iconst (v := 0) b dX8_init_99 (by decide) ?_
  refine z_put (q0 := 0) (k9 := 14) (ws' := [(h, .inr (9, [.null, .null, .ref q787, .ref q789, .ref q790, .ref q791, .ref q792, .ref q793, .ref q794, .ref q795, .int 0, .int 0, .int 0, .int 0, .int 0, .int 0, .int 0, .int 0, .int 0])), (q787, .inr (10, [.ref (u788 0)])), ((u788 0), .inl (cy 0, 51, .inl (upd (upd (upd (fun _ => 0) 40 3) 41 3) 42 3))), (q789, .inl (cy 1, 400, .inr (.inl (fun _ => 0)))), (q790, .inl (cy 0, 400, .inl (fun _ => 0))), (q791, .inl (cy 0, 400, .inl (fun _ => 0))), (q792, .inl (cy 0, 400, .inl (fun _ => 0))), (q793, .inl (cy 0, 1024, .inl (fun _ => 0))), (q794, .inl (cy 1, 400, .inr (.inl (fun _ => 0)))), (q795, .inl (cy 0, 216, .inl (fun _ => 0)))]) tyX8 b rfl rfl in_X8 tyX8_ok nmX8 (by decide) wf_X8_54 rfl rfl rfl rfl (Nat.le_of_ble_eq_true rfl) dX8_init_100 rfl ?_
  refine z_aload_n b dX8_init_103 rfl rfl ?_
  refine z_iconst (v := 0) b dX8_init_104 (by decide) ?_
  refine z_put (q0 := 0) (k9 := 15) (ws' := [(h, .inr (9, [.null, .null, .ref q787, .ref q789, .ref q790, .ref q791, .ref q792, .ref q793, .ref q794, .ref q795, .int 0, .int 0, .int 0, .int 0, .int 0, .int 0, .int 0, .int 0, .int 0])), (q787, .inr (10, [.ref (u788 0)])), ((u788 0), .inl (cy 0, 51, .inl (upd (upd (upd (fun _ => 0) 40 3) 41 3) 42 3))), (q789, .inl (cy 1, 400, .inr (.inl (fun _ => 0)))), (q790, .inl (cy 0, 400, .inl (fun _ => 0))), (q791, .inl (cy 0, 400, .inl (fun _ => 0))), (q792, .inl (cy 0, 400, .inl (fun _ => 0))), (q793, .inl (cy 0, 1024, .inl (fun _ => 0))), (q794, .inl (cy 1, 400, .inr (.inl (fun _ => 0)))), (q795, .inl (cy 0, 216, .inl (fun _ => 0)))]) tyX8 b rfl rfl in_X8 tyX8_ok nmX8 (by decide) wf_X8_57 rfl rfl rfl rfl (Nat.le_of_ble_eq_true rfl) dX8_init_105 rfl ?_
  refine z_aload_n b dX8_init_108 rfl rfl ?_
  refine z_iconst (v := 0) b dX8_init_109 (by decide) ?_
  refine z_put (q0 := 0) (k9 := 16) (ws' := [(h, .inr (9, [.null, .null, .ref q787, .ref q789, .ref q790, .ref q791, .ref q792, .ref q793, .ref q794, .ref q795, .int 0, .int 0, .int 0, .int 0, .int 0, .int 0, .int 0, .int 0, .int 0])), (q787, .inr (10, [.ref (u788 0)])), ((u788 0), .inl (cy 0, 51, .inl (upd (upd (upd (fun _ => 0) 40 3) 41 3) 42 3))), (q789, .inl (cy 1, 400, .inr (.inl (fun _ => 0)))), (q790, .inl (cy 0, 400, .inl (fun _ => 0))), (q791, .inl (cy 0, 400, .inl (fun _ => 0))), (q792, .inl (cy 0, 400, .inl (fun _ => 0))), (q793, .inl (cy 0, 1024, .inl (fun _ => 0))), (q794, .inl (cy 1, 400, .inr (.inl (fun _ => 0)))), (q795, .inl (cy 0, 216, .inl (fun _ => 0)))]) tyX8 b rfl rfl in_X8 tyX8_ok nmX8 (by decide) wf_X8_60 rfl rfl rfl rfl (Nat.le_of_ble_eq_true rfl) dX8_init_110 rfl ?_
  refine z_aload_n b dX8_init_113 rfl rfl ?_
  refine z_iconst (v := 0) b dX8_init_114 (by decide) ?_
  refine z_put (q0 := 0) (k9 := 17) (ws' := [(h, .inr (9, [.null, .null, .ref q787, .ref q789, .ref q790, .ref q791, .ref q792, .ref q793, .ref q794, .ref q795, .int 0, .int 0, .int 0, .int 0, .int 0, .int 0, .int 0, .int 0, .int 0])), (q787, .inr (10, [.ref (u788 0)])), ((u788 0), .inl (cy 0, 51, .inl (upd (upd (upd (fun _ => 0) 40 3) 41 3) 42 3))), (q789, .inl (cy 1, 400, .inr (.inl (fun _ => 0)))), (q790, .inl (cy 0, 400, .inl (fun _ => 0))), (q791, .inl (cy 0, 400, .inl (fun _ => 0))), (q792, .inl (cy 0, 400, .inl (fun _ => 0))), (q793, .inl (cy 0, 1024, .inl (fun _ => 0))), (q794, .inl (cy 1, 400, .inr (.inl (fun _ => 0)))), (q795, .inl (cy 0, 216, .inl (fun _ => 0)))]) tyX8 b rfl rfl in_X8 tyX8_ok nmX8 (by decide) wf_X8_64 rfl rfl rfl rfl (Nat.le_of_ble_eq_true rfl) dX8_init_115 rfl ?_
  refine z_aload_n b dX8_init_118 rfl rfl ?_
  refine z_iconst (v := 0) b dX8_init_119 (by decide) ?_
  refine z_put (q0 := 0) (k9 := 18) (ws' := [(h, .inr (9, [.null, .null, .ref q787, .ref q789, .ref q790, .ref q791, .ref q792, .ref q793, .ref q794, .ref q795, .int 0, .int 0, .int 0, .int 0, .int 0, .int 0, .int 0, .int 0, .int 0])), (q787, .inr (10, [.ref (u788 0)])), ((u788 0), .inl (cy 0, 51, .inl (upd (upd (upd (fun _ => 0) 40 3) 41 3) 42 3))), (q789, .inl (cy 1, 400, .inr (.inl (fun _ => 0)))), (q790, .inl (cy 0, 400, .inl (fun _ => 0))), (q791, .inl (cy 0, 400, .inl (fun _ => 0))), (q792, .inl (cy 0, 400, .inl (fun _ => 0))), (q793, .inl (cy 0, 1024, .inl (fun _ => 0))), (q794, .inl (cy 1, 400, .inr (.inl (fun _ => 0)))), (q795, .inl (cy 0, 216, .inl (fun _ => 0)))]) tyX8 b rfl rfl in_X8 tyX8_ok nmX8 (by decide) wf_X8_67 rfl rfl rfl rfl (Nat.le_of_ble_eq_true rfl) dX8_init_120 rfl ?_
  refine z_aload_n b dX8_init_123 rfl rfl ?_
  refine z_aload_n b dX8_init_124 rfl rfl ?_
  refine z_putF (q0 := 0) (k9 := 0) (ws' := [(h, .inr (9, [.ref g0, .null, .ref q787, .ref q789, .ref q790, .ref q791, .ref q792, .ref q793, .ref q794, .ref q795, .int 0, .int 0, .int 0, .int 0, .int 0, .int 0, .int 0, .int 0, .int 0])), (q787, .inr (10, [.ref (u788 0)])), ((u788 0), .inl (cy 0, 51, .inl (upd (upd (upd (fun _ => 0) 40 3) 41 3) 42 3))), (q789, .inl (cy 1, 400, .inr (.inl (fun _ => 0)))), (q790, .inl (cy 0, 400, .inl (fun _ => 0))), (q791, .inl (cy 0, 400, .inl (fun _ => 0))), (q792, .inl (cy 0, 400, .inl (fun _ => 0))), (q793, .inl (cy 0, 1024, .inl (fun _ => 0))), (q794, .inl (cy 1, 400, .inr (.inl (fun _ => 0)))), (q795, .inl (cy 0, 216, .inl (fun _ => 0)))]) tyX8 b rfl rfl in_X8 tyX8_ok nmX8 (by decide) wf_X8_70 rfl rfl rfl rfl rfl rfl (Nat.le_of_ble_eq_true rfl) dX8_init_125 rfl ?_
  refine z_aload_n b dX8_init_128 rfl rfl ?_
  refine z_aload_n b dX8_init_129 rfl rfl ?_
  refine z_putF (q0 := 0) (k9 := 1) (ws' := [(h, .inr (9, [.ref g0, .ref g1, .ref q787, .ref q789, .ref q790, .ref q791, .ref q792, .ref q793, .ref q794, .ref q795, .int 0, .int 0, .int 0, .int 0, .int 0, .int 0, .int 0, .int 0, .int 0])), (q787, .inr (10, [.ref (u788 0)])), ((u788 0), .inl (cy 0, 51, .inl (upd (upd (upd (fun _ => 0) 40 3) 41 3) 42 3))), (q789, .inl (cy 1, 400, .inr (.inl (fun _ => 0)))), (q790, .inl (cy 0, 400, .inl (fun _ => 0))), (q791, .inl (cy 0, 400, .inl (fun _ => 0))), (q792, .inl (cy 0, 400, .inl (fun _ => 0))), (q793, .inl (cy 0, 1024, .inl (fun _ => 0))), (q794, .inl (cy 1, 400, .inr (.inl (fun _ => 0)))), (q795, .inl (cy 0, 216, .inl (fun _ => 0)))]) tyX8 b rfl rfl in_X8 tyX8_ok nmX8 (by decide) wf_X8_74 rfl rfl rfl rfl rfl rfl (Nat.le_of_ble_eq_true rfl) dX8_init_130 rfl ?_
  exact z_vret (u := (fun k => ([q787, (u788 0), q789, q790, q791, q792, q793, q794, q795] : List Nat).getD k 0)) b rfl dX8_init_133 trivial rfl (by decide) (by decide)

