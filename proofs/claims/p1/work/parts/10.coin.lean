theorem wm_X11_69 : Cond.methodLink RX11 69 yX11_isPerson ∈ gT := gT_of 477 (by decide +kernel) (by decide +kernel)
theorem cf_X11_isPerson : Cf yX11_isPerson cX11_isPerson 1 (some .boolean) 1 := ⟨gT_of 479 (by decide +kernel) (by decide +kernel), gT_of 84 (by decide +kernel) (by decide +kernel), by decide +kernel, by decide +kernel, by decide +kernel⟩
theorem ws_X11_isPerson : Cond.static yX11_isPerson ∈ gT := gT_of 478 (by decide +kernel) (by decide +kernel)
theorem wm_X12_170 : Cond.methodLink RX12 170 yX12_isOne ∈ gT := gT_of 1405 (by decide +kernel) (by decide +kernel)
theorem wm_X12_1 : Cond.methodLink RX12 1 yX12_isIn ∈ gT := gT_of 1408 (by decide +kernel) (by decide +kernel)
theorem cf_X12_isIn : Cf yX12_isIn cX12_isIn 3 (some .boolean) 3 := ⟨gT_of 1410 (by decide +kernel) (by decide +kernel), gT_of 101 (by decide +kernel) (by decide +kernel), by decide +kernel, by decide +kernel, by decide +kernel⟩
theorem ws_X12_isIn : Cond.static yX12_isIn ∈ gT := gT_of 1409 (by decide +kernel) (by decide +kernel)
theorem cf_X12_isOne : Cf yX12_isOne cX12_isOne 1 (some .boolean) 1 := ⟨gT_of 1407 (by decide +kernel) (by decide +kernel), gT_of 101 (by decide +kernel) (by decide +kernel), by decide +kernel, by decide +kernel, by decide +kernel⟩
theorem ws_X12_isOne : Cond.static yX12_isOne ∈ gT := gT_of 1406 (by decide +kernel) (by decide +kernel)
theorem wm_X11_73 : Cond.methodLink RX11 73 yX11_isWithin ∈ gT := gT_of 480 (by decide +kernel) (by decide +kernel)
theorem cf_X11_isWithin : Cf yX11_isWithin cX11_isWithin 2 (some .boolean) 2 := ⟨gT_of 482 (by decide +kernel) (by decide +kernel), gT_of 84 (by decide +kernel) (by decide +kernel), by decide +kernel, by decide +kernel, by decide +kernel⟩
theorem ws_X11_isWithin : Cond.static yX11_isWithin ∈ gT := gT_of 481 (by decide +kernel) (by decide +kernel)
theorem wf_X11_34 : Cond.fieldLink RX11 34 "LawHoles" "beginning" "LLawHoles$State;" ∈ gT := gT_of 449 (by decide +kernel) (by decide +kernel)
theorem wm_X11_77 : Cond.methodLink RX11 77 yX9_set ∈ gT := gT_of 483 (by decide +kernel) (by decide +kernel)
theorem wf_X9_11 : Cond.fieldLink RX9 11 "LawHoles$State" "at" "[I" ∈ gT := gT_of 298 (by decide +kernel) (by decide +kernel)
theorem cf_X9_set : Cf yX9_set cX9_set 3 none 2 := ⟨gT_of 486 (by decide +kernel) (by decide +kernel), gT_of 95 (by decide +kernel) (by decide +kernel), by decide +kernel, by decide +kernel, by decide +kernel⟩
theorem wi_X9_set : Cond.instanceMethod yX9_set ∈ gT := gT_of 484 (by decide +kernel) (by decide +kernel)
theorem ws_X9_set : Cond.selects yX9_set.cls yX9_set yX9_set ∈ gT := gT_of 485 (by decide +kernel) (by decide +kernel)
theorem wf_X11_52 : Cond.fieldLink RX11 52 "LawHoles" "search" "LLawHoles$Search;" ∈ gT := gT_of 451 (by decide +kernel) (by decide +kernel)
theorem wm_X11_81 : Cond.methodLink RX11 81 yX8_forget ∈ gT := gT_of 487 (by decide +kernel) (by decide +kernel)
theorem wf_X8_60 : Cond.fieldLink RX8 60 "LawHoles$Search" "isKnown" "Z" ∈ gT := gT_of 378 (by decide +kernel) (by decide +kernel)
theorem cf_X8_forget : Cf yX8_forget cX8_forget 1 none 0 := ⟨gT_of 490 (by decide +kernel) (by decide +kernel), gT_of 98 (by decide +kernel) (by decide +kernel), by decide +kernel, by decide +kernel, by decide +kernel⟩
theorem wi_X8_forget : Cond.instanceMethod yX8_forget ∈ gT := gT_of 488 (by decide +kernel) (by decide +kernel)
theorem ws_X8_forget : Cond.selects yX8_forget.cls yX8_forget yX8_forget ∈ gT := gT_of 489 (by decide +kernel) (by decide +kernel)
theorem wf_X12_153 : Cond.fieldLink RX12 153 "LawHolesModel" "beginning" "J" ∈ gT := gT_of 1189 (by decide +kernel) (by decide +kernel)
theorem wm_X12_174 : Cond.methodLink RX12 174 yX12_takes ∈ gT := gT_of 1411 (by decide +kernel) (by decide +kernel)
theorem wf_X12_27 : Cond.fieldLink RX12 27 "LawHolesModel" "child" "[Z" ∈ gT := gT_of 1187 (by decide +kernel) (by decide +kernel)
theorem wm_X12_160 : Cond.methodLink RX12 160 yX12_other ∈ gT := gT_of 1180 (by decide +kernel) (by decide +kernel)
theorem cf_X12_other : Cf yX12_other cX12_other 2 (some .int) 2 := ⟨gT_of 1182 (by decide +kernel) (by decide +kernel), gT_of 101 (by decide +kernel) (by decide +kernel), by decide +kernel, by decide +kernel, by decide +kernel⟩
theorem ws_X12_other : Cond.static yX12_other ∈ gT := gT_of 1181 (by decide +kernel) (by decide +kernel)
theorem wf_X12_17 : Cond.fieldLink RX12 17 "LawHolesModel" "debt" "[I" ∈ gT := gT_of 1184 (by decide +kernel) (by decide +kernel)
theorem wl_X12_164 : Cond.constantLong RX12 164 7 ∈ gT := gT_of 1415 (by decide +kernel) (by decide +kernel)
theorem wf_X12_23 : Cond.fieldLink RX12 23 "LawHolesModel" "wed" "[Z" ∈ gT := gT_of 1186 (by decide +kernel) (by decide +kernel)
theorem wf_X12_20 : Cond.fieldLink RX12 20 "LawHolesModel" "owner" "[I" ∈ gT := gT_of 1185 (by decide +kernel) (by decide +kernel)
theorem wl_X12_166 : Cond.constantLong RX12 166 3 ∈ gT := gT_of 1416 (by decide +kernel) (by decide +kernel)
theorem wf_X12_13 : Cond.fieldLink RX12 13 "LawHolesModel" "coin" "[I" ∈ gT := gT_of 1183 (by decide +kernel) (by decide +kernel)
theorem wl_X12_168 : Cond.constantLong RX12 168 15 ∈ gT := gT_of 1417 (by decide +kernel) (by decide +kernel)
theorem wf_X12_157 : Cond.fieldLink RX12 157 "LawHolesModel" "day" "I" ∈ gT := gT_of 1188 (by decide +kernel) (by decide +kernel)
theorem cf_X12_takes : Cf yX12_takes cX12_takes 7 none 1 := ⟨gT_of 1414 (by decide +kernel) (by decide +kernel), gT_of 101 (by decide +kernel) (by decide +kernel), by decide +kernel, by decide +kernel, by decide +kernel⟩
theorem wi_X12_takes : Cond.instanceMethod yX12_takes ∈ gT := gT_of 1413 (by decide +kernel) (by decide +kernel)
theorem ws_X12_takes : Cond.selects yX12_takes.cls yX12_takes yX12_takes ∈ gT := gT_of 33 (by decide +kernel) (by decide +kernel)
theorem wm_X12_178 : Cond.methodLink RX12 178 yX12_told ∈ gT := gT_of 1418 (by decide +kernel) (by decide +kernel)
theorem wm_X12_149 : Cond.methodLink RX12 149 yX12_packs ∈ gT := gT_of 1176 (by decide +kernel) (by decide +kernel)
theorem cf_X12_packs : Cf yX12_packs cX12_packs 5 (some .long) 0 := ⟨gT_of 1179 (by decide +kernel) (by decide +kernel), gT_of 101 (by decide +kernel) (by decide +kernel), by decide +kernel, by decide +kernel, by decide +kernel⟩
theorem wi_X12_packs : Cond.instanceMethod yX12_packs ∈ gT := gT_of 1178 (by decide +kernel) (by decide +kernel)
theorem ws_X12_packs : Cond.selects yX12_packs.cls yX12_packs yX12_packs ∈ gT := gT_of 32 (by decide +kernel) (by decide +kernel)
theorem cf_X12_told : Cf yX12_told cX12_told 1 (some .boolean) 0 := ⟨gT_of 1421 (by decide +kernel) (by decide +kernel), gT_of 101 (by decide +kernel) (by decide +kernel), by decide +kernel, by decide +kernel, by decide +kernel⟩
theorem wi_X12_told : Cond.instanceMethod yX12_told ∈ gT := gT_of 1420 (by decide +kernel) (by decide +kernel)
theorem ws_X12_told : Cond.selects yX12_told.cls yX12_told yX12_told ∈ gT := gT_of 34 (by decide +kernel) (by decide +kernel)
theorem wm_X11_87 : Cond.methodLink RX11 87 yX11_isThing ∈ gT := gT_of 506 (by decide +kernel) (by decide +kernel)
theorem cf_X11_isThing : Cf yX11_isThing cX11_isThing 1 (some .boolean) 1 := ⟨gT_of 508 (by decide +kernel) (by decide +kernel), gT_of 84 (by decide +kernel) (by decide +kernel), by decide +kernel, by decide +kernel, by decide +kernel⟩
theorem ws_X11_isThing : Cond.static yX11_isThing ∈ gT := gT_of 507 (by decide +kernel) (by decide +kernel)
theorem dX11_coin_0 : decode cX11_coin 0 = .ok (.iload_n 1, 1) := by decide +kernel
theorem dX11_coin_1 : decode cX11_coin 1 = .ok (.invokestatic 69, 3) := by decide +kernel
theorem dX11_coin_4 : decode cX11_coin 4 = .ok (.ifCond .eq 12, 3) := by decide +kernel
theorem dX11_coin_7 : decode cX11_coin 7 = .ok (.iload_n 2, 1) := by decide +kernel
theorem dX11_coin_8 : decode cX11_coin 8 = .ok (.bipush 15, 2) := by decide +kernel
theorem dX11_coin_10 : decode cX11_coin 10 = .ok (.invokestatic 73, 3) := by decide +kernel
theorem dX11_coin_13 : decode cX11_coin 13 = .ok (.ifCond .ne 5, 3) := by decide +kernel
theorem dX11_coin_16 : decode cX11_coin 16 = .ok (.iconst 0, 1) := by decide +kernel
theorem dX11_coin_17 : decode cX11_coin 17 = .ok (.ireturn, 1) := by decide +kernel
theorem dX11_coin_18 : decode cX11_coin 18 = .ok (.aload_n 0, 1) := by decide +kernel
theorem dX11_coin_19 : decode cX11_coin 19 = .ok (.getfield 34, 3) := by decide +kernel
theorem dX11_coin_22 : decode cX11_coin 22 = .ok (.iload_n 1, 1) := by decide +kernel
theorem dX11_coin_23 : decode cX11_coin 23 = .ok (.iload_n 2, 1) := by decide +kernel
theorem dX11_coin_24 : decode cX11_coin 24 = .ok (.invokevirtual 77, 3) := by decide +kernel
theorem dX11_coin_27 : decode cX11_coin 27 = .ok (.aload_n 0, 1) := by decide +kernel
theorem dX11_coin_28 : decode cX11_coin 28 = .ok (.getfield 52, 3) := by decide +kernel
theorem dX11_coin_31 : decode cX11_coin 31 = .ok (.invokevirtual 81, 3) := by decide +kernel
theorem dX11_coin_34 : decode cX11_coin 34 = .ok (.iconst 1, 1) := by decide +kernel
theorem dX11_coin_35 : decode cX11_coin 35 = .ok (.ireturn, 1) := by decide +kernel
theorem dX11_day_0 : decode cX11_day 0 = .ok (.iload_n 1, 1) := by decide +kernel
theorem dX11_day_1 : decode cX11_day 1 = .ok (.bipush 15, 2) := by decide +kernel
theorem dX11_day_3 : decode cX11_day 3 = .ok (.invokestatic 73, 3) := by decide +kernel
theorem dX11_day_6 : decode cX11_day 6 = .ok (.ifCond .ne 5, 3) := by decide +kernel
theorem dX11_day_9 : decode cX11_day 9 = .ok (.iconst 0, 1) := by decide +kernel
theorem dX11_day_10 : decode cX11_day 10 = .ok (.ireturn, 1) := by decide +kernel
theorem dX11_day_11 : decode cX11_day 11 = .ok (.aload_n 0, 1) := by decide +kernel
theorem dX11_day_12 : decode cX11_day 12 = .ok (.getfield 34, 3) := by decide +kernel
theorem dX11_day_15 : decode cX11_day 15 = .ok (.bipush 50, 2) := by decide +kernel
theorem dX11_day_17 : decode cX11_day 17 = .ok (.iload_n 1, 1) := by decide +kernel
theorem dX11_day_18 : decode cX11_day 18 = .ok (.invokevirtual 77, 3) := by decide +kernel
theorem dX11_day_21 : decode cX11_day 21 = .ok (.aload_n 0, 1) := by decide +kernel
theorem dX11_day_22 : decode cX11_day 22 = .ok (.getfield 52, 3) := by decide +kernel
theorem dX11_day_25 : decode cX11_day 25 = .ok (.invokevirtual 81, 3) := by decide +kernel
theorem dX11_day_28 : decode cX11_day 28 = .ok (.iconst 1, 1) := by decide +kernel
theorem dX11_day_29 : decode cX11_day 29 = .ok (.ireturn, 1) := by decide +kernel
theorem dX11_isPerson_0 : decode cX11_isPerson 0 = .ok (.iload_n 0, 1) := by decide +kernel
theorem dX11_isPerson_1 : decode cX11_isPerson 1 = .ok (.ifCond .lt 12, 3) := by decide +kernel
theorem dX11_isPerson_4 : decode cX11_isPerson 4 = .ok (.iload_n 0, 1) := by decide +kernel
theorem dX11_isPerson_5 : decode cX11_isPerson 5 = .ok (.iconst 3, 1) := by decide +kernel
theorem dX11_isPerson_6 : decode cX11_isPerson 6 = .ok (.if_icmp .ge 7, 3) := by decide +kernel
theorem dX11_isPerson_9 : decode cX11_isPerson 9 = .ok (.iconst 1, 1) := by decide +kernel
theorem dX11_isPerson_10 : decode cX11_isPerson 10 = .ok (.goto 4, 3) := by decide +kernel
theorem dX11_isPerson_13 : decode cX11_isPerson 13 = .ok (.iconst 0, 1) := by decide +kernel
theorem dX11_isPerson_14 : decode cX11_isPerson 14 = .ok (.ireturn, 1) := by decide +kernel
theorem dX11_isThing_0 : decode cX11_isThing 0 = .ok (.iload_n 0, 1) := by decide +kernel
theorem dX11_isThing_1 : decode cX11_isThing 1 = .ok (.ifCond .lt 12, 3) := by decide +kernel
theorem dX11_isThing_4 : decode cX11_isThing 4 = .ok (.iload_n 0, 1) := by decide +kernel
theorem dX11_isThing_5 : decode cX11_isThing 5 = .ok (.iconst 3, 1) := by decide +kernel
theorem dX11_isThing_6 : decode cX11_isThing 6 = .ok (.if_icmp .ge 7, 3) := by decide +kernel
theorem dX11_isThing_9 : decode cX11_isThing 9 = .ok (.iconst 1, 1) := by decide +kernel
theorem dX11_isThing_10 : decode cX11_isThing 10 = .ok (.goto 4, 3) := by decide +kernel
theorem dX11_isThing_13 : decode cX11_isThing 13 = .ok (.iconst 0, 1) := by decide +kernel
theorem dX11_isThing_14 : decode cX11_isThing 14 = .ok (.ireturn, 1) := by decide +kernel
theorem dX11_isWithin_0 : decode cX11_isWithin 0 = .ok (.iload_n 0, 1) := by decide +kernel
theorem dX11_isWithin_1 : decode cX11_isWithin 1 = .ok (.ifCond .lt 12, 3) := by decide +kernel
theorem dX11_isWithin_4 : decode cX11_isWithin 4 = .ok (.iload_n 0, 1) := by decide +kernel
theorem dX11_isWithin_5 : decode cX11_isWithin 5 = .ok (.iload_n 1, 1) := by decide +kernel
theorem dX11_isWithin_6 : decode cX11_isWithin 6 = .ok (.if_icmp .gt 7, 3) := by decide +kernel
theorem dX11_isWithin_9 : decode cX11_isWithin 9 = .ok (.iconst 1, 1) := by decide +kernel
theorem dX11_isWithin_10 : decode cX11_isWithin 10 = .ok (.goto 4, 3) := by decide +kernel
theorem dX11_isWithin_13 : decode cX11_isWithin 13 = .ok (.iconst 0, 1) := by decide +kernel
theorem dX11_isWithin_14 : decode cX11_isWithin 14 = .ok (.ireturn, 1) := by decide +kernel
theorem dX11_owner_0 : decode cX11_owner 0 = .ok (.iload_n 1, 1) := by decide +kernel
theorem dX11_owner_1 : decode cX11_owner 1 = .ok (.invokestatic 87, 3) := by decide +kernel
theorem dX11_owner_4 : decode cX11_owner 4 = .ok (.ifCond .eq 11, 3) := by decide +kernel
theorem dX11_owner_7 : decode cX11_owner 7 = .ok (.iload_n 2, 1) := by decide +kernel
theorem dX11_owner_8 : decode cX11_owner 8 = .ok (.iconst 3, 1) := by decide +kernel
theorem dX11_owner_9 : decode cX11_owner 9 = .ok (.invokestatic 73, 3) := by decide +kernel
theorem dX11_owner_12 : decode cX11_owner 12 = .ok (.ifCond .ne 5, 3) := by decide +kernel
theorem dX11_owner_15 : decode cX11_owner 15 = .ok (.iconst 0, 1) := by decide +kernel
theorem dX11_owner_16 : decode cX11_owner 16 = .ok (.ireturn, 1) := by decide +kernel
theorem dX11_owner_17 : decode cX11_owner 17 = .ok (.aload_n 0, 1) := by decide +kernel
theorem dX11_owner_18 : decode cX11_owner 18 = .ok (.getfield 34, 3) := by decide +kernel
theorem dX11_owner_21 : decode cX11_owner 21 = .ok (.bipush 40, 2) := by decide +kernel
theorem dX11_owner_23 : decode cX11_owner 23 = .ok (.iload_n 1, 1) := by decide +kernel
theorem dX11_owner_24 : decode cX11_owner 24 = .ok (.iadd, 1) := by decide +kernel
theorem dX11_owner_25 : decode cX11_owner 25 = .ok (.iload_n 2, 1) := by decide +kernel
theorem dX11_owner_26 : decode cX11_owner 26 = .ok (.invokevirtual 77, 3) := by decide +kernel
theorem dX11_owner_29 : decode cX11_owner 29 = .ok (.aload_n 0, 1) := by decide +kernel
theorem dX11_owner_30 : decode cX11_owner 30 = .ok (.getfield 52, 3) := by decide +kernel
theorem dX11_owner_33 : decode cX11_owner 33 = .ok (.invokevirtual 81, 3) := by decide +kernel
theorem dX11_owner_36 : decode cX11_owner 36 = .ok (.iconst 1, 1) := by decide +kernel
theorem dX11_owner_37 : decode cX11_owner 37 = .ok (.ireturn, 1) := by decide +kernel
theorem dX12_coin_0 : decode cX12_coin 0 = .ok (.iload_n 1, 1) := by decide +kernel
theorem dX12_coin_1 : decode cX12_coin 1 = .ok (.invokestatic 170, 3) := by decide +kernel
theorem dX12_coin_4 : decode cX12_coin 4 = .ok (.ifCond .eq 13, 3) := by decide +kernel
theorem dX12_coin_7 : decode cX12_coin 7 = .ok (.iload_n 2, 1) := by decide +kernel
theorem dX12_coin_8 : decode cX12_coin 8 = .ok (.iconst 0, 1) := by decide +kernel
theorem dX12_coin_9 : decode cX12_coin 9 = .ok (.bipush 15, 2) := by decide +kernel
theorem dX12_coin_11 : decode cX12_coin 11 = .ok (.invokestatic 1, 3) := by decide +kernel
theorem dX12_coin_14 : decode cX12_coin 14 = .ok (.ifCond .ne 5, 3) := by decide +kernel
theorem dX12_coin_17 : decode cX12_coin 17 = .ok (.iconst 0, 1) := by decide +kernel
theorem dX12_coin_18 : decode cX12_coin 18 = .ok (.ireturn, 1) := by decide +kernel
theorem dX12_coin_19 : decode cX12_coin 19 = .ok (.aload_n 0, 1) := by decide +kernel
theorem dX12_coin_20 : decode cX12_coin 20 = .ok (.aload_n 0, 1) := by decide +kernel
theorem dX12_coin_21 : decode cX12_coin 21 = .ok (.getfield 153, 3) := by decide +kernel
theorem dX12_coin_24 : decode cX12_coin 24 = .ok (.invokevirtual 174, 3) := by decide +kernel
theorem dX12_coin_27 : decode cX12_coin 27 = .ok (.aload_n 0, 1) := by decide +kernel
theorem dX12_coin_28 : decode cX12_coin 28 = .ok (.getfield 13, 3) := by decide +kernel
theorem dX12_coin_31 : decode cX12_coin 31 = .ok (.iload_n 1, 1) := by decide +kernel
theorem dX12_coin_32 : decode cX12_coin 32 = .ok (.iload_n 2, 1) := by decide +kernel
theorem dX12_coin_33 : decode cX12_coin 33 = .ok (.iastore, 1) := by decide +kernel
theorem dX12_coin_34 : decode cX12_coin 34 = .ok (.aload_n 0, 1) := by decide +kernel
theorem dX12_coin_35 : decode cX12_coin 35 = .ok (.invokevirtual 178, 3) := by decide +kernel
theorem dX12_coin_38 : decode cX12_coin 38 = .ok (.ireturn, 1) := by decide +kernel
theorem dX12_day_0 : decode cX12_day 0 = .ok (.iload_n 1, 1) := by decide +kernel
theorem dX12_day_1 : decode cX12_day 1 = .ok (.iconst 0, 1) := by decide +kernel
theorem dX12_day_2 : decode cX12_day 2 = .ok (.bipush 15, 2) := by decide +kernel
theorem dX12_day_4 : decode cX12_day 4 = .ok (.invokestatic 1, 3) := by decide +kernel
theorem dX12_day_7 : decode cX12_day 7 = .ok (.ifCond .ne 5, 3) := by decide +kernel
theorem dX12_day_10 : decode cX12_day 10 = .ok (.iconst 0, 1) := by decide +kernel
theorem dX12_day_11 : decode cX12_day 11 = .ok (.ireturn, 1) := by decide +kernel
theorem dX12_day_12 : decode cX12_day 12 = .ok (.aload_n 0, 1) := by decide +kernel
theorem dX12_day_13 : decode cX12_day 13 = .ok (.aload_n 0, 1) := by decide +kernel
theorem dX12_day_14 : decode cX12_day 14 = .ok (.getfield 153, 3) := by decide +kernel
theorem dX12_day_17 : decode cX12_day 17 = .ok (.invokevirtual 174, 3) := by decide +kernel
theorem dX12_day_20 : decode cX12_day 20 = .ok (.aload_n 0, 1) := by decide +kernel
theorem dX12_day_21 : decode cX12_day 21 = .ok (.iload_n 1, 1) := by decide +kernel
theorem dX12_day_22 : decode cX12_day 22 = .ok (.putfield 157, 3) := by decide +kernel
theorem dX12_day_25 : decode cX12_day 25 = .ok (.aload_n 0, 1) := by decide +kernel
theorem dX12_day_26 : decode cX12_day 26 = .ok (.invokevirtual 178, 3) := by decide +kernel
theorem dX12_day_29 : decode cX12_day 29 = .ok (.ireturn, 1) := by decide +kernel
theorem dX12_isIn_0 : decode cX12_isIn 0 = .ok (.iload_n 0, 1) := by decide +kernel
theorem dX12_isIn_1 : decode cX12_isIn 1 = .ok (.iload_n 1, 1) := by decide +kernel
theorem dX12_isIn_2 : decode cX12_isIn 2 = .ok (.if_icmp .lt 12, 3) := by decide +kernel
theorem dX12_isIn_5 : decode cX12_isIn 5 = .ok (.iload_n 0, 1) := by decide +kernel
theorem dX12_isIn_6 : decode cX12_isIn 6 = .ok (.iload_n 2, 1) := by decide +kernel
theorem dX12_isIn_7 : decode cX12_isIn 7 = .ok (.if_icmp .gt 7, 3) := by decide +kernel
theorem dX12_isIn_10 : decode cX12_isIn 10 = .ok (.iconst 1, 1) := by decide +kernel
theorem dX12_isIn_11 : decode cX12_isIn 11 = .ok (.goto 4, 3) := by decide +kernel
theorem dX12_isIn_14 : decode cX12_isIn 14 = .ok (.iconst 0, 1) := by decide +kernel
theorem dX12_isIn_15 : decode cX12_isIn 15 = .ok (.ireturn, 1) := by decide +kernel
theorem dX12_isOne_0 : decode cX12_isOne 0 = .ok (.iload_n 0, 1) := by decide +kernel
theorem dX12_isOne_1 : decode cX12_isOne 1 = .ok (.iconst 0, 1) := by decide +kernel
theorem dX12_isOne_2 : decode cX12_isOne 2 = .ok (.iconst 2, 1) := by decide +kernel
theorem dX12_isOne_3 : decode cX12_isOne 3 = .ok (.invokestatic 1, 3) := by decide +kernel
theorem dX12_isOne_6 : decode cX12_isOne 6 = .ok (.ireturn, 1) := by decide +kernel
theorem dX12_other_0 : decode cX12_other 0 = .ok (.iload_n 0, 1) := by decide +kernel
theorem dX12_other_1 : decode cX12_other 1 = .ok (.iconst 1, 1) := by decide +kernel
theorem dX12_other_2 : decode cX12_other 2 = .ok (.iadd, 1) := by decide +kernel
theorem dX12_other_3 : decode cX12_other 3 = .ok (.iload_n 1, 1) := by decide +kernel
theorem dX12_other_4 : decode cX12_other 4 = .ok (.iadd, 1) := by decide +kernel
theorem dX12_other_5 : decode cX12_other 5 = .ok (.iconst 3, 1) := by decide +kernel
theorem dX12_other_6 : decode cX12_other 6 = .ok (.irem, 1) := by decide +kernel
theorem dX12_other_7 : decode cX12_other 7 = .ok (.ireturn, 1) := by decide +kernel
theorem dX12_owner_0 : decode cX12_owner 0 = .ok (.iload_n 1, 1) := by decide +kernel
theorem dX12_owner_1 : decode cX12_owner 1 = .ok (.invokestatic 170, 3) := by decide +kernel
theorem dX12_owner_4 : decode cX12_owner 4 = .ok (.ifCond .eq 12, 3) := by decide +kernel
theorem dX12_owner_7 : decode cX12_owner 7 = .ok (.iload_n 2, 1) := by decide +kernel
theorem dX12_owner_8 : decode cX12_owner 8 = .ok (.iconst 0, 1) := by decide +kernel
theorem dX12_owner_9 : decode cX12_owner 9 = .ok (.iconst 3, 1) := by decide +kernel
theorem dX12_owner_10 : decode cX12_owner 10 = .ok (.invokestatic 1, 3) := by decide +kernel
theorem dX12_owner_13 : decode cX12_owner 13 = .ok (.ifCond .ne 5, 3) := by decide +kernel
theorem dX12_owner_16 : decode cX12_owner 16 = .ok (.iconst 0, 1) := by decide +kernel
theorem dX12_owner_17 : decode cX12_owner 17 = .ok (.ireturn, 1) := by decide +kernel
theorem dX12_owner_18 : decode cX12_owner 18 = .ok (.aload_n 0, 1) := by decide +kernel
theorem dX12_owner_19 : decode cX12_owner 19 = .ok (.aload_n 0, 1) := by decide +kernel
theorem dX12_owner_20 : decode cX12_owner 20 = .ok (.getfield 153, 3) := by decide +kernel
theorem dX12_owner_23 : decode cX12_owner 23 = .ok (.invokevirtual 174, 3) := by decide +kernel
theorem dX12_owner_26 : decode cX12_owner 26 = .ok (.aload_n 0, 1) := by decide +kernel
theorem dX12_owner_27 : decode cX12_owner 27 = .ok (.getfield 20, 3) := by decide +kernel
theorem dX12_owner_30 : decode cX12_owner 30 = .ok (.iload_n 1, 1) := by decide +kernel
theorem dX12_owner_31 : decode cX12_owner 31 = .ok (.iload_n 2, 1) := by decide +kernel
theorem dX12_owner_32 : decode cX12_owner 32 = .ok (.iastore, 1) := by decide +kernel
theorem dX12_owner_33 : decode cX12_owner 33 = .ok (.aload_n 0, 1) := by decide +kernel
theorem dX12_owner_34 : decode cX12_owner 34 = .ok (.invokevirtual 178, 3) := by decide +kernel
theorem dX12_owner_37 : decode cX12_owner 37 = .ok (.ireturn, 1) := by decide +kernel
theorem dX12_packs_0 : decode cX12_packs 0 = .ok (.aload_n 0, 1) := by decide +kernel
theorem dX12_packs_1 : decode cX12_packs 1 = .ok (.getfield 157, 3) := by decide +kernel
theorem dX12_packs_4 : decode cX12_packs 4 = .ok (.i2l, 1) := by decide +kernel
theorem dX12_packs_5 : decode cX12_packs 5 = .ok (.lstore_n 1, 1) := by decide +kernel
theorem dX12_packs_6 : decode cX12_packs 6 = .ok (.iconst 0, 1) := by decide +kernel
theorem dX12_packs_7 : decode cX12_packs 7 = .ok (.istore_n 3, 1) := by decide +kernel
theorem dX12_packs_8 : decode cX12_packs 8 = .ok (.iload_n 3, 1) := by decide +kernel
theorem dX12_packs_9 : decode cX12_packs 9 = .ok (.iconst 3, 1) := by decide +kernel
theorem dX12_packs_10 : decode cX12_packs 10 = .ok (.if_icmp .ge 124, 3) := by decide +kernel
theorem dX12_packs_13 : decode cX12_packs 13 = .ok (.lload_n 1, 1) := by decide +kernel
theorem dX12_packs_14 : decode cX12_packs 14 = .ok (.iconst 4, 1) := by decide +kernel
theorem dX12_packs_15 : decode cX12_packs 15 = .ok (.lshl, 1) := by decide +kernel
theorem dX12_packs_16 : decode cX12_packs 16 = .ok (.aload_n 0, 1) := by decide +kernel
theorem dX12_packs_17 : decode cX12_packs 17 = .ok (.getfield 13, 3) := by decide +kernel
theorem dX12_packs_20 : decode cX12_packs 20 = .ok (.iload_n 3, 1) := by decide +kernel
theorem dX12_packs_21 : decode cX12_packs 21 = .ok (.iaload, 1) := by decide +kernel
theorem dX12_packs_22 : decode cX12_packs 22 = .ok (.i2l, 1) := by decide +kernel
theorem dX12_packs_23 : decode cX12_packs 23 = .ok (.lor, 1) := by decide +kernel
theorem dX12_packs_24 : decode cX12_packs 24 = .ok (.lstore_n 1, 1) := by decide +kernel
theorem dX12_packs_25 : decode cX12_packs 25 = .ok (.lload_n 1, 1) := by decide +kernel
theorem dX12_packs_26 : decode cX12_packs 26 = .ok (.iconst 2, 1) := by decide +kernel
theorem dX12_packs_27 : decode cX12_packs 27 = .ok (.lshl, 1) := by decide +kernel
theorem dX12_packs_28 : decode cX12_packs 28 = .ok (.aload_n 0, 1) := by decide +kernel
theorem dX12_packs_29 : decode cX12_packs 29 = .ok (.getfield 20, 3) := by decide +kernel
theorem dX12_packs_32 : decode cX12_packs 32 = .ok (.iload_n 3, 1) := by decide +kernel
theorem dX12_packs_33 : decode cX12_packs 33 = .ok (.iaload, 1) := by decide +kernel
theorem dX12_packs_34 : decode cX12_packs 34 = .ok (.i2l, 1) := by decide +kernel
theorem dX12_packs_35 : decode cX12_packs 35 = .ok (.lor, 1) := by decide +kernel
theorem dX12_packs_36 : decode cX12_packs 36 = .ok (.lstore_n 1, 1) := by decide +kernel
theorem dX12_packs_37 : decode cX12_packs 37 = .ok (.lload_n 1, 1) := by decide +kernel
theorem dX12_packs_38 : decode cX12_packs 38 = .ok (.iconst 1, 1) := by decide +kernel
theorem dX12_packs_39 : decode cX12_packs 39 = .ok (.lshl, 1) := by decide +kernel
theorem dX12_packs_40 : decode cX12_packs 40 = .ok (.aload_n 0, 1) := by decide +kernel
theorem dX12_packs_41 : decode cX12_packs 41 = .ok (.getfield 23, 3) := by decide +kernel
theorem dX12_packs_44 : decode cX12_packs 44 = .ok (.iconst 3, 1) := by decide +kernel
theorem dX12_packs_45 : decode cX12_packs 45 = .ok (.iload_n 3, 1) := by decide +kernel
theorem dX12_packs_46 : decode cX12_packs 46 = .ok (.imul, 1) := by decide +kernel
theorem dX12_packs_47 : decode cX12_packs 47 = .ok (.iload_n 3, 1) := by decide +kernel
theorem dX12_packs_48 : decode cX12_packs 48 = .ok (.iconst 0, 1) := by decide +kernel
theorem dX12_packs_49 : decode cX12_packs 49 = .ok (.invokestatic 160, 3) := by decide +kernel
theorem dX12_packs_52 : decode cX12_packs 52 = .ok (.iadd, 1) := by decide +kernel
theorem dX12_packs_53 : decode cX12_packs 53 = .ok (.baload, 1) := by decide +kernel
theorem dX12_packs_54 : decode cX12_packs 54 = .ok (.ifCond .eq 7, 3) := by decide +kernel
theorem dX12_packs_57 : decode cX12_packs 57 = .ok (.lconst 1, 1) := by decide +kernel
theorem dX12_packs_58 : decode cX12_packs 58 = .ok (.goto 4, 3) := by decide +kernel
theorem dX12_packs_61 : decode cX12_packs 61 = .ok (.lconst 0, 1) := by decide +kernel
theorem dX12_packs_62 : decode cX12_packs 62 = .ok (.lor, 1) := by decide +kernel
theorem dX12_packs_63 : decode cX12_packs 63 = .ok (.lstore_n 1, 1) := by decide +kernel
theorem dX12_packs_64 : decode cX12_packs 64 = .ok (.iconst 0, 1) := by decide +kernel
theorem dX12_packs_65 : decode cX12_packs 65 = .ok (.istore 4, 2) := by decide +kernel
theorem dX12_packs_67 : decode cX12_packs 67 = .ok (.iload 4, 2) := by decide +kernel
theorem dX12_packs_69 : decode cX12_packs 69 = .ok (.iconst 2, 1) := by decide +kernel
theorem dX12_packs_70 : decode cX12_packs 70 = .ok (.if_icmp .ge 58, 3) := by decide +kernel
theorem dX12_packs_73 : decode cX12_packs 73 = .ok (.lload_n 1, 1) := by decide +kernel
theorem dX12_packs_74 : decode cX12_packs 74 = .ok (.iconst 3, 1) := by decide +kernel
theorem dX12_packs_75 : decode cX12_packs 75 = .ok (.lshl, 1) := by decide +kernel
theorem dX12_packs_76 : decode cX12_packs 76 = .ok (.aload_n 0, 1) := by decide +kernel
theorem dX12_packs_77 : decode cX12_packs 77 = .ok (.getfield 17, 3) := by decide +kernel
theorem dX12_packs_80 : decode cX12_packs 80 = .ok (.iconst 3, 1) := by decide +kernel
theorem dX12_packs_81 : decode cX12_packs 81 = .ok (.iload_n 3, 1) := by decide +kernel
theorem dX12_packs_82 : decode cX12_packs 82 = .ok (.imul, 1) := by decide +kernel
theorem dX12_packs_83 : decode cX12_packs 83 = .ok (.iload_n 3, 1) := by decide +kernel
theorem dX12_packs_84 : decode cX12_packs 84 = .ok (.iload 4, 2) := by decide +kernel
theorem dX12_packs_86 : decode cX12_packs 86 = .ok (.invokestatic 160, 3) := by decide +kernel
theorem dX12_packs_89 : decode cX12_packs 89 = .ok (.iadd, 1) := by decide +kernel
theorem dX12_packs_90 : decode cX12_packs 90 = .ok (.iaload, 1) := by decide +kernel
theorem dX12_packs_91 : decode cX12_packs 91 = .ok (.i2l, 1) := by decide +kernel
theorem dX12_packs_92 : decode cX12_packs 92 = .ok (.lor, 1) := by decide +kernel
theorem dX12_packs_93 : decode cX12_packs 93 = .ok (.lstore_n 1, 1) := by decide +kernel
theorem dX12_packs_94 : decode cX12_packs 94 = .ok (.lload_n 1, 1) := by decide +kernel
theorem dX12_packs_95 : decode cX12_packs 95 = .ok (.iconst 1, 1) := by decide +kernel
theorem dX12_packs_96 : decode cX12_packs 96 = .ok (.lshl, 1) := by decide +kernel
theorem dX12_packs_97 : decode cX12_packs 97 = .ok (.aload_n 0, 1) := by decide +kernel
theorem dX12_packs_98 : decode cX12_packs 98 = .ok (.getfield 27, 3) := by decide +kernel
theorem dX12_packs_101 : decode cX12_packs 101 = .ok (.iconst 3, 1) := by decide +kernel
theorem dX12_packs_102 : decode cX12_packs 102 = .ok (.iload_n 3, 1) := by decide +kernel
theorem dX12_packs_103 : decode cX12_packs 103 = .ok (.imul, 1) := by decide +kernel
theorem dX12_packs_104 : decode cX12_packs 104 = .ok (.iload_n 3, 1) := by decide +kernel
theorem dX12_packs_105 : decode cX12_packs 105 = .ok (.iload 4, 2) := by decide +kernel
theorem dX12_packs_107 : decode cX12_packs 107 = .ok (.invokestatic 160, 3) := by decide +kernel
theorem dX12_packs_110 : decode cX12_packs 110 = .ok (.iadd, 1) := by decide +kernel
theorem dX12_packs_111 : decode cX12_packs 111 = .ok (.baload, 1) := by decide +kernel
theorem dX12_packs_112 : decode cX12_packs 112 = .ok (.ifCond .eq 7, 3) := by decide +kernel
theorem dX12_packs_115 : decode cX12_packs 115 = .ok (.lconst 1, 1) := by decide +kernel
theorem dX12_packs_116 : decode cX12_packs 116 = .ok (.goto 4, 3) := by decide +kernel
theorem dX12_packs_119 : decode cX12_packs 119 = .ok (.lconst 0, 1) := by decide +kernel
theorem dX12_packs_120 : decode cX12_packs 120 = .ok (.lor, 1) := by decide +kernel
theorem dX12_packs_121 : decode cX12_packs 121 = .ok (.lstore_n 1, 1) := by decide +kernel
theorem dX12_packs_122 : decode cX12_packs 122 = .ok (.iinc 4 1, 3) := by decide +kernel
theorem dX12_packs_125 : decode cX12_packs 125 = .ok (.goto (-58), 3) := by decide +kernel
theorem dX12_packs_128 : decode cX12_packs 128 = .ok (.iinc 3 1, 3) := by decide +kernel
theorem dX12_packs_131 : decode cX12_packs 131 = .ok (.goto (-123), 3) := by decide +kernel
theorem dX12_packs_134 : decode cX12_packs 134 = .ok (.lload_n 1, 1) := by decide +kernel
theorem dX12_packs_135 : decode cX12_packs 135 = .ok (.lreturn, 1) := by decide +kernel
theorem dX12_takes_0 : decode cX12_takes 0 = .ok (.lload_n 1, 1) := by decide +kernel
theorem dX12_takes_1 : decode cX12_takes 1 = .ok (.lstore_n 3, 1) := by decide +kernel
theorem dX12_takes_2 : decode cX12_takes 2 = .ok (.iconst 2, 1) := by decide +kernel
theorem dX12_takes_3 : decode cX12_takes 3 = .ok (.istore 5, 2) := by decide +kernel
theorem dX12_takes_5 : decode cX12_takes 5 = .ok (.iload 5, 2) := by decide +kernel
theorem dX12_takes_7 : decode cX12_takes 7 = .ok (.ifCond .lt 174, 3) := by decide +kernel
theorem dX12_takes_10 : decode cX12_takes 10 = .ok (.iconst 1, 1) := by decide +kernel
theorem dX12_takes_11 : decode cX12_takes 11 = .ok (.istore 6, 2) := by decide +kernel
theorem dX12_takes_13 : decode cX12_takes 13 = .ok (.iload 6, 2) := by decide +kernel
theorem dX12_takes_15 : decode cX12_takes 15 = .ok (.ifCond .lt 68, 3) := by decide +kernel
theorem dX12_takes_18 : decode cX12_takes 18 = .ok (.aload_n 0, 1) := by decide +kernel
theorem dX12_takes_19 : decode cX12_takes 19 = .ok (.getfield 27, 3) := by decide +kernel
theorem dX12_takes_22 : decode cX12_takes 22 = .ok (.iconst 3, 1) := by decide +kernel
theorem dX12_takes_23 : decode cX12_takes 23 = .ok (.iload 5, 2) := by decide +kernel
theorem dX12_takes_25 : decode cX12_takes 25 = .ok (.imul, 1) := by decide +kernel
theorem dX12_takes_26 : decode cX12_takes 26 = .ok (.iload 5, 2) := by decide +kernel
theorem dX12_takes_28 : decode cX12_takes 28 = .ok (.iload 6, 2) := by decide +kernel
theorem dX12_takes_30 : decode cX12_takes 30 = .ok (.invokestatic 160, 3) := by decide +kernel
theorem dX12_takes_33 : decode cX12_takes 33 = .ok (.iadd, 1) := by decide +kernel
theorem dX12_takes_34 : decode cX12_takes 34 = .ok (.lload_n 3, 1) := by decide +kernel
theorem dX12_takes_35 : decode cX12_takes 35 = .ok (.lconst 1, 1) := by decide +kernel
theorem dX12_takes_36 : decode cX12_takes 36 = .ok (.land, 1) := by decide +kernel
theorem dX12_takes_37 : decode cX12_takes 37 = .ok (.lconst 1, 1) := by decide +kernel
theorem dX12_takes_38 : decode cX12_takes 38 = .ok (.lcmp, 1) := by decide +kernel
theorem dX12_takes_39 : decode cX12_takes 39 = .ok (.ifCond .ne 7, 3) := by decide +kernel
theorem dX12_takes_42 : decode cX12_takes 42 = .ok (.iconst 1, 1) := by decide +kernel
theorem dX12_takes_43 : decode cX12_takes 43 = .ok (.goto 4, 3) := by decide +kernel
theorem dX12_takes_46 : decode cX12_takes 46 = .ok (.iconst 0, 1) := by decide +kernel
theorem dX12_takes_47 : decode cX12_takes 47 = .ok (.bastore, 1) := by decide +kernel
theorem dX12_takes_48 : decode cX12_takes 48 = .ok (.aload_n 0, 1) := by decide +kernel
theorem dX12_takes_49 : decode cX12_takes 49 = .ok (.getfield 17, 3) := by decide +kernel
theorem dX12_takes_52 : decode cX12_takes 52 = .ok (.iconst 3, 1) := by decide +kernel
theorem dX12_takes_53 : decode cX12_takes 53 = .ok (.iload 5, 2) := by decide +kernel
theorem dX12_takes_55 : decode cX12_takes 55 = .ok (.imul, 1) := by decide +kernel
theorem dX12_takes_56 : decode cX12_takes 56 = .ok (.iload 5, 2) := by decide +kernel
theorem dX12_takes_58 : decode cX12_takes 58 = .ok (.iload 6, 2) := by decide +kernel
theorem dX12_takes_60 : decode cX12_takes 60 = .ok (.invokestatic 160, 3) := by decide +kernel
theorem dX12_takes_63 : decode cX12_takes 63 = .ok (.iadd, 1) := by decide +kernel
theorem dX12_takes_64 : decode cX12_takes 64 = .ok (.lload_n 3, 1) := by decide +kernel
theorem dX12_takes_65 : decode cX12_takes 65 = .ok (.iconst 1, 1) := by decide +kernel
theorem dX12_takes_66 : decode cX12_takes 66 = .ok (.lshr, 1) := by decide +kernel
theorem dX12_takes_67 : decode cX12_takes 67 = .ok (.ldc2_w 164, 3) := by decide +kernel
theorem dX12_takes_70 : decode cX12_takes 70 = .ok (.land, 1) := by decide +kernel
theorem dX12_takes_71 : decode cX12_takes 71 = .ok (.l2i, 1) := by decide +kernel
theorem dX12_takes_72 : decode cX12_takes 72 = .ok (.iastore, 1) := by decide +kernel
theorem dX12_takes_73 : decode cX12_takes 73 = .ok (.lload_n 3, 1) := by decide +kernel
theorem dX12_takes_74 : decode cX12_takes 74 = .ok (.iconst 4, 1) := by decide +kernel
theorem dX12_takes_75 : decode cX12_takes 75 = .ok (.lshr, 1) := by decide +kernel
theorem dX12_takes_76 : decode cX12_takes 76 = .ok (.lstore_n 3, 1) := by decide +kernel
theorem dX12_takes_77 : decode cX12_takes 77 = .ok (.iinc 6 (-1), 3) := by decide +kernel
theorem dX12_takes_80 : decode cX12_takes 80 = .ok (.goto (-67), 3) := by decide +kernel
theorem dX12_takes_83 : decode cX12_takes 83 = .ok (.iload 5, 2) := by decide +kernel
theorem dX12_takes_85 : decode cX12_takes 85 = .ok (.iconst 0, 1) := by decide +kernel
theorem dX12_takes_86 : decode cX12_takes 86 = .ok (.invokestatic 160, 3) := by decide +kernel
theorem dX12_takes_89 : decode cX12_takes 89 = .ok (.istore 6, 2) := by decide +kernel
theorem dX12_takes_91 : decode cX12_takes 91 = .ok (.aload_n 0, 1) := by decide +kernel
theorem dX12_takes_92 : decode cX12_takes 92 = .ok (.getfield 23, 3) := by decide +kernel
theorem dX12_takes_95 : decode cX12_takes 95 = .ok (.iconst 3, 1) := by decide +kernel
theorem dX12_takes_96 : decode cX12_takes 96 = .ok (.iload 5, 2) := by decide +kernel
theorem dX12_takes_98 : decode cX12_takes 98 = .ok (.imul, 1) := by decide +kernel
theorem dX12_takes_99 : decode cX12_takes 99 = .ok (.iload 6, 2) := by decide +kernel
theorem dX12_takes_101 : decode cX12_takes 101 = .ok (.iadd, 1) := by decide +kernel
theorem dX12_takes_102 : decode cX12_takes 102 = .ok (.lload_n 3, 1) := by decide +kernel
theorem dX12_takes_103 : decode cX12_takes 103 = .ok (.lconst 1, 1) := by decide +kernel
theorem dX12_takes_104 : decode cX12_takes 104 = .ok (.land, 1) := by decide +kernel
theorem dX12_takes_105 : decode cX12_takes 105 = .ok (.lconst 1, 1) := by decide +kernel
theorem dX12_takes_106 : decode cX12_takes 106 = .ok (.lcmp, 1) := by decide +kernel
theorem dX12_takes_107 : decode cX12_takes 107 = .ok (.ifCond .ne 7, 3) := by decide +kernel
theorem dX12_takes_110 : decode cX12_takes 110 = .ok (.iconst 1, 1) := by decide +kernel
theorem dX12_takes_111 : decode cX12_takes 111 = .ok (.goto 4, 3) := by decide +kernel
theorem dX12_takes_114 : decode cX12_takes 114 = .ok (.iconst 0, 1) := by decide +kernel
theorem dX12_takes_115 : decode cX12_takes 115 = .ok (.bastore, 1) := by decide +kernel
theorem dX12_takes_116 : decode cX12_takes 116 = .ok (.aload_n 0, 1) := by decide +kernel
theorem dX12_takes_117 : decode cX12_takes 117 = .ok (.getfield 23, 3) := by decide +kernel
theorem dX12_takes_120 : decode cX12_takes 120 = .ok (.iconst 3, 1) := by decide +kernel
theorem dX12_takes_121 : decode cX12_takes 121 = .ok (.iload 6, 2) := by decide +kernel
theorem dX12_takes_123 : decode cX12_takes 123 = .ok (.imul, 1) := by decide +kernel
theorem dX12_takes_124 : decode cX12_takes 124 = .ok (.iload 5, 2) := by decide +kernel
theorem dX12_takes_126 : decode cX12_takes 126 = .ok (.iadd, 1) := by decide +kernel
theorem dX12_takes_127 : decode cX12_takes 127 = .ok (.aload_n 0, 1) := by decide +kernel
theorem dX12_takes_128 : decode cX12_takes 128 = .ok (.getfield 23, 3) := by decide +kernel
theorem dX12_takes_131 : decode cX12_takes 131 = .ok (.iconst 3, 1) := by decide +kernel
theorem dX12_takes_132 : decode cX12_takes 132 = .ok (.iload 5, 2) := by decide +kernel
theorem dX12_takes_134 : decode cX12_takes 134 = .ok (.imul, 1) := by decide +kernel
theorem dX12_takes_135 : decode cX12_takes 135 = .ok (.iload 6, 2) := by decide +kernel
theorem dX12_takes_137 : decode cX12_takes 137 = .ok (.iadd, 1) := by decide +kernel
theorem dX12_takes_138 : decode cX12_takes 138 = .ok (.baload, 1) := by decide +kernel
theorem dX12_takes_139 : decode cX12_takes 139 = .ok (.bastore, 1) := by decide +kernel
theorem dX12_takes_140 : decode cX12_takes 140 = .ok (.aload_n 0, 1) := by decide +kernel
theorem dX12_takes_141 : decode cX12_takes 141 = .ok (.getfield 20, 3) := by decide +kernel
theorem dX12_takes_144 : decode cX12_takes 144 = .ok (.iload 5, 2) := by decide +kernel
theorem dX12_takes_146 : decode cX12_takes 146 = .ok (.lload_n 3, 1) := by decide +kernel
theorem dX12_takes_147 : decode cX12_takes 147 = .ok (.iconst 1, 1) := by decide +kernel
theorem dX12_takes_148 : decode cX12_takes 148 = .ok (.lshr, 1) := by decide +kernel
theorem dX12_takes_149 : decode cX12_takes 149 = .ok (.ldc2_w 166, 3) := by decide +kernel
theorem dX12_takes_152 : decode cX12_takes 152 = .ok (.land, 1) := by decide +kernel
theorem dX12_takes_153 : decode cX12_takes 153 = .ok (.l2i, 1) := by decide +kernel
theorem dX12_takes_154 : decode cX12_takes 154 = .ok (.iastore, 1) := by decide +kernel
theorem dX12_takes_155 : decode cX12_takes 155 = .ok (.aload_n 0, 1) := by decide +kernel
theorem dX12_takes_156 : decode cX12_takes 156 = .ok (.getfield 13, 3) := by decide +kernel
theorem dX12_takes_159 : decode cX12_takes 159 = .ok (.iload 5, 2) := by decide +kernel
theorem dX12_takes_161 : decode cX12_takes 161 = .ok (.lload_n 3, 1) := by decide +kernel
theorem dX12_takes_162 : decode cX12_takes 162 = .ok (.iconst 3, 1) := by decide +kernel
theorem dX12_takes_163 : decode cX12_takes 163 = .ok (.lshr, 1) := by decide +kernel
theorem dX12_takes_164 : decode cX12_takes 164 = .ok (.ldc2_w 168, 3) := by decide +kernel
theorem dX12_takes_167 : decode cX12_takes 167 = .ok (.land, 1) := by decide +kernel
theorem dX12_takes_168 : decode cX12_takes 168 = .ok (.l2i, 1) := by decide +kernel
theorem dX12_takes_169 : decode cX12_takes 169 = .ok (.iastore, 1) := by decide +kernel
theorem dX12_takes_170 : decode cX12_takes 170 = .ok (.lload_n 3, 1) := by decide +kernel
theorem dX12_takes_171 : decode cX12_takes 171 = .ok (.bipush 7, 2) := by decide +kernel
theorem dX12_takes_173 : decode cX12_takes 173 = .ok (.lshr, 1) := by decide +kernel
theorem dX12_takes_174 : decode cX12_takes 174 = .ok (.lstore_n 3, 1) := by decide +kernel
theorem dX12_takes_175 : decode cX12_takes 175 = .ok (.iinc 5 (-1), 3) := by decide +kernel
theorem dX12_takes_178 : decode cX12_takes 178 = .ok (.goto (-173), 3) := by decide +kernel
theorem dX12_takes_181 : decode cX12_takes 181 = .ok (.aload_n 0, 1) := by decide +kernel
theorem dX12_takes_182 : decode cX12_takes 182 = .ok (.lload_n 3, 1) := by decide +kernel
theorem dX12_takes_183 : decode cX12_takes 183 = .ok (.l2i, 1) := by decide +kernel
theorem dX12_takes_184 : decode cX12_takes 184 = .ok (.putfield 157, 3) := by decide +kernel
theorem dX12_takes_187 : decode cX12_takes 187 = .ok (.return_, 1) := by decide +kernel
theorem dX12_told_0 : decode cX12_told 0 = .ok (.aload_n 0, 1) := by decide +kernel
theorem dX12_told_1 : decode cX12_told 1 = .ok (.aload_n 0, 1) := by decide +kernel
theorem dX12_told_2 : decode cX12_told 2 = .ok (.invokevirtual 149, 3) := by decide +kernel
theorem dX12_told_5 : decode cX12_told 5 = .ok (.putfield 153, 3) := by decide +kernel
theorem dX12_told_8 : decode cX12_told 8 = .ok (.iconst 1, 1) := by decide +kernel
theorem dX12_told_9 : decode cX12_told 9 = .ok (.ireturn, 1) := by decide +kernel
theorem dX8_forget_0 : decode cX8_forget 0 = .ok (.aload_n 0, 1) := by decide +kernel
theorem dX8_forget_1 : decode cX8_forget 1 = .ok (.iconst 0, 1) := by decide +kernel
theorem dX8_forget_2 : decode cX8_forget 2 = .ok (.putfield 60, 3) := by decide +kernel
theorem dX8_forget_5 : decode cX8_forget 5 = .ok (.return_, 1) := by decide +kernel
theorem dX9_set_0 : decode cX9_set 0 = .ok (.iload_n 1, 1) := by decide +kernel
theorem dX9_set_1 : decode cX9_set 1 = .ok (.ifCond .lt 19, 3) := by decide +kernel
theorem dX9_set_4 : decode cX9_set 4 = .ok (.iload_n 1, 1) := by decide +kernel
theorem dX9_set_5 : decode cX9_set 5 = .ok (.aload_n 0, 1) := by decide +kernel
theorem dX9_set_6 : decode cX9_set 6 = .ok (.getfield 11, 3) := by decide +kernel
theorem dX9_set_9 : decode cX9_set 9 = .ok (.arraylength, 1) := by decide +kernel
theorem dX9_set_10 : decode cX9_set 10 = .ok (.if_icmp .ge 10, 3) := by decide +kernel
theorem dX9_set_13 : decode cX9_set 13 = .ok (.aload_n 0, 1) := by decide +kernel
theorem dX9_set_14 : decode cX9_set 14 = .ok (.getfield 11, 3) := by decide +kernel
theorem dX9_set_17 : decode cX9_set 17 = .ok (.iload_n 1, 1) := by decide +kernel
theorem dX9_set_18 : decode cX9_set 18 = .ok (.iload_n 2, 1) := by decide +kernel
theorem dX9_set_19 : decode cX9_set 19 = .ok (.iastore, 1) := by decide +kernel
theorem dX9_set_20 : decode cX9_set 20 = .ok (.return_, 1) := by decide +kernel
set_option maxHeartbeats 4000000 in
set_option maxRecDepth 100000 in
theorem c_X11_isPerson {l : Launch} {D : va_G} {cy : Nat → ClassId} {T0 tB tE : Nat} {a : Nat → Nat} {rw : Nat → Option Nat} (S : GS) (p0 : Int32)  (hr_p0 : (-2147483648) ≤ p0.toInt ∧ p0.toInt ≤ (-1)) : Ct l D cy T0 tB tE yX11_isPerson cX11_isPerson 1 (some .boolean) 0 0 0 0 (cw cy tE a rw S) [.int p0] (QI D (U := GS) (fun r u => 0 = r ∧ S = u) (cw cy tE a rw)) := by
  refine Ct.ofZ RX11 "isPerson" [(0, .int p0)] rfl rfl rfl rfl (Nat.le_of_ble_eq_true rfl) ?_
  intro p e R s m args below meth c A b
  refine z_iload_n b dX11_isPerson_0 rfl rfl ?_
  refine y_if_lt (tgt := 13) (xl := p0.toInt) b rfl dX11_isPerson_1 (by decide) (fun c1 => ?_) (fun c1 => ?_)
  · refine z_iconst (v := 0) b dX11_isPerson_13 (by decide) ?_
    exact z_zret (u := S) b rfl (by decide) dX11_isPerson_14 ⟨rfl, rfl⟩ rfl (by decide) (by decide)
  · exfalso; omega

set_option maxHeartbeats 4000000 in
set_option maxRecDepth 100000 in
theorem c_X11_coin {l : Launch} {D : va_G} {cy : Nat → ClassId} {T0 tB tE : Nat} {a : Nat → Nat} {rw : Nat → Option Nat} (S : GS) (p0 : Int32) (p1 : Int32)  (hr_p0 : (-2147483648) ≤ p0.toInt ∧ p0.toInt ≤ (-1)) : Ct l D cy T0 tB tE yX11_coin cX11_coin 3 (some .boolean) 1 20 0 0 (cw cy tE a rw S) [.ref (a 0), .int p0, .int p1] (QI D (U := GS) (fun r u => 0 = r ∧ S = u) (cw cy tE a rw)) := by
  refine Ct.ofZ RX11 "coin" [(0, .ref (a 0)), (1, .int p0), (2, .int p1)] rfl rfl rfl rfl (Nat.le_of_ble_eq_true rfl) ?_
  intro p e R s m args below meth c A b
  refine z_iload_n b dX11_coin_0 rfl rfl ?_
  refine z_calli b (z_runS (As := [.int p0]) (st := []) b (c_X11_isPerson S p0 ⟨by omega, by omega⟩) cf_X11_isPerson wm_X11_69 ws_X11_isPerson dX11_coin_1 rfl (Nat.le_of_ble_eq_true rfl) ⟨by decide, by decide, by decide, by decide⟩) (fun r3 u4 h2 => ?_)
  obtain ⟨rfl, rfl⟩ := h2
  refine z_if_eq_t (tgt := 16) b dX11_coin_4 (by decide) (by decide) ?_
  refine z_iconst (v := 0) b dX11_coin_16 (by decide) ?_
  exact z_zret (u := S) b rfl (by decide) dX11_coin_17 ⟨rfl, rfl⟩ rfl (by decide) (by decide)

set_option maxHeartbeats 4000000 in
set_option maxRecDepth 100000 in
theorem c_X12_isIn {l : Launch} {D : va_G} {cy : Nat → ClassId} {T0 tB tE : Nat} {a : Nat → Nat} (S : GS) (p0 : Int32)  (hr_p0 : (-2147483648) ≤ p0.toInt ∧ p0.toInt ≤ (-1)) : Ct l D cy T0 tB tE yX12_isIn cX12_isIn 3 (some .boolean) 0 0 0 0 (mw cy a S) [.int p0, .int 0, .int 2] (QI D (U := GS) (fun r u => 0 = r ∧ S = u) (mw cy a)) := by
  refine Ct.ofZ RX12 "isIn" [(0, .int p0), (1, .int 0), (2, .int 2)] rfl rfl rfl rfl (Nat.le_of_ble_eq_true rfl) ?_
  intro p e R s m args below meth c A b
  refine z_iload_n b dX12_isIn_0 rfl rfl ?_
  refine z_iload_n b dX12_isIn_1 rfl rfl ?_
  refine y_icmp_lt (tgt := 14) (xl := p0.toInt) (yl := 0) b rfl (by decide) dX12_isIn_2 (by decide) (fun c5 => ?_) (fun c5 => ?_)
  · refine z_iconst (v := 0) b dX12_isIn_14 (by decide) ?_
    exact z_zret (u := S) b rfl (by decide) dX12_isIn_15 ⟨rfl, rfl⟩ rfl (by decide) (by decide)
  · exfalso; omega

set_option maxHeartbeats 4000000 in
set_option maxRecDepth 100000 in
theorem c_X12_isOne {l : Launch} {D : va_G} {cy : Nat → ClassId} {T0 tB tE : Nat} {a : Nat → Nat} (S : GS) (p0 : Int32)  (hr_p0 : (-2147483648) ≤ p0.toInt ∧ p0.toInt ≤ (-1)) : Ct l D cy T0 tB tE yX12_isOne cX12_isOne 1 (some .boolean) 1 22 0 0 (mw cy a S) [.int p0] (QI D (U := GS) (fun r u => 0 = r ∧ S = u) (mw cy a)) := by
  refine Ct.ofZ RX12 "isOne" [(0, .int p0)] rfl rfl rfl rfl (Nat.le_of_ble_eq_true rfl) ?_
  intro p e R s m args below meth c A b
  refine z_iload_n b dX12_isOne_0 rfl rfl ?_
  refine z_iconst (v := 0) b dX12_isOne_1 (by decide) ?_
  refine z_iconst (v := 2) b dX12_isOne_2 (by decide) ?_
  refine z_calli b (z_runS (As := [.int p0, .int 0, .int 2]) (st := []) b (c_X12_isIn S p0 ⟨by omega, by omega⟩) cf_X12_isIn wm_X12_1 ws_X12_isIn dX12_isOne_3 rfl (Nat.le_of_ble_eq_true rfl) ⟨by decide, by decide, by decide, by decide⟩) (fun r7 u8 h6 => ?_)
  obtain ⟨rfl, rfl⟩ := h6
  exact z_zret (u := S) b rfl (by decide) dX12_isOne_6 ⟨rfl, rfl⟩ rfl (by decide) (by decide)

set_option maxHeartbeats 4000000 in
set_option maxRecDepth 100000 in
theorem c_X12_coin {l : Launch} {D : va_G} {cy : Nat → ClassId} {T0 tB tE : Nat} {a : Nat → Nat} (S : GS) (p0 : Int32) (p1 : Int32)  (hr_p0 : (-2147483648) ≤ p0.toInt ∧ p0.toInt ≤ (-1)) : Ct l D cy T0 tB tE yX12_coin cX12_coin 3 (some .boolean) 2 42 0 0 (mw cy a S) [.ref (a 0), .int p0, .int p1] (QI D (U := GS) (fun r u => 0 = r ∧ S = u) (mw cy a)) := by
  refine Ct.ofZ RX12 "coin" [(0, .ref (a 0)), (1, .int p0), (2, .int p1)] rfl rfl rfl rfl (Nat.le_of_ble_eq_true rfl) ?_
  intro p e R s m args below meth c A b
  refine z_iload_n b dX12_coin_0 rfl rfl ?_
  refine z_calli b (z_runS (As := [.int p0]) (st := []) b (c_X12_isOne S p0 ⟨by omega, by omega⟩) cf_X12_isOne wm_X12_170 ws_X12_isOne dX12_coin_1 rfl (Nat.le_of_ble_eq_true rfl) ⟨by decide, by decide, by decide, by decide⟩) (fun r10 u11 h9 => ?_)
  obtain ⟨rfl, rfl⟩ := h9
  refine z_if_eq_t (tgt := 17) b dX12_coin_4 (by decide) (by decide) ?_
  refine z_iconst (v := 0) b dX12_coin_17 (by decide) ?_
  exact z_zret (u := S) b rfl (by decide) dX12_coin_18 ⟨rfl, rfl⟩ rfl (by decide) (by decide)

set_option maxHeartbeats 4000000 in
set_option maxRecDepth 100000 in
theorem c_X11_isPerson_2 {l : Launch} {D : va_G} {cy : Nat → ClassId} {T0 tB tE : Nat} {a : Nat → Nat} {rw : Nat → Option Nat} (S : GS) (p0 : Int32)  (hr_p0 : 3 ≤ p0.toInt ∧ p0.toInt ≤ 2147483647) : Ct l D cy T0 tB tE yX11_isPerson cX11_isPerson 1 (some .boolean) 0 0 0 0 (cw cy tE a rw S) [.int p0] (QI D (U := GS) (fun r u => 0 = r ∧ S = u) (cw cy tE a rw)) := by
  refine Ct.ofZ RX11 "isPerson" [(0, .int p0)] rfl rfl rfl rfl (Nat.le_of_ble_eq_true rfl) ?_
  intro p e R s m args below meth c A b
  refine z_iload_n b dX11_isPerson_0 rfl rfl ?_
  refine y_if_lt (tgt := 13) (xl := p0.toInt) b rfl dX11_isPerson_1 (by decide) (fun c12 => ?_) (fun c12 => ?_)
  · exfalso; omega
  · refine z_iload_n b dX11_isPerson_4 rfl rfl ?_
    refine z_iconst (v := 3) b dX11_isPerson_5 (by decide) ?_
    refine y_icmp_ge (tgt := 13) (xl := p0.toInt) (yl := 3) b rfl (by decide) dX11_isPerson_6 (by decide) (fun c13 => ?_) (fun c13 => ?_)
    · refine z_iconst (v := 0) b dX11_isPerson_13 (by decide) ?_
      exact z_zret (u := S) b rfl (by decide) dX11_isPerson_14 ⟨rfl, rfl⟩ rfl (by decide) (by decide)
    · exfalso; omega

set_option maxHeartbeats 4000000 in
set_option maxRecDepth 100000 in
theorem c_X11_coin_2 {l : Launch} {D : va_G} {cy : Nat → ClassId} {T0 tB tE : Nat} {a : Nat → Nat} {rw : Nat → Option Nat} (S : GS) (p0 : Int32) (p1 : Int32)  (hr_p0 : 3 ≤ p0.toInt ∧ p0.toInt ≤ 2147483647) : Ct l D cy T0 tB tE yX11_coin cX11_coin 3 (some .boolean) 1 20 0 0 (cw cy tE a rw S) [.ref (a 0), .int p0, .int p1] (QI D (U := GS) (fun r u => 0 = r ∧ S = u) (cw cy tE a rw)) := by
  refine Ct.ofZ RX11 "coin" [(0, .ref (a 0)), (1, .int p0), (2, .int p1)] rfl rfl rfl rfl (Nat.le_of_ble_eq_true rfl) ?_
  intro p e R s m args below meth c A b
  refine z_iload_n b dX11_coin_0 rfl rfl ?_
  refine z_calli b (z_runS (As := [.int p0]) (st := []) b (c_X11_isPerson_2 S p0 ⟨by omega, by omega⟩) cf_X11_isPerson wm_X11_69 ws_X11_isPerson dX11_coin_1 rfl (Nat.le_of_ble_eq_true rfl) ⟨by decide, by decide, by decide, by decide⟩) (fun r15 u16 h14 => ?_)
  obtain ⟨rfl, rfl⟩ := h14
  refine z_if_eq_t (tgt := 16) b dX11_coin_4 (by decide) (by decide) ?_
  refine z_iconst (v := 0) b dX11_coin_16 (by decide) ?_
  exact z_zret (u := S) b rfl (by decide) dX11_coin_17 ⟨rfl, rfl⟩ rfl (by decide) (by decide)

set_option maxHeartbeats 4000000 in
set_option maxRecDepth 100000 in
theorem c_X12_isIn_2 {l : Launch} {D : va_G} {cy : Nat → ClassId} {T0 tB tE : Nat} {a : Nat → Nat} (S : GS) (p0 : Int32)  (hr_p0 : 3 ≤ p0.toInt ∧ p0.toInt ≤ 2147483647) : Ct l D cy T0 tB tE yX12_isIn cX12_isIn 3 (some .boolean) 0 0 0 0 (mw cy a S) [.int p0, .int 0, .int 2] (QI D (U := GS) (fun r u => 0 = r ∧ S = u) (mw cy a)) := by
  refine Ct.ofZ RX12 "isIn" [(0, .int p0), (1, .int 0), (2, .int 2)] rfl rfl rfl rfl (Nat.le_of_ble_eq_true rfl) ?_
  intro p e R s m args below meth c A b
  refine z_iload_n b dX12_isIn_0 rfl rfl ?_
  refine z_iload_n b dX12_isIn_1 rfl rfl ?_
  refine y_icmp_lt (tgt := 14) (xl := p0.toInt) (yl := 0) b rfl (by decide) dX12_isIn_2 (by decide) (fun c17 => ?_) (fun c17 => ?_)
  · exfalso; omega
  · refine z_iload_n b dX12_isIn_5 rfl rfl ?_
    refine z_iload_n b dX12_isIn_6 rfl rfl ?_
    refine y_icmp_gt (tgt := 14) (xl := p0.toInt) (yl := 2) b rfl (by decide) dX12_isIn_7 (by decide) (fun c18 => ?_) (fun c18 => ?_)
    · refine z_iconst (v := 0) b dX12_isIn_14 (by decide) ?_
      exact z_zret (u := S) b rfl (by decide) dX12_isIn_15 ⟨rfl, rfl⟩ rfl (by decide) (by decide)
    · exfalso; omega

set_option maxHeartbeats 4000000 in
set_option maxRecDepth 100000 in
theorem c_X12_isOne_2 {l : Launch} {D : va_G} {cy : Nat → ClassId} {T0 tB tE : Nat} {a : Nat → Nat} (S : GS) (p0 : Int32)  (hr_p0 : 3 ≤ p0.toInt ∧ p0.toInt ≤ 2147483647) : Ct l D cy T0 tB tE yX12_isOne cX12_isOne 1 (some .boolean) 1 22 0 0 (mw cy a S) [.int p0] (QI D (U := GS) (fun r u => 0 = r ∧ S = u) (mw cy a)) := by
  refine Ct.ofZ RX12 "isOne" [(0, .int p0)] rfl rfl rfl rfl (Nat.le_of_ble_eq_true rfl) ?_
  intro p e R s m args below meth c A b
  refine z_iload_n b dX12_isOne_0 rfl rfl ?_
  refine z_iconst (v := 0) b dX12_isOne_1 (by decide) ?_
  refine z_iconst (v := 2) b dX12_isOne_2 (by decide) ?_
  refine z_calli b (z_runS (As := [.int p0, .int 0, .int 2]) (st := []) b (c_X12_isIn_2 S p0 ⟨by omega, by omega⟩) cf_X12_isIn wm_X12_1 ws_X12_isIn dX12_isOne_3 rfl (Nat.le_of_ble_eq_true rfl) ⟨by decide, by decide, by decide, by decide⟩) (fun r20 u21 h19 => ?_)
  obtain ⟨rfl, rfl⟩ := h19
  exact z_zret (u := S) b rfl (by decide) dX12_isOne_6 ⟨rfl, rfl⟩ rfl (by decide) (by decide)

set_option maxHeartbeats 4000000 in
set_option maxRecDepth 100000 in
theorem c_X12_coin_2 {l : Launch} {D : va_G} {cy : Nat → ClassId} {T0 tB tE : Nat} {a : Nat → Nat} (S : GS) (p0 : Int32) (p1 : Int32)  (hr_p0 : 3 ≤ p0.toInt ∧ p0.toInt ≤ 2147483647) : Ct l D cy T0 tB tE yX12_coin cX12_coin 3 (some .boolean) 2 42 0 0 (mw cy a S) [.ref (a 0), .int p0, .int p1] (QI D (U := GS) (fun r u => 0 = r ∧ S = u) (mw cy a)) := by
  refine Ct.ofZ RX12 "coin" [(0, .ref (a 0)), (1, .int p0), (2, .int p1)] rfl rfl rfl rfl (Nat.le_of_ble_eq_true rfl) ?_
  intro p e R s m args below meth c A b
  refine z_iload_n b dX12_coin_0 rfl rfl ?_
  refine z_calli b (z_runS (As := [.int p0]) (st := []) b (c_X12_isOne_2 S p0 ⟨by omega, by omega⟩) cf_X12_isOne wm_X12_170 ws_X12_isOne dX12_coin_1 rfl (Nat.le_of_ble_eq_true rfl) ⟨by decide, by decide, by decide, by decide⟩) (fun r23 u24 h22 => ?_)
  obtain ⟨rfl, rfl⟩ := h22
  refine z_if_eq_t (tgt := 17) b dX12_coin_4 (by decide) (by decide) ?_
  refine z_iconst (v := 0) b dX12_coin_17 (by decide) ?_
  exact z_zret (u := S) b rfl (by decide) dX12_coin_18 ⟨rfl, rfl⟩ rfl (by decide) (by decide)

set_option maxHeartbeats 4000000 in
set_option maxRecDepth 100000 in
theorem c_X11_isPerson_3 {l : Launch} {D : va_G} {cy : Nat → ClassId} {T0 tB tE : Nat} {a : Nat → Nat} {rw : Nat → Option Nat} (S : GS)   : Ct l D cy T0 tB tE yX11_isPerson cX11_isPerson 1 (some .boolean) 0 0 0 0 (cw cy tE a rw S) [.int 0] (QI D (U := GS) (fun r u => 1 = r ∧ S = u) (cw cy tE a rw)) := by
  refine Ct.ofZ RX11 "isPerson" [(0, .int 0)] rfl rfl rfl rfl (Nat.le_of_ble_eq_true rfl) ?_
  intro p e R s m args below meth c A b
  refine z_iload_n b dX11_isPerson_0 rfl rfl ?_
  refine z_if_lt_f (tgt := 13) b dX11_isPerson_1 (by decide) (by decide) ?_
  refine z_iload_n b dX11_isPerson_4 rfl rfl ?_
  refine z_iconst (v := 3) b dX11_isPerson_5 (by decide) ?_
  refine z_icmp_ge_f (tgt := 13) b dX11_isPerson_6 (by decide) (by decide) ?_
  refine z_iconst (v := 1) b dX11_isPerson_9 (by decide) ?_
  refine z_goto (tgt := 14) b dX11_isPerson_10 (by decide) ?_
  exact z_zret (u := S) b rfl (by decide) dX11_isPerson_14 ⟨rfl, rfl⟩ rfl (by decide) (by decide)

set_option maxHeartbeats 4000000 in
set_option maxRecDepth 100000 in
theorem c_X11_isWithin {l : Launch} {D : va_G} {cy : Nat → ClassId} {T0 tB tE : Nat} {a : Nat → Nat} {rw : Nat → Option Nat} (S : GS) (p0 : Int32)  (hr_p0 : (-2147483648) ≤ p0.toInt ∧ p0.toInt ≤ (-1)) : Ct l D cy T0 tB tE yX11_isWithin cX11_isWithin 2 (some .boolean) 0 0 0 0 (cw cy tE a rw S) [.int p0, .int 15] (QI D (U := GS) (fun r u => 0 = r ∧ S = u) (cw cy tE a rw)) := by
  refine Ct.ofZ RX11 "isWithin" [(0, .int p0), (1, .int 15)] rfl rfl rfl rfl (Nat.le_of_ble_eq_true rfl) ?_
  intro p e R s m args below meth c A b
  refine z_iload_n b dX11_isWithin_0 rfl rfl ?_
  refine y_if_lt (tgt := 13) (xl := p0.toInt) b rfl dX11_isWithin_1 (by decide) (fun c28 => ?_) (fun c28 => ?_)
  · refine z_iconst (v := 0) b dX11_isWithin_13 (by decide) ?_
    exact z_zret (u := S) b rfl (by decide) dX11_isWithin_14 ⟨rfl, rfl⟩ rfl (by decide) (by decide)
  · exfalso; omega

set_option maxHeartbeats 4000000 in
set_option maxRecDepth 100000 in
theorem c_X11_coin_3 {l : Launch} {D : va_G} {cy : Nat → ClassId} {T0 tB tE : Nat} {a : Nat → Nat} {rw : Nat → Option Nat} (S : GS) (p0 : Int32)  (hr_p0 : (-2147483648) ≤ p0.toInt ∧ p0.toInt ≤ (-1)) : Ct l D cy T0 tB tE yX11_coin cX11_coin 3 (some .boolean) 1 21 0 0 (cw cy tE a rw S) [.ref (a 0), .int 0, .int p0] (QI D (U := GS) (fun r u => 0 = r ∧ S = u) (cw cy tE a rw)) := by
  refine Ct.ofZ RX11 "coin" [(0, .ref (a 0)), (1, .int 0), (2, .int p0)] rfl rfl rfl rfl (Nat.le_of_ble_eq_true rfl) ?_
  intro p e R s m args below meth c A b
  refine z_iload_n b dX11_coin_0 rfl rfl ?_
  refine z_calli b (z_runS (As := [.int 0]) (st := []) b (c_X11_isPerson_3 S ) cf_X11_isPerson wm_X11_69 ws_X11_isPerson dX11_coin_1 rfl (Nat.le_of_ble_eq_true rfl) ⟨by decide, by decide, by decide, by decide⟩) (fun r26 u27 h25 => ?_)
  obtain ⟨rfl, rfl⟩ := h25
  refine z_if_eq_f (tgt := 16) b dX11_coin_4 (by decide) (by decide) ?_
  refine z_iload_n b dX11_coin_7 rfl rfl ?_
  refine z_bipush (v := 15) b dX11_coin_8 (by decide) ?_
  refine z_calli b (z_runS (As := [.int p0, .int 15]) (st := []) b (c_X11_isWithin S p0 ⟨by omega, by omega⟩) cf_X11_isWithin wm_X11_73 ws_X11_isWithin dX11_coin_10 rfl (Nat.le_of_ble_eq_true rfl) ⟨by decide, by decide, by decide, by decide⟩) (fun r30 u31 h29 => ?_)
  obtain ⟨rfl, rfl⟩ := h29
  refine z_if_ne_f (tgt := 18) b dX11_coin_13 (by decide) (by decide) ?_
  refine z_iconst (v := 0) b dX11_coin_16 (by decide) ?_
  exact z_zret (u := S) b rfl (by decide) dX11_coin_17 ⟨rfl, rfl⟩ rfl (by decide) (by decide)

set_option maxHeartbeats 4000000 in
set_option maxRecDepth 100000 in
theorem c_X12_isIn_3 {l : Launch} {D : va_G} {cy : Nat → ClassId} {T0 tB tE : Nat} {a : Nat → Nat} (S : GS)   : Ct l D cy T0 tB tE yX12_isIn cX12_isIn 3 (some .boolean) 0 0 0 0 (mw cy a S) [.int 0, .int 0, .int 2] (QI D (U := GS) (fun r u => 1 = r ∧ S = u) (mw cy a)) := by
  refine Ct.ofZ RX12 "isIn" [(0, .int 0), (1, .int 0), (2, .int 2)] rfl rfl rfl rfl (Nat.le_of_ble_eq_true rfl) ?_
  intro p e R s m args below meth c A b
  refine z_iload_n b dX12_isIn_0 rfl rfl ?_
  refine z_iload_n b dX12_isIn_1 rfl rfl ?_
  refine z_icmp_lt_f (tgt := 14) b dX12_isIn_2 (by decide) (by decide) ?_
  refine z_iload_n b dX12_isIn_5 rfl rfl ?_
  refine z_iload_n b dX12_isIn_6 rfl rfl ?_
  refine z_icmp_gt_f (tgt := 14) b dX12_isIn_7 (by decide) (by decide) ?_
  refine z_iconst (v := 1) b dX12_isIn_10 (by decide) ?_
  refine z_goto (tgt := 15) b dX12_isIn_11 (by decide) ?_
  exact z_zret (u := S) b rfl (by decide) dX12_isIn_15 ⟨rfl, rfl⟩ rfl (by decide) (by decide)

set_option maxHeartbeats 4000000 in
set_option maxRecDepth 100000 in
theorem c_X12_isOne_3 {l : Launch} {D : va_G} {cy : Nat → ClassId} {T0 tB tE : Nat} {a : Nat → Nat} (S : GS)   : Ct l D cy T0 tB tE yX12_isOne cX12_isOne 1 (some .boolean) 1 22 0 0 (mw cy a S) [.int 0] (QI D (U := GS) (fun r u => 1 = r ∧ S = u) (mw cy a)) := by
  refine Ct.ofZ RX12 "isOne" [(0, .int 0)] rfl rfl rfl rfl (Nat.le_of_ble_eq_true rfl) ?_
  intro p e R s m args below meth c A b
  refine z_iload_n b dX12_isOne_0 rfl rfl ?_
  refine z_iconst (v := 0) b dX12_isOne_1 (by decide) ?_
  refine z_iconst (v := 2) b dX12_isOne_2 (by decide) ?_
  refine z_calli b (z_runS (As := [.int 0, .int 0, .int 2]) (st := []) b (c_X12_isIn_3 S ) cf_X12_isIn wm_X12_1 ws_X12_isIn dX12_isOne_3 rfl (Nat.le_of_ble_eq_true rfl) ⟨by decide, by decide, by decide, by decide⟩) (fun r33 u34 h32 => ?_)
  obtain ⟨rfl, rfl⟩ := h32
  exact z_zret (u := S) b rfl (by decide) dX12_isOne_6 ⟨rfl, rfl⟩ rfl (by decide) (by decide)

set_option maxHeartbeats 4000000 in
set_option maxRecDepth 100000 in
theorem c_X12_isIn_4 {l : Launch} {D : va_G} {cy : Nat → ClassId} {T0 tB tE : Nat} {a : Nat → Nat} (S : GS) (p0 : Int32)  (hr_p0 : (-2147483648) ≤ p0.toInt ∧ p0.toInt ≤ (-1)) : Ct l D cy T0 tB tE yX12_isIn cX12_isIn 3 (some .boolean) 0 0 0 0 (mw cy a S) [.int p0, .int 0, .int 15] (QI D (U := GS) (fun r u => 0 = r ∧ S = u) (mw cy a)) := by
  refine Ct.ofZ RX12 "isIn" [(0, .int p0), (1, .int 0), (2, .int 15)] rfl rfl rfl rfl (Nat.le_of_ble_eq_true rfl) ?_
  intro p e R s m args below meth c A b
  refine z_iload_n b dX12_isIn_0 rfl rfl ?_
  refine z_iload_n b dX12_isIn_1 rfl rfl ?_
  refine y_icmp_lt (tgt := 14) (xl := p0.toInt) (yl := 0) b rfl (by decide) dX12_isIn_2 (by decide) (fun c38 => ?_) (fun c38 => ?_)
  · refine z_iconst (v := 0) b dX12_isIn_14 (by decide) ?_
    exact z_zret (u := S) b rfl (by decide) dX12_isIn_15 ⟨rfl, rfl⟩ rfl (by decide) (by decide)
  · exfalso; omega

set_option maxHeartbeats 4000000 in
set_option maxRecDepth 100000 in
theorem c_X12_coin_3 {l : Launch} {D : va_G} {cy : Nat → ClassId} {T0 tB tE : Nat} {a : Nat → Nat} (S : GS) (p0 : Int32)  (hr_p0 : (-2147483648) ≤ p0.toInt ∧ p0.toInt ≤ (-1)) : Ct l D cy T0 tB tE yX12_coin cX12_coin 3 (some .boolean) 2 42 0 0 (mw cy a S) [.ref (a 0), .int 0, .int p0] (QI D (U := GS) (fun r u => 0 = r ∧ S = u) (mw cy a)) := by
  refine Ct.ofZ RX12 "coin" [(0, .ref (a 0)), (1, .int 0), (2, .int p0)] rfl rfl rfl rfl (Nat.le_of_ble_eq_true rfl) ?_
  intro p e R s m args below meth c A b
  refine z_iload_n b dX12_coin_0 rfl rfl ?_
  refine z_calli b (z_runS (As := [.int 0]) (st := []) b (c_X12_isOne_3 S ) cf_X12_isOne wm_X12_170 ws_X12_isOne dX12_coin_1 rfl (Nat.le_of_ble_eq_true rfl) ⟨by decide, by decide, by decide, by decide⟩) (fun r36 u37 h35 => ?_)
  obtain ⟨rfl, rfl⟩ := h35
  refine z_if_eq_f (tgt := 17) b dX12_coin_4 (by decide) (by decide) ?_
  refine z_iload_n b dX12_coin_7 rfl rfl ?_
  refine z_iconst (v := 0) b dX12_coin_8 (by decide) ?_
  refine z_bipush (v := 15) b dX12_coin_9 (by decide) ?_
  refine z_calli b (z_runS (As := [.int p0, .int 0, .int 15]) (st := []) b (c_X12_isIn_4 S p0 ⟨by omega, by omega⟩) cf_X12_isIn wm_X12_1 ws_X12_isIn dX12_coin_11 rfl (Nat.le_of_ble_eq_true rfl) ⟨by decide, by decide, by decide, by decide⟩) (fun r40 u41 h39 => ?_)
  obtain ⟨rfl, rfl⟩ := h39
  refine z_if_ne_f (tgt := 19) b dX12_coin_14 (by decide) (by decide) ?_
  refine z_iconst (v := 0) b dX12_coin_17 (by decide) ?_
  exact z_zret (u := S) b rfl (by decide) dX12_coin_18 ⟨rfl, rfl⟩ rfl (by decide) (by decide)

set_option maxHeartbeats 4000000 in
set_option maxRecDepth 100000 in
theorem c_X11_isWithin_2 {l : Launch} {D : va_G} {cy : Nat → ClassId} {T0 tB tE : Nat} {a : Nat → Nat} {rw : Nat → Option Nat} (S : GS) (p0 : Int32)  (hr_p0 : 0 ≤ p0.toInt ∧ p0.toInt ≤ 15) : Ct l D cy T0 tB tE yX11_isWithin cX11_isWithin 2 (some .boolean) 0 0 0 0 (cw cy tE a rw S) [.int p0, .int 15] (QI D (U := GS) (fun r u => 1 = r ∧ S = u) (cw cy tE a rw)) := by
  refine Ct.ofZ RX11 "isWithin" [(0, .int p0), (1, .int 15)] rfl rfl rfl rfl (Nat.le_of_ble_eq_true rfl) ?_
  intro p e R s m args below meth c A b
  refine z_iload_n b dX11_isWithin_0 rfl rfl ?_
  refine y_if_lt (tgt := 13) (xl := p0.toInt) b rfl dX11_isWithin_1 (by decide) (fun c45 => ?_) (fun c45 => ?_)
  · exfalso; omega
  · refine z_iload_n b dX11_isWithin_4 rfl rfl ?_
    refine z_iload_n b dX11_isWithin_5 rfl rfl ?_
    refine y_icmp_gt (tgt := 13) (xl := p0.toInt) (yl := 15) b rfl (by decide) dX11_isWithin_6 (by decide) (fun c46 => ?_) (fun c46 => ?_)
    · exfalso; omega
    · refine z_iconst (v := 1) b dX11_isWithin_9 (by decide) ?_
      refine z_goto (tgt := 14) b dX11_isWithin_10 (by decide) ?_
      exact z_zret (u := S) b rfl (by decide) dX11_isWithin_14 ⟨rfl, rfl⟩ rfl (by decide) (by decide)

set_option maxHeartbeats 4000000 in
set_option maxRecDepth 100000 in
theorem c_X9_set {l : Launch} {D : va_G} {cy : Nat → ClassId} {T0 tB tE : Nat} {a : Nat → Nat} {rw : Nat → Option Nat} (S : GS) (p0 : Int32)  (hr_p0 : 0 ≤ p0.toInt ∧ p0.toInt ≤ 15) : Ct l D cy T0 tB tE yX9_set cX9_set 3 none 0 0 0 0 (cw cy tE a rw S) [.ref (a 14), .int 0, .int p0] (QV D (U := GS) (fun u => su S 4 0 p0 = u) (cw cy tE a rw)) := by
  refine Ct.ofZ RX9 "set" [(0, .ref (a 14)), (1, .int 0), (2, .int p0)] rfl rfl rfl rfl (Nat.le_of_ble_eq_true rfl) ?_
  intro p e R s m args below meth c A b
  refine z_iload_n b dX9_set_0 rfl rfl ?_
  refine z_if_lt_f (tgt := 20) b dX9_set_1 (by decide) (by decide) ?_
  refine z_iload_n b dX9_set_4 rfl rfl ?_
  refine z_aload_n b dX9_set_5 rfl rfl ?_
  refine z_get (q0 := 14) (k9 := 0) (v := .ref (a 15)) b (cw_14 cy tE a rw S) rfl in_X9 (by decide) wf_X9_11 rfl dX9_set_6 ?_
  refine z_alen (q0 := 15) (t0 := 0) (v := 51) b (cw_15 cy tE a rw S) rfl rfl dX9_set_9 ?_
  refine z_icmp_ge_f (tgt := 20) b dX9_set_10 (by decide) (by decide) ?_
  refine z_aload_n b dX9_set_13 rfl rfl ?_
  refine z_get (q0 := 14) (k9 := 0) (v := .ref (a 15)) b (cw_14 cy tE a rw S) rfl in_X9 (by decide) wf_X9_11 rfl dX9_set_14 ?_
  refine z_iload_n b dX9_set_17 rfl rfl ?_
  refine z_iload_n b dX9_set_18 rfl rfl ?_
  refine y_iast (q0 := 15) (j := 0) b (cw_15 cy tE a rw S) (by decide) dX9_set_19 (cwa_15 cy tE a rw S 0 p0) ?_
  exact z_vret (u := (su S 4 0 p0)) b rfl dX9_set_20 rfl rfl (by decide) (by decide)

set_option maxHeartbeats 4000000 in
set_option maxRecDepth 100000 in
theorem c_X8_forget {l : Launch} {D : va_G} {cy : Nat → ClassId} {T0 tB tE : Nat} {a : Nat → Nat} {rw : Nat → Option Nat} (S : GS)  (h_i_24 : fi S 24 = 0) : Ct l D cy T0 tB tE yX8_forget cX8_forget 1 none 0 0 0 0 (cw cy tE a rw S) [.ref (a 25)] (QV D (U := GS) (fun u => S = u) (cw cy tE a rw)) := by
  refine Ct.ofZ RX8 "forget" [(0, .ref (a 25))] rfl rfl rfl rfl (Nat.le_of_ble_eq_true rfl) ?_
  intro p e R s m args below meth c A b
  refine z_aload_n b dX8_forget_0 rfl rfl ?_
  refine z_iconst (v := 0) b dX8_forget_1 (by decide) ?_
  refine z_put (q0 := 25) (k9 := 16) tyX8 b (cw_25 cy tE a rw S) rfl in_X8 tyX8_ok nmX8 (by decide) wf_X8_60 rfl rfl rfl rfl (Nat.le_of_ble_eq_true rfl) dX8_forget_2 ((cwp_25_16 cy tE a rw S 0).trans (congrArg (cw cy tE a rw) (si_same h_i_24))) ?_
  exact z_vret (u := S) b rfl dX8_forget_5 rfl rfl (by decide) (by decide)

set_option maxHeartbeats 4000000 in
set_option maxRecDepth 100000 in
theorem c_X11_coin_4 {l : Launch} {D : va_G} {cy : Nat → ClassId} {T0 tB tE : Nat} {a : Nat → Nat} {rw : Nat → Option Nat} (S : GS) (p0 : Int32) (h_i_24 : fi S 24 = 0) (hr_p0 : 0 ≤ p0.toInt ∧ p0.toInt ≤ 15) : Ct l D cy T0 tB tE yX11_coin cX11_coin 3 (some .boolean) 1 22 0 0 (cw cy tE a rw S) [.ref (a 0), .int 0, .int p0] (QI D (U := GS) (fun r u => 1 = r ∧ (su S 4 0 p0) = u) (cw cy tE a rw)) := by
  refine Ct.ofZ RX11 "coin" [(0, .ref (a 0)), (1, .int 0), (2, .int p0)] rfl rfl rfl rfl (Nat.le_of_ble_eq_true rfl) ?_
  intro p e R s m args below meth c A b
  refine z_iload_n b dX11_coin_0 rfl rfl ?_
  refine z_calli b (z_runS (As := [.int 0]) (st := []) b (c_X11_isPerson_3 S ) cf_X11_isPerson wm_X11_69 ws_X11_isPerson dX11_coin_1 rfl (Nat.le_of_ble_eq_true rfl) ⟨by decide, by decide, by decide, by decide⟩) (fun r43 u44 h42 => ?_)
  obtain ⟨rfl, rfl⟩ := h42
  refine z_if_eq_f (tgt := 16) b dX11_coin_4 (by decide) (by decide) ?_
  refine z_iload_n b dX11_coin_7 rfl rfl ?_
  refine z_bipush (v := 15) b dX11_coin_8 (by decide) ?_
  refine z_calli b (z_runS (As := [.int p0, .int 15]) (st := []) b (c_X11_isWithin_2 S p0 ⟨by omega, by omega⟩) cf_X11_isWithin wm_X11_73 ws_X11_isWithin dX11_coin_10 rfl (Nat.le_of_ble_eq_true rfl) ⟨by decide, by decide, by decide, by decide⟩) (fun r48 u49 h47 => ?_)
  obtain ⟨rfl, rfl⟩ := h47
  refine z_if_ne_t (tgt := 18) b dX11_coin_13 (by decide) (by decide) ?_
  refine z_aload_n b dX11_coin_18 rfl rfl ?_
  refine z_get (q0 := 0) (k9 := 4) (v := .ref (a 14)) b (cw_0 cy tE a rw S) rfl in_X11 (by decide) wf_X11_34 rfl dX11_coin_19 ?_
  refine z_iload_n b dX11_coin_22 rfl rfl ?_
  refine z_iload_n b dX11_coin_23 rfl rfl ?_
  refine z_callv b (z_runV (q0 := 14) (As := [.int 0, .int p0]) (st := []) b (c_X9_set S p0 ⟨by omega, by omega⟩) cf_X9_set (cw_14 cy tE a rw S) rfl wm_X11_77 wi_X9_set ws_X9_set dX11_coin_24 rfl (Nat.le_of_ble_eq_true rfl) ⟨by decide, by decide, by decide, by decide⟩) (fun u52 h50 => ?_)
  obtain rfl := h50
  refine z_aload_n b dX11_coin_27 rfl rfl ?_
  refine z_get (q0 := 0) (k9 := 6) (v := .ref (a 25)) b (cw_0 cy tE a rw (su S 4 0 p0)) rfl in_X11 (by decide) wf_X11_52 rfl dX11_coin_28 ?_
  refine z_callv b (z_runV (q0 := 25) (As := []) (st := []) b (c_X8_forget (su S 4 0 p0) h_i_24) cf_X8_forget (cw_25 cy tE a rw (su S 4 0 p0)) rfl wm_X11_81 wi_X8_forget ws_X8_forget dX11_coin_31 rfl (Nat.le_of_ble_eq_true rfl) ⟨by decide, by decide, by decide, by decide⟩) (fun u55 h53 => ?_)
  obtain rfl := h53
  refine z_iconst (v := 1) b dX11_coin_34 (by decide) ?_
  exact z_zret (u := (su S 4 0 p0)) b rfl (by decide) dX11_coin_35 ⟨rfl, rfl⟩ rfl (by decide) (by decide)

set_option maxHeartbeats 4000000 in
set_option maxRecDepth 100000 in
theorem c_X12_isIn_5 {l : Launch} {D : va_G} {cy : Nat → ClassId} {T0 tB tE : Nat} {a : Nat → Nat} (S : GS) (p0 : Int32)  (hr_p0 : 0 ≤ p0.toInt ∧ p0.toInt ≤ 15) : Ct l D cy T0 tB tE yX12_isIn cX12_isIn 3 (some .boolean) 0 0 0 0 (mw cy a S) [.int p0, .int 0, .int 15] (QI D (U := GS) (fun r u => 1 = r ∧ S = u) (mw cy a)) := by
  refine Ct.ofZ RX12 "isIn" [(0, .int p0), (1, .int 0), (2, .int 15)] rfl rfl rfl rfl (Nat.le_of_ble_eq_true rfl) ?_
  intro p e R s m args below meth c A b
  refine z_iload_n b dX12_isIn_0 rfl rfl ?_
  refine z_iload_n b dX12_isIn_1 rfl rfl ?_
  refine y_icmp_lt (tgt := 14) (xl := p0.toInt) (yl := 0) b rfl (by decide) dX12_isIn_2 (by decide) (fun c59 => ?_) (fun c59 => ?_)
  · exfalso; omega
  · refine z_iload_n b dX12_isIn_5 rfl rfl ?_
    refine z_iload_n b dX12_isIn_6 rfl rfl ?_
    refine y_icmp_gt (tgt := 14) (xl := p0.toInt) (yl := 15) b rfl (by decide) dX12_isIn_7 (by decide) (fun c60 => ?_) (fun c60 => ?_)
    · exfalso; omega
    · refine z_iconst (v := 1) b dX12_isIn_10 (by decide) ?_
      refine z_goto (tgt := 15) b dX12_isIn_11 (by decide) ?_
      exact z_zret (u := S) b rfl (by decide) dX12_isIn_15 ⟨rfl, rfl⟩ rfl (by decide) (by decide)

set_option maxHeartbeats 4000000 in
set_option maxRecDepth 100000 in
theorem c_X12_other {l : Launch} {D : va_G} {cy : Nat → ClassId} {T0 tB tE : Nat} {a : Nat → Nat} (S : GS)   : Ct l D cy T0 tB tE yX12_other cX12_other 2 (some .int) 0 0 0 0 (mw cy a S) [.int 2, .int 1] (QI D (U := GS) (fun r u => 1 = r ∧ S = u) (mw cy a)) := by
  refine Ct.ofZ RX12 "other" [(0, .int 2), (1, .int 1)] rfl rfl rfl rfl (Nat.le_of_ble_eq_true rfl) ?_
  intro p e R s m args below meth c A b
  refine z_iload_n b dX12_other_0 rfl rfl ?_
  refine z_iconst (v := 1) b dX12_other_1 (by decide) ?_
  refine z_iadd (v := 3) b dX12_other_2 (by decide) ?_
  refine z_iload_n b dX12_other_3 rfl rfl ?_
  refine z_iadd (v := 4) b dX12_other_4 (by decide) ?_
  refine z_iconst (v := 3) b dX12_other_5 (by decide) ?_
  refine z_irem (v := 1) b dX12_other_6 (by decide) (by decide) ?_
  exact z_iret (u := S) b rfl dX12_other_7 ⟨rfl, rfl⟩ rfl (by decide) (by decide)

set_option maxHeartbeats 4000000 in
set_option maxRecDepth 100000 in
theorem c_X12_other_2 {l : Launch} {D : va_G} {cy : Nat → ClassId} {T0 tB tE : Nat} {a : Nat → Nat} (S : GS)   : Ct l D cy T0 tB tE yX12_other cX12_other 2 (some .int) 0 0 0 0 (mw cy a S) [.int 2, .int 0] (QI D (U := GS) (fun r u => 0 = r ∧ S = u) (mw cy a)) := by
  refine Ct.ofZ RX12 "other" [(0, .int 2), (1, .int 0)] rfl rfl rfl rfl (Nat.le_of_ble_eq_true rfl) ?_
  intro p e R s m args below meth c A b
  refine z_iload_n b dX12_other_0 rfl rfl ?_
  refine z_iconst (v := 1) b dX12_other_1 (by decide) ?_
  refine z_iadd (v := 3) b dX12_other_2 (by decide) ?_
  refine z_iload_n b dX12_other_3 rfl rfl ?_
  refine z_iadd (v := 3) b dX12_other_4 (by decide) ?_
  refine z_iconst (v := 3) b dX12_other_5 (by decide) ?_
  refine z_irem (v := 0) b dX12_other_6 (by decide) (by decide) ?_
  exact z_iret (u := S) b rfl dX12_other_7 ⟨rfl, rfl⟩ rfl (by decide) (by decide)

set_option maxHeartbeats 4000000 in
set_option maxRecDepth 100000 in
theorem c_X12_other_3 {l : Launch} {D : va_G} {cy : Nat → ClassId} {T0 tB tE : Nat} {a : Nat → Nat} (S : GS)   : Ct l D cy T0 tB tE yX12_other cX12_other 2 (some .int) 0 0 0 0 (mw cy a S) [.int 1, .int 1] (QI D (U := GS) (fun r u => 0 = r ∧ S = u) (mw cy a)) := by
  refine Ct.ofZ RX12 "other" [(0, .int 1), (1, .int 1)] rfl rfl rfl rfl (Nat.le_of_ble_eq_true rfl) ?_
  intro p e R s m args below meth c A b
  refine z_iload_n b dX12_other_0 rfl rfl ?_
  refine z_iconst (v := 1) b dX12_other_1 (by decide) ?_
  refine z_iadd (v := 2) b dX12_other_2 (by decide) ?_
  refine z_iload_n b dX12_other_3 rfl rfl ?_
  refine z_iadd (v := 3) b dX12_other_4 (by decide) ?_
  refine z_iconst (v := 3) b dX12_other_5 (by decide) ?_
  refine z_irem (v := 0) b dX12_other_6 (by decide) (by decide) ?_
  exact z_iret (u := S) b rfl dX12_other_7 ⟨rfl, rfl⟩ rfl (by decide) (by decide)

set_option maxHeartbeats 4000000 in
set_option maxRecDepth 100000 in
theorem c_X12_other_4 {l : Launch} {D : va_G} {cy : Nat → ClassId} {T0 tB tE : Nat} {a : Nat → Nat} (S : GS)   : Ct l D cy T0 tB tE yX12_other cX12_other 2 (some .int) 0 0 0 0 (mw cy a S) [.int 1, .int 0] (QI D (U := GS) (fun r u => 2 = r ∧ S = u) (mw cy a)) := by
  refine Ct.ofZ RX12 "other" [(0, .int 1), (1, .int 0)] rfl rfl rfl rfl (Nat.le_of_ble_eq_true rfl) ?_
  intro p e R s m args below meth c A b
  refine z_iload_n b dX12_other_0 rfl rfl ?_
  refine z_iconst (v := 1) b dX12_other_1 (by decide) ?_
  refine z_iadd (v := 2) b dX12_other_2 (by decide) ?_
  refine z_iload_n b dX12_other_3 rfl rfl ?_
  refine z_iadd (v := 2) b dX12_other_4 (by decide) ?_
  refine z_iconst (v := 3) b dX12_other_5 (by decide) ?_
  refine z_irem (v := 2) b dX12_other_6 (by decide) (by decide) ?_
  exact z_iret (u := S) b rfl dX12_other_7 ⟨rfl, rfl⟩ rfl (by decide) (by decide)

set_option maxHeartbeats 4000000 in
set_option maxRecDepth 100000 in
theorem c_X12_other_5 {l : Launch} {D : va_G} {cy : Nat → ClassId} {T0 tB tE : Nat} {a : Nat → Nat} (S : GS)   : Ct l D cy T0 tB tE yX12_other cX12_other 2 (some .int) 0 0 0 0 (mw cy a S) [.int 0, .int 1] (QI D (U := GS) (fun r u => 2 = r ∧ S = u) (mw cy a)) := by
  refine Ct.ofZ RX12 "other" [(0, .int 0), (1, .int 1)] rfl rfl rfl rfl (Nat.le_of_ble_eq_true rfl) ?_
  intro p e R s m args below meth c A b
  refine z_iload_n b dX12_other_0 rfl rfl ?_
  refine z_iconst (v := 1) b dX12_other_1 (by decide) ?_
  refine z_iadd (v := 1) b dX12_other_2 (by decide) ?_
  refine z_iload_n b dX12_other_3 rfl rfl ?_
  refine z_iadd (v := 2) b dX12_other_4 (by decide) ?_
  refine z_iconst (v := 3) b dX12_other_5 (by decide) ?_
  refine z_irem (v := 2) b dX12_other_6 (by decide) (by decide) ?_
  exact z_iret (u := S) b rfl dX12_other_7 ⟨rfl, rfl⟩ rfl (by decide) (by decide)

set_option maxHeartbeats 4000000 in
set_option maxRecDepth 100000 in
theorem c_X12_other_6 {l : Launch} {D : va_G} {cy : Nat → ClassId} {T0 tB tE : Nat} {a : Nat → Nat} (S : GS)   : Ct l D cy T0 tB tE yX12_other cX12_other 2 (some .int) 0 0 0 0 (mw cy a S) [.int 0, .int 0] (QI D (U := GS) (fun r u => 1 = r ∧ S = u) (mw cy a)) := by
  refine Ct.ofZ RX12 "other" [(0, .int 0), (1, .int 0)] rfl rfl rfl rfl (Nat.le_of_ble_eq_true rfl) ?_
  intro p e R s m args below meth c A b
  refine z_iload_n b dX12_other_0 rfl rfl ?_
  refine z_iconst (v := 1) b dX12_other_1 (by decide) ?_
  refine z_iadd (v := 1) b dX12_other_2 (by decide) ?_
  refine z_iload_n b dX12_other_3 rfl rfl ?_
  refine z_iadd (v := 1) b dX12_other_4 (by decide) ?_
  refine z_iconst (v := 3) b dX12_other_5 (by decide) ?_
  refine z_irem (v := 1) b dX12_other_6 (by decide) (by decide) ?_
  exact z_iret (u := S) b rfl dX12_other_7 ⟨rfl, rfl⟩ rfl (by decide) (by decide)

set_option maxHeartbeats 4000000 in
set_option maxRecDepth 100000 in
theorem ch_X12_takes_1 {p : Program} {l : Launch} {e : Env} {R : Room} {s : State} {m : MethodId} {args : Array Value} {below : List Frame} {meth : Method} {c : Code} {D : va_G} {cy : Nat → ClassId} {T0 tB tE : Nat} {A : Nat → Prop} {Q : State → Prop} {a : Nat → Nat} (S : GS)  (h_a_1_6 : ar S 1 6 = 0) (h_a_1_7 : ar S 1 7 = 0) (h_a_2_2 : ar S 2 2 = 3) (h_a_3_2 : ar S 3 2 = 0) (h_a_3_6 : ar S 3 6 = 0) (h_a_4_6 : ar S 4 6 = 0) (h_a_4_7 : ar S 4 7 = 0) (b : Bz p R s m args meth c D cy T0 tB tE A 7 cX12_takes RX12 none "takes" 1 21 0 0) (k : Z p l e R s m args below meth c D A 7 Q 0 0 (mw cy a S) [(6, .int 0), (3, .long 6442647558), (5, .int 2), (0, .ref (a 0)), (1, .long 1649317774848)] 168 [.long 0, .int 2, .ref (a 1)]) : Z p l e R s m args below meth c D A 7 Q 0 0 (mw cy a S) [(0, .ref (a 0)), (1, .long 1649317774848)] 0 [] := by
  refine z_lload_n b dX12_takes_0 rfl rfl ?_
  refine z_lstore_n (lv' := [(3, .long 1649317774848), (0, .ref (a 0)), (1, .long 1649317774848)]) b dX12_takes_1 rfl (by decide) rfl ?_
  refine z_iconst (v := 2) b dX12_takes_2 (by decide) ?_
  refine z_istore (lv' := [(5, .int 2), (3, .long 1649317774848), (0, .ref (a 0)), (1, .long 1649317774848)]) b dX12_takes_3 (by decide) rfl ?_
  refine z_iload b dX12_takes_5 rfl ?_
  refine z_if_lt_f (tgt := 181) b dX12_takes_7 (by decide) (by decide) ?_
  refine z_iconst (v := 1) b dX12_takes_10 (by decide) ?_
  refine z_istore (lv' := [(6, .int 1), (5, .int 2), (3, .long 1649317774848), (0, .ref (a 0)), (1, .long 1649317774848)]) b dX12_takes_11 (by decide) rfl ?_
  refine z_iload b dX12_takes_13 rfl ?_
  refine z_if_lt_f (tgt := 83) b dX12_takes_15 (by decide) (by decide) ?_
  refine z_aload_n b dX12_takes_18 rfl rfl ?_
  refine z_get (q0 := 0) (k9 := 4) (v := .ref (a 5)) b (mw_0 cy a S) rfl in_X12 (by decide) wf_X12_27 rfl dX12_takes_19 ?_
  refine z_iconst (v := 3) b dX12_takes_22 (by decide) ?_
  refine z_iload b dX12_takes_23 rfl ?_
  refine z_imul (v := 6) b dX12_takes_25 (by decide) ?_
  refine z_iload b dX12_takes_26 rfl ?_
  refine z_iload b dX12_takes_28 rfl ?_
  refine z_calli b (z_runS (As := [.int 2, .int 1]) (st := [.int 6, .ref (a 5)]) b (c_X12_other S ) cf_X12_other wm_X12_160 ws_X12_other dX12_takes_30 rfl (Nat.le_of_ble_eq_true rfl) ⟨by decide, by decide, by decide, by decide⟩) (fun r65 u66 h64 => ?_)
  obtain ⟨rfl, rfl⟩ := h64
  refine z_iadd (v := 7) b dX12_takes_33 (by decide) ?_
  refine z_lload_n b dX12_takes_34 rfl rfl ?_
  refine z_lconst (v := 1) b dX12_takes_35 (by decide) ?_
  refine z_land (v := 0) b dX12_takes_36 (by decide) ?_
  refine z_lconst (v := 1) b dX12_takes_37 (by decide) ?_
  refine z_lcmp (v := (-1)) b dX12_takes_38 (by decide) ?_
  refine z_if_ne_t (tgt := 46) b dX12_takes_39 (by decide) (by decide) ?_
  refine z_iconst (v := 0) b dX12_takes_46 (by decide) ?_
  refine y_zast (q0 := 5) (j := 7) b (mw_5 cy a S) (by decide) (by decide) dX12_takes_47 ((mwa_5 cy a S 7 0).trans (congrArg (mw cy a) (su_same h_a_4_7))) ?_
  refine z_aload_n b dX12_takes_48 rfl rfl ?_
  refine z_get (q0 := 0) (k9 := 1) (v := .ref (a 2)) b (mw_0 cy a S) rfl in_X12 (by decide) wf_X12_17 rfl dX12_takes_49 ?_
  refine z_iconst (v := 3) b dX12_takes_52 (by decide) ?_
  refine z_iload b dX12_takes_53 rfl ?_
  refine z_imul (v := 6) b dX12_takes_55 (by decide) ?_
  refine z_iload b dX12_takes_56 rfl ?_
  refine z_iload b dX12_takes_58 rfl ?_
  refine z_calli b (z_runS (As := [.int 2, .int 1]) (st := [.int 6, .ref (a 2)]) b (c_X12_other S ) cf_X12_other wm_X12_160 ws_X12_other dX12_takes_60 rfl (Nat.le_of_ble_eq_true rfl) ⟨by decide, by decide, by decide, by decide⟩) (fun r68 u69 h67 => ?_)
  obtain ⟨rfl, rfl⟩ := h67
  refine z_iadd (v := 7) b dX12_takes_63 (by decide) ?_
  refine z_lload_n b dX12_takes_64 rfl rfl ?_
  refine z_iconst (v := 1) b dX12_takes_65 (by decide) ?_
  refine z_lshr (v := 824658887424) b dX12_takes_66 (by decide) ?_
  refine z_ldc2 b wl_X12_164 dX12_takes_67 ?_
  refine z_land (v := 0) b dX12_takes_70 (by decide) ?_
  refine z_l2i (v := 0) b dX12_takes_71 (by decide) ?_
  refine y_iast (q0 := 2) (j := 7) b (mw_2 cy a S) (by decide) dX12_takes_72 ((mwa_2 cy a S 7 0).trans (congrArg (mw cy a) (su_same h_a_1_7))) ?_
  refine z_lload_n b dX12_takes_73 rfl rfl ?_
  refine z_iconst (v := 4) b dX12_takes_74 (by decide) ?_
  refine z_lshr (v := 103082360928) b dX12_takes_75 (by decide) ?_
  refine z_lstore_n (lv' := [(3, .long 103082360928), (6, .int 1), (5, .int 2), (0, .ref (a 0)), (1, .long 1649317774848)]) b dX12_takes_76 rfl (by decide) rfl ?_
  refine z_iinc (k9 := 1) (v := 0) (lv' := [(6, .int 0), (3, .long 103082360928), (5, .int 2), (0, .ref (a 0)), (1, .long 1649317774848)]) b dX12_takes_77 rfl (by decide) (by decide) rfl ?_
  refine z_goto (tgt := 13) b dX12_takes_80 (by decide) ?_
  refine z_iload b dX12_takes_13 rfl ?_
  refine z_if_lt_f (tgt := 83) b dX12_takes_15 (by decide) (by decide) ?_
  refine z_aload_n b dX12_takes_18 rfl rfl ?_
  refine z_get (q0 := 0) (k9 := 4) (v := .ref (a 5)) b (mw_0 cy a S) rfl in_X12 (by decide) wf_X12_27 rfl dX12_takes_19 ?_
  refine z_iconst (v := 3) b dX12_takes_22 (by decide) ?_
  refine z_iload b dX12_takes_23 rfl ?_
  refine z_imul (v := 6) b dX12_takes_25 (by decide) ?_
  refine z_iload b dX12_takes_26 rfl ?_
  refine z_iload b dX12_takes_28 rfl ?_
  refine z_calli b (z_runS (As := [.int 2, .int 0]) (st := [.int 6, .ref (a 5)]) b (c_X12_other_2 S ) cf_X12_other wm_X12_160 ws_X12_other dX12_takes_30 rfl (Nat.le_of_ble_eq_true rfl) ⟨by decide, by decide, by decide, by decide⟩) (fun r71 u72 h70 => ?_)
  obtain ⟨rfl, rfl⟩ := h70
  refine z_iadd (v := 6) b dX12_takes_33 (by decide) ?_
  refine z_lload_n b dX12_takes_34 rfl rfl ?_
  refine z_lconst (v := 1) b dX12_takes_35 (by decide) ?_
  refine z_land (v := 0) b dX12_takes_36 (by decide) ?_
  refine z_lconst (v := 1) b dX12_takes_37 (by decide) ?_
  refine z_lcmp (v := (-1)) b dX12_takes_38 (by decide) ?_
  refine z_if_ne_t (tgt := 46) b dX12_takes_39 (by decide) (by decide) ?_
  refine z_iconst (v := 0) b dX12_takes_46 (by decide) ?_
  refine y_zast (q0 := 5) (j := 6) b (mw_5 cy a S) (by decide) (by decide) dX12_takes_47 ((mwa_5 cy a S 6 0).trans (congrArg (mw cy a) (su_same h_a_4_6))) ?_
  refine z_aload_n b dX12_takes_48 rfl rfl ?_
  refine z_get (q0 := 0) (k9 := 1) (v := .ref (a 2)) b (mw_0 cy a S) rfl in_X12 (by decide) wf_X12_17 rfl dX12_takes_49 ?_
  refine z_iconst (v := 3) b dX12_takes_52 (by decide) ?_
  refine z_iload b dX12_takes_53 rfl ?_
  refine z_imul (v := 6) b dX12_takes_55 (by decide) ?_
  refine z_iload b dX12_takes_56 rfl ?_
  refine z_iload b dX12_takes_58 rfl ?_
  refine z_calli b (z_runS (As := [.int 2, .int 0]) (st := [.int 6, .ref (a 2)]) b (c_X12_other_2 S ) cf_X12_other wm_X12_160 ws_X12_other dX12_takes_60 rfl (Nat.le_of_ble_eq_true rfl) ⟨by decide, by decide, by decide, by decide⟩) (fun r74 u75 h73 => ?_)
  obtain ⟨rfl, rfl⟩ := h73
  refine z_iadd (v := 6) b dX12_takes_63 (by decide) ?_
  refine z_lload_n b dX12_takes_64 rfl rfl ?_
  refine z_iconst (v := 1) b dX12_takes_65 (by decide) ?_
  refine z_lshr (v := 51541180464) b dX12_takes_66 (by decide) ?_
  refine z_ldc2 b wl_X12_164 dX12_takes_67 ?_
  refine z_land (v := 0) b dX12_takes_70 (by decide) ?_
  refine z_l2i (v := 0) b dX12_takes_71 (by decide) ?_
  refine y_iast (q0 := 2) (j := 6) b (mw_2 cy a S) (by decide) dX12_takes_72 ((mwa_2 cy a S 6 0).trans (congrArg (mw cy a) (su_same h_a_1_6))) ?_
  refine z_lload_n b dX12_takes_73 rfl rfl ?_
  refine z_iconst (v := 4) b dX12_takes_74 (by decide) ?_
  refine z_lshr (v := 6442647558) b dX12_takes_75 (by decide) ?_
  refine z_lstore_n (lv' := [(3, .long 6442647558), (6, .int 0), (5, .int 2), (0, .ref (a 0)), (1, .long 1649317774848)]) b dX12_takes_76 rfl (by decide) rfl ?_
  refine z_iinc (k9 := 1) (v := (-1)) (lv' := [(6, .int (-1)), (3, .long 6442647558), (5, .int 2), (0, .ref (a 0)), (1, .long 1649317774848)]) b dX12_takes_77 rfl (by decide) (by decide) rfl ?_
  refine z_goto (tgt := 13) b dX12_takes_80 (by decide) ?_
  refine z_iload b dX12_takes_13 rfl ?_
  refine z_if_lt_t (tgt := 83) b dX12_takes_15 (by decide) (by decide) ?_
  refine z_iload b dX12_takes_83 rfl ?_
  refine z_iconst (v := 0) b dX12_takes_85 (by decide) ?_
  refine z_calli b (z_runS (As := [.int 2, .int 0]) (st := []) b (c_X12_other_2 S ) cf_X12_other wm_X12_160 ws_X12_other dX12_takes_86 rfl (Nat.le_of_ble_eq_true rfl) ⟨by decide, by decide, by decide, by decide⟩) (fun r77 u78 h76 => ?_)
  obtain ⟨rfl, rfl⟩ := h76
  refine z_istore (lv' := [(6, .int 0), (3, .long 6442647558), (5, .int 2), (0, .ref (a 0)), (1, .long 1649317774848)]) b dX12_takes_89 (by decide) rfl ?_
  refine z_aload_n b dX12_takes_91 rfl rfl ?_
  refine z_get (q0 := 0) (k9 := 3) (v := .ref (a 4)) b (mw_0 cy a S) rfl in_X12 (by decide) wf_X12_23 rfl dX12_takes_92 ?_
  refine z_iconst (v := 3) b dX12_takes_95 (by decide) ?_
  refine z_iload b dX12_takes_96 rfl ?_
  refine z_imul (v := 6) b dX12_takes_98 (by decide) ?_
  refine z_iload b dX12_takes_99 rfl ?_
  refine z_iadd (v := 6) b dX12_takes_101 (by decide) ?_
  refine z_lload_n b dX12_takes_102 rfl rfl ?_
  refine z_lconst (v := 1) b dX12_takes_103 (by decide) ?_
  refine z_land (v := 0) b dX12_takes_104 (by decide) ?_
  refine z_lconst (v := 1) b dX12_takes_105 (by decide) ?_
  refine z_lcmp (v := (-1)) b dX12_takes_106 (by decide) ?_
  refine z_if_ne_t (tgt := 114) b dX12_takes_107 (by decide) (by decide) ?_
  refine z_iconst (v := 0) b dX12_takes_114 (by decide) ?_
  refine y_zast (q0 := 4) (j := 6) b (mw_4 cy a S) (by decide) (by decide) dX12_takes_115 ((mwa_4 cy a S 6 0).trans (congrArg (mw cy a) (su_same h_a_3_6))) ?_
  refine z_aload_n b dX12_takes_116 rfl rfl ?_
  refine z_get (q0 := 0) (k9 := 3) (v := .ref (a 4)) b (mw_0 cy a S) rfl in_X12 (by decide) wf_X12_23 rfl dX12_takes_117 ?_
  refine z_iconst (v := 3) b dX12_takes_120 (by decide) ?_
  refine z_iload b dX12_takes_121 rfl ?_
  refine z_imul (v := 0) b dX12_takes_123 (by decide) ?_
  refine z_iload b dX12_takes_124 rfl ?_
  refine z_iadd (v := 2) b dX12_takes_126 (by decide) ?_
  refine z_aload_n b dX12_takes_127 rfl rfl ?_
  refine z_get (q0 := 0) (k9 := 3) (v := .ref (a 4)) b (mw_0 cy a S) rfl in_X12 (by decide) wf_X12_23 rfl dX12_takes_128 ?_
  refine z_iconst (v := 3) b dX12_takes_131 (by decide) ?_
  refine z_iload b dX12_takes_132 rfl ?_
  refine z_imul (v := 6) b dX12_takes_134 (by decide) ?_
  refine z_iload b dX12_takes_135 rfl ?_
  refine z_iadd (v := 6) b dX12_takes_137 (by decide) ?_
  refine y_zald (q0 := 4) (j := 6) (v := (ar S 3 6)) b (mw_4 cy a S) (by decide) rfl dX12_takes_138 ?_
  refine z_eqi h_a_3_6 ?_
  refine y_zast (q0 := 4) (j := 2) b (mw_4 cy a S) (by decide) (by decide) dX12_takes_139 ((mwa_4 cy a S 2 0).trans (congrArg (mw cy a) (su_same h_a_3_2))) ?_
  refine z_aload_n b dX12_takes_140 rfl rfl ?_
  refine z_get (q0 := 0) (k9 := 2) (v := .ref (a 3)) b (mw_0 cy a S) rfl in_X12 (by decide) wf_X12_20 rfl dX12_takes_141 ?_
  refine z_iload b dX12_takes_144 rfl ?_
  refine z_lload_n b dX12_takes_146 rfl rfl ?_
  refine z_iconst (v := 1) b dX12_takes_147 (by decide) ?_
  refine z_lshr (v := 3221323779) b dX12_takes_148 (by decide) ?_
  refine z_ldc2 b wl_X12_166 dX12_takes_149 ?_
  refine z_land (v := 3) b dX12_takes_152 (by decide) ?_
  refine z_l2i (v := 3) b dX12_takes_153 (by decide) ?_
  refine y_iast (q0 := 3) (j := 2) b (mw_3 cy a S) (by decide) dX12_takes_154 ((mwa_3 cy a S 2 3).trans (congrArg (mw cy a) (su_same h_a_2_2))) ?_
  refine z_aload_n b dX12_takes_155 rfl rfl ?_
  refine z_get (q0 := 0) (k9 := 0) (v := .ref (a 1)) b (mw_0 cy a S) rfl in_X12 (by decide) wf_X12_13 rfl dX12_takes_156 ?_
  refine z_iload b dX12_takes_159 rfl ?_
  refine z_lload_n b dX12_takes_161 rfl rfl ?_
  refine z_iconst (v := 3) b dX12_takes_162 (by decide) ?_
  refine z_lshr (v := 805330944) b dX12_takes_163 (by decide) ?_
  refine z_ldc2 b wl_X12_168 dX12_takes_164 ?_
  refine z_land (v := 0) b dX12_takes_167 (by decide) ?_
  exact k

set_option maxHeartbeats 4000000 in
set_option maxRecDepth 100000 in
theorem ch_X12_takes_2 {p : Program} {l : Launch} {e : Env} {R : Room} {s : State} {m : MethodId} {args : Array Value} {below : List Frame} {meth : Method} {c : Code} {D : va_G} {cy : Nat → ClassId} {T0 tB tE : Nat} {A : Nat → Prop} {Q : State → Prop} {a : Nat → Nat} (S : GS)  (h_a_0_2 : ar S 0 2 = 0) (h_a_1_3 : ar S 1 3 = 0) (h_a_1_5 : ar S 1 5 = 0) (h_a_2_1 : ar S 2 1 = 3) (h_a_3_5 : ar S 3 5 = 0) (h_a_3_7 : ar S 3 7 = 0) (h_a_4_3 : ar S 4 3 = 0) (h_a_4_5 : ar S 4 5 = 0) (b : Bz p R s m args meth c D cy T0 tB tE A 7 cX12_takes RX12 none "takes" 1 21 0 0) (k : Z p l e R s m args below meth c D A 7 Q 0 0 (mw cy a S) [(6, .int 2), (3, .long 196614), (5, .int 1), (0, .ref (a 0)), (1, .long 1649317774848)] 162 [.long 196614, .int 1, .ref (a 1)]) : Z p l e R s m args below meth c D A 7 Q 0 0 (mw cy a S) [(6, .int 0), (3, .long 6442647558), (5, .int 2), (0, .ref (a 0)), (1, .long 1649317774848)] 168 [.long 0, .int 2, .ref (a 1)] := by
  refine z_l2i (v := 0) b dX12_takes_168 (by decide) ?_
  refine y_iast (q0 := 1) (j := 2) b (mw_1 cy a S) (by decide) dX12_takes_169 ((mwa_1 cy a S 2 0).trans (congrArg (mw cy a) (su_same h_a_0_2))) ?_
  refine z_lload_n b dX12_takes_170 rfl rfl ?_
  refine z_bipush (v := 7) b dX12_takes_171 (by decide) ?_
  refine z_lshr (v := 50333184) b dX12_takes_173 (by decide) ?_
  refine z_lstore_n (lv' := [(3, .long 50333184), (6, .int 0), (5, .int 2), (0, .ref (a 0)), (1, .long 1649317774848)]) b dX12_takes_174 rfl (by decide) rfl ?_
  refine z_iinc (k9 := 2) (v := 1) (lv' := [(5, .int 1), (3, .long 50333184), (6, .int 0), (0, .ref (a 0)), (1, .long 1649317774848)]) b dX12_takes_175 rfl (by decide) (by decide) rfl ?_
  refine z_goto (tgt := 5) b dX12_takes_178 (by decide) ?_
  refine z_iload b dX12_takes_5 rfl ?_
  refine z_if_lt_f (tgt := 181) b dX12_takes_7 (by decide) (by decide) ?_
  refine z_iconst (v := 1) b dX12_takes_10 (by decide) ?_
  refine z_istore (lv' := [(6, .int 1), (5, .int 1), (3, .long 50333184), (0, .ref (a 0)), (1, .long 1649317774848)]) b dX12_takes_11 (by decide) rfl ?_
  refine z_iload b dX12_takes_13 rfl ?_
  refine z_if_lt_f (tgt := 83) b dX12_takes_15 (by decide) (by decide) ?_
  refine z_aload_n b dX12_takes_18 rfl rfl ?_
  refine z_get (q0 := 0) (k9 := 4) (v := .ref (a 5)) b (mw_0 cy a S) rfl in_X12 (by decide) wf_X12_27 rfl dX12_takes_19 ?_
  refine z_iconst (v := 3) b dX12_takes_22 (by decide) ?_
  refine z_iload b dX12_takes_23 rfl ?_
  refine z_imul (v := 3) b dX12_takes_25 (by decide) ?_
  refine z_iload b dX12_takes_26 rfl ?_
  refine z_iload b dX12_takes_28 rfl ?_
  refine z_calli b (z_runS (As := [.int 1, .int 1]) (st := [.int 3, .ref (a 5)]) b (c_X12_other_3 S ) cf_X12_other wm_X12_160 ws_X12_other dX12_takes_30 rfl (Nat.le_of_ble_eq_true rfl) ⟨by decide, by decide, by decide, by decide⟩) (fun r80 u81 h79 => ?_)
  obtain ⟨rfl, rfl⟩ := h79
  refine z_iadd (v := 3) b dX12_takes_33 (by decide) ?_
  refine z_lload_n b dX12_takes_34 rfl rfl ?_
  refine z_lconst (v := 1) b dX12_takes_35 (by decide) ?_
  refine z_land (v := 0) b dX12_takes_36 (by decide) ?_
  refine z_lconst (v := 1) b dX12_takes_37 (by decide) ?_
  refine z_lcmp (v := (-1)) b dX12_takes_38 (by decide) ?_
  refine z_if_ne_t (tgt := 46) b dX12_takes_39 (by decide) (by decide) ?_
  refine z_iconst (v := 0) b dX12_takes_46 (by decide) ?_
  refine y_zast (q0 := 5) (j := 3) b (mw_5 cy a S) (by decide) (by decide) dX12_takes_47 ((mwa_5 cy a S 3 0).trans (congrArg (mw cy a) (su_same h_a_4_3))) ?_
  refine z_aload_n b dX12_takes_48 rfl rfl ?_
  refine z_get (q0 := 0) (k9 := 1) (v := .ref (a 2)) b (mw_0 cy a S) rfl in_X12 (by decide) wf_X12_17 rfl dX12_takes_49 ?_
  refine z_iconst (v := 3) b dX12_takes_52 (by decide) ?_
  refine z_iload b dX12_takes_53 rfl ?_
  refine z_imul (v := 3) b dX12_takes_55 (by decide) ?_
  refine z_iload b dX12_takes_56 rfl ?_
  refine z_iload b dX12_takes_58 rfl ?_
  refine z_calli b (z_runS (As := [.int 1, .int 1]) (st := [.int 3, .ref (a 2)]) b (c_X12_other_3 S ) cf_X12_other wm_X12_160 ws_X12_other dX12_takes_60 rfl (Nat.le_of_ble_eq_true rfl) ⟨by decide, by decide, by decide, by decide⟩) (fun r83 u84 h82 => ?_)
  obtain ⟨rfl, rfl⟩ := h82
  refine z_iadd (v := 3) b dX12_takes_63 (by decide) ?_
  refine z_lload_n b dX12_takes_64 rfl rfl ?_
  refine z_iconst (v := 1) b dX12_takes_65 (by decide) ?_
  refine z_lshr (v := 25166592) b dX12_takes_66 (by decide) ?_
  refine z_ldc2 b wl_X12_164 dX12_takes_67 ?_
  refine z_land (v := 0) b dX12_takes_70 (by decide) ?_
  refine z_l2i (v := 0) b dX12_takes_71 (by decide) ?_
  refine y_iast (q0 := 2) (j := 3) b (mw_2 cy a S) (by decide) dX12_takes_72 ((mwa_2 cy a S 3 0).trans (congrArg (mw cy a) (su_same h_a_1_3))) ?_
  refine z_lload_n b dX12_takes_73 rfl rfl ?_
  refine z_iconst (v := 4) b dX12_takes_74 (by decide) ?_
  refine z_lshr (v := 3145824) b dX12_takes_75 (by decide) ?_
  refine z_lstore_n (lv' := [(3, .long 3145824), (6, .int 1), (5, .int 1), (0, .ref (a 0)), (1, .long 1649317774848)]) b dX12_takes_76 rfl (by decide) rfl ?_
  refine z_iinc (k9 := 1) (v := 0) (lv' := [(6, .int 0), (3, .long 3145824), (5, .int 1), (0, .ref (a 0)), (1, .long 1649317774848)]) b dX12_takes_77 rfl (by decide) (by decide) rfl ?_
  refine z_goto (tgt := 13) b dX12_takes_80 (by decide) ?_
  refine z_iload b dX12_takes_13 rfl ?_
  refine z_if_lt_f (tgt := 83) b dX12_takes_15 (by decide) (by decide) ?_
  refine z_aload_n b dX12_takes_18 rfl rfl ?_
  refine z_get (q0 := 0) (k9 := 4) (v := .ref (a 5)) b (mw_0 cy a S) rfl in_X12 (by decide) wf_X12_27 rfl dX12_takes_19 ?_
  refine z_iconst (v := 3) b dX12_takes_22 (by decide) ?_
  refine z_iload b dX12_takes_23 rfl ?_
  refine z_imul (v := 3) b dX12_takes_25 (by decide) ?_
  refine z_iload b dX12_takes_26 rfl ?_
  refine z_iload b dX12_takes_28 rfl ?_
  refine z_calli b (z_runS (As := [.int 1, .int 0]) (st := [.int 3, .ref (a 5)]) b (c_X12_other_4 S ) cf_X12_other wm_X12_160 ws_X12_other dX12_takes_30 rfl (Nat.le_of_ble_eq_true rfl) ⟨by decide, by decide, by decide, by decide⟩) (fun r86 u87 h85 => ?_)
  obtain ⟨rfl, rfl⟩ := h85
  refine z_iadd (v := 5) b dX12_takes_33 (by decide) ?_
  refine z_lload_n b dX12_takes_34 rfl rfl ?_
  refine z_lconst (v := 1) b dX12_takes_35 (by decide) ?_
  refine z_land (v := 0) b dX12_takes_36 (by decide) ?_
  refine z_lconst (v := 1) b dX12_takes_37 (by decide) ?_
  refine z_lcmp (v := (-1)) b dX12_takes_38 (by decide) ?_
  refine z_if_ne_t (tgt := 46) b dX12_takes_39 (by decide) (by decide) ?_
  refine z_iconst (v := 0) b dX12_takes_46 (by decide) ?_
  refine y_zast (q0 := 5) (j := 5) b (mw_5 cy a S) (by decide) (by decide) dX12_takes_47 ((mwa_5 cy a S 5 0).trans (congrArg (mw cy a) (su_same h_a_4_5))) ?_
  refine z_aload_n b dX12_takes_48 rfl rfl ?_
  refine z_get (q0 := 0) (k9 := 1) (v := .ref (a 2)) b (mw_0 cy a S) rfl in_X12 (by decide) wf_X12_17 rfl dX12_takes_49 ?_
  refine z_iconst (v := 3) b dX12_takes_52 (by decide) ?_
  refine z_iload b dX12_takes_53 rfl ?_
  refine z_imul (v := 3) b dX12_takes_55 (by decide) ?_
  refine z_iload b dX12_takes_56 rfl ?_
  refine z_iload b dX12_takes_58 rfl ?_
  refine z_calli b (z_runS (As := [.int 1, .int 0]) (st := [.int 3, .ref (a 2)]) b (c_X12_other_4 S ) cf_X12_other wm_X12_160 ws_X12_other dX12_takes_60 rfl (Nat.le_of_ble_eq_true rfl) ⟨by decide, by decide, by decide, by decide⟩) (fun r89 u90 h88 => ?_)
  obtain ⟨rfl, rfl⟩ := h88
  refine z_iadd (v := 5) b dX12_takes_63 (by decide) ?_
  refine z_lload_n b dX12_takes_64 rfl rfl ?_
  refine z_iconst (v := 1) b dX12_takes_65 (by decide) ?_
  refine z_lshr (v := 1572912) b dX12_takes_66 (by decide) ?_
  refine z_ldc2 b wl_X12_164 dX12_takes_67 ?_
  refine z_land (v := 0) b dX12_takes_70 (by decide) ?_
  refine z_l2i (v := 0) b dX12_takes_71 (by decide) ?_
  refine y_iast (q0 := 2) (j := 5) b (mw_2 cy a S) (by decide) dX12_takes_72 ((mwa_2 cy a S 5 0).trans (congrArg (mw cy a) (su_same h_a_1_5))) ?_
  refine z_lload_n b dX12_takes_73 rfl rfl ?_
  refine z_iconst (v := 4) b dX12_takes_74 (by decide) ?_
  refine z_lshr (v := 196614) b dX12_takes_75 (by decide) ?_
  refine z_lstore_n (lv' := [(3, .long 196614), (6, .int 0), (5, .int 1), (0, .ref (a 0)), (1, .long 1649317774848)]) b dX12_takes_76 rfl (by decide) rfl ?_
  refine z_iinc (k9 := 1) (v := (-1)) (lv' := [(6, .int (-1)), (3, .long 196614), (5, .int 1), (0, .ref (a 0)), (1, .long 1649317774848)]) b dX12_takes_77 rfl (by decide) (by decide) rfl ?_
  refine z_goto (tgt := 13) b dX12_takes_80 (by decide) ?_
  refine z_iload b dX12_takes_13 rfl ?_
  refine z_if_lt_t (tgt := 83) b dX12_takes_15 (by decide) (by decide) ?_
  refine z_iload b dX12_takes_83 rfl ?_
  refine z_iconst (v := 0) b dX12_takes_85 (by decide) ?_
  refine z_calli b (z_runS (As := [.int 1, .int 0]) (st := []) b (c_X12_other_4 S ) cf_X12_other wm_X12_160 ws_X12_other dX12_takes_86 rfl (Nat.le_of_ble_eq_true rfl) ⟨by decide, by decide, by decide, by decide⟩) (fun r92 u93 h91 => ?_)
  obtain ⟨rfl, rfl⟩ := h91
  refine z_istore (lv' := [(6, .int 2), (3, .long 196614), (5, .int 1), (0, .ref (a 0)), (1, .long 1649317774848)]) b dX12_takes_89 (by decide) rfl ?_
  refine z_aload_n b dX12_takes_91 rfl rfl ?_
  refine z_get (q0 := 0) (k9 := 3) (v := .ref (a 4)) b (mw_0 cy a S) rfl in_X12 (by decide) wf_X12_23 rfl dX12_takes_92 ?_
  refine z_iconst (v := 3) b dX12_takes_95 (by decide) ?_
  refine z_iload b dX12_takes_96 rfl ?_
  refine z_imul (v := 3) b dX12_takes_98 (by decide) ?_
  refine z_iload b dX12_takes_99 rfl ?_
  refine z_iadd (v := 5) b dX12_takes_101 (by decide) ?_
  refine z_lload_n b dX12_takes_102 rfl rfl ?_
  refine z_lconst (v := 1) b dX12_takes_103 (by decide) ?_
  refine z_land (v := 0) b dX12_takes_104 (by decide) ?_
  refine z_lconst (v := 1) b dX12_takes_105 (by decide) ?_
  refine z_lcmp (v := (-1)) b dX12_takes_106 (by decide) ?_
  refine z_if_ne_t (tgt := 114) b dX12_takes_107 (by decide) (by decide) ?_
  refine z_iconst (v := 0) b dX12_takes_114 (by decide) ?_
  refine y_zast (q0 := 4) (j := 5) b (mw_4 cy a S) (by decide) (by decide) dX12_takes_115 ((mwa_4 cy a S 5 0).trans (congrArg (mw cy a) (su_same h_a_3_5))) ?_
  refine z_aload_n b dX12_takes_116 rfl rfl ?_
  refine z_get (q0 := 0) (k9 := 3) (v := .ref (a 4)) b (mw_0 cy a S) rfl in_X12 (by decide) wf_X12_23 rfl dX12_takes_117 ?_
  refine z_iconst (v := 3) b dX12_takes_120 (by decide) ?_
  refine z_iload b dX12_takes_121 rfl ?_
  refine z_imul (v := 6) b dX12_takes_123 (by decide) ?_
  refine z_iload b dX12_takes_124 rfl ?_
  refine z_iadd (v := 7) b dX12_takes_126 (by decide) ?_
  refine z_aload_n b dX12_takes_127 rfl rfl ?_
  refine z_get (q0 := 0) (k9 := 3) (v := .ref (a 4)) b (mw_0 cy a S) rfl in_X12 (by decide) wf_X12_23 rfl dX12_takes_128 ?_
  refine z_iconst (v := 3) b dX12_takes_131 (by decide) ?_
  refine z_iload b dX12_takes_132 rfl ?_
  refine z_imul (v := 3) b dX12_takes_134 (by decide) ?_
  refine z_iload b dX12_takes_135 rfl ?_
  refine z_iadd (v := 5) b dX12_takes_137 (by decide) ?_
  refine y_zald (q0 := 4) (j := 5) (v := (ar S 3 5)) b (mw_4 cy a S) (by decide) rfl dX12_takes_138 ?_
  refine z_eqi h_a_3_5 ?_
  refine y_zast (q0 := 4) (j := 7) b (mw_4 cy a S) (by decide) (by decide) dX12_takes_139 ((mwa_4 cy a S 7 0).trans (congrArg (mw cy a) (su_same h_a_3_7))) ?_
  refine z_aload_n b dX12_takes_140 rfl rfl ?_
  refine z_get (q0 := 0) (k9 := 2) (v := .ref (a 3)) b (mw_0 cy a S) rfl in_X12 (by decide) wf_X12_20 rfl dX12_takes_141 ?_
  refine z_iload b dX12_takes_144 rfl ?_
  refine z_lload_n b dX12_takes_146 rfl rfl ?_
  refine z_iconst (v := 1) b dX12_takes_147 (by decide) ?_
  refine z_lshr (v := 98307) b dX12_takes_148 (by decide) ?_
  refine z_ldc2 b wl_X12_166 dX12_takes_149 ?_
  refine z_land (v := 3) b dX12_takes_152 (by decide) ?_
  refine z_l2i (v := 3) b dX12_takes_153 (by decide) ?_
  refine y_iast (q0 := 3) (j := 1) b (mw_3 cy a S) (by decide) dX12_takes_154 ((mwa_3 cy a S 1 3).trans (congrArg (mw cy a) (su_same h_a_2_1))) ?_
  refine z_aload_n b dX12_takes_155 rfl rfl ?_
  refine z_get (q0 := 0) (k9 := 0) (v := .ref (a 1)) b (mw_0 cy a S) rfl in_X12 (by decide) wf_X12_13 rfl dX12_takes_156 ?_
  refine z_iload b dX12_takes_159 rfl ?_
  refine z_lload_n b dX12_takes_161 rfl rfl ?_
  exact k

set_option maxHeartbeats 4000000 in
set_option maxRecDepth 100000 in
theorem ch_X12_takes_3 {p : Program} {l : Launch} {e : Env} {R : Room} {s : State} {m : MethodId} {args : Array Value} {below : List Frame} {meth : Method} {c : Code} {D : va_G} {cy : Nat → ClassId} {T0 tB tE : Nat} {A : Nat → Prop} {Q : State → Prop} {a : Nat → Nat} (S : GS)  (h_a_0_1 : ar S 0 1 = 0) (h_a_1_1 : ar S 1 1 = 0) (h_a_1_2 : ar S 1 2 = 0) (h_a_2_0 : ar S 2 0 = 3) (h_a_3_1 : ar S 3 1 = 0) (h_a_3_3 : ar S 3 3 = 0) (h_a_4_1 : ar S 4 1 = 0) (h_a_4_2 : ar S 4 2 = 0) (b : Bz p R s m args meth c D cy T0 tB tE A 7 cX12_takes RX12 none "takes" 1 21 0 0) (k : Z p l e R s m args below meth c D A 7 Q 0 0 (mw cy a S) [(6, .int 1), (3, .long 6), (5, .int 0), (0, .ref (a 0)), (1, .long 1649317774848)] 155 []) : Z p l e R s m args below meth c D A 7 Q 0 0 (mw cy a S) [(6, .int 2), (3, .long 196614), (5, .int 1), (0, .ref (a 0)), (1, .long 1649317774848)] 162 [.long 196614, .int 1, .ref (a 1)] := by
  refine z_iconst (v := 3) b dX12_takes_162 (by decide) ?_
  refine z_lshr (v := 24576) b dX12_takes_163 (by decide) ?_
  refine z_ldc2 b wl_X12_168 dX12_takes_164 ?_
  refine z_land (v := 0) b dX12_takes_167 (by decide) ?_
  refine z_l2i (v := 0) b dX12_takes_168 (by decide) ?_
  refine y_iast (q0 := 1) (j := 1) b (mw_1 cy a S) (by decide) dX12_takes_169 ((mwa_1 cy a S 1 0).trans (congrArg (mw cy a) (su_same h_a_0_1))) ?_
  refine z_lload_n b dX12_takes_170 rfl rfl ?_
  refine z_bipush (v := 7) b dX12_takes_171 (by decide) ?_
  refine z_lshr (v := 1536) b dX12_takes_173 (by decide) ?_
  refine z_lstore_n (lv' := [(3, .long 1536), (6, .int 2), (5, .int 1), (0, .ref (a 0)), (1, .long 1649317774848)]) b dX12_takes_174 rfl (by decide) rfl ?_
  refine z_iinc (k9 := 2) (v := 0) (lv' := [(5, .int 0), (3, .long 1536), (6, .int 2), (0, .ref (a 0)), (1, .long 1649317774848)]) b dX12_takes_175 rfl (by decide) (by decide) rfl ?_
  refine z_goto (tgt := 5) b dX12_takes_178 (by decide) ?_
  refine z_iload b dX12_takes_5 rfl ?_
  refine z_if_lt_f (tgt := 181) b dX12_takes_7 (by decide) (by decide) ?_
  refine z_iconst (v := 1) b dX12_takes_10 (by decide) ?_
  refine z_istore (lv' := [(6, .int 1), (5, .int 0), (3, .long 1536), (0, .ref (a 0)), (1, .long 1649317774848)]) b dX12_takes_11 (by decide) rfl ?_
  refine z_iload b dX12_takes_13 rfl ?_
  refine z_if_lt_f (tgt := 83) b dX12_takes_15 (by decide) (by decide) ?_
  refine z_aload_n b dX12_takes_18 rfl rfl ?_
  refine z_get (q0 := 0) (k9 := 4) (v := .ref (a 5)) b (mw_0 cy a S) rfl in_X12 (by decide) wf_X12_27 rfl dX12_takes_19 ?_
  refine z_iconst (v := 3) b dX12_takes_22 (by decide) ?_
  refine z_iload b dX12_takes_23 rfl ?_
  refine z_imul (v := 0) b dX12_takes_25 (by decide) ?_
  refine z_iload b dX12_takes_26 rfl ?_
  refine z_iload b dX12_takes_28 rfl ?_
  refine z_calli b (z_runS (As := [.int 0, .int 1]) (st := [.int 0, .ref (a 5)]) b (c_X12_other_5 S ) cf_X12_other wm_X12_160 ws_X12_other dX12_takes_30 rfl (Nat.le_of_ble_eq_true rfl) ⟨by decide, by decide, by decide, by decide⟩) (fun r95 u96 h94 => ?_)
  obtain ⟨rfl, rfl⟩ := h94
  refine z_iadd (v := 2) b dX12_takes_33 (by decide) ?_
  refine z_lload_n b dX12_takes_34 rfl rfl ?_
  refine z_lconst (v := 1) b dX12_takes_35 (by decide) ?_
  refine z_land (v := 0) b dX12_takes_36 (by decide) ?_
  refine z_lconst (v := 1) b dX12_takes_37 (by decide) ?_
  refine z_lcmp (v := (-1)) b dX12_takes_38 (by decide) ?_
  refine z_if_ne_t (tgt := 46) b dX12_takes_39 (by decide) (by decide) ?_
  refine z_iconst (v := 0) b dX12_takes_46 (by decide) ?_
  refine y_zast (q0 := 5) (j := 2) b (mw_5 cy a S) (by decide) (by decide) dX12_takes_47 ((mwa_5 cy a S 2 0).trans (congrArg (mw cy a) (su_same h_a_4_2))) ?_
  refine z_aload_n b dX12_takes_48 rfl rfl ?_
  refine z_get (q0 := 0) (k9 := 1) (v := .ref (a 2)) b (mw_0 cy a S) rfl in_X12 (by decide) wf_X12_17 rfl dX12_takes_49 ?_
  refine z_iconst (v := 3) b dX12_takes_52 (by decide) ?_
  refine z_iload b dX12_takes_53 rfl ?_
  refine z_imul (v := 0) b dX12_takes_55 (by decide) ?_
  refine z_iload b dX12_takes_56 rfl ?_
  refine z_iload b dX12_takes_58 rfl ?_
  refine z_calli b (z_runS (As := [.int 0, .int 1]) (st := [.int 0, .ref (a 2)]) b (c_X12_other_5 S ) cf_X12_other wm_X12_160 ws_X12_other dX12_takes_60 rfl (Nat.le_of_ble_eq_true rfl) ⟨by decide, by decide, by decide, by decide⟩) (fun r98 u99 h97 => ?_)
  obtain ⟨rfl, rfl⟩ := h97
  refine z_iadd (v := 2) b dX12_takes_63 (by decide) ?_
  refine z_lload_n b dX12_takes_64 rfl rfl ?_
  refine z_iconst (v := 1) b dX12_takes_65 (by decide) ?_
  refine z_lshr (v := 768) b dX12_takes_66 (by decide) ?_
  refine z_ldc2 b wl_X12_164 dX12_takes_67 ?_
  refine z_land (v := 0) b dX12_takes_70 (by decide) ?_
  refine z_l2i (v := 0) b dX12_takes_71 (by decide) ?_
  refine y_iast (q0 := 2) (j := 2) b (mw_2 cy a S) (by decide) dX12_takes_72 ((mwa_2 cy a S 2 0).trans (congrArg (mw cy a) (su_same h_a_1_2))) ?_
  refine z_lload_n b dX12_takes_73 rfl rfl ?_
  refine z_iconst (v := 4) b dX12_takes_74 (by decide) ?_
  refine z_lshr (v := 96) b dX12_takes_75 (by decide) ?_
  refine z_lstore_n (lv' := [(3, .long 96), (6, .int 1), (5, .int 0), (0, .ref (a 0)), (1, .long 1649317774848)]) b dX12_takes_76 rfl (by decide) rfl ?_
  refine z_iinc (k9 := 1) (v := 0) (lv' := [(6, .int 0), (3, .long 96), (5, .int 0), (0, .ref (a 0)), (1, .long 1649317774848)]) b dX12_takes_77 rfl (by decide) (by decide) rfl ?_
  refine z_goto (tgt := 13) b dX12_takes_80 (by decide) ?_
  refine z_iload b dX12_takes_13 rfl ?_
  refine z_if_lt_f (tgt := 83) b dX12_takes_15 (by decide) (by decide) ?_
  refine z_aload_n b dX12_takes_18 rfl rfl ?_
  refine z_get (q0 := 0) (k9 := 4) (v := .ref (a 5)) b (mw_0 cy a S) rfl in_X12 (by decide) wf_X12_27 rfl dX12_takes_19 ?_
  refine z_iconst (v := 3) b dX12_takes_22 (by decide) ?_
  refine z_iload b dX12_takes_23 rfl ?_
  refine z_imul (v := 0) b dX12_takes_25 (by decide) ?_
  refine z_iload b dX12_takes_26 rfl ?_
  refine z_iload b dX12_takes_28 rfl ?_
  refine z_calli b (z_runS (As := [.int 0, .int 0]) (st := [.int 0, .ref (a 5)]) b (c_X12_other_6 S ) cf_X12_other wm_X12_160 ws_X12_other dX12_takes_30 rfl (Nat.le_of_ble_eq_true rfl) ⟨by decide, by decide, by decide, by decide⟩) (fun r101 u102 h100 => ?_)
  obtain ⟨rfl, rfl⟩ := h100
  refine z_iadd (v := 1) b dX12_takes_33 (by decide) ?_
  refine z_lload_n b dX12_takes_34 rfl rfl ?_
  refine z_lconst (v := 1) b dX12_takes_35 (by decide) ?_
  refine z_land (v := 0) b dX12_takes_36 (by decide) ?_
  refine z_lconst (v := 1) b dX12_takes_37 (by decide) ?_
  refine z_lcmp (v := (-1)) b dX12_takes_38 (by decide) ?_
  refine z_if_ne_t (tgt := 46) b dX12_takes_39 (by decide) (by decide) ?_
  refine z_iconst (v := 0) b dX12_takes_46 (by decide) ?_
  refine y_zast (q0 := 5) (j := 1) b (mw_5 cy a S) (by decide) (by decide) dX12_takes_47 ((mwa_5 cy a S 1 0).trans (congrArg (mw cy a) (su_same h_a_4_1))) ?_
  refine z_aload_n b dX12_takes_48 rfl rfl ?_
  refine z_get (q0 := 0) (k9 := 1) (v := .ref (a 2)) b (mw_0 cy a S) rfl in_X12 (by decide) wf_X12_17 rfl dX12_takes_49 ?_
  refine z_iconst (v := 3) b dX12_takes_52 (by decide) ?_
  refine z_iload b dX12_takes_53 rfl ?_
  refine z_imul (v := 0) b dX12_takes_55 (by decide) ?_
  refine z_iload b dX12_takes_56 rfl ?_
  refine z_iload b dX12_takes_58 rfl ?_
  refine z_calli b (z_runS (As := [.int 0, .int 0]) (st := [.int 0, .ref (a 2)]) b (c_X12_other_6 S ) cf_X12_other wm_X12_160 ws_X12_other dX12_takes_60 rfl (Nat.le_of_ble_eq_true rfl) ⟨by decide, by decide, by decide, by decide⟩) (fun r104 u105 h103 => ?_)
  obtain ⟨rfl, rfl⟩ := h103
  refine z_iadd (v := 1) b dX12_takes_63 (by decide) ?_
  refine z_lload_n b dX12_takes_64 rfl rfl ?_
  refine z_iconst (v := 1) b dX12_takes_65 (by decide) ?_
  refine z_lshr (v := 48) b dX12_takes_66 (by decide) ?_
  refine z_ldc2 b wl_X12_164 dX12_takes_67 ?_
  refine z_land (v := 0) b dX12_takes_70 (by decide) ?_
  refine z_l2i (v := 0) b dX12_takes_71 (by decide) ?_
  refine y_iast (q0 := 2) (j := 1) b (mw_2 cy a S) (by decide) dX12_takes_72 ((mwa_2 cy a S 1 0).trans (congrArg (mw cy a) (su_same h_a_1_1))) ?_
  refine z_lload_n b dX12_takes_73 rfl rfl ?_
  refine z_iconst (v := 4) b dX12_takes_74 (by decide) ?_
  refine z_lshr (v := 6) b dX12_takes_75 (by decide) ?_
  refine z_lstore_n (lv' := [(3, .long 6), (6, .int 0), (5, .int 0), (0, .ref (a 0)), (1, .long 1649317774848)]) b dX12_takes_76 rfl (by decide) rfl ?_
  refine z_iinc (k9 := 1) (v := (-1)) (lv' := [(6, .int (-1)), (3, .long 6), (5, .int 0), (0, .ref (a 0)), (1, .long 1649317774848)]) b dX12_takes_77 rfl (by decide) (by decide) rfl ?_
  refine z_goto (tgt := 13) b dX12_takes_80 (by decide) ?_
  refine z_iload b dX12_takes_13 rfl ?_
  refine z_if_lt_t (tgt := 83) b dX12_takes_15 (by decide) (by decide) ?_
  refine z_iload b dX12_takes_83 rfl ?_
  refine z_iconst (v := 0) b dX12_takes_85 (by decide) ?_
  refine z_calli b (z_runS (As := [.int 0, .int 0]) (st := []) b (c_X12_other_6 S ) cf_X12_other wm_X12_160 ws_X12_other dX12_takes_86 rfl (Nat.le_of_ble_eq_true rfl) ⟨by decide, by decide, by decide, by decide⟩) (fun r107 u108 h106 => ?_)
  obtain ⟨rfl, rfl⟩ := h106
  refine z_istore (lv' := [(6, .int 1), (3, .long 6), (5, .int 0), (0, .ref (a 0)), (1, .long 1649317774848)]) b dX12_takes_89 (by decide) rfl ?_
  refine z_aload_n b dX12_takes_91 rfl rfl ?_
  refine z_get (q0 := 0) (k9 := 3) (v := .ref (a 4)) b (mw_0 cy a S) rfl in_X12 (by decide) wf_X12_23 rfl dX12_takes_92 ?_
  refine z_iconst (v := 3) b dX12_takes_95 (by decide) ?_
  refine z_iload b dX12_takes_96 rfl ?_
  refine z_imul (v := 0) b dX12_takes_98 (by decide) ?_
  refine z_iload b dX12_takes_99 rfl ?_
  refine z_iadd (v := 1) b dX12_takes_101 (by decide) ?_
  refine z_lload_n b dX12_takes_102 rfl rfl ?_
  refine z_lconst (v := 1) b dX12_takes_103 (by decide) ?_
  refine z_land (v := 0) b dX12_takes_104 (by decide) ?_
  refine z_lconst (v := 1) b dX12_takes_105 (by decide) ?_
  refine z_lcmp (v := (-1)) b dX12_takes_106 (by decide) ?_
  refine z_if_ne_t (tgt := 114) b dX12_takes_107 (by decide) (by decide) ?_
  refine z_iconst (v := 0) b dX12_takes_114 (by decide) ?_
  refine y_zast (q0 := 4) (j := 1) b (mw_4 cy a S) (by decide) (by decide) dX12_takes_115 ((mwa_4 cy a S 1 0).trans (congrArg (mw cy a) (su_same h_a_3_1))) ?_
  refine z_aload_n b dX12_takes_116 rfl rfl ?_
  refine z_get (q0 := 0) (k9 := 3) (v := .ref (a 4)) b (mw_0 cy a S) rfl in_X12 (by decide) wf_X12_23 rfl dX12_takes_117 ?_
  refine z_iconst (v := 3) b dX12_takes_120 (by decide) ?_
  refine z_iload b dX12_takes_121 rfl ?_
  refine z_imul (v := 3) b dX12_takes_123 (by decide) ?_
  refine z_iload b dX12_takes_124 rfl ?_
  refine z_iadd (v := 3) b dX12_takes_126 (by decide) ?_
  refine z_aload_n b dX12_takes_127 rfl rfl ?_
  refine z_get (q0 := 0) (k9 := 3) (v := .ref (a 4)) b (mw_0 cy a S) rfl in_X12 (by decide) wf_X12_23 rfl dX12_takes_128 ?_
  refine z_iconst (v := 3) b dX12_takes_131 (by decide) ?_
  refine z_iload b dX12_takes_132 rfl ?_
  refine z_imul (v := 0) b dX12_takes_134 (by decide) ?_
  refine z_iload b dX12_takes_135 rfl ?_
  refine z_iadd (v := 1) b dX12_takes_137 (by decide) ?_
  refine y_zald (q0 := 4) (j := 1) (v := (ar S 3 1)) b (mw_4 cy a S) (by decide) rfl dX12_takes_138 ?_
  refine z_eqi h_a_3_1 ?_
  refine y_zast (q0 := 4) (j := 3) b (mw_4 cy a S) (by decide) (by decide) dX12_takes_139 ((mwa_4 cy a S 3 0).trans (congrArg (mw cy a) (su_same h_a_3_3))) ?_
  refine z_aload_n b dX12_takes_140 rfl rfl ?_
  refine z_get (q0 := 0) (k9 := 2) (v := .ref (a 3)) b (mw_0 cy a S) rfl in_X12 (by decide) wf_X12_20 rfl dX12_takes_141 ?_
  refine z_iload b dX12_takes_144 rfl ?_
  refine z_lload_n b dX12_takes_146 rfl rfl ?_
  refine z_iconst (v := 1) b dX12_takes_147 (by decide) ?_
  refine z_lshr (v := 3) b dX12_takes_148 (by decide) ?_
  refine z_ldc2 b wl_X12_166 dX12_takes_149 ?_
  refine z_land (v := 3) b dX12_takes_152 (by decide) ?_
  refine z_l2i (v := 3) b dX12_takes_153 (by decide) ?_
  refine y_iast (q0 := 3) (j := 0) b (mw_3 cy a S) (by decide) dX12_takes_154 ((mwa_3 cy a S 0 3).trans (congrArg (mw cy a) (su_same h_a_2_0))) ?_
  exact k

set_option maxHeartbeats 4000000 in
set_option maxRecDepth 100000 in
theorem c_X12_takes {l : Launch} {D : va_G} {cy : Nat → ClassId} {T0 tB tE : Nat} {a : Nat → Nat} (S : GS)  (h_a_4_7 : ar S 4 7 = 0) (h_a_1_7 : ar S 1 7 = 0) (h_a_4_6 : ar S 4 6 = 0) (h_a_1_6 : ar S 1 6 = 0) (h_a_3_6 : ar S 3 6 = 0) (h_a_3_2 : ar S 3 2 = 0) (h_a_2_2 : ar S 2 2 = 3) (h_a_0_2 : ar S 0 2 = 0) (h_a_4_3 : ar S 4 3 = 0) (h_a_1_3 : ar S 1 3 = 0) (h_a_4_5 : ar S 4 5 = 0) (h_a_1_5 : ar S 1 5 = 0) (h_a_3_5 : ar S 3 5 = 0) (h_a_3_7 : ar S 3 7 = 0) (h_a_2_1 : ar S 2 1 = 3) (h_a_0_1 : ar S 0 1 = 0) (h_a_4_2 : ar S 4 2 = 0) (h_a_1_2 : ar S 1 2 = 0) (h_a_4_1 : ar S 4 1 = 0) (h_a_1_1 : ar S 1 1 = 0) (h_a_3_1 : ar S 3 1 = 0) (h_a_3_3 : ar S 3 3 = 0) (h_a_2_0 : ar S 2 0 = 3) (h_a_0_0 : ar S 0 0 = 0) (h_i_0 : fi S 0 = 0) : Ct l D cy T0 tB tE yX12_takes cX12_takes 7 none 1 21 0 0 (mw cy a S) [.ref (a 0), .long 1649317774848] (QV D (U := GS) (fun u => S = u) (mw cy a)) := by
  refine Ct.ofZ RX12 "takes" [(0, .ref (a 0)), (1, .long 1649317774848)] rfl rfl rfl rfl (Nat.le_of_ble_eq_true rfl) ?_
  intro p e R s m args below meth c A b
  refine ch_X12_takes_1 S  h_a_1_6 h_a_1_7 h_a_2_2 h_a_3_2 h_a_3_6 h_a_4_6 h_a_4_7  b ?_
  refine ch_X12_takes_2 S  h_a_0_2 h_a_1_3 h_a_1_5 h_a_2_1 h_a_3_5 h_a_3_7 h_a_4_3 h_a_4_5  b ?_
  refine ch_X12_takes_3 S  h_a_0_1 h_a_1_1 h_a_1_2 h_a_2_0 h_a_3_1 h_a_3_3 h_a_4_1 h_a_4_2  b ?_
  refine z_aload_n b dX12_takes_155 rfl rfl ?_
  refine z_get (q0 := 0) (k9 := 0) (v := .ref (a 1)) b (mw_0 cy a S) rfl in_X12 (by decide) wf_X12_13 rfl dX12_takes_156 ?_
  refine z_iload b dX12_takes_159 rfl ?_
  refine z_lload_n b dX12_takes_161 rfl rfl ?_
  refine z_iconst (v := 3) b dX12_takes_162 (by decide) ?_
  refine z_lshr (v := 0) b dX12_takes_163 (by decide) ?_
  refine z_ldc2 b wl_X12_168 dX12_takes_164 ?_
  refine z_land (v := 0) b dX12_takes_167 (by decide) ?_
  refine z_l2i (v := 0) b dX12_takes_168 (by decide) ?_
  refine y_iast (q0 := 1) (j := 0) b (mw_1 cy a S) (by decide) dX12_takes_169 ((mwa_1 cy a S 0 0).trans (congrArg (mw cy a) (su_same h_a_0_0))) ?_
  refine z_lload_n b dX12_takes_170 rfl rfl ?_
  refine z_bipush (v := 7) b dX12_takes_171 (by decide) ?_
  refine z_lshr (v := 0) b dX12_takes_173 (by decide) ?_
  refine z_lstore_n (lv' := [(3, .long 0), (6, .int 1), (5, .int 0), (0, .ref (a 0)), (1, .long 1649317774848)]) b dX12_takes_174 rfl (by decide) rfl ?_
  refine z_iinc (k9 := 2) (v := (-1)) (lv' := [(5, .int (-1)), (3, .long 0), (6, .int 1), (0, .ref (a 0)), (1, .long 1649317774848)]) b dX12_takes_175 rfl (by decide) (by decide) rfl ?_
  refine z_goto (tgt := 5) b dX12_takes_178 (by decide) ?_
  refine z_iload b dX12_takes_5 rfl ?_
  refine z_if_lt_t (tgt := 181) b dX12_takes_7 (by decide) (by decide) ?_
  refine z_aload_n b dX12_takes_181 rfl rfl ?_
  refine z_lload_n b dX12_takes_182 rfl rfl ?_
  refine z_l2i (v := 0) b dX12_takes_183 (by decide) ?_
  refine z_put (q0 := 0) (k9 := 5) tyX12 b (mw_0 cy a S) rfl in_X12 tyX12_ok nmX12 (by decide) wf_X12_157 rfl rfl rfl rfl (Nat.le_of_ble_eq_true rfl) dX12_takes_184 ((mwp_0_5 cy a S 0).trans (congrArg (mw cy a) (si_same h_i_0))) ?_
  exact z_vret (u := S) b rfl dX12_takes_187 rfl rfl (by decide) (by decide)

set_option maxHeartbeats 4000000 in
set_option maxRecDepth 100000 in
theorem ch_X12_packs_4 {p : Program} {l : Launch} {e : Env} {R : Room} {s : State} {m : MethodId} {args : Array Value} {below : List Frame} {meth : Method} {c : Code} {D : va_G} {cy : Nat → ClassId} {T0 tB tE : Nat} {A : Nat → Prop} {Q : State → Prop} {a : Nat → Nat} (S : GS)  (h_a_0_1 : ar S 0 1 = 0) (h_a_1_1 : ar S 1 1 = 0) (h_a_1_2 : ar S 1 2 = 0) (h_a_2_0 : ar S 2 0 = 3) (h_a_3_1 : ar S 3 1 = 0) (h_a_4_1 : ar S 4 1 = 0) (h_a_4_2 : ar S 4 2 = 0) (h_i_0 : fi S 0 = 0) (b : Bz p R s m args meth c D cy T0 tB tE A 5 cX12_packs RX12 (some .long) "packs" 1 21 0 0) (k : Z p l e R s m args below meth c D A 5 Q 0 0 (mw cy a S) [(3, .int 1), (4, .int 2), (1, .long (((((((((((((0 ||| ((ar S 0 0) : Int32).toInt64) <<< ((2 : Int32).toInt64 &&& 63)) ||| 3) <<< ((1 : Int32).toInt64 &&& 63)) ||| 0) <<< ((3 : Int32).toInt64 &&& 63)) ||| 0) <<< ((1 : Int32).toInt64 &&& 63)) ||| 0) <<< ((3 : Int32).toInt64 &&& 63)) ||| 0) <<< ((1 : Int32).toInt64 &&& 63)) ||| 0)), (0, .ref (a 0))] 22 [.int 0, .long ((((((((((((((0 ||| ((ar S 0 0) : Int32).toInt64) <<< ((2 : Int32).toInt64 &&& 63)) ||| 3) <<< ((1 : Int32).toInt64 &&& 63)) ||| 0) <<< ((3 : Int32).toInt64 &&& 63)) ||| 0) <<< ((1 : Int32).toInt64 &&& 63)) ||| 0) <<< ((3 : Int32).toInt64 &&& 63)) ||| 0) <<< ((1 : Int32).toInt64 &&& 63)) ||| 0) <<< ((4 : Int32).toInt64 &&& 63))]) : Z p l e R s m args below meth c D A 5 Q 0 0 (mw cy a S) [(0, .ref (a 0))] 0 [] := by
  refine z_aload_n b dX12_packs_0 rfl rfl ?_
  refine z_get (q0 := 0) (k9 := 5) (v := .int (fi S 0)) b (mw_0 cy a S) rfl in_X12 (by decide) wf_X12_157 rfl dX12_packs_1 ?_
  refine z_eqi h_i_0 ?_
  refine z_i2l (v := 0) b dX12_packs_4 (by decide) ?_
  refine z_lstore_n (lv' := [(1, .long 0), (0, .ref (a 0))]) b dX12_packs_5 rfl (by decide) rfl ?_
  refine z_iconst (v := 0) b dX12_packs_6 (by decide) ?_
  refine z_istore_n (lv' := [(3, .int 0), (1, .long 0), (0, .ref (a 0))]) b dX12_packs_7 rfl (by decide) rfl ?_
  refine z_iload_n b dX12_packs_8 rfl rfl ?_
  refine z_iconst (v := 3) b dX12_packs_9 (by decide) ?_
  refine z_icmp_ge_f (tgt := 134) b dX12_packs_10 (by decide) (by decide) ?_
  refine z_lload_n b dX12_packs_13 rfl rfl ?_
  refine z_iconst (v := 4) b dX12_packs_14 (by decide) ?_
  refine z_lshl (v := 0) b dX12_packs_15 (by decide) ?_
  refine z_aload_n b dX12_packs_16 rfl rfl ?_
  refine z_get (q0 := 0) (k9 := 0) (v := .ref (a 1)) b (mw_0 cy a S) rfl in_X12 (by decide) wf_X12_13 rfl dX12_packs_17 ?_
  refine z_iload_n b dX12_packs_20 rfl rfl ?_
  refine y_iald (q0 := 1) (j := 0) (v := (ar S 0 0)) b (mw_1 cy a S) (by decide) rfl dX12_packs_21 ?_
  refine z_i2l b dX12_packs_22 rfl ?_
  refine z_lor b dX12_packs_23 rfl ?_
  refine z_lstore_n (lv' := [(1, .long (0 ||| ((ar S 0 0) : Int32).toInt64)), (3, .int 0), (0, .ref (a 0))]) b dX12_packs_24 rfl (by decide) rfl ?_
  refine z_lload_n b dX12_packs_25 rfl rfl ?_
  refine z_iconst (v := 2) b dX12_packs_26 (by decide) ?_
  refine z_lshl b dX12_packs_27 rfl ?_
  refine z_aload_n b dX12_packs_28 rfl rfl ?_
  refine z_get (q0 := 0) (k9 := 2) (v := .ref (a 3)) b (mw_0 cy a S) rfl in_X12 (by decide) wf_X12_20 rfl dX12_packs_29 ?_
  refine z_iload_n b dX12_packs_32 rfl rfl ?_
  refine y_iald (q0 := 3) (j := 0) (v := (ar S 2 0)) b (mw_3 cy a S) (by decide) rfl dX12_packs_33 ?_
  refine z_eqi h_a_2_0 ?_
  refine z_i2l (v := 3) b dX12_packs_34 (by decide) ?_
  refine z_lor b dX12_packs_35 rfl ?_
  refine z_lstore_n (lv' := [(1, .long (((0 ||| ((ar S 0 0) : Int32).toInt64) <<< ((2 : Int32).toInt64 &&& 63)) ||| 3)), (3, .int 0), (0, .ref (a 0))]) b dX12_packs_36 rfl (by decide) rfl ?_
  refine z_lload_n b dX12_packs_37 rfl rfl ?_
  refine z_iconst (v := 1) b dX12_packs_38 (by decide) ?_
  refine z_lshl b dX12_packs_39 rfl ?_
  refine z_aload_n b dX12_packs_40 rfl rfl ?_
  refine z_get (q0 := 0) (k9 := 3) (v := .ref (a 4)) b (mw_0 cy a S) rfl in_X12 (by decide) wf_X12_23 rfl dX12_packs_41 ?_
  refine z_iconst (v := 3) b dX12_packs_44 (by decide) ?_
  refine z_iload_n b dX12_packs_45 rfl rfl ?_
  refine z_imul (v := 0) b dX12_packs_46 (by decide) ?_
  refine z_iload_n b dX12_packs_47 rfl rfl ?_
  refine z_iconst (v := 0) b dX12_packs_48 (by decide) ?_
  refine z_calli b (z_runS (As := [.int 0, .int 0]) (st := [.int 0, .ref (a 4), .long ((((0 ||| ((ar S 0 0) : Int32).toInt64) <<< ((2 : Int32).toInt64 &&& 63)) ||| 3) <<< ((1 : Int32).toInt64 &&& 63))]) b (c_X12_other_6 S ) cf_X12_other wm_X12_160 ws_X12_other dX12_packs_49 rfl (Nat.le_of_ble_eq_true rfl) ⟨by decide, by decide, by decide, by decide⟩) (fun r113 u114 h112 => ?_)
  obtain ⟨rfl, rfl⟩ := h112
  refine z_iadd (v := 1) b dX12_packs_52 (by decide) ?_
  refine y_zald (q0 := 4) (j := 1) (v := (ar S 3 1)) b (mw_4 cy a S) (by decide) rfl dX12_packs_53 ?_
  refine z_eqi h_a_3_1 ?_
  refine z_if_eq_t (tgt := 61) b dX12_packs_54 (by decide) (by decide) ?_
  refine z_lconst (v := 0) b dX12_packs_61 (by decide) ?_
  refine z_lor b dX12_packs_62 rfl ?_
  refine z_lstore_n (lv' := [(1, .long (((((0 ||| ((ar S 0 0) : Int32).toInt64) <<< ((2 : Int32).toInt64 &&& 63)) ||| 3) <<< ((1 : Int32).toInt64 &&& 63)) ||| 0)), (3, .int 0), (0, .ref (a 0))]) b dX12_packs_63 rfl (by decide) rfl ?_
  refine z_iconst (v := 0) b dX12_packs_64 (by decide) ?_
  refine z_istore (lv' := [(4, .int 0), (1, .long (((((0 ||| ((ar S 0 0) : Int32).toInt64) <<< ((2 : Int32).toInt64 &&& 63)) ||| 3) <<< ((1 : Int32).toInt64 &&& 63)) ||| 0)), (3, .int 0), (0, .ref (a 0))]) b dX12_packs_65 (by decide) rfl ?_
  refine z_iload b dX12_packs_67 rfl ?_
  refine z_iconst (v := 2) b dX12_packs_69 (by decide) ?_
  refine z_icmp_ge_f (tgt := 128) b dX12_packs_70 (by decide) (by decide) ?_
  refine z_lload_n b dX12_packs_73 rfl rfl ?_
  refine z_iconst (v := 3) b dX12_packs_74 (by decide) ?_
  refine z_lshl b dX12_packs_75 rfl ?_
  refine z_aload_n b dX12_packs_76 rfl rfl ?_
  refine z_get (q0 := 0) (k9 := 1) (v := .ref (a 2)) b (mw_0 cy a S) rfl in_X12 (by decide) wf_X12_17 rfl dX12_packs_77 ?_
  refine z_iconst (v := 3) b dX12_packs_80 (by decide) ?_
  refine z_iload_n b dX12_packs_81 rfl rfl ?_
  refine z_imul (v := 0) b dX12_packs_82 (by decide) ?_
  refine z_iload_n b dX12_packs_83 rfl rfl ?_
  refine z_iload b dX12_packs_84 rfl ?_
  refine z_calli b (z_runS (As := [.int 0, .int 0]) (st := [.int 0, .ref (a 2), .long ((((((0 ||| ((ar S 0 0) : Int32).toInt64) <<< ((2 : Int32).toInt64 &&& 63)) ||| 3) <<< ((1 : Int32).toInt64 &&& 63)) ||| 0) <<< ((3 : Int32).toInt64 &&& 63))]) b (c_X12_other_6 S ) cf_X12_other wm_X12_160 ws_X12_other dX12_packs_86 rfl (Nat.le_of_ble_eq_true rfl) ⟨by decide, by decide, by decide, by decide⟩) (fun r116 u117 h115 => ?_)
  obtain ⟨rfl, rfl⟩ := h115
  refine z_iadd (v := 1) b dX12_packs_89 (by decide) ?_
  refine y_iald (q0 := 2) (j := 1) (v := (ar S 1 1)) b (mw_2 cy a S) (by decide) rfl dX12_packs_90 ?_
  refine z_eqi h_a_1_1 ?_
  refine z_i2l (v := 0) b dX12_packs_91 (by decide) ?_
  refine z_lor b dX12_packs_92 rfl ?_
  refine z_lstore_n (lv' := [(1, .long (((((((0 ||| ((ar S 0 0) : Int32).toInt64) <<< ((2 : Int32).toInt64 &&& 63)) ||| 3) <<< ((1 : Int32).toInt64 &&& 63)) ||| 0) <<< ((3 : Int32).toInt64 &&& 63)) ||| 0)), (4, .int 0), (3, .int 0), (0, .ref (a 0))]) b dX12_packs_93 rfl (by decide) rfl ?_
  refine z_lload_n b dX12_packs_94 rfl rfl ?_
  refine z_iconst (v := 1) b dX12_packs_95 (by decide) ?_
  refine z_lshl b dX12_packs_96 rfl ?_
  refine z_aload_n b dX12_packs_97 rfl rfl ?_
  refine z_get (q0 := 0) (k9 := 4) (v := .ref (a 5)) b (mw_0 cy a S) rfl in_X12 (by decide) wf_X12_27 rfl dX12_packs_98 ?_
  refine z_iconst (v := 3) b dX12_packs_101 (by decide) ?_
  refine z_iload_n b dX12_packs_102 rfl rfl ?_
  refine z_imul (v := 0) b dX12_packs_103 (by decide) ?_
  refine z_iload_n b dX12_packs_104 rfl rfl ?_
  refine z_iload b dX12_packs_105 rfl ?_
  refine z_calli b (z_runS (As := [.int 0, .int 0]) (st := [.int 0, .ref (a 5), .long ((((((((0 ||| ((ar S 0 0) : Int32).toInt64) <<< ((2 : Int32).toInt64 &&& 63)) ||| 3) <<< ((1 : Int32).toInt64 &&& 63)) ||| 0) <<< ((3 : Int32).toInt64 &&& 63)) ||| 0) <<< ((1 : Int32).toInt64 &&& 63))]) b (c_X12_other_6 S ) cf_X12_other wm_X12_160 ws_X12_other dX12_packs_107 rfl (Nat.le_of_ble_eq_true rfl) ⟨by decide, by decide, by decide, by decide⟩) (fun r119 u120 h118 => ?_)
  obtain ⟨rfl, rfl⟩ := h118
  refine z_iadd (v := 1) b dX12_packs_110 (by decide) ?_
  refine y_zald (q0 := 5) (j := 1) (v := (ar S 4 1)) b (mw_5 cy a S) (by decide) rfl dX12_packs_111 ?_
  refine z_eqi h_a_4_1 ?_
  refine z_if_eq_t (tgt := 119) b dX12_packs_112 (by decide) (by decide) ?_
  refine z_lconst (v := 0) b dX12_packs_119 (by decide) ?_
  refine z_lor b dX12_packs_120 rfl ?_
  refine z_lstore_n (lv' := [(1, .long (((((((((0 ||| ((ar S 0 0) : Int32).toInt64) <<< ((2 : Int32).toInt64 &&& 63)) ||| 3) <<< ((1 : Int32).toInt64 &&& 63)) ||| 0) <<< ((3 : Int32).toInt64 &&& 63)) ||| 0) <<< ((1 : Int32).toInt64 &&& 63)) ||| 0)), (4, .int 0), (3, .int 0), (0, .ref (a 0))]) b dX12_packs_121 rfl (by decide) rfl ?_
  refine z_iinc (k9 := 1) (v := 1) (lv' := [(4, .int 1), (1, .long (((((((((0 ||| ((ar S 0 0) : Int32).toInt64) <<< ((2 : Int32).toInt64 &&& 63)) ||| 3) <<< ((1 : Int32).toInt64 &&& 63)) ||| 0) <<< ((3 : Int32).toInt64 &&& 63)) ||| 0) <<< ((1 : Int32).toInt64 &&& 63)) ||| 0)), (3, .int 0), (0, .ref (a 0))]) b dX12_packs_122 rfl (by decide) (by decide) rfl ?_
  refine z_goto (tgt := 67) b dX12_packs_125 (by decide) ?_
  refine z_iload b dX12_packs_67 rfl ?_
  refine z_iconst (v := 2) b dX12_packs_69 (by decide) ?_
  refine z_icmp_ge_f (tgt := 128) b dX12_packs_70 (by decide) (by decide) ?_
  refine z_lload_n b dX12_packs_73 rfl rfl ?_
  refine z_iconst (v := 3) b dX12_packs_74 (by decide) ?_
  refine z_lshl b dX12_packs_75 rfl ?_
  refine z_aload_n b dX12_packs_76 rfl rfl ?_
  refine z_get (q0 := 0) (k9 := 1) (v := .ref (a 2)) b (mw_0 cy a S) rfl in_X12 (by decide) wf_X12_17 rfl dX12_packs_77 ?_
  refine z_iconst (v := 3) b dX12_packs_80 (by decide) ?_
  refine z_iload_n b dX12_packs_81 rfl rfl ?_
  refine z_imul (v := 0) b dX12_packs_82 (by decide) ?_
  refine z_iload_n b dX12_packs_83 rfl rfl ?_
  refine z_iload b dX12_packs_84 rfl ?_
  refine z_calli b (z_runS (As := [.int 0, .int 1]) (st := [.int 0, .ref (a 2), .long ((((((((((0 ||| ((ar S 0 0) : Int32).toInt64) <<< ((2 : Int32).toInt64 &&& 63)) ||| 3) <<< ((1 : Int32).toInt64 &&& 63)) ||| 0) <<< ((3 : Int32).toInt64 &&& 63)) ||| 0) <<< ((1 : Int32).toInt64 &&& 63)) ||| 0) <<< ((3 : Int32).toInt64 &&& 63))]) b (c_X12_other_5 S ) cf_X12_other wm_X12_160 ws_X12_other dX12_packs_86 rfl (Nat.le_of_ble_eq_true rfl) ⟨by decide, by decide, by decide, by decide⟩) (fun r122 u123 h121 => ?_)
  obtain ⟨rfl, rfl⟩ := h121
  refine z_iadd (v := 2) b dX12_packs_89 (by decide) ?_
  refine y_iald (q0 := 2) (j := 2) (v := (ar S 1 2)) b (mw_2 cy a S) (by decide) rfl dX12_packs_90 ?_
  refine z_eqi h_a_1_2 ?_
  refine z_i2l (v := 0) b dX12_packs_91 (by decide) ?_
  refine z_lor b dX12_packs_92 rfl ?_
  refine z_lstore_n (lv' := [(1, .long (((((((((((0 ||| ((ar S 0 0) : Int32).toInt64) <<< ((2 : Int32).toInt64 &&& 63)) ||| 3) <<< ((1 : Int32).toInt64 &&& 63)) ||| 0) <<< ((3 : Int32).toInt64 &&& 63)) ||| 0) <<< ((1 : Int32).toInt64 &&& 63)) ||| 0) <<< ((3 : Int32).toInt64 &&& 63)) ||| 0)), (4, .int 1), (3, .int 0), (0, .ref (a 0))]) b dX12_packs_93 rfl (by decide) rfl ?_
  refine z_lload_n b dX12_packs_94 rfl rfl ?_
  refine z_iconst (v := 1) b dX12_packs_95 (by decide) ?_
  refine z_lshl b dX12_packs_96 rfl ?_
  refine z_aload_n b dX12_packs_97 rfl rfl ?_
  refine z_get (q0 := 0) (k9 := 4) (v := .ref (a 5)) b (mw_0 cy a S) rfl in_X12 (by decide) wf_X12_27 rfl dX12_packs_98 ?_
  refine z_iconst (v := 3) b dX12_packs_101 (by decide) ?_
  refine z_iload_n b dX12_packs_102 rfl rfl ?_
  refine z_imul (v := 0) b dX12_packs_103 (by decide) ?_
  refine z_iload_n b dX12_packs_104 rfl rfl ?_
  refine z_iload b dX12_packs_105 rfl ?_
  refine z_calli b (z_runS (As := [.int 0, .int 1]) (st := [.int 0, .ref (a 5), .long ((((((((((((0 ||| ((ar S 0 0) : Int32).toInt64) <<< ((2 : Int32).toInt64 &&& 63)) ||| 3) <<< ((1 : Int32).toInt64 &&& 63)) ||| 0) <<< ((3 : Int32).toInt64 &&& 63)) ||| 0) <<< ((1 : Int32).toInt64 &&& 63)) ||| 0) <<< ((3 : Int32).toInt64 &&& 63)) ||| 0) <<< ((1 : Int32).toInt64 &&& 63))]) b (c_X12_other_5 S ) cf_X12_other wm_X12_160 ws_X12_other dX12_packs_107 rfl (Nat.le_of_ble_eq_true rfl) ⟨by decide, by decide, by decide, by decide⟩) (fun r125 u126 h124 => ?_)
  obtain ⟨rfl, rfl⟩ := h124
  refine z_iadd (v := 2) b dX12_packs_110 (by decide) ?_
  refine y_zald (q0 := 5) (j := 2) (v := (ar S 4 2)) b (mw_5 cy a S) (by decide) rfl dX12_packs_111 ?_
  refine z_eqi h_a_4_2 ?_
  refine z_if_eq_t (tgt := 119) b dX12_packs_112 (by decide) (by decide) ?_
  refine z_lconst (v := 0) b dX12_packs_119 (by decide) ?_
  refine z_lor b dX12_packs_120 rfl ?_
  refine z_lstore_n (lv' := [(1, .long (((((((((((((0 ||| ((ar S 0 0) : Int32).toInt64) <<< ((2 : Int32).toInt64 &&& 63)) ||| 3) <<< ((1 : Int32).toInt64 &&& 63)) ||| 0) <<< ((3 : Int32).toInt64 &&& 63)) ||| 0) <<< ((1 : Int32).toInt64 &&& 63)) ||| 0) <<< ((3 : Int32).toInt64 &&& 63)) ||| 0) <<< ((1 : Int32).toInt64 &&& 63)) ||| 0)), (4, .int 1), (3, .int 0), (0, .ref (a 0))]) b dX12_packs_121 rfl (by decide) rfl ?_
  refine z_iinc (k9 := 1) (v := 2) (lv' := [(4, .int 2), (1, .long (((((((((((((0 ||| ((ar S 0 0) : Int32).toInt64) <<< ((2 : Int32).toInt64 &&& 63)) ||| 3) <<< ((1 : Int32).toInt64 &&& 63)) ||| 0) <<< ((3 : Int32).toInt64 &&& 63)) ||| 0) <<< ((1 : Int32).toInt64 &&& 63)) ||| 0) <<< ((3 : Int32).toInt64 &&& 63)) ||| 0) <<< ((1 : Int32).toInt64 &&& 63)) ||| 0)), (3, .int 0), (0, .ref (a 0))]) b dX12_packs_122 rfl (by decide) (by decide) rfl ?_
  refine z_goto (tgt := 67) b dX12_packs_125 (by decide) ?_
  refine z_iload b dX12_packs_67 rfl ?_
  refine z_iconst (v := 2) b dX12_packs_69 (by decide) ?_
  refine z_icmp_ge_t (tgt := 128) b dX12_packs_70 (by decide) (by decide) ?_
  refine z_iinc (k9 := 2) (v := 1) (lv' := [(3, .int 1), (4, .int 2), (1, .long (((((((((((((0 ||| ((ar S 0 0) : Int32).toInt64) <<< ((2 : Int32).toInt64 &&& 63)) ||| 3) <<< ((1 : Int32).toInt64 &&& 63)) ||| 0) <<< ((3 : Int32).toInt64 &&& 63)) ||| 0) <<< ((1 : Int32).toInt64 &&& 63)) ||| 0) <<< ((3 : Int32).toInt64 &&& 63)) ||| 0) <<< ((1 : Int32).toInt64 &&& 63)) ||| 0)), (0, .ref (a 0))]) b dX12_packs_128 rfl (by decide) (by decide) rfl ?_
  refine z_goto (tgt := 8) b dX12_packs_131 (by decide) ?_
  refine z_iload_n b dX12_packs_8 rfl rfl ?_
  refine z_iconst (v := 3) b dX12_packs_9 (by decide) ?_
  refine z_icmp_ge_f (tgt := 134) b dX12_packs_10 (by decide) (by decide) ?_
  refine z_lload_n b dX12_packs_13 rfl rfl ?_
  refine z_iconst (v := 4) b dX12_packs_14 (by decide) ?_
  refine z_lshl b dX12_packs_15 rfl ?_
  refine z_aload_n b dX12_packs_16 rfl rfl ?_
  refine z_get (q0 := 0) (k9 := 0) (v := .ref (a 1)) b (mw_0 cy a S) rfl in_X12 (by decide) wf_X12_13 rfl dX12_packs_17 ?_
  refine z_iload_n b dX12_packs_20 rfl rfl ?_
  refine y_iald (q0 := 1) (j := 1) (v := (ar S 0 1)) b (mw_1 cy a S) (by decide) rfl dX12_packs_21 ?_
  refine z_eqi h_a_0_1 ?_
  exact k

set_option maxHeartbeats 4000000 in
set_option maxRecDepth 100000 in
theorem ch_X12_packs_5 {p : Program} {l : Launch} {e : Env} {R : Room} {s : State} {m : MethodId} {args : Array Value} {below : List Frame} {meth : Method} {c : Code} {D : va_G} {cy : Nat → ClassId} {T0 tB tE : Nat} {A : Nat → Prop} {Q : State → Prop} {a : Nat → Nat} (S : GS)  (h_a_0_2 : ar S 0 2 = 0) (h_a_1_3 : ar S 1 3 = 0) (h_a_1_5 : ar S 1 5 = 0) (h_a_2_1 : ar S 2 1 = 3) (h_a_2_2 : ar S 2 2 = 3) (h_a_3_5 : ar S 3 5 = 0) (h_a_4_3 : ar S 4 3 = 0) (h_a_4_5 : ar S 4 5 = 0) (b : Bz p R s m args meth c D cy T0 tB tE A 5 cX12_packs RX12 (some .long) "packs" 1 21 0 0) (k : Z p l e R s m args below meth c D A 5 Q 0 0 (mw cy a S) [(1, .long (((((((((((((((((((((((((((((((0 ||| ((ar S 0 0) : Int32).toInt64) <<< ((2 : Int32).toInt64 &&& 63)) ||| 3) <<< ((1 : Int32).toInt64 &&& 63)) ||| 0) <<< ((3 : Int32).toInt64 &&& 63)) ||| 0) <<< ((1 : Int32).toInt64 &&& 63)) ||| 0) <<< ((3 : Int32).toInt64 &&& 63)) ||| 0) <<< ((1 : Int32).toInt64 &&& 63)) ||| 0) <<< ((4 : Int32).toInt64 &&& 63)) ||| 0) <<< ((2 : Int32).toInt64 &&& 63)) ||| 3) <<< ((1 : Int32).toInt64 &&& 63)) ||| 0) <<< ((3 : Int32).toInt64 &&& 63)) ||| 0) <<< ((1 : Int32).toInt64 &&& 63)) ||| 0) <<< ((3 : Int32).toInt64 &&& 63)) ||| 0) <<< ((1 : Int32).toInt64 &&& 63)) ||| 0) <<< ((4 : Int32).toInt64 &&& 63)) ||| 0) <<< ((2 : Int32).toInt64 &&& 63)) ||| 3)), (3, .int 2), (4, .int 2), (0, .ref (a 0))] 39 [.int 1, .long (((((((((((((((((((((((((((((((0 ||| ((ar S 0 0) : Int32).toInt64) <<< ((2 : Int32).toInt64 &&& 63)) ||| 3) <<< ((1 : Int32).toInt64 &&& 63)) ||| 0) <<< ((3 : Int32).toInt64 &&& 63)) ||| 0) <<< ((1 : Int32).toInt64 &&& 63)) ||| 0) <<< ((3 : Int32).toInt64 &&& 63)) ||| 0) <<< ((1 : Int32).toInt64 &&& 63)) ||| 0) <<< ((4 : Int32).toInt64 &&& 63)) ||| 0) <<< ((2 : Int32).toInt64 &&& 63)) ||| 3) <<< ((1 : Int32).toInt64 &&& 63)) ||| 0) <<< ((3 : Int32).toInt64 &&& 63)) ||| 0) <<< ((1 : Int32).toInt64 &&& 63)) ||| 0) <<< ((3 : Int32).toInt64 &&& 63)) ||| 0) <<< ((1 : Int32).toInt64 &&& 63)) ||| 0) <<< ((4 : Int32).toInt64 &&& 63)) ||| 0) <<< ((2 : Int32).toInt64 &&& 63)) ||| 3)]) : Z p l e R s m args below meth c D A 5 Q 0 0 (mw cy a S) [(3, .int 1), (4, .int 2), (1, .long (((((((((((((0 ||| ((ar S 0 0) : Int32).toInt64) <<< ((2 : Int32).toInt64 &&& 63)) ||| 3) <<< ((1 : Int32).toInt64 &&& 63)) ||| 0) <<< ((3 : Int32).toInt64 &&& 63)) ||| 0) <<< ((1 : Int32).toInt64 &&& 63)) ||| 0) <<< ((3 : Int32).toInt64 &&& 63)) ||| 0) <<< ((1 : Int32).toInt64 &&& 63)) ||| 0)), (0, .ref (a 0))] 22 [.int 0, .long ((((((((((((((0 ||| ((ar S 0 0) : Int32).toInt64) <<< ((2 : Int32).toInt64 &&& 63)) ||| 3) <<< ((1 : Int32).toInt64 &&& 63)) ||| 0) <<< ((3 : Int32).toInt64 &&& 63)) ||| 0) <<< ((1 : Int32).toInt64 &&& 63)) ||| 0) <<< ((3 : Int32).toInt64 &&& 63)) ||| 0) <<< ((1 : Int32).toInt64 &&& 63)) ||| 0) <<< ((4 : Int32).toInt64 &&& 63))] := by
  refine z_i2l (v := 0) b dX12_packs_22 (by decide) ?_
  refine z_lor b dX12_packs_23 rfl ?_
  refine z_lstore_n (lv' := [(1, .long (((((((((((((((0 ||| ((ar S 0 0) : Int32).toInt64) <<< ((2 : Int32).toInt64 &&& 63)) ||| 3) <<< ((1 : Int32).toInt64 &&& 63)) ||| 0) <<< ((3 : Int32).toInt64 &&& 63)) ||| 0) <<< ((1 : Int32).toInt64 &&& 63)) ||| 0) <<< ((3 : Int32).toInt64 &&& 63)) ||| 0) <<< ((1 : Int32).toInt64 &&& 63)) ||| 0) <<< ((4 : Int32).toInt64 &&& 63)) ||| 0)), (3, .int 1), (4, .int 2), (0, .ref (a 0))]) b dX12_packs_24 rfl (by decide) rfl ?_
  refine z_lload_n b dX12_packs_25 rfl rfl ?_
  refine z_iconst (v := 2) b dX12_packs_26 (by decide) ?_
  refine z_lshl b dX12_packs_27 rfl ?_
  refine z_aload_n b dX12_packs_28 rfl rfl ?_
  refine z_get (q0 := 0) (k9 := 2) (v := .ref (a 3)) b (mw_0 cy a S) rfl in_X12 (by decide) wf_X12_20 rfl dX12_packs_29 ?_
  refine z_iload_n b dX12_packs_32 rfl rfl ?_
  refine y_iald (q0 := 3) (j := 1) (v := (ar S 2 1)) b (mw_3 cy a S) (by decide) rfl dX12_packs_33 ?_
  refine z_eqi h_a_2_1 ?_
  refine z_i2l (v := 3) b dX12_packs_34 (by decide) ?_
  refine z_lor b dX12_packs_35 rfl ?_
  refine z_lstore_n (lv' := [(1, .long (((((((((((((((((0 ||| ((ar S 0 0) : Int32).toInt64) <<< ((2 : Int32).toInt64 &&& 63)) ||| 3) <<< ((1 : Int32).toInt64 &&& 63)) ||| 0) <<< ((3 : Int32).toInt64 &&& 63)) ||| 0) <<< ((1 : Int32).toInt64 &&& 63)) ||| 0) <<< ((3 : Int32).toInt64 &&& 63)) ||| 0) <<< ((1 : Int32).toInt64 &&& 63)) ||| 0) <<< ((4 : Int32).toInt64 &&& 63)) ||| 0) <<< ((2 : Int32).toInt64 &&& 63)) ||| 3)), (3, .int 1), (4, .int 2), (0, .ref (a 0))]) b dX12_packs_36 rfl (by decide) rfl ?_
  refine z_lload_n b dX12_packs_37 rfl rfl ?_
  refine z_iconst (v := 1) b dX12_packs_38 (by decide) ?_
  refine z_lshl b dX12_packs_39 rfl ?_
  refine z_aload_n b dX12_packs_40 rfl rfl ?_
  refine z_get (q0 := 0) (k9 := 3) (v := .ref (a 4)) b (mw_0 cy a S) rfl in_X12 (by decide) wf_X12_23 rfl dX12_packs_41 ?_
  refine z_iconst (v := 3) b dX12_packs_44 (by decide) ?_
  refine z_iload_n b dX12_packs_45 rfl rfl ?_
  refine z_imul (v := 3) b dX12_packs_46 (by decide) ?_
  refine z_iload_n b dX12_packs_47 rfl rfl ?_
  refine z_iconst (v := 0) b dX12_packs_48 (by decide) ?_
  refine z_calli b (z_runS (As := [.int 1, .int 0]) (st := [.int 3, .ref (a 4), .long ((((((((((((((((((0 ||| ((ar S 0 0) : Int32).toInt64) <<< ((2 : Int32).toInt64 &&& 63)) ||| 3) <<< ((1 : Int32).toInt64 &&& 63)) ||| 0) <<< ((3 : Int32).toInt64 &&& 63)) ||| 0) <<< ((1 : Int32).toInt64 &&& 63)) ||| 0) <<< ((3 : Int32).toInt64 &&& 63)) ||| 0) <<< ((1 : Int32).toInt64 &&& 63)) ||| 0) <<< ((4 : Int32).toInt64 &&& 63)) ||| 0) <<< ((2 : Int32).toInt64 &&& 63)) ||| 3) <<< ((1 : Int32).toInt64 &&& 63))]) b (c_X12_other_4 S ) cf_X12_other wm_X12_160 ws_X12_other dX12_packs_49 rfl (Nat.le_of_ble_eq_true rfl) ⟨by decide, by decide, by decide, by decide⟩) (fun r128 u129 h127 => ?_)
  obtain ⟨rfl, rfl⟩ := h127
  refine z_iadd (v := 5) b dX12_packs_52 (by decide) ?_
  refine y_zald (q0 := 4) (j := 5) (v := (ar S 3 5)) b (mw_4 cy a S) (by decide) rfl dX12_packs_53 ?_
  refine z_eqi h_a_3_5 ?_
  refine z_if_eq_t (tgt := 61) b dX12_packs_54 (by decide) (by decide) ?_
  refine z_lconst (v := 0) b dX12_packs_61 (by decide) ?_
  refine z_lor b dX12_packs_62 rfl ?_
  refine z_lstore_n (lv' := [(1, .long (((((((((((((((((((0 ||| ((ar S 0 0) : Int32).toInt64) <<< ((2 : Int32).toInt64 &&& 63)) ||| 3) <<< ((1 : Int32).toInt64 &&& 63)) ||| 0) <<< ((3 : Int32).toInt64 &&& 63)) ||| 0) <<< ((1 : Int32).toInt64 &&& 63)) ||| 0) <<< ((3 : Int32).toInt64 &&& 63)) ||| 0) <<< ((1 : Int32).toInt64 &&& 63)) ||| 0) <<< ((4 : Int32).toInt64 &&& 63)) ||| 0) <<< ((2 : Int32).toInt64 &&& 63)) ||| 3) <<< ((1 : Int32).toInt64 &&& 63)) ||| 0)), (3, .int 1), (4, .int 2), (0, .ref (a 0))]) b dX12_packs_63 rfl (by decide) rfl ?_
  refine z_iconst (v := 0) b dX12_packs_64 (by decide) ?_
  refine z_istore (lv' := [(4, .int 0), (1, .long (((((((((((((((((((0 ||| ((ar S 0 0) : Int32).toInt64) <<< ((2 : Int32).toInt64 &&& 63)) ||| 3) <<< ((1 : Int32).toInt64 &&& 63)) ||| 0) <<< ((3 : Int32).toInt64 &&& 63)) ||| 0) <<< ((1 : Int32).toInt64 &&& 63)) ||| 0) <<< ((3 : Int32).toInt64 &&& 63)) ||| 0) <<< ((1 : Int32).toInt64 &&& 63)) ||| 0) <<< ((4 : Int32).toInt64 &&& 63)) ||| 0) <<< ((2 : Int32).toInt64 &&& 63)) ||| 3) <<< ((1 : Int32).toInt64 &&& 63)) ||| 0)), (3, .int 1), (0, .ref (a 0))]) b dX12_packs_65 (by decide) rfl ?_
  refine z_iload b dX12_packs_67 rfl ?_
  refine z_iconst (v := 2) b dX12_packs_69 (by decide) ?_
  refine z_icmp_ge_f (tgt := 128) b dX12_packs_70 (by decide) (by decide) ?_
  refine z_lload_n b dX12_packs_73 rfl rfl ?_
  refine z_iconst (v := 3) b dX12_packs_74 (by decide) ?_
  refine z_lshl b dX12_packs_75 rfl ?_
  refine z_aload_n b dX12_packs_76 rfl rfl ?_
  refine z_get (q0 := 0) (k9 := 1) (v := .ref (a 2)) b (mw_0 cy a S) rfl in_X12 (by decide) wf_X12_17 rfl dX12_packs_77 ?_
  refine z_iconst (v := 3) b dX12_packs_80 (by decide) ?_
  refine z_iload_n b dX12_packs_81 rfl rfl ?_
  refine z_imul (v := 3) b dX12_packs_82 (by decide) ?_
  refine z_iload_n b dX12_packs_83 rfl rfl ?_
  refine z_iload b dX12_packs_84 rfl ?_
  refine z_calli b (z_runS (As := [.int 1, .int 0]) (st := [.int 3, .ref (a 2), .long ((((((((((((((((((((0 ||| ((ar S 0 0) : Int32).toInt64) <<< ((2 : Int32).toInt64 &&& 63)) ||| 3) <<< ((1 : Int32).toInt64 &&& 63)) ||| 0) <<< ((3 : Int32).toInt64 &&& 63)) ||| 0) <<< ((1 : Int32).toInt64 &&& 63)) ||| 0) <<< ((3 : Int32).toInt64 &&& 63)) ||| 0) <<< ((1 : Int32).toInt64 &&& 63)) ||| 0) <<< ((4 : Int32).toInt64 &&& 63)) ||| 0) <<< ((2 : Int32).toInt64 &&& 63)) ||| 3) <<< ((1 : Int32).toInt64 &&& 63)) ||| 0) <<< ((3 : Int32).toInt64 &&& 63))]) b (c_X12_other_4 S ) cf_X12_other wm_X12_160 ws_X12_other dX12_packs_86 rfl (Nat.le_of_ble_eq_true rfl) ⟨by decide, by decide, by decide, by decide⟩) (fun r131 u132 h130 => ?_)
  obtain ⟨rfl, rfl⟩ := h130
  refine z_iadd (v := 5) b dX12_packs_89 (by decide) ?_
  refine y_iald (q0 := 2) (j := 5) (v := (ar S 1 5)) b (mw_2 cy a S) (by decide) rfl dX12_packs_90 ?_
  refine z_eqi h_a_1_5 ?_
  refine z_i2l (v := 0) b dX12_packs_91 (by decide) ?_
  refine z_lor b dX12_packs_92 rfl ?_
  refine z_lstore_n (lv' := [(1, .long (((((((((((((((((((((0 ||| ((ar S 0 0) : Int32).toInt64) <<< ((2 : Int32).toInt64 &&& 63)) ||| 3) <<< ((1 : Int32).toInt64 &&& 63)) ||| 0) <<< ((3 : Int32).toInt64 &&& 63)) ||| 0) <<< ((1 : Int32).toInt64 &&& 63)) ||| 0) <<< ((3 : Int32).toInt64 &&& 63)) ||| 0) <<< ((1 : Int32).toInt64 &&& 63)) ||| 0) <<< ((4 : Int32).toInt64 &&& 63)) ||| 0) <<< ((2 : Int32).toInt64 &&& 63)) ||| 3) <<< ((1 : Int32).toInt64 &&& 63)) ||| 0) <<< ((3 : Int32).toInt64 &&& 63)) ||| 0)), (4, .int 0), (3, .int 1), (0, .ref (a 0))]) b dX12_packs_93 rfl (by decide) rfl ?_
  refine z_lload_n b dX12_packs_94 rfl rfl ?_
  refine z_iconst (v := 1) b dX12_packs_95 (by decide) ?_
  refine z_lshl b dX12_packs_96 rfl ?_
  refine z_aload_n b dX12_packs_97 rfl rfl ?_
  refine z_get (q0 := 0) (k9 := 4) (v := .ref (a 5)) b (mw_0 cy a S) rfl in_X12 (by decide) wf_X12_27 rfl dX12_packs_98 ?_
  refine z_iconst (v := 3) b dX12_packs_101 (by decide) ?_
  refine z_iload_n b dX12_packs_102 rfl rfl ?_
  refine z_imul (v := 3) b dX12_packs_103 (by decide) ?_
  refine z_iload_n b dX12_packs_104 rfl rfl ?_
  refine z_iload b dX12_packs_105 rfl ?_
  refine z_calli b (z_runS (As := [.int 1, .int 0]) (st := [.int 3, .ref (a 5), .long ((((((((((((((((((((((0 ||| ((ar S 0 0) : Int32).toInt64) <<< ((2 : Int32).toInt64 &&& 63)) ||| 3) <<< ((1 : Int32).toInt64 &&& 63)) ||| 0) <<< ((3 : Int32).toInt64 &&& 63)) ||| 0) <<< ((1 : Int32).toInt64 &&& 63)) ||| 0) <<< ((3 : Int32).toInt64 &&& 63)) ||| 0) <<< ((1 : Int32).toInt64 &&& 63)) ||| 0) <<< ((4 : Int32).toInt64 &&& 63)) ||| 0) <<< ((2 : Int32).toInt64 &&& 63)) ||| 3) <<< ((1 : Int32).toInt64 &&& 63)) ||| 0) <<< ((3 : Int32).toInt64 &&& 63)) ||| 0) <<< ((1 : Int32).toInt64 &&& 63))]) b (c_X12_other_4 S ) cf_X12_other wm_X12_160 ws_X12_other dX12_packs_107 rfl (Nat.le_of_ble_eq_true rfl) ⟨by decide, by decide, by decide, by decide⟩) (fun r134 u135 h133 => ?_)
  obtain ⟨rfl, rfl⟩ := h133
  refine z_iadd (v := 5) b dX12_packs_110 (by decide) ?_
  refine y_zald (q0 := 5) (j := 5) (v := (ar S 4 5)) b (mw_5 cy a S) (by decide) rfl dX12_packs_111 ?_
  refine z_eqi h_a_4_5 ?_
  refine z_if_eq_t (tgt := 119) b dX12_packs_112 (by decide) (by decide) ?_
  refine z_lconst (v := 0) b dX12_packs_119 (by decide) ?_
  refine z_lor b dX12_packs_120 rfl ?_
  refine z_lstore_n (lv' := [(1, .long (((((((((((((((((((((((0 ||| ((ar S 0 0) : Int32).toInt64) <<< ((2 : Int32).toInt64 &&& 63)) ||| 3) <<< ((1 : Int32).toInt64 &&& 63)) ||| 0) <<< ((3 : Int32).toInt64 &&& 63)) ||| 0) <<< ((1 : Int32).toInt64 &&& 63)) ||| 0) <<< ((3 : Int32).toInt64 &&& 63)) ||| 0) <<< ((1 : Int32).toInt64 &&& 63)) ||| 0) <<< ((4 : Int32).toInt64 &&& 63)) ||| 0) <<< ((2 : Int32).toInt64 &&& 63)) ||| 3) <<< ((1 : Int32).toInt64 &&& 63)) ||| 0) <<< ((3 : Int32).toInt64 &&& 63)) ||| 0) <<< ((1 : Int32).toInt64 &&& 63)) ||| 0)), (4, .int 0), (3, .int 1), (0, .ref (a 0))]) b dX12_packs_121 rfl (by decide) rfl ?_
  refine z_iinc (k9 := 1) (v := 1) (lv' := [(4, .int 1), (1, .long (((((((((((((((((((((((0 ||| ((ar S 0 0) : Int32).toInt64) <<< ((2 : Int32).toInt64 &&& 63)) ||| 3) <<< ((1 : Int32).toInt64 &&& 63)) ||| 0) <<< ((3 : Int32).toInt64 &&& 63)) ||| 0) <<< ((1 : Int32).toInt64 &&& 63)) ||| 0) <<< ((3 : Int32).toInt64 &&& 63)) ||| 0) <<< ((1 : Int32).toInt64 &&& 63)) ||| 0) <<< ((4 : Int32).toInt64 &&& 63)) ||| 0) <<< ((2 : Int32).toInt64 &&& 63)) ||| 3) <<< ((1 : Int32).toInt64 &&& 63)) ||| 0) <<< ((3 : Int32).toInt64 &&& 63)) ||| 0) <<< ((1 : Int32).toInt64 &&& 63)) ||| 0)), (3, .int 1), (0, .ref (a 0))]) b dX12_packs_122 rfl (by decide) (by decide) rfl ?_
  refine z_goto (tgt := 67) b dX12_packs_125 (by decide) ?_
  refine z_iload b dX12_packs_67 rfl ?_
  refine z_iconst (v := 2) b dX12_packs_69 (by decide) ?_
  refine z_icmp_ge_f (tgt := 128) b dX12_packs_70 (by decide) (by decide) ?_
  refine z_lload_n b dX12_packs_73 rfl rfl ?_
  refine z_iconst (v := 3) b dX12_packs_74 (by decide) ?_
  refine z_lshl b dX12_packs_75 rfl ?_
  refine z_aload_n b dX12_packs_76 rfl rfl ?_
  refine z_get (q0 := 0) (k9 := 1) (v := .ref (a 2)) b (mw_0 cy a S) rfl in_X12 (by decide) wf_X12_17 rfl dX12_packs_77 ?_
  refine z_iconst (v := 3) b dX12_packs_80 (by decide) ?_
  refine z_iload_n b dX12_packs_81 rfl rfl ?_
  refine z_imul (v := 3) b dX12_packs_82 (by decide) ?_
  refine z_iload_n b dX12_packs_83 rfl rfl ?_
  refine z_iload b dX12_packs_84 rfl ?_
  refine z_calli b (z_runS (As := [.int 1, .int 1]) (st := [.int 3, .ref (a 2), .long ((((((((((((((((((((((((0 ||| ((ar S 0 0) : Int32).toInt64) <<< ((2 : Int32).toInt64 &&& 63)) ||| 3) <<< ((1 : Int32).toInt64 &&& 63)) ||| 0) <<< ((3 : Int32).toInt64 &&& 63)) ||| 0) <<< ((1 : Int32).toInt64 &&& 63)) ||| 0) <<< ((3 : Int32).toInt64 &&& 63)) ||| 0) <<< ((1 : Int32).toInt64 &&& 63)) ||| 0) <<< ((4 : Int32).toInt64 &&& 63)) ||| 0) <<< ((2 : Int32).toInt64 &&& 63)) ||| 3) <<< ((1 : Int32).toInt64 &&& 63)) ||| 0) <<< ((3 : Int32).toInt64 &&& 63)) ||| 0) <<< ((1 : Int32).toInt64 &&& 63)) ||| 0) <<< ((3 : Int32).toInt64 &&& 63))]) b (c_X12_other_3 S ) cf_X12_other wm_X12_160 ws_X12_other dX12_packs_86 rfl (Nat.le_of_ble_eq_true rfl) ⟨by decide, by decide, by decide, by decide⟩) (fun r137 u138 h136 => ?_)
  obtain ⟨rfl, rfl⟩ := h136
  refine z_iadd (v := 3) b dX12_packs_89 (by decide) ?_
  refine y_iald (q0 := 2) (j := 3) (v := (ar S 1 3)) b (mw_2 cy a S) (by decide) rfl dX12_packs_90 ?_
  refine z_eqi h_a_1_3 ?_
  refine z_i2l (v := 0) b dX12_packs_91 (by decide) ?_
  refine z_lor b dX12_packs_92 rfl ?_
  refine z_lstore_n (lv' := [(1, .long (((((((((((((((((((((((((0 ||| ((ar S 0 0) : Int32).toInt64) <<< ((2 : Int32).toInt64 &&& 63)) ||| 3) <<< ((1 : Int32).toInt64 &&& 63)) ||| 0) <<< ((3 : Int32).toInt64 &&& 63)) ||| 0) <<< ((1 : Int32).toInt64 &&& 63)) ||| 0) <<< ((3 : Int32).toInt64 &&& 63)) ||| 0) <<< ((1 : Int32).toInt64 &&& 63)) ||| 0) <<< ((4 : Int32).toInt64 &&& 63)) ||| 0) <<< ((2 : Int32).toInt64 &&& 63)) ||| 3) <<< ((1 : Int32).toInt64 &&& 63)) ||| 0) <<< ((3 : Int32).toInt64 &&& 63)) ||| 0) <<< ((1 : Int32).toInt64 &&& 63)) ||| 0) <<< ((3 : Int32).toInt64 &&& 63)) ||| 0)), (4, .int 1), (3, .int 1), (0, .ref (a 0))]) b dX12_packs_93 rfl (by decide) rfl ?_
  refine z_lload_n b dX12_packs_94 rfl rfl ?_
  refine z_iconst (v := 1) b dX12_packs_95 (by decide) ?_
  refine z_lshl b dX12_packs_96 rfl ?_
  refine z_aload_n b dX12_packs_97 rfl rfl ?_
  refine z_get (q0 := 0) (k9 := 4) (v := .ref (a 5)) b (mw_0 cy a S) rfl in_X12 (by decide) wf_X12_27 rfl dX12_packs_98 ?_
  refine z_iconst (v := 3) b dX12_packs_101 (by decide) ?_
  refine z_iload_n b dX12_packs_102 rfl rfl ?_
  refine z_imul (v := 3) b dX12_packs_103 (by decide) ?_
  refine z_iload_n b dX12_packs_104 rfl rfl ?_
  refine z_iload b dX12_packs_105 rfl ?_
  refine z_calli b (z_runS (As := [.int 1, .int 1]) (st := [.int 3, .ref (a 5), .long ((((((((((((((((((((((((((0 ||| ((ar S 0 0) : Int32).toInt64) <<< ((2 : Int32).toInt64 &&& 63)) ||| 3) <<< ((1 : Int32).toInt64 &&& 63)) ||| 0) <<< ((3 : Int32).toInt64 &&& 63)) ||| 0) <<< ((1 : Int32).toInt64 &&& 63)) ||| 0) <<< ((3 : Int32).toInt64 &&& 63)) ||| 0) <<< ((1 : Int32).toInt64 &&& 63)) ||| 0) <<< ((4 : Int32).toInt64 &&& 63)) ||| 0) <<< ((2 : Int32).toInt64 &&& 63)) ||| 3) <<< ((1 : Int32).toInt64 &&& 63)) ||| 0) <<< ((3 : Int32).toInt64 &&& 63)) ||| 0) <<< ((1 : Int32).toInt64 &&& 63)) ||| 0) <<< ((3 : Int32).toInt64 &&& 63)) ||| 0) <<< ((1 : Int32).toInt64 &&& 63))]) b (c_X12_other_3 S ) cf_X12_other wm_X12_160 ws_X12_other dX12_packs_107 rfl (Nat.le_of_ble_eq_true rfl) ⟨by decide, by decide, by decide, by decide⟩) (fun r140 u141 h139 => ?_)
  obtain ⟨rfl, rfl⟩ := h139
  refine z_iadd (v := 3) b dX12_packs_110 (by decide) ?_
  refine y_zald (q0 := 5) (j := 3) (v := (ar S 4 3)) b (mw_5 cy a S) (by decide) rfl dX12_packs_111 ?_
  refine z_eqi h_a_4_3 ?_
  refine z_if_eq_t (tgt := 119) b dX12_packs_112 (by decide) (by decide) ?_
  refine z_lconst (v := 0) b dX12_packs_119 (by decide) ?_
  refine z_lor b dX12_packs_120 rfl ?_
  refine z_lstore_n (lv' := [(1, .long (((((((((((((((((((((((((((0 ||| ((ar S 0 0) : Int32).toInt64) <<< ((2 : Int32).toInt64 &&& 63)) ||| 3) <<< ((1 : Int32).toInt64 &&& 63)) ||| 0) <<< ((3 : Int32).toInt64 &&& 63)) ||| 0) <<< ((1 : Int32).toInt64 &&& 63)) ||| 0) <<< ((3 : Int32).toInt64 &&& 63)) ||| 0) <<< ((1 : Int32).toInt64 &&& 63)) ||| 0) <<< ((4 : Int32).toInt64 &&& 63)) ||| 0) <<< ((2 : Int32).toInt64 &&& 63)) ||| 3) <<< ((1 : Int32).toInt64 &&& 63)) ||| 0) <<< ((3 : Int32).toInt64 &&& 63)) ||| 0) <<< ((1 : Int32).toInt64 &&& 63)) ||| 0) <<< ((3 : Int32).toInt64 &&& 63)) ||| 0) <<< ((1 : Int32).toInt64 &&& 63)) ||| 0)), (4, .int 1), (3, .int 1), (0, .ref (a 0))]) b dX12_packs_121 rfl (by decide) rfl ?_
  refine z_iinc (k9 := 1) (v := 2) (lv' := [(4, .int 2), (1, .long (((((((((((((((((((((((((((0 ||| ((ar S 0 0) : Int32).toInt64) <<< ((2 : Int32).toInt64 &&& 63)) ||| 3) <<< ((1 : Int32).toInt64 &&& 63)) ||| 0) <<< ((3 : Int32).toInt64 &&& 63)) ||| 0) <<< ((1 : Int32).toInt64 &&& 63)) ||| 0) <<< ((3 : Int32).toInt64 &&& 63)) ||| 0) <<< ((1 : Int32).toInt64 &&& 63)) ||| 0) <<< ((4 : Int32).toInt64 &&& 63)) ||| 0) <<< ((2 : Int32).toInt64 &&& 63)) ||| 3) <<< ((1 : Int32).toInt64 &&& 63)) ||| 0) <<< ((3 : Int32).toInt64 &&& 63)) ||| 0) <<< ((1 : Int32).toInt64 &&& 63)) ||| 0) <<< ((3 : Int32).toInt64 &&& 63)) ||| 0) <<< ((1 : Int32).toInt64 &&& 63)) ||| 0)), (3, .int 1), (0, .ref (a 0))]) b dX12_packs_122 rfl (by decide) (by decide) rfl ?_
  refine z_goto (tgt := 67) b dX12_packs_125 (by decide) ?_
  refine z_iload b dX12_packs_67 rfl ?_
  refine z_iconst (v := 2) b dX12_packs_69 (by decide) ?_
  refine z_icmp_ge_t (tgt := 128) b dX12_packs_70 (by decide) (by decide) ?_
  refine z_iinc (k9 := 2) (v := 2) (lv' := [(3, .int 2), (4, .int 2), (1, .long (((((((((((((((((((((((((((0 ||| ((ar S 0 0) : Int32).toInt64) <<< ((2 : Int32).toInt64 &&& 63)) ||| 3) <<< ((1 : Int32).toInt64 &&& 63)) ||| 0) <<< ((3 : Int32).toInt64 &&& 63)) ||| 0) <<< ((1 : Int32).toInt64 &&& 63)) ||| 0) <<< ((3 : Int32).toInt64 &&& 63)) ||| 0) <<< ((1 : Int32).toInt64 &&& 63)) ||| 0) <<< ((4 : Int32).toInt64 &&& 63)) ||| 0) <<< ((2 : Int32).toInt64 &&& 63)) ||| 3) <<< ((1 : Int32).toInt64 &&& 63)) ||| 0) <<< ((3 : Int32).toInt64 &&& 63)) ||| 0) <<< ((1 : Int32).toInt64 &&& 63)) ||| 0) <<< ((3 : Int32).toInt64 &&& 63)) ||| 0) <<< ((1 : Int32).toInt64 &&& 63)) ||| 0)), (0, .ref (a 0))]) b dX12_packs_128 rfl (by decide) (by decide) rfl ?_
  refine z_goto (tgt := 8) b dX12_packs_131 (by decide) ?_
  refine z_iload_n b dX12_packs_8 rfl rfl ?_
  refine z_iconst (v := 3) b dX12_packs_9 (by decide) ?_
  refine z_icmp_ge_f (tgt := 134) b dX12_packs_10 (by decide) (by decide) ?_
  refine z_lload_n b dX12_packs_13 rfl rfl ?_
  refine z_iconst (v := 4) b dX12_packs_14 (by decide) ?_
  refine z_lshl b dX12_packs_15 rfl ?_
  refine z_aload_n b dX12_packs_16 rfl rfl ?_
  refine z_get (q0 := 0) (k9 := 0) (v := .ref (a 1)) b (mw_0 cy a S) rfl in_X12 (by decide) wf_X12_13 rfl dX12_packs_17 ?_
  refine z_iload_n b dX12_packs_20 rfl rfl ?_
  refine y_iald (q0 := 1) (j := 2) (v := (ar S 0 2)) b (mw_1 cy a S) (by decide) rfl dX12_packs_21 ?_
  refine z_eqi h_a_0_2 ?_
  refine z_i2l (v := 0) b dX12_packs_22 (by decide) ?_
  refine z_lor b dX12_packs_23 rfl ?_
  refine z_lstore_n (lv' := [(1, .long (((((((((((((((((((((((((((((0 ||| ((ar S 0 0) : Int32).toInt64) <<< ((2 : Int32).toInt64 &&& 63)) ||| 3) <<< ((1 : Int32).toInt64 &&& 63)) ||| 0) <<< ((3 : Int32).toInt64 &&& 63)) ||| 0) <<< ((1 : Int32).toInt64 &&& 63)) ||| 0) <<< ((3 : Int32).toInt64 &&& 63)) ||| 0) <<< ((1 : Int32).toInt64 &&& 63)) ||| 0) <<< ((4 : Int32).toInt64 &&& 63)) ||| 0) <<< ((2 : Int32).toInt64 &&& 63)) ||| 3) <<< ((1 : Int32).toInt64 &&& 63)) ||| 0) <<< ((3 : Int32).toInt64 &&& 63)) ||| 0) <<< ((1 : Int32).toInt64 &&& 63)) ||| 0) <<< ((3 : Int32).toInt64 &&& 63)) ||| 0) <<< ((1 : Int32).toInt64 &&& 63)) ||| 0) <<< ((4 : Int32).toInt64 &&& 63)) ||| 0)), (3, .int 2), (4, .int 2), (0, .ref (a 0))]) b dX12_packs_24 rfl (by decide) rfl ?_
  refine z_lload_n b dX12_packs_25 rfl rfl ?_
  refine z_iconst (v := 2) b dX12_packs_26 (by decide) ?_
  refine z_lshl b dX12_packs_27 rfl ?_
  refine z_aload_n b dX12_packs_28 rfl rfl ?_
  refine z_get (q0 := 0) (k9 := 2) (v := .ref (a 3)) b (mw_0 cy a S) rfl in_X12 (by decide) wf_X12_20 rfl dX12_packs_29 ?_
  refine z_iload_n b dX12_packs_32 rfl rfl ?_
  refine y_iald (q0 := 3) (j := 2) (v := (ar S 2 2)) b (mw_3 cy a S) (by decide) rfl dX12_packs_33 ?_
  refine z_eqi h_a_2_2 ?_
  refine z_i2l (v := 3) b dX12_packs_34 (by decide) ?_
  refine z_lor b dX12_packs_35 rfl ?_
  refine z_lstore_n (lv' := [(1, .long (((((((((((((((((((((((((((((((0 ||| ((ar S 0 0) : Int32).toInt64) <<< ((2 : Int32).toInt64 &&& 63)) ||| 3) <<< ((1 : Int32).toInt64 &&& 63)) ||| 0) <<< ((3 : Int32).toInt64 &&& 63)) ||| 0) <<< ((1 : Int32).toInt64 &&& 63)) ||| 0) <<< ((3 : Int32).toInt64 &&& 63)) ||| 0) <<< ((1 : Int32).toInt64 &&& 63)) ||| 0) <<< ((4 : Int32).toInt64 &&& 63)) ||| 0) <<< ((2 : Int32).toInt64 &&& 63)) ||| 3) <<< ((1 : Int32).toInt64 &&& 63)) ||| 0) <<< ((3 : Int32).toInt64 &&& 63)) ||| 0) <<< ((1 : Int32).toInt64 &&& 63)) ||| 0) <<< ((3 : Int32).toInt64 &&& 63)) ||| 0) <<< ((1 : Int32).toInt64 &&& 63)) ||| 0) <<< ((4 : Int32).toInt64 &&& 63)) ||| 0) <<< ((2 : Int32).toInt64 &&& 63)) ||| 3)), (3, .int 2), (4, .int 2), (0, .ref (a 0))]) b dX12_packs_36 rfl (by decide) rfl ?_
  refine z_lload_n b dX12_packs_37 rfl rfl ?_
  refine z_iconst (v := 1) b dX12_packs_38 (by decide) ?_
  exact k

set_option maxHeartbeats 4000000 in
set_option maxRecDepth 100000 in
theorem c_X12_packs {l : Launch} {D : va_G} {cy : Nat → ClassId} {T0 tB tE : Nat} {a : Nat → Nat} (S : GS)  (h_i_0 : fi S 0 = 0) (h_a_2_0 : ar S 2 0 = 3) (h_a_3_1 : ar S 3 1 = 0) (h_a_1_1 : ar S 1 1 = 0) (h_a_4_1 : ar S 4 1 = 0) (h_a_1_2 : ar S 1 2 = 0) (h_a_4_2 : ar S 4 2 = 0) (h_a_0_1 : ar S 0 1 = 0) (h_a_2_1 : ar S 2 1 = 3) (h_a_3_5 : ar S 3 5 = 0) (h_a_1_5 : ar S 1 5 = 0) (h_a_4_5 : ar S 4 5 = 0) (h_a_1_3 : ar S 1 3 = 0) (h_a_4_3 : ar S 4 3 = 0) (h_a_0_2 : ar S 0 2 = 0) (h_a_2_2 : ar S 2 2 = 3) (h_a_3_6 : ar S 3 6 = 0) (h_a_1_6 : ar S 1 6 = 0) (h_a_4_6 : ar S 4 6 = 0) (h_a_1_7 : ar S 1 7 = 0) (h_a_4_7 : ar S 4 7 = 0) : Ct l D cy T0 tB tE yX12_packs cX12_packs 5 (some .long) 1 21 0 0 (mw cy a S) [.ref (a 0)] (QL D (U := GS) (fun r u => (((((((((((((((((((((((((((((((((((((((((0 ||| ((ar S 0 0) : Int32).toInt64) <<< ((2 : Int32).toInt64 &&& 63)) ||| 3) <<< ((1 : Int32).toInt64 &&& 63)) ||| 0) <<< ((3 : Int32).toInt64 &&& 63)) ||| 0) <<< ((1 : Int32).toInt64 &&& 63)) ||| 0) <<< ((3 : Int32).toInt64 &&& 63)) ||| 0) <<< ((1 : Int32).toInt64 &&& 63)) ||| 0) <<< ((4 : Int32).toInt64 &&& 63)) ||| 0) <<< ((2 : Int32).toInt64 &&& 63)) ||| 3) <<< ((1 : Int32).toInt64 &&& 63)) ||| 0) <<< ((3 : Int32).toInt64 &&& 63)) ||| 0) <<< ((1 : Int32).toInt64 &&& 63)) ||| 0) <<< ((3 : Int32).toInt64 &&& 63)) ||| 0) <<< ((1 : Int32).toInt64 &&& 63)) ||| 0) <<< ((4 : Int32).toInt64 &&& 63)) ||| 0) <<< ((2 : Int32).toInt64 &&& 63)) ||| 3) <<< ((1 : Int32).toInt64 &&& 63)) ||| 0) <<< ((3 : Int32).toInt64 &&& 63)) ||| 0) <<< ((1 : Int32).toInt64 &&& 63)) ||| 0) <<< ((3 : Int32).toInt64 &&& 63)) ||| 0) <<< ((1 : Int32).toInt64 &&& 63)) ||| 0) = r ∧ S = u) (mw cy a)) := by
  refine Ct.ofZ RX12 "packs" [(0, .ref (a 0))] rfl rfl rfl rfl (Nat.le_of_ble_eq_true rfl) ?_
  intro p e R s m args below meth c A b
  refine ch_X12_packs_4 S  h_a_0_1 h_a_1_1 h_a_1_2 h_a_2_0 h_a_3_1 h_a_4_1 h_a_4_2 h_i_0  b ?_
  refine ch_X12_packs_5 S  h_a_0_2 h_a_1_3 h_a_1_5 h_a_2_1 h_a_2_2 h_a_3_5 h_a_4_3 h_a_4_5  b ?_
  refine z_lshl b dX12_packs_39 rfl ?_
  refine z_aload_n b dX12_packs_40 rfl rfl ?_
  refine z_get (q0 := 0) (k9 := 3) (v := .ref (a 4)) b (mw_0 cy a S) rfl in_X12 (by decide) wf_X12_23 rfl dX12_packs_41 ?_
  refine z_iconst (v := 3) b dX12_packs_44 (by decide) ?_
  refine z_iload_n b dX12_packs_45 rfl rfl ?_
  refine z_imul (v := 6) b dX12_packs_46 (by decide) ?_
  refine z_iload_n b dX12_packs_47 rfl rfl ?_
  refine z_iconst (v := 0) b dX12_packs_48 (by decide) ?_
  refine z_calli b (z_runS (As := [.int 2, .int 0]) (st := [.int 6, .ref (a 4), .long ((((((((((((((((((((((((((((((((0 ||| ((ar S 0 0) : Int32).toInt64) <<< ((2 : Int32).toInt64 &&& 63)) ||| 3) <<< ((1 : Int32).toInt64 &&& 63)) ||| 0) <<< ((3 : Int32).toInt64 &&& 63)) ||| 0) <<< ((1 : Int32).toInt64 &&& 63)) ||| 0) <<< ((3 : Int32).toInt64 &&& 63)) ||| 0) <<< ((1 : Int32).toInt64 &&& 63)) ||| 0) <<< ((4 : Int32).toInt64 &&& 63)) ||| 0) <<< ((2 : Int32).toInt64 &&& 63)) ||| 3) <<< ((1 : Int32).toInt64 &&& 63)) ||| 0) <<< ((3 : Int32).toInt64 &&& 63)) ||| 0) <<< ((1 : Int32).toInt64 &&& 63)) ||| 0) <<< ((3 : Int32).toInt64 &&& 63)) ||| 0) <<< ((1 : Int32).toInt64 &&& 63)) ||| 0) <<< ((4 : Int32).toInt64 &&& 63)) ||| 0) <<< ((2 : Int32).toInt64 &&& 63)) ||| 3) <<< ((1 : Int32).toInt64 &&& 63))]) b (c_X12_other_2 S ) cf_X12_other wm_X12_160 ws_X12_other dX12_packs_49 rfl (Nat.le_of_ble_eq_true rfl) ⟨by decide, by decide, by decide, by decide⟩) (fun r143 u144 h142 => ?_)
  obtain ⟨rfl, rfl⟩ := h142
  refine z_iadd (v := 6) b dX12_packs_52 (by decide) ?_
  refine y_zald (q0 := 4) (j := 6) (v := (ar S 3 6)) b (mw_4 cy a S) (by decide) rfl dX12_packs_53 ?_
  refine z_eqi h_a_3_6 ?_
  refine z_if_eq_t (tgt := 61) b dX12_packs_54 (by decide) (by decide) ?_
  refine z_lconst (v := 0) b dX12_packs_61 (by decide) ?_
  refine z_lor b dX12_packs_62 rfl ?_
  refine z_lstore_n (lv' := [(1, .long (((((((((((((((((((((((((((((((((0 ||| ((ar S 0 0) : Int32).toInt64) <<< ((2 : Int32).toInt64 &&& 63)) ||| 3) <<< ((1 : Int32).toInt64 &&& 63)) ||| 0) <<< ((3 : Int32).toInt64 &&& 63)) ||| 0) <<< ((1 : Int32).toInt64 &&& 63)) ||| 0) <<< ((3 : Int32).toInt64 &&& 63)) ||| 0) <<< ((1 : Int32).toInt64 &&& 63)) ||| 0) <<< ((4 : Int32).toInt64 &&& 63)) ||| 0) <<< ((2 : Int32).toInt64 &&& 63)) ||| 3) <<< ((1 : Int32).toInt64 &&& 63)) ||| 0) <<< ((3 : Int32).toInt64 &&& 63)) ||| 0) <<< ((1 : Int32).toInt64 &&& 63)) ||| 0) <<< ((3 : Int32).toInt64 &&& 63)) ||| 0) <<< ((1 : Int32).toInt64 &&& 63)) ||| 0) <<< ((4 : Int32).toInt64 &&& 63)) ||| 0) <<< ((2 : Int32).toInt64 &&& 63)) ||| 3) <<< ((1 : Int32).toInt64 &&& 63)) ||| 0)), (3, .int 2), (4, .int 2), (0, .ref (a 0))]) b dX12_packs_63 rfl (by decide) rfl ?_
  refine z_iconst (v := 0) b dX12_packs_64 (by decide) ?_
  refine z_istore (lv' := [(4, .int 0), (1, .long (((((((((((((((((((((((((((((((((0 ||| ((ar S 0 0) : Int32).toInt64) <<< ((2 : Int32).toInt64 &&& 63)) ||| 3) <<< ((1 : Int32).toInt64 &&& 63)) ||| 0) <<< ((3 : Int32).toInt64 &&& 63)) ||| 0) <<< ((1 : Int32).toInt64 &&& 63)) ||| 0) <<< ((3 : Int32).toInt64 &&& 63)) ||| 0) <<< ((1 : Int32).toInt64 &&& 63)) ||| 0) <<< ((4 : Int32).toInt64 &&& 63)) ||| 0) <<< ((2 : Int32).toInt64 &&& 63)) ||| 3) <<< ((1 : Int32).toInt64 &&& 63)) ||| 0) <<< ((3 : Int32).toInt64 &&& 63)) ||| 0) <<< ((1 : Int32).toInt64 &&& 63)) ||| 0) <<< ((3 : Int32).toInt64 &&& 63)) ||| 0) <<< ((1 : Int32).toInt64 &&& 63)) ||| 0) <<< ((4 : Int32).toInt64 &&& 63)) ||| 0) <<< ((2 : Int32).toInt64 &&& 63)) ||| 3) <<< ((1 : Int32).toInt64 &&& 63)) ||| 0)), (3, .int 2), (0, .ref (a 0))]) b dX12_packs_65 (by decide) rfl ?_
  refine z_iload b dX12_packs_67 rfl ?_
  refine z_iconst (v := 2) b dX12_packs_69 (by decide) ?_
  refine z_icmp_ge_f (tgt := 128) b dX12_packs_70 (by decide) (by decide) ?_
  refine z_lload_n b dX12_packs_73 rfl rfl ?_
  refine z_iconst (v := 3) b dX12_packs_74 (by decide) ?_
  refine z_lshl b dX12_packs_75 rfl ?_
  refine z_aload_n b dX12_packs_76 rfl rfl ?_
  refine z_get (q0 := 0) (k9 := 1) (v := .ref (a 2)) b (mw_0 cy a S) rfl in_X12 (by decide) wf_X12_17 rfl dX12_packs_77 ?_
  refine z_iconst (v := 3) b dX12_packs_80 (by decide) ?_
  refine z_iload_n b dX12_packs_81 rfl rfl ?_
  refine z_imul (v := 6) b dX12_packs_82 (by decide) ?_
  refine z_iload_n b dX12_packs_83 rfl rfl ?_
  refine z_iload b dX12_packs_84 rfl ?_
  refine z_calli b (z_runS (As := [.int 2, .int 0]) (st := [.int 6, .ref (a 2), .long ((((((((((((((((((((((((((((((((((0 ||| ((ar S 0 0) : Int32).toInt64) <<< ((2 : Int32).toInt64 &&& 63)) ||| 3) <<< ((1 : Int32).toInt64 &&& 63)) ||| 0) <<< ((3 : Int32).toInt64 &&& 63)) ||| 0) <<< ((1 : Int32).toInt64 &&& 63)) ||| 0) <<< ((3 : Int32).toInt64 &&& 63)) ||| 0) <<< ((1 : Int32).toInt64 &&& 63)) ||| 0) <<< ((4 : Int32).toInt64 &&& 63)) ||| 0) <<< ((2 : Int32).toInt64 &&& 63)) ||| 3) <<< ((1 : Int32).toInt64 &&& 63)) ||| 0) <<< ((3 : Int32).toInt64 &&& 63)) ||| 0) <<< ((1 : Int32).toInt64 &&& 63)) ||| 0) <<< ((3 : Int32).toInt64 &&& 63)) ||| 0) <<< ((1 : Int32).toInt64 &&& 63)) ||| 0) <<< ((4 : Int32).toInt64 &&& 63)) ||| 0) <<< ((2 : Int32).toInt64 &&& 63)) ||| 3) <<< ((1 : Int32).toInt64 &&& 63)) ||| 0) <<< ((3 : Int32).toInt64 &&& 63))]) b (c_X12_other_2 S ) cf_X12_other wm_X12_160 ws_X12_other dX12_packs_86 rfl (Nat.le_of_ble_eq_true rfl) ⟨by decide, by decide, by decide, by decide⟩) (fun r146 u147 h145 => ?_)
  obtain ⟨rfl, rfl⟩ := h145
  refine z_iadd (v := 6) b dX12_packs_89 (by decide) ?_
  refine y_iald (q0 := 2) (j := 6) (v := (ar S 1 6)) b (mw_2 cy a S) (by decide) rfl dX12_packs_90 ?_
  refine z_eqi h_a_1_6 ?_
  refine z_i2l (v := 0) b dX12_packs_91 (by decide) ?_
  refine z_lor b dX12_packs_92 rfl ?_
  refine z_lstore_n (lv' := [(1, .long (((((((((((((((((((((((((((((((((((0 ||| ((ar S 0 0) : Int32).toInt64) <<< ((2 : Int32).toInt64 &&& 63)) ||| 3) <<< ((1 : Int32).toInt64 &&& 63)) ||| 0) <<< ((3 : Int32).toInt64 &&& 63)) ||| 0) <<< ((1 : Int32).toInt64 &&& 63)) ||| 0) <<< ((3 : Int32).toInt64 &&& 63)) ||| 0) <<< ((1 : Int32).toInt64 &&& 63)) ||| 0) <<< ((4 : Int32).toInt64 &&& 63)) ||| 0) <<< ((2 : Int32).toInt64 &&& 63)) ||| 3) <<< ((1 : Int32).toInt64 &&& 63)) ||| 0) <<< ((3 : Int32).toInt64 &&& 63)) ||| 0) <<< ((1 : Int32).toInt64 &&& 63)) ||| 0) <<< ((3 : Int32).toInt64 &&& 63)) ||| 0) <<< ((1 : Int32).toInt64 &&& 63)) ||| 0) <<< ((4 : Int32).toInt64 &&& 63)) ||| 0) <<< ((2 : Int32).toInt64 &&& 63)) ||| 3) <<< ((1 : Int32).toInt64 &&& 63)) ||| 0) <<< ((3 : Int32).toInt64 &&& 63)) ||| 0)), (4, .int 0), (3, .int 2), (0, .ref (a 0))]) b dX12_packs_93 rfl (by decide) rfl ?_
  refine z_lload_n b dX12_packs_94 rfl rfl ?_
  refine z_iconst (v := 1) b dX12_packs_95 (by decide) ?_
  refine z_lshl b dX12_packs_96 rfl ?_
  refine z_aload_n b dX12_packs_97 rfl rfl ?_
  refine z_get (q0 := 0) (k9 := 4) (v := .ref (a 5)) b (mw_0 cy a S) rfl in_X12 (by decide) wf_X12_27 rfl dX12_packs_98 ?_
  refine z_iconst (v := 3) b dX12_packs_101 (by decide) ?_
  refine z_iload_n b dX12_packs_102 rfl rfl ?_
  refine z_imul (v := 6) b dX12_packs_103 (by decide) ?_
  refine z_iload_n b dX12_packs_104 rfl rfl ?_
  refine z_iload b dX12_packs_105 rfl ?_
  refine z_calli b (z_runS (As := [.int 2, .int 0]) (st := [.int 6, .ref (a 5), .long ((((((((((((((((((((((((((((((((((((0 ||| ((ar S 0 0) : Int32).toInt64) <<< ((2 : Int32).toInt64 &&& 63)) ||| 3) <<< ((1 : Int32).toInt64 &&& 63)) ||| 0) <<< ((3 : Int32).toInt64 &&& 63)) ||| 0) <<< ((1 : Int32).toInt64 &&& 63)) ||| 0) <<< ((3 : Int32).toInt64 &&& 63)) ||| 0) <<< ((1 : Int32).toInt64 &&& 63)) ||| 0) <<< ((4 : Int32).toInt64 &&& 63)) ||| 0) <<< ((2 : Int32).toInt64 &&& 63)) ||| 3) <<< ((1 : Int32).toInt64 &&& 63)) ||| 0) <<< ((3 : Int32).toInt64 &&& 63)) ||| 0) <<< ((1 : Int32).toInt64 &&& 63)) ||| 0) <<< ((3 : Int32).toInt64 &&& 63)) ||| 0) <<< ((1 : Int32).toInt64 &&& 63)) ||| 0) <<< ((4 : Int32).toInt64 &&& 63)) ||| 0) <<< ((2 : Int32).toInt64 &&& 63)) ||| 3) <<< ((1 : Int32).toInt64 &&& 63)) ||| 0) <<< ((3 : Int32).toInt64 &&& 63)) ||| 0) <<< ((1 : Int32).toInt64 &&& 63))]) b (c_X12_other_2 S ) cf_X12_other wm_X12_160 ws_X12_other dX12_packs_107 rfl (Nat.le_of_ble_eq_true rfl) ⟨by decide, by decide, by decide, by decide⟩) (fun r149 u150 h148 => ?_)
  obtain ⟨rfl, rfl⟩ := h148
  refine z_iadd (v := 6) b dX12_packs_110 (by decide) ?_
  refine y_zald (q0 := 5) (j := 6) (v := (ar S 4 6)) b (mw_5 cy a S) (by decide) rfl dX12_packs_111 ?_
  refine z_eqi h_a_4_6 ?_
  refine z_if_eq_t (tgt := 119) b dX12_packs_112 (by decide) (by decide) ?_
  refine z_lconst (v := 0) b dX12_packs_119 (by decide) ?_
  refine z_lor b dX12_packs_120 rfl ?_
  refine z_lstore_n (lv' := [(1, .long (((((((((((((((((((((((((((((((((((((0 ||| ((ar S 0 0) : Int32).toInt64) <<< ((2 : Int32).toInt64 &&& 63)) ||| 3) <<< ((1 : Int32).toInt64 &&& 63)) ||| 0) <<< ((3 : Int32).toInt64 &&& 63)) ||| 0) <<< ((1 : Int32).toInt64 &&& 63)) ||| 0) <<< ((3 : Int32).toInt64 &&& 63)) ||| 0) <<< ((1 : Int32).toInt64 &&& 63)) ||| 0) <<< ((4 : Int32).toInt64 &&& 63)) ||| 0) <<< ((2 : Int32).toInt64 &&& 63)) ||| 3) <<< ((1 : Int32).toInt64 &&& 63)) ||| 0) <<< ((3 : Int32).toInt64 &&& 63)) ||| 0) <<< ((1 : Int32).toInt64 &&& 63)) ||| 0) <<< ((3 : Int32).toInt64 &&& 63)) ||| 0) <<< ((1 : Int32).toInt64 &&& 63)) ||| 0) <<< ((4 : Int32).toInt64 &&& 63)) ||| 0) <<< ((2 : Int32).toInt64 &&& 63)) ||| 3) <<< ((1 : Int32).toInt64 &&& 63)) ||| 0) <<< ((3 : Int32).toInt64 &&& 63)) ||| 0) <<< ((1 : Int32).toInt64 &&& 63)) ||| 0)), (4, .int 0), (3, .int 2), (0, .ref (a 0))]) b dX12_packs_121 rfl (by decide) rfl ?_
  refine z_iinc (k9 := 1) (v := 1) (lv' := [(4, .int 1), (1, .long (((((((((((((((((((((((((((((((((((((0 ||| ((ar S 0 0) : Int32).toInt64) <<< ((2 : Int32).toInt64 &&& 63)) ||| 3) <<< ((1 : Int32).toInt64 &&& 63)) ||| 0) <<< ((3 : Int32).toInt64 &&& 63)) ||| 0) <<< ((1 : Int32).toInt64 &&& 63)) ||| 0) <<< ((3 : Int32).toInt64 &&& 63)) ||| 0) <<< ((1 : Int32).toInt64 &&& 63)) ||| 0) <<< ((4 : Int32).toInt64 &&& 63)) ||| 0) <<< ((2 : Int32).toInt64 &&& 63)) ||| 3) <<< ((1 : Int32).toInt64 &&& 63)) ||| 0) <<< ((3 : Int32).toInt64 &&& 63)) ||| 0) <<< ((1 : Int32).toInt64 &&& 63)) ||| 0) <<< ((3 : Int32).toInt64 &&& 63)) ||| 0) <<< ((1 : Int32).toInt64 &&& 63)) ||| 0) <<< ((4 : Int32).toInt64 &&& 63)) ||| 0) <<< ((2 : Int32).toInt64 &&& 63)) ||| 3) <<< ((1 : Int32).toInt64 &&& 63)) ||| 0) <<< ((3 : Int32).toInt64 &&& 63)) ||| 0) <<< ((1 : Int32).toInt64 &&& 63)) ||| 0)), (3, .int 2), (0, .ref (a 0))]) b dX12_packs_122 rfl (by decide) (by decide) rfl ?_
  refine z_goto (tgt := 67) b dX12_packs_125 (by decide) ?_
  refine z_iload b dX12_packs_67 rfl ?_
  refine z_iconst (v := 2) b dX12_packs_69 (by decide) ?_
  refine z_icmp_ge_f (tgt := 128) b dX12_packs_70 (by decide) (by decide) ?_
  refine z_lload_n b dX12_packs_73 rfl rfl ?_
  refine z_iconst (v := 3) b dX12_packs_74 (by decide) ?_
  refine z_lshl b dX12_packs_75 rfl ?_
  refine z_aload_n b dX12_packs_76 rfl rfl ?_
  refine z_get (q0 := 0) (k9 := 1) (v := .ref (a 2)) b (mw_0 cy a S) rfl in_X12 (by decide) wf_X12_17 rfl dX12_packs_77 ?_
  refine z_iconst (v := 3) b dX12_packs_80 (by decide) ?_
  refine z_iload_n b dX12_packs_81 rfl rfl ?_
  refine z_imul (v := 6) b dX12_packs_82 (by decide) ?_
  refine z_iload_n b dX12_packs_83 rfl rfl ?_
  refine z_iload b dX12_packs_84 rfl ?_
  refine z_calli b (z_runS (As := [.int 2, .int 1]) (st := [.int 6, .ref (a 2), .long ((((((((((((((((((((((((((((((((((((((0 ||| ((ar S 0 0) : Int32).toInt64) <<< ((2 : Int32).toInt64 &&& 63)) ||| 3) <<< ((1 : Int32).toInt64 &&& 63)) ||| 0) <<< ((3 : Int32).toInt64 &&& 63)) ||| 0) <<< ((1 : Int32).toInt64 &&& 63)) ||| 0) <<< ((3 : Int32).toInt64 &&& 63)) ||| 0) <<< ((1 : Int32).toInt64 &&& 63)) ||| 0) <<< ((4 : Int32).toInt64 &&& 63)) ||| 0) <<< ((2 : Int32).toInt64 &&& 63)) ||| 3) <<< ((1 : Int32).toInt64 &&& 63)) ||| 0) <<< ((3 : Int32).toInt64 &&& 63)) ||| 0) <<< ((1 : Int32).toInt64 &&& 63)) ||| 0) <<< ((3 : Int32).toInt64 &&& 63)) ||| 0) <<< ((1 : Int32).toInt64 &&& 63)) ||| 0) <<< ((4 : Int32).toInt64 &&& 63)) ||| 0) <<< ((2 : Int32).toInt64 &&& 63)) ||| 3) <<< ((1 : Int32).toInt64 &&& 63)) ||| 0) <<< ((3 : Int32).toInt64 &&& 63)) ||| 0) <<< ((1 : Int32).toInt64 &&& 63)) ||| 0) <<< ((3 : Int32).toInt64 &&& 63))]) b (c_X12_other S ) cf_X12_other wm_X12_160 ws_X12_other dX12_packs_86 rfl (Nat.le_of_ble_eq_true rfl) ⟨by decide, by decide, by decide, by decide⟩) (fun r152 u153 h151 => ?_)
  obtain ⟨rfl, rfl⟩ := h151
  refine z_iadd (v := 7) b dX12_packs_89 (by decide) ?_
  refine y_iald (q0 := 2) (j := 7) (v := (ar S 1 7)) b (mw_2 cy a S) (by decide) rfl dX12_packs_90 ?_
  refine z_eqi h_a_1_7 ?_
  refine z_i2l (v := 0) b dX12_packs_91 (by decide) ?_
  refine z_lor b dX12_packs_92 rfl ?_
  refine z_lstore_n (lv' := [(1, .long (((((((((((((((((((((((((((((((((((((((0 ||| ((ar S 0 0) : Int32).toInt64) <<< ((2 : Int32).toInt64 &&& 63)) ||| 3) <<< ((1 : Int32).toInt64 &&& 63)) ||| 0) <<< ((3 : Int32).toInt64 &&& 63)) ||| 0) <<< ((1 : Int32).toInt64 &&& 63)) ||| 0) <<< ((3 : Int32).toInt64 &&& 63)) ||| 0) <<< ((1 : Int32).toInt64 &&& 63)) ||| 0) <<< ((4 : Int32).toInt64 &&& 63)) ||| 0) <<< ((2 : Int32).toInt64 &&& 63)) ||| 3) <<< ((1 : Int32).toInt64 &&& 63)) ||| 0) <<< ((3 : Int32).toInt64 &&& 63)) ||| 0) <<< ((1 : Int32).toInt64 &&& 63)) ||| 0) <<< ((3 : Int32).toInt64 &&& 63)) ||| 0) <<< ((1 : Int32).toInt64 &&& 63)) ||| 0) <<< ((4 : Int32).toInt64 &&& 63)) ||| 0) <<< ((2 : Int32).toInt64 &&& 63)) ||| 3) <<< ((1 : Int32).toInt64 &&& 63)) ||| 0) <<< ((3 : Int32).toInt64 &&& 63)) ||| 0) <<< ((1 : Int32).toInt64 &&& 63)) ||| 0) <<< ((3 : Int32).toInt64 &&& 63)) ||| 0)), (4, .int 1), (3, .int 2), (0, .ref (a 0))]) b dX12_packs_93 rfl (by decide) rfl ?_
  refine z_lload_n b dX12_packs_94 rfl rfl ?_
  refine z_iconst (v := 1) b dX12_packs_95 (by decide) ?_
  refine z_lshl b dX12_packs_96 rfl ?_
  refine z_aload_n b dX12_packs_97 rfl rfl ?_
  refine z_get (q0 := 0) (k9 := 4) (v := .ref (a 5)) b (mw_0 cy a S) rfl in_X12 (by decide) wf_X12_27 rfl dX12_packs_98 ?_
  refine z_iconst (v := 3) b dX12_packs_101 (by decide) ?_
  refine z_iload_n b dX12_packs_102 rfl rfl ?_
  refine z_imul (v := 6) b dX12_packs_103 (by decide) ?_
  refine z_iload_n b dX12_packs_104 rfl rfl ?_
  refine z_iload b dX12_packs_105 rfl ?_
  refine z_calli b (z_runS (As := [.int 2, .int 1]) (st := [.int 6, .ref (a 5), .long ((((((((((((((((((((((((((((((((((((((((0 ||| ((ar S 0 0) : Int32).toInt64) <<< ((2 : Int32).toInt64 &&& 63)) ||| 3) <<< ((1 : Int32).toInt64 &&& 63)) ||| 0) <<< ((3 : Int32).toInt64 &&& 63)) ||| 0) <<< ((1 : Int32).toInt64 &&& 63)) ||| 0) <<< ((3 : Int32).toInt64 &&& 63)) ||| 0) <<< ((1 : Int32).toInt64 &&& 63)) ||| 0) <<< ((4 : Int32).toInt64 &&& 63)) ||| 0) <<< ((2 : Int32).toInt64 &&& 63)) ||| 3) <<< ((1 : Int32).toInt64 &&& 63)) ||| 0) <<< ((3 : Int32).toInt64 &&& 63)) ||| 0) <<< ((1 : Int32).toInt64 &&& 63)) ||| 0) <<< ((3 : Int32).toInt64 &&& 63)) ||| 0) <<< ((1 : Int32).toInt64 &&& 63)) ||| 0) <<< ((4 : Int32).toInt64 &&& 63)) ||| 0) <<< ((2 : Int32).toInt64 &&& 63)) ||| 3) <<< ((1 : Int32).toInt64 &&& 63)) ||| 0) <<< ((3 : Int32).toInt64 &&& 63)) ||| 0) <<< ((1 : Int32).toInt64 &&& 63)) ||| 0) <<< ((3 : Int32).toInt64 &&& 63)) ||| 0) <<< ((1 : Int32).toInt64 &&& 63))]) b (c_X12_other S ) cf_X12_other wm_X12_160 ws_X12_other dX12_packs_107 rfl (Nat.le_of_ble_eq_true rfl) ⟨by decide, by decide, by decide, by decide⟩) (fun r155 u156 h154 => ?_)
  obtain ⟨rfl, rfl⟩ := h154
  refine z_iadd (v := 7) b dX12_packs_110 (by decide) ?_
  refine y_zald (q0 := 5) (j := 7) (v := (ar S 4 7)) b (mw_5 cy a S) (by decide) rfl dX12_packs_111 ?_
  refine z_eqi h_a_4_7 ?_
  refine z_if_eq_t (tgt := 119) b dX12_packs_112 (by decide) (by decide) ?_
  refine z_lconst (v := 0) b dX12_packs_119 (by decide) ?_
  refine z_lor b dX12_packs_120 rfl ?_
  refine z_lstore_n (lv' := [(1, .long (((((((((((((((((((((((((((((((((((((((((0 ||| ((ar S 0 0) : Int32).toInt64) <<< ((2 : Int32).toInt64 &&& 63)) ||| 3) <<< ((1 : Int32).toInt64 &&& 63)) ||| 0) <<< ((3 : Int32).toInt64 &&& 63)) ||| 0) <<< ((1 : Int32).toInt64 &&& 63)) ||| 0) <<< ((3 : Int32).toInt64 &&& 63)) ||| 0) <<< ((1 : Int32).toInt64 &&& 63)) ||| 0) <<< ((4 : Int32).toInt64 &&& 63)) ||| 0) <<< ((2 : Int32).toInt64 &&& 63)) ||| 3) <<< ((1 : Int32).toInt64 &&& 63)) ||| 0) <<< ((3 : Int32).toInt64 &&& 63)) ||| 0) <<< ((1 : Int32).toInt64 &&& 63)) ||| 0) <<< ((3 : Int32).toInt64 &&& 63)) ||| 0) <<< ((1 : Int32).toInt64 &&& 63)) ||| 0) <<< ((4 : Int32).toInt64 &&& 63)) ||| 0) <<< ((2 : Int32).toInt64 &&& 63)) ||| 3) <<< ((1 : Int32).toInt64 &&& 63)) ||| 0) <<< ((3 : Int32).toInt64 &&& 63)) ||| 0) <<< ((1 : Int32).toInt64 &&& 63)) ||| 0) <<< ((3 : Int32).toInt64 &&& 63)) ||| 0) <<< ((1 : Int32).toInt64 &&& 63)) ||| 0)), (4, .int 1), (3, .int 2), (0, .ref (a 0))]) b dX12_packs_121 rfl (by decide) rfl ?_
  refine z_iinc (k9 := 1) (v := 2) (lv' := [(4, .int 2), (1, .long (((((((((((((((((((((((((((((((((((((((((0 ||| ((ar S 0 0) : Int32).toInt64) <<< ((2 : Int32).toInt64 &&& 63)) ||| 3) <<< ((1 : Int32).toInt64 &&& 63)) ||| 0) <<< ((3 : Int32).toInt64 &&& 63)) ||| 0) <<< ((1 : Int32).toInt64 &&& 63)) ||| 0) <<< ((3 : Int32).toInt64 &&& 63)) ||| 0) <<< ((1 : Int32).toInt64 &&& 63)) ||| 0) <<< ((4 : Int32).toInt64 &&& 63)) ||| 0) <<< ((2 : Int32).toInt64 &&& 63)) ||| 3) <<< ((1 : Int32).toInt64 &&& 63)) ||| 0) <<< ((3 : Int32).toInt64 &&& 63)) ||| 0) <<< ((1 : Int32).toInt64 &&& 63)) ||| 0) <<< ((3 : Int32).toInt64 &&& 63)) ||| 0) <<< ((1 : Int32).toInt64 &&& 63)) ||| 0) <<< ((4 : Int32).toInt64 &&& 63)) ||| 0) <<< ((2 : Int32).toInt64 &&& 63)) ||| 3) <<< ((1 : Int32).toInt64 &&& 63)) ||| 0) <<< ((3 : Int32).toInt64 &&& 63)) ||| 0) <<< ((1 : Int32).toInt64 &&& 63)) ||| 0) <<< ((3 : Int32).toInt64 &&& 63)) ||| 0) <<< ((1 : Int32).toInt64 &&& 63)) ||| 0)), (3, .int 2), (0, .ref (a 0))]) b dX12_packs_122 rfl (by decide) (by decide) rfl ?_
  refine z_goto (tgt := 67) b dX12_packs_125 (by decide) ?_
  refine z_iload b dX12_packs_67 rfl ?_
  refine z_iconst (v := 2) b dX12_packs_69 (by decide) ?_
  refine z_icmp_ge_t (tgt := 128) b dX12_packs_70 (by decide) (by decide) ?_
  refine z_iinc (k9 := 2) (v := 3) (lv' := [(3, .int 3), (4, .int 2), (1, .long (((((((((((((((((((((((((((((((((((((((((0 ||| ((ar S 0 0) : Int32).toInt64) <<< ((2 : Int32).toInt64 &&& 63)) ||| 3) <<< ((1 : Int32).toInt64 &&& 63)) ||| 0) <<< ((3 : Int32).toInt64 &&& 63)) ||| 0) <<< ((1 : Int32).toInt64 &&& 63)) ||| 0) <<< ((3 : Int32).toInt64 &&& 63)) ||| 0) <<< ((1 : Int32).toInt64 &&& 63)) ||| 0) <<< ((4 : Int32).toInt64 &&& 63)) ||| 0) <<< ((2 : Int32).toInt64 &&& 63)) ||| 3) <<< ((1 : Int32).toInt64 &&& 63)) ||| 0) <<< ((3 : Int32).toInt64 &&& 63)) ||| 0) <<< ((1 : Int32).toInt64 &&& 63)) ||| 0) <<< ((3 : Int32).toInt64 &&& 63)) ||| 0) <<< ((1 : Int32).toInt64 &&& 63)) ||| 0) <<< ((4 : Int32).toInt64 &&& 63)) ||| 0) <<< ((2 : Int32).toInt64 &&& 63)) ||| 3) <<< ((1 : Int32).toInt64 &&& 63)) ||| 0) <<< ((3 : Int32).toInt64 &&& 63)) ||| 0) <<< ((1 : Int32).toInt64 &&& 63)) ||| 0) <<< ((3 : Int32).toInt64 &&& 63)) ||| 0) <<< ((1 : Int32).toInt64 &&& 63)) ||| 0)), (0, .ref (a 0))]) b dX12_packs_128 rfl (by decide) (by decide) rfl ?_
  refine z_goto (tgt := 8) b dX12_packs_131 (by decide) ?_
  refine z_iload_n b dX12_packs_8 rfl rfl ?_
  refine z_iconst (v := 3) b dX12_packs_9 (by decide) ?_
  refine z_icmp_ge_t (tgt := 134) b dX12_packs_10 (by decide) (by decide) ?_
  refine z_lload_n b dX12_packs_134 rfl rfl ?_
  exact z_lret (u := S) b rfl dX12_packs_135 ⟨rfl, rfl⟩ rfl (by decide) (by decide)

set_option maxHeartbeats 4000000 in
set_option maxRecDepth 100000 in
theorem c_X12_told {l : Launch} {D : va_G} {cy : Nat → ClassId} {T0 tB tE : Nat} {a : Nat → Nat} (S : GS)  (h_i_0 : fi S 0 = 0) (h_a_2_0 : ar S 2 0 = 3) (h_a_3_1 : ar S 3 1 = 0) (h_a_1_1 : ar S 1 1 = 0) (h_a_4_1 : ar S 4 1 = 0) (h_a_1_2 : ar S 1 2 = 0) (h_a_4_2 : ar S 4 2 = 0) (h_a_0_1 : ar S 0 1 = 0) (h_a_2_1 : ar S 2 1 = 3) (h_a_3_5 : ar S 3 5 = 0) (h_a_1_5 : ar S 1 5 = 0) (h_a_4_5 : ar S 4 5 = 0) (h_a_1_3 : ar S 1 3 = 0) (h_a_4_3 : ar S 4 3 = 0) (h_a_0_2 : ar S 0 2 = 0) (h_a_2_2 : ar S 2 2 = 3) (h_a_3_6 : ar S 3 6 = 0) (h_a_1_6 : ar S 1 6 = 0) (h_a_4_6 : ar S 4 6 = 0) (h_a_1_7 : ar S 1 7 = 0) (h_a_4_7 : ar S 4 7 = 0) : Ct l D cy T0 tB tE yX12_told cX12_told 1 (some .boolean) 2 45 0 0 (mw cy a S) [.ref (a 0)] (QI D (U := GS) (fun r u => 1 = r ∧ sl S 0 (((((((((((((((((((((((((((((((((((((((((0 ||| ((ar S 0 0) : Int32).toInt64) <<< ((2 : Int32).toInt64 &&& 63)) ||| 3) <<< ((1 : Int32).toInt64 &&& 63)) ||| 0) <<< ((3 : Int32).toInt64 &&& 63)) ||| 0) <<< ((1 : Int32).toInt64 &&& 63)) ||| 0) <<< ((3 : Int32).toInt64 &&& 63)) ||| 0) <<< ((1 : Int32).toInt64 &&& 63)) ||| 0) <<< ((4 : Int32).toInt64 &&& 63)) ||| 0) <<< ((2 : Int32).toInt64 &&& 63)) ||| 3) <<< ((1 : Int32).toInt64 &&& 63)) ||| 0) <<< ((3 : Int32).toInt64 &&& 63)) ||| 0) <<< ((1 : Int32).toInt64 &&& 63)) ||| 0) <<< ((3 : Int32).toInt64 &&& 63)) ||| 0) <<< ((1 : Int32).toInt64 &&& 63)) ||| 0) <<< ((4 : Int32).toInt64 &&& 63)) ||| 0) <<< ((2 : Int32).toInt64 &&& 63)) ||| 3) <<< ((1 : Int32).toInt64 &&& 63)) ||| 0) <<< ((3 : Int32).toInt64 &&& 63)) ||| 0) <<< ((1 : Int32).toInt64 &&& 63)) ||| 0) <<< ((3 : Int32).toInt64 &&& 63)) ||| 0) <<< ((1 : Int32).toInt64 &&& 63)) ||| 0) = u) (mw cy a)) := by
  refine Ct.ofZ RX12 "told" [(0, .ref (a 0))] rfl rfl rfl rfl (Nat.le_of_ble_eq_true rfl) ?_
  intro p e R s m args below meth c A b
  refine z_aload_n b dX12_told_0 rfl rfl ?_
  refine z_aload_n b dX12_told_1 rfl rfl ?_
  refine z_calll b (z_runV (q0 := 0) (As := []) (st := [.ref (a 0)]) b (c_X12_packs S h_i_0 h_a_2_0 h_a_3_1 h_a_1_1 h_a_4_1 h_a_1_2 h_a_4_2 h_a_0_1 h_a_2_1 h_a_3_5 h_a_1_5 h_a_4_5 h_a_1_3 h_a_4_3 h_a_0_2 h_a_2_2 h_a_3_6 h_a_1_6 h_a_4_6 h_a_1_7 h_a_4_7) cf_X12_packs (mw_0 cy a S) rfl wm_X12_149 wi_X12_packs ws_X12_packs dX12_told_2 rfl (Nat.le_of_ble_eq_true rfl) ⟨by decide, by decide, by decide, by decide⟩) (fun r158 u159 h157 => ?_)
  obtain ⟨rfl, rfl⟩ := h157
  refine z_put (q0 := 0) (k9 := 6) tyX12 b (mw_0 cy a S) rfl in_X12 tyX12_ok nmX12 (by decide) wf_X12_153 rfl rfl rfl rfl (Nat.le_of_ble_eq_true rfl) dX12_told_5 (mwp_0_6 cy a S (((((((((((((((((((((((((((((((((((((((((0 ||| ((ar S 0 0) : Int32).toInt64) <<< ((2 : Int32).toInt64 &&& 63)) ||| 3) <<< ((1 : Int32).toInt64 &&& 63)) ||| 0) <<< ((3 : Int32).toInt64 &&& 63)) ||| 0) <<< ((1 : Int32).toInt64 &&& 63)) ||| 0) <<< ((3 : Int32).toInt64 &&& 63)) ||| 0) <<< ((1 : Int32).toInt64 &&& 63)) ||| 0) <<< ((4 : Int32).toInt64 &&& 63)) ||| 0) <<< ((2 : Int32).toInt64 &&& 63)) ||| 3) <<< ((1 : Int32).toInt64 &&& 63)) ||| 0) <<< ((3 : Int32).toInt64 &&& 63)) ||| 0) <<< ((1 : Int32).toInt64 &&& 63)) ||| 0) <<< ((3 : Int32).toInt64 &&& 63)) ||| 0) <<< ((1 : Int32).toInt64 &&& 63)) ||| 0) <<< ((4 : Int32).toInt64 &&& 63)) ||| 0) <<< ((2 : Int32).toInt64 &&& 63)) ||| 3) <<< ((1 : Int32).toInt64 &&& 63)) ||| 0) <<< ((3 : Int32).toInt64 &&& 63)) ||| 0) <<< ((1 : Int32).toInt64 &&& 63)) ||| 0) <<< ((3 : Int32).toInt64 &&& 63)) ||| 0) <<< ((1 : Int32).toInt64 &&& 63)) ||| 0)) ?_
  refine z_iconst (v := 1) b dX12_told_8 (by decide) ?_
  exact z_zret (u := (sl S 0 (((((((((((((((((((((((((((((((((((((((((0 ||| ((ar S 0 0) : Int32).toInt64) <<< ((2 : Int32).toInt64 &&& 63)) ||| 3) <<< ((1 : Int32).toInt64 &&& 63)) ||| 0) <<< ((3 : Int32).toInt64 &&& 63)) ||| 0) <<< ((1 : Int32).toInt64 &&& 63)) ||| 0) <<< ((3 : Int32).toInt64 &&& 63)) ||| 0) <<< ((1 : Int32).toInt64 &&& 63)) ||| 0) <<< ((4 : Int32).toInt64 &&& 63)) ||| 0) <<< ((2 : Int32).toInt64 &&& 63)) ||| 3) <<< ((1 : Int32).toInt64 &&& 63)) ||| 0) <<< ((3 : Int32).toInt64 &&& 63)) ||| 0) <<< ((1 : Int32).toInt64 &&& 63)) ||| 0) <<< ((3 : Int32).toInt64 &&& 63)) ||| 0) <<< ((1 : Int32).toInt64 &&& 63)) ||| 0) <<< ((4 : Int32).toInt64 &&& 63)) ||| 0) <<< ((2 : Int32).toInt64 &&& 63)) ||| 3) <<< ((1 : Int32).toInt64 &&& 63)) ||| 0) <<< ((3 : Int32).toInt64 &&& 63)) ||| 0) <<< ((1 : Int32).toInt64 &&& 63)) ||| 0) <<< ((3 : Int32).toInt64 &&& 63)) ||| 0) <<< ((1 : Int32).toInt64 &&& 63)) ||| 0))) b rfl (by decide) dX12_told_9 ⟨rfl, rfl⟩ rfl (by decide) (by decide)

set_option maxHeartbeats 4000000 in
set_option maxRecDepth 100000 in
theorem c_X12_coin_4 {l : Launch} {D : va_G} {cy : Nat → ClassId} {T0 tB tE : Nat} {a : Nat → Nat} (S : GS) (p0 : Int32) (h_l_0 : fl S 0 = 1649317774848) (h_a_4_7 : ar S 4 7 = 0) (h_a_1_7 : ar S 1 7 = 0) (h_a_4_6 : ar S 4 6 = 0) (h_a_1_6 : ar S 1 6 = 0) (h_a_3_6 : ar S 3 6 = 0) (h_a_3_2 : ar S 3 2 = 0) (h_a_2_2 : ar S 2 2 = 3) (h_a_0_2 : ar S 0 2 = 0) (h_a_4_3 : ar S 4 3 = 0) (h_a_1_3 : ar S 1 3 = 0) (h_a_4_5 : ar S 4 5 = 0) (h_a_1_5 : ar S 1 5 = 0) (h_a_3_5 : ar S 3 5 = 0) (h_a_3_7 : ar S 3 7 = 0) (h_a_2_1 : ar S 2 1 = 3) (h_a_0_1 : ar S 0 1 = 0) (h_a_4_2 : ar S 4 2 = 0) (h_a_1_2 : ar S 1 2 = 0) (h_a_4_1 : ar S 4 1 = 0) (h_a_1_1 : ar S 1 1 = 0) (h_a_3_1 : ar S 3 1 = 0) (h_a_3_3 : ar S 3 3 = 0) (h_a_2_0 : ar S 2 0 = 3) (h_a_0_0 : ar S 0 0 = 0) (h_i_0 : fi S 0 = 0) (hr_p0 : 0 ≤ p0.toInt ∧ p0.toInt ≤ 15) : Ct l D cy T0 tB tE yX12_coin cX12_coin 3 (some .boolean) 3 65 0 0 (mw cy a S) [.ref (a 0), .int 0, .int p0] (QI D (U := GS) (fun r u => 1 = r ∧ sl (su S 0 0 p0) 0 (((((((((((((((((((((((((((((((((((((((((0 ||| ((ar (su S 0 0 p0) 0 0) : Int32).toInt64) <<< ((2 : Int32).toInt64 &&& 63)) ||| 3) <<< ((1 : Int32).toInt64 &&& 63)) ||| 0) <<< ((3 : Int32).toInt64 &&& 63)) ||| 0) <<< ((1 : Int32).toInt64 &&& 63)) ||| 0) <<< ((3 : Int32).toInt64 &&& 63)) ||| 0) <<< ((1 : Int32).toInt64 &&& 63)) ||| 0) <<< ((4 : Int32).toInt64 &&& 63)) ||| 0) <<< ((2 : Int32).toInt64 &&& 63)) ||| 3) <<< ((1 : Int32).toInt64 &&& 63)) ||| 0) <<< ((3 : Int32).toInt64 &&& 63)) ||| 0) <<< ((1 : Int32).toInt64 &&& 63)) ||| 0) <<< ((3 : Int32).toInt64 &&& 63)) ||| 0) <<< ((1 : Int32).toInt64 &&& 63)) ||| 0) <<< ((4 : Int32).toInt64 &&& 63)) ||| 0) <<< ((2 : Int32).toInt64 &&& 63)) ||| 3) <<< ((1 : Int32).toInt64 &&& 63)) ||| 0) <<< ((3 : Int32).toInt64 &&& 63)) ||| 0) <<< ((1 : Int32).toInt64 &&& 63)) ||| 0) <<< ((3 : Int32).toInt64 &&& 63)) ||| 0) <<< ((1 : Int32).toInt64 &&& 63)) ||| 0) = u) (mw cy a)) := by
  refine Ct.ofZ RX12 "coin" [(0, .ref (a 0)), (1, .int 0), (2, .int p0)] rfl rfl rfl rfl (Nat.le_of_ble_eq_true rfl) ?_
  intro p e R s m args below meth c A b
  refine z_iload_n b dX12_coin_0 rfl rfl ?_
  refine z_calli b (z_runS (As := [.int 0]) (st := []) b (c_X12_isOne_3 S ) cf_X12_isOne wm_X12_170 ws_X12_isOne dX12_coin_1 rfl (Nat.le_of_ble_eq_true rfl) ⟨by decide, by decide, by decide, by decide⟩) (fun r57 u58 h56 => ?_)
  obtain ⟨rfl, rfl⟩ := h56
  refine z_if_eq_f (tgt := 17) b dX12_coin_4 (by decide) (by decide) ?_
  refine z_iload_n b dX12_coin_7 rfl rfl ?_
  refine z_iconst (v := 0) b dX12_coin_8 (by decide) ?_
  refine z_bipush (v := 15) b dX12_coin_9 (by decide) ?_
  refine z_calli b (z_runS (As := [.int p0, .int 0, .int 15]) (st := []) b (c_X12_isIn_5 S p0 ⟨by omega, by omega⟩) cf_X12_isIn wm_X12_1 ws_X12_isIn dX12_coin_11 rfl (Nat.le_of_ble_eq_true rfl) ⟨by decide, by decide, by decide, by decide⟩) (fun r62 u63 h61 => ?_)
  obtain ⟨rfl, rfl⟩ := h61
  refine z_if_ne_t (tgt := 19) b dX12_coin_14 (by decide) (by decide) ?_
  refine z_aload_n b dX12_coin_19 rfl rfl ?_
  refine z_aload_n b dX12_coin_20 rfl rfl ?_
  refine z_get (q0 := 0) (k9 := 6) (v := .long (fl S 0)) b (mw_0 cy a S) rfl in_X12 (by decide) wf_X12_153 rfl dX12_coin_21 ?_
  refine z_eql h_l_0 ?_
  refine z_callv b (z_runV (q0 := 0) (As := [.long 1649317774848]) (st := []) b (c_X12_takes S h_a_4_7 h_a_1_7 h_a_4_6 h_a_1_6 h_a_3_6 h_a_3_2 h_a_2_2 h_a_0_2 h_a_4_3 h_a_1_3 h_a_4_5 h_a_1_5 h_a_3_5 h_a_3_7 h_a_2_1 h_a_0_1 h_a_4_2 h_a_1_2 h_a_4_1 h_a_1_1 h_a_3_1 h_a_3_3 h_a_2_0 h_a_0_0 h_i_0) cf_X12_takes (mw_0 cy a S) rfl wm_X12_174 wi_X12_takes ws_X12_takes dX12_coin_24 rfl (Nat.le_of_ble_eq_true rfl) ⟨by decide, by decide, by decide, by decide⟩) (fun u111 h109 => ?_)
  obtain rfl := h109
  refine z_aload_n b dX12_coin_27 rfl rfl ?_
  refine z_get (q0 := 0) (k9 := 0) (v := .ref (a 1)) b (mw_0 cy a S) rfl in_X12 (by decide) wf_X12_13 rfl dX12_coin_28 ?_
  refine z_iload_n b dX12_coin_31 rfl rfl ?_
  refine z_iload_n b dX12_coin_32 rfl rfl ?_
  refine y_iast (q0 := 1) (j := 0) b (mw_1 cy a S) (by decide) dX12_coin_33 (mwa_1 cy a S 0 p0) ?_
  refine z_aload_n b dX12_coin_34 rfl rfl ?_
  refine z_calli b (z_runV (q0 := 0) (As := []) (st := []) b (c_X12_told (su S 0 0 p0) h_i_0 h_a_2_0 h_a_3_1 h_a_1_1 h_a_4_1 h_a_1_2 h_a_4_2 h_a_0_1 h_a_2_1 h_a_3_5 h_a_1_5 h_a_4_5 h_a_1_3 h_a_4_3 h_a_0_2 h_a_2_2 h_a_3_6 h_a_1_6 h_a_4_6 h_a_1_7 h_a_4_7) cf_X12_told (mw_0 cy a (su S 0 0 p0)) rfl wm_X12_178 wi_X12_told ws_X12_told dX12_coin_35 rfl (Nat.le_of_ble_eq_true rfl) ⟨by decide, by decide, by decide, by decide⟩) (fun r161 u162 h160 => ?_)
  obtain ⟨rfl, rfl⟩ := h160
  exact z_zret (u := (sl (su S 0 0 p0) 0 (((((((((((((((((((((((((((((((((((((((((0 ||| ((ar (su S 0 0 p0) 0 0) : Int32).toInt64) <<< ((2 : Int32).toInt64 &&& 63)) ||| 3) <<< ((1 : Int32).toInt64 &&& 63)) ||| 0) <<< ((3 : Int32).toInt64 &&& 63)) ||| 0) <<< ((1 : Int32).toInt64 &&& 63)) ||| 0) <<< ((3 : Int32).toInt64 &&& 63)) ||| 0) <<< ((1 : Int32).toInt64 &&& 63)) ||| 0) <<< ((4 : Int32).toInt64 &&& 63)) ||| 0) <<< ((2 : Int32).toInt64 &&& 63)) ||| 3) <<< ((1 : Int32).toInt64 &&& 63)) ||| 0) <<< ((3 : Int32).toInt64 &&& 63)) ||| 0) <<< ((1 : Int32).toInt64 &&& 63)) ||| 0) <<< ((3 : Int32).toInt64 &&& 63)) ||| 0) <<< ((1 : Int32).toInt64 &&& 63)) ||| 0) <<< ((4 : Int32).toInt64 &&& 63)) ||| 0) <<< ((2 : Int32).toInt64 &&& 63)) ||| 3) <<< ((1 : Int32).toInt64 &&& 63)) ||| 0) <<< ((3 : Int32).toInt64 &&& 63)) ||| 0) <<< ((1 : Int32).toInt64 &&& 63)) ||| 0) <<< ((3 : Int32).toInt64 &&& 63)) ||| 0) <<< ((1 : Int32).toInt64 &&& 63)) ||| 0))) b rfl (by decide) dX12_coin_38 ⟨rfl, rfl⟩ rfl (by decide) (by decide)

set_option maxHeartbeats 4000000 in
set_option maxRecDepth 100000 in
theorem c_X11_isWithin_3 {l : Launch} {D : va_G} {cy : Nat → ClassId} {T0 tB tE : Nat} {a : Nat → Nat} {rw : Nat → Option Nat} (S : GS) (p0 : Int32)  (hr_p0 : 16 ≤ p0.toInt ∧ p0.toInt ≤ 2147483647) : Ct l D cy T0 tB tE yX11_isWithin cX11_isWithin 2 (some .boolean) 0 0 0 0 (cw cy tE a rw S) [.int p0, .int 15] (QI D (U := GS) (fun r u => 0 = r ∧ S = u) (cw cy tE a rw)) := by
  refine Ct.ofZ RX11 "isWithin" [(0, .int p0), (1, .int 15)] rfl rfl rfl rfl (Nat.le_of_ble_eq_true rfl) ?_
  intro p e R s m args below meth c A b
  refine z_iload_n b dX11_isWithin_0 rfl rfl ?_
  refine y_if_lt (tgt := 13) (xl := p0.toInt) b rfl dX11_isWithin_1 (by decide) (fun c166 => ?_) (fun c166 => ?_)
  · exfalso; omega
  · refine z_iload_n b dX11_isWithin_4 rfl rfl ?_
    refine z_iload_n b dX11_isWithin_5 rfl rfl ?_
    refine y_icmp_gt (tgt := 13) (xl := p0.toInt) (yl := 15) b rfl (by decide) dX11_isWithin_6 (by decide) (fun c167 => ?_) (fun c167 => ?_)
    · refine z_iconst (v := 0) b dX11_isWithin_13 (by decide) ?_
      exact z_zret (u := S) b rfl (by decide) dX11_isWithin_14 ⟨rfl, rfl⟩ rfl (by decide) (by decide)
    · exfalso; omega

set_option maxHeartbeats 4000000 in
set_option maxRecDepth 100000 in
theorem c_X11_coin_5 {l : Launch} {D : va_G} {cy : Nat → ClassId} {T0 tB tE : Nat} {a : Nat → Nat} {rw : Nat → Option Nat} (S : GS) (p0 : Int32)  (hr_p0 : 16 ≤ p0.toInt ∧ p0.toInt ≤ 2147483647) : Ct l D cy T0 tB tE yX11_coin cX11_coin 3 (some .boolean) 1 21 0 0 (cw cy tE a rw S) [.ref (a 0), .int 0, .int p0] (QI D (U := GS) (fun r u => 0 = r ∧ S = u) (cw cy tE a rw)) := by
  refine Ct.ofZ RX11 "coin" [(0, .ref (a 0)), (1, .int 0), (2, .int p0)] rfl rfl rfl rfl (Nat.le_of_ble_eq_true rfl) ?_
  intro p e R s m args below meth c A b
  refine z_iload_n b dX11_coin_0 rfl rfl ?_
  refine z_calli b (z_runS (As := [.int 0]) (st := []) b (c_X11_isPerson_3 S ) cf_X11_isPerson wm_X11_69 ws_X11_isPerson dX11_coin_1 rfl (Nat.le_of_ble_eq_true rfl) ⟨by decide, by decide, by decide, by decide⟩) (fun r164 u165 h163 => ?_)
  obtain ⟨rfl, rfl⟩ := h163
  refine z_if_eq_f (tgt := 16) b dX11_coin_4 (by decide) (by decide) ?_
  refine z_iload_n b dX11_coin_7 rfl rfl ?_
  refine z_bipush (v := 15) b dX11_coin_8 (by decide) ?_
  refine z_calli b (z_runS (As := [.int p0, .int 15]) (st := []) b (c_X11_isWithin_3 S p0 ⟨by omega, by omega⟩) cf_X11_isWithin wm_X11_73 ws_X11_isWithin dX11_coin_10 rfl (Nat.le_of_ble_eq_true rfl) ⟨by decide, by decide, by decide, by decide⟩) (fun r169 u170 h168 => ?_)
  obtain ⟨rfl, rfl⟩ := h168
  refine z_if_ne_f (tgt := 18) b dX11_coin_13 (by decide) (by decide) ?_
  refine z_iconst (v := 0) b dX11_coin_16 (by decide) ?_
  exact z_zret (u := S) b rfl (by decide) dX11_coin_17 ⟨rfl, rfl⟩ rfl (by decide) (by decide)

set_option maxHeartbeats 4000000 in
set_option maxRecDepth 100000 in
theorem c_X12_isIn_6 {l : Launch} {D : va_G} {cy : Nat → ClassId} {T0 tB tE : Nat} {a : Nat → Nat} (S : GS) (p0 : Int32)  (hr_p0 : 16 ≤ p0.toInt ∧ p0.toInt ≤ 2147483647) : Ct l D cy T0 tB tE yX12_isIn cX12_isIn 3 (some .boolean) 0 0 0 0 (mw cy a S) [.int p0, .int 0, .int 15] (QI D (U := GS) (fun r u => 0 = r ∧ S = u) (mw cy a)) := by
  refine Ct.ofZ RX12 "isIn" [(0, .int p0), (1, .int 0), (2, .int 15)] rfl rfl rfl rfl (Nat.le_of_ble_eq_true rfl) ?_
  intro p e R s m args below meth c A b
  refine z_iload_n b dX12_isIn_0 rfl rfl ?_
  refine z_iload_n b dX12_isIn_1 rfl rfl ?_
  refine y_icmp_lt (tgt := 14) (xl := p0.toInt) (yl := 0) b rfl (by decide) dX12_isIn_2 (by decide) (fun c174 => ?_) (fun c174 => ?_)
  · exfalso; omega
  · refine z_iload_n b dX12_isIn_5 rfl rfl ?_
    refine z_iload_n b dX12_isIn_6 rfl rfl ?_
    refine y_icmp_gt (tgt := 14) (xl := p0.toInt) (yl := 15) b rfl (by decide) dX12_isIn_7 (by decide) (fun c175 => ?_) (fun c175 => ?_)
    · refine z_iconst (v := 0) b dX12_isIn_14 (by decide) ?_
      exact z_zret (u := S) b rfl (by decide) dX12_isIn_15 ⟨rfl, rfl⟩ rfl (by decide) (by decide)
    · exfalso; omega

set_option maxHeartbeats 4000000 in
set_option maxRecDepth 100000 in
theorem c_X12_coin_5 {l : Launch} {D : va_G} {cy : Nat → ClassId} {T0 tB tE : Nat} {a : Nat → Nat} (S : GS) (p0 : Int32)  (hr_p0 : 16 ≤ p0.toInt ∧ p0.toInt ≤ 2147483647) : Ct l D cy T0 tB tE yX12_coin cX12_coin 3 (some .boolean) 2 42 0 0 (mw cy a S) [.ref (a 0), .int 0, .int p0] (QI D (U := GS) (fun r u => 0 = r ∧ S = u) (mw cy a)) := by
  refine Ct.ofZ RX12 "coin" [(0, .ref (a 0)), (1, .int 0), (2, .int p0)] rfl rfl rfl rfl (Nat.le_of_ble_eq_true rfl) ?_
  intro p e R s m args below meth c A b
  refine z_iload_n b dX12_coin_0 rfl rfl ?_
  refine z_calli b (z_runS (As := [.int 0]) (st := []) b (c_X12_isOne_3 S ) cf_X12_isOne wm_X12_170 ws_X12_isOne dX12_coin_1 rfl (Nat.le_of_ble_eq_true rfl) ⟨by decide, by decide, by decide, by decide⟩) (fun r172 u173 h171 => ?_)
  obtain ⟨rfl, rfl⟩ := h171
  refine z_if_eq_f (tgt := 17) b dX12_coin_4 (by decide) (by decide) ?_
  refine z_iload_n b dX12_coin_7 rfl rfl ?_
  refine z_iconst (v := 0) b dX12_coin_8 (by decide) ?_
  refine z_bipush (v := 15) b dX12_coin_9 (by decide) ?_
  refine z_calli b (z_runS (As := [.int p0, .int 0, .int 15]) (st := []) b (c_X12_isIn_6 S p0 ⟨by omega, by omega⟩) cf_X12_isIn wm_X12_1 ws_X12_isIn dX12_coin_11 rfl (Nat.le_of_ble_eq_true rfl) ⟨by decide, by decide, by decide, by decide⟩) (fun r177 u178 h176 => ?_)
  obtain ⟨rfl, rfl⟩ := h176
  refine z_if_ne_f (tgt := 19) b dX12_coin_14 (by decide) (by decide) ?_
  refine z_iconst (v := 0) b dX12_coin_17 (by decide) ?_
  exact z_zret (u := S) b rfl (by decide) dX12_coin_18 ⟨rfl, rfl⟩ rfl (by decide) (by decide)

set_option maxHeartbeats 4000000 in
set_option maxRecDepth 100000 in
theorem c_X11_isPerson_4 {l : Launch} {D : va_G} {cy : Nat → ClassId} {T0 tB tE : Nat} {a : Nat → Nat} {rw : Nat → Option Nat} (S : GS)   : Ct l D cy T0 tB tE yX11_isPerson cX11_isPerson 1 (some .boolean) 0 0 0 0 (cw cy tE a rw S) [.int 1] (QI D (U := GS) (fun r u => 1 = r ∧ S = u) (cw cy tE a rw)) := by
  refine Ct.ofZ RX11 "isPerson" [(0, .int 1)] rfl rfl rfl rfl (Nat.le_of_ble_eq_true rfl) ?_
  intro p e R s m args below meth c A b
  refine z_iload_n b dX11_isPerson_0 rfl rfl ?_
  refine z_if_lt_f (tgt := 13) b dX11_isPerson_1 (by decide) (by decide) ?_
  refine z_iload_n b dX11_isPerson_4 rfl rfl ?_
  refine z_iconst (v := 3) b dX11_isPerson_5 (by decide) ?_
  refine z_icmp_ge_f (tgt := 13) b dX11_isPerson_6 (by decide) (by decide) ?_
  refine z_iconst (v := 1) b dX11_isPerson_9 (by decide) ?_
  refine z_goto (tgt := 14) b dX11_isPerson_10 (by decide) ?_
  exact z_zret (u := S) b rfl (by decide) dX11_isPerson_14 ⟨rfl, rfl⟩ rfl (by decide) (by decide)

set_option maxHeartbeats 4000000 in
set_option maxRecDepth 100000 in
theorem c_X11_coin_6 {l : Launch} {D : va_G} {cy : Nat → ClassId} {T0 tB tE : Nat} {a : Nat → Nat} {rw : Nat → Option Nat} (S : GS) (p0 : Int32)  (hr_p0 : (-2147483648) ≤ p0.toInt ∧ p0.toInt ≤ (-1)) : Ct l D cy T0 tB tE yX11_coin cX11_coin 3 (some .boolean) 1 21 0 0 (cw cy tE a rw S) [.ref (a 0), .int 1, .int p0] (QI D (U := GS) (fun r u => 0 = r ∧ S = u) (cw cy tE a rw)) := by
  refine Ct.ofZ RX11 "coin" [(0, .ref (a 0)), (1, .int 1), (2, .int p0)] rfl rfl rfl rfl (Nat.le_of_ble_eq_true rfl) ?_
  intro p e R s m args below meth c A b
  refine z_iload_n b dX11_coin_0 rfl rfl ?_
  refine z_calli b (z_runS (As := [.int 1]) (st := []) b (c_X11_isPerson_4 S ) cf_X11_isPerson wm_X11_69 ws_X11_isPerson dX11_coin_1 rfl (Nat.le_of_ble_eq_true rfl) ⟨by decide, by decide, by decide, by decide⟩) (fun r180 u181 h179 => ?_)
  obtain ⟨rfl, rfl⟩ := h179
  refine z_if_eq_f (tgt := 16) b dX11_coin_4 (by decide) (by decide) ?_
  refine z_iload_n b dX11_coin_7 rfl rfl ?_
  refine z_bipush (v := 15) b dX11_coin_8 (by decide) ?_
  refine z_calli b (z_runS (As := [.int p0, .int 15]) (st := []) b (c_X11_isWithin S p0 ⟨by omega, by omega⟩) cf_X11_isWithin wm_X11_73 ws_X11_isWithin dX11_coin_10 rfl (Nat.le_of_ble_eq_true rfl) ⟨by decide, by decide, by decide, by decide⟩) (fun r183 u184 h182 => ?_)
  obtain ⟨rfl, rfl⟩ := h182
  refine z_if_ne_f (tgt := 18) b dX11_coin_13 (by decide) (by decide) ?_
  refine z_iconst (v := 0) b dX11_coin_16 (by decide) ?_
  exact z_zret (u := S) b rfl (by decide) dX11_coin_17 ⟨rfl, rfl⟩ rfl (by decide) (by decide)

set_option maxHeartbeats 4000000 in
set_option maxRecDepth 100000 in
theorem c_X12_isIn_7 {l : Launch} {D : va_G} {cy : Nat → ClassId} {T0 tB tE : Nat} {a : Nat → Nat} (S : GS)   : Ct l D cy T0 tB tE yX12_isIn cX12_isIn 3 (some .boolean) 0 0 0 0 (mw cy a S) [.int 1, .int 0, .int 2] (QI D (U := GS) (fun r u => 1 = r ∧ S = u) (mw cy a)) := by
  refine Ct.ofZ RX12 "isIn" [(0, .int 1), (1, .int 0), (2, .int 2)] rfl rfl rfl rfl (Nat.le_of_ble_eq_true rfl) ?_
  intro p e R s m args below meth c A b
  refine z_iload_n b dX12_isIn_0 rfl rfl ?_
  refine z_iload_n b dX12_isIn_1 rfl rfl ?_
  refine z_icmp_lt_f (tgt := 14) b dX12_isIn_2 (by decide) (by decide) ?_
  refine z_iload_n b dX12_isIn_5 rfl rfl ?_
  refine z_iload_n b dX12_isIn_6 rfl rfl ?_
  refine z_icmp_gt_f (tgt := 14) b dX12_isIn_7 (by decide) (by decide) ?_
  refine z_iconst (v := 1) b dX12_isIn_10 (by decide) ?_
  refine z_goto (tgt := 15) b dX12_isIn_11 (by decide) ?_
  exact z_zret (u := S) b rfl (by decide) dX12_isIn_15 ⟨rfl, rfl⟩ rfl (by decide) (by decide)

set_option maxHeartbeats 4000000 in
set_option maxRecDepth 100000 in
theorem c_X12_isOne_4 {l : Launch} {D : va_G} {cy : Nat → ClassId} {T0 tB tE : Nat} {a : Nat → Nat} (S : GS)   : Ct l D cy T0 tB tE yX12_isOne cX12_isOne 1 (some .boolean) 1 22 0 0 (mw cy a S) [.int 1] (QI D (U := GS) (fun r u => 1 = r ∧ S = u) (mw cy a)) := by
  refine Ct.ofZ RX12 "isOne" [(0, .int 1)] rfl rfl rfl rfl (Nat.le_of_ble_eq_true rfl) ?_
  intro p e R s m args below meth c A b
  refine z_iload_n b dX12_isOne_0 rfl rfl ?_
  refine z_iconst (v := 0) b dX12_isOne_1 (by decide) ?_
  refine z_iconst (v := 2) b dX12_isOne_2 (by decide) ?_
  refine z_calli b (z_runS (As := [.int 1, .int 0, .int 2]) (st := []) b (c_X12_isIn_7 S ) cf_X12_isIn wm_X12_1 ws_X12_isIn dX12_isOne_3 rfl (Nat.le_of_ble_eq_true rfl) ⟨by decide, by decide, by decide, by decide⟩) (fun r186 u187 h185 => ?_)
  obtain ⟨rfl, rfl⟩ := h185
  exact z_zret (u := S) b rfl (by decide) dX12_isOne_6 ⟨rfl, rfl⟩ rfl (by decide) (by decide)

set_option maxHeartbeats 4000000 in
set_option maxRecDepth 100000 in
theorem c_X12_coin_6 {l : Launch} {D : va_G} {cy : Nat → ClassId} {T0 tB tE : Nat} {a : Nat → Nat} (S : GS) (p0 : Int32)  (hr_p0 : (-2147483648) ≤ p0.toInt ∧ p0.toInt ≤ (-1)) : Ct l D cy T0 tB tE yX12_coin cX12_coin 3 (some .boolean) 2 42 0 0 (mw cy a S) [.ref (a 0), .int 1, .int p0] (QI D (U := GS) (fun r u => 0 = r ∧ S = u) (mw cy a)) := by
  refine Ct.ofZ RX12 "coin" [(0, .ref (a 0)), (1, .int 1), (2, .int p0)] rfl rfl rfl rfl (Nat.le_of_ble_eq_true rfl) ?_
  intro p e R s m args below meth c A b
  refine z_iload_n b dX12_coin_0 rfl rfl ?_
  refine z_calli b (z_runS (As := [.int 1]) (st := []) b (c_X12_isOne_4 S ) cf_X12_isOne wm_X12_170 ws_X12_isOne dX12_coin_1 rfl (Nat.le_of_ble_eq_true rfl) ⟨by decide, by decide, by decide, by decide⟩) (fun r189 u190 h188 => ?_)
  obtain ⟨rfl, rfl⟩ := h188
  refine z_if_eq_f (tgt := 17) b dX12_coin_4 (by decide) (by decide) ?_
  refine z_iload_n b dX12_coin_7 rfl rfl ?_
  refine z_iconst (v := 0) b dX12_coin_8 (by decide) ?_
  refine z_bipush (v := 15) b dX12_coin_9 (by decide) ?_
  refine z_calli b (z_runS (As := [.int p0, .int 0, .int 15]) (st := []) b (c_X12_isIn_4 S p0 ⟨by omega, by omega⟩) cf_X12_isIn wm_X12_1 ws_X12_isIn dX12_coin_11 rfl (Nat.le_of_ble_eq_true rfl) ⟨by decide, by decide, by decide, by decide⟩) (fun r192 u193 h191 => ?_)
  obtain ⟨rfl, rfl⟩ := h191
  refine z_if_ne_f (tgt := 19) b dX12_coin_14 (by decide) (by decide) ?_
  refine z_iconst (v := 0) b dX12_coin_17 (by decide) ?_
  exact z_zret (u := S) b rfl (by decide) dX12_coin_18 ⟨rfl, rfl⟩ rfl (by decide) (by decide)

set_option maxHeartbeats 4000000 in
set_option maxRecDepth 100000 in
theorem c_X9_set_2 {l : Launch} {D : va_G} {cy : Nat → ClassId} {T0 tB tE : Nat} {a : Nat → Nat} {rw : Nat → Option Nat} (S : GS) (p0 : Int32)  (hr_p0 : 0 ≤ p0.toInt ∧ p0.toInt ≤ 15) : Ct l D cy T0 tB tE yX9_set cX9_set 3 none 0 0 0 0 (cw cy tE a rw S) [.ref (a 14), .int 1, .int p0] (QV D (U := GS) (fun u => su S 4 1 p0 = u) (cw cy tE a rw)) := by
  refine Ct.ofZ RX9 "set" [(0, .ref (a 14)), (1, .int 1), (2, .int p0)] rfl rfl rfl rfl (Nat.le_of_ble_eq_true rfl) ?_
  intro p e R s m args below meth c A b
  refine z_iload_n b dX9_set_0 rfl rfl ?_
  refine z_if_lt_f (tgt := 20) b dX9_set_1 (by decide) (by decide) ?_
  refine z_iload_n b dX9_set_4 rfl rfl ?_
  refine z_aload_n b dX9_set_5 rfl rfl ?_
  refine z_get (q0 := 14) (k9 := 0) (v := .ref (a 15)) b (cw_14 cy tE a rw S) rfl in_X9 (by decide) wf_X9_11 rfl dX9_set_6 ?_
  refine z_alen (q0 := 15) (t0 := 0) (v := 51) b (cw_15 cy tE a rw S) rfl rfl dX9_set_9 ?_
  refine z_icmp_ge_f (tgt := 20) b dX9_set_10 (by decide) (by decide) ?_
  refine z_aload_n b dX9_set_13 rfl rfl ?_
  refine z_get (q0 := 14) (k9 := 0) (v := .ref (a 15)) b (cw_14 cy tE a rw S) rfl in_X9 (by decide) wf_X9_11 rfl dX9_set_14 ?_
  refine z_iload_n b dX9_set_17 rfl rfl ?_
  refine z_iload_n b dX9_set_18 rfl rfl ?_
  refine y_iast (q0 := 15) (j := 1) b (cw_15 cy tE a rw S) (by decide) dX9_set_19 (cwa_15 cy tE a rw S 1 p0) ?_
  exact z_vret (u := (su S 4 1 p0)) b rfl dX9_set_20 rfl rfl (by decide) (by decide)

set_option maxHeartbeats 4000000 in
set_option maxRecDepth 100000 in
theorem c_X11_coin_7 {l : Launch} {D : va_G} {cy : Nat → ClassId} {T0 tB tE : Nat} {a : Nat → Nat} {rw : Nat → Option Nat} (S : GS) (p0 : Int32) (h_i_24 : fi S 24 = 0) (hr_p0 : 0 ≤ p0.toInt ∧ p0.toInt ≤ 15) : Ct l D cy T0 tB tE yX11_coin cX11_coin 3 (some .boolean) 1 22 0 0 (cw cy tE a rw S) [.ref (a 0), .int 1, .int p0] (QI D (U := GS) (fun r u => 1 = r ∧ (su S 4 1 p0) = u) (cw cy tE a rw)) := by
  refine Ct.ofZ RX11 "coin" [(0, .ref (a 0)), (1, .int 1), (2, .int p0)] rfl rfl rfl rfl (Nat.le_of_ble_eq_true rfl) ?_
  intro p e R s m args below meth c A b
  refine z_iload_n b dX11_coin_0 rfl rfl ?_
  refine z_calli b (z_runS (As := [.int 1]) (st := []) b (c_X11_isPerson_4 S ) cf_X11_isPerson wm_X11_69 ws_X11_isPerson dX11_coin_1 rfl (Nat.le_of_ble_eq_true rfl) ⟨by decide, by decide, by decide, by decide⟩) (fun r195 u196 h194 => ?_)
  obtain ⟨rfl, rfl⟩ := h194
  refine z_if_eq_f (tgt := 16) b dX11_coin_4 (by decide) (by decide) ?_
  refine z_iload_n b dX11_coin_7 rfl rfl ?_
  refine z_bipush (v := 15) b dX11_coin_8 (by decide) ?_
  refine z_calli b (z_runS (As := [.int p0, .int 15]) (st := []) b (c_X11_isWithin_2 S p0 ⟨by omega, by omega⟩) cf_X11_isWithin wm_X11_73 ws_X11_isWithin dX11_coin_10 rfl (Nat.le_of_ble_eq_true rfl) ⟨by decide, by decide, by decide, by decide⟩) (fun r198 u199 h197 => ?_)
  obtain ⟨rfl, rfl⟩ := h197
  refine z_if_ne_t (tgt := 18) b dX11_coin_13 (by decide) (by decide) ?_
  refine z_aload_n b dX11_coin_18 rfl rfl ?_
  refine z_get (q0 := 0) (k9 := 4) (v := .ref (a 14)) b (cw_0 cy tE a rw S) rfl in_X11 (by decide) wf_X11_34 rfl dX11_coin_19 ?_
  refine z_iload_n b dX11_coin_22 rfl rfl ?_
  refine z_iload_n b dX11_coin_23 rfl rfl ?_
  refine z_callv b (z_runV (q0 := 14) (As := [.int 1, .int p0]) (st := []) b (c_X9_set_2 S p0 ⟨by omega, by omega⟩) cf_X9_set (cw_14 cy tE a rw S) rfl wm_X11_77 wi_X9_set ws_X9_set dX11_coin_24 rfl (Nat.le_of_ble_eq_true rfl) ⟨by decide, by decide, by decide, by decide⟩) (fun u202 h200 => ?_)
  obtain rfl := h200
  refine z_aload_n b dX11_coin_27 rfl rfl ?_
  refine z_get (q0 := 0) (k9 := 6) (v := .ref (a 25)) b (cw_0 cy tE a rw (su S 4 1 p0)) rfl in_X11 (by decide) wf_X11_52 rfl dX11_coin_28 ?_
  refine z_callv b (z_runV (q0 := 25) (As := []) (st := []) b (c_X8_forget (su S 4 1 p0) h_i_24) cf_X8_forget (cw_25 cy tE a rw (su S 4 1 p0)) rfl wm_X11_81 wi_X8_forget ws_X8_forget dX11_coin_31 rfl (Nat.le_of_ble_eq_true rfl) ⟨by decide, by decide, by decide, by decide⟩) (fun u205 h203 => ?_)
  obtain rfl := h203
  refine z_iconst (v := 1) b dX11_coin_34 (by decide) ?_
  exact z_zret (u := (su S 4 1 p0)) b rfl (by decide) dX11_coin_35 ⟨rfl, rfl⟩ rfl (by decide) (by decide)

set_option maxHeartbeats 4000000 in
set_option maxRecDepth 100000 in
theorem ch_X12_packs_6 {p : Program} {l : Launch} {e : Env} {R : Room} {s : State} {m : MethodId} {args : Array Value} {below : List Frame} {meth : Method} {c : Code} {D : va_G} {cy : Nat → ClassId} {T0 tB tE : Nat} {A : Nat → Prop} {Q : State → Prop} {a : Nat → Nat} (S : GS)  (h_a_0_0 : ar S 0 0 = 0) (h_a_1_1 : ar S 1 1 = 0) (h_a_1_2 : ar S 1 2 = 0) (h_a_2_0 : ar S 2 0 = 3) (h_a_3_1 : ar S 3 1 = 0) (h_a_4_1 : ar S 4 1 = 0) (h_a_4_2 : ar S 4 2 = 0) (h_i_0 : fi S 0 = 0) (b : Bz p R s m args meth c D cy T0 tB tE A 5 cX12_packs RX12 (some .long) "packs" 1 21 0 0) (k : Z p l e R s m args below meth c D A 5 Q 0 0 (mw cy a S) [(3, .int 1), (4, .int 2), (1, .long 1536), (0, .ref (a 0))] 21 [.int 1, .ref (a 1), .long 24576]) : Z p l e R s m args below meth c D A 5 Q 0 0 (mw cy a S) [(0, .ref (a 0))] 0 [] := by
  refine z_aload_n b dX12_packs_0 rfl rfl ?_
  refine z_get (q0 := 0) (k9 := 5) (v := .int (fi S 0)) b (mw_0 cy a S) rfl in_X12 (by decide) wf_X12_157 rfl dX12_packs_1 ?_
  refine z_eqi h_i_0 ?_
  refine z_i2l (v := 0) b dX12_packs_4 (by decide) ?_
  refine z_lstore_n (lv' := [(1, .long 0), (0, .ref (a 0))]) b dX12_packs_5 rfl (by decide) rfl ?_
  refine z_iconst (v := 0) b dX12_packs_6 (by decide) ?_
  refine z_istore_n (lv' := [(3, .int 0), (1, .long 0), (0, .ref (a 0))]) b dX12_packs_7 rfl (by decide) rfl ?_
  refine z_iload_n b dX12_packs_8 rfl rfl ?_
  refine z_iconst (v := 3) b dX12_packs_9 (by decide) ?_
  refine z_icmp_ge_f (tgt := 134) b dX12_packs_10 (by decide) (by decide) ?_
  refine z_lload_n b dX12_packs_13 rfl rfl ?_
  refine z_iconst (v := 4) b dX12_packs_14 (by decide) ?_
  refine z_lshl (v := 0) b dX12_packs_15 (by decide) ?_
  refine z_aload_n b dX12_packs_16 rfl rfl ?_
  refine z_get (q0 := 0) (k9 := 0) (v := .ref (a 1)) b (mw_0 cy a S) rfl in_X12 (by decide) wf_X12_13 rfl dX12_packs_17 ?_
  refine z_iload_n b dX12_packs_20 rfl rfl ?_
  refine y_iald (q0 := 1) (j := 0) (v := (ar S 0 0)) b (mw_1 cy a S) (by decide) rfl dX12_packs_21 ?_
  refine z_eqi h_a_0_0 ?_
  refine z_i2l (v := 0) b dX12_packs_22 (by decide) ?_
  refine z_lor (v := 0) b dX12_packs_23 (by decide) ?_
  refine z_lstore_n (lv' := [(1, .long 0), (3, .int 0), (0, .ref (a 0))]) b dX12_packs_24 rfl (by decide) rfl ?_
  refine z_lload_n b dX12_packs_25 rfl rfl ?_
  refine z_iconst (v := 2) b dX12_packs_26 (by decide) ?_
  refine z_lshl (v := 0) b dX12_packs_27 (by decide) ?_
  refine z_aload_n b dX12_packs_28 rfl rfl ?_
  refine z_get (q0 := 0) (k9 := 2) (v := .ref (a 3)) b (mw_0 cy a S) rfl in_X12 (by decide) wf_X12_20 rfl dX12_packs_29 ?_
  refine z_iload_n b dX12_packs_32 rfl rfl ?_
  refine y_iald (q0 := 3) (j := 0) (v := (ar S 2 0)) b (mw_3 cy a S) (by decide) rfl dX12_packs_33 ?_
  refine z_eqi h_a_2_0 ?_
  refine z_i2l (v := 3) b dX12_packs_34 (by decide) ?_
  refine z_lor (v := 3) b dX12_packs_35 (by decide) ?_
  refine z_lstore_n (lv' := [(1, .long 3), (3, .int 0), (0, .ref (a 0))]) b dX12_packs_36 rfl (by decide) rfl ?_
  refine z_lload_n b dX12_packs_37 rfl rfl ?_
  refine z_iconst (v := 1) b dX12_packs_38 (by decide) ?_
  refine z_lshl (v := 6) b dX12_packs_39 (by decide) ?_
  refine z_aload_n b dX12_packs_40 rfl rfl ?_
  refine z_get (q0 := 0) (k9 := 3) (v := .ref (a 4)) b (mw_0 cy a S) rfl in_X12 (by decide) wf_X12_23 rfl dX12_packs_41 ?_
  refine z_iconst (v := 3) b dX12_packs_44 (by decide) ?_
  refine z_iload_n b dX12_packs_45 rfl rfl ?_
  refine z_imul (v := 0) b dX12_packs_46 (by decide) ?_
  refine z_iload_n b dX12_packs_47 rfl rfl ?_
  refine z_iconst (v := 0) b dX12_packs_48 (by decide) ?_
  refine z_calli b (z_runS (As := [.int 0, .int 0]) (st := [.int 0, .ref (a 4), .long 6]) b (c_X12_other_6 S ) cf_X12_other wm_X12_160 ws_X12_other dX12_packs_49 rfl (Nat.le_of_ble_eq_true rfl) ⟨by decide, by decide, by decide, by decide⟩) (fun r216 u217 h215 => ?_)
  obtain ⟨rfl, rfl⟩ := h215
  refine z_iadd (v := 1) b dX12_packs_52 (by decide) ?_
  refine y_zald (q0 := 4) (j := 1) (v := (ar S 3 1)) b (mw_4 cy a S) (by decide) rfl dX12_packs_53 ?_
  refine z_eqi h_a_3_1 ?_
  refine z_if_eq_t (tgt := 61) b dX12_packs_54 (by decide) (by decide) ?_
  refine z_lconst (v := 0) b dX12_packs_61 (by decide) ?_
  refine z_lor (v := 6) b dX12_packs_62 (by decide) ?_
  refine z_lstore_n (lv' := [(1, .long 6), (3, .int 0), (0, .ref (a 0))]) b dX12_packs_63 rfl (by decide) rfl ?_
  refine z_iconst (v := 0) b dX12_packs_64 (by decide) ?_
  refine z_istore (lv' := [(4, .int 0), (1, .long 6), (3, .int 0), (0, .ref (a 0))]) b dX12_packs_65 (by decide) rfl ?_
  refine z_iload b dX12_packs_67 rfl ?_
  refine z_iconst (v := 2) b dX12_packs_69 (by decide) ?_
  refine z_icmp_ge_f (tgt := 128) b dX12_packs_70 (by decide) (by decide) ?_
  refine z_lload_n b dX12_packs_73 rfl rfl ?_
  refine z_iconst (v := 3) b dX12_packs_74 (by decide) ?_
  refine z_lshl (v := 48) b dX12_packs_75 (by decide) ?_
  refine z_aload_n b dX12_packs_76 rfl rfl ?_
  refine z_get (q0 := 0) (k9 := 1) (v := .ref (a 2)) b (mw_0 cy a S) rfl in_X12 (by decide) wf_X12_17 rfl dX12_packs_77 ?_
  refine z_iconst (v := 3) b dX12_packs_80 (by decide) ?_
  refine z_iload_n b dX12_packs_81 rfl rfl ?_
  refine z_imul (v := 0) b dX12_packs_82 (by decide) ?_
  refine z_iload_n b dX12_packs_83 rfl rfl ?_
  refine z_iload b dX12_packs_84 rfl ?_
  refine z_calli b (z_runS (As := [.int 0, .int 0]) (st := [.int 0, .ref (a 2), .long 48]) b (c_X12_other_6 S ) cf_X12_other wm_X12_160 ws_X12_other dX12_packs_86 rfl (Nat.le_of_ble_eq_true rfl) ⟨by decide, by decide, by decide, by decide⟩) (fun r219 u220 h218 => ?_)
  obtain ⟨rfl, rfl⟩ := h218
  refine z_iadd (v := 1) b dX12_packs_89 (by decide) ?_
  refine y_iald (q0 := 2) (j := 1) (v := (ar S 1 1)) b (mw_2 cy a S) (by decide) rfl dX12_packs_90 ?_
  refine z_eqi h_a_1_1 ?_
  refine z_i2l (v := 0) b dX12_packs_91 (by decide) ?_
  refine z_lor (v := 48) b dX12_packs_92 (by decide) ?_
  refine z_lstore_n (lv' := [(1, .long 48), (4, .int 0), (3, .int 0), (0, .ref (a 0))]) b dX12_packs_93 rfl (by decide) rfl ?_
  refine z_lload_n b dX12_packs_94 rfl rfl ?_
  refine z_iconst (v := 1) b dX12_packs_95 (by decide) ?_
  refine z_lshl (v := 96) b dX12_packs_96 (by decide) ?_
  refine z_aload_n b dX12_packs_97 rfl rfl ?_
  refine z_get (q0 := 0) (k9 := 4) (v := .ref (a 5)) b (mw_0 cy a S) rfl in_X12 (by decide) wf_X12_27 rfl dX12_packs_98 ?_
  refine z_iconst (v := 3) b dX12_packs_101 (by decide) ?_
  refine z_iload_n b dX12_packs_102 rfl rfl ?_
  refine z_imul (v := 0) b dX12_packs_103 (by decide) ?_
  refine z_iload_n b dX12_packs_104 rfl rfl ?_
  refine z_iload b dX12_packs_105 rfl ?_
  refine z_calli b (z_runS (As := [.int 0, .int 0]) (st := [.int 0, .ref (a 5), .long 96]) b (c_X12_other_6 S ) cf_X12_other wm_X12_160 ws_X12_other dX12_packs_107 rfl (Nat.le_of_ble_eq_true rfl) ⟨by decide, by decide, by decide, by decide⟩) (fun r222 u223 h221 => ?_)
  obtain ⟨rfl, rfl⟩ := h221
  refine z_iadd (v := 1) b dX12_packs_110 (by decide) ?_
  refine y_zald (q0 := 5) (j := 1) (v := (ar S 4 1)) b (mw_5 cy a S) (by decide) rfl dX12_packs_111 ?_
  refine z_eqi h_a_4_1 ?_
  refine z_if_eq_t (tgt := 119) b dX12_packs_112 (by decide) (by decide) ?_
  refine z_lconst (v := 0) b dX12_packs_119 (by decide) ?_
  refine z_lor (v := 96) b dX12_packs_120 (by decide) ?_
  refine z_lstore_n (lv' := [(1, .long 96), (4, .int 0), (3, .int 0), (0, .ref (a 0))]) b dX12_packs_121 rfl (by decide) rfl ?_
  refine z_iinc (k9 := 1) (v := 1) (lv' := [(4, .int 1), (1, .long 96), (3, .int 0), (0, .ref (a 0))]) b dX12_packs_122 rfl (by decide) (by decide) rfl ?_
  refine z_goto (tgt := 67) b dX12_packs_125 (by decide) ?_
  refine z_iload b dX12_packs_67 rfl ?_
  refine z_iconst (v := 2) b dX12_packs_69 (by decide) ?_
  refine z_icmp_ge_f (tgt := 128) b dX12_packs_70 (by decide) (by decide) ?_
  refine z_lload_n b dX12_packs_73 rfl rfl ?_
  refine z_iconst (v := 3) b dX12_packs_74 (by decide) ?_
  refine z_lshl (v := 768) b dX12_packs_75 (by decide) ?_
  refine z_aload_n b dX12_packs_76 rfl rfl ?_
  refine z_get (q0 := 0) (k9 := 1) (v := .ref (a 2)) b (mw_0 cy a S) rfl in_X12 (by decide) wf_X12_17 rfl dX12_packs_77 ?_
  refine z_iconst (v := 3) b dX12_packs_80 (by decide) ?_
  refine z_iload_n b dX12_packs_81 rfl rfl ?_
  refine z_imul (v := 0) b dX12_packs_82 (by decide) ?_
  refine z_iload_n b dX12_packs_83 rfl rfl ?_
  refine z_iload b dX12_packs_84 rfl ?_
  refine z_calli b (z_runS (As := [.int 0, .int 1]) (st := [.int 0, .ref (a 2), .long 768]) b (c_X12_other_5 S ) cf_X12_other wm_X12_160 ws_X12_other dX12_packs_86 rfl (Nat.le_of_ble_eq_true rfl) ⟨by decide, by decide, by decide, by decide⟩) (fun r225 u226 h224 => ?_)
  obtain ⟨rfl, rfl⟩ := h224
  refine z_iadd (v := 2) b dX12_packs_89 (by decide) ?_
  refine y_iald (q0 := 2) (j := 2) (v := (ar S 1 2)) b (mw_2 cy a S) (by decide) rfl dX12_packs_90 ?_
  refine z_eqi h_a_1_2 ?_
  refine z_i2l (v := 0) b dX12_packs_91 (by decide) ?_
  refine z_lor (v := 768) b dX12_packs_92 (by decide) ?_
  refine z_lstore_n (lv' := [(1, .long 768), (4, .int 1), (3, .int 0), (0, .ref (a 0))]) b dX12_packs_93 rfl (by decide) rfl ?_
  refine z_lload_n b dX12_packs_94 rfl rfl ?_
  refine z_iconst (v := 1) b dX12_packs_95 (by decide) ?_
  refine z_lshl (v := 1536) b dX12_packs_96 (by decide) ?_
  refine z_aload_n b dX12_packs_97 rfl rfl ?_
  refine z_get (q0 := 0) (k9 := 4) (v := .ref (a 5)) b (mw_0 cy a S) rfl in_X12 (by decide) wf_X12_27 rfl dX12_packs_98 ?_
  refine z_iconst (v := 3) b dX12_packs_101 (by decide) ?_
  refine z_iload_n b dX12_packs_102 rfl rfl ?_
  refine z_imul (v := 0) b dX12_packs_103 (by decide) ?_
  refine z_iload_n b dX12_packs_104 rfl rfl ?_
  refine z_iload b dX12_packs_105 rfl ?_
  refine z_calli b (z_runS (As := [.int 0, .int 1]) (st := [.int 0, .ref (a 5), .long 1536]) b (c_X12_other_5 S ) cf_X12_other wm_X12_160 ws_X12_other dX12_packs_107 rfl (Nat.le_of_ble_eq_true rfl) ⟨by decide, by decide, by decide, by decide⟩) (fun r228 u229 h227 => ?_)
  obtain ⟨rfl, rfl⟩ := h227
  refine z_iadd (v := 2) b dX12_packs_110 (by decide) ?_
  refine y_zald (q0 := 5) (j := 2) (v := (ar S 4 2)) b (mw_5 cy a S) (by decide) rfl dX12_packs_111 ?_
  refine z_eqi h_a_4_2 ?_
  refine z_if_eq_t (tgt := 119) b dX12_packs_112 (by decide) (by decide) ?_
  refine z_lconst (v := 0) b dX12_packs_119 (by decide) ?_
  refine z_lor (v := 1536) b dX12_packs_120 (by decide) ?_
  refine z_lstore_n (lv' := [(1, .long 1536), (4, .int 1), (3, .int 0), (0, .ref (a 0))]) b dX12_packs_121 rfl (by decide) rfl ?_
  refine z_iinc (k9 := 1) (v := 2) (lv' := [(4, .int 2), (1, .long 1536), (3, .int 0), (0, .ref (a 0))]) b dX12_packs_122 rfl (by decide) (by decide) rfl ?_
  refine z_goto (tgt := 67) b dX12_packs_125 (by decide) ?_
  refine z_iload b dX12_packs_67 rfl ?_
  refine z_iconst (v := 2) b dX12_packs_69 (by decide) ?_
  refine z_icmp_ge_t (tgt := 128) b dX12_packs_70 (by decide) (by decide) ?_
  refine z_iinc (k9 := 2) (v := 1) (lv' := [(3, .int 1), (4, .int 2), (1, .long 1536), (0, .ref (a 0))]) b dX12_packs_128 rfl (by decide) (by decide) rfl ?_
  refine z_goto (tgt := 8) b dX12_packs_131 (by decide) ?_
  refine z_iload_n b dX12_packs_8 rfl rfl ?_
  refine z_iconst (v := 3) b dX12_packs_9 (by decide) ?_
  refine z_icmp_ge_f (tgt := 134) b dX12_packs_10 (by decide) (by decide) ?_
  refine z_lload_n b dX12_packs_13 rfl rfl ?_
  refine z_iconst (v := 4) b dX12_packs_14 (by decide) ?_
  refine z_lshl (v := 24576) b dX12_packs_15 (by decide) ?_
  refine z_aload_n b dX12_packs_16 rfl rfl ?_
  refine z_get (q0 := 0) (k9 := 0) (v := .ref (a 1)) b (mw_0 cy a S) rfl in_X12 (by decide) wf_X12_13 rfl dX12_packs_17 ?_
  refine z_iload_n b dX12_packs_20 rfl rfl ?_
  exact k

set_option maxHeartbeats 4000000 in
set_option maxRecDepth 100000 in
theorem ch_X12_packs_7 {p : Program} {l : Launch} {e : Env} {R : Room} {s : State} {m : MethodId} {args : Array Value} {below : List Frame} {meth : Method} {c : Code} {D : va_G} {cy : Nat → ClassId} {T0 tB tE : Nat} {A : Nat → Prop} {Q : State → Prop} {a : Nat → Nat} (S : GS)  (h_a_0_2 : ar S 0 2 = 0) (h_a_1_3 : ar S 1 3 = 0) (h_a_1_5 : ar S 1 5 = 0) (h_a_2_1 : ar S 2 1 = 3) (h_a_2_2 : ar S 2 2 = 3) (h_a_3_5 : ar S 3 5 = 0) (h_a_4_3 : ar S 4 3 = 0) (h_a_4_5 : ar S 4 5 = 0) (b : Bz p R s m args meth c D cy T0 tB tE A 5 cX12_packs RX12 (some .long) "packs" 1 21 0 0) (k : Z p l e R s m args below meth c D A 5 Q 0 0 (mw cy a S) [(1, .long (((((((((((((((((24576 ||| ((ar S 0 1) : Int32).toInt64) <<< ((2 : Int32).toInt64 &&& 63)) ||| 3) <<< ((1 : Int32).toInt64 &&& 63)) ||| 0) <<< ((3 : Int32).toInt64 &&& 63)) ||| 0) <<< ((1 : Int32).toInt64 &&& 63)) ||| 0) <<< ((3 : Int32).toInt64 &&& 63)) ||| 0) <<< ((1 : Int32).toInt64 &&& 63)) ||| 0) <<< ((4 : Int32).toInt64 &&& 63)) ||| 0) <<< ((2 : Int32).toInt64 &&& 63)) ||| 3)), (3, .int 2), (4, .int 2), (0, .ref (a 0))] 38 [.long (((((((((((((((((24576 ||| ((ar S 0 1) : Int32).toInt64) <<< ((2 : Int32).toInt64 &&& 63)) ||| 3) <<< ((1 : Int32).toInt64 &&& 63)) ||| 0) <<< ((3 : Int32).toInt64 &&& 63)) ||| 0) <<< ((1 : Int32).toInt64 &&& 63)) ||| 0) <<< ((3 : Int32).toInt64 &&& 63)) ||| 0) <<< ((1 : Int32).toInt64 &&& 63)) ||| 0) <<< ((4 : Int32).toInt64 &&& 63)) ||| 0) <<< ((2 : Int32).toInt64 &&& 63)) ||| 3)]) : Z p l e R s m args below meth c D A 5 Q 0 0 (mw cy a S) [(3, .int 1), (4, .int 2), (1, .long 1536), (0, .ref (a 0))] 21 [.int 1, .ref (a 1), .long 24576] := by
  refine y_iald (q0 := 1) (j := 1) (v := (ar S 0 1)) b (mw_1 cy a S) (by decide) rfl dX12_packs_21 ?_
  refine z_i2l b dX12_packs_22 rfl ?_
  refine z_lor b dX12_packs_23 rfl ?_
  refine z_lstore_n (lv' := [(1, .long (24576 ||| ((ar S 0 1) : Int32).toInt64)), (3, .int 1), (4, .int 2), (0, .ref (a 0))]) b dX12_packs_24 rfl (by decide) rfl ?_
  refine z_lload_n b dX12_packs_25 rfl rfl ?_
  refine z_iconst (v := 2) b dX12_packs_26 (by decide) ?_
  refine z_lshl b dX12_packs_27 rfl ?_
  refine z_aload_n b dX12_packs_28 rfl rfl ?_
  refine z_get (q0 := 0) (k9 := 2) (v := .ref (a 3)) b (mw_0 cy a S) rfl in_X12 (by decide) wf_X12_20 rfl dX12_packs_29 ?_
  refine z_iload_n b dX12_packs_32 rfl rfl ?_
  refine y_iald (q0 := 3) (j := 1) (v := (ar S 2 1)) b (mw_3 cy a S) (by decide) rfl dX12_packs_33 ?_
  refine z_eqi h_a_2_1 ?_
  refine z_i2l (v := 3) b dX12_packs_34 (by decide) ?_
  refine z_lor b dX12_packs_35 rfl ?_
  refine z_lstore_n (lv' := [(1, .long (((24576 ||| ((ar S 0 1) : Int32).toInt64) <<< ((2 : Int32).toInt64 &&& 63)) ||| 3)), (3, .int 1), (4, .int 2), (0, .ref (a 0))]) b dX12_packs_36 rfl (by decide) rfl ?_
  refine z_lload_n b dX12_packs_37 rfl rfl ?_
  refine z_iconst (v := 1) b dX12_packs_38 (by decide) ?_
  refine z_lshl b dX12_packs_39 rfl ?_
  refine z_aload_n b dX12_packs_40 rfl rfl ?_
  refine z_get (q0 := 0) (k9 := 3) (v := .ref (a 4)) b (mw_0 cy a S) rfl in_X12 (by decide) wf_X12_23 rfl dX12_packs_41 ?_
  refine z_iconst (v := 3) b dX12_packs_44 (by decide) ?_
  refine z_iload_n b dX12_packs_45 rfl rfl ?_
  refine z_imul (v := 3) b dX12_packs_46 (by decide) ?_
  refine z_iload_n b dX12_packs_47 rfl rfl ?_
  refine z_iconst (v := 0) b dX12_packs_48 (by decide) ?_
  refine z_calli b (z_runS (As := [.int 1, .int 0]) (st := [.int 3, .ref (a 4), .long ((((24576 ||| ((ar S 0 1) : Int32).toInt64) <<< ((2 : Int32).toInt64 &&& 63)) ||| 3) <<< ((1 : Int32).toInt64 &&& 63))]) b (c_X12_other_4 S ) cf_X12_other wm_X12_160 ws_X12_other dX12_packs_49 rfl (Nat.le_of_ble_eq_true rfl) ⟨by decide, by decide, by decide, by decide⟩) (fun r231 u232 h230 => ?_)
  obtain ⟨rfl, rfl⟩ := h230
  refine z_iadd (v := 5) b dX12_packs_52 (by decide) ?_
  refine y_zald (q0 := 4) (j := 5) (v := (ar S 3 5)) b (mw_4 cy a S) (by decide) rfl dX12_packs_53 ?_
  refine z_eqi h_a_3_5 ?_
  refine z_if_eq_t (tgt := 61) b dX12_packs_54 (by decide) (by decide) ?_
  refine z_lconst (v := 0) b dX12_packs_61 (by decide) ?_
  refine z_lor b dX12_packs_62 rfl ?_
  refine z_lstore_n (lv' := [(1, .long (((((24576 ||| ((ar S 0 1) : Int32).toInt64) <<< ((2 : Int32).toInt64 &&& 63)) ||| 3) <<< ((1 : Int32).toInt64 &&& 63)) ||| 0)), (3, .int 1), (4, .int 2), (0, .ref (a 0))]) b dX12_packs_63 rfl (by decide) rfl ?_
  refine z_iconst (v := 0) b dX12_packs_64 (by decide) ?_
  refine z_istore (lv' := [(4, .int 0), (1, .long (((((24576 ||| ((ar S 0 1) : Int32).toInt64) <<< ((2 : Int32).toInt64 &&& 63)) ||| 3) <<< ((1 : Int32).toInt64 &&& 63)) ||| 0)), (3, .int 1), (0, .ref (a 0))]) b dX12_packs_65 (by decide) rfl ?_
  refine z_iload b dX12_packs_67 rfl ?_
  refine z_iconst (v := 2) b dX12_packs_69 (by decide) ?_
  refine z_icmp_ge_f (tgt := 128) b dX12_packs_70 (by decide) (by decide) ?_
  refine z_lload_n b dX12_packs_73 rfl rfl ?_
  refine z_iconst (v := 3) b dX12_packs_74 (by decide) ?_
  refine z_lshl b dX12_packs_75 rfl ?_
  refine z_aload_n b dX12_packs_76 rfl rfl ?_
  refine z_get (q0 := 0) (k9 := 1) (v := .ref (a 2)) b (mw_0 cy a S) rfl in_X12 (by decide) wf_X12_17 rfl dX12_packs_77 ?_
  refine z_iconst (v := 3) b dX12_packs_80 (by decide) ?_
  refine z_iload_n b dX12_packs_81 rfl rfl ?_
  refine z_imul (v := 3) b dX12_packs_82 (by decide) ?_
  refine z_iload_n b dX12_packs_83 rfl rfl ?_
  refine z_iload b dX12_packs_84 rfl ?_
  refine z_calli b (z_runS (As := [.int 1, .int 0]) (st := [.int 3, .ref (a 2), .long ((((((24576 ||| ((ar S 0 1) : Int32).toInt64) <<< ((2 : Int32).toInt64 &&& 63)) ||| 3) <<< ((1 : Int32).toInt64 &&& 63)) ||| 0) <<< ((3 : Int32).toInt64 &&& 63))]) b (c_X12_other_4 S ) cf_X12_other wm_X12_160 ws_X12_other dX12_packs_86 rfl (Nat.le_of_ble_eq_true rfl) ⟨by decide, by decide, by decide, by decide⟩) (fun r234 u235 h233 => ?_)
  obtain ⟨rfl, rfl⟩ := h233
  refine z_iadd (v := 5) b dX12_packs_89 (by decide) ?_
  refine y_iald (q0 := 2) (j := 5) (v := (ar S 1 5)) b (mw_2 cy a S) (by decide) rfl dX12_packs_90 ?_
  refine z_eqi h_a_1_5 ?_
  refine z_i2l (v := 0) b dX12_packs_91 (by decide) ?_
  refine z_lor b dX12_packs_92 rfl ?_
  refine z_lstore_n (lv' := [(1, .long (((((((24576 ||| ((ar S 0 1) : Int32).toInt64) <<< ((2 : Int32).toInt64 &&& 63)) ||| 3) <<< ((1 : Int32).toInt64 &&& 63)) ||| 0) <<< ((3 : Int32).toInt64 &&& 63)) ||| 0)), (4, .int 0), (3, .int 1), (0, .ref (a 0))]) b dX12_packs_93 rfl (by decide) rfl ?_
  refine z_lload_n b dX12_packs_94 rfl rfl ?_
  refine z_iconst (v := 1) b dX12_packs_95 (by decide) ?_
  refine z_lshl b dX12_packs_96 rfl ?_
  refine z_aload_n b dX12_packs_97 rfl rfl ?_
  refine z_get (q0 := 0) (k9 := 4) (v := .ref (a 5)) b (mw_0 cy a S) rfl in_X12 (by decide) wf_X12_27 rfl dX12_packs_98 ?_
  refine z_iconst (v := 3) b dX12_packs_101 (by decide) ?_
  refine z_iload_n b dX12_packs_102 rfl rfl ?_
  refine z_imul (v := 3) b dX12_packs_103 (by decide) ?_
  refine z_iload_n b dX12_packs_104 rfl rfl ?_
  refine z_iload b dX12_packs_105 rfl ?_
  refine z_calli b (z_runS (As := [.int 1, .int 0]) (st := [.int 3, .ref (a 5), .long ((((((((24576 ||| ((ar S 0 1) : Int32).toInt64) <<< ((2 : Int32).toInt64 &&& 63)) ||| 3) <<< ((1 : Int32).toInt64 &&& 63)) ||| 0) <<< ((3 : Int32).toInt64 &&& 63)) ||| 0) <<< ((1 : Int32).toInt64 &&& 63))]) b (c_X12_other_4 S ) cf_X12_other wm_X12_160 ws_X12_other dX12_packs_107 rfl (Nat.le_of_ble_eq_true rfl) ⟨by decide, by decide, by decide, by decide⟩) (fun r237 u238 h236 => ?_)
  obtain ⟨rfl, rfl⟩ := h236
  refine z_iadd (v := 5) b dX12_packs_110 (by decide) ?_
  refine y_zald (q0 := 5) (j := 5) (v := (ar S 4 5)) b (mw_5 cy a S) (by decide) rfl dX12_packs_111 ?_
  refine z_eqi h_a_4_5 ?_
  refine z_if_eq_t (tgt := 119) b dX12_packs_112 (by decide) (by decide) ?_
  refine z_lconst (v := 0) b dX12_packs_119 (by decide) ?_
  refine z_lor b dX12_packs_120 rfl ?_
  refine z_lstore_n (lv' := [(1, .long (((((((((24576 ||| ((ar S 0 1) : Int32).toInt64) <<< ((2 : Int32).toInt64 &&& 63)) ||| 3) <<< ((1 : Int32).toInt64 &&& 63)) ||| 0) <<< ((3 : Int32).toInt64 &&& 63)) ||| 0) <<< ((1 : Int32).toInt64 &&& 63)) ||| 0)), (4, .int 0), (3, .int 1), (0, .ref (a 0))]) b dX12_packs_121 rfl (by decide) rfl ?_
  refine z_iinc (k9 := 1) (v := 1) (lv' := [(4, .int 1), (1, .long (((((((((24576 ||| ((ar S 0 1) : Int32).toInt64) <<< ((2 : Int32).toInt64 &&& 63)) ||| 3) <<< ((1 : Int32).toInt64 &&& 63)) ||| 0) <<< ((3 : Int32).toInt64 &&& 63)) ||| 0) <<< ((1 : Int32).toInt64 &&& 63)) ||| 0)), (3, .int 1), (0, .ref (a 0))]) b dX12_packs_122 rfl (by decide) (by decide) rfl ?_
  refine z_goto (tgt := 67) b dX12_packs_125 (by decide) ?_
  refine z_iload b dX12_packs_67 rfl ?_
  refine z_iconst (v := 2) b dX12_packs_69 (by decide) ?_
  refine z_icmp_ge_f (tgt := 128) b dX12_packs_70 (by decide) (by decide) ?_
  refine z_lload_n b dX12_packs_73 rfl rfl ?_
  refine z_iconst (v := 3) b dX12_packs_74 (by decide) ?_
  refine z_lshl b dX12_packs_75 rfl ?_
  refine z_aload_n b dX12_packs_76 rfl rfl ?_
  refine z_get (q0 := 0) (k9 := 1) (v := .ref (a 2)) b (mw_0 cy a S) rfl in_X12 (by decide) wf_X12_17 rfl dX12_packs_77 ?_
  refine z_iconst (v := 3) b dX12_packs_80 (by decide) ?_
  refine z_iload_n b dX12_packs_81 rfl rfl ?_
  refine z_imul (v := 3) b dX12_packs_82 (by decide) ?_
  refine z_iload_n b dX12_packs_83 rfl rfl ?_
  refine z_iload b dX12_packs_84 rfl ?_
  refine z_calli b (z_runS (As := [.int 1, .int 1]) (st := [.int 3, .ref (a 2), .long ((((((((((24576 ||| ((ar S 0 1) : Int32).toInt64) <<< ((2 : Int32).toInt64 &&& 63)) ||| 3) <<< ((1 : Int32).toInt64 &&& 63)) ||| 0) <<< ((3 : Int32).toInt64 &&& 63)) ||| 0) <<< ((1 : Int32).toInt64 &&& 63)) ||| 0) <<< ((3 : Int32).toInt64 &&& 63))]) b (c_X12_other_3 S ) cf_X12_other wm_X12_160 ws_X12_other dX12_packs_86 rfl (Nat.le_of_ble_eq_true rfl) ⟨by decide, by decide, by decide, by decide⟩) (fun r240 u241 h239 => ?_)
  obtain ⟨rfl, rfl⟩ := h239
  refine z_iadd (v := 3) b dX12_packs_89 (by decide) ?_
  refine y_iald (q0 := 2) (j := 3) (v := (ar S 1 3)) b (mw_2 cy a S) (by decide) rfl dX12_packs_90 ?_
  refine z_eqi h_a_1_3 ?_
  refine z_i2l (v := 0) b dX12_packs_91 (by decide) ?_
  refine z_lor b dX12_packs_92 rfl ?_
  refine z_lstore_n (lv' := [(1, .long (((((((((((24576 ||| ((ar S 0 1) : Int32).toInt64) <<< ((2 : Int32).toInt64 &&& 63)) ||| 3) <<< ((1 : Int32).toInt64 &&& 63)) ||| 0) <<< ((3 : Int32).toInt64 &&& 63)) ||| 0) <<< ((1 : Int32).toInt64 &&& 63)) ||| 0) <<< ((3 : Int32).toInt64 &&& 63)) ||| 0)), (4, .int 1), (3, .int 1), (0, .ref (a 0))]) b dX12_packs_93 rfl (by decide) rfl ?_
  refine z_lload_n b dX12_packs_94 rfl rfl ?_
  refine z_iconst (v := 1) b dX12_packs_95 (by decide) ?_
  refine z_lshl b dX12_packs_96 rfl ?_
  refine z_aload_n b dX12_packs_97 rfl rfl ?_
  refine z_get (q0 := 0) (k9 := 4) (v := .ref (a 5)) b (mw_0 cy a S) rfl in_X12 (by decide) wf_X12_27 rfl dX12_packs_98 ?_
  refine z_iconst (v := 3) b dX12_packs_101 (by decide) ?_
  refine z_iload_n b dX12_packs_102 rfl rfl ?_
  refine z_imul (v := 3) b dX12_packs_103 (by decide) ?_
  refine z_iload_n b dX12_packs_104 rfl rfl ?_
  refine z_iload b dX12_packs_105 rfl ?_
  refine z_calli b (z_runS (As := [.int 1, .int 1]) (st := [.int 3, .ref (a 5), .long ((((((((((((24576 ||| ((ar S 0 1) : Int32).toInt64) <<< ((2 : Int32).toInt64 &&& 63)) ||| 3) <<< ((1 : Int32).toInt64 &&& 63)) ||| 0) <<< ((3 : Int32).toInt64 &&& 63)) ||| 0) <<< ((1 : Int32).toInt64 &&& 63)) ||| 0) <<< ((3 : Int32).toInt64 &&& 63)) ||| 0) <<< ((1 : Int32).toInt64 &&& 63))]) b (c_X12_other_3 S ) cf_X12_other wm_X12_160 ws_X12_other dX12_packs_107 rfl (Nat.le_of_ble_eq_true rfl) ⟨by decide, by decide, by decide, by decide⟩) (fun r243 u244 h242 => ?_)
  obtain ⟨rfl, rfl⟩ := h242
  refine z_iadd (v := 3) b dX12_packs_110 (by decide) ?_
  refine y_zald (q0 := 5) (j := 3) (v := (ar S 4 3)) b (mw_5 cy a S) (by decide) rfl dX12_packs_111 ?_
  refine z_eqi h_a_4_3 ?_
  refine z_if_eq_t (tgt := 119) b dX12_packs_112 (by decide) (by decide) ?_
  refine z_lconst (v := 0) b dX12_packs_119 (by decide) ?_
  refine z_lor b dX12_packs_120 rfl ?_
  refine z_lstore_n (lv' := [(1, .long (((((((((((((24576 ||| ((ar S 0 1) : Int32).toInt64) <<< ((2 : Int32).toInt64 &&& 63)) ||| 3) <<< ((1 : Int32).toInt64 &&& 63)) ||| 0) <<< ((3 : Int32).toInt64 &&& 63)) ||| 0) <<< ((1 : Int32).toInt64 &&& 63)) ||| 0) <<< ((3 : Int32).toInt64 &&& 63)) ||| 0) <<< ((1 : Int32).toInt64 &&& 63)) ||| 0)), (4, .int 1), (3, .int 1), (0, .ref (a 0))]) b dX12_packs_121 rfl (by decide) rfl ?_
  refine z_iinc (k9 := 1) (v := 2) (lv' := [(4, .int 2), (1, .long (((((((((((((24576 ||| ((ar S 0 1) : Int32).toInt64) <<< ((2 : Int32).toInt64 &&& 63)) ||| 3) <<< ((1 : Int32).toInt64 &&& 63)) ||| 0) <<< ((3 : Int32).toInt64 &&& 63)) ||| 0) <<< ((1 : Int32).toInt64 &&& 63)) ||| 0) <<< ((3 : Int32).toInt64 &&& 63)) ||| 0) <<< ((1 : Int32).toInt64 &&& 63)) ||| 0)), (3, .int 1), (0, .ref (a 0))]) b dX12_packs_122 rfl (by decide) (by decide) rfl ?_
  refine z_goto (tgt := 67) b dX12_packs_125 (by decide) ?_
  refine z_iload b dX12_packs_67 rfl ?_
  refine z_iconst (v := 2) b dX12_packs_69 (by decide) ?_
  refine z_icmp_ge_t (tgt := 128) b dX12_packs_70 (by decide) (by decide) ?_
  refine z_iinc (k9 := 2) (v := 2) (lv' := [(3, .int 2), (4, .int 2), (1, .long (((((((((((((24576 ||| ((ar S 0 1) : Int32).toInt64) <<< ((2 : Int32).toInt64 &&& 63)) ||| 3) <<< ((1 : Int32).toInt64 &&& 63)) ||| 0) <<< ((3 : Int32).toInt64 &&& 63)) ||| 0) <<< ((1 : Int32).toInt64 &&& 63)) ||| 0) <<< ((3 : Int32).toInt64 &&& 63)) ||| 0) <<< ((1 : Int32).toInt64 &&& 63)) ||| 0)), (0, .ref (a 0))]) b dX12_packs_128 rfl (by decide) (by decide) rfl ?_
  refine z_goto (tgt := 8) b dX12_packs_131 (by decide) ?_
  refine z_iload_n b dX12_packs_8 rfl rfl ?_
  refine z_iconst (v := 3) b dX12_packs_9 (by decide) ?_
  refine z_icmp_ge_f (tgt := 134) b dX12_packs_10 (by decide) (by decide) ?_
  refine z_lload_n b dX12_packs_13 rfl rfl ?_
  refine z_iconst (v := 4) b dX12_packs_14 (by decide) ?_
  refine z_lshl b dX12_packs_15 rfl ?_
  refine z_aload_n b dX12_packs_16 rfl rfl ?_
  refine z_get (q0 := 0) (k9 := 0) (v := .ref (a 1)) b (mw_0 cy a S) rfl in_X12 (by decide) wf_X12_13 rfl dX12_packs_17 ?_
  refine z_iload_n b dX12_packs_20 rfl rfl ?_
  refine y_iald (q0 := 1) (j := 2) (v := (ar S 0 2)) b (mw_1 cy a S) (by decide) rfl dX12_packs_21 ?_
  refine z_eqi h_a_0_2 ?_
  refine z_i2l (v := 0) b dX12_packs_22 (by decide) ?_
  refine z_lor b dX12_packs_23 rfl ?_
  refine z_lstore_n (lv' := [(1, .long (((((((((((((((24576 ||| ((ar S 0 1) : Int32).toInt64) <<< ((2 : Int32).toInt64 &&& 63)) ||| 3) <<< ((1 : Int32).toInt64 &&& 63)) ||| 0) <<< ((3 : Int32).toInt64 &&& 63)) ||| 0) <<< ((1 : Int32).toInt64 &&& 63)) ||| 0) <<< ((3 : Int32).toInt64 &&& 63)) ||| 0) <<< ((1 : Int32).toInt64 &&& 63)) ||| 0) <<< ((4 : Int32).toInt64 &&& 63)) ||| 0)), (3, .int 2), (4, .int 2), (0, .ref (a 0))]) b dX12_packs_24 rfl (by decide) rfl ?_
  refine z_lload_n b dX12_packs_25 rfl rfl ?_
  refine z_iconst (v := 2) b dX12_packs_26 (by decide) ?_
  refine z_lshl b dX12_packs_27 rfl ?_
  refine z_aload_n b dX12_packs_28 rfl rfl ?_
  refine z_get (q0 := 0) (k9 := 2) (v := .ref (a 3)) b (mw_0 cy a S) rfl in_X12 (by decide) wf_X12_20 rfl dX12_packs_29 ?_
  refine z_iload_n b dX12_packs_32 rfl rfl ?_
  refine y_iald (q0 := 3) (j := 2) (v := (ar S 2 2)) b (mw_3 cy a S) (by decide) rfl dX12_packs_33 ?_
  refine z_eqi h_a_2_2 ?_
  refine z_i2l (v := 3) b dX12_packs_34 (by decide) ?_
  refine z_lor b dX12_packs_35 rfl ?_
  refine z_lstore_n (lv' := [(1, .long (((((((((((((((((24576 ||| ((ar S 0 1) : Int32).toInt64) <<< ((2 : Int32).toInt64 &&& 63)) ||| 3) <<< ((1 : Int32).toInt64 &&& 63)) ||| 0) <<< ((3 : Int32).toInt64 &&& 63)) ||| 0) <<< ((1 : Int32).toInt64 &&& 63)) ||| 0) <<< ((3 : Int32).toInt64 &&& 63)) ||| 0) <<< ((1 : Int32).toInt64 &&& 63)) ||| 0) <<< ((4 : Int32).toInt64 &&& 63)) ||| 0) <<< ((2 : Int32).toInt64 &&& 63)) ||| 3)), (3, .int 2), (4, .int 2), (0, .ref (a 0))]) b dX12_packs_36 rfl (by decide) rfl ?_
  refine z_lload_n b dX12_packs_37 rfl rfl ?_
  exact k

set_option maxHeartbeats 4000000 in
set_option maxRecDepth 100000 in
theorem c_X12_packs_2 {l : Launch} {D : va_G} {cy : Nat → ClassId} {T0 tB tE : Nat} {a : Nat → Nat} (S : GS)  (h_i_0 : fi S 0 = 0) (h_a_0_0 : ar S 0 0 = 0) (h_a_2_0 : ar S 2 0 = 3) (h_a_3_1 : ar S 3 1 = 0) (h_a_1_1 : ar S 1 1 = 0) (h_a_4_1 : ar S 4 1 = 0) (h_a_1_2 : ar S 1 2 = 0) (h_a_4_2 : ar S 4 2 = 0) (h_a_2_1 : ar S 2 1 = 3) (h_a_3_5 : ar S 3 5 = 0) (h_a_1_5 : ar S 1 5 = 0) (h_a_4_5 : ar S 4 5 = 0) (h_a_1_3 : ar S 1 3 = 0) (h_a_4_3 : ar S 4 3 = 0) (h_a_0_2 : ar S 0 2 = 0) (h_a_2_2 : ar S 2 2 = 3) (h_a_3_6 : ar S 3 6 = 0) (h_a_1_6 : ar S 1 6 = 0) (h_a_4_6 : ar S 4 6 = 0) (h_a_1_7 : ar S 1 7 = 0) (h_a_4_7 : ar S 4 7 = 0) : Ct l D cy T0 tB tE yX12_packs cX12_packs 5 (some .long) 1 21 0 0 (mw cy a S) [.ref (a 0)] (QL D (U := GS) (fun r u => (((((((((((((((((((((((((((24576 ||| ((ar S 0 1) : Int32).toInt64) <<< ((2 : Int32).toInt64 &&& 63)) ||| 3) <<< ((1 : Int32).toInt64 &&& 63)) ||| 0) <<< ((3 : Int32).toInt64 &&& 63)) ||| 0) <<< ((1 : Int32).toInt64 &&& 63)) ||| 0) <<< ((3 : Int32).toInt64 &&& 63)) ||| 0) <<< ((1 : Int32).toInt64 &&& 63)) ||| 0) <<< ((4 : Int32).toInt64 &&& 63)) ||| 0) <<< ((2 : Int32).toInt64 &&& 63)) ||| 3) <<< ((1 : Int32).toInt64 &&& 63)) ||| 0) <<< ((3 : Int32).toInt64 &&& 63)) ||| 0) <<< ((1 : Int32).toInt64 &&& 63)) ||| 0) <<< ((3 : Int32).toInt64 &&& 63)) ||| 0) <<< ((1 : Int32).toInt64 &&& 63)) ||| 0) = r ∧ S = u) (mw cy a)) := by
  refine Ct.ofZ RX12 "packs" [(0, .ref (a 0))] rfl rfl rfl rfl (Nat.le_of_ble_eq_true rfl) ?_
  intro p e R s m args below meth c A b
  refine ch_X12_packs_6 S  h_a_0_0 h_a_1_1 h_a_1_2 h_a_2_0 h_a_3_1 h_a_4_1 h_a_4_2 h_i_0  b ?_
  refine ch_X12_packs_7 S  h_a_0_2 h_a_1_3 h_a_1_5 h_a_2_1 h_a_2_2 h_a_3_5 h_a_4_3 h_a_4_5  b ?_
  refine z_iconst (v := 1) b dX12_packs_38 (by decide) ?_
  refine z_lshl b dX12_packs_39 rfl ?_
  refine z_aload_n b dX12_packs_40 rfl rfl ?_
  refine z_get (q0 := 0) (k9 := 3) (v := .ref (a 4)) b (mw_0 cy a S) rfl in_X12 (by decide) wf_X12_23 rfl dX12_packs_41 ?_
  refine z_iconst (v := 3) b dX12_packs_44 (by decide) ?_
  refine z_iload_n b dX12_packs_45 rfl rfl ?_
  refine z_imul (v := 6) b dX12_packs_46 (by decide) ?_
  refine z_iload_n b dX12_packs_47 rfl rfl ?_
  refine z_iconst (v := 0) b dX12_packs_48 (by decide) ?_
  refine z_calli b (z_runS (As := [.int 2, .int 0]) (st := [.int 6, .ref (a 4), .long ((((((((((((((((((24576 ||| ((ar S 0 1) : Int32).toInt64) <<< ((2 : Int32).toInt64 &&& 63)) ||| 3) <<< ((1 : Int32).toInt64 &&& 63)) ||| 0) <<< ((3 : Int32).toInt64 &&& 63)) ||| 0) <<< ((1 : Int32).toInt64 &&& 63)) ||| 0) <<< ((3 : Int32).toInt64 &&& 63)) ||| 0) <<< ((1 : Int32).toInt64 &&& 63)) ||| 0) <<< ((4 : Int32).toInt64 &&& 63)) ||| 0) <<< ((2 : Int32).toInt64 &&& 63)) ||| 3) <<< ((1 : Int32).toInt64 &&& 63))]) b (c_X12_other_2 S ) cf_X12_other wm_X12_160 ws_X12_other dX12_packs_49 rfl (Nat.le_of_ble_eq_true rfl) ⟨by decide, by decide, by decide, by decide⟩) (fun r246 u247 h245 => ?_)
  obtain ⟨rfl, rfl⟩ := h245
  refine z_iadd (v := 6) b dX12_packs_52 (by decide) ?_
  refine y_zald (q0 := 4) (j := 6) (v := (ar S 3 6)) b (mw_4 cy a S) (by decide) rfl dX12_packs_53 ?_
  refine z_eqi h_a_3_6 ?_
  refine z_if_eq_t (tgt := 61) b dX12_packs_54 (by decide) (by decide) ?_
  refine z_lconst (v := 0) b dX12_packs_61 (by decide) ?_
  refine z_lor b dX12_packs_62 rfl ?_
  refine z_lstore_n (lv' := [(1, .long (((((((((((((((((((24576 ||| ((ar S 0 1) : Int32).toInt64) <<< ((2 : Int32).toInt64 &&& 63)) ||| 3) <<< ((1 : Int32).toInt64 &&& 63)) ||| 0) <<< ((3 : Int32).toInt64 &&& 63)) ||| 0) <<< ((1 : Int32).toInt64 &&& 63)) ||| 0) <<< ((3 : Int32).toInt64 &&& 63)) ||| 0) <<< ((1 : Int32).toInt64 &&& 63)) ||| 0) <<< ((4 : Int32).toInt64 &&& 63)) ||| 0) <<< ((2 : Int32).toInt64 &&& 63)) ||| 3) <<< ((1 : Int32).toInt64 &&& 63)) ||| 0)), (3, .int 2), (4, .int 2), (0, .ref (a 0))]) b dX12_packs_63 rfl (by decide) rfl ?_
  refine z_iconst (v := 0) b dX12_packs_64 (by decide) ?_
  refine z_istore (lv' := [(4, .int 0), (1, .long (((((((((((((((((((24576 ||| ((ar S 0 1) : Int32).toInt64) <<< ((2 : Int32).toInt64 &&& 63)) ||| 3) <<< ((1 : Int32).toInt64 &&& 63)) ||| 0) <<< ((3 : Int32).toInt64 &&& 63)) ||| 0) <<< ((1 : Int32).toInt64 &&& 63)) ||| 0) <<< ((3 : Int32).toInt64 &&& 63)) ||| 0) <<< ((1 : Int32).toInt64 &&& 63)) ||| 0) <<< ((4 : Int32).toInt64 &&& 63)) ||| 0) <<< ((2 : Int32).toInt64 &&& 63)) ||| 3) <<< ((1 : Int32).toInt64 &&& 63)) ||| 0)), (3, .int 2), (0, .ref (a 0))]) b dX12_packs_65 (by decide) rfl ?_
  refine z_iload b dX12_packs_67 rfl ?_
  refine z_iconst (v := 2) b dX12_packs_69 (by decide) ?_
  refine z_icmp_ge_f (tgt := 128) b dX12_packs_70 (by decide) (by decide) ?_
  refine z_lload_n b dX12_packs_73 rfl rfl ?_
  refine z_iconst (v := 3) b dX12_packs_74 (by decide) ?_
  refine z_lshl b dX12_packs_75 rfl ?_
  refine z_aload_n b dX12_packs_76 rfl rfl ?_
  refine z_get (q0 := 0) (k9 := 1) (v := .ref (a 2)) b (mw_0 cy a S) rfl in_X12 (by decide) wf_X12_17 rfl dX12_packs_77 ?_
  refine z_iconst (v := 3) b dX12_packs_80 (by decide) ?_
  refine z_iload_n b dX12_packs_81 rfl rfl ?_
  refine z_imul (v := 6) b dX12_packs_82 (by decide) ?_
  refine z_iload_n b dX12_packs_83 rfl rfl ?_
  refine z_iload b dX12_packs_84 rfl ?_
  refine z_calli b (z_runS (As := [.int 2, .int 0]) (st := [.int 6, .ref (a 2), .long ((((((((((((((((((((24576 ||| ((ar S 0 1) : Int32).toInt64) <<< ((2 : Int32).toInt64 &&& 63)) ||| 3) <<< ((1 : Int32).toInt64 &&& 63)) ||| 0) <<< ((3 : Int32).toInt64 &&& 63)) ||| 0) <<< ((1 : Int32).toInt64 &&& 63)) ||| 0) <<< ((3 : Int32).toInt64 &&& 63)) ||| 0) <<< ((1 : Int32).toInt64 &&& 63)) ||| 0) <<< ((4 : Int32).toInt64 &&& 63)) ||| 0) <<< ((2 : Int32).toInt64 &&& 63)) ||| 3) <<< ((1 : Int32).toInt64 &&& 63)) ||| 0) <<< ((3 : Int32).toInt64 &&& 63))]) b (c_X12_other_2 S ) cf_X12_other wm_X12_160 ws_X12_other dX12_packs_86 rfl (Nat.le_of_ble_eq_true rfl) ⟨by decide, by decide, by decide, by decide⟩) (fun r249 u250 h248 => ?_)
  obtain ⟨rfl, rfl⟩ := h248
  refine z_iadd (v := 6) b dX12_packs_89 (by decide) ?_
  refine y_iald (q0 := 2) (j := 6) (v := (ar S 1 6)) b (mw_2 cy a S) (by decide) rfl dX12_packs_90 ?_
  refine z_eqi h_a_1_6 ?_
  refine z_i2l (v := 0) b dX12_packs_91 (by decide) ?_
  refine z_lor b dX12_packs_92 rfl ?_
  refine z_lstore_n (lv' := [(1, .long (((((((((((((((((((((24576 ||| ((ar S 0 1) : Int32).toInt64) <<< ((2 : Int32).toInt64 &&& 63)) ||| 3) <<< ((1 : Int32).toInt64 &&& 63)) ||| 0) <<< ((3 : Int32).toInt64 &&& 63)) ||| 0) <<< ((1 : Int32).toInt64 &&& 63)) ||| 0) <<< ((3 : Int32).toInt64 &&& 63)) ||| 0) <<< ((1 : Int32).toInt64 &&& 63)) ||| 0) <<< ((4 : Int32).toInt64 &&& 63)) ||| 0) <<< ((2 : Int32).toInt64 &&& 63)) ||| 3) <<< ((1 : Int32).toInt64 &&& 63)) ||| 0) <<< ((3 : Int32).toInt64 &&& 63)) ||| 0)), (4, .int 0), (3, .int 2), (0, .ref (a 0))]) b dX12_packs_93 rfl (by decide) rfl ?_
  refine z_lload_n b dX12_packs_94 rfl rfl ?_
  refine z_iconst (v := 1) b dX12_packs_95 (by decide) ?_
  refine z_lshl b dX12_packs_96 rfl ?_
  refine z_aload_n b dX12_packs_97 rfl rfl ?_
  refine z_get (q0 := 0) (k9 := 4) (v := .ref (a 5)) b (mw_0 cy a S) rfl in_X12 (by decide) wf_X12_27 rfl dX12_packs_98 ?_
  refine z_iconst (v := 3) b dX12_packs_101 (by decide) ?_
  refine z_iload_n b dX12_packs_102 rfl rfl ?_
  refine z_imul (v := 6) b dX12_packs_103 (by decide) ?_
  refine z_iload_n b dX12_packs_104 rfl rfl ?_
  refine z_iload b dX12_packs_105 rfl ?_
  refine z_calli b (z_runS (As := [.int 2, .int 0]) (st := [.int 6, .ref (a 5), .long ((((((((((((((((((((((24576 ||| ((ar S 0 1) : Int32).toInt64) <<< ((2 : Int32).toInt64 &&& 63)) ||| 3) <<< ((1 : Int32).toInt64 &&& 63)) ||| 0) <<< ((3 : Int32).toInt64 &&& 63)) ||| 0) <<< ((1 : Int32).toInt64 &&& 63)) ||| 0) <<< ((3 : Int32).toInt64 &&& 63)) ||| 0) <<< ((1 : Int32).toInt64 &&& 63)) ||| 0) <<< ((4 : Int32).toInt64 &&& 63)) ||| 0) <<< ((2 : Int32).toInt64 &&& 63)) ||| 3) <<< ((1 : Int32).toInt64 &&& 63)) ||| 0) <<< ((3 : Int32).toInt64 &&& 63)) ||| 0) <<< ((1 : Int32).toInt64 &&& 63))]) b (c_X12_other_2 S ) cf_X12_other wm_X12_160 ws_X12_other dX12_packs_107 rfl (Nat.le_of_ble_eq_true rfl) ⟨by decide, by decide, by decide, by decide⟩) (fun r252 u253 h251 => ?_)
  obtain ⟨rfl, rfl⟩ := h251
  refine z_iadd (v := 6) b dX12_packs_110 (by decide) ?_
  refine y_zald (q0 := 5) (j := 6) (v := (ar S 4 6)) b (mw_5 cy a S) (by decide) rfl dX12_packs_111 ?_
  refine z_eqi h_a_4_6 ?_
  refine z_if_eq_t (tgt := 119) b dX12_packs_112 (by decide) (by decide) ?_
  refine z_lconst (v := 0) b dX12_packs_119 (by decide) ?_
  refine z_lor b dX12_packs_120 rfl ?_
  refine z_lstore_n (lv' := [(1, .long (((((((((((((((((((((((24576 ||| ((ar S 0 1) : Int32).toInt64) <<< ((2 : Int32).toInt64 &&& 63)) ||| 3) <<< ((1 : Int32).toInt64 &&& 63)) ||| 0) <<< ((3 : Int32).toInt64 &&& 63)) ||| 0) <<< ((1 : Int32).toInt64 &&& 63)) ||| 0) <<< ((3 : Int32).toInt64 &&& 63)) ||| 0) <<< ((1 : Int32).toInt64 &&& 63)) ||| 0) <<< ((4 : Int32).toInt64 &&& 63)) ||| 0) <<< ((2 : Int32).toInt64 &&& 63)) ||| 3) <<< ((1 : Int32).toInt64 &&& 63)) ||| 0) <<< ((3 : Int32).toInt64 &&& 63)) ||| 0) <<< ((1 : Int32).toInt64 &&& 63)) ||| 0)), (4, .int 0), (3, .int 2), (0, .ref (a 0))]) b dX12_packs_121 rfl (by decide) rfl ?_
  refine z_iinc (k9 := 1) (v := 1) (lv' := [(4, .int 1), (1, .long (((((((((((((((((((((((24576 ||| ((ar S 0 1) : Int32).toInt64) <<< ((2 : Int32).toInt64 &&& 63)) ||| 3) <<< ((1 : Int32).toInt64 &&& 63)) ||| 0) <<< ((3 : Int32).toInt64 &&& 63)) ||| 0) <<< ((1 : Int32).toInt64 &&& 63)) ||| 0) <<< ((3 : Int32).toInt64 &&& 63)) ||| 0) <<< ((1 : Int32).toInt64 &&& 63)) ||| 0) <<< ((4 : Int32).toInt64 &&& 63)) ||| 0) <<< ((2 : Int32).toInt64 &&& 63)) ||| 3) <<< ((1 : Int32).toInt64 &&& 63)) ||| 0) <<< ((3 : Int32).toInt64 &&& 63)) ||| 0) <<< ((1 : Int32).toInt64 &&& 63)) ||| 0)), (3, .int 2), (0, .ref (a 0))]) b dX12_packs_122 rfl (by decide) (by decide) rfl ?_
  refine z_goto (tgt := 67) b dX12_packs_125 (by decide) ?_
  refine z_iload b dX12_packs_67 rfl ?_
  refine z_iconst (v := 2) b dX12_packs_69 (by decide) ?_
  refine z_icmp_ge_f (tgt := 128) b dX12_packs_70 (by decide) (by decide) ?_
  refine z_lload_n b dX12_packs_73 rfl rfl ?_
  refine z_iconst (v := 3) b dX12_packs_74 (by decide) ?_
  refine z_lshl b dX12_packs_75 rfl ?_
  refine z_aload_n b dX12_packs_76 rfl rfl ?_
  refine z_get (q0 := 0) (k9 := 1) (v := .ref (a 2)) b (mw_0 cy a S) rfl in_X12 (by decide) wf_X12_17 rfl dX12_packs_77 ?_
  refine z_iconst (v := 3) b dX12_packs_80 (by decide) ?_
  refine z_iload_n b dX12_packs_81 rfl rfl ?_
  refine z_imul (v := 6) b dX12_packs_82 (by decide) ?_
  refine z_iload_n b dX12_packs_83 rfl rfl ?_
  refine z_iload b dX12_packs_84 rfl ?_
  refine z_calli b (z_runS (As := [.int 2, .int 1]) (st := [.int 6, .ref (a 2), .long ((((((((((((((((((((((((24576 ||| ((ar S 0 1) : Int32).toInt64) <<< ((2 : Int32).toInt64 &&& 63)) ||| 3) <<< ((1 : Int32).toInt64 &&& 63)) ||| 0) <<< ((3 : Int32).toInt64 &&& 63)) ||| 0) <<< ((1 : Int32).toInt64 &&& 63)) ||| 0) <<< ((3 : Int32).toInt64 &&& 63)) ||| 0) <<< ((1 : Int32).toInt64 &&& 63)) ||| 0) <<< ((4 : Int32).toInt64 &&& 63)) ||| 0) <<< ((2 : Int32).toInt64 &&& 63)) ||| 3) <<< ((1 : Int32).toInt64 &&& 63)) ||| 0) <<< ((3 : Int32).toInt64 &&& 63)) ||| 0) <<< ((1 : Int32).toInt64 &&& 63)) ||| 0) <<< ((3 : Int32).toInt64 &&& 63))]) b (c_X12_other S ) cf_X12_other wm_X12_160 ws_X12_other dX12_packs_86 rfl (Nat.le_of_ble_eq_true rfl) ⟨by decide, by decide, by decide, by decide⟩) (fun r255 u256 h254 => ?_)
  obtain ⟨rfl, rfl⟩ := h254
  refine z_iadd (v := 7) b dX12_packs_89 (by decide) ?_
  refine y_iald (q0 := 2) (j := 7) (v := (ar S 1 7)) b (mw_2 cy a S) (by decide) rfl dX12_packs_90 ?_
  refine z_eqi h_a_1_7 ?_
  refine z_i2l (v := 0) b dX12_packs_91 (by decide) ?_
  refine z_lor b dX12_packs_92 rfl ?_
  refine z_lstore_n (lv' := [(1, .long (((((((((((((((((((((((((24576 ||| ((ar S 0 1) : Int32).toInt64) <<< ((2 : Int32).toInt64 &&& 63)) ||| 3) <<< ((1 : Int32).toInt64 &&& 63)) ||| 0) <<< ((3 : Int32).toInt64 &&& 63)) ||| 0) <<< ((1 : Int32).toInt64 &&& 63)) ||| 0) <<< ((3 : Int32).toInt64 &&& 63)) ||| 0) <<< ((1 : Int32).toInt64 &&& 63)) ||| 0) <<< ((4 : Int32).toInt64 &&& 63)) ||| 0) <<< ((2 : Int32).toInt64 &&& 63)) ||| 3) <<< ((1 : Int32).toInt64 &&& 63)) ||| 0) <<< ((3 : Int32).toInt64 &&& 63)) ||| 0) <<< ((1 : Int32).toInt64 &&& 63)) ||| 0) <<< ((3 : Int32).toInt64 &&& 63)) ||| 0)), (4, .int 1), (3, .int 2), (0, .ref (a 0))]) b dX12_packs_93 rfl (by decide) rfl ?_
  refine z_lload_n b dX12_packs_94 rfl rfl ?_
  refine z_iconst (v := 1) b dX12_packs_95 (by decide) ?_
  refine z_lshl b dX12_packs_96 rfl ?_
  refine z_aload_n b dX12_packs_97 rfl rfl ?_
  refine z_get (q0 := 0) (k9 := 4) (v := .ref (a 5)) b (mw_0 cy a S) rfl in_X12 (by decide) wf_X12_27 rfl dX12_packs_98 ?_
  refine z_iconst (v := 3) b dX12_packs_101 (by decide) ?_
  refine z_iload_n b dX12_packs_102 rfl rfl ?_
  refine z_imul (v := 6) b dX12_packs_103 (by decide) ?_
  refine z_iload_n b dX12_packs_104 rfl rfl ?_
  refine z_iload b dX12_packs_105 rfl ?_
  refine z_calli b (z_runS (As := [.int 2, .int 1]) (st := [.int 6, .ref (a 5), .long ((((((((((((((((((((((((((24576 ||| ((ar S 0 1) : Int32).toInt64) <<< ((2 : Int32).toInt64 &&& 63)) ||| 3) <<< ((1 : Int32).toInt64 &&& 63)) ||| 0) <<< ((3 : Int32).toInt64 &&& 63)) ||| 0) <<< ((1 : Int32).toInt64 &&& 63)) ||| 0) <<< ((3 : Int32).toInt64 &&& 63)) ||| 0) <<< ((1 : Int32).toInt64 &&& 63)) ||| 0) <<< ((4 : Int32).toInt64 &&& 63)) ||| 0) <<< ((2 : Int32).toInt64 &&& 63)) ||| 3) <<< ((1 : Int32).toInt64 &&& 63)) ||| 0) <<< ((3 : Int32).toInt64 &&& 63)) ||| 0) <<< ((1 : Int32).toInt64 &&& 63)) ||| 0) <<< ((3 : Int32).toInt64 &&& 63)) ||| 0) <<< ((1 : Int32).toInt64 &&& 63))]) b (c_X12_other S ) cf_X12_other wm_X12_160 ws_X12_other dX12_packs_107 rfl (Nat.le_of_ble_eq_true rfl) ⟨by decide, by decide, by decide, by decide⟩) (fun r258 u259 h257 => ?_)
  obtain ⟨rfl, rfl⟩ := h257
  refine z_iadd (v := 7) b dX12_packs_110 (by decide) ?_
  refine y_zald (q0 := 5) (j := 7) (v := (ar S 4 7)) b (mw_5 cy a S) (by decide) rfl dX12_packs_111 ?_
  refine z_eqi h_a_4_7 ?_
  refine z_if_eq_t (tgt := 119) b dX12_packs_112 (by decide) (by decide) ?_
  refine z_lconst (v := 0) b dX12_packs_119 (by decide) ?_
  refine z_lor b dX12_packs_120 rfl ?_
  refine z_lstore_n (lv' := [(1, .long (((((((((((((((((((((((((((24576 ||| ((ar S 0 1) : Int32).toInt64) <<< ((2 : Int32).toInt64 &&& 63)) ||| 3) <<< ((1 : Int32).toInt64 &&& 63)) ||| 0) <<< ((3 : Int32).toInt64 &&& 63)) ||| 0) <<< ((1 : Int32).toInt64 &&& 63)) ||| 0) <<< ((3 : Int32).toInt64 &&& 63)) ||| 0) <<< ((1 : Int32).toInt64 &&& 63)) ||| 0) <<< ((4 : Int32).toInt64 &&& 63)) ||| 0) <<< ((2 : Int32).toInt64 &&& 63)) ||| 3) <<< ((1 : Int32).toInt64 &&& 63)) ||| 0) <<< ((3 : Int32).toInt64 &&& 63)) ||| 0) <<< ((1 : Int32).toInt64 &&& 63)) ||| 0) <<< ((3 : Int32).toInt64 &&& 63)) ||| 0) <<< ((1 : Int32).toInt64 &&& 63)) ||| 0)), (4, .int 1), (3, .int 2), (0, .ref (a 0))]) b dX12_packs_121 rfl (by decide) rfl ?_
  refine z_iinc (k9 := 1) (v := 2) (lv' := [(4, .int 2), (1, .long (((((((((((((((((((((((((((24576 ||| ((ar S 0 1) : Int32).toInt64) <<< ((2 : Int32).toInt64 &&& 63)) ||| 3) <<< ((1 : Int32).toInt64 &&& 63)) ||| 0) <<< ((3 : Int32).toInt64 &&& 63)) ||| 0) <<< ((1 : Int32).toInt64 &&& 63)) ||| 0) <<< ((3 : Int32).toInt64 &&& 63)) ||| 0) <<< ((1 : Int32).toInt64 &&& 63)) ||| 0) <<< ((4 : Int32).toInt64 &&& 63)) ||| 0) <<< ((2 : Int32).toInt64 &&& 63)) ||| 3) <<< ((1 : Int32).toInt64 &&& 63)) ||| 0) <<< ((3 : Int32).toInt64 &&& 63)) ||| 0) <<< ((1 : Int32).toInt64 &&& 63)) ||| 0) <<< ((3 : Int32).toInt64 &&& 63)) ||| 0) <<< ((1 : Int32).toInt64 &&& 63)) ||| 0)), (3, .int 2), (0, .ref (a 0))]) b dX12_packs_122 rfl (by decide) (by decide) rfl ?_
  refine z_goto (tgt := 67) b dX12_packs_125 (by decide) ?_
  refine z_iload b dX12_packs_67 rfl ?_
  refine z_iconst (v := 2) b dX12_packs_69 (by decide) ?_
  refine z_icmp_ge_t (tgt := 128) b dX12_packs_70 (by decide) (by decide) ?_
  refine z_iinc (k9 := 2) (v := 3) (lv' := [(3, .int 3), (4, .int 2), (1, .long (((((((((((((((((((((((((((24576 ||| ((ar S 0 1) : Int32).toInt64) <<< ((2 : Int32).toInt64 &&& 63)) ||| 3) <<< ((1 : Int32).toInt64 &&& 63)) ||| 0) <<< ((3 : Int32).toInt64 &&& 63)) ||| 0) <<< ((1 : Int32).toInt64 &&& 63)) ||| 0) <<< ((3 : Int32).toInt64 &&& 63)) ||| 0) <<< ((1 : Int32).toInt64 &&& 63)) ||| 0) <<< ((4 : Int32).toInt64 &&& 63)) ||| 0) <<< ((2 : Int32).toInt64 &&& 63)) ||| 3) <<< ((1 : Int32).toInt64 &&& 63)) ||| 0) <<< ((3 : Int32).toInt64 &&& 63)) ||| 0) <<< ((1 : Int32).toInt64 &&& 63)) ||| 0) <<< ((3 : Int32).toInt64 &&& 63)) ||| 0) <<< ((1 : Int32).toInt64 &&& 63)) ||| 0)), (0, .ref (a 0))]) b dX12_packs_128 rfl (by decide) (by decide) rfl ?_
  refine z_goto (tgt := 8) b dX12_packs_131 (by decide) ?_
  refine z_iload_n b dX12_packs_8 rfl rfl ?_
  refine z_iconst (v := 3) b dX12_packs_9 (by decide) ?_
  refine z_icmp_ge_t (tgt := 134) b dX12_packs_10 (by decide) (by decide) ?_
  refine z_lload_n b dX12_packs_134 rfl rfl ?_
  exact z_lret (u := S) b rfl dX12_packs_135 ⟨rfl, rfl⟩ rfl (by decide) (by decide)

set_option maxHeartbeats 4000000 in
set_option maxRecDepth 100000 in
theorem c_X12_told_2 {l : Launch} {D : va_G} {cy : Nat → ClassId} {T0 tB tE : Nat} {a : Nat → Nat} (S : GS)  (h_i_0 : fi S 0 = 0) (h_a_0_0 : ar S 0 0 = 0) (h_a_2_0 : ar S 2 0 = 3) (h_a_3_1 : ar S 3 1 = 0) (h_a_1_1 : ar S 1 1 = 0) (h_a_4_1 : ar S 4 1 = 0) (h_a_1_2 : ar S 1 2 = 0) (h_a_4_2 : ar S 4 2 = 0) (h_a_2_1 : ar S 2 1 = 3) (h_a_3_5 : ar S 3 5 = 0) (h_a_1_5 : ar S 1 5 = 0) (h_a_4_5 : ar S 4 5 = 0) (h_a_1_3 : ar S 1 3 = 0) (h_a_4_3 : ar S 4 3 = 0) (h_a_0_2 : ar S 0 2 = 0) (h_a_2_2 : ar S 2 2 = 3) (h_a_3_6 : ar S 3 6 = 0) (h_a_1_6 : ar S 1 6 = 0) (h_a_4_6 : ar S 4 6 = 0) (h_a_1_7 : ar S 1 7 = 0) (h_a_4_7 : ar S 4 7 = 0) : Ct l D cy T0 tB tE yX12_told cX12_told 1 (some .boolean) 2 45 0 0 (mw cy a S) [.ref (a 0)] (QI D (U := GS) (fun r u => 1 = r ∧ sl S 0 (((((((((((((((((((((((((((24576 ||| ((ar S 0 1) : Int32).toInt64) <<< ((2 : Int32).toInt64 &&& 63)) ||| 3) <<< ((1 : Int32).toInt64 &&& 63)) ||| 0) <<< ((3 : Int32).toInt64 &&& 63)) ||| 0) <<< ((1 : Int32).toInt64 &&& 63)) ||| 0) <<< ((3 : Int32).toInt64 &&& 63)) ||| 0) <<< ((1 : Int32).toInt64 &&& 63)) ||| 0) <<< ((4 : Int32).toInt64 &&& 63)) ||| 0) <<< ((2 : Int32).toInt64 &&& 63)) ||| 3) <<< ((1 : Int32).toInt64 &&& 63)) ||| 0) <<< ((3 : Int32).toInt64 &&& 63)) ||| 0) <<< ((1 : Int32).toInt64 &&& 63)) ||| 0) <<< ((3 : Int32).toInt64 &&& 63)) ||| 0) <<< ((1 : Int32).toInt64 &&& 63)) ||| 0) = u) (mw cy a)) := by
  refine Ct.ofZ RX12 "told" [(0, .ref (a 0))] rfl rfl rfl rfl (Nat.le_of_ble_eq_true rfl) ?_
  intro p e R s m args below meth c A b
  refine z_aload_n b dX12_told_0 rfl rfl ?_
  refine z_aload_n b dX12_told_1 rfl rfl ?_
  refine z_calll b (z_runV (q0 := 0) (As := []) (st := [.ref (a 0)]) b (c_X12_packs_2 S h_i_0 h_a_0_0 h_a_2_0 h_a_3_1 h_a_1_1 h_a_4_1 h_a_1_2 h_a_4_2 h_a_2_1 h_a_3_5 h_a_1_5 h_a_4_5 h_a_1_3 h_a_4_3 h_a_0_2 h_a_2_2 h_a_3_6 h_a_1_6 h_a_4_6 h_a_1_7 h_a_4_7) cf_X12_packs (mw_0 cy a S) rfl wm_X12_149 wi_X12_packs ws_X12_packs dX12_told_2 rfl (Nat.le_of_ble_eq_true rfl) ⟨by decide, by decide, by decide, by decide⟩) (fun r261 u262 h260 => ?_)
  obtain ⟨rfl, rfl⟩ := h260
  refine z_put (q0 := 0) (k9 := 6) tyX12 b (mw_0 cy a S) rfl in_X12 tyX12_ok nmX12 (by decide) wf_X12_153 rfl rfl rfl rfl (Nat.le_of_ble_eq_true rfl) dX12_told_5 (mwp_0_6 cy a S (((((((((((((((((((((((((((24576 ||| ((ar S 0 1) : Int32).toInt64) <<< ((2 : Int32).toInt64 &&& 63)) ||| 3) <<< ((1 : Int32).toInt64 &&& 63)) ||| 0) <<< ((3 : Int32).toInt64 &&& 63)) ||| 0) <<< ((1 : Int32).toInt64 &&& 63)) ||| 0) <<< ((3 : Int32).toInt64 &&& 63)) ||| 0) <<< ((1 : Int32).toInt64 &&& 63)) ||| 0) <<< ((4 : Int32).toInt64 &&& 63)) ||| 0) <<< ((2 : Int32).toInt64 &&& 63)) ||| 3) <<< ((1 : Int32).toInt64 &&& 63)) ||| 0) <<< ((3 : Int32).toInt64 &&& 63)) ||| 0) <<< ((1 : Int32).toInt64 &&& 63)) ||| 0) <<< ((3 : Int32).toInt64 &&& 63)) ||| 0) <<< ((1 : Int32).toInt64 &&& 63)) ||| 0)) ?_
  refine z_iconst (v := 1) b dX12_told_8 (by decide) ?_
  exact z_zret (u := (sl S 0 (((((((((((((((((((((((((((24576 ||| ((ar S 0 1) : Int32).toInt64) <<< ((2 : Int32).toInt64 &&& 63)) ||| 3) <<< ((1 : Int32).toInt64 &&& 63)) ||| 0) <<< ((3 : Int32).toInt64 &&& 63)) ||| 0) <<< ((1 : Int32).toInt64 &&& 63)) ||| 0) <<< ((3 : Int32).toInt64 &&& 63)) ||| 0) <<< ((1 : Int32).toInt64 &&& 63)) ||| 0) <<< ((4 : Int32).toInt64 &&& 63)) ||| 0) <<< ((2 : Int32).toInt64 &&& 63)) ||| 3) <<< ((1 : Int32).toInt64 &&& 63)) ||| 0) <<< ((3 : Int32).toInt64 &&& 63)) ||| 0) <<< ((1 : Int32).toInt64 &&& 63)) ||| 0) <<< ((3 : Int32).toInt64 &&& 63)) ||| 0) <<< ((1 : Int32).toInt64 &&& 63)) ||| 0))) b rfl (by decide) dX12_told_9 ⟨rfl, rfl⟩ rfl (by decide) (by decide)

set_option maxHeartbeats 4000000 in
set_option maxRecDepth 100000 in
theorem c_X12_coin_7 {l : Launch} {D : va_G} {cy : Nat → ClassId} {T0 tB tE : Nat} {a : Nat → Nat} (S : GS) (p0 : Int32) (h_l_0 : fl S 0 = 1649317774848) (h_a_4_7 : ar S 4 7 = 0) (h_a_1_7 : ar S 1 7 = 0) (h_a_4_6 : ar S 4 6 = 0) (h_a_1_6 : ar S 1 6 = 0) (h_a_3_6 : ar S 3 6 = 0) (h_a_3_2 : ar S 3 2 = 0) (h_a_2_2 : ar S 2 2 = 3) (h_a_0_2 : ar S 0 2 = 0) (h_a_4_3 : ar S 4 3 = 0) (h_a_1_3 : ar S 1 3 = 0) (h_a_4_5 : ar S 4 5 = 0) (h_a_1_5 : ar S 1 5 = 0) (h_a_3_5 : ar S 3 5 = 0) (h_a_3_7 : ar S 3 7 = 0) (h_a_2_1 : ar S 2 1 = 3) (h_a_0_1 : ar S 0 1 = 0) (h_a_4_2 : ar S 4 2 = 0) (h_a_1_2 : ar S 1 2 = 0) (h_a_4_1 : ar S 4 1 = 0) (h_a_1_1 : ar S 1 1 = 0) (h_a_3_1 : ar S 3 1 = 0) (h_a_3_3 : ar S 3 3 = 0) (h_a_2_0 : ar S 2 0 = 3) (h_a_0_0 : ar S 0 0 = 0) (h_i_0 : fi S 0 = 0) (hr_p0 : 0 ≤ p0.toInt ∧ p0.toInt ≤ 15) : Ct l D cy T0 tB tE yX12_coin cX12_coin 3 (some .boolean) 3 65 0 0 (mw cy a S) [.ref (a 0), .int 1, .int p0] (QI D (U := GS) (fun r u => 1 = r ∧ sl (su S 0 1 p0) 0 (((((((((((((((((((((((((((24576 ||| ((ar (su S 0 1 p0) 0 1) : Int32).toInt64) <<< ((2 : Int32).toInt64 &&& 63)) ||| 3) <<< ((1 : Int32).toInt64 &&& 63)) ||| 0) <<< ((3 : Int32).toInt64 &&& 63)) ||| 0) <<< ((1 : Int32).toInt64 &&& 63)) ||| 0) <<< ((3 : Int32).toInt64 &&& 63)) ||| 0) <<< ((1 : Int32).toInt64 &&& 63)) ||| 0) <<< ((4 : Int32).toInt64 &&& 63)) ||| 0) <<< ((2 : Int32).toInt64 &&& 63)) ||| 3) <<< ((1 : Int32).toInt64 &&& 63)) ||| 0) <<< ((3 : Int32).toInt64 &&& 63)) ||| 0) <<< ((1 : Int32).toInt64 &&& 63)) ||| 0) <<< ((3 : Int32).toInt64 &&& 63)) ||| 0) <<< ((1 : Int32).toInt64 &&& 63)) ||| 0) = u) (mw cy a)) := by
  refine Ct.ofZ RX12 "coin" [(0, .ref (a 0)), (1, .int 1), (2, .int p0)] rfl rfl rfl rfl (Nat.le_of_ble_eq_true rfl) ?_
  intro p e R s m args below meth c A b
  refine z_iload_n b dX12_coin_0 rfl rfl ?_
  refine z_calli b (z_runS (As := [.int 1]) (st := []) b (c_X12_isOne_4 S ) cf_X12_isOne wm_X12_170 ws_X12_isOne dX12_coin_1 rfl (Nat.le_of_ble_eq_true rfl) ⟨by decide, by decide, by decide, by decide⟩) (fun r207 u208 h206 => ?_)
  obtain ⟨rfl, rfl⟩ := h206
  refine z_if_eq_f (tgt := 17) b dX12_coin_4 (by decide) (by decide) ?_
  refine z_iload_n b dX12_coin_7 rfl rfl ?_
  refine z_iconst (v := 0) b dX12_coin_8 (by decide) ?_
  refine z_bipush (v := 15) b dX12_coin_9 (by decide) ?_
  refine z_calli b (z_runS (As := [.int p0, .int 0, .int 15]) (st := []) b (c_X12_isIn_5 S p0 ⟨by omega, by omega⟩) cf_X12_isIn wm_X12_1 ws_X12_isIn dX12_coin_11 rfl (Nat.le_of_ble_eq_true rfl) ⟨by decide, by decide, by decide, by decide⟩) (fun r210 u211 h209 => ?_)
  obtain ⟨rfl, rfl⟩ := h209
  refine z_if_ne_t (tgt := 19) b dX12_coin_14 (by decide) (by decide) ?_
  refine z_aload_n b dX12_coin_19 rfl rfl ?_
  refine z_aload_n b dX12_coin_20 rfl rfl ?_
  refine z_get (q0 := 0) (k9 := 6) (v := .long (fl S 0)) b (mw_0 cy a S) rfl in_X12 (by decide) wf_X12_153 rfl dX12_coin_21 ?_
  refine z_eql h_l_0 ?_
  refine z_callv b (z_runV (q0 := 0) (As := [.long 1649317774848]) (st := []) b (c_X12_takes S h_a_4_7 h_a_1_7 h_a_4_6 h_a_1_6 h_a_3_6 h_a_3_2 h_a_2_2 h_a_0_2 h_a_4_3 h_a_1_3 h_a_4_5 h_a_1_5 h_a_3_5 h_a_3_7 h_a_2_1 h_a_0_1 h_a_4_2 h_a_1_2 h_a_4_1 h_a_1_1 h_a_3_1 h_a_3_3 h_a_2_0 h_a_0_0 h_i_0) cf_X12_takes (mw_0 cy a S) rfl wm_X12_174 wi_X12_takes ws_X12_takes dX12_coin_24 rfl (Nat.le_of_ble_eq_true rfl) ⟨by decide, by decide, by decide, by decide⟩) (fun u214 h212 => ?_)
  obtain rfl := h212
  refine z_aload_n b dX12_coin_27 rfl rfl ?_
  refine z_get (q0 := 0) (k9 := 0) (v := .ref (a 1)) b (mw_0 cy a S) rfl in_X12 (by decide) wf_X12_13 rfl dX12_coin_28 ?_
  refine z_iload_n b dX12_coin_31 rfl rfl ?_
  refine z_iload_n b dX12_coin_32 rfl rfl ?_
  refine y_iast (q0 := 1) (j := 1) b (mw_1 cy a S) (by decide) dX12_coin_33 (mwa_1 cy a S 1 p0) ?_
  refine z_aload_n b dX12_coin_34 rfl rfl ?_
  refine z_calli b (z_runV (q0 := 0) (As := []) (st := []) b (c_X12_told_2 (su S 0 1 p0) h_i_0 h_a_0_0 h_a_2_0 h_a_3_1 h_a_1_1 h_a_4_1 h_a_1_2 h_a_4_2 h_a_2_1 h_a_3_5 h_a_1_5 h_a_4_5 h_a_1_3 h_a_4_3 h_a_0_2 h_a_2_2 h_a_3_6 h_a_1_6 h_a_4_6 h_a_1_7 h_a_4_7) cf_X12_told (mw_0 cy a (su S 0 1 p0)) rfl wm_X12_178 wi_X12_told ws_X12_told dX12_coin_35 rfl (Nat.le_of_ble_eq_true rfl) ⟨by decide, by decide, by decide, by decide⟩) (fun r264 u265 h263 => ?_)
  obtain ⟨rfl, rfl⟩ := h263
  exact z_zret (u := (sl (su S 0 1 p0) 0 (((((((((((((((((((((((((((24576 ||| ((ar (su S 0 1 p0) 0 1) : Int32).toInt64) <<< ((2 : Int32).toInt64 &&& 63)) ||| 3) <<< ((1 : Int32).toInt64 &&& 63)) ||| 0) <<< ((3 : Int32).toInt64 &&& 63)) ||| 0) <<< ((1 : Int32).toInt64 &&& 63)) ||| 0) <<< ((3 : Int32).toInt64 &&& 63)) ||| 0) <<< ((1 : Int32).toInt64 &&& 63)) ||| 0) <<< ((4 : Int32).toInt64 &&& 63)) ||| 0) <<< ((2 : Int32).toInt64 &&& 63)) ||| 3) <<< ((1 : Int32).toInt64 &&& 63)) ||| 0) <<< ((3 : Int32).toInt64 &&& 63)) ||| 0) <<< ((1 : Int32).toInt64 &&& 63)) ||| 0) <<< ((3 : Int32).toInt64 &&& 63)) ||| 0) <<< ((1 : Int32).toInt64 &&& 63)) ||| 0))) b rfl (by decide) dX12_coin_38 ⟨rfl, rfl⟩ rfl (by decide) (by decide)

set_option maxHeartbeats 4000000 in
set_option maxRecDepth 100000 in
theorem c_X11_coin_8 {l : Launch} {D : va_G} {cy : Nat → ClassId} {T0 tB tE : Nat} {a : Nat → Nat} {rw : Nat → Option Nat} (S : GS) (p0 : Int32)  (hr_p0 : 16 ≤ p0.toInt ∧ p0.toInt ≤ 2147483647) : Ct l D cy T0 tB tE yX11_coin cX11_coin 3 (some .boolean) 1 21 0 0 (cw cy tE a rw S) [.ref (a 0), .int 1, .int p0] (QI D (U := GS) (fun r u => 0 = r ∧ S = u) (cw cy tE a rw)) := by
  refine Ct.ofZ RX11 "coin" [(0, .ref (a 0)), (1, .int 1), (2, .int p0)] rfl rfl rfl rfl (Nat.le_of_ble_eq_true rfl) ?_
  intro p e R s m args below meth c A b
  refine z_iload_n b dX11_coin_0 rfl rfl ?_
  refine z_calli b (z_runS (As := [.int 1]) (st := []) b (c_X11_isPerson_4 S ) cf_X11_isPerson wm_X11_69 ws_X11_isPerson dX11_coin_1 rfl (Nat.le_of_ble_eq_true rfl) ⟨by decide, by decide, by decide, by decide⟩) (fun r267 u268 h266 => ?_)
  obtain ⟨rfl, rfl⟩ := h266
  refine z_if_eq_f (tgt := 16) b dX11_coin_4 (by decide) (by decide) ?_
  refine z_iload_n b dX11_coin_7 rfl rfl ?_
  refine z_bipush (v := 15) b dX11_coin_8 (by decide) ?_
  refine z_calli b (z_runS (As := [.int p0, .int 15]) (st := []) b (c_X11_isWithin_3 S p0 ⟨by omega, by omega⟩) cf_X11_isWithin wm_X11_73 ws_X11_isWithin dX11_coin_10 rfl (Nat.le_of_ble_eq_true rfl) ⟨by decide, by decide, by decide, by decide⟩) (fun r270 u271 h269 => ?_)
  obtain ⟨rfl, rfl⟩ := h269
  refine z_if_ne_f (tgt := 18) b dX11_coin_13 (by decide) (by decide) ?_
  refine z_iconst (v := 0) b dX11_coin_16 (by decide) ?_
  exact z_zret (u := S) b rfl (by decide) dX11_coin_17 ⟨rfl, rfl⟩ rfl (by decide) (by decide)

set_option maxHeartbeats 4000000 in
set_option maxRecDepth 100000 in
theorem c_X12_coin_8 {l : Launch} {D : va_G} {cy : Nat → ClassId} {T0 tB tE : Nat} {a : Nat → Nat} (S : GS) (p0 : Int32)  (hr_p0 : 16 ≤ p0.toInt ∧ p0.toInt ≤ 2147483647) : Ct l D cy T0 tB tE yX12_coin cX12_coin 3 (some .boolean) 2 42 0 0 (mw cy a S) [.ref (a 0), .int 1, .int p0] (QI D (U := GS) (fun r u => 0 = r ∧ S = u) (mw cy a)) := by
  refine Ct.ofZ RX12 "coin" [(0, .ref (a 0)), (1, .int 1), (2, .int p0)] rfl rfl rfl rfl (Nat.le_of_ble_eq_true rfl) ?_
  intro p e R s m args below meth c A b
  refine z_iload_n b dX12_coin_0 rfl rfl ?_
  refine z_calli b (z_runS (As := [.int 1]) (st := []) b (c_X12_isOne_4 S ) cf_X12_isOne wm_X12_170 ws_X12_isOne dX12_coin_1 rfl (Nat.le_of_ble_eq_true rfl) ⟨by decide, by decide, by decide, by decide⟩) (fun r273 u274 h272 => ?_)
  obtain ⟨rfl, rfl⟩ := h272
  refine z_if_eq_f (tgt := 17) b dX12_coin_4 (by decide) (by decide) ?_
  refine z_iload_n b dX12_coin_7 rfl rfl ?_
  refine z_iconst (v := 0) b dX12_coin_8 (by decide) ?_
  refine z_bipush (v := 15) b dX12_coin_9 (by decide) ?_
  refine z_calli b (z_runS (As := [.int p0, .int 0, .int 15]) (st := []) b (c_X12_isIn_6 S p0 ⟨by omega, by omega⟩) cf_X12_isIn wm_X12_1 ws_X12_isIn dX12_coin_11 rfl (Nat.le_of_ble_eq_true rfl) ⟨by decide, by decide, by decide, by decide⟩) (fun r276 u277 h275 => ?_)
  obtain ⟨rfl, rfl⟩ := h275
  refine z_if_ne_f (tgt := 19) b dX12_coin_14 (by decide) (by decide) ?_
  refine z_iconst (v := 0) b dX12_coin_17 (by decide) ?_
  exact z_zret (u := S) b rfl (by decide) dX12_coin_18 ⟨rfl, rfl⟩ rfl (by decide) (by decide)

set_option maxHeartbeats 4000000 in
set_option maxRecDepth 100000 in
theorem c_X11_isPerson_5 {l : Launch} {D : va_G} {cy : Nat → ClassId} {T0 tB tE : Nat} {a : Nat → Nat} {rw : Nat → Option Nat} (S : GS)   : Ct l D cy T0 tB tE yX11_isPerson cX11_isPerson 1 (some .boolean) 0 0 0 0 (cw cy tE a rw S) [.int 2] (QI D (U := GS) (fun r u => 1 = r ∧ S = u) (cw cy tE a rw)) := by
  refine Ct.ofZ RX11 "isPerson" [(0, .int 2)] rfl rfl rfl rfl (Nat.le_of_ble_eq_true rfl) ?_
  intro p e R s m args below meth c A b
  refine z_iload_n b dX11_isPerson_0 rfl rfl ?_
  refine z_if_lt_f (tgt := 13) b dX11_isPerson_1 (by decide) (by decide) ?_
  refine z_iload_n b dX11_isPerson_4 rfl rfl ?_
  refine z_iconst (v := 3) b dX11_isPerson_5 (by decide) ?_
  refine z_icmp_ge_f (tgt := 13) b dX11_isPerson_6 (by decide) (by decide) ?_
  refine z_iconst (v := 1) b dX11_isPerson_9 (by decide) ?_
  refine z_goto (tgt := 14) b dX11_isPerson_10 (by decide) ?_
  exact z_zret (u := S) b rfl (by decide) dX11_isPerson_14 ⟨rfl, rfl⟩ rfl (by decide) (by decide)

set_option maxHeartbeats 4000000 in
set_option maxRecDepth 100000 in
theorem c_X11_coin_9 {l : Launch} {D : va_G} {cy : Nat → ClassId} {T0 tB tE : Nat} {a : Nat → Nat} {rw : Nat → Option Nat} (S : GS) (p0 : Int32)  (hr_p0 : (-2147483648) ≤ p0.toInt ∧ p0.toInt ≤ (-1)) : Ct l D cy T0 tB tE yX11_coin cX11_coin 3 (some .boolean) 1 21 0 0 (cw cy tE a rw S) [.ref (a 0), .int 2, .int p0] (QI D (U := GS) (fun r u => 0 = r ∧ S = u) (cw cy tE a rw)) := by
  refine Ct.ofZ RX11 "coin" [(0, .ref (a 0)), (1, .int 2), (2, .int p0)] rfl rfl rfl rfl (Nat.le_of_ble_eq_true rfl) ?_
  intro p e R s m args below meth c A b
  refine z_iload_n b dX11_coin_0 rfl rfl ?_
  refine z_calli b (z_runS (As := [.int 2]) (st := []) b (c_X11_isPerson_5 S ) cf_X11_isPerson wm_X11_69 ws_X11_isPerson dX11_coin_1 rfl (Nat.le_of_ble_eq_true rfl) ⟨by decide, by decide, by decide, by decide⟩) (fun r279 u280 h278 => ?_)
  obtain ⟨rfl, rfl⟩ := h278
  refine z_if_eq_f (tgt := 16) b dX11_coin_4 (by decide) (by decide) ?_
  refine z_iload_n b dX11_coin_7 rfl rfl ?_
  refine z_bipush (v := 15) b dX11_coin_8 (by decide) ?_
  refine z_calli b (z_runS (As := [.int p0, .int 15]) (st := []) b (c_X11_isWithin S p0 ⟨by omega, by omega⟩) cf_X11_isWithin wm_X11_73 ws_X11_isWithin dX11_coin_10 rfl (Nat.le_of_ble_eq_true rfl) ⟨by decide, by decide, by decide, by decide⟩) (fun r282 u283 h281 => ?_)
  obtain ⟨rfl, rfl⟩ := h281
  refine z_if_ne_f (tgt := 18) b dX11_coin_13 (by decide) (by decide) ?_
  refine z_iconst (v := 0) b dX11_coin_16 (by decide) ?_
  exact z_zret (u := S) b rfl (by decide) dX11_coin_17 ⟨rfl, rfl⟩ rfl (by decide) (by decide)

set_option maxHeartbeats 4000000 in
set_option maxRecDepth 100000 in
theorem c_X12_isIn_8 {l : Launch} {D : va_G} {cy : Nat → ClassId} {T0 tB tE : Nat} {a : Nat → Nat} (S : GS)   : Ct l D cy T0 tB tE yX12_isIn cX12_isIn 3 (some .boolean) 0 0 0 0 (mw cy a S) [.int 2, .int 0, .int 2] (QI D (U := GS) (fun r u => 1 = r ∧ S = u) (mw cy a)) := by
  refine Ct.ofZ RX12 "isIn" [(0, .int 2), (1, .int 0), (2, .int 2)] rfl rfl rfl rfl (Nat.le_of_ble_eq_true rfl) ?_
  intro p e R s m args below meth c A b
  refine z_iload_n b dX12_isIn_0 rfl rfl ?_
  refine z_iload_n b dX12_isIn_1 rfl rfl ?_
  refine z_icmp_lt_f (tgt := 14) b dX12_isIn_2 (by decide) (by decide) ?_
  refine z_iload_n b dX12_isIn_5 rfl rfl ?_
  refine z_iload_n b dX12_isIn_6 rfl rfl ?_
  refine z_icmp_gt_f (tgt := 14) b dX12_isIn_7 (by decide) (by decide) ?_
  refine z_iconst (v := 1) b dX12_isIn_10 (by decide) ?_
  refine z_goto (tgt := 15) b dX12_isIn_11 (by decide) ?_
  exact z_zret (u := S) b rfl (by decide) dX12_isIn_15 ⟨rfl, rfl⟩ rfl (by decide) (by decide)

set_option maxHeartbeats 4000000 in
set_option maxRecDepth 100000 in
theorem c_X12_isOne_5 {l : Launch} {D : va_G} {cy : Nat → ClassId} {T0 tB tE : Nat} {a : Nat → Nat} (S : GS)   : Ct l D cy T0 tB tE yX12_isOne cX12_isOne 1 (some .boolean) 1 22 0 0 (mw cy a S) [.int 2] (QI D (U := GS) (fun r u => 1 = r ∧ S = u) (mw cy a)) := by
  refine Ct.ofZ RX12 "isOne" [(0, .int 2)] rfl rfl rfl rfl (Nat.le_of_ble_eq_true rfl) ?_
  intro p e R s m args below meth c A b
  refine z_iload_n b dX12_isOne_0 rfl rfl ?_
  refine z_iconst (v := 0) b dX12_isOne_1 (by decide) ?_
  refine z_iconst (v := 2) b dX12_isOne_2 (by decide) ?_
  refine z_calli b (z_runS (As := [.int 2, .int 0, .int 2]) (st := []) b (c_X12_isIn_8 S ) cf_X12_isIn wm_X12_1 ws_X12_isIn dX12_isOne_3 rfl (Nat.le_of_ble_eq_true rfl) ⟨by decide, by decide, by decide, by decide⟩) (fun r285 u286 h284 => ?_)
  obtain ⟨rfl, rfl⟩ := h284
  exact z_zret (u := S) b rfl (by decide) dX12_isOne_6 ⟨rfl, rfl⟩ rfl (by decide) (by decide)

set_option maxHeartbeats 4000000 in
set_option maxRecDepth 100000 in
theorem c_X12_coin_9 {l : Launch} {D : va_G} {cy : Nat → ClassId} {T0 tB tE : Nat} {a : Nat → Nat} (S : GS) (p0 : Int32)  (hr_p0 : (-2147483648) ≤ p0.toInt ∧ p0.toInt ≤ (-1)) : Ct l D cy T0 tB tE yX12_coin cX12_coin 3 (some .boolean) 2 42 0 0 (mw cy a S) [.ref (a 0), .int 2, .int p0] (QI D (U := GS) (fun r u => 0 = r ∧ S = u) (mw cy a)) := by
  refine Ct.ofZ RX12 "coin" [(0, .ref (a 0)), (1, .int 2), (2, .int p0)] rfl rfl rfl rfl (Nat.le_of_ble_eq_true rfl) ?_
  intro p e R s m args below meth c A b
  refine z_iload_n b dX12_coin_0 rfl rfl ?_
  refine z_calli b (z_runS (As := [.int 2]) (st := []) b (c_X12_isOne_5 S ) cf_X12_isOne wm_X12_170 ws_X12_isOne dX12_coin_1 rfl (Nat.le_of_ble_eq_true rfl) ⟨by decide, by decide, by decide, by decide⟩) (fun r288 u289 h287 => ?_)
  obtain ⟨rfl, rfl⟩ := h287
  refine z_if_eq_f (tgt := 17) b dX12_coin_4 (by decide) (by decide) ?_
  refine z_iload_n b dX12_coin_7 rfl rfl ?_
  refine z_iconst (v := 0) b dX12_coin_8 (by decide) ?_
  refine z_bipush (v := 15) b dX12_coin_9 (by decide) ?_
  refine z_calli b (z_runS (As := [.int p0, .int 0, .int 15]) (st := []) b (c_X12_isIn_4 S p0 ⟨by omega, by omega⟩) cf_X12_isIn wm_X12_1 ws_X12_isIn dX12_coin_11 rfl (Nat.le_of_ble_eq_true rfl) ⟨by decide, by decide, by decide, by decide⟩) (fun r291 u292 h290 => ?_)
  obtain ⟨rfl, rfl⟩ := h290
  refine z_if_ne_f (tgt := 19) b dX12_coin_14 (by decide) (by decide) ?_
  refine z_iconst (v := 0) b dX12_coin_17 (by decide) ?_
  exact z_zret (u := S) b rfl (by decide) dX12_coin_18 ⟨rfl, rfl⟩ rfl (by decide) (by decide)

set_option maxHeartbeats 4000000 in
set_option maxRecDepth 100000 in
theorem c_X9_set_3 {l : Launch} {D : va_G} {cy : Nat → ClassId} {T0 tB tE : Nat} {a : Nat → Nat} {rw : Nat → Option Nat} (S : GS) (p0 : Int32)  (hr_p0 : 0 ≤ p0.toInt ∧ p0.toInt ≤ 15) : Ct l D cy T0 tB tE yX9_set cX9_set 3 none 0 0 0 0 (cw cy tE a rw S) [.ref (a 14), .int 2, .int p0] (QV D (U := GS) (fun u => su S 4 2 p0 = u) (cw cy tE a rw)) := by
  refine Ct.ofZ RX9 "set" [(0, .ref (a 14)), (1, .int 2), (2, .int p0)] rfl rfl rfl rfl (Nat.le_of_ble_eq_true rfl) ?_
  intro p e R s m args below meth c A b
  refine z_iload_n b dX9_set_0 rfl rfl ?_
  refine z_if_lt_f (tgt := 20) b dX9_set_1 (by decide) (by decide) ?_
  refine z_iload_n b dX9_set_4 rfl rfl ?_
  refine z_aload_n b dX9_set_5 rfl rfl ?_
  refine z_get (q0 := 14) (k9 := 0) (v := .ref (a 15)) b (cw_14 cy tE a rw S) rfl in_X9 (by decide) wf_X9_11 rfl dX9_set_6 ?_
  refine z_alen (q0 := 15) (t0 := 0) (v := 51) b (cw_15 cy tE a rw S) rfl rfl dX9_set_9 ?_
  refine z_icmp_ge_f (tgt := 20) b dX9_set_10 (by decide) (by decide) ?_
  refine z_aload_n b dX9_set_13 rfl rfl ?_
  refine z_get (q0 := 14) (k9 := 0) (v := .ref (a 15)) b (cw_14 cy tE a rw S) rfl in_X9 (by decide) wf_X9_11 rfl dX9_set_14 ?_
  refine z_iload_n b dX9_set_17 rfl rfl ?_
  refine z_iload_n b dX9_set_18 rfl rfl ?_
  refine y_iast (q0 := 15) (j := 2) b (cw_15 cy tE a rw S) (by decide) dX9_set_19 (cwa_15 cy tE a rw S 2 p0) ?_
  exact z_vret (u := (su S 4 2 p0)) b rfl dX9_set_20 rfl rfl (by decide) (by decide)

set_option maxHeartbeats 4000000 in
set_option maxRecDepth 100000 in
theorem c_X11_coin_10 {l : Launch} {D : va_G} {cy : Nat → ClassId} {T0 tB tE : Nat} {a : Nat → Nat} {rw : Nat → Option Nat} (S : GS) (p0 : Int32) (h_i_24 : fi S 24 = 0) (hr_p0 : 0 ≤ p0.toInt ∧ p0.toInt ≤ 15) : Ct l D cy T0 tB tE yX11_coin cX11_coin 3 (some .boolean) 1 22 0 0 (cw cy tE a rw S) [.ref (a 0), .int 2, .int p0] (QI D (U := GS) (fun r u => 1 = r ∧ (su S 4 2 p0) = u) (cw cy tE a rw)) := by
  refine Ct.ofZ RX11 "coin" [(0, .ref (a 0)), (1, .int 2), (2, .int p0)] rfl rfl rfl rfl (Nat.le_of_ble_eq_true rfl) ?_
  intro p e R s m args below meth c A b
  refine z_iload_n b dX11_coin_0 rfl rfl ?_
  refine z_calli b (z_runS (As := [.int 2]) (st := []) b (c_X11_isPerson_5 S ) cf_X11_isPerson wm_X11_69 ws_X11_isPerson dX11_coin_1 rfl (Nat.le_of_ble_eq_true rfl) ⟨by decide, by decide, by decide, by decide⟩) (fun r294 u295 h293 => ?_)
  obtain ⟨rfl, rfl⟩ := h293
  refine z_if_eq_f (tgt := 16) b dX11_coin_4 (by decide) (by decide) ?_
  refine z_iload_n b dX11_coin_7 rfl rfl ?_
  refine z_bipush (v := 15) b dX11_coin_8 (by decide) ?_
  refine z_calli b (z_runS (As := [.int p0, .int 15]) (st := []) b (c_X11_isWithin_2 S p0 ⟨by omega, by omega⟩) cf_X11_isWithin wm_X11_73 ws_X11_isWithin dX11_coin_10 rfl (Nat.le_of_ble_eq_true rfl) ⟨by decide, by decide, by decide, by decide⟩) (fun r297 u298 h296 => ?_)
  obtain ⟨rfl, rfl⟩ := h296
  refine z_if_ne_t (tgt := 18) b dX11_coin_13 (by decide) (by decide) ?_
  refine z_aload_n b dX11_coin_18 rfl rfl ?_
  refine z_get (q0 := 0) (k9 := 4) (v := .ref (a 14)) b (cw_0 cy tE a rw S) rfl in_X11 (by decide) wf_X11_34 rfl dX11_coin_19 ?_
  refine z_iload_n b dX11_coin_22 rfl rfl ?_
  refine z_iload_n b dX11_coin_23 rfl rfl ?_
  refine z_callv b (z_runV (q0 := 14) (As := [.int 2, .int p0]) (st := []) b (c_X9_set_3 S p0 ⟨by omega, by omega⟩) cf_X9_set (cw_14 cy tE a rw S) rfl wm_X11_77 wi_X9_set ws_X9_set dX11_coin_24 rfl (Nat.le_of_ble_eq_true rfl) ⟨by decide, by decide, by decide, by decide⟩) (fun u301 h299 => ?_)
  obtain rfl := h299
  refine z_aload_n b dX11_coin_27 rfl rfl ?_
  refine z_get (q0 := 0) (k9 := 6) (v := .ref (a 25)) b (cw_0 cy tE a rw (su S 4 2 p0)) rfl in_X11 (by decide) wf_X11_52 rfl dX11_coin_28 ?_
  refine z_callv b (z_runV (q0 := 25) (As := []) (st := []) b (c_X8_forget (su S 4 2 p0) h_i_24) cf_X8_forget (cw_25 cy tE a rw (su S 4 2 p0)) rfl wm_X11_81 wi_X8_forget ws_X8_forget dX11_coin_31 rfl (Nat.le_of_ble_eq_true rfl) ⟨by decide, by decide, by decide, by decide⟩) (fun u304 h302 => ?_)
  obtain rfl := h302
  refine z_iconst (v := 1) b dX11_coin_34 (by decide) ?_
  exact z_zret (u := (su S 4 2 p0)) b rfl (by decide) dX11_coin_35 ⟨rfl, rfl⟩ rfl (by decide) (by decide)

set_option maxHeartbeats 4000000 in
set_option maxRecDepth 100000 in
theorem ch_X12_packs_8 {p : Program} {l : Launch} {e : Env} {R : Room} {s : State} {m : MethodId} {args : Array Value} {below : List Frame} {meth : Method} {c : Code} {D : va_G} {cy : Nat → ClassId} {T0 tB tE : Nat} {A : Nat → Prop} {Q : State → Prop} {a : Nat → Nat} (S : GS)  (h_a_0_0 : ar S 0 0 = 0) (h_a_1_1 : ar S 1 1 = 0) (h_a_1_2 : ar S 1 2 = 0) (h_a_2_0 : ar S 2 0 = 3) (h_a_3_1 : ar S 3 1 = 0) (h_a_4_1 : ar S 4 1 = 0) (h_a_4_2 : ar S 4 2 = 0) (h_i_0 : fi S 0 = 0) (b : Bz p R s m args meth c D cy T0 tB tE A 5 cX12_packs RX12 (some .long) "packs" 1 21 0 0) (k : Z p l e R s m args below meth c D A 5 Q 0 0 (mw cy a S) [(3, .int 1), (4, .int 2), (1, .long 1536), (0, .ref (a 0))] 21 [.int 1, .ref (a 1), .long 24576]) : Z p l e R s m args below meth c D A 5 Q 0 0 (mw cy a S) [(0, .ref (a 0))] 0 [] := by
  refine z_aload_n b dX12_packs_0 rfl rfl ?_
  refine z_get (q0 := 0) (k9 := 5) (v := .int (fi S 0)) b (mw_0 cy a S) rfl in_X12 (by decide) wf_X12_157 rfl dX12_packs_1 ?_
  refine z_eqi h_i_0 ?_
  refine z_i2l (v := 0) b dX12_packs_4 (by decide) ?_
  refine z_lstore_n (lv' := [(1, .long 0), (0, .ref (a 0))]) b dX12_packs_5 rfl (by decide) rfl ?_
  refine z_iconst (v := 0) b dX12_packs_6 (by decide) ?_
  refine z_istore_n (lv' := [(3, .int 0), (1, .long 0), (0, .ref (a 0))]) b dX12_packs_7 rfl (by decide) rfl ?_
  refine z_iload_n b dX12_packs_8 rfl rfl ?_
  refine z_iconst (v := 3) b dX12_packs_9 (by decide) ?_
  refine z_icmp_ge_f (tgt := 134) b dX12_packs_10 (by decide) (by decide) ?_
  refine z_lload_n b dX12_packs_13 rfl rfl ?_
  refine z_iconst (v := 4) b dX12_packs_14 (by decide) ?_
  refine z_lshl (v := 0) b dX12_packs_15 (by decide) ?_
  refine z_aload_n b dX12_packs_16 rfl rfl ?_
  refine z_get (q0 := 0) (k9 := 0) (v := .ref (a 1)) b (mw_0 cy a S) rfl in_X12 (by decide) wf_X12_13 rfl dX12_packs_17 ?_
  refine z_iload_n b dX12_packs_20 rfl rfl ?_
  refine y_iald (q0 := 1) (j := 0) (v := (ar S 0 0)) b (mw_1 cy a S) (by decide) rfl dX12_packs_21 ?_
  refine z_eqi h_a_0_0 ?_
  refine z_i2l (v := 0) b dX12_packs_22 (by decide) ?_
  refine z_lor (v := 0) b dX12_packs_23 (by decide) ?_
  refine z_lstore_n (lv' := [(1, .long 0), (3, .int 0), (0, .ref (a 0))]) b dX12_packs_24 rfl (by decide) rfl ?_
  refine z_lload_n b dX12_packs_25 rfl rfl ?_
  refine z_iconst (v := 2) b dX12_packs_26 (by decide) ?_
  refine z_lshl (v := 0) b dX12_packs_27 (by decide) ?_
  refine z_aload_n b dX12_packs_28 rfl rfl ?_
  refine z_get (q0 := 0) (k9 := 2) (v := .ref (a 3)) b (mw_0 cy a S) rfl in_X12 (by decide) wf_X12_20 rfl dX12_packs_29 ?_
  refine z_iload_n b dX12_packs_32 rfl rfl ?_
  refine y_iald (q0 := 3) (j := 0) (v := (ar S 2 0)) b (mw_3 cy a S) (by decide) rfl dX12_packs_33 ?_
  refine z_eqi h_a_2_0 ?_
  refine z_i2l (v := 3) b dX12_packs_34 (by decide) ?_
  refine z_lor (v := 3) b dX12_packs_35 (by decide) ?_
  refine z_lstore_n (lv' := [(1, .long 3), (3, .int 0), (0, .ref (a 0))]) b dX12_packs_36 rfl (by decide) rfl ?_
  refine z_lload_n b dX12_packs_37 rfl rfl ?_
  refine z_iconst (v := 1) b dX12_packs_38 (by decide) ?_
  refine z_lshl (v := 6) b dX12_packs_39 (by decide) ?_
  refine z_aload_n b dX12_packs_40 rfl rfl ?_
  refine z_get (q0 := 0) (k9 := 3) (v := .ref (a 4)) b (mw_0 cy a S) rfl in_X12 (by decide) wf_X12_23 rfl dX12_packs_41 ?_
  refine z_iconst (v := 3) b dX12_packs_44 (by decide) ?_
  refine z_iload_n b dX12_packs_45 rfl rfl ?_
  refine z_imul (v := 0) b dX12_packs_46 (by decide) ?_
  refine z_iload_n b dX12_packs_47 rfl rfl ?_
  refine z_iconst (v := 0) b dX12_packs_48 (by decide) ?_
  refine z_calli b (z_runS (As := [.int 0, .int 0]) (st := [.int 0, .ref (a 4), .long 6]) b (c_X12_other_6 S ) cf_X12_other wm_X12_160 ws_X12_other dX12_packs_49 rfl (Nat.le_of_ble_eq_true rfl) ⟨by decide, by decide, by decide, by decide⟩) (fun r315 u316 h314 => ?_)
  obtain ⟨rfl, rfl⟩ := h314
  refine z_iadd (v := 1) b dX12_packs_52 (by decide) ?_
  refine y_zald (q0 := 4) (j := 1) (v := (ar S 3 1)) b (mw_4 cy a S) (by decide) rfl dX12_packs_53 ?_
  refine z_eqi h_a_3_1 ?_
  refine z_if_eq_t (tgt := 61) b dX12_packs_54 (by decide) (by decide) ?_
  refine z_lconst (v := 0) b dX12_packs_61 (by decide) ?_
  refine z_lor (v := 6) b dX12_packs_62 (by decide) ?_
  refine z_lstore_n (lv' := [(1, .long 6), (3, .int 0), (0, .ref (a 0))]) b dX12_packs_63 rfl (by decide) rfl ?_
  refine z_iconst (v := 0) b dX12_packs_64 (by decide) ?_
  refine z_istore (lv' := [(4, .int 0), (1, .long 6), (3, .int 0), (0, .ref (a 0))]) b dX12_packs_65 (by decide) rfl ?_
  refine z_iload b dX12_packs_67 rfl ?_
  refine z_iconst (v := 2) b dX12_packs_69 (by decide) ?_
  refine z_icmp_ge_f (tgt := 128) b dX12_packs_70 (by decide) (by decide) ?_
  refine z_lload_n b dX12_packs_73 rfl rfl ?_
  refine z_iconst (v := 3) b dX12_packs_74 (by decide) ?_
  refine z_lshl (v := 48) b dX12_packs_75 (by decide) ?_
  refine z_aload_n b dX12_packs_76 rfl rfl ?_
  refine z_get (q0 := 0) (k9 := 1) (v := .ref (a 2)) b (mw_0 cy a S) rfl in_X12 (by decide) wf_X12_17 rfl dX12_packs_77 ?_
  refine z_iconst (v := 3) b dX12_packs_80 (by decide) ?_
  refine z_iload_n b dX12_packs_81 rfl rfl ?_
  refine z_imul (v := 0) b dX12_packs_82 (by decide) ?_
  refine z_iload_n b dX12_packs_83 rfl rfl ?_
  refine z_iload b dX12_packs_84 rfl ?_
  refine z_calli b (z_runS (As := [.int 0, .int 0]) (st := [.int 0, .ref (a 2), .long 48]) b (c_X12_other_6 S ) cf_X12_other wm_X12_160 ws_X12_other dX12_packs_86 rfl (Nat.le_of_ble_eq_true rfl) ⟨by decide, by decide, by decide, by decide⟩) (fun r318 u319 h317 => ?_)
  obtain ⟨rfl, rfl⟩ := h317
  refine z_iadd (v := 1) b dX12_packs_89 (by decide) ?_
  refine y_iald (q0 := 2) (j := 1) (v := (ar S 1 1)) b (mw_2 cy a S) (by decide) rfl dX12_packs_90 ?_
  refine z_eqi h_a_1_1 ?_
  refine z_i2l (v := 0) b dX12_packs_91 (by decide) ?_
  refine z_lor (v := 48) b dX12_packs_92 (by decide) ?_
  refine z_lstore_n (lv' := [(1, .long 48), (4, .int 0), (3, .int 0), (0, .ref (a 0))]) b dX12_packs_93 rfl (by decide) rfl ?_
  refine z_lload_n b dX12_packs_94 rfl rfl ?_
  refine z_iconst (v := 1) b dX12_packs_95 (by decide) ?_
  refine z_lshl (v := 96) b dX12_packs_96 (by decide) ?_
  refine z_aload_n b dX12_packs_97 rfl rfl ?_
  refine z_get (q0 := 0) (k9 := 4) (v := .ref (a 5)) b (mw_0 cy a S) rfl in_X12 (by decide) wf_X12_27 rfl dX12_packs_98 ?_
  refine z_iconst (v := 3) b dX12_packs_101 (by decide) ?_
  refine z_iload_n b dX12_packs_102 rfl rfl ?_
  refine z_imul (v := 0) b dX12_packs_103 (by decide) ?_
  refine z_iload_n b dX12_packs_104 rfl rfl ?_
  refine z_iload b dX12_packs_105 rfl ?_
  refine z_calli b (z_runS (As := [.int 0, .int 0]) (st := [.int 0, .ref (a 5), .long 96]) b (c_X12_other_6 S ) cf_X12_other wm_X12_160 ws_X12_other dX12_packs_107 rfl (Nat.le_of_ble_eq_true rfl) ⟨by decide, by decide, by decide, by decide⟩) (fun r321 u322 h320 => ?_)
  obtain ⟨rfl, rfl⟩ := h320
  refine z_iadd (v := 1) b dX12_packs_110 (by decide) ?_
  refine y_zald (q0 := 5) (j := 1) (v := (ar S 4 1)) b (mw_5 cy a S) (by decide) rfl dX12_packs_111 ?_
  refine z_eqi h_a_4_1 ?_
  refine z_if_eq_t (tgt := 119) b dX12_packs_112 (by decide) (by decide) ?_
  refine z_lconst (v := 0) b dX12_packs_119 (by decide) ?_
  refine z_lor (v := 96) b dX12_packs_120 (by decide) ?_
  refine z_lstore_n (lv' := [(1, .long 96), (4, .int 0), (3, .int 0), (0, .ref (a 0))]) b dX12_packs_121 rfl (by decide) rfl ?_
  refine z_iinc (k9 := 1) (v := 1) (lv' := [(4, .int 1), (1, .long 96), (3, .int 0), (0, .ref (a 0))]) b dX12_packs_122 rfl (by decide) (by decide) rfl ?_
  refine z_goto (tgt := 67) b dX12_packs_125 (by decide) ?_
  refine z_iload b dX12_packs_67 rfl ?_
  refine z_iconst (v := 2) b dX12_packs_69 (by decide) ?_
  refine z_icmp_ge_f (tgt := 128) b dX12_packs_70 (by decide) (by decide) ?_
  refine z_lload_n b dX12_packs_73 rfl rfl ?_
  refine z_iconst (v := 3) b dX12_packs_74 (by decide) ?_
  refine z_lshl (v := 768) b dX12_packs_75 (by decide) ?_
  refine z_aload_n b dX12_packs_76 rfl rfl ?_
  refine z_get (q0 := 0) (k9 := 1) (v := .ref (a 2)) b (mw_0 cy a S) rfl in_X12 (by decide) wf_X12_17 rfl dX12_packs_77 ?_
  refine z_iconst (v := 3) b dX12_packs_80 (by decide) ?_
  refine z_iload_n b dX12_packs_81 rfl rfl ?_
  refine z_imul (v := 0) b dX12_packs_82 (by decide) ?_
  refine z_iload_n b dX12_packs_83 rfl rfl ?_
  refine z_iload b dX12_packs_84 rfl ?_
  refine z_calli b (z_runS (As := [.int 0, .int 1]) (st := [.int 0, .ref (a 2), .long 768]) b (c_X12_other_5 S ) cf_X12_other wm_X12_160 ws_X12_other dX12_packs_86 rfl (Nat.le_of_ble_eq_true rfl) ⟨by decide, by decide, by decide, by decide⟩) (fun r324 u325 h323 => ?_)
  obtain ⟨rfl, rfl⟩ := h323
  refine z_iadd (v := 2) b dX12_packs_89 (by decide) ?_
  refine y_iald (q0 := 2) (j := 2) (v := (ar S 1 2)) b (mw_2 cy a S) (by decide) rfl dX12_packs_90 ?_
  refine z_eqi h_a_1_2 ?_
  refine z_i2l (v := 0) b dX12_packs_91 (by decide) ?_
  refine z_lor (v := 768) b dX12_packs_92 (by decide) ?_
  refine z_lstore_n (lv' := [(1, .long 768), (4, .int 1), (3, .int 0), (0, .ref (a 0))]) b dX12_packs_93 rfl (by decide) rfl ?_
  refine z_lload_n b dX12_packs_94 rfl rfl ?_
  refine z_iconst (v := 1) b dX12_packs_95 (by decide) ?_
  refine z_lshl (v := 1536) b dX12_packs_96 (by decide) ?_
  refine z_aload_n b dX12_packs_97 rfl rfl ?_
  refine z_get (q0 := 0) (k9 := 4) (v := .ref (a 5)) b (mw_0 cy a S) rfl in_X12 (by decide) wf_X12_27 rfl dX12_packs_98 ?_
  refine z_iconst (v := 3) b dX12_packs_101 (by decide) ?_
  refine z_iload_n b dX12_packs_102 rfl rfl ?_
  refine z_imul (v := 0) b dX12_packs_103 (by decide) ?_
  refine z_iload_n b dX12_packs_104 rfl rfl ?_
  refine z_iload b dX12_packs_105 rfl ?_
  refine z_calli b (z_runS (As := [.int 0, .int 1]) (st := [.int 0, .ref (a 5), .long 1536]) b (c_X12_other_5 S ) cf_X12_other wm_X12_160 ws_X12_other dX12_packs_107 rfl (Nat.le_of_ble_eq_true rfl) ⟨by decide, by decide, by decide, by decide⟩) (fun r327 u328 h326 => ?_)
  obtain ⟨rfl, rfl⟩ := h326
  refine z_iadd (v := 2) b dX12_packs_110 (by decide) ?_
  refine y_zald (q0 := 5) (j := 2) (v := (ar S 4 2)) b (mw_5 cy a S) (by decide) rfl dX12_packs_111 ?_
  refine z_eqi h_a_4_2 ?_
  refine z_if_eq_t (tgt := 119) b dX12_packs_112 (by decide) (by decide) ?_
  refine z_lconst (v := 0) b dX12_packs_119 (by decide) ?_
  refine z_lor (v := 1536) b dX12_packs_120 (by decide) ?_
  refine z_lstore_n (lv' := [(1, .long 1536), (4, .int 1), (3, .int 0), (0, .ref (a 0))]) b dX12_packs_121 rfl (by decide) rfl ?_
  refine z_iinc (k9 := 1) (v := 2) (lv' := [(4, .int 2), (1, .long 1536), (3, .int 0), (0, .ref (a 0))]) b dX12_packs_122 rfl (by decide) (by decide) rfl ?_
  refine z_goto (tgt := 67) b dX12_packs_125 (by decide) ?_
  refine z_iload b dX12_packs_67 rfl ?_
  refine z_iconst (v := 2) b dX12_packs_69 (by decide) ?_
  refine z_icmp_ge_t (tgt := 128) b dX12_packs_70 (by decide) (by decide) ?_
  refine z_iinc (k9 := 2) (v := 1) (lv' := [(3, .int 1), (4, .int 2), (1, .long 1536), (0, .ref (a 0))]) b dX12_packs_128 rfl (by decide) (by decide) rfl ?_
  refine z_goto (tgt := 8) b dX12_packs_131 (by decide) ?_
  refine z_iload_n b dX12_packs_8 rfl rfl ?_
  refine z_iconst (v := 3) b dX12_packs_9 (by decide) ?_
  refine z_icmp_ge_f (tgt := 134) b dX12_packs_10 (by decide) (by decide) ?_
  refine z_lload_n b dX12_packs_13 rfl rfl ?_
  refine z_iconst (v := 4) b dX12_packs_14 (by decide) ?_
  refine z_lshl (v := 24576) b dX12_packs_15 (by decide) ?_
  refine z_aload_n b dX12_packs_16 rfl rfl ?_
  refine z_get (q0 := 0) (k9 := 0) (v := .ref (a 1)) b (mw_0 cy a S) rfl in_X12 (by decide) wf_X12_13 rfl dX12_packs_17 ?_
  refine z_iload_n b dX12_packs_20 rfl rfl ?_
  exact k

set_option maxHeartbeats 4000000 in
set_option maxRecDepth 100000 in
theorem ch_X12_packs_9 {p : Program} {l : Launch} {e : Env} {R : Room} {s : State} {m : MethodId} {args : Array Value} {below : List Frame} {meth : Method} {c : Code} {D : va_G} {cy : Nat → ClassId} {T0 tB tE : Nat} {A : Nat → Prop} {Q : State → Prop} {a : Nat → Nat} (S : GS)  (h_a_0_1 : ar S 0 1 = 0) (h_a_1_3 : ar S 1 3 = 0) (h_a_1_5 : ar S 1 5 = 0) (h_a_2_1 : ar S 2 1 = 3) (h_a_2_2 : ar S 2 2 = 3) (h_a_3_5 : ar S 3 5 = 0) (h_a_4_3 : ar S 4 3 = 0) (h_a_4_5 : ar S 4 5 = 0) (b : Bz p R s m args meth c D cy T0 tB tE A 5 cX12_packs RX12 (some .long) "packs" 1 21 0 0) (k : Z p l e R s m args below meth c D A 5 Q 0 0 (mw cy a S) [(1, .long (((805330944 ||| ((ar S 0 2) : Int32).toInt64) <<< ((2 : Int32).toInt64 &&& 63)) ||| 3)), (3, .int 2), (4, .int 2), (0, .ref (a 0))] 38 [.long (((805330944 ||| ((ar S 0 2) : Int32).toInt64) <<< ((2 : Int32).toInt64 &&& 63)) ||| 3)]) : Z p l e R s m args below meth c D A 5 Q 0 0 (mw cy a S) [(3, .int 1), (4, .int 2), (1, .long 1536), (0, .ref (a 0))] 21 [.int 1, .ref (a 1), .long 24576] := by
  refine y_iald (q0 := 1) (j := 1) (v := (ar S 0 1)) b (mw_1 cy a S) (by decide) rfl dX12_packs_21 ?_
  refine z_eqi h_a_0_1 ?_
  refine z_i2l (v := 0) b dX12_packs_22 (by decide) ?_
  refine z_lor (v := 24576) b dX12_packs_23 (by decide) ?_
  refine z_lstore_n (lv' := [(1, .long 24576), (3, .int 1), (4, .int 2), (0, .ref (a 0))]) b dX12_packs_24 rfl (by decide) rfl ?_
  refine z_lload_n b dX12_packs_25 rfl rfl ?_
  refine z_iconst (v := 2) b dX12_packs_26 (by decide) ?_
  refine z_lshl (v := 98304) b dX12_packs_27 (by decide) ?_
  refine z_aload_n b dX12_packs_28 rfl rfl ?_
  refine z_get (q0 := 0) (k9 := 2) (v := .ref (a 3)) b (mw_0 cy a S) rfl in_X12 (by decide) wf_X12_20 rfl dX12_packs_29 ?_
  refine z_iload_n b dX12_packs_32 rfl rfl ?_
  refine y_iald (q0 := 3) (j := 1) (v := (ar S 2 1)) b (mw_3 cy a S) (by decide) rfl dX12_packs_33 ?_
  refine z_eqi h_a_2_1 ?_
  refine z_i2l (v := 3) b dX12_packs_34 (by decide) ?_
  refine z_lor (v := 98307) b dX12_packs_35 (by decide) ?_
  refine z_lstore_n (lv' := [(1, .long 98307), (3, .int 1), (4, .int 2), (0, .ref (a 0))]) b dX12_packs_36 rfl (by decide) rfl ?_
  refine z_lload_n b dX12_packs_37 rfl rfl ?_
  refine z_iconst (v := 1) b dX12_packs_38 (by decide) ?_
  refine z_lshl (v := 196614) b dX12_packs_39 (by decide) ?_
  refine z_aload_n b dX12_packs_40 rfl rfl ?_
  refine z_get (q0 := 0) (k9 := 3) (v := .ref (a 4)) b (mw_0 cy a S) rfl in_X12 (by decide) wf_X12_23 rfl dX12_packs_41 ?_
  refine z_iconst (v := 3) b dX12_packs_44 (by decide) ?_
  refine z_iload_n b dX12_packs_45 rfl rfl ?_
  refine z_imul (v := 3) b dX12_packs_46 (by decide) ?_
  refine z_iload_n b dX12_packs_47 rfl rfl ?_
  refine z_iconst (v := 0) b dX12_packs_48 (by decide) ?_
  refine z_calli b (z_runS (As := [.int 1, .int 0]) (st := [.int 3, .ref (a 4), .long 196614]) b (c_X12_other_4 S ) cf_X12_other wm_X12_160 ws_X12_other dX12_packs_49 rfl (Nat.le_of_ble_eq_true rfl) ⟨by decide, by decide, by decide, by decide⟩) (fun r330 u331 h329 => ?_)
  obtain ⟨rfl, rfl⟩ := h329
  refine z_iadd (v := 5) b dX12_packs_52 (by decide) ?_
  refine y_zald (q0 := 4) (j := 5) (v := (ar S 3 5)) b (mw_4 cy a S) (by decide) rfl dX12_packs_53 ?_
  refine z_eqi h_a_3_5 ?_
  refine z_if_eq_t (tgt := 61) b dX12_packs_54 (by decide) (by decide) ?_
  refine z_lconst (v := 0) b dX12_packs_61 (by decide) ?_
  refine z_lor (v := 196614) b dX12_packs_62 (by decide) ?_
  refine z_lstore_n (lv' := [(1, .long 196614), (3, .int 1), (4, .int 2), (0, .ref (a 0))]) b dX12_packs_63 rfl (by decide) rfl ?_
  refine z_iconst (v := 0) b dX12_packs_64 (by decide) ?_
  refine z_istore (lv' := [(4, .int 0), (1, .long 196614), (3, .int 1), (0, .ref (a 0))]) b dX12_packs_65 (by decide) rfl ?_
  refine z_iload b dX12_packs_67 rfl ?_
  refine z_iconst (v := 2) b dX12_packs_69 (by decide) ?_
  refine z_icmp_ge_f (tgt := 128) b dX12_packs_70 (by decide) (by decide) ?_
  refine z_lload_n b dX12_packs_73 rfl rfl ?_
  refine z_iconst (v := 3) b dX12_packs_74 (by decide) ?_
  refine z_lshl (v := 1572912) b dX12_packs_75 (by decide) ?_
  refine z_aload_n b dX12_packs_76 rfl rfl ?_
  refine z_get (q0 := 0) (k9 := 1) (v := .ref (a 2)) b (mw_0 cy a S) rfl in_X12 (by decide) wf_X12_17 rfl dX12_packs_77 ?_
  refine z_iconst (v := 3) b dX12_packs_80 (by decide) ?_
  refine z_iload_n b dX12_packs_81 rfl rfl ?_
  refine z_imul (v := 3) b dX12_packs_82 (by decide) ?_
  refine z_iload_n b dX12_packs_83 rfl rfl ?_
  refine z_iload b dX12_packs_84 rfl ?_
  refine z_calli b (z_runS (As := [.int 1, .int 0]) (st := [.int 3, .ref (a 2), .long 1572912]) b (c_X12_other_4 S ) cf_X12_other wm_X12_160 ws_X12_other dX12_packs_86 rfl (Nat.le_of_ble_eq_true rfl) ⟨by decide, by decide, by decide, by decide⟩) (fun r333 u334 h332 => ?_)
  obtain ⟨rfl, rfl⟩ := h332
  refine z_iadd (v := 5) b dX12_packs_89 (by decide) ?_
  refine y_iald (q0 := 2) (j := 5) (v := (ar S 1 5)) b (mw_2 cy a S) (by decide) rfl dX12_packs_90 ?_
  refine z_eqi h_a_1_5 ?_
  refine z_i2l (v := 0) b dX12_packs_91 (by decide) ?_
  refine z_lor (v := 1572912) b dX12_packs_92 (by decide) ?_
  refine z_lstore_n (lv' := [(1, .long 1572912), (4, .int 0), (3, .int 1), (0, .ref (a 0))]) b dX12_packs_93 rfl (by decide) rfl ?_
  refine z_lload_n b dX12_packs_94 rfl rfl ?_
  refine z_iconst (v := 1) b dX12_packs_95 (by decide) ?_
  refine z_lshl (v := 3145824) b dX12_packs_96 (by decide) ?_
  refine z_aload_n b dX12_packs_97 rfl rfl ?_
  refine z_get (q0 := 0) (k9 := 4) (v := .ref (a 5)) b (mw_0 cy a S) rfl in_X12 (by decide) wf_X12_27 rfl dX12_packs_98 ?_
  refine z_iconst (v := 3) b dX12_packs_101 (by decide) ?_
  refine z_iload_n b dX12_packs_102 rfl rfl ?_
  refine z_imul (v := 3) b dX12_packs_103 (by decide) ?_
  refine z_iload_n b dX12_packs_104 rfl rfl ?_
  refine z_iload b dX12_packs_105 rfl ?_
  refine z_calli b (z_runS (As := [.int 1, .int 0]) (st := [.int 3, .ref (a 5), .long 3145824]) b (c_X12_other_4 S ) cf_X12_other wm_X12_160 ws_X12_other dX12_packs_107 rfl (Nat.le_of_ble_eq_true rfl) ⟨by decide, by decide, by decide, by decide⟩) (fun r336 u337 h335 => ?_)
  obtain ⟨rfl, rfl⟩ := h335
  refine z_iadd (v := 5) b dX12_packs_110 (by decide) ?_
  refine y_zald (q0 := 5) (j := 5) (v := (ar S 4 5)) b (mw_5 cy a S) (by decide) rfl dX12_packs_111 ?_
  refine z_eqi h_a_4_5 ?_
  refine z_if_eq_t (tgt := 119) b dX12_packs_112 (by decide) (by decide) ?_
  refine z_lconst (v := 0) b dX12_packs_119 (by decide) ?_
  refine z_lor (v := 3145824) b dX12_packs_120 (by decide) ?_
  refine z_lstore_n (lv' := [(1, .long 3145824), (4, .int 0), (3, .int 1), (0, .ref (a 0))]) b dX12_packs_121 rfl (by decide) rfl ?_
  refine z_iinc (k9 := 1) (v := 1) (lv' := [(4, .int 1), (1, .long 3145824), (3, .int 1), (0, .ref (a 0))]) b dX12_packs_122 rfl (by decide) (by decide) rfl ?_
  refine z_goto (tgt := 67) b dX12_packs_125 (by decide) ?_
  refine z_iload b dX12_packs_67 rfl ?_
  refine z_iconst (v := 2) b dX12_packs_69 (by decide) ?_
  refine z_icmp_ge_f (tgt := 128) b dX12_packs_70 (by decide) (by decide) ?_
  refine z_lload_n b dX12_packs_73 rfl rfl ?_
  refine z_iconst (v := 3) b dX12_packs_74 (by decide) ?_
  refine z_lshl (v := 25166592) b dX12_packs_75 (by decide) ?_
  refine z_aload_n b dX12_packs_76 rfl rfl ?_
  refine z_get (q0 := 0) (k9 := 1) (v := .ref (a 2)) b (mw_0 cy a S) rfl in_X12 (by decide) wf_X12_17 rfl dX12_packs_77 ?_
  refine z_iconst (v := 3) b dX12_packs_80 (by decide) ?_
  refine z_iload_n b dX12_packs_81 rfl rfl ?_
  refine z_imul (v := 3) b dX12_packs_82 (by decide) ?_
  refine z_iload_n b dX12_packs_83 rfl rfl ?_
  refine z_iload b dX12_packs_84 rfl ?_
  refine z_calli b (z_runS (As := [.int 1, .int 1]) (st := [.int 3, .ref (a 2), .long 25166592]) b (c_X12_other_3 S ) cf_X12_other wm_X12_160 ws_X12_other dX12_packs_86 rfl (Nat.le_of_ble_eq_true rfl) ⟨by decide, by decide, by decide, by decide⟩) (fun r339 u340 h338 => ?_)
  obtain ⟨rfl, rfl⟩ := h338
  refine z_iadd (v := 3) b dX12_packs_89 (by decide) ?_
  refine y_iald (q0 := 2) (j := 3) (v := (ar S 1 3)) b (mw_2 cy a S) (by decide) rfl dX12_packs_90 ?_
  refine z_eqi h_a_1_3 ?_
  refine z_i2l (v := 0) b dX12_packs_91 (by decide) ?_
  refine z_lor (v := 25166592) b dX12_packs_92 (by decide) ?_
  refine z_lstore_n (lv' := [(1, .long 25166592), (4, .int 1), (3, .int 1), (0, .ref (a 0))]) b dX12_packs_93 rfl (by decide) rfl ?_
  refine z_lload_n b dX12_packs_94 rfl rfl ?_
  refine z_iconst (v := 1) b dX12_packs_95 (by decide) ?_
  refine z_lshl (v := 50333184) b dX12_packs_96 (by decide) ?_
  refine z_aload_n b dX12_packs_97 rfl rfl ?_
  refine z_get (q0 := 0) (k9 := 4) (v := .ref (a 5)) b (mw_0 cy a S) rfl in_X12 (by decide) wf_X12_27 rfl dX12_packs_98 ?_
  refine z_iconst (v := 3) b dX12_packs_101 (by decide) ?_
  refine z_iload_n b dX12_packs_102 rfl rfl ?_
  refine z_imul (v := 3) b dX12_packs_103 (by decide) ?_
  refine z_iload_n b dX12_packs_104 rfl rfl ?_
  refine z_iload b dX12_packs_105 rfl ?_
  refine z_calli b (z_runS (As := [.int 1, .int 1]) (st := [.int 3, .ref (a 5), .long 50333184]) b (c_X12_other_3 S ) cf_X12_other wm_X12_160 ws_X12_other dX12_packs_107 rfl (Nat.le_of_ble_eq_true rfl) ⟨by decide, by decide, by decide, by decide⟩) (fun r342 u343 h341 => ?_)
  obtain ⟨rfl, rfl⟩ := h341
  refine z_iadd (v := 3) b dX12_packs_110 (by decide) ?_
  refine y_zald (q0 := 5) (j := 3) (v := (ar S 4 3)) b (mw_5 cy a S) (by decide) rfl dX12_packs_111 ?_
  refine z_eqi h_a_4_3 ?_
  refine z_if_eq_t (tgt := 119) b dX12_packs_112 (by decide) (by decide) ?_
  refine z_lconst (v := 0) b dX12_packs_119 (by decide) ?_
  refine z_lor (v := 50333184) b dX12_packs_120 (by decide) ?_
  refine z_lstore_n (lv' := [(1, .long 50333184), (4, .int 1), (3, .int 1), (0, .ref (a 0))]) b dX12_packs_121 rfl (by decide) rfl ?_
  refine z_iinc (k9 := 1) (v := 2) (lv' := [(4, .int 2), (1, .long 50333184), (3, .int 1), (0, .ref (a 0))]) b dX12_packs_122 rfl (by decide) (by decide) rfl ?_
  refine z_goto (tgt := 67) b dX12_packs_125 (by decide) ?_
  refine z_iload b dX12_packs_67 rfl ?_
  refine z_iconst (v := 2) b dX12_packs_69 (by decide) ?_
  refine z_icmp_ge_t (tgt := 128) b dX12_packs_70 (by decide) (by decide) ?_
  refine z_iinc (k9 := 2) (v := 2) (lv' := [(3, .int 2), (4, .int 2), (1, .long 50333184), (0, .ref (a 0))]) b dX12_packs_128 rfl (by decide) (by decide) rfl ?_
  refine z_goto (tgt := 8) b dX12_packs_131 (by decide) ?_
  refine z_iload_n b dX12_packs_8 rfl rfl ?_
  refine z_iconst (v := 3) b dX12_packs_9 (by decide) ?_
  refine z_icmp_ge_f (tgt := 134) b dX12_packs_10 (by decide) (by decide) ?_
  refine z_lload_n b dX12_packs_13 rfl rfl ?_
  refine z_iconst (v := 4) b dX12_packs_14 (by decide) ?_
  refine z_lshl (v := 805330944) b dX12_packs_15 (by decide) ?_
  refine z_aload_n b dX12_packs_16 rfl rfl ?_
  refine z_get (q0 := 0) (k9 := 0) (v := .ref (a 1)) b (mw_0 cy a S) rfl in_X12 (by decide) wf_X12_13 rfl dX12_packs_17 ?_
  refine z_iload_n b dX12_packs_20 rfl rfl ?_
  refine y_iald (q0 := 1) (j := 2) (v := (ar S 0 2)) b (mw_1 cy a S) (by decide) rfl dX12_packs_21 ?_
  refine z_i2l b dX12_packs_22 rfl ?_
  refine z_lor b dX12_packs_23 rfl ?_
  refine z_lstore_n (lv' := [(1, .long (805330944 ||| ((ar S 0 2) : Int32).toInt64)), (3, .int 2), (4, .int 2), (0, .ref (a 0))]) b dX12_packs_24 rfl (by decide) rfl ?_
  refine z_lload_n b dX12_packs_25 rfl rfl ?_
  refine z_iconst (v := 2) b dX12_packs_26 (by decide) ?_
  refine z_lshl b dX12_packs_27 rfl ?_
  refine z_aload_n b dX12_packs_28 rfl rfl ?_
  refine z_get (q0 := 0) (k9 := 2) (v := .ref (a 3)) b (mw_0 cy a S) rfl in_X12 (by decide) wf_X12_20 rfl dX12_packs_29 ?_
  refine z_iload_n b dX12_packs_32 rfl rfl ?_
  refine y_iald (q0 := 3) (j := 2) (v := (ar S 2 2)) b (mw_3 cy a S) (by decide) rfl dX12_packs_33 ?_
  refine z_eqi h_a_2_2 ?_
  refine z_i2l (v := 3) b dX12_packs_34 (by decide) ?_
  refine z_lor b dX12_packs_35 rfl ?_
  refine z_lstore_n (lv' := [(1, .long (((805330944 ||| ((ar S 0 2) : Int32).toInt64) <<< ((2 : Int32).toInt64 &&& 63)) ||| 3)), (3, .int 2), (4, .int 2), (0, .ref (a 0))]) b dX12_packs_36 rfl (by decide) rfl ?_
  refine z_lload_n b dX12_packs_37 rfl rfl ?_
  exact k

set_option maxHeartbeats 4000000 in
set_option maxRecDepth 100000 in
theorem c_X12_packs_3 {l : Launch} {D : va_G} {cy : Nat → ClassId} {T0 tB tE : Nat} {a : Nat → Nat} (S : GS)  (h_i_0 : fi S 0 = 0) (h_a_0_0 : ar S 0 0 = 0) (h_a_2_0 : ar S 2 0 = 3) (h_a_3_1 : ar S 3 1 = 0) (h_a_1_1 : ar S 1 1 = 0) (h_a_4_1 : ar S 4 1 = 0) (h_a_1_2 : ar S 1 2 = 0) (h_a_4_2 : ar S 4 2 = 0) (h_a_0_1 : ar S 0 1 = 0) (h_a_2_1 : ar S 2 1 = 3) (h_a_3_5 : ar S 3 5 = 0) (h_a_1_5 : ar S 1 5 = 0) (h_a_4_5 : ar S 4 5 = 0) (h_a_1_3 : ar S 1 3 = 0) (h_a_4_3 : ar S 4 3 = 0) (h_a_2_2 : ar S 2 2 = 3) (h_a_3_6 : ar S 3 6 = 0) (h_a_1_6 : ar S 1 6 = 0) (h_a_4_6 : ar S 4 6 = 0) (h_a_1_7 : ar S 1 7 = 0) (h_a_4_7 : ar S 4 7 = 0) : Ct l D cy T0 tB tE yX12_packs cX12_packs 5 (some .long) 1 21 0 0 (mw cy a S) [.ref (a 0)] (QL D (U := GS) (fun r u => (((((((((((((805330944 ||| ((ar S 0 2) : Int32).toInt64) <<< ((2 : Int32).toInt64 &&& 63)) ||| 3) <<< ((1 : Int32).toInt64 &&& 63)) ||| 0) <<< ((3 : Int32).toInt64 &&& 63)) ||| 0) <<< ((1 : Int32).toInt64 &&& 63)) ||| 0) <<< ((3 : Int32).toInt64 &&& 63)) ||| 0) <<< ((1 : Int32).toInt64 &&& 63)) ||| 0) = r ∧ S = u) (mw cy a)) := by
  refine Ct.ofZ RX12 "packs" [(0, .ref (a 0))] rfl rfl rfl rfl (Nat.le_of_ble_eq_true rfl) ?_
  intro p e R s m args below meth c A b
  refine ch_X12_packs_8 S  h_a_0_0 h_a_1_1 h_a_1_2 h_a_2_0 h_a_3_1 h_a_4_1 h_a_4_2 h_i_0  b ?_
  refine ch_X12_packs_9 S  h_a_0_1 h_a_1_3 h_a_1_5 h_a_2_1 h_a_2_2 h_a_3_5 h_a_4_3 h_a_4_5  b ?_
  refine z_iconst (v := 1) b dX12_packs_38 (by decide) ?_
  refine z_lshl b dX12_packs_39 rfl ?_
  refine z_aload_n b dX12_packs_40 rfl rfl ?_
  refine z_get (q0 := 0) (k9 := 3) (v := .ref (a 4)) b (mw_0 cy a S) rfl in_X12 (by decide) wf_X12_23 rfl dX12_packs_41 ?_
  refine z_iconst (v := 3) b dX12_packs_44 (by decide) ?_
  refine z_iload_n b dX12_packs_45 rfl rfl ?_
  refine z_imul (v := 6) b dX12_packs_46 (by decide) ?_
  refine z_iload_n b dX12_packs_47 rfl rfl ?_
  refine z_iconst (v := 0) b dX12_packs_48 (by decide) ?_
  refine z_calli b (z_runS (As := [.int 2, .int 0]) (st := [.int 6, .ref (a 4), .long ((((805330944 ||| ((ar S 0 2) : Int32).toInt64) <<< ((2 : Int32).toInt64 &&& 63)) ||| 3) <<< ((1 : Int32).toInt64 &&& 63))]) b (c_X12_other_2 S ) cf_X12_other wm_X12_160 ws_X12_other dX12_packs_49 rfl (Nat.le_of_ble_eq_true rfl) ⟨by decide, by decide, by decide, by decide⟩) (fun r345 u346 h344 => ?_)
  obtain ⟨rfl, rfl⟩ := h344
  refine z_iadd (v := 6) b dX12_packs_52 (by decide) ?_
  refine y_zald (q0 := 4) (j := 6) (v := (ar S 3 6)) b (mw_4 cy a S) (by decide) rfl dX12_packs_53 ?_
  refine z_eqi h_a_3_6 ?_
  refine z_if_eq_t (tgt := 61) b dX12_packs_54 (by decide) (by decide) ?_
  refine z_lconst (v := 0) b dX12_packs_61 (by decide) ?_
  refine z_lor b dX12_packs_62 rfl ?_
  refine z_lstore_n (lv' := [(1, .long (((((805330944 ||| ((ar S 0 2) : Int32).toInt64) <<< ((2 : Int32).toInt64 &&& 63)) ||| 3) <<< ((1 : Int32).toInt64 &&& 63)) ||| 0)), (3, .int 2), (4, .int 2), (0, .ref (a 0))]) b dX12_packs_63 rfl (by decide) rfl ?_
  refine z_iconst (v := 0) b dX12_packs_64 (by decide) ?_
  refine z_istore (lv' := [(4, .int 0), (1, .long (((((805330944 ||| ((ar S 0 2) : Int32).toInt64) <<< ((2 : Int32).toInt64 &&& 63)) ||| 3) <<< ((1 : Int32).toInt64 &&& 63)) ||| 0)), (3, .int 2), (0, .ref (a 0))]) b dX12_packs_65 (by decide) rfl ?_
  refine z_iload b dX12_packs_67 rfl ?_
  refine z_iconst (v := 2) b dX12_packs_69 (by decide) ?_
  refine z_icmp_ge_f (tgt := 128) b dX12_packs_70 (by decide) (by decide) ?_
  refine z_lload_n b dX12_packs_73 rfl rfl ?_
  refine z_iconst (v := 3) b dX12_packs_74 (by decide) ?_
  refine z_lshl b dX12_packs_75 rfl ?_
  refine z_aload_n b dX12_packs_76 rfl rfl ?_
  refine z_get (q0 := 0) (k9 := 1) (v := .ref (a 2)) b (mw_0 cy a S) rfl in_X12 (by decide) wf_X12_17 rfl dX12_packs_77 ?_
  refine z_iconst (v := 3) b dX12_packs_80 (by decide) ?_
  refine z_iload_n b dX12_packs_81 rfl rfl ?_
  refine z_imul (v := 6) b dX12_packs_82 (by decide) ?_
  refine z_iload_n b dX12_packs_83 rfl rfl ?_
  refine z_iload b dX12_packs_84 rfl ?_
  refine z_calli b (z_runS (As := [.int 2, .int 0]) (st := [.int 6, .ref (a 2), .long ((((((805330944 ||| ((ar S 0 2) : Int32).toInt64) <<< ((2 : Int32).toInt64 &&& 63)) ||| 3) <<< ((1 : Int32).toInt64 &&& 63)) ||| 0) <<< ((3 : Int32).toInt64 &&& 63))]) b (c_X12_other_2 S ) cf_X12_other wm_X12_160 ws_X12_other dX12_packs_86 rfl (Nat.le_of_ble_eq_true rfl) ⟨by decide, by decide, by decide, by decide⟩) (fun r348 u349 h347 => ?_)
  obtain ⟨rfl, rfl⟩ := h347
  refine z_iadd (v := 6) b dX12_packs_89 (by decide) ?_
  refine y_iald (q0 := 2) (j := 6) (v := (ar S 1 6)) b (mw_2 cy a S) (by decide) rfl dX12_packs_90 ?_
  refine z_eqi h_a_1_6 ?_
  refine z_i2l (v := 0) b dX12_packs_91 (by decide) ?_
  refine z_lor b dX12_packs_92 rfl ?_
  refine z_lstore_n (lv' := [(1, .long (((((((805330944 ||| ((ar S 0 2) : Int32).toInt64) <<< ((2 : Int32).toInt64 &&& 63)) ||| 3) <<< ((1 : Int32).toInt64 &&& 63)) ||| 0) <<< ((3 : Int32).toInt64 &&& 63)) ||| 0)), (4, .int 0), (3, .int 2), (0, .ref (a 0))]) b dX12_packs_93 rfl (by decide) rfl ?_
  refine z_lload_n b dX12_packs_94 rfl rfl ?_
  refine z_iconst (v := 1) b dX12_packs_95 (by decide) ?_
  refine z_lshl b dX12_packs_96 rfl ?_
  refine z_aload_n b dX12_packs_97 rfl rfl ?_
  refine z_get (q0 := 0) (k9 := 4) (v := .ref (a 5)) b (mw_0 cy a S) rfl in_X12 (by decide) wf_X12_27 rfl dX12_packs_98 ?_
  refine z_iconst (v := 3) b dX12_packs_101 (by decide) ?_
  refine z_iload_n b dX12_packs_102 rfl rfl ?_
  refine z_imul (v := 6) b dX12_packs_103 (by decide) ?_
  refine z_iload_n b dX12_packs_104 rfl rfl ?_
  refine z_iload b dX12_packs_105 rfl ?_
  refine z_calli b (z_runS (As := [.int 2, .int 0]) (st := [.int 6, .ref (a 5), .long ((((((((805330944 ||| ((ar S 0 2) : Int32).toInt64) <<< ((2 : Int32).toInt64 &&& 63)) ||| 3) <<< ((1 : Int32).toInt64 &&& 63)) ||| 0) <<< ((3 : Int32).toInt64 &&& 63)) ||| 0) <<< ((1 : Int32).toInt64 &&& 63))]) b (c_X12_other_2 S ) cf_X12_other wm_X12_160 ws_X12_other dX12_packs_107 rfl (Nat.le_of_ble_eq_true rfl) ⟨by decide, by decide, by decide, by decide⟩) (fun r351 u352 h350 => ?_)
  obtain ⟨rfl, rfl⟩ := h350
  refine z_iadd (v := 6) b dX12_packs_110 (by decide) ?_
  refine y_zald (q0 := 5) (j := 6) (v := (ar S 4 6)) b (mw_5 cy a S) (by decide) rfl dX12_packs_111 ?_
  refine z_eqi h_a_4_6 ?_
  refine z_if_eq_t (tgt := 119) b dX12_packs_112 (by decide) (by decide) ?_
  refine z_lconst (v := 0) b dX12_packs_119 (by decide) ?_
  refine z_lor b dX12_packs_120 rfl ?_
  refine z_lstore_n (lv' := [(1, .long (((((((((805330944 ||| ((ar S 0 2) : Int32).toInt64) <<< ((2 : Int32).toInt64 &&& 63)) ||| 3) <<< ((1 : Int32).toInt64 &&& 63)) ||| 0) <<< ((3 : Int32).toInt64 &&& 63)) ||| 0) <<< ((1 : Int32).toInt64 &&& 63)) ||| 0)), (4, .int 0), (3, .int 2), (0, .ref (a 0))]) b dX12_packs_121 rfl (by decide) rfl ?_
  refine z_iinc (k9 := 1) (v := 1) (lv' := [(4, .int 1), (1, .long (((((((((805330944 ||| ((ar S 0 2) : Int32).toInt64) <<< ((2 : Int32).toInt64 &&& 63)) ||| 3) <<< ((1 : Int32).toInt64 &&& 63)) ||| 0) <<< ((3 : Int32).toInt64 &&& 63)) ||| 0) <<< ((1 : Int32).toInt64 &&& 63)) ||| 0)), (3, .int 2), (0, .ref (a 0))]) b dX12_packs_122 rfl (by decide) (by decide) rfl ?_
  refine z_goto (tgt := 67) b dX12_packs_125 (by decide) ?_
  refine z_iload b dX12_packs_67 rfl ?_
  refine z_iconst (v := 2) b dX12_packs_69 (by decide) ?_
  refine z_icmp_ge_f (tgt := 128) b dX12_packs_70 (by decide) (by decide) ?_
  refine z_lload_n b dX12_packs_73 rfl rfl ?_
  refine z_iconst (v := 3) b dX12_packs_74 (by decide) ?_
  refine z_lshl b dX12_packs_75 rfl ?_
  refine z_aload_n b dX12_packs_76 rfl rfl ?_
  refine z_get (q0 := 0) (k9 := 1) (v := .ref (a 2)) b (mw_0 cy a S) rfl in_X12 (by decide) wf_X12_17 rfl dX12_packs_77 ?_
  refine z_iconst (v := 3) b dX12_packs_80 (by decide) ?_
  refine z_iload_n b dX12_packs_81 rfl rfl ?_
  refine z_imul (v := 6) b dX12_packs_82 (by decide) ?_
  refine z_iload_n b dX12_packs_83 rfl rfl ?_
  refine z_iload b dX12_packs_84 rfl ?_
  refine z_calli b (z_runS (As := [.int 2, .int 1]) (st := [.int 6, .ref (a 2), .long ((((((((((805330944 ||| ((ar S 0 2) : Int32).toInt64) <<< ((2 : Int32).toInt64 &&& 63)) ||| 3) <<< ((1 : Int32).toInt64 &&& 63)) ||| 0) <<< ((3 : Int32).toInt64 &&& 63)) ||| 0) <<< ((1 : Int32).toInt64 &&& 63)) ||| 0) <<< ((3 : Int32).toInt64 &&& 63))]) b (c_X12_other S ) cf_X12_other wm_X12_160 ws_X12_other dX12_packs_86 rfl (Nat.le_of_ble_eq_true rfl) ⟨by decide, by decide, by decide, by decide⟩) (fun r354 u355 h353 => ?_)
  obtain ⟨rfl, rfl⟩ := h353
  refine z_iadd (v := 7) b dX12_packs_89 (by decide) ?_
  refine y_iald (q0 := 2) (j := 7) (v := (ar S 1 7)) b (mw_2 cy a S) (by decide) rfl dX12_packs_90 ?_
  refine z_eqi h_a_1_7 ?_
  refine z_i2l (v := 0) b dX12_packs_91 (by decide) ?_
  refine z_lor b dX12_packs_92 rfl ?_
  refine z_lstore_n (lv' := [(1, .long (((((((((((805330944 ||| ((ar S 0 2) : Int32).toInt64) <<< ((2 : Int32).toInt64 &&& 63)) ||| 3) <<< ((1 : Int32).toInt64 &&& 63)) ||| 0) <<< ((3 : Int32).toInt64 &&& 63)) ||| 0) <<< ((1 : Int32).toInt64 &&& 63)) ||| 0) <<< ((3 : Int32).toInt64 &&& 63)) ||| 0)), (4, .int 1), (3, .int 2), (0, .ref (a 0))]) b dX12_packs_93 rfl (by decide) rfl ?_
  refine z_lload_n b dX12_packs_94 rfl rfl ?_
  refine z_iconst (v := 1) b dX12_packs_95 (by decide) ?_
  refine z_lshl b dX12_packs_96 rfl ?_
  refine z_aload_n b dX12_packs_97 rfl rfl ?_
  refine z_get (q0 := 0) (k9 := 4) (v := .ref (a 5)) b (mw_0 cy a S) rfl in_X12 (by decide) wf_X12_27 rfl dX12_packs_98 ?_
  refine z_iconst (v := 3) b dX12_packs_101 (by decide) ?_
  refine z_iload_n b dX12_packs_102 rfl rfl ?_
  refine z_imul (v := 6) b dX12_packs_103 (by decide) ?_
  refine z_iload_n b dX12_packs_104 rfl rfl ?_
  refine z_iload b dX12_packs_105 rfl ?_
  refine z_calli b (z_runS (As := [.int 2, .int 1]) (st := [.int 6, .ref (a 5), .long ((((((((((((805330944 ||| ((ar S 0 2) : Int32).toInt64) <<< ((2 : Int32).toInt64 &&& 63)) ||| 3) <<< ((1 : Int32).toInt64 &&& 63)) ||| 0) <<< ((3 : Int32).toInt64 &&& 63)) ||| 0) <<< ((1 : Int32).toInt64 &&& 63)) ||| 0) <<< ((3 : Int32).toInt64 &&& 63)) ||| 0) <<< ((1 : Int32).toInt64 &&& 63))]) b (c_X12_other S ) cf_X12_other wm_X12_160 ws_X12_other dX12_packs_107 rfl (Nat.le_of_ble_eq_true rfl) ⟨by decide, by decide, by decide, by decide⟩) (fun r357 u358 h356 => ?_)
  obtain ⟨rfl, rfl⟩ := h356
  refine z_iadd (v := 7) b dX12_packs_110 (by decide) ?_
  refine y_zald (q0 := 5) (j := 7) (v := (ar S 4 7)) b (mw_5 cy a S) (by decide) rfl dX12_packs_111 ?_
  refine z_eqi h_a_4_7 ?_
  refine z_if_eq_t (tgt := 119) b dX12_packs_112 (by decide) (by decide) ?_
  refine z_lconst (v := 0) b dX12_packs_119 (by decide) ?_
  refine z_lor b dX12_packs_120 rfl ?_
  refine z_lstore_n (lv' := [(1, .long (((((((((((((805330944 ||| ((ar S 0 2) : Int32).toInt64) <<< ((2 : Int32).toInt64 &&& 63)) ||| 3) <<< ((1 : Int32).toInt64 &&& 63)) ||| 0) <<< ((3 : Int32).toInt64 &&& 63)) ||| 0) <<< ((1 : Int32).toInt64 &&& 63)) ||| 0) <<< ((3 : Int32).toInt64 &&& 63)) ||| 0) <<< ((1 : Int32).toInt64 &&& 63)) ||| 0)), (4, .int 1), (3, .int 2), (0, .ref (a 0))]) b dX12_packs_121 rfl (by decide) rfl ?_
  refine z_iinc (k9 := 1) (v := 2) (lv' := [(4, .int 2), (1, .long (((((((((((((805330944 ||| ((ar S 0 2) : Int32).toInt64) <<< ((2 : Int32).toInt64 &&& 63)) ||| 3) <<< ((1 : Int32).toInt64 &&& 63)) ||| 0) <<< ((3 : Int32).toInt64 &&& 63)) ||| 0) <<< ((1 : Int32).toInt64 &&& 63)) ||| 0) <<< ((3 : Int32).toInt64 &&& 63)) ||| 0) <<< ((1 : Int32).toInt64 &&& 63)) ||| 0)), (3, .int 2), (0, .ref (a 0))]) b dX12_packs_122 rfl (by decide) (by decide) rfl ?_
  refine z_goto (tgt := 67) b dX12_packs_125 (by decide) ?_
  refine z_iload b dX12_packs_67 rfl ?_
  refine z_iconst (v := 2) b dX12_packs_69 (by decide) ?_
  refine z_icmp_ge_t (tgt := 128) b dX12_packs_70 (by decide) (by decide) ?_
  refine z_iinc (k9 := 2) (v := 3) (lv' := [(3, .int 3), (4, .int 2), (1, .long (((((((((((((805330944 ||| ((ar S 0 2) : Int32).toInt64) <<< ((2 : Int32).toInt64 &&& 63)) ||| 3) <<< ((1 : Int32).toInt64 &&& 63)) ||| 0) <<< ((3 : Int32).toInt64 &&& 63)) ||| 0) <<< ((1 : Int32).toInt64 &&& 63)) ||| 0) <<< ((3 : Int32).toInt64 &&& 63)) ||| 0) <<< ((1 : Int32).toInt64 &&& 63)) ||| 0)), (0, .ref (a 0))]) b dX12_packs_128 rfl (by decide) (by decide) rfl ?_
  refine z_goto (tgt := 8) b dX12_packs_131 (by decide) ?_
  refine z_iload_n b dX12_packs_8 rfl rfl ?_
  refine z_iconst (v := 3) b dX12_packs_9 (by decide) ?_
  refine z_icmp_ge_t (tgt := 134) b dX12_packs_10 (by decide) (by decide) ?_
  refine z_lload_n b dX12_packs_134 rfl rfl ?_
  exact z_lret (u := S) b rfl dX12_packs_135 ⟨rfl, rfl⟩ rfl (by decide) (by decide)

set_option maxHeartbeats 4000000 in
set_option maxRecDepth 100000 in
theorem c_X12_told_3 {l : Launch} {D : va_G} {cy : Nat → ClassId} {T0 tB tE : Nat} {a : Nat → Nat} (S : GS)  (h_i_0 : fi S 0 = 0) (h_a_0_0 : ar S 0 0 = 0) (h_a_2_0 : ar S 2 0 = 3) (h_a_3_1 : ar S 3 1 = 0) (h_a_1_1 : ar S 1 1 = 0) (h_a_4_1 : ar S 4 1 = 0) (h_a_1_2 : ar S 1 2 = 0) (h_a_4_2 : ar S 4 2 = 0) (h_a_0_1 : ar S 0 1 = 0) (h_a_2_1 : ar S 2 1 = 3) (h_a_3_5 : ar S 3 5 = 0) (h_a_1_5 : ar S 1 5 = 0) (h_a_4_5 : ar S 4 5 = 0) (h_a_1_3 : ar S 1 3 = 0) (h_a_4_3 : ar S 4 3 = 0) (h_a_2_2 : ar S 2 2 = 3) (h_a_3_6 : ar S 3 6 = 0) (h_a_1_6 : ar S 1 6 = 0) (h_a_4_6 : ar S 4 6 = 0) (h_a_1_7 : ar S 1 7 = 0) (h_a_4_7 : ar S 4 7 = 0) : Ct l D cy T0 tB tE yX12_told cX12_told 1 (some .boolean) 2 45 0 0 (mw cy a S) [.ref (a 0)] (QI D (U := GS) (fun r u => 1 = r ∧ sl S 0 (((((((((((((805330944 ||| ((ar S 0 2) : Int32).toInt64) <<< ((2 : Int32).toInt64 &&& 63)) ||| 3) <<< ((1 : Int32).toInt64 &&& 63)) ||| 0) <<< ((3 : Int32).toInt64 &&& 63)) ||| 0) <<< ((1 : Int32).toInt64 &&& 63)) ||| 0) <<< ((3 : Int32).toInt64 &&& 63)) ||| 0) <<< ((1 : Int32).toInt64 &&& 63)) ||| 0) = u) (mw cy a)) := by
  refine Ct.ofZ RX12 "told" [(0, .ref (a 0))] rfl rfl rfl rfl (Nat.le_of_ble_eq_true rfl) ?_
  intro p e R s m args below meth c A b
  refine z_aload_n b dX12_told_0 rfl rfl ?_
  refine z_aload_n b dX12_told_1 rfl rfl ?_
  refine z_calll b (z_runV (q0 := 0) (As := []) (st := [.ref (a 0)]) b (c_X12_packs_3 S h_i_0 h_a_0_0 h_a_2_0 h_a_3_1 h_a_1_1 h_a_4_1 h_a_1_2 h_a_4_2 h_a_0_1 h_a_2_1 h_a_3_5 h_a_1_5 h_a_4_5 h_a_1_3 h_a_4_3 h_a_2_2 h_a_3_6 h_a_1_6 h_a_4_6 h_a_1_7 h_a_4_7) cf_X12_packs (mw_0 cy a S) rfl wm_X12_149 wi_X12_packs ws_X12_packs dX12_told_2 rfl (Nat.le_of_ble_eq_true rfl) ⟨by decide, by decide, by decide, by decide⟩) (fun r360 u361 h359 => ?_)
  obtain ⟨rfl, rfl⟩ := h359
  refine z_put (q0 := 0) (k9 := 6) tyX12 b (mw_0 cy a S) rfl in_X12 tyX12_ok nmX12 (by decide) wf_X12_153 rfl rfl rfl rfl (Nat.le_of_ble_eq_true rfl) dX12_told_5 (mwp_0_6 cy a S (((((((((((((805330944 ||| ((ar S 0 2) : Int32).toInt64) <<< ((2 : Int32).toInt64 &&& 63)) ||| 3) <<< ((1 : Int32).toInt64 &&& 63)) ||| 0) <<< ((3 : Int32).toInt64 &&& 63)) ||| 0) <<< ((1 : Int32).toInt64 &&& 63)) ||| 0) <<< ((3 : Int32).toInt64 &&& 63)) ||| 0) <<< ((1 : Int32).toInt64 &&& 63)) ||| 0)) ?_
  refine z_iconst (v := 1) b dX12_told_8 (by decide) ?_
  exact z_zret (u := (sl S 0 (((((((((((((805330944 ||| ((ar S 0 2) : Int32).toInt64) <<< ((2 : Int32).toInt64 &&& 63)) ||| 3) <<< ((1 : Int32).toInt64 &&& 63)) ||| 0) <<< ((3 : Int32).toInt64 &&& 63)) ||| 0) <<< ((1 : Int32).toInt64 &&& 63)) ||| 0) <<< ((3 : Int32).toInt64 &&& 63)) ||| 0) <<< ((1 : Int32).toInt64 &&& 63)) ||| 0))) b rfl (by decide) dX12_told_9 ⟨rfl, rfl⟩ rfl (by decide) (by decide)

set_option maxHeartbeats 4000000 in
set_option maxRecDepth 100000 in
theorem c_X12_coin_10 {l : Launch} {D : va_G} {cy : Nat → ClassId} {T0 tB tE : Nat} {a : Nat → Nat} (S : GS) (p0 : Int32) (h_l_0 : fl S 0 = 1649317774848) (h_a_4_7 : ar S 4 7 = 0) (h_a_1_7 : ar S 1 7 = 0) (h_a_4_6 : ar S 4 6 = 0) (h_a_1_6 : ar S 1 6 = 0) (h_a_3_6 : ar S 3 6 = 0) (h_a_3_2 : ar S 3 2 = 0) (h_a_2_2 : ar S 2 2 = 3) (h_a_0_2 : ar S 0 2 = 0) (h_a_4_3 : ar S 4 3 = 0) (h_a_1_3 : ar S 1 3 = 0) (h_a_4_5 : ar S 4 5 = 0) (h_a_1_5 : ar S 1 5 = 0) (h_a_3_5 : ar S 3 5 = 0) (h_a_3_7 : ar S 3 7 = 0) (h_a_2_1 : ar S 2 1 = 3) (h_a_0_1 : ar S 0 1 = 0) (h_a_4_2 : ar S 4 2 = 0) (h_a_1_2 : ar S 1 2 = 0) (h_a_4_1 : ar S 4 1 = 0) (h_a_1_1 : ar S 1 1 = 0) (h_a_3_1 : ar S 3 1 = 0) (h_a_3_3 : ar S 3 3 = 0) (h_a_2_0 : ar S 2 0 = 3) (h_a_0_0 : ar S 0 0 = 0) (h_i_0 : fi S 0 = 0) (hr_p0 : 0 ≤ p0.toInt ∧ p0.toInt ≤ 15) : Ct l D cy T0 tB tE yX12_coin cX12_coin 3 (some .boolean) 3 65 0 0 (mw cy a S) [.ref (a 0), .int 2, .int p0] (QI D (U := GS) (fun r u => 1 = r ∧ sl (su S 0 2 p0) 0 (((((((((((((805330944 ||| ((ar (su S 0 2 p0) 0 2) : Int32).toInt64) <<< ((2 : Int32).toInt64 &&& 63)) ||| 3) <<< ((1 : Int32).toInt64 &&& 63)) ||| 0) <<< ((3 : Int32).toInt64 &&& 63)) ||| 0) <<< ((1 : Int32).toInt64 &&& 63)) ||| 0) <<< ((3 : Int32).toInt64 &&& 63)) ||| 0) <<< ((1 : Int32).toInt64 &&& 63)) ||| 0) = u) (mw cy a)) := by
  refine Ct.ofZ RX12 "coin" [(0, .ref (a 0)), (1, .int 2), (2, .int p0)] rfl rfl rfl rfl (Nat.le_of_ble_eq_true rfl) ?_
  intro p e R s m args below meth c A b
  refine z_iload_n b dX12_coin_0 rfl rfl ?_
  refine z_calli b (z_runS (As := [.int 2]) (st := []) b (c_X12_isOne_5 S ) cf_X12_isOne wm_X12_170 ws_X12_isOne dX12_coin_1 rfl (Nat.le_of_ble_eq_true rfl) ⟨by decide, by decide, by decide, by decide⟩) (fun r306 u307 h305 => ?_)
  obtain ⟨rfl, rfl⟩ := h305
  refine z_if_eq_f (tgt := 17) b dX12_coin_4 (by decide) (by decide) ?_
  refine z_iload_n b dX12_coin_7 rfl rfl ?_
  refine z_iconst (v := 0) b dX12_coin_8 (by decide) ?_
  refine z_bipush (v := 15) b dX12_coin_9 (by decide) ?_
  refine z_calli b (z_runS (As := [.int p0, .int 0, .int 15]) (st := []) b (c_X12_isIn_5 S p0 ⟨by omega, by omega⟩) cf_X12_isIn wm_X12_1 ws_X12_isIn dX12_coin_11 rfl (Nat.le_of_ble_eq_true rfl) ⟨by decide, by decide, by decide, by decide⟩) (fun r309 u310 h308 => ?_)
  obtain ⟨rfl, rfl⟩ := h308
  refine z_if_ne_t (tgt := 19) b dX12_coin_14 (by decide) (by decide) ?_
  refine z_aload_n b dX12_coin_19 rfl rfl ?_
  refine z_aload_n b dX12_coin_20 rfl rfl ?_
  refine z_get (q0 := 0) (k9 := 6) (v := .long (fl S 0)) b (mw_0 cy a S) rfl in_X12 (by decide) wf_X12_153 rfl dX12_coin_21 ?_
  refine z_eql h_l_0 ?_
  refine z_callv b (z_runV (q0 := 0) (As := [.long 1649317774848]) (st := []) b (c_X12_takes S h_a_4_7 h_a_1_7 h_a_4_6 h_a_1_6 h_a_3_6 h_a_3_2 h_a_2_2 h_a_0_2 h_a_4_3 h_a_1_3 h_a_4_5 h_a_1_5 h_a_3_5 h_a_3_7 h_a_2_1 h_a_0_1 h_a_4_2 h_a_1_2 h_a_4_1 h_a_1_1 h_a_3_1 h_a_3_3 h_a_2_0 h_a_0_0 h_i_0) cf_X12_takes (mw_0 cy a S) rfl wm_X12_174 wi_X12_takes ws_X12_takes dX12_coin_24 rfl (Nat.le_of_ble_eq_true rfl) ⟨by decide, by decide, by decide, by decide⟩) (fun u313 h311 => ?_)
  obtain rfl := h311
  refine z_aload_n b dX12_coin_27 rfl rfl ?_
  refine z_get (q0 := 0) (k9 := 0) (v := .ref (a 1)) b (mw_0 cy a S) rfl in_X12 (by decide) wf_X12_13 rfl dX12_coin_28 ?_
  refine z_iload_n b dX12_coin_31 rfl rfl ?_
  refine z_iload_n b dX12_coin_32 rfl rfl ?_
  refine y_iast (q0 := 1) (j := 2) b (mw_1 cy a S) (by decide) dX12_coin_33 (mwa_1 cy a S 2 p0) ?_
  refine z_aload_n b dX12_coin_34 rfl rfl ?_
  refine z_calli b (z_runV (q0 := 0) (As := []) (st := []) b (c_X12_told_3 (su S 0 2 p0) h_i_0 h_a_0_0 h_a_2_0 h_a_3_1 h_a_1_1 h_a_4_1 h_a_1_2 h_a_4_2 h_a_0_1 h_a_2_1 h_a_3_5 h_a_1_5 h_a_4_5 h_a_1_3 h_a_4_3 h_a_2_2 h_a_3_6 h_a_1_6 h_a_4_6 h_a_1_7 h_a_4_7) cf_X12_told (mw_0 cy a (su S 0 2 p0)) rfl wm_X12_178 wi_X12_told ws_X12_told dX12_coin_35 rfl (Nat.le_of_ble_eq_true rfl) ⟨by decide, by decide, by decide, by decide⟩) (fun r363 u364 h362 => ?_)
  obtain ⟨rfl, rfl⟩ := h362
  exact z_zret (u := (sl (su S 0 2 p0) 0 (((((((((((((805330944 ||| ((ar (su S 0 2 p0) 0 2) : Int32).toInt64) <<< ((2 : Int32).toInt64 &&& 63)) ||| 3) <<< ((1 : Int32).toInt64 &&& 63)) ||| 0) <<< ((3 : Int32).toInt64 &&& 63)) ||| 0) <<< ((1 : Int32).toInt64 &&& 63)) ||| 0) <<< ((3 : Int32).toInt64 &&& 63)) ||| 0) <<< ((1 : Int32).toInt64 &&& 63)) ||| 0))) b rfl (by decide) dX12_coin_38 ⟨rfl, rfl⟩ rfl (by decide) (by decide)

set_option maxHeartbeats 4000000 in
set_option maxRecDepth 100000 in
theorem c_X11_coin_11 {l : Launch} {D : va_G} {cy : Nat → ClassId} {T0 tB tE : Nat} {a : Nat → Nat} {rw : Nat → Option Nat} (S : GS) (p0 : Int32)  (hr_p0 : 16 ≤ p0.toInt ∧ p0.toInt ≤ 2147483647) : Ct l D cy T0 tB tE yX11_coin cX11_coin 3 (some .boolean) 1 21 0 0 (cw cy tE a rw S) [.ref (a 0), .int 2, .int p0] (QI D (U := GS) (fun r u => 0 = r ∧ S = u) (cw cy tE a rw)) := by
  refine Ct.ofZ RX11 "coin" [(0, .ref (a 0)), (1, .int 2), (2, .int p0)] rfl rfl rfl rfl (Nat.le_of_ble_eq_true rfl) ?_
  intro p e R s m args below meth c A b
  refine z_iload_n b dX11_coin_0 rfl rfl ?_
  refine z_calli b (z_runS (As := [.int 2]) (st := []) b (c_X11_isPerson_5 S ) cf_X11_isPerson wm_X11_69 ws_X11_isPerson dX11_coin_1 rfl (Nat.le_of_ble_eq_true rfl) ⟨by decide, by decide, by decide, by decide⟩) (fun r366 u367 h365 => ?_)
  obtain ⟨rfl, rfl⟩ := h365
  refine z_if_eq_f (tgt := 16) b dX11_coin_4 (by decide) (by decide) ?_
  refine z_iload_n b dX11_coin_7 rfl rfl ?_
  refine z_bipush (v := 15) b dX11_coin_8 (by decide) ?_
  refine z_calli b (z_runS (As := [.int p0, .int 15]) (st := []) b (c_X11_isWithin_3 S p0 ⟨by omega, by omega⟩) cf_X11_isWithin wm_X11_73 ws_X11_isWithin dX11_coin_10 rfl (Nat.le_of_ble_eq_true rfl) ⟨by decide, by decide, by decide, by decide⟩) (fun r369 u370 h368 => ?_)
  obtain ⟨rfl, rfl⟩ := h368
  refine z_if_ne_f (tgt := 18) b dX11_coin_13 (by decide) (by decide) ?_
  refine z_iconst (v := 0) b dX11_coin_16 (by decide) ?_
  exact z_zret (u := S) b rfl (by decide) dX11_coin_17 ⟨rfl, rfl⟩ rfl (by decide) (by decide)

set_option maxHeartbeats 4000000 in
set_option maxRecDepth 100000 in
theorem c_X12_coin_11 {l : Launch} {D : va_G} {cy : Nat → ClassId} {T0 tB tE : Nat} {a : Nat → Nat} (S : GS) (p0 : Int32)  (hr_p0 : 16 ≤ p0.toInt ∧ p0.toInt ≤ 2147483647) : Ct l D cy T0 tB tE yX12_coin cX12_coin 3 (some .boolean) 2 42 0 0 (mw cy a S) [.ref (a 0), .int 2, .int p0] (QI D (U := GS) (fun r u => 0 = r ∧ S = u) (mw cy a)) := by
  refine Ct.ofZ RX12 "coin" [(0, .ref (a 0)), (1, .int 2), (2, .int p0)] rfl rfl rfl rfl (Nat.le_of_ble_eq_true rfl) ?_
  intro p e R s m args below meth c A b
  refine z_iload_n b dX12_coin_0 rfl rfl ?_
  refine z_calli b (z_runS (As := [.int 2]) (st := []) b (c_X12_isOne_5 S ) cf_X12_isOne wm_X12_170 ws_X12_isOne dX12_coin_1 rfl (Nat.le_of_ble_eq_true rfl) ⟨by decide, by decide, by decide, by decide⟩) (fun r372 u373 h371 => ?_)
  obtain ⟨rfl, rfl⟩ := h371
  refine z_if_eq_f (tgt := 17) b dX12_coin_4 (by decide) (by decide) ?_
  refine z_iload_n b dX12_coin_7 rfl rfl ?_
  refine z_iconst (v := 0) b dX12_coin_8 (by decide) ?_
  refine z_bipush (v := 15) b dX12_coin_9 (by decide) ?_
  refine z_calli b (z_runS (As := [.int p0, .int 0, .int 15]) (st := []) b (c_X12_isIn_6 S p0 ⟨by omega, by omega⟩) cf_X12_isIn wm_X12_1 ws_X12_isIn dX12_coin_11 rfl (Nat.le_of_ble_eq_true rfl) ⟨by decide, by decide, by decide, by decide⟩) (fun r375 u376 h374 => ?_)
  obtain ⟨rfl, rfl⟩ := h374
  refine z_if_ne_f (tgt := 19) b dX12_coin_14 (by decide) (by decide) ?_
  refine z_iconst (v := 0) b dX12_coin_17 (by decide) ?_
  exact z_zret (u := S) b rfl (by decide) dX12_coin_18 ⟨rfl, rfl⟩ rfl (by decide) (by decide)

set_option maxHeartbeats 4000000 in
set_option maxRecDepth 100000 in
theorem c_X11_isThing {l : Launch} {D : va_G} {cy : Nat → ClassId} {T0 tB tE : Nat} {a : Nat → Nat} {rw : Nat → Option Nat} (S : GS) (p0 : Int32)  (hr_p0 : (-2147483648) ≤ p0.toInt ∧ p0.toInt ≤ (-1)) : Ct l D cy T0 tB tE yX11_isThing cX11_isThing 1 (some .boolean) 0 0 0 0 (cw cy tE a rw S) [.int p0] (QI D (U := GS) (fun r u => 0 = r ∧ S = u) (cw cy tE a rw)) := by
  refine Ct.ofZ RX11 "isThing" [(0, .int p0)] rfl rfl rfl rfl (Nat.le_of_ble_eq_true rfl) ?_
  intro p e R s m args below meth c A b
  refine z_iload_n b dX11_isThing_0 rfl rfl ?_
  refine y_if_lt (tgt := 13) (xl := p0.toInt) b rfl dX11_isThing_1 (by decide) (fun c377 => ?_) (fun c377 => ?_)
  · refine z_iconst (v := 0) b dX11_isThing_13 (by decide) ?_
    exact z_zret (u := S) b rfl (by decide) dX11_isThing_14 ⟨rfl, rfl⟩ rfl (by decide) (by decide)
  · exfalso; omega

set_option maxHeartbeats 4000000 in
set_option maxRecDepth 100000 in
theorem c_X11_owner {l : Launch} {D : va_G} {cy : Nat → ClassId} {T0 tB tE : Nat} {a : Nat → Nat} {rw : Nat → Option Nat} (S : GS) (p0 : Int32) (p1 : Int32)  (hr_p0 : (-2147483648) ≤ p0.toInt ∧ p0.toInt ≤ (-1)) : Ct l D cy T0 tB tE yX11_owner cX11_owner 3 (some .boolean) 1 20 0 0 (cw cy tE a rw S) [.ref (a 0), .int p0, .int p1] (QI D (U := GS) (fun r u => 0 = r ∧ S = u) (cw cy tE a rw)) := by
  refine Ct.ofZ RX11 "owner" [(0, .ref (a 0)), (1, .int p0), (2, .int p1)] rfl rfl rfl rfl (Nat.le_of_ble_eq_true rfl) ?_
  intro p e R s m args below meth c A b
  refine z_iload_n b dX11_owner_0 rfl rfl ?_
  refine z_calli b (z_runS (As := [.int p0]) (st := []) b (c_X11_isThing S p0 ⟨by omega, by omega⟩) cf_X11_isThing wm_X11_87 ws_X11_isThing dX11_owner_1 rfl (Nat.le_of_ble_eq_true rfl) ⟨by decide, by decide, by decide, by decide⟩) (fun r379 u380 h378 => ?_)
  obtain ⟨rfl, rfl⟩ := h378
  refine z_if_eq_t (tgt := 15) b dX11_owner_4 (by decide) (by decide) ?_
  refine z_iconst (v := 0) b dX11_owner_15 (by decide) ?_
  exact z_zret (u := S) b rfl (by decide) dX11_owner_16 ⟨rfl, rfl⟩ rfl (by decide) (by decide)

set_option maxHeartbeats 4000000 in
set_option maxRecDepth 100000 in
theorem c_X12_owner {l : Launch} {D : va_G} {cy : Nat → ClassId} {T0 tB tE : Nat} {a : Nat → Nat} (S : GS) (p0 : Int32) (p1 : Int32)  (hr_p0 : (-2147483648) ≤ p0.toInt ∧ p0.toInt ≤ (-1)) : Ct l D cy T0 tB tE yX12_owner cX12_owner 3 (some .boolean) 2 42 0 0 (mw cy a S) [.ref (a 0), .int p0, .int p1] (QI D (U := GS) (fun r u => 0 = r ∧ S = u) (mw cy a)) := by
  refine Ct.ofZ RX12 "owner" [(0, .ref (a 0)), (1, .int p0), (2, .int p1)] rfl rfl rfl rfl (Nat.le_of_ble_eq_true rfl) ?_
  intro p e R s m args below meth c A b
  refine z_iload_n b dX12_owner_0 rfl rfl ?_
  refine z_calli b (z_runS (As := [.int p0]) (st := []) b (c_X12_isOne S p0 ⟨by omega, by omega⟩) cf_X12_isOne wm_X12_170 ws_X12_isOne dX12_owner_1 rfl (Nat.le_of_ble_eq_true rfl) ⟨by decide, by decide, by decide, by decide⟩) (fun r382 u383 h381 => ?_)
  obtain ⟨rfl, rfl⟩ := h381
  refine z_if_eq_t (tgt := 16) b dX12_owner_4 (by decide) (by decide) ?_
  refine z_iconst (v := 0) b dX12_owner_16 (by decide) ?_
  exact z_zret (u := S) b rfl (by decide) dX12_owner_17 ⟨rfl, rfl⟩ rfl (by decide) (by decide)

set_option maxHeartbeats 4000000 in
set_option maxRecDepth 100000 in
theorem c_X11_isThing_2 {l : Launch} {D : va_G} {cy : Nat → ClassId} {T0 tB tE : Nat} {a : Nat → Nat} {rw : Nat → Option Nat} (S : GS) (p0 : Int32)  (hr_p0 : 3 ≤ p0.toInt ∧ p0.toInt ≤ 2147483647) : Ct l D cy T0 tB tE yX11_isThing cX11_isThing 1 (some .boolean) 0 0 0 0 (cw cy tE a rw S) [.int p0] (QI D (U := GS) (fun r u => 0 = r ∧ S = u) (cw cy tE a rw)) := by
  refine Ct.ofZ RX11 "isThing" [(0, .int p0)] rfl rfl rfl rfl (Nat.le_of_ble_eq_true rfl) ?_
  intro p e R s m args below meth c A b
  refine z_iload_n b dX11_isThing_0 rfl rfl ?_
  refine y_if_lt (tgt := 13) (xl := p0.toInt) b rfl dX11_isThing_1 (by decide) (fun c384 => ?_) (fun c384 => ?_)
  · exfalso; omega
  · refine z_iload_n b dX11_isThing_4 rfl rfl ?_
    refine z_iconst (v := 3) b dX11_isThing_5 (by decide) ?_
    refine y_icmp_ge (tgt := 13) (xl := p0.toInt) (yl := 3) b rfl (by decide) dX11_isThing_6 (by decide) (fun c385 => ?_) (fun c385 => ?_)
    · refine z_iconst (v := 0) b dX11_isThing_13 (by decide) ?_
      exact z_zret (u := S) b rfl (by decide) dX11_isThing_14 ⟨rfl, rfl⟩ rfl (by decide) (by decide)
    · exfalso; omega

set_option maxHeartbeats 4000000 in
set_option maxRecDepth 100000 in
theorem c_X11_owner_2 {l : Launch} {D : va_G} {cy : Nat → ClassId} {T0 tB tE : Nat} {a : Nat → Nat} {rw : Nat → Option Nat} (S : GS) (p0 : Int32) (p1 : Int32)  (hr_p0 : 3 ≤ p0.toInt ∧ p0.toInt ≤ 2147483647) : Ct l D cy T0 tB tE yX11_owner cX11_owner 3 (some .boolean) 1 20 0 0 (cw cy tE a rw S) [.ref (a 0), .int p0, .int p1] (QI D (U := GS) (fun r u => 0 = r ∧ S = u) (cw cy tE a rw)) := by
  refine Ct.ofZ RX11 "owner" [(0, .ref (a 0)), (1, .int p0), (2, .int p1)] rfl rfl rfl rfl (Nat.le_of_ble_eq_true rfl) ?_
  intro p e R s m args below meth c A b
  refine z_iload_n b dX11_owner_0 rfl rfl ?_
  refine z_calli b (z_runS (As := [.int p0]) (st := []) b (c_X11_isThing_2 S p0 ⟨by omega, by omega⟩) cf_X11_isThing wm_X11_87 ws_X11_isThing dX11_owner_1 rfl (Nat.le_of_ble_eq_true rfl) ⟨by decide, by decide, by decide, by decide⟩) (fun r387 u388 h386 => ?_)
  obtain ⟨rfl, rfl⟩ := h386
  refine z_if_eq_t (tgt := 15) b dX11_owner_4 (by decide) (by decide) ?_
  refine z_iconst (v := 0) b dX11_owner_15 (by decide) ?_
  exact z_zret (u := S) b rfl (by decide) dX11_owner_16 ⟨rfl, rfl⟩ rfl (by decide) (by decide)

set_option maxHeartbeats 4000000 in
set_option maxRecDepth 100000 in
theorem c_X12_owner_2 {l : Launch} {D : va_G} {cy : Nat → ClassId} {T0 tB tE : Nat} {a : Nat → Nat} (S : GS) (p0 : Int32) (p1 : Int32)  (hr_p0 : 3 ≤ p0.toInt ∧ p0.toInt ≤ 2147483647) : Ct l D cy T0 tB tE yX12_owner cX12_owner 3 (some .boolean) 2 42 0 0 (mw cy a S) [.ref (a 0), .int p0, .int p1] (QI D (U := GS) (fun r u => 0 = r ∧ S = u) (mw cy a)) := by
  refine Ct.ofZ RX12 "owner" [(0, .ref (a 0)), (1, .int p0), (2, .int p1)] rfl rfl rfl rfl (Nat.le_of_ble_eq_true rfl) ?_
  intro p e R s m args below meth c A b
  refine z_iload_n b dX12_owner_0 rfl rfl ?_
  refine z_calli b (z_runS (As := [.int p0]) (st := []) b (c_X12_isOne_2 S p0 ⟨by omega, by omega⟩) cf_X12_isOne wm_X12_170 ws_X12_isOne dX12_owner_1 rfl (Nat.le_of_ble_eq_true rfl) ⟨by decide, by decide, by decide, by decide⟩) (fun r390 u391 h389 => ?_)
  obtain ⟨rfl, rfl⟩ := h389
  refine z_if_eq_t (tgt := 16) b dX12_owner_4 (by decide) (by decide) ?_
  refine z_iconst (v := 0) b dX12_owner_16 (by decide) ?_
  exact z_zret (u := S) b rfl (by decide) dX12_owner_17 ⟨rfl, rfl⟩ rfl (by decide) (by decide)

set_option maxHeartbeats 4000000 in
set_option maxRecDepth 100000 in
theorem c_X11_isThing_3 {l : Launch} {D : va_G} {cy : Nat → ClassId} {T0 tB tE : Nat} {a : Nat → Nat} {rw : Nat → Option Nat} (S : GS)   : Ct l D cy T0 tB tE yX11_isThing cX11_isThing 1 (some .boolean) 0 0 0 0 (cw cy tE a rw S) [.int 0] (QI D (U := GS) (fun r u => 1 = r ∧ S = u) (cw cy tE a rw)) := by
  refine Ct.ofZ RX11 "isThing" [(0, .int 0)] rfl rfl rfl rfl (Nat.le_of_ble_eq_true rfl) ?_
  intro p e R s m args below meth c A b
  refine z_iload_n b dX11_isThing_0 rfl rfl ?_
  refine z_if_lt_f (tgt := 13) b dX11_isThing_1 (by decide) (by decide) ?_
  refine z_iload_n b dX11_isThing_4 rfl rfl ?_
  refine z_iconst (v := 3) b dX11_isThing_5 (by decide) ?_
  refine z_icmp_ge_f (tgt := 13) b dX11_isThing_6 (by decide) (by decide) ?_
  refine z_iconst (v := 1) b dX11_isThing_9 (by decide) ?_
  refine z_goto (tgt := 14) b dX11_isThing_10 (by decide) ?_
  exact z_zret (u := S) b rfl (by decide) dX11_isThing_14 ⟨rfl, rfl⟩ rfl (by decide) (by decide)

set_option maxHeartbeats 4000000 in
set_option maxRecDepth 100000 in
theorem c_X11_isWithin_4 {l : Launch} {D : va_G} {cy : Nat → ClassId} {T0 tB tE : Nat} {a : Nat → Nat} {rw : Nat → Option Nat} (S : GS) (p0 : Int32)  (hr_p0 : (-2147483648) ≤ p0.toInt ∧ p0.toInt ≤ (-1)) : Ct l D cy T0 tB tE yX11_isWithin cX11_isWithin 2 (some .boolean) 0 0 0 0 (cw cy tE a rw S) [.int p0, .int 3] (QI D (U := GS) (fun r u => 0 = r ∧ S = u) (cw cy tE a rw)) := by
  refine Ct.ofZ RX11 "isWithin" [(0, .int p0), (1, .int 3)] rfl rfl rfl rfl (Nat.le_of_ble_eq_true rfl) ?_
  intro p e R s m args below meth c A b
  refine z_iload_n b dX11_isWithin_0 rfl rfl ?_
  refine y_if_lt (tgt := 13) (xl := p0.toInt) b rfl dX11_isWithin_1 (by decide) (fun c395 => ?_) (fun c395 => ?_)
  · refine z_iconst (v := 0) b dX11_isWithin_13 (by decide) ?_
    exact z_zret (u := S) b rfl (by decide) dX11_isWithin_14 ⟨rfl, rfl⟩ rfl (by decide) (by decide)
  · exfalso; omega

set_option maxHeartbeats 4000000 in
set_option maxRecDepth 100000 in
theorem c_X11_owner_3 {l : Launch} {D : va_G} {cy : Nat → ClassId} {T0 tB tE : Nat} {a : Nat → Nat} {rw : Nat → Option Nat} (S : GS) (p0 : Int32)  (hr_p0 : (-2147483648) ≤ p0.toInt ∧ p0.toInt ≤ (-1)) : Ct l D cy T0 tB tE yX11_owner cX11_owner 3 (some .boolean) 1 21 0 0 (cw cy tE a rw S) [.ref (a 0), .int 0, .int p0] (QI D (U := GS) (fun r u => 0 = r ∧ S = u) (cw cy tE a rw)) := by
  refine Ct.ofZ RX11 "owner" [(0, .ref (a 0)), (1, .int 0), (2, .int p0)] rfl rfl rfl rfl (Nat.le_of_ble_eq_true rfl) ?_
  intro p e R s m args below meth c A b
  refine z_iload_n b dX11_owner_0 rfl rfl ?_
  refine z_calli b (z_runS (As := [.int 0]) (st := []) b (c_X11_isThing_3 S ) cf_X11_isThing wm_X11_87 ws_X11_isThing dX11_owner_1 rfl (Nat.le_of_ble_eq_true rfl) ⟨by decide, by decide, by decide, by decide⟩) (fun r393 u394 h392 => ?_)
  obtain ⟨rfl, rfl⟩ := h392
  refine z_if_eq_f (tgt := 15) b dX11_owner_4 (by decide) (by decide) ?_
  refine z_iload_n b dX11_owner_7 rfl rfl ?_
  refine z_iconst (v := 3) b dX11_owner_8 (by decide) ?_
  refine z_calli b (z_runS (As := [.int p0, .int 3]) (st := []) b (c_X11_isWithin_4 S p0 ⟨by omega, by omega⟩) cf_X11_isWithin wm_X11_73 ws_X11_isWithin dX11_owner_9 rfl (Nat.le_of_ble_eq_true rfl) ⟨by decide, by decide, by decide, by decide⟩) (fun r397 u398 h396 => ?_)
  obtain ⟨rfl, rfl⟩ := h396
  refine z_if_ne_f (tgt := 17) b dX11_owner_12 (by decide) (by decide) ?_
  refine z_iconst (v := 0) b dX11_owner_15 (by decide) ?_
  exact z_zret (u := S) b rfl (by decide) dX11_owner_16 ⟨rfl, rfl⟩ rfl (by decide) (by decide)

set_option maxHeartbeats 4000000 in
set_option maxRecDepth 100000 in
theorem c_X12_isIn_9 {l : Launch} {D : va_G} {cy : Nat → ClassId} {T0 tB tE : Nat} {a : Nat → Nat} (S : GS) (p0 : Int32)  (hr_p0 : (-2147483648) ≤ p0.toInt ∧ p0.toInt ≤ (-1)) : Ct l D cy T0 tB tE yX12_isIn cX12_isIn 3 (some .boolean) 0 0 0 0 (mw cy a S) [.int p0, .int 0, .int 3] (QI D (U := GS) (fun r u => 0 = r ∧ S = u) (mw cy a)) := by
  refine Ct.ofZ RX12 "isIn" [(0, .int p0), (1, .int 0), (2, .int 3)] rfl rfl rfl rfl (Nat.le_of_ble_eq_true rfl) ?_
  intro p e R s m args below meth c A b
  refine z_iload_n b dX12_isIn_0 rfl rfl ?_
  refine z_iload_n b dX12_isIn_1 rfl rfl ?_
  refine y_icmp_lt (tgt := 14) (xl := p0.toInt) (yl := 0) b rfl (by decide) dX12_isIn_2 (by decide) (fun c402 => ?_) (fun c402 => ?_)
  · refine z_iconst (v := 0) b dX12_isIn_14 (by decide) ?_
    exact z_zret (u := S) b rfl (by decide) dX12_isIn_15 ⟨rfl, rfl⟩ rfl (by decide) (by decide)
  · exfalso; omega

set_option maxHeartbeats 4000000 in
set_option maxRecDepth 100000 in
theorem c_X12_owner_3 {l : Launch} {D : va_G} {cy : Nat → ClassId} {T0 tB tE : Nat} {a : Nat → Nat} (S : GS) (p0 : Int32)  (hr_p0 : (-2147483648) ≤ p0.toInt ∧ p0.toInt ≤ (-1)) : Ct l D cy T0 tB tE yX12_owner cX12_owner 3 (some .boolean) 2 42 0 0 (mw cy a S) [.ref (a 0), .int 0, .int p0] (QI D (U := GS) (fun r u => 0 = r ∧ S = u) (mw cy a)) := by
  refine Ct.ofZ RX12 "owner" [(0, .ref (a 0)), (1, .int 0), (2, .int p0)] rfl rfl rfl rfl (Nat.le_of_ble_eq_true rfl) ?_
  intro p e R s m args below meth c A b
  refine z_iload_n b dX12_owner_0 rfl rfl ?_
  refine z_calli b (z_runS (As := [.int 0]) (st := []) b (c_X12_isOne_3 S ) cf_X12_isOne wm_X12_170 ws_X12_isOne dX12_owner_1 rfl (Nat.le_of_ble_eq_true rfl) ⟨by decide, by decide, by decide, by decide⟩) (fun r400 u401 h399 => ?_)
  obtain ⟨rfl, rfl⟩ := h399
  refine z_if_eq_f (tgt := 16) b dX12_owner_4 (by decide) (by decide) ?_
  refine z_iload_n b dX12_owner_7 rfl rfl ?_
  refine z_iconst (v := 0) b dX12_owner_8 (by decide) ?_
  refine z_iconst (v := 3) b dX12_owner_9 (by decide) ?_
  refine z_calli b (z_runS (As := [.int p0, .int 0, .int 3]) (st := []) b (c_X12_isIn_9 S p0 ⟨by omega, by omega⟩) cf_X12_isIn wm_X12_1 ws_X12_isIn dX12_owner_10 rfl (Nat.le_of_ble_eq_true rfl) ⟨by decide, by decide, by decide, by decide⟩) (fun r404 u405 h403 => ?_)
  obtain ⟨rfl, rfl⟩ := h403
  refine z_if_ne_f (tgt := 18) b dX12_owner_13 (by decide) (by decide) ?_
  refine z_iconst (v := 0) b dX12_owner_16 (by decide) ?_
  exact z_zret (u := S) b rfl (by decide) dX12_owner_17 ⟨rfl, rfl⟩ rfl (by decide) (by decide)

set_option maxHeartbeats 4000000 in
set_option maxRecDepth 100000 in
theorem c_X11_isWithin_5 {l : Launch} {D : va_G} {cy : Nat → ClassId} {T0 tB tE : Nat} {a : Nat → Nat} {rw : Nat → Option Nat} (S : GS) (p0 : Int32)  (hr_p0 : 0 ≤ p0.toInt ∧ p0.toInt ≤ 3) : Ct l D cy T0 tB tE yX11_isWithin cX11_isWithin 2 (some .boolean) 0 0 0 0 (cw cy tE a rw S) [.int p0, .int 3] (QI D (U := GS) (fun r u => 1 = r ∧ S = u) (cw cy tE a rw)) := by
  refine Ct.ofZ RX11 "isWithin" [(0, .int p0), (1, .int 3)] rfl rfl rfl rfl (Nat.le_of_ble_eq_true rfl) ?_
  intro p e R s m args below meth c A b
  refine z_iload_n b dX11_isWithin_0 rfl rfl ?_
  refine y_if_lt (tgt := 13) (xl := p0.toInt) b rfl dX11_isWithin_1 (by decide) (fun c409 => ?_) (fun c409 => ?_)
  · exfalso; omega
  · refine z_iload_n b dX11_isWithin_4 rfl rfl ?_
    refine z_iload_n b dX11_isWithin_5 rfl rfl ?_
    refine y_icmp_gt (tgt := 13) (xl := p0.toInt) (yl := 3) b rfl (by decide) dX11_isWithin_6 (by decide) (fun c410 => ?_) (fun c410 => ?_)
    · exfalso; omega
    · refine z_iconst (v := 1) b dX11_isWithin_9 (by decide) ?_
      refine z_goto (tgt := 14) b dX11_isWithin_10 (by decide) ?_
      exact z_zret (u := S) b rfl (by decide) dX11_isWithin_14 ⟨rfl, rfl⟩ rfl (by decide) (by decide)

set_option maxHeartbeats 4000000 in
set_option maxRecDepth 100000 in
theorem c_X9_set_4 {l : Launch} {D : va_G} {cy : Nat → ClassId} {T0 tB tE : Nat} {a : Nat → Nat} {rw : Nat → Option Nat} (S : GS) (p0 : Int32)  (hr_p0 : 0 ≤ p0.toInt ∧ p0.toInt ≤ 3) : Ct l D cy T0 tB tE yX9_set cX9_set 3 none 0 0 0 0 (cw cy tE a rw S) [.ref (a 14), .int 40, .int p0] (QV D (U := GS) (fun u => su S 4 40 p0 = u) (cw cy tE a rw)) := by
  refine Ct.ofZ RX9 "set" [(0, .ref (a 14)), (1, .int 40), (2, .int p0)] rfl rfl rfl rfl (Nat.le_of_ble_eq_true rfl) ?_
  intro p e R s m args below meth c A b
  refine z_iload_n b dX9_set_0 rfl rfl ?_
  refine z_if_lt_f (tgt := 20) b dX9_set_1 (by decide) (by decide) ?_
  refine z_iload_n b dX9_set_4 rfl rfl ?_
  refine z_aload_n b dX9_set_5 rfl rfl ?_
  refine z_get (q0 := 14) (k9 := 0) (v := .ref (a 15)) b (cw_14 cy tE a rw S) rfl in_X9 (by decide) wf_X9_11 rfl dX9_set_6 ?_
  refine z_alen (q0 := 15) (t0 := 0) (v := 51) b (cw_15 cy tE a rw S) rfl rfl dX9_set_9 ?_
  refine z_icmp_ge_f (tgt := 20) b dX9_set_10 (by decide) (by decide) ?_
  refine z_aload_n b dX9_set_13 rfl rfl ?_
  refine z_get (q0 := 14) (k9 := 0) (v := .ref (a 15)) b (cw_14 cy tE a rw S) rfl in_X9 (by decide) wf_X9_11 rfl dX9_set_14 ?_
  refine z_iload_n b dX9_set_17 rfl rfl ?_
  refine z_iload_n b dX9_set_18 rfl rfl ?_
  refine y_iast (q0 := 15) (j := 40) b (cw_15 cy tE a rw S) (by decide) dX9_set_19 (cwa_15 cy tE a rw S 40 p0) ?_
  exact z_vret (u := (su S 4 40 p0)) b rfl dX9_set_20 rfl rfl (by decide) (by decide)

set_option maxHeartbeats 4000000 in
set_option maxRecDepth 100000 in
theorem c_X11_owner_4 {l : Launch} {D : va_G} {cy : Nat → ClassId} {T0 tB tE : Nat} {a : Nat → Nat} {rw : Nat → Option Nat} (S : GS) (p0 : Int32) (h_i_24 : fi S 24 = 0) (hr_p0 : 0 ≤ p0.toInt ∧ p0.toInt ≤ 3) : Ct l D cy T0 tB tE yX11_owner cX11_owner 3 (some .boolean) 1 22 0 0 (cw cy tE a rw S) [.ref (a 0), .int 0, .int p0] (QI D (U := GS) (fun r u => 1 = r ∧ (su S 4 40 p0) = u) (cw cy tE a rw)) := by
  refine Ct.ofZ RX11 "owner" [(0, .ref (a 0)), (1, .int 0), (2, .int p0)] rfl rfl rfl rfl (Nat.le_of_ble_eq_true rfl) ?_
  intro p e R s m args below meth c A b
  refine z_iload_n b dX11_owner_0 rfl rfl ?_
  refine z_calli b (z_runS (As := [.int 0]) (st := []) b (c_X11_isThing_3 S ) cf_X11_isThing wm_X11_87 ws_X11_isThing dX11_owner_1 rfl (Nat.le_of_ble_eq_true rfl) ⟨by decide, by decide, by decide, by decide⟩) (fun r407 u408 h406 => ?_)
  obtain ⟨rfl, rfl⟩ := h406
  refine z_if_eq_f (tgt := 15) b dX11_owner_4 (by decide) (by decide) ?_
  refine z_iload_n b dX11_owner_7 rfl rfl ?_
  refine z_iconst (v := 3) b dX11_owner_8 (by decide) ?_
  refine z_calli b (z_runS (As := [.int p0, .int 3]) (st := []) b (c_X11_isWithin_5 S p0 ⟨by omega, by omega⟩) cf_X11_isWithin wm_X11_73 ws_X11_isWithin dX11_owner_9 rfl (Nat.le_of_ble_eq_true rfl) ⟨by decide, by decide, by decide, by decide⟩) (fun r412 u413 h411 => ?_)
  obtain ⟨rfl, rfl⟩ := h411
  refine z_if_ne_t (tgt := 17) b dX11_owner_12 (by decide) (by decide) ?_
  refine z_aload_n b dX11_owner_17 rfl rfl ?_
  refine z_get (q0 := 0) (k9 := 4) (v := .ref (a 14)) b (cw_0 cy tE a rw S) rfl in_X11 (by decide) wf_X11_34 rfl dX11_owner_18 ?_
  refine z_bipush (v := 40) b dX11_owner_21 (by decide) ?_
  refine z_iload_n b dX11_owner_23 rfl rfl ?_
  refine z_iadd (v := 40) b dX11_owner_24 (by decide) ?_
  refine z_iload_n b dX11_owner_25 rfl rfl ?_
  refine z_callv b (z_runV (q0 := 14) (As := [.int 40, .int p0]) (st := []) b (c_X9_set_4 S p0 ⟨by omega, by omega⟩) cf_X9_set (cw_14 cy tE a rw S) rfl wm_X11_77 wi_X9_set ws_X9_set dX11_owner_26 rfl (Nat.le_of_ble_eq_true rfl) ⟨by decide, by decide, by decide, by decide⟩) (fun u416 h414 => ?_)
  obtain rfl := h414
  refine z_aload_n b dX11_owner_29 rfl rfl ?_
  refine z_get (q0 := 0) (k9 := 6) (v := .ref (a 25)) b (cw_0 cy tE a rw (su S 4 40 p0)) rfl in_X11 (by decide) wf_X11_52 rfl dX11_owner_30 ?_
  refine z_callv b (z_runV (q0 := 25) (As := []) (st := []) b (c_X8_forget (su S 4 40 p0) h_i_24) cf_X8_forget (cw_25 cy tE a rw (su S 4 40 p0)) rfl wm_X11_81 wi_X8_forget ws_X8_forget dX11_owner_33 rfl (Nat.le_of_ble_eq_true rfl) ⟨by decide, by decide, by decide, by decide⟩) (fun u419 h417 => ?_)
  obtain rfl := h417
  refine z_iconst (v := 1) b dX11_owner_36 (by decide) ?_
  exact z_zret (u := (su S 4 40 p0)) b rfl (by decide) dX11_owner_37 ⟨rfl, rfl⟩ rfl (by decide) (by decide)

set_option maxHeartbeats 4000000 in
set_option maxRecDepth 100000 in
theorem c_X12_isIn_10 {l : Launch} {D : va_G} {cy : Nat → ClassId} {T0 tB tE : Nat} {a : Nat → Nat} (S : GS) (p0 : Int32)  (hr_p0 : 0 ≤ p0.toInt ∧ p0.toInt ≤ 3) : Ct l D cy T0 tB tE yX12_isIn cX12_isIn 3 (some .boolean) 0 0 0 0 (mw cy a S) [.int p0, .int 0, .int 3] (QI D (U := GS) (fun r u => 1 = r ∧ S = u) (mw cy a)) := by
  refine Ct.ofZ RX12 "isIn" [(0, .int p0), (1, .int 0), (2, .int 3)] rfl rfl rfl rfl (Nat.le_of_ble_eq_true rfl) ?_
  intro p e R s m args below meth c A b
  refine z_iload_n b dX12_isIn_0 rfl rfl ?_
  refine z_iload_n b dX12_isIn_1 rfl rfl ?_
  refine y_icmp_lt (tgt := 14) (xl := p0.toInt) (yl := 0) b rfl (by decide) dX12_isIn_2 (by decide) (fun c423 => ?_) (fun c423 => ?_)
  · exfalso; omega
  · refine z_iload_n b dX12_isIn_5 rfl rfl ?_
    refine z_iload_n b dX12_isIn_6 rfl rfl ?_
    refine y_icmp_gt (tgt := 14) (xl := p0.toInt) (yl := 3) b rfl (by decide) dX12_isIn_7 (by decide) (fun c424 => ?_) (fun c424 => ?_)
    · exfalso; omega
    · refine z_iconst (v := 1) b dX12_isIn_10 (by decide) ?_
      refine z_goto (tgt := 15) b dX12_isIn_11 (by decide) ?_
      exact z_zret (u := S) b rfl (by decide) dX12_isIn_15 ⟨rfl, rfl⟩ rfl (by decide) (by decide)

set_option maxHeartbeats 4000000 in
set_option maxRecDepth 100000 in
theorem ch_X12_packs_10 {p : Program} {l : Launch} {e : Env} {R : Room} {s : State} {m : MethodId} {args : Array Value} {below : List Frame} {meth : Method} {c : Code} {D : va_G} {cy : Nat → ClassId} {T0 tB tE : Nat} {A : Nat → Prop} {Q : State → Prop} {a : Nat → Nat} (S : GS)  (h_a_0_0 : ar S 0 0 = 0) (h_a_0_1 : ar S 0 1 = 0) (h_a_1_1 : ar S 1 1 = 0) (h_a_1_2 : ar S 1 2 = 0) (h_a_3_1 : ar S 3 1 = 0) (h_a_4_1 : ar S 4 1 = 0) (h_a_4_2 : ar S 4 2 = 0) (h_i_0 : fi S 0 = 0) (b : Bz p R s m args meth c D cy T0 tB tE A 5 cX12_packs RX12 (some .long) "packs" 1 21 0 0) (k : Z p l e R s m args below meth c D A 5 Q 0 0 (mw cy a S) [(3, .int 1), (4, .int 2), (1, .long (((((((((((0 ||| ((ar S 2 0) : Int32).toInt64) <<< ((1 : Int32).toInt64 &&& 63)) ||| 0) <<< ((3 : Int32).toInt64 &&& 63)) ||| 0) <<< ((1 : Int32).toInt64 &&& 63)) ||| 0) <<< ((3 : Int32).toInt64 &&& 63)) ||| 0) <<< ((1 : Int32).toInt64 &&& 63)) ||| 0)), (0, .ref (a 0))] 22 [.int 0, .long ((((((((((((0 ||| ((ar S 2 0) : Int32).toInt64) <<< ((1 : Int32).toInt64 &&& 63)) ||| 0) <<< ((3 : Int32).toInt64 &&& 63)) ||| 0) <<< ((1 : Int32).toInt64 &&& 63)) ||| 0) <<< ((3 : Int32).toInt64 &&& 63)) ||| 0) <<< ((1 : Int32).toInt64 &&& 63)) ||| 0) <<< ((4 : Int32).toInt64 &&& 63))]) : Z p l e R s m args below meth c D A 5 Q 0 0 (mw cy a S) [(0, .ref (a 0))] 0 [] := by
  refine z_aload_n b dX12_packs_0 rfl rfl ?_
  refine z_get (q0 := 0) (k9 := 5) (v := .int (fi S 0)) b (mw_0 cy a S) rfl in_X12 (by decide) wf_X12_157 rfl dX12_packs_1 ?_
  refine z_eqi h_i_0 ?_
  refine z_i2l (v := 0) b dX12_packs_4 (by decide) ?_
  refine z_lstore_n (lv' := [(1, .long 0), (0, .ref (a 0))]) b dX12_packs_5 rfl (by decide) rfl ?_
  refine z_iconst (v := 0) b dX12_packs_6 (by decide) ?_
  refine z_istore_n (lv' := [(3, .int 0), (1, .long 0), (0, .ref (a 0))]) b dX12_packs_7 rfl (by decide) rfl ?_
  refine z_iload_n b dX12_packs_8 rfl rfl ?_
  refine z_iconst (v := 3) b dX12_packs_9 (by decide) ?_
  refine z_icmp_ge_f (tgt := 134) b dX12_packs_10 (by decide) (by decide) ?_
  refine z_lload_n b dX12_packs_13 rfl rfl ?_
  refine z_iconst (v := 4) b dX12_packs_14 (by decide) ?_
  refine z_lshl (v := 0) b dX12_packs_15 (by decide) ?_
  refine z_aload_n b dX12_packs_16 rfl rfl ?_
  refine z_get (q0 := 0) (k9 := 0) (v := .ref (a 1)) b (mw_0 cy a S) rfl in_X12 (by decide) wf_X12_13 rfl dX12_packs_17 ?_
  refine z_iload_n b dX12_packs_20 rfl rfl ?_
  refine y_iald (q0 := 1) (j := 0) (v := (ar S 0 0)) b (mw_1 cy a S) (by decide) rfl dX12_packs_21 ?_
  refine z_eqi h_a_0_0 ?_
  refine z_i2l (v := 0) b dX12_packs_22 (by decide) ?_
  refine z_lor (v := 0) b dX12_packs_23 (by decide) ?_
  refine z_lstore_n (lv' := [(1, .long 0), (3, .int 0), (0, .ref (a 0))]) b dX12_packs_24 rfl (by decide) rfl ?_
  refine z_lload_n b dX12_packs_25 rfl rfl ?_
  refine z_iconst (v := 2) b dX12_packs_26 (by decide) ?_
  refine z_lshl (v := 0) b dX12_packs_27 (by decide) ?_
  refine z_aload_n b dX12_packs_28 rfl rfl ?_
  refine z_get (q0 := 0) (k9 := 2) (v := .ref (a 3)) b (mw_0 cy a S) rfl in_X12 (by decide) wf_X12_20 rfl dX12_packs_29 ?_
  refine z_iload_n b dX12_packs_32 rfl rfl ?_
  refine y_iald (q0 := 3) (j := 0) (v := (ar S 2 0)) b (mw_3 cy a S) (by decide) rfl dX12_packs_33 ?_
  refine z_i2l b dX12_packs_34 rfl ?_
  refine z_lor b dX12_packs_35 rfl ?_
  refine z_lstore_n (lv' := [(1, .long (0 ||| ((ar S 2 0) : Int32).toInt64)), (3, .int 0), (0, .ref (a 0))]) b dX12_packs_36 rfl (by decide) rfl ?_
  refine z_lload_n b dX12_packs_37 rfl rfl ?_
  refine z_iconst (v := 1) b dX12_packs_38 (by decide) ?_
  refine z_lshl b dX12_packs_39 rfl ?_
  refine z_aload_n b dX12_packs_40 rfl rfl ?_
  refine z_get (q0 := 0) (k9 := 3) (v := .ref (a 4)) b (mw_0 cy a S) rfl in_X12 (by decide) wf_X12_23 rfl dX12_packs_41 ?_
  refine z_iconst (v := 3) b dX12_packs_44 (by decide) ?_
  refine z_iload_n b dX12_packs_45 rfl rfl ?_
  refine z_imul (v := 0) b dX12_packs_46 (by decide) ?_
  refine z_iload_n b dX12_packs_47 rfl rfl ?_
  refine z_iconst (v := 0) b dX12_packs_48 (by decide) ?_
  refine z_calli b (z_runS (As := [.int 0, .int 0]) (st := [.int 0, .ref (a 4), .long ((0 ||| ((ar S 2 0) : Int32).toInt64) <<< ((1 : Int32).toInt64 &&& 63))]) b (c_X12_other_6 S ) cf_X12_other wm_X12_160 ws_X12_other dX12_packs_49 rfl (Nat.le_of_ble_eq_true rfl) ⟨by decide, by decide, by decide, by decide⟩) (fun r432 u433 h431 => ?_)
  obtain ⟨rfl, rfl⟩ := h431
  refine z_iadd (v := 1) b dX12_packs_52 (by decide) ?_
  refine y_zald (q0 := 4) (j := 1) (v := (ar S 3 1)) b (mw_4 cy a S) (by decide) rfl dX12_packs_53 ?_
  refine z_eqi h_a_3_1 ?_
  refine z_if_eq_t (tgt := 61) b dX12_packs_54 (by decide) (by decide) ?_
  refine z_lconst (v := 0) b dX12_packs_61 (by decide) ?_
  refine z_lor b dX12_packs_62 rfl ?_
  refine z_lstore_n (lv' := [(1, .long (((0 ||| ((ar S 2 0) : Int32).toInt64) <<< ((1 : Int32).toInt64 &&& 63)) ||| 0)), (3, .int 0), (0, .ref (a 0))]) b dX12_packs_63 rfl (by decide) rfl ?_
  refine z_iconst (v := 0) b dX12_packs_64 (by decide) ?_
  refine z_istore (lv' := [(4, .int 0), (1, .long (((0 ||| ((ar S 2 0) : Int32).toInt64) <<< ((1 : Int32).toInt64 &&& 63)) ||| 0)), (3, .int 0), (0, .ref (a 0))]) b dX12_packs_65 (by decide) rfl ?_
  refine z_iload b dX12_packs_67 rfl ?_
  refine z_iconst (v := 2) b dX12_packs_69 (by decide) ?_
  refine z_icmp_ge_f (tgt := 128) b dX12_packs_70 (by decide) (by decide) ?_
  refine z_lload_n b dX12_packs_73 rfl rfl ?_
  refine z_iconst (v := 3) b dX12_packs_74 (by decide) ?_
  refine z_lshl b dX12_packs_75 rfl ?_
  refine z_aload_n b dX12_packs_76 rfl rfl ?_
  refine z_get (q0 := 0) (k9 := 1) (v := .ref (a 2)) b (mw_0 cy a S) rfl in_X12 (by decide) wf_X12_17 rfl dX12_packs_77 ?_
  refine z_iconst (v := 3) b dX12_packs_80 (by decide) ?_
  refine z_iload_n b dX12_packs_81 rfl rfl ?_
  refine z_imul (v := 0) b dX12_packs_82 (by decide) ?_
  refine z_iload_n b dX12_packs_83 rfl rfl ?_
  refine z_iload b dX12_packs_84 rfl ?_
  refine z_calli b (z_runS (As := [.int 0, .int 0]) (st := [.int 0, .ref (a 2), .long ((((0 ||| ((ar S 2 0) : Int32).toInt64) <<< ((1 : Int32).toInt64 &&& 63)) ||| 0) <<< ((3 : Int32).toInt64 &&& 63))]) b (c_X12_other_6 S ) cf_X12_other wm_X12_160 ws_X12_other dX12_packs_86 rfl (Nat.le_of_ble_eq_true rfl) ⟨by decide, by decide, by decide, by decide⟩) (fun r435 u436 h434 => ?_)
  obtain ⟨rfl, rfl⟩ := h434
  refine z_iadd (v := 1) b dX12_packs_89 (by decide) ?_
  refine y_iald (q0 := 2) (j := 1) (v := (ar S 1 1)) b (mw_2 cy a S) (by decide) rfl dX12_packs_90 ?_
  refine z_eqi h_a_1_1 ?_
  refine z_i2l (v := 0) b dX12_packs_91 (by decide) ?_
  refine z_lor b dX12_packs_92 rfl ?_
  refine z_lstore_n (lv' := [(1, .long (((((0 ||| ((ar S 2 0) : Int32).toInt64) <<< ((1 : Int32).toInt64 &&& 63)) ||| 0) <<< ((3 : Int32).toInt64 &&& 63)) ||| 0)), (4, .int 0), (3, .int 0), (0, .ref (a 0))]) b dX12_packs_93 rfl (by decide) rfl ?_
  refine z_lload_n b dX12_packs_94 rfl rfl ?_
  refine z_iconst (v := 1) b dX12_packs_95 (by decide) ?_
  refine z_lshl b dX12_packs_96 rfl ?_
  refine z_aload_n b dX12_packs_97 rfl rfl ?_
  refine z_get (q0 := 0) (k9 := 4) (v := .ref (a 5)) b (mw_0 cy a S) rfl in_X12 (by decide) wf_X12_27 rfl dX12_packs_98 ?_
  refine z_iconst (v := 3) b dX12_packs_101 (by decide) ?_
  refine z_iload_n b dX12_packs_102 rfl rfl ?_
  refine z_imul (v := 0) b dX12_packs_103 (by decide) ?_
  refine z_iload_n b dX12_packs_104 rfl rfl ?_
  refine z_iload b dX12_packs_105 rfl ?_
  refine z_calli b (z_runS (As := [.int 0, .int 0]) (st := [.int 0, .ref (a 5), .long ((((((0 ||| ((ar S 2 0) : Int32).toInt64) <<< ((1 : Int32).toInt64 &&& 63)) ||| 0) <<< ((3 : Int32).toInt64 &&& 63)) ||| 0) <<< ((1 : Int32).toInt64 &&& 63))]) b (c_X12_other_6 S ) cf_X12_other wm_X12_160 ws_X12_other dX12_packs_107 rfl (Nat.le_of_ble_eq_true rfl) ⟨by decide, by decide, by decide, by decide⟩) (fun r438 u439 h437 => ?_)
  obtain ⟨rfl, rfl⟩ := h437
  refine z_iadd (v := 1) b dX12_packs_110 (by decide) ?_
  refine y_zald (q0 := 5) (j := 1) (v := (ar S 4 1)) b (mw_5 cy a S) (by decide) rfl dX12_packs_111 ?_
  refine z_eqi h_a_4_1 ?_
  refine z_if_eq_t (tgt := 119) b dX12_packs_112 (by decide) (by decide) ?_
  refine z_lconst (v := 0) b dX12_packs_119 (by decide) ?_
  refine z_lor b dX12_packs_120 rfl ?_
  refine z_lstore_n (lv' := [(1, .long (((((((0 ||| ((ar S 2 0) : Int32).toInt64) <<< ((1 : Int32).toInt64 &&& 63)) ||| 0) <<< ((3 : Int32).toInt64 &&& 63)) ||| 0) <<< ((1 : Int32).toInt64 &&& 63)) ||| 0)), (4, .int 0), (3, .int 0), (0, .ref (a 0))]) b dX12_packs_121 rfl (by decide) rfl ?_
  refine z_iinc (k9 := 1) (v := 1) (lv' := [(4, .int 1), (1, .long (((((((0 ||| ((ar S 2 0) : Int32).toInt64) <<< ((1 : Int32).toInt64 &&& 63)) ||| 0) <<< ((3 : Int32).toInt64 &&& 63)) ||| 0) <<< ((1 : Int32).toInt64 &&& 63)) ||| 0)), (3, .int 0), (0, .ref (a 0))]) b dX12_packs_122 rfl (by decide) (by decide) rfl ?_
  refine z_goto (tgt := 67) b dX12_packs_125 (by decide) ?_
  refine z_iload b dX12_packs_67 rfl ?_
  refine z_iconst (v := 2) b dX12_packs_69 (by decide) ?_
  refine z_icmp_ge_f (tgt := 128) b dX12_packs_70 (by decide) (by decide) ?_
  refine z_lload_n b dX12_packs_73 rfl rfl ?_
  refine z_iconst (v := 3) b dX12_packs_74 (by decide) ?_
  refine z_lshl b dX12_packs_75 rfl ?_
  refine z_aload_n b dX12_packs_76 rfl rfl ?_
  refine z_get (q0 := 0) (k9 := 1) (v := .ref (a 2)) b (mw_0 cy a S) rfl in_X12 (by decide) wf_X12_17 rfl dX12_packs_77 ?_
  refine z_iconst (v := 3) b dX12_packs_80 (by decide) ?_
  refine z_iload_n b dX12_packs_81 rfl rfl ?_
  refine z_imul (v := 0) b dX12_packs_82 (by decide) ?_
  refine z_iload_n b dX12_packs_83 rfl rfl ?_
  refine z_iload b dX12_packs_84 rfl ?_
  refine z_calli b (z_runS (As := [.int 0, .int 1]) (st := [.int 0, .ref (a 2), .long ((((((((0 ||| ((ar S 2 0) : Int32).toInt64) <<< ((1 : Int32).toInt64 &&& 63)) ||| 0) <<< ((3 : Int32).toInt64 &&& 63)) ||| 0) <<< ((1 : Int32).toInt64 &&& 63)) ||| 0) <<< ((3 : Int32).toInt64 &&& 63))]) b (c_X12_other_5 S ) cf_X12_other wm_X12_160 ws_X12_other dX12_packs_86 rfl (Nat.le_of_ble_eq_true rfl) ⟨by decide, by decide, by decide, by decide⟩) (fun r441 u442 h440 => ?_)
  obtain ⟨rfl, rfl⟩ := h440
  refine z_iadd (v := 2) b dX12_packs_89 (by decide) ?_
  refine y_iald (q0 := 2) (j := 2) (v := (ar S 1 2)) b (mw_2 cy a S) (by decide) rfl dX12_packs_90 ?_
  refine z_eqi h_a_1_2 ?_
  refine z_i2l (v := 0) b dX12_packs_91 (by decide) ?_
  refine z_lor b dX12_packs_92 rfl ?_
  refine z_lstore_n (lv' := [(1, .long (((((((((0 ||| ((ar S 2 0) : Int32).toInt64) <<< ((1 : Int32).toInt64 &&& 63)) ||| 0) <<< ((3 : Int32).toInt64 &&& 63)) ||| 0) <<< ((1 : Int32).toInt64 &&& 63)) ||| 0) <<< ((3 : Int32).toInt64 &&& 63)) ||| 0)), (4, .int 1), (3, .int 0), (0, .ref (a 0))]) b dX12_packs_93 rfl (by decide) rfl ?_
  refine z_lload_n b dX12_packs_94 rfl rfl ?_
  refine z_iconst (v := 1) b dX12_packs_95 (by decide) ?_
  refine z_lshl b dX12_packs_96 rfl ?_
  refine z_aload_n b dX12_packs_97 rfl rfl ?_
  refine z_get (q0 := 0) (k9 := 4) (v := .ref (a 5)) b (mw_0 cy a S) rfl in_X12 (by decide) wf_X12_27 rfl dX12_packs_98 ?_
  refine z_iconst (v := 3) b dX12_packs_101 (by decide) ?_
  refine z_iload_n b dX12_packs_102 rfl rfl ?_
  refine z_imul (v := 0) b dX12_packs_103 (by decide) ?_
  refine z_iload_n b dX12_packs_104 rfl rfl ?_
  refine z_iload b dX12_packs_105 rfl ?_
  refine z_calli b (z_runS (As := [.int 0, .int 1]) (st := [.int 0, .ref (a 5), .long ((((((((((0 ||| ((ar S 2 0) : Int32).toInt64) <<< ((1 : Int32).toInt64 &&& 63)) ||| 0) <<< ((3 : Int32).toInt64 &&& 63)) ||| 0) <<< ((1 : Int32).toInt64 &&& 63)) ||| 0) <<< ((3 : Int32).toInt64 &&& 63)) ||| 0) <<< ((1 : Int32).toInt64 &&& 63))]) b (c_X12_other_5 S ) cf_X12_other wm_X12_160 ws_X12_other dX12_packs_107 rfl (Nat.le_of_ble_eq_true rfl) ⟨by decide, by decide, by decide, by decide⟩) (fun r444 u445 h443 => ?_)
  obtain ⟨rfl, rfl⟩ := h443
  refine z_iadd (v := 2) b dX12_packs_110 (by decide) ?_
  refine y_zald (q0 := 5) (j := 2) (v := (ar S 4 2)) b (mw_5 cy a S) (by decide) rfl dX12_packs_111 ?_
  refine z_eqi h_a_4_2 ?_
  refine z_if_eq_t (tgt := 119) b dX12_packs_112 (by decide) (by decide) ?_
  refine z_lconst (v := 0) b dX12_packs_119 (by decide) ?_
  refine z_lor b dX12_packs_120 rfl ?_
  refine z_lstore_n (lv' := [(1, .long (((((((((((0 ||| ((ar S 2 0) : Int32).toInt64) <<< ((1 : Int32).toInt64 &&& 63)) ||| 0) <<< ((3 : Int32).toInt64 &&& 63)) ||| 0) <<< ((1 : Int32).toInt64 &&& 63)) ||| 0) <<< ((3 : Int32).toInt64 &&& 63)) ||| 0) <<< ((1 : Int32).toInt64 &&& 63)) ||| 0)), (4, .int 1), (3, .int 0), (0, .ref (a 0))]) b dX12_packs_121 rfl (by decide) rfl ?_
  refine z_iinc (k9 := 1) (v := 2) (lv' := [(4, .int 2), (1, .long (((((((((((0 ||| ((ar S 2 0) : Int32).toInt64) <<< ((1 : Int32).toInt64 &&& 63)) ||| 0) <<< ((3 : Int32).toInt64 &&& 63)) ||| 0) <<< ((1 : Int32).toInt64 &&& 63)) ||| 0) <<< ((3 : Int32).toInt64 &&& 63)) ||| 0) <<< ((1 : Int32).toInt64 &&& 63)) ||| 0)), (3, .int 0), (0, .ref (a 0))]) b dX12_packs_122 rfl (by decide) (by decide) rfl ?_
  refine z_goto (tgt := 67) b dX12_packs_125 (by decide) ?_
  refine z_iload b dX12_packs_67 rfl ?_
  refine z_iconst (v := 2) b dX12_packs_69 (by decide) ?_
  refine z_icmp_ge_t (tgt := 128) b dX12_packs_70 (by decide) (by decide) ?_
  refine z_iinc (k9 := 2) (v := 1) (lv' := [(3, .int 1), (4, .int 2), (1, .long (((((((((((0 ||| ((ar S 2 0) : Int32).toInt64) <<< ((1 : Int32).toInt64 &&& 63)) ||| 0) <<< ((3 : Int32).toInt64 &&& 63)) ||| 0) <<< ((1 : Int32).toInt64 &&& 63)) ||| 0) <<< ((3 : Int32).toInt64 &&& 63)) ||| 0) <<< ((1 : Int32).toInt64 &&& 63)) ||| 0)), (0, .ref (a 0))]) b dX12_packs_128 rfl (by decide) (by decide) rfl ?_
  refine z_goto (tgt := 8) b dX12_packs_131 (by decide) ?_
  refine z_iload_n b dX12_packs_8 rfl rfl ?_
  refine z_iconst (v := 3) b dX12_packs_9 (by decide) ?_
  refine z_icmp_ge_f (tgt := 134) b dX12_packs_10 (by decide) (by decide) ?_
  refine z_lload_n b dX12_packs_13 rfl rfl ?_
  refine z_iconst (v := 4) b dX12_packs_14 (by decide) ?_
  refine z_lshl b dX12_packs_15 rfl ?_
  refine z_aload_n b dX12_packs_16 rfl rfl ?_
  refine z_get (q0 := 0) (k9 := 0) (v := .ref (a 1)) b (mw_0 cy a S) rfl in_X12 (by decide) wf_X12_13 rfl dX12_packs_17 ?_
  refine z_iload_n b dX12_packs_20 rfl rfl ?_
  refine y_iald (q0 := 1) (j := 1) (v := (ar S 0 1)) b (mw_1 cy a S) (by decide) rfl dX12_packs_21 ?_
  refine z_eqi h_a_0_1 ?_
  exact k

set_option maxHeartbeats 4000000 in
set_option maxRecDepth 100000 in
theorem ch_X12_packs_11 {p : Program} {l : Launch} {e : Env} {R : Room} {s : State} {m : MethodId} {args : Array Value} {below : List Frame} {meth : Method} {c : Code} {D : va_G} {cy : Nat → ClassId} {T0 tB tE : Nat} {A : Nat → Prop} {Q : State → Prop} {a : Nat → Nat} (S : GS)  (h_a_0_2 : ar S 0 2 = 0) (h_a_1_3 : ar S 1 3 = 0) (h_a_1_5 : ar S 1 5 = 0) (h_a_2_1 : ar S 2 1 = 3) (h_a_2_2 : ar S 2 2 = 3) (h_a_3_5 : ar S 3 5 = 0) (h_a_4_3 : ar S 4 3 = 0) (h_a_4_5 : ar S 4 5 = 0) (b : Bz p R s m args meth c D cy T0 tB tE A 5 cX12_packs RX12 (some .long) "packs" 1 21 0 0) (k : Z p l e R s m args below meth c D A 5 Q 0 0 (mw cy a S) [(1, .long (((((((((((((((((((((((((((((0 ||| ((ar S 2 0) : Int32).toInt64) <<< ((1 : Int32).toInt64 &&& 63)) ||| 0) <<< ((3 : Int32).toInt64 &&& 63)) ||| 0) <<< ((1 : Int32).toInt64 &&& 63)) ||| 0) <<< ((3 : Int32).toInt64 &&& 63)) ||| 0) <<< ((1 : Int32).toInt64 &&& 63)) ||| 0) <<< ((4 : Int32).toInt64 &&& 63)) ||| 0) <<< ((2 : Int32).toInt64 &&& 63)) ||| 3) <<< ((1 : Int32).toInt64 &&& 63)) ||| 0) <<< ((3 : Int32).toInt64 &&& 63)) ||| 0) <<< ((1 : Int32).toInt64 &&& 63)) ||| 0) <<< ((3 : Int32).toInt64 &&& 63)) ||| 0) <<< ((1 : Int32).toInt64 &&& 63)) ||| 0) <<< ((4 : Int32).toInt64 &&& 63)) ||| 0) <<< ((2 : Int32).toInt64 &&& 63)) ||| 3)), (3, .int 2), (4, .int 2), (0, .ref (a 0))] 39 [.int 1, .long (((((((((((((((((((((((((((((0 ||| ((ar S 2 0) : Int32).toInt64) <<< ((1 : Int32).toInt64 &&& 63)) ||| 0) <<< ((3 : Int32).toInt64 &&& 63)) ||| 0) <<< ((1 : Int32).toInt64 &&& 63)) ||| 0) <<< ((3 : Int32).toInt64 &&& 63)) ||| 0) <<< ((1 : Int32).toInt64 &&& 63)) ||| 0) <<< ((4 : Int32).toInt64 &&& 63)) ||| 0) <<< ((2 : Int32).toInt64 &&& 63)) ||| 3) <<< ((1 : Int32).toInt64 &&& 63)) ||| 0) <<< ((3 : Int32).toInt64 &&& 63)) ||| 0) <<< ((1 : Int32).toInt64 &&& 63)) ||| 0) <<< ((3 : Int32).toInt64 &&& 63)) ||| 0) <<< ((1 : Int32).toInt64 &&& 63)) ||| 0) <<< ((4 : Int32).toInt64 &&& 63)) ||| 0) <<< ((2 : Int32).toInt64 &&& 63)) ||| 3)]) : Z p l e R s m args below meth c D A 5 Q 0 0 (mw cy a S) [(3, .int 1), (4, .int 2), (1, .long (((((((((((0 ||| ((ar S 2 0) : Int32).toInt64) <<< ((1 : Int32).toInt64 &&& 63)) ||| 0) <<< ((3 : Int32).toInt64 &&& 63)) ||| 0) <<< ((1 : Int32).toInt64 &&& 63)) ||| 0) <<< ((3 : Int32).toInt64 &&& 63)) ||| 0) <<< ((1 : Int32).toInt64 &&& 63)) ||| 0)), (0, .ref (a 0))] 22 [.int 0, .long ((((((((((((0 ||| ((ar S 2 0) : Int32).toInt64) <<< ((1 : Int32).toInt64 &&& 63)) ||| 0) <<< ((3 : Int32).toInt64 &&& 63)) ||| 0) <<< ((1 : Int32).toInt64 &&& 63)) ||| 0) <<< ((3 : Int32).toInt64 &&& 63)) ||| 0) <<< ((1 : Int32).toInt64 &&& 63)) ||| 0) <<< ((4 : Int32).toInt64 &&& 63))] := by
  refine z_i2l (v := 0) b dX12_packs_22 (by decide) ?_
  refine z_lor b dX12_packs_23 rfl ?_
  refine z_lstore_n (lv' := [(1, .long (((((((((((((0 ||| ((ar S 2 0) : Int32).toInt64) <<< ((1 : Int32).toInt64 &&& 63)) ||| 0) <<< ((3 : Int32).toInt64 &&& 63)) ||| 0) <<< ((1 : Int32).toInt64 &&& 63)) ||| 0) <<< ((3 : Int32).toInt64 &&& 63)) ||| 0) <<< ((1 : Int32).toInt64 &&& 63)) ||| 0) <<< ((4 : Int32).toInt64 &&& 63)) ||| 0)), (3, .int 1), (4, .int 2), (0, .ref (a 0))]) b dX12_packs_24 rfl (by decide) rfl ?_
  refine z_lload_n b dX12_packs_25 rfl rfl ?_
  refine z_iconst (v := 2) b dX12_packs_26 (by decide) ?_
  refine z_lshl b dX12_packs_27 rfl ?_
  refine z_aload_n b dX12_packs_28 rfl rfl ?_
  refine z_get (q0 := 0) (k9 := 2) (v := .ref (a 3)) b (mw_0 cy a S) rfl in_X12 (by decide) wf_X12_20 rfl dX12_packs_29 ?_
  refine z_iload_n b dX12_packs_32 rfl rfl ?_
  refine y_iald (q0 := 3) (j := 1) (v := (ar S 2 1)) b (mw_3 cy a S) (by decide) rfl dX12_packs_33 ?_
  refine z_eqi h_a_2_1 ?_
  refine z_i2l (v := 3) b dX12_packs_34 (by decide) ?_
  refine z_lor b dX12_packs_35 rfl ?_
  refine z_lstore_n (lv' := [(1, .long (((((((((((((((0 ||| ((ar S 2 0) : Int32).toInt64) <<< ((1 : Int32).toInt64 &&& 63)) ||| 0) <<< ((3 : Int32).toInt64 &&& 63)) ||| 0) <<< ((1 : Int32).toInt64 &&& 63)) ||| 0) <<< ((3 : Int32).toInt64 &&& 63)) ||| 0) <<< ((1 : Int32).toInt64 &&& 63)) ||| 0) <<< ((4 : Int32).toInt64 &&& 63)) ||| 0) <<< ((2 : Int32).toInt64 &&& 63)) ||| 3)), (3, .int 1), (4, .int 2), (0, .ref (a 0))]) b dX12_packs_36 rfl (by decide) rfl ?_
  refine z_lload_n b dX12_packs_37 rfl rfl ?_
  refine z_iconst (v := 1) b dX12_packs_38 (by decide) ?_
  refine z_lshl b dX12_packs_39 rfl ?_
  refine z_aload_n b dX12_packs_40 rfl rfl ?_
  refine z_get (q0 := 0) (k9 := 3) (v := .ref (a 4)) b (mw_0 cy a S) rfl in_X12 (by decide) wf_X12_23 rfl dX12_packs_41 ?_
  refine z_iconst (v := 3) b dX12_packs_44 (by decide) ?_
  refine z_iload_n b dX12_packs_45 rfl rfl ?_
  refine z_imul (v := 3) b dX12_packs_46 (by decide) ?_
  refine z_iload_n b dX12_packs_47 rfl rfl ?_
  refine z_iconst (v := 0) b dX12_packs_48 (by decide) ?_
  refine z_calli b (z_runS (As := [.int 1, .int 0]) (st := [.int 3, .ref (a 4), .long ((((((((((((((((0 ||| ((ar S 2 0) : Int32).toInt64) <<< ((1 : Int32).toInt64 &&& 63)) ||| 0) <<< ((3 : Int32).toInt64 &&& 63)) ||| 0) <<< ((1 : Int32).toInt64 &&& 63)) ||| 0) <<< ((3 : Int32).toInt64 &&& 63)) ||| 0) <<< ((1 : Int32).toInt64 &&& 63)) ||| 0) <<< ((4 : Int32).toInt64 &&& 63)) ||| 0) <<< ((2 : Int32).toInt64 &&& 63)) ||| 3) <<< ((1 : Int32).toInt64 &&& 63))]) b (c_X12_other_4 S ) cf_X12_other wm_X12_160 ws_X12_other dX12_packs_49 rfl (Nat.le_of_ble_eq_true rfl) ⟨by decide, by decide, by decide, by decide⟩) (fun r447 u448 h446 => ?_)
  obtain ⟨rfl, rfl⟩ := h446
  refine z_iadd (v := 5) b dX12_packs_52 (by decide) ?_
  refine y_zald (q0 := 4) (j := 5) (v := (ar S 3 5)) b (mw_4 cy a S) (by decide) rfl dX12_packs_53 ?_
  refine z_eqi h_a_3_5 ?_
  refine z_if_eq_t (tgt := 61) b dX12_packs_54 (by decide) (by decide) ?_
  refine z_lconst (v := 0) b dX12_packs_61 (by decide) ?_
  refine z_lor b dX12_packs_62 rfl ?_
  refine z_lstore_n (lv' := [(1, .long (((((((((((((((((0 ||| ((ar S 2 0) : Int32).toInt64) <<< ((1 : Int32).toInt64 &&& 63)) ||| 0) <<< ((3 : Int32).toInt64 &&& 63)) ||| 0) <<< ((1 : Int32).toInt64 &&& 63)) ||| 0) <<< ((3 : Int32).toInt64 &&& 63)) ||| 0) <<< ((1 : Int32).toInt64 &&& 63)) ||| 0) <<< ((4 : Int32).toInt64 &&& 63)) ||| 0) <<< ((2 : Int32).toInt64 &&& 63)) ||| 3) <<< ((1 : Int32).toInt64 &&& 63)) ||| 0)), (3, .int 1), (4, .int 2), (0, .ref (a 0))]) b dX12_packs_63 rfl (by decide) rfl ?_
  refine z_iconst (v := 0) b dX12_packs_64 (by decide) ?_
  refine z_istore (lv' := [(4, .int 0), (1, .long (((((((((((((((((0 ||| ((ar S 2 0) : Int32).toInt64) <<< ((1 : Int32).toInt64 &&& 63)) ||| 0) <<< ((3 : Int32).toInt64 &&& 63)) ||| 0) <<< ((1 : Int32).toInt64 &&& 63)) ||| 0) <<< ((3 : Int32).toInt64 &&& 63)) ||| 0) <<< ((1 : Int32).toInt64 &&& 63)) ||| 0) <<< ((4 : Int32).toInt64 &&& 63)) ||| 0) <<< ((2 : Int32).toInt64 &&& 63)) ||| 3) <<< ((1 : Int32).toInt64 &&& 63)) ||| 0)), (3, .int 1), (0, .ref (a 0))]) b dX12_packs_65 (by decide) rfl ?_
  refine z_iload b dX12_packs_67 rfl ?_
  refine z_iconst (v := 2) b dX12_packs_69 (by decide) ?_
  refine z_icmp_ge_f (tgt := 128) b dX12_packs_70 (by decide) (by decide) ?_
  refine z_lload_n b dX12_packs_73 rfl rfl ?_
  refine z_iconst (v := 3) b dX12_packs_74 (by decide) ?_
  refine z_lshl b dX12_packs_75 rfl ?_
  refine z_aload_n b dX12_packs_76 rfl rfl ?_
  refine z_get (q0 := 0) (k9 := 1) (v := .ref (a 2)) b (mw_0 cy a S) rfl in_X12 (by decide) wf_X12_17 rfl dX12_packs_77 ?_
  refine z_iconst (v := 3) b dX12_packs_80 (by decide) ?_
  refine z_iload_n b dX12_packs_81 rfl rfl ?_
  refine z_imul (v := 3) b dX12_packs_82 (by decide) ?_
  refine z_iload_n b dX12_packs_83 rfl rfl ?_
  refine z_iload b dX12_packs_84 rfl ?_
  refine z_calli b (z_runS (As := [.int 1, .int 0]) (st := [.int 3, .ref (a 2), .long ((((((((((((((((((0 ||| ((ar S 2 0) : Int32).toInt64) <<< ((1 : Int32).toInt64 &&& 63)) ||| 0) <<< ((3 : Int32).toInt64 &&& 63)) ||| 0) <<< ((1 : Int32).toInt64 &&& 63)) ||| 0) <<< ((3 : Int32).toInt64 &&& 63)) ||| 0) <<< ((1 : Int32).toInt64 &&& 63)) ||| 0) <<< ((4 : Int32).toInt64 &&& 63)) ||| 0) <<< ((2 : Int32).toInt64 &&& 63)) ||| 3) <<< ((1 : Int32).toInt64 &&& 63)) ||| 0) <<< ((3 : Int32).toInt64 &&& 63))]) b (c_X12_other_4 S ) cf_X12_other wm_X12_160 ws_X12_other dX12_packs_86 rfl (Nat.le_of_ble_eq_true rfl) ⟨by decide, by decide, by decide, by decide⟩) (fun r450 u451 h449 => ?_)
  obtain ⟨rfl, rfl⟩ := h449
  refine z_iadd (v := 5) b dX12_packs_89 (by decide) ?_
  refine y_iald (q0 := 2) (j := 5) (v := (ar S 1 5)) b (mw_2 cy a S) (by decide) rfl dX12_packs_90 ?_
  refine z_eqi h_a_1_5 ?_
  refine z_i2l (v := 0) b dX12_packs_91 (by decide) ?_
  refine z_lor b dX12_packs_92 rfl ?_
  refine z_lstore_n (lv' := [(1, .long (((((((((((((((((((0 ||| ((ar S 2 0) : Int32).toInt64) <<< ((1 : Int32).toInt64 &&& 63)) ||| 0) <<< ((3 : Int32).toInt64 &&& 63)) ||| 0) <<< ((1 : Int32).toInt64 &&& 63)) ||| 0) <<< ((3 : Int32).toInt64 &&& 63)) ||| 0) <<< ((1 : Int32).toInt64 &&& 63)) ||| 0) <<< ((4 : Int32).toInt64 &&& 63)) ||| 0) <<< ((2 : Int32).toInt64 &&& 63)) ||| 3) <<< ((1 : Int32).toInt64 &&& 63)) ||| 0) <<< ((3 : Int32).toInt64 &&& 63)) ||| 0)), (4, .int 0), (3, .int 1), (0, .ref (a 0))]) b dX12_packs_93 rfl (by decide) rfl ?_
  refine z_lload_n b dX12_packs_94 rfl rfl ?_
  refine z_iconst (v := 1) b dX12_packs_95 (by decide) ?_
  refine z_lshl b dX12_packs_96 rfl ?_
  refine z_aload_n b dX12_packs_97 rfl rfl ?_
  refine z_get (q0 := 0) (k9 := 4) (v := .ref (a 5)) b (mw_0 cy a S) rfl in_X12 (by decide) wf_X12_27 rfl dX12_packs_98 ?_
  refine z_iconst (v := 3) b dX12_packs_101 (by decide) ?_
  refine z_iload_n b dX12_packs_102 rfl rfl ?_
  refine z_imul (v := 3) b dX12_packs_103 (by decide) ?_
  refine z_iload_n b dX12_packs_104 rfl rfl ?_
  refine z_iload b dX12_packs_105 rfl ?_
  refine z_calli b (z_runS (As := [.int 1, .int 0]) (st := [.int 3, .ref (a 5), .long ((((((((((((((((((((0 ||| ((ar S 2 0) : Int32).toInt64) <<< ((1 : Int32).toInt64 &&& 63)) ||| 0) <<< ((3 : Int32).toInt64 &&& 63)) ||| 0) <<< ((1 : Int32).toInt64 &&& 63)) ||| 0) <<< ((3 : Int32).toInt64 &&& 63)) ||| 0) <<< ((1 : Int32).toInt64 &&& 63)) ||| 0) <<< ((4 : Int32).toInt64 &&& 63)) ||| 0) <<< ((2 : Int32).toInt64 &&& 63)) ||| 3) <<< ((1 : Int32).toInt64 &&& 63)) ||| 0) <<< ((3 : Int32).toInt64 &&& 63)) ||| 0) <<< ((1 : Int32).toInt64 &&& 63))]) b (c_X12_other_4 S ) cf_X12_other wm_X12_160 ws_X12_other dX12_packs_107 rfl (Nat.le_of_ble_eq_true rfl) ⟨by decide, by decide, by decide, by decide⟩) (fun r453 u454 h452 => ?_)
  obtain ⟨rfl, rfl⟩ := h452
  refine z_iadd (v := 5) b dX12_packs_110 (by decide) ?_
  refine y_zald (q0 := 5) (j := 5) (v := (ar S 4 5)) b (mw_5 cy a S) (by decide) rfl dX12_packs_111 ?_
  refine z_eqi h_a_4_5 ?_
  refine z_if_eq_t (tgt := 119) b dX12_packs_112 (by decide) (by decide) ?_
  refine z_lconst (v := 0) b dX12_packs_119 (by decide) ?_
  refine z_lor b dX12_packs_120 rfl ?_
  refine z_lstore_n (lv' := [(1, .long (((((((((((((((((((((0 ||| ((ar S 2 0) : Int32).toInt64) <<< ((1 : Int32).toInt64 &&& 63)) ||| 0) <<< ((3 : Int32).toInt64 &&& 63)) ||| 0) <<< ((1 : Int32).toInt64 &&& 63)) ||| 0) <<< ((3 : Int32).toInt64 &&& 63)) ||| 0) <<< ((1 : Int32).toInt64 &&& 63)) ||| 0) <<< ((4 : Int32).toInt64 &&& 63)) ||| 0) <<< ((2 : Int32).toInt64 &&& 63)) ||| 3) <<< ((1 : Int32).toInt64 &&& 63)) ||| 0) <<< ((3 : Int32).toInt64 &&& 63)) ||| 0) <<< ((1 : Int32).toInt64 &&& 63)) ||| 0)), (4, .int 0), (3, .int 1), (0, .ref (a 0))]) b dX12_packs_121 rfl (by decide) rfl ?_
  refine z_iinc (k9 := 1) (v := 1) (lv' := [(4, .int 1), (1, .long (((((((((((((((((((((0 ||| ((ar S 2 0) : Int32).toInt64) <<< ((1 : Int32).toInt64 &&& 63)) ||| 0) <<< ((3 : Int32).toInt64 &&& 63)) ||| 0) <<< ((1 : Int32).toInt64 &&& 63)) ||| 0) <<< ((3 : Int32).toInt64 &&& 63)) ||| 0) <<< ((1 : Int32).toInt64 &&& 63)) ||| 0) <<< ((4 : Int32).toInt64 &&& 63)) ||| 0) <<< ((2 : Int32).toInt64 &&& 63)) ||| 3) <<< ((1 : Int32).toInt64 &&& 63)) ||| 0) <<< ((3 : Int32).toInt64 &&& 63)) ||| 0) <<< ((1 : Int32).toInt64 &&& 63)) ||| 0)), (3, .int 1), (0, .ref (a 0))]) b dX12_packs_122 rfl (by decide) (by decide) rfl ?_
  refine z_goto (tgt := 67) b dX12_packs_125 (by decide) ?_
  refine z_iload b dX12_packs_67 rfl ?_
  refine z_iconst (v := 2) b dX12_packs_69 (by decide) ?_
  refine z_icmp_ge_f (tgt := 128) b dX12_packs_70 (by decide) (by decide) ?_
  refine z_lload_n b dX12_packs_73 rfl rfl ?_
  refine z_iconst (v := 3) b dX12_packs_74 (by decide) ?_
  refine z_lshl b dX12_packs_75 rfl ?_
  refine z_aload_n b dX12_packs_76 rfl rfl ?_
  refine z_get (q0 := 0) (k9 := 1) (v := .ref (a 2)) b (mw_0 cy a S) rfl in_X12 (by decide) wf_X12_17 rfl dX12_packs_77 ?_
  refine z_iconst (v := 3) b dX12_packs_80 (by decide) ?_
  refine z_iload_n b dX12_packs_81 rfl rfl ?_
  refine z_imul (v := 3) b dX12_packs_82 (by decide) ?_
  refine z_iload_n b dX12_packs_83 rfl rfl ?_
  refine z_iload b dX12_packs_84 rfl ?_
  refine z_calli b (z_runS (As := [.int 1, .int 1]) (st := [.int 3, .ref (a 2), .long ((((((((((((((((((((((0 ||| ((ar S 2 0) : Int32).toInt64) <<< ((1 : Int32).toInt64 &&& 63)) ||| 0) <<< ((3 : Int32).toInt64 &&& 63)) ||| 0) <<< ((1 : Int32).toInt64 &&& 63)) ||| 0) <<< ((3 : Int32).toInt64 &&& 63)) ||| 0) <<< ((1 : Int32).toInt64 &&& 63)) ||| 0) <<< ((4 : Int32).toInt64 &&& 63)) ||| 0) <<< ((2 : Int32).toInt64 &&& 63)) ||| 3) <<< ((1 : Int32).toInt64 &&& 63)) ||| 0) <<< ((3 : Int32).toInt64 &&& 63)) ||| 0) <<< ((1 : Int32).toInt64 &&& 63)) ||| 0) <<< ((3 : Int32).toInt64 &&& 63))]) b (c_X12_other_3 S ) cf_X12_other wm_X12_160 ws_X12_other dX12_packs_86 rfl (Nat.le_of_ble_eq_true rfl) ⟨by decide, by decide, by decide, by decide⟩) (fun r456 u457 h455 => ?_)
  obtain ⟨rfl, rfl⟩ := h455
  refine z_iadd (v := 3) b dX12_packs_89 (by decide) ?_
  refine y_iald (q0 := 2) (j := 3) (v := (ar S 1 3)) b (mw_2 cy a S) (by decide) rfl dX12_packs_90 ?_
  refine z_eqi h_a_1_3 ?_
  refine z_i2l (v := 0) b dX12_packs_91 (by decide) ?_
  refine z_lor b dX12_packs_92 rfl ?_
  refine z_lstore_n (lv' := [(1, .long (((((((((((((((((((((((0 ||| ((ar S 2 0) : Int32).toInt64) <<< ((1 : Int32).toInt64 &&& 63)) ||| 0) <<< ((3 : Int32).toInt64 &&& 63)) ||| 0) <<< ((1 : Int32).toInt64 &&& 63)) ||| 0) <<< ((3 : Int32).toInt64 &&& 63)) ||| 0) <<< ((1 : Int32).toInt64 &&& 63)) ||| 0) <<< ((4 : Int32).toInt64 &&& 63)) ||| 0) <<< ((2 : Int32).toInt64 &&& 63)) ||| 3) <<< ((1 : Int32).toInt64 &&& 63)) ||| 0) <<< ((3 : Int32).toInt64 &&& 63)) ||| 0) <<< ((1 : Int32).toInt64 &&& 63)) ||| 0) <<< ((3 : Int32).toInt64 &&& 63)) ||| 0)), (4, .int 1), (3, .int 1), (0, .ref (a 0))]) b dX12_packs_93 rfl (by decide) rfl ?_
  refine z_lload_n b dX12_packs_94 rfl rfl ?_
  refine z_iconst (v := 1) b dX12_packs_95 (by decide) ?_
  refine z_lshl b dX12_packs_96 rfl ?_
  refine z_aload_n b dX12_packs_97 rfl rfl ?_
  refine z_get (q0 := 0) (k9 := 4) (v := .ref (a 5)) b (mw_0 cy a S) rfl in_X12 (by decide) wf_X12_27 rfl dX12_packs_98 ?_
  refine z_iconst (v := 3) b dX12_packs_101 (by decide) ?_
  refine z_iload_n b dX12_packs_102 rfl rfl ?_
  refine z_imul (v := 3) b dX12_packs_103 (by decide) ?_
  refine z_iload_n b dX12_packs_104 rfl rfl ?_
  refine z_iload b dX12_packs_105 rfl ?_
  refine z_calli b (z_runS (As := [.int 1, .int 1]) (st := [.int 3, .ref (a 5), .long ((((((((((((((((((((((((0 ||| ((ar S 2 0) : Int32).toInt64) <<< ((1 : Int32).toInt64 &&& 63)) ||| 0) <<< ((3 : Int32).toInt64 &&& 63)) ||| 0) <<< ((1 : Int32).toInt64 &&& 63)) ||| 0) <<< ((3 : Int32).toInt64 &&& 63)) ||| 0) <<< ((1 : Int32).toInt64 &&& 63)) ||| 0) <<< ((4 : Int32).toInt64 &&& 63)) ||| 0) <<< ((2 : Int32).toInt64 &&& 63)) ||| 3) <<< ((1 : Int32).toInt64 &&& 63)) ||| 0) <<< ((3 : Int32).toInt64 &&& 63)) ||| 0) <<< ((1 : Int32).toInt64 &&& 63)) ||| 0) <<< ((3 : Int32).toInt64 &&& 63)) ||| 0) <<< ((1 : Int32).toInt64 &&& 63))]) b (c_X12_other_3 S ) cf_X12_other wm_X12_160 ws_X12_other dX12_packs_107 rfl (Nat.le_of_ble_eq_true rfl) ⟨by decide, by decide, by decide, by decide⟩) (fun r459 u460 h458 => ?_)
  obtain ⟨rfl, rfl⟩ := h458
  refine z_iadd (v := 3) b dX12_packs_110 (by decide) ?_
  refine y_zald (q0 := 5) (j := 3) (v := (ar S 4 3)) b (mw_5 cy a S) (by decide) rfl dX12_packs_111 ?_
  refine z_eqi h_a_4_3 ?_
  refine z_if_eq_t (tgt := 119) b dX12_packs_112 (by decide) (by decide) ?_
  refine z_lconst (v := 0) b dX12_packs_119 (by decide) ?_
  refine z_lor b dX12_packs_120 rfl ?_
  refine z_lstore_n (lv' := [(1, .long (((((((((((((((((((((((((0 ||| ((ar S 2 0) : Int32).toInt64) <<< ((1 : Int32).toInt64 &&& 63)) ||| 0) <<< ((3 : Int32).toInt64 &&& 63)) ||| 0) <<< ((1 : Int32).toInt64 &&& 63)) ||| 0) <<< ((3 : Int32).toInt64 &&& 63)) ||| 0) <<< ((1 : Int32).toInt64 &&& 63)) ||| 0) <<< ((4 : Int32).toInt64 &&& 63)) ||| 0) <<< ((2 : Int32).toInt64 &&& 63)) ||| 3) <<< ((1 : Int32).toInt64 &&& 63)) ||| 0) <<< ((3 : Int32).toInt64 &&& 63)) ||| 0) <<< ((1 : Int32).toInt64 &&& 63)) ||| 0) <<< ((3 : Int32).toInt64 &&& 63)) ||| 0) <<< ((1 : Int32).toInt64 &&& 63)) ||| 0)), (4, .int 1), (3, .int 1), (0, .ref (a 0))]) b dX12_packs_121 rfl (by decide) rfl ?_
  refine z_iinc (k9 := 1) (v := 2) (lv' := [(4, .int 2), (1, .long (((((((((((((((((((((((((0 ||| ((ar S 2 0) : Int32).toInt64) <<< ((1 : Int32).toInt64 &&& 63)) ||| 0) <<< ((3 : Int32).toInt64 &&& 63)) ||| 0) <<< ((1 : Int32).toInt64 &&& 63)) ||| 0) <<< ((3 : Int32).toInt64 &&& 63)) ||| 0) <<< ((1 : Int32).toInt64 &&& 63)) ||| 0) <<< ((4 : Int32).toInt64 &&& 63)) ||| 0) <<< ((2 : Int32).toInt64 &&& 63)) ||| 3) <<< ((1 : Int32).toInt64 &&& 63)) ||| 0) <<< ((3 : Int32).toInt64 &&& 63)) ||| 0) <<< ((1 : Int32).toInt64 &&& 63)) ||| 0) <<< ((3 : Int32).toInt64 &&& 63)) ||| 0) <<< ((1 : Int32).toInt64 &&& 63)) ||| 0)), (3, .int 1), (0, .ref (a 0))]) b dX12_packs_122 rfl (by decide) (by decide) rfl ?_
  refine z_goto (tgt := 67) b dX12_packs_125 (by decide) ?_
  refine z_iload b dX12_packs_67 rfl ?_
  refine z_iconst (v := 2) b dX12_packs_69 (by decide) ?_
  refine z_icmp_ge_t (tgt := 128) b dX12_packs_70 (by decide) (by decide) ?_
  refine z_iinc (k9 := 2) (v := 2) (lv' := [(3, .int 2), (4, .int 2), (1, .long (((((((((((((((((((((((((0 ||| ((ar S 2 0) : Int32).toInt64) <<< ((1 : Int32).toInt64 &&& 63)) ||| 0) <<< ((3 : Int32).toInt64 &&& 63)) ||| 0) <<< ((1 : Int32).toInt64 &&& 63)) ||| 0) <<< ((3 : Int32).toInt64 &&& 63)) ||| 0) <<< ((1 : Int32).toInt64 &&& 63)) ||| 0) <<< ((4 : Int32).toInt64 &&& 63)) ||| 0) <<< ((2 : Int32).toInt64 &&& 63)) ||| 3) <<< ((1 : Int32).toInt64 &&& 63)) ||| 0) <<< ((3 : Int32).toInt64 &&& 63)) ||| 0) <<< ((1 : Int32).toInt64 &&& 63)) ||| 0) <<< ((3 : Int32).toInt64 &&& 63)) ||| 0) <<< ((1 : Int32).toInt64 &&& 63)) ||| 0)), (0, .ref (a 0))]) b dX12_packs_128 rfl (by decide) (by decide) rfl ?_
  refine z_goto (tgt := 8) b dX12_packs_131 (by decide) ?_
  refine z_iload_n b dX12_packs_8 rfl rfl ?_
  refine z_iconst (v := 3) b dX12_packs_9 (by decide) ?_
  refine z_icmp_ge_f (tgt := 134) b dX12_packs_10 (by decide) (by decide) ?_
  refine z_lload_n b dX12_packs_13 rfl rfl ?_
  refine z_iconst (v := 4) b dX12_packs_14 (by decide) ?_
  refine z_lshl b dX12_packs_15 rfl ?_
  refine z_aload_n b dX12_packs_16 rfl rfl ?_
  refine z_get (q0 := 0) (k9 := 0) (v := .ref (a 1)) b (mw_0 cy a S) rfl in_X12 (by decide) wf_X12_13 rfl dX12_packs_17 ?_
  refine z_iload_n b dX12_packs_20 rfl rfl ?_
  refine y_iald (q0 := 1) (j := 2) (v := (ar S 0 2)) b (mw_1 cy a S) (by decide) rfl dX12_packs_21 ?_
  refine z_eqi h_a_0_2 ?_
  refine z_i2l (v := 0) b dX12_packs_22 (by decide) ?_
  refine z_lor b dX12_packs_23 rfl ?_
  refine z_lstore_n (lv' := [(1, .long (((((((((((((((((((((((((((0 ||| ((ar S 2 0) : Int32).toInt64) <<< ((1 : Int32).toInt64 &&& 63)) ||| 0) <<< ((3 : Int32).toInt64 &&& 63)) ||| 0) <<< ((1 : Int32).toInt64 &&& 63)) ||| 0) <<< ((3 : Int32).toInt64 &&& 63)) ||| 0) <<< ((1 : Int32).toInt64 &&& 63)) ||| 0) <<< ((4 : Int32).toInt64 &&& 63)) ||| 0) <<< ((2 : Int32).toInt64 &&& 63)) ||| 3) <<< ((1 : Int32).toInt64 &&& 63)) ||| 0) <<< ((3 : Int32).toInt64 &&& 63)) ||| 0) <<< ((1 : Int32).toInt64 &&& 63)) ||| 0) <<< ((3 : Int32).toInt64 &&& 63)) ||| 0) <<< ((1 : Int32).toInt64 &&& 63)) ||| 0) <<< ((4 : Int32).toInt64 &&& 63)) ||| 0)), (3, .int 2), (4, .int 2), (0, .ref (a 0))]) b dX12_packs_24 rfl (by decide) rfl ?_
  refine z_lload_n b dX12_packs_25 rfl rfl ?_
  refine z_iconst (v := 2) b dX12_packs_26 (by decide) ?_
  refine z_lshl b dX12_packs_27 rfl ?_
  refine z_aload_n b dX12_packs_28 rfl rfl ?_
  refine z_get (q0 := 0) (k9 := 2) (v := .ref (a 3)) b (mw_0 cy a S) rfl in_X12 (by decide) wf_X12_20 rfl dX12_packs_29 ?_
  refine z_iload_n b dX12_packs_32 rfl rfl ?_
  refine y_iald (q0 := 3) (j := 2) (v := (ar S 2 2)) b (mw_3 cy a S) (by decide) rfl dX12_packs_33 ?_
  refine z_eqi h_a_2_2 ?_
  refine z_i2l (v := 3) b dX12_packs_34 (by decide) ?_
  refine z_lor b dX12_packs_35 rfl ?_
  refine z_lstore_n (lv' := [(1, .long (((((((((((((((((((((((((((((0 ||| ((ar S 2 0) : Int32).toInt64) <<< ((1 : Int32).toInt64 &&& 63)) ||| 0) <<< ((3 : Int32).toInt64 &&& 63)) ||| 0) <<< ((1 : Int32).toInt64 &&& 63)) ||| 0) <<< ((3 : Int32).toInt64 &&& 63)) ||| 0) <<< ((1 : Int32).toInt64 &&& 63)) ||| 0) <<< ((4 : Int32).toInt64 &&& 63)) ||| 0) <<< ((2 : Int32).toInt64 &&& 63)) ||| 3) <<< ((1 : Int32).toInt64 &&& 63)) ||| 0) <<< ((3 : Int32).toInt64 &&& 63)) ||| 0) <<< ((1 : Int32).toInt64 &&& 63)) ||| 0) <<< ((3 : Int32).toInt64 &&& 63)) ||| 0) <<< ((1 : Int32).toInt64 &&& 63)) ||| 0) <<< ((4 : Int32).toInt64 &&& 63)) ||| 0) <<< ((2 : Int32).toInt64 &&& 63)) ||| 3)), (3, .int 2), (4, .int 2), (0, .ref (a 0))]) b dX12_packs_36 rfl (by decide) rfl ?_
  refine z_lload_n b dX12_packs_37 rfl rfl ?_
  refine z_iconst (v := 1) b dX12_packs_38 (by decide) ?_
  exact k

set_option maxHeartbeats 4000000 in
set_option maxRecDepth 100000 in
theorem c_X12_packs_4 {l : Launch} {D : va_G} {cy : Nat → ClassId} {T0 tB tE : Nat} {a : Nat → Nat} (S : GS)  (h_i_0 : fi S 0 = 0) (h_a_0_0 : ar S 0 0 = 0) (h_a_3_1 : ar S 3 1 = 0) (h_a_1_1 : ar S 1 1 = 0) (h_a_4_1 : ar S 4 1 = 0) (h_a_1_2 : ar S 1 2 = 0) (h_a_4_2 : ar S 4 2 = 0) (h_a_0_1 : ar S 0 1 = 0) (h_a_2_1 : ar S 2 1 = 3) (h_a_3_5 : ar S 3 5 = 0) (h_a_1_5 : ar S 1 5 = 0) (h_a_4_5 : ar S 4 5 = 0) (h_a_1_3 : ar S 1 3 = 0) (h_a_4_3 : ar S 4 3 = 0) (h_a_0_2 : ar S 0 2 = 0) (h_a_2_2 : ar S 2 2 = 3) (h_a_3_6 : ar S 3 6 = 0) (h_a_1_6 : ar S 1 6 = 0) (h_a_4_6 : ar S 4 6 = 0) (h_a_1_7 : ar S 1 7 = 0) (h_a_4_7 : ar S 4 7 = 0) : Ct l D cy T0 tB tE yX12_packs cX12_packs 5 (some .long) 1 21 0 0 (mw cy a S) [.ref (a 0)] (QL D (U := GS) (fun r u => (((((((((((((((((((((((((((((((((((((((0 ||| ((ar S 2 0) : Int32).toInt64) <<< ((1 : Int32).toInt64 &&& 63)) ||| 0) <<< ((3 : Int32).toInt64 &&& 63)) ||| 0) <<< ((1 : Int32).toInt64 &&& 63)) ||| 0) <<< ((3 : Int32).toInt64 &&& 63)) ||| 0) <<< ((1 : Int32).toInt64 &&& 63)) ||| 0) <<< ((4 : Int32).toInt64 &&& 63)) ||| 0) <<< ((2 : Int32).toInt64 &&& 63)) ||| 3) <<< ((1 : Int32).toInt64 &&& 63)) ||| 0) <<< ((3 : Int32).toInt64 &&& 63)) ||| 0) <<< ((1 : Int32).toInt64 &&& 63)) ||| 0) <<< ((3 : Int32).toInt64 &&& 63)) ||| 0) <<< ((1 : Int32).toInt64 &&& 63)) ||| 0) <<< ((4 : Int32).toInt64 &&& 63)) ||| 0) <<< ((2 : Int32).toInt64 &&& 63)) ||| 3) <<< ((1 : Int32).toInt64 &&& 63)) ||| 0) <<< ((3 : Int32).toInt64 &&& 63)) ||| 0) <<< ((1 : Int32).toInt64 &&& 63)) ||| 0) <<< ((3 : Int32).toInt64 &&& 63)) ||| 0) <<< ((1 : Int32).toInt64 &&& 63)) ||| 0) = r ∧ S = u) (mw cy a)) := by
  refine Ct.ofZ RX12 "packs" [(0, .ref (a 0))] rfl rfl rfl rfl (Nat.le_of_ble_eq_true rfl) ?_
  intro p e R s m args below meth c A b
  refine ch_X12_packs_10 S  h_a_0_0 h_a_0_1 h_a_1_1 h_a_1_2 h_a_3_1 h_a_4_1 h_a_4_2 h_i_0  b ?_
  refine ch_X12_packs_11 S  h_a_0_2 h_a_1_3 h_a_1_5 h_a_2_1 h_a_2_2 h_a_3_5 h_a_4_3 h_a_4_5  b ?_
  refine z_lshl b dX12_packs_39 rfl ?_
  refine z_aload_n b dX12_packs_40 rfl rfl ?_
  refine z_get (q0 := 0) (k9 := 3) (v := .ref (a 4)) b (mw_0 cy a S) rfl in_X12 (by decide) wf_X12_23 rfl dX12_packs_41 ?_
  refine z_iconst (v := 3) b dX12_packs_44 (by decide) ?_
  refine z_iload_n b dX12_packs_45 rfl rfl ?_
  refine z_imul (v := 6) b dX12_packs_46 (by decide) ?_
  refine z_iload_n b dX12_packs_47 rfl rfl ?_
  refine z_iconst (v := 0) b dX12_packs_48 (by decide) ?_
  refine z_calli b (z_runS (As := [.int 2, .int 0]) (st := [.int 6, .ref (a 4), .long ((((((((((((((((((((((((((((((0 ||| ((ar S 2 0) : Int32).toInt64) <<< ((1 : Int32).toInt64 &&& 63)) ||| 0) <<< ((3 : Int32).toInt64 &&& 63)) ||| 0) <<< ((1 : Int32).toInt64 &&& 63)) ||| 0) <<< ((3 : Int32).toInt64 &&& 63)) ||| 0) <<< ((1 : Int32).toInt64 &&& 63)) ||| 0) <<< ((4 : Int32).toInt64 &&& 63)) ||| 0) <<< ((2 : Int32).toInt64 &&& 63)) ||| 3) <<< ((1 : Int32).toInt64 &&& 63)) ||| 0) <<< ((3 : Int32).toInt64 &&& 63)) ||| 0) <<< ((1 : Int32).toInt64 &&& 63)) ||| 0) <<< ((3 : Int32).toInt64 &&& 63)) ||| 0) <<< ((1 : Int32).toInt64 &&& 63)) ||| 0) <<< ((4 : Int32).toInt64 &&& 63)) ||| 0) <<< ((2 : Int32).toInt64 &&& 63)) ||| 3) <<< ((1 : Int32).toInt64 &&& 63))]) b (c_X12_other_2 S ) cf_X12_other wm_X12_160 ws_X12_other dX12_packs_49 rfl (Nat.le_of_ble_eq_true rfl) ⟨by decide, by decide, by decide, by decide⟩) (fun r462 u463 h461 => ?_)
  obtain ⟨rfl, rfl⟩ := h461
  refine z_iadd (v := 6) b dX12_packs_52 (by decide) ?_
  refine y_zald (q0 := 4) (j := 6) (v := (ar S 3 6)) b (mw_4 cy a S) (by decide) rfl dX12_packs_53 ?_
  refine z_eqi h_a_3_6 ?_
  refine z_if_eq_t (tgt := 61) b dX12_packs_54 (by decide) (by decide) ?_
  refine z_lconst (v := 0) b dX12_packs_61 (by decide) ?_
  refine z_lor b dX12_packs_62 rfl ?_
  refine z_lstore_n (lv' := [(1, .long (((((((((((((((((((((((((((((((0 ||| ((ar S 2 0) : Int32).toInt64) <<< ((1 : Int32).toInt64 &&& 63)) ||| 0) <<< ((3 : Int32).toInt64 &&& 63)) ||| 0) <<< ((1 : Int32).toInt64 &&& 63)) ||| 0) <<< ((3 : Int32).toInt64 &&& 63)) ||| 0) <<< ((1 : Int32).toInt64 &&& 63)) ||| 0) <<< ((4 : Int32).toInt64 &&& 63)) ||| 0) <<< ((2 : Int32).toInt64 &&& 63)) ||| 3) <<< ((1 : Int32).toInt64 &&& 63)) ||| 0) <<< ((3 : Int32).toInt64 &&& 63)) ||| 0) <<< ((1 : Int32).toInt64 &&& 63)) ||| 0) <<< ((3 : Int32).toInt64 &&& 63)) ||| 0) <<< ((1 : Int32).toInt64 &&& 63)) ||| 0) <<< ((4 : Int32).toInt64 &&& 63)) ||| 0) <<< ((2 : Int32).toInt64 &&& 63)) ||| 3) <<< ((1 : Int32).toInt64 &&& 63)) ||| 0)), (3, .int 2), (4, .int 2), (0, .ref (a 0))]) b dX12_packs_63 rfl (by decide) rfl ?_
  refine z_iconst (v := 0) b dX12_packs_64 (by decide) ?_
  refine z_istore (lv' := [(4, .int 0), (1, .long (((((((((((((((((((((((((((((((0 ||| ((ar S 2 0) : Int32).toInt64) <<< ((1 : Int32).toInt64 &&& 63)) ||| 0) <<< ((3 : Int32).toInt64 &&& 63)) ||| 0) <<< ((1 : Int32).toInt64 &&& 63)) ||| 0) <<< ((3 : Int32).toInt64 &&& 63)) ||| 0) <<< ((1 : Int32).toInt64 &&& 63)) ||| 0) <<< ((4 : Int32).toInt64 &&& 63)) ||| 0) <<< ((2 : Int32).toInt64 &&& 63)) ||| 3) <<< ((1 : Int32).toInt64 &&& 63)) ||| 0) <<< ((3 : Int32).toInt64 &&& 63)) ||| 0) <<< ((1 : Int32).toInt64 &&& 63)) ||| 0) <<< ((3 : Int32).toInt64 &&& 63)) ||| 0) <<< ((1 : Int32).toInt64 &&& 63)) ||| 0) <<< ((4 : Int32).toInt64 &&& 63)) ||| 0) <<< ((2 : Int32).toInt64 &&& 63)) ||| 3) <<< ((1 : Int32).toInt64 &&& 63)) ||| 0)), (3, .int 2), (0, .ref (a 0))]) b dX12_packs_65 (by decide) rfl ?_
  refine z_iload b dX12_packs_67 rfl ?_
  refine z_iconst (v := 2) b dX12_packs_69 (by decide) ?_
  refine z_icmp_ge_f (tgt := 128) b dX12_packs_70 (by decide) (by decide) ?_
  refine z_lload_n b dX12_packs_73 rfl rfl ?_
  refine z_iconst (v := 3) b dX12_packs_74 (by decide) ?_
  refine z_lshl b dX12_packs_75 rfl ?_
  refine z_aload_n b dX12_packs_76 rfl rfl ?_
  refine z_get (q0 := 0) (k9 := 1) (v := .ref (a 2)) b (mw_0 cy a S) rfl in_X12 (by decide) wf_X12_17 rfl dX12_packs_77 ?_
  refine z_iconst (v := 3) b dX12_packs_80 (by decide) ?_
  refine z_iload_n b dX12_packs_81 rfl rfl ?_
  refine z_imul (v := 6) b dX12_packs_82 (by decide) ?_
  refine z_iload_n b dX12_packs_83 rfl rfl ?_
  refine z_iload b dX12_packs_84 rfl ?_
  refine z_calli b (z_runS (As := [.int 2, .int 0]) (st := [.int 6, .ref (a 2), .long ((((((((((((((((((((((((((((((((0 ||| ((ar S 2 0) : Int32).toInt64) <<< ((1 : Int32).toInt64 &&& 63)) ||| 0) <<< ((3 : Int32).toInt64 &&& 63)) ||| 0) <<< ((1 : Int32).toInt64 &&& 63)) ||| 0) <<< ((3 : Int32).toInt64 &&& 63)) ||| 0) <<< ((1 : Int32).toInt64 &&& 63)) ||| 0) <<< ((4 : Int32).toInt64 &&& 63)) ||| 0) <<< ((2 : Int32).toInt64 &&& 63)) ||| 3) <<< ((1 : Int32).toInt64 &&& 63)) ||| 0) <<< ((3 : Int32).toInt64 &&& 63)) ||| 0) <<< ((1 : Int32).toInt64 &&& 63)) ||| 0) <<< ((3 : Int32).toInt64 &&& 63)) ||| 0) <<< ((1 : Int32).toInt64 &&& 63)) ||| 0) <<< ((4 : Int32).toInt64 &&& 63)) ||| 0) <<< ((2 : Int32).toInt64 &&& 63)) ||| 3) <<< ((1 : Int32).toInt64 &&& 63)) ||| 0) <<< ((3 : Int32).toInt64 &&& 63))]) b (c_X12_other_2 S ) cf_X12_other wm_X12_160 ws_X12_other dX12_packs_86 rfl (Nat.le_of_ble_eq_true rfl) ⟨by decide, by decide, by decide, by decide⟩) (fun r465 u466 h464 => ?_)
  obtain ⟨rfl, rfl⟩ := h464
  refine z_iadd (v := 6) b dX12_packs_89 (by decide) ?_
  refine y_iald (q0 := 2) (j := 6) (v := (ar S 1 6)) b (mw_2 cy a S) (by decide) rfl dX12_packs_90 ?_
  refine z_eqi h_a_1_6 ?_
  refine z_i2l (v := 0) b dX12_packs_91 (by decide) ?_
  refine z_lor b dX12_packs_92 rfl ?_
  refine z_lstore_n (lv' := [(1, .long (((((((((((((((((((((((((((((((((0 ||| ((ar S 2 0) : Int32).toInt64) <<< ((1 : Int32).toInt64 &&& 63)) ||| 0) <<< ((3 : Int32).toInt64 &&& 63)) ||| 0) <<< ((1 : Int32).toInt64 &&& 63)) ||| 0) <<< ((3 : Int32).toInt64 &&& 63)) ||| 0) <<< ((1 : Int32).toInt64 &&& 63)) ||| 0) <<< ((4 : Int32).toInt64 &&& 63)) ||| 0) <<< ((2 : Int32).toInt64 &&& 63)) ||| 3) <<< ((1 : Int32).toInt64 &&& 63)) ||| 0) <<< ((3 : Int32).toInt64 &&& 63)) ||| 0) <<< ((1 : Int32).toInt64 &&& 63)) ||| 0) <<< ((3 : Int32).toInt64 &&& 63)) ||| 0) <<< ((1 : Int32).toInt64 &&& 63)) ||| 0) <<< ((4 : Int32).toInt64 &&& 63)) ||| 0) <<< ((2 : Int32).toInt64 &&& 63)) ||| 3) <<< ((1 : Int32).toInt64 &&& 63)) ||| 0) <<< ((3 : Int32).toInt64 &&& 63)) ||| 0)), (4, .int 0), (3, .int 2), (0, .ref (a 0))]) b dX12_packs_93 rfl (by decide) rfl ?_
  refine z_lload_n b dX12_packs_94 rfl rfl ?_
  refine z_iconst (v := 1) b dX12_packs_95 (by decide) ?_
  refine z_lshl b dX12_packs_96 rfl ?_
  refine z_aload_n b dX12_packs_97 rfl rfl ?_
  refine z_get (q0 := 0) (k9 := 4) (v := .ref (a 5)) b (mw_0 cy a S) rfl in_X12 (by decide) wf_X12_27 rfl dX12_packs_98 ?_
  refine z_iconst (v := 3) b dX12_packs_101 (by decide) ?_
  refine z_iload_n b dX12_packs_102 rfl rfl ?_
  refine z_imul (v := 6) b dX12_packs_103 (by decide) ?_
  refine z_iload_n b dX12_packs_104 rfl rfl ?_
  refine z_iload b dX12_packs_105 rfl ?_
  refine z_calli b (z_runS (As := [.int 2, .int 0]) (st := [.int 6, .ref (a 5), .long ((((((((((((((((((((((((((((((((((0 ||| ((ar S 2 0) : Int32).toInt64) <<< ((1 : Int32).toInt64 &&& 63)) ||| 0) <<< ((3 : Int32).toInt64 &&& 63)) ||| 0) <<< ((1 : Int32).toInt64 &&& 63)) ||| 0) <<< ((3 : Int32).toInt64 &&& 63)) ||| 0) <<< ((1 : Int32).toInt64 &&& 63)) ||| 0) <<< ((4 : Int32).toInt64 &&& 63)) ||| 0) <<< ((2 : Int32).toInt64 &&& 63)) ||| 3) <<< ((1 : Int32).toInt64 &&& 63)) ||| 0) <<< ((3 : Int32).toInt64 &&& 63)) ||| 0) <<< ((1 : Int32).toInt64 &&& 63)) ||| 0) <<< ((3 : Int32).toInt64 &&& 63)) ||| 0) <<< ((1 : Int32).toInt64 &&& 63)) ||| 0) <<< ((4 : Int32).toInt64 &&& 63)) ||| 0) <<< ((2 : Int32).toInt64 &&& 63)) ||| 3) <<< ((1 : Int32).toInt64 &&& 63)) ||| 0) <<< ((3 : Int32).toInt64 &&& 63)) ||| 0) <<< ((1 : Int32).toInt64 &&& 63))]) b (c_X12_other_2 S ) cf_X12_other wm_X12_160 ws_X12_other dX12_packs_107 rfl (Nat.le_of_ble_eq_true rfl) ⟨by decide, by decide, by decide, by decide⟩) (fun r468 u469 h467 => ?_)
  obtain ⟨rfl, rfl⟩ := h467
  refine z_iadd (v := 6) b dX12_packs_110 (by decide) ?_
  refine y_zald (q0 := 5) (j := 6) (v := (ar S 4 6)) b (mw_5 cy a S) (by decide) rfl dX12_packs_111 ?_
  refine z_eqi h_a_4_6 ?_
  refine z_if_eq_t (tgt := 119) b dX12_packs_112 (by decide) (by decide) ?_
  refine z_lconst (v := 0) b dX12_packs_119 (by decide) ?_
  refine z_lor b dX12_packs_120 rfl ?_
  refine z_lstore_n (lv' := [(1, .long (((((((((((((((((((((((((((((((((((0 ||| ((ar S 2 0) : Int32).toInt64) <<< ((1 : Int32).toInt64 &&& 63)) ||| 0) <<< ((3 : Int32).toInt64 &&& 63)) ||| 0) <<< ((1 : Int32).toInt64 &&& 63)) ||| 0) <<< ((3 : Int32).toInt64 &&& 63)) ||| 0) <<< ((1 : Int32).toInt64 &&& 63)) ||| 0) <<< ((4 : Int32).toInt64 &&& 63)) ||| 0) <<< ((2 : Int32).toInt64 &&& 63)) ||| 3) <<< ((1 : Int32).toInt64 &&& 63)) ||| 0) <<< ((3 : Int32).toInt64 &&& 63)) ||| 0) <<< ((1 : Int32).toInt64 &&& 63)) ||| 0) <<< ((3 : Int32).toInt64 &&& 63)) ||| 0) <<< ((1 : Int32).toInt64 &&& 63)) ||| 0) <<< ((4 : Int32).toInt64 &&& 63)) ||| 0) <<< ((2 : Int32).toInt64 &&& 63)) ||| 3) <<< ((1 : Int32).toInt64 &&& 63)) ||| 0) <<< ((3 : Int32).toInt64 &&& 63)) ||| 0) <<< ((1 : Int32).toInt64 &&& 63)) ||| 0)), (4, .int 0), (3, .int 2), (0, .ref (a 0))]) b dX12_packs_121 rfl (by decide) rfl ?_
  refine z_iinc (k9 := 1) (v := 1) (lv' := [(4, .int 1), (1, .long (((((((((((((((((((((((((((((((((((0 ||| ((ar S 2 0) : Int32).toInt64) <<< ((1 : Int32).toInt64 &&& 63)) ||| 0) <<< ((3 : Int32).toInt64 &&& 63)) ||| 0) <<< ((1 : Int32).toInt64 &&& 63)) ||| 0) <<< ((3 : Int32).toInt64 &&& 63)) ||| 0) <<< ((1 : Int32).toInt64 &&& 63)) ||| 0) <<< ((4 : Int32).toInt64 &&& 63)) ||| 0) <<< ((2 : Int32).toInt64 &&& 63)) ||| 3) <<< ((1 : Int32).toInt64 &&& 63)) ||| 0) <<< ((3 : Int32).toInt64 &&& 63)) ||| 0) <<< ((1 : Int32).toInt64 &&& 63)) ||| 0) <<< ((3 : Int32).toInt64 &&& 63)) ||| 0) <<< ((1 : Int32).toInt64 &&& 63)) ||| 0) <<< ((4 : Int32).toInt64 &&& 63)) ||| 0) <<< ((2 : Int32).toInt64 &&& 63)) ||| 3) <<< ((1 : Int32).toInt64 &&& 63)) ||| 0) <<< ((3 : Int32).toInt64 &&& 63)) ||| 0) <<< ((1 : Int32).toInt64 &&& 63)) ||| 0)), (3, .int 2), (0, .ref (a 0))]) b dX12_packs_122 rfl (by decide) (by decide) rfl ?_
  refine z_goto (tgt := 67) b dX12_packs_125 (by decide) ?_
  refine z_iload b dX12_packs_67 rfl ?_
  refine z_iconst (v := 2) b dX12_packs_69 (by decide) ?_
  refine z_icmp_ge_f (tgt := 128) b dX12_packs_70 (by decide) (by decide) ?_
  refine z_lload_n b dX12_packs_73 rfl rfl ?_
  refine z_iconst (v := 3) b dX12_packs_74 (by decide) ?_
  refine z_lshl b dX12_packs_75 rfl ?_
  refine z_aload_n b dX12_packs_76 rfl rfl ?_
  refine z_get (q0 := 0) (k9 := 1) (v := .ref (a 2)) b (mw_0 cy a S) rfl in_X12 (by decide) wf_X12_17 rfl dX12_packs_77 ?_
  refine z_iconst (v := 3) b dX12_packs_80 (by decide) ?_
  refine z_iload_n b dX12_packs_81 rfl rfl ?_
  refine z_imul (v := 6) b dX12_packs_82 (by decide) ?_
  refine z_iload_n b dX12_packs_83 rfl rfl ?_
  refine z_iload b dX12_packs_84 rfl ?_
  refine z_calli b (z_runS (As := [.int 2, .int 1]) (st := [.int 6, .ref (a 2), .long ((((((((((((((((((((((((((((((((((((0 ||| ((ar S 2 0) : Int32).toInt64) <<< ((1 : Int32).toInt64 &&& 63)) ||| 0) <<< ((3 : Int32).toInt64 &&& 63)) ||| 0) <<< ((1 : Int32).toInt64 &&& 63)) ||| 0) <<< ((3 : Int32).toInt64 &&& 63)) ||| 0) <<< ((1 : Int32).toInt64 &&& 63)) ||| 0) <<< ((4 : Int32).toInt64 &&& 63)) ||| 0) <<< ((2 : Int32).toInt64 &&& 63)) ||| 3) <<< ((1 : Int32).toInt64 &&& 63)) ||| 0) <<< ((3 : Int32).toInt64 &&& 63)) ||| 0) <<< ((1 : Int32).toInt64 &&& 63)) ||| 0) <<< ((3 : Int32).toInt64 &&& 63)) ||| 0) <<< ((1 : Int32).toInt64 &&& 63)) ||| 0) <<< ((4 : Int32).toInt64 &&& 63)) ||| 0) <<< ((2 : Int32).toInt64 &&& 63)) ||| 3) <<< ((1 : Int32).toInt64 &&& 63)) ||| 0) <<< ((3 : Int32).toInt64 &&& 63)) ||| 0) <<< ((1 : Int32).toInt64 &&& 63)) ||| 0) <<< ((3 : Int32).toInt64 &&& 63))]) b (c_X12_other S ) cf_X12_other wm_X12_160 ws_X12_other dX12_packs_86 rfl (Nat.le_of_ble_eq_true rfl) ⟨by decide, by decide, by decide, by decide⟩) (fun r471 u472 h470 => ?_)
  obtain ⟨rfl, rfl⟩ := h470
  refine z_iadd (v := 7) b dX12_packs_89 (by decide) ?_
  refine y_iald (q0 := 2) (j := 7) (v := (ar S 1 7)) b (mw_2 cy a S) (by decide) rfl dX12_packs_90 ?_
  refine z_eqi h_a_1_7 ?_
  refine z_i2l (v := 0) b dX12_packs_91 (by decide) ?_
  refine z_lor b dX12_packs_92 rfl ?_
  refine z_lstore_n (lv' := [(1, .long (((((((((((((((((((((((((((((((((((((0 ||| ((ar S 2 0) : Int32).toInt64) <<< ((1 : Int32).toInt64 &&& 63)) ||| 0) <<< ((3 : Int32).toInt64 &&& 63)) ||| 0) <<< ((1 : Int32).toInt64 &&& 63)) ||| 0) <<< ((3 : Int32).toInt64 &&& 63)) ||| 0) <<< ((1 : Int32).toInt64 &&& 63)) ||| 0) <<< ((4 : Int32).toInt64 &&& 63)) ||| 0) <<< ((2 : Int32).toInt64 &&& 63)) ||| 3) <<< ((1 : Int32).toInt64 &&& 63)) ||| 0) <<< ((3 : Int32).toInt64 &&& 63)) ||| 0) <<< ((1 : Int32).toInt64 &&& 63)) ||| 0) <<< ((3 : Int32).toInt64 &&& 63)) ||| 0) <<< ((1 : Int32).toInt64 &&& 63)) ||| 0) <<< ((4 : Int32).toInt64 &&& 63)) ||| 0) <<< ((2 : Int32).toInt64 &&& 63)) ||| 3) <<< ((1 : Int32).toInt64 &&& 63)) ||| 0) <<< ((3 : Int32).toInt64 &&& 63)) ||| 0) <<< ((1 : Int32).toInt64 &&& 63)) ||| 0) <<< ((3 : Int32).toInt64 &&& 63)) ||| 0)), (4, .int 1), (3, .int 2), (0, .ref (a 0))]) b dX12_packs_93 rfl (by decide) rfl ?_
  refine z_lload_n b dX12_packs_94 rfl rfl ?_
  refine z_iconst (v := 1) b dX12_packs_95 (by decide) ?_
  refine z_lshl b dX12_packs_96 rfl ?_
  refine z_aload_n b dX12_packs_97 rfl rfl ?_
  refine z_get (q0 := 0) (k9 := 4) (v := .ref (a 5)) b (mw_0 cy a S) rfl in_X12 (by decide) wf_X12_27 rfl dX12_packs_98 ?_
  refine z_iconst (v := 3) b dX12_packs_101 (by decide) ?_
  refine z_iload_n b dX12_packs_102 rfl rfl ?_
  refine z_imul (v := 6) b dX12_packs_103 (by decide) ?_
  refine z_iload_n b dX12_packs_104 rfl rfl ?_
  refine z_iload b dX12_packs_105 rfl ?_
  refine z_calli b (z_runS (As := [.int 2, .int 1]) (st := [.int 6, .ref (a 5), .long ((((((((((((((((((((((((((((((((((((((0 ||| ((ar S 2 0) : Int32).toInt64) <<< ((1 : Int32).toInt64 &&& 63)) ||| 0) <<< ((3 : Int32).toInt64 &&& 63)) ||| 0) <<< ((1 : Int32).toInt64 &&& 63)) ||| 0) <<< ((3 : Int32).toInt64 &&& 63)) ||| 0) <<< ((1 : Int32).toInt64 &&& 63)) ||| 0) <<< ((4 : Int32).toInt64 &&& 63)) ||| 0) <<< ((2 : Int32).toInt64 &&& 63)) ||| 3) <<< ((1 : Int32).toInt64 &&& 63)) ||| 0) <<< ((3 : Int32).toInt64 &&& 63)) ||| 0) <<< ((1 : Int32).toInt64 &&& 63)) ||| 0) <<< ((3 : Int32).toInt64 &&& 63)) ||| 0) <<< ((1 : Int32).toInt64 &&& 63)) ||| 0) <<< ((4 : Int32).toInt64 &&& 63)) ||| 0) <<< ((2 : Int32).toInt64 &&& 63)) ||| 3) <<< ((1 : Int32).toInt64 &&& 63)) ||| 0) <<< ((3 : Int32).toInt64 &&& 63)) ||| 0) <<< ((1 : Int32).toInt64 &&& 63)) ||| 0) <<< ((3 : Int32).toInt64 &&& 63)) ||| 0) <<< ((1 : Int32).toInt64 &&& 63))]) b (c_X12_other S ) cf_X12_other wm_X12_160 ws_X12_other dX12_packs_107 rfl (Nat.le_of_ble_eq_true rfl) ⟨by decide, by decide, by decide, by decide⟩) (fun r474 u475 h473 => ?_)
  obtain ⟨rfl, rfl⟩ := h473
  refine z_iadd (v := 7) b dX12_packs_110 (by decide) ?_
  refine y_zald (q0 := 5) (j := 7) (v := (ar S 4 7)) b (mw_5 cy a S) (by decide) rfl dX12_packs_111 ?_
  refine z_eqi h_a_4_7 ?_
  refine z_if_eq_t (tgt := 119) b dX12_packs_112 (by decide) (by decide) ?_
  refine z_lconst (v := 0) b dX12_packs_119 (by decide) ?_
  refine z_lor b dX12_packs_120 rfl ?_
  refine z_lstore_n (lv' := [(1, .long (((((((((((((((((((((((((((((((((((((((0 ||| ((ar S 2 0) : Int32).toInt64) <<< ((1 : Int32).toInt64 &&& 63)) ||| 0) <<< ((3 : Int32).toInt64 &&& 63)) ||| 0) <<< ((1 : Int32).toInt64 &&& 63)) ||| 0) <<< ((3 : Int32).toInt64 &&& 63)) ||| 0) <<< ((1 : Int32).toInt64 &&& 63)) ||| 0) <<< ((4 : Int32).toInt64 &&& 63)) ||| 0) <<< ((2 : Int32).toInt64 &&& 63)) ||| 3) <<< ((1 : Int32).toInt64 &&& 63)) ||| 0) <<< ((3 : Int32).toInt64 &&& 63)) ||| 0) <<< ((1 : Int32).toInt64 &&& 63)) ||| 0) <<< ((3 : Int32).toInt64 &&& 63)) ||| 0) <<< ((1 : Int32).toInt64 &&& 63)) ||| 0) <<< ((4 : Int32).toInt64 &&& 63)) ||| 0) <<< ((2 : Int32).toInt64 &&& 63)) ||| 3) <<< ((1 : Int32).toInt64 &&& 63)) ||| 0) <<< ((3 : Int32).toInt64 &&& 63)) ||| 0) <<< ((1 : Int32).toInt64 &&& 63)) ||| 0) <<< ((3 : Int32).toInt64 &&& 63)) ||| 0) <<< ((1 : Int32).toInt64 &&& 63)) ||| 0)), (4, .int 1), (3, .int 2), (0, .ref (a 0))]) b dX12_packs_121 rfl (by decide) rfl ?_
  refine z_iinc (k9 := 1) (v := 2) (lv' := [(4, .int 2), (1, .long (((((((((((((((((((((((((((((((((((((((0 ||| ((ar S 2 0) : Int32).toInt64) <<< ((1 : Int32).toInt64 &&& 63)) ||| 0) <<< ((3 : Int32).toInt64 &&& 63)) ||| 0) <<< ((1 : Int32).toInt64 &&& 63)) ||| 0) <<< ((3 : Int32).toInt64 &&& 63)) ||| 0) <<< ((1 : Int32).toInt64 &&& 63)) ||| 0) <<< ((4 : Int32).toInt64 &&& 63)) ||| 0) <<< ((2 : Int32).toInt64 &&& 63)) ||| 3) <<< ((1 : Int32).toInt64 &&& 63)) ||| 0) <<< ((3 : Int32).toInt64 &&& 63)) ||| 0) <<< ((1 : Int32).toInt64 &&& 63)) ||| 0) <<< ((3 : Int32).toInt64 &&& 63)) ||| 0) <<< ((1 : Int32).toInt64 &&& 63)) ||| 0) <<< ((4 : Int32).toInt64 &&& 63)) ||| 0) <<< ((2 : Int32).toInt64 &&& 63)) ||| 3) <<< ((1 : Int32).toInt64 &&& 63)) ||| 0) <<< ((3 : Int32).toInt64 &&& 63)) ||| 0) <<< ((1 : Int32).toInt64 &&& 63)) ||| 0) <<< ((3 : Int32).toInt64 &&& 63)) ||| 0) <<< ((1 : Int32).toInt64 &&& 63)) ||| 0)), (3, .int 2), (0, .ref (a 0))]) b dX12_packs_122 rfl (by decide) (by decide) rfl ?_
  refine z_goto (tgt := 67) b dX12_packs_125 (by decide) ?_
  refine z_iload b dX12_packs_67 rfl ?_
  refine z_iconst (v := 2) b dX12_packs_69 (by decide) ?_
  refine z_icmp_ge_t (tgt := 128) b dX12_packs_70 (by decide) (by decide) ?_
  refine z_iinc (k9 := 2) (v := 3) (lv' := [(3, .int 3), (4, .int 2), (1, .long (((((((((((((((((((((((((((((((((((((((0 ||| ((ar S 2 0) : Int32).toInt64) <<< ((1 : Int32).toInt64 &&& 63)) ||| 0) <<< ((3 : Int32).toInt64 &&& 63)) ||| 0) <<< ((1 : Int32).toInt64 &&& 63)) ||| 0) <<< ((3 : Int32).toInt64 &&& 63)) ||| 0) <<< ((1 : Int32).toInt64 &&& 63)) ||| 0) <<< ((4 : Int32).toInt64 &&& 63)) ||| 0) <<< ((2 : Int32).toInt64 &&& 63)) ||| 3) <<< ((1 : Int32).toInt64 &&& 63)) ||| 0) <<< ((3 : Int32).toInt64 &&& 63)) ||| 0) <<< ((1 : Int32).toInt64 &&& 63)) ||| 0) <<< ((3 : Int32).toInt64 &&& 63)) ||| 0) <<< ((1 : Int32).toInt64 &&& 63)) ||| 0) <<< ((4 : Int32).toInt64 &&& 63)) ||| 0) <<< ((2 : Int32).toInt64 &&& 63)) ||| 3) <<< ((1 : Int32).toInt64 &&& 63)) ||| 0) <<< ((3 : Int32).toInt64 &&& 63)) ||| 0) <<< ((1 : Int32).toInt64 &&& 63)) ||| 0) <<< ((3 : Int32).toInt64 &&& 63)) ||| 0) <<< ((1 : Int32).toInt64 &&& 63)) ||| 0)), (0, .ref (a 0))]) b dX12_packs_128 rfl (by decide) (by decide) rfl ?_
  refine z_goto (tgt := 8) b dX12_packs_131 (by decide) ?_
  refine z_iload_n b dX12_packs_8 rfl rfl ?_
  refine z_iconst (v := 3) b dX12_packs_9 (by decide) ?_
  refine z_icmp_ge_t (tgt := 134) b dX12_packs_10 (by decide) (by decide) ?_
  refine z_lload_n b dX12_packs_134 rfl rfl ?_
  exact z_lret (u := S) b rfl dX12_packs_135 ⟨rfl, rfl⟩ rfl (by decide) (by decide)

set_option maxHeartbeats 4000000 in
set_option maxRecDepth 100000 in
theorem c_X12_told_4 {l : Launch} {D : va_G} {cy : Nat → ClassId} {T0 tB tE : Nat} {a : Nat → Nat} (S : GS)  (h_i_0 : fi S 0 = 0) (h_a_0_0 : ar S 0 0 = 0) (h_a_3_1 : ar S 3 1 = 0) (h_a_1_1 : ar S 1 1 = 0) (h_a_4_1 : ar S 4 1 = 0) (h_a_1_2 : ar S 1 2 = 0) (h_a_4_2 : ar S 4 2 = 0) (h_a_0_1 : ar S 0 1 = 0) (h_a_2_1 : ar S 2 1 = 3) (h_a_3_5 : ar S 3 5 = 0) (h_a_1_5 : ar S 1 5 = 0) (h_a_4_5 : ar S 4 5 = 0) (h_a_1_3 : ar S 1 3 = 0) (h_a_4_3 : ar S 4 3 = 0) (h_a_0_2 : ar S 0 2 = 0) (h_a_2_2 : ar S 2 2 = 3) (h_a_3_6 : ar S 3 6 = 0) (h_a_1_6 : ar S 1 6 = 0) (h_a_4_6 : ar S 4 6 = 0) (h_a_1_7 : ar S 1 7 = 0) (h_a_4_7 : ar S 4 7 = 0) : Ct l D cy T0 tB tE yX12_told cX12_told 1 (some .boolean) 2 45 0 0 (mw cy a S) [.ref (a 0)] (QI D (U := GS) (fun r u => 1 = r ∧ sl S 0 (((((((((((((((((((((((((((((((((((((((0 ||| ((ar S 2 0) : Int32).toInt64) <<< ((1 : Int32).toInt64 &&& 63)) ||| 0) <<< ((3 : Int32).toInt64 &&& 63)) ||| 0) <<< ((1 : Int32).toInt64 &&& 63)) ||| 0) <<< ((3 : Int32).toInt64 &&& 63)) ||| 0) <<< ((1 : Int32).toInt64 &&& 63)) ||| 0) <<< ((4 : Int32).toInt64 &&& 63)) ||| 0) <<< ((2 : Int32).toInt64 &&& 63)) ||| 3) <<< ((1 : Int32).toInt64 &&& 63)) ||| 0) <<< ((3 : Int32).toInt64 &&& 63)) ||| 0) <<< ((1 : Int32).toInt64 &&& 63)) ||| 0) <<< ((3 : Int32).toInt64 &&& 63)) ||| 0) <<< ((1 : Int32).toInt64 &&& 63)) ||| 0) <<< ((4 : Int32).toInt64 &&& 63)) ||| 0) <<< ((2 : Int32).toInt64 &&& 63)) ||| 3) <<< ((1 : Int32).toInt64 &&& 63)) ||| 0) <<< ((3 : Int32).toInt64 &&& 63)) ||| 0) <<< ((1 : Int32).toInt64 &&& 63)) ||| 0) <<< ((3 : Int32).toInt64 &&& 63)) ||| 0) <<< ((1 : Int32).toInt64 &&& 63)) ||| 0) = u) (mw cy a)) := by
  refine Ct.ofZ RX12 "told" [(0, .ref (a 0))] rfl rfl rfl rfl (Nat.le_of_ble_eq_true rfl) ?_
  intro p e R s m args below meth c A b
  refine z_aload_n b dX12_told_0 rfl rfl ?_
  refine z_aload_n b dX12_told_1 rfl rfl ?_
  refine z_calll b (z_runV (q0 := 0) (As := []) (st := [.ref (a 0)]) b (c_X12_packs_4 S h_i_0 h_a_0_0 h_a_3_1 h_a_1_1 h_a_4_1 h_a_1_2 h_a_4_2 h_a_0_1 h_a_2_1 h_a_3_5 h_a_1_5 h_a_4_5 h_a_1_3 h_a_4_3 h_a_0_2 h_a_2_2 h_a_3_6 h_a_1_6 h_a_4_6 h_a_1_7 h_a_4_7) cf_X12_packs (mw_0 cy a S) rfl wm_X12_149 wi_X12_packs ws_X12_packs dX12_told_2 rfl (Nat.le_of_ble_eq_true rfl) ⟨by decide, by decide, by decide, by decide⟩) (fun r477 u478 h476 => ?_)
  obtain ⟨rfl, rfl⟩ := h476
  refine z_put (q0 := 0) (k9 := 6) tyX12 b (mw_0 cy a S) rfl in_X12 tyX12_ok nmX12 (by decide) wf_X12_153 rfl rfl rfl rfl (Nat.le_of_ble_eq_true rfl) dX12_told_5 (mwp_0_6 cy a S (((((((((((((((((((((((((((((((((((((((0 ||| ((ar S 2 0) : Int32).toInt64) <<< ((1 : Int32).toInt64 &&& 63)) ||| 0) <<< ((3 : Int32).toInt64 &&& 63)) ||| 0) <<< ((1 : Int32).toInt64 &&& 63)) ||| 0) <<< ((3 : Int32).toInt64 &&& 63)) ||| 0) <<< ((1 : Int32).toInt64 &&& 63)) ||| 0) <<< ((4 : Int32).toInt64 &&& 63)) ||| 0) <<< ((2 : Int32).toInt64 &&& 63)) ||| 3) <<< ((1 : Int32).toInt64 &&& 63)) ||| 0) <<< ((3 : Int32).toInt64 &&& 63)) ||| 0) <<< ((1 : Int32).toInt64 &&& 63)) ||| 0) <<< ((3 : Int32).toInt64 &&& 63)) ||| 0) <<< ((1 : Int32).toInt64 &&& 63)) ||| 0) <<< ((4 : Int32).toInt64 &&& 63)) ||| 0) <<< ((2 : Int32).toInt64 &&& 63)) ||| 3) <<< ((1 : Int32).toInt64 &&& 63)) ||| 0) <<< ((3 : Int32).toInt64 &&& 63)) ||| 0) <<< ((1 : Int32).toInt64 &&& 63)) ||| 0) <<< ((3 : Int32).toInt64 &&& 63)) ||| 0) <<< ((1 : Int32).toInt64 &&& 63)) ||| 0)) ?_
  refine z_iconst (v := 1) b dX12_told_8 (by decide) ?_
  exact z_zret (u := (sl S 0 (((((((((((((((((((((((((((((((((((((((0 ||| ((ar S 2 0) : Int32).toInt64) <<< ((1 : Int32).toInt64 &&& 63)) ||| 0) <<< ((3 : Int32).toInt64 &&& 63)) ||| 0) <<< ((1 : Int32).toInt64 &&& 63)) ||| 0) <<< ((3 : Int32).toInt64 &&& 63)) ||| 0) <<< ((1 : Int32).toInt64 &&& 63)) ||| 0) <<< ((4 : Int32).toInt64 &&& 63)) ||| 0) <<< ((2 : Int32).toInt64 &&& 63)) ||| 3) <<< ((1 : Int32).toInt64 &&& 63)) ||| 0) <<< ((3 : Int32).toInt64 &&& 63)) ||| 0) <<< ((1 : Int32).toInt64 &&& 63)) ||| 0) <<< ((3 : Int32).toInt64 &&& 63)) ||| 0) <<< ((1 : Int32).toInt64 &&& 63)) ||| 0) <<< ((4 : Int32).toInt64 &&& 63)) ||| 0) <<< ((2 : Int32).toInt64 &&& 63)) ||| 3) <<< ((1 : Int32).toInt64 &&& 63)) ||| 0) <<< ((3 : Int32).toInt64 &&& 63)) ||| 0) <<< ((1 : Int32).toInt64 &&& 63)) ||| 0) <<< ((3 : Int32).toInt64 &&& 63)) ||| 0) <<< ((1 : Int32).toInt64 &&& 63)) ||| 0))) b rfl (by decide) dX12_told_9 ⟨rfl, rfl⟩ rfl (by decide) (by decide)

set_option maxHeartbeats 4000000 in
set_option maxRecDepth 100000 in
theorem c_X12_owner_4 {l : Launch} {D : va_G} {cy : Nat → ClassId} {T0 tB tE : Nat} {a : Nat → Nat} (S : GS) (p0 : Int32) (h_l_0 : fl S 0 = 1649317774848) (h_a_4_7 : ar S 4 7 = 0) (h_a_1_7 : ar S 1 7 = 0) (h_a_4_6 : ar S 4 6 = 0) (h_a_1_6 : ar S 1 6 = 0) (h_a_3_6 : ar S 3 6 = 0) (h_a_3_2 : ar S 3 2 = 0) (h_a_2_2 : ar S 2 2 = 3) (h_a_0_2 : ar S 0 2 = 0) (h_a_4_3 : ar S 4 3 = 0) (h_a_1_3 : ar S 1 3 = 0) (h_a_4_5 : ar S 4 5 = 0) (h_a_1_5 : ar S 1 5 = 0) (h_a_3_5 : ar S 3 5 = 0) (h_a_3_7 : ar S 3 7 = 0) (h_a_2_1 : ar S 2 1 = 3) (h_a_0_1 : ar S 0 1 = 0) (h_a_4_2 : ar S 4 2 = 0) (h_a_1_2 : ar S 1 2 = 0) (h_a_4_1 : ar S 4 1 = 0) (h_a_1_1 : ar S 1 1 = 0) (h_a_3_1 : ar S 3 1 = 0) (h_a_3_3 : ar S 3 3 = 0) (h_a_2_0 : ar S 2 0 = 3) (h_a_0_0 : ar S 0 0 = 0) (h_i_0 : fi S 0 = 0) (hr_p0 : 0 ≤ p0.toInt ∧ p0.toInt ≤ 3) : Ct l D cy T0 tB tE yX12_owner cX12_owner 3 (some .boolean) 3 65 0 0 (mw cy a S) [.ref (a 0), .int 0, .int p0] (QI D (U := GS) (fun r u => 1 = r ∧ sl (su S 2 0 p0) 0 (((((((((((((((((((((((((((((((((((((((0 ||| ((ar (su S 2 0 p0) 2 0) : Int32).toInt64) <<< ((1 : Int32).toInt64 &&& 63)) ||| 0) <<< ((3 : Int32).toInt64 &&& 63)) ||| 0) <<< ((1 : Int32).toInt64 &&& 63)) ||| 0) <<< ((3 : Int32).toInt64 &&& 63)) ||| 0) <<< ((1 : Int32).toInt64 &&& 63)) ||| 0) <<< ((4 : Int32).toInt64 &&& 63)) ||| 0) <<< ((2 : Int32).toInt64 &&& 63)) ||| 3) <<< ((1 : Int32).toInt64 &&& 63)) ||| 0) <<< ((3 : Int32).toInt64 &&& 63)) ||| 0) <<< ((1 : Int32).toInt64 &&& 63)) ||| 0) <<< ((3 : Int32).toInt64 &&& 63)) ||| 0) <<< ((1 : Int32).toInt64 &&& 63)) ||| 0) <<< ((4 : Int32).toInt64 &&& 63)) ||| 0) <<< ((2 : Int32).toInt64 &&& 63)) ||| 3) <<< ((1 : Int32).toInt64 &&& 63)) ||| 0) <<< ((3 : Int32).toInt64 &&& 63)) ||| 0) <<< ((1 : Int32).toInt64 &&& 63)) ||| 0) <<< ((3 : Int32).toInt64 &&& 63)) ||| 0) <<< ((1 : Int32).toInt64 &&& 63)) ||| 0) = u) (mw cy a)) := by
  refine Ct.ofZ RX12 "owner" [(0, .ref (a 0)), (1, .int 0), (2, .int p0)] rfl rfl rfl rfl (Nat.le_of_ble_eq_true rfl) ?_
  intro p e R s m args below meth c A b
  refine z_iload_n b dX12_owner_0 rfl rfl ?_
  refine z_calli b (z_runS (As := [.int 0]) (st := []) b (c_X12_isOne_3 S ) cf_X12_isOne wm_X12_170 ws_X12_isOne dX12_owner_1 rfl (Nat.le_of_ble_eq_true rfl) ⟨by decide, by decide, by decide, by decide⟩) (fun r421 u422 h420 => ?_)
  obtain ⟨rfl, rfl⟩ := h420
  refine z_if_eq_f (tgt := 16) b dX12_owner_4 (by decide) (by decide) ?_
  refine z_iload_n b dX12_owner_7 rfl rfl ?_
  refine z_iconst (v := 0) b dX12_owner_8 (by decide) ?_
  refine z_iconst (v := 3) b dX12_owner_9 (by decide) ?_
  refine z_calli b (z_runS (As := [.int p0, .int 0, .int 3]) (st := []) b (c_X12_isIn_10 S p0 ⟨by omega, by omega⟩) cf_X12_isIn wm_X12_1 ws_X12_isIn dX12_owner_10 rfl (Nat.le_of_ble_eq_true rfl) ⟨by decide, by decide, by decide, by decide⟩) (fun r426 u427 h425 => ?_)
  obtain ⟨rfl, rfl⟩ := h425
  refine z_if_ne_t (tgt := 18) b dX12_owner_13 (by decide) (by decide) ?_
  refine z_aload_n b dX12_owner_18 rfl rfl ?_
  refine z_aload_n b dX12_owner_19 rfl rfl ?_
  refine z_get (q0 := 0) (k9 := 6) (v := .long (fl S 0)) b (mw_0 cy a S) rfl in_X12 (by decide) wf_X12_153 rfl dX12_owner_20 ?_
  refine z_eql h_l_0 ?_
  refine z_callv b (z_runV (q0 := 0) (As := [.long 1649317774848]) (st := []) b (c_X12_takes S h_a_4_7 h_a_1_7 h_a_4_6 h_a_1_6 h_a_3_6 h_a_3_2 h_a_2_2 h_a_0_2 h_a_4_3 h_a_1_3 h_a_4_5 h_a_1_5 h_a_3_5 h_a_3_7 h_a_2_1 h_a_0_1 h_a_4_2 h_a_1_2 h_a_4_1 h_a_1_1 h_a_3_1 h_a_3_3 h_a_2_0 h_a_0_0 h_i_0) cf_X12_takes (mw_0 cy a S) rfl wm_X12_174 wi_X12_takes ws_X12_takes dX12_owner_23 rfl (Nat.le_of_ble_eq_true rfl) ⟨by decide, by decide, by decide, by decide⟩) (fun u430 h428 => ?_)
  obtain rfl := h428
  refine z_aload_n b dX12_owner_26 rfl rfl ?_
  refine z_get (q0 := 0) (k9 := 2) (v := .ref (a 3)) b (mw_0 cy a S) rfl in_X12 (by decide) wf_X12_20 rfl dX12_owner_27 ?_
  refine z_iload_n b dX12_owner_30 rfl rfl ?_
  refine z_iload_n b dX12_owner_31 rfl rfl ?_
  refine y_iast (q0 := 3) (j := 0) b (mw_3 cy a S) (by decide) dX12_owner_32 (mwa_3 cy a S 0 p0) ?_
  refine z_aload_n b dX12_owner_33 rfl rfl ?_
  refine z_calli b (z_runV (q0 := 0) (As := []) (st := []) b (c_X12_told_4 (su S 2 0 p0) h_i_0 h_a_0_0 h_a_3_1 h_a_1_1 h_a_4_1 h_a_1_2 h_a_4_2 h_a_0_1 h_a_2_1 h_a_3_5 h_a_1_5 h_a_4_5 h_a_1_3 h_a_4_3 h_a_0_2 h_a_2_2 h_a_3_6 h_a_1_6 h_a_4_6 h_a_1_7 h_a_4_7) cf_X12_told (mw_0 cy a (su S 2 0 p0)) rfl wm_X12_178 wi_X12_told ws_X12_told dX12_owner_34 rfl (Nat.le_of_ble_eq_true rfl) ⟨by decide, by decide, by decide, by decide⟩) (fun r480 u481 h479 => ?_)
  obtain ⟨rfl, rfl⟩ := h479
  exact z_zret (u := (sl (su S 2 0 p0) 0 (((((((((((((((((((((((((((((((((((((((0 ||| ((ar (su S 2 0 p0) 2 0) : Int32).toInt64) <<< ((1 : Int32).toInt64 &&& 63)) ||| 0) <<< ((3 : Int32).toInt64 &&& 63)) ||| 0) <<< ((1 : Int32).toInt64 &&& 63)) ||| 0) <<< ((3 : Int32).toInt64 &&& 63)) ||| 0) <<< ((1 : Int32).toInt64 &&& 63)) ||| 0) <<< ((4 : Int32).toInt64 &&& 63)) ||| 0) <<< ((2 : Int32).toInt64 &&& 63)) ||| 3) <<< ((1 : Int32).toInt64 &&& 63)) ||| 0) <<< ((3 : Int32).toInt64 &&& 63)) ||| 0) <<< ((1 : Int32).toInt64 &&& 63)) ||| 0) <<< ((3 : Int32).toInt64 &&& 63)) ||| 0) <<< ((1 : Int32).toInt64 &&& 63)) ||| 0) <<< ((4 : Int32).toInt64 &&& 63)) ||| 0) <<< ((2 : Int32).toInt64 &&& 63)) ||| 3) <<< ((1 : Int32).toInt64 &&& 63)) ||| 0) <<< ((3 : Int32).toInt64 &&& 63)) ||| 0) <<< ((1 : Int32).toInt64 &&& 63)) ||| 0) <<< ((3 : Int32).toInt64 &&& 63)) ||| 0) <<< ((1 : Int32).toInt64 &&& 63)) ||| 0))) b rfl (by decide) dX12_owner_37 ⟨rfl, rfl⟩ rfl (by decide) (by decide)

set_option maxHeartbeats 4000000 in
set_option maxRecDepth 100000 in
theorem c_X11_isWithin_6 {l : Launch} {D : va_G} {cy : Nat → ClassId} {T0 tB tE : Nat} {a : Nat → Nat} {rw : Nat → Option Nat} (S : GS) (p0 : Int32)  (hr_p0 : 4 ≤ p0.toInt ∧ p0.toInt ≤ 2147483647) : Ct l D cy T0 tB tE yX11_isWithin cX11_isWithin 2 (some .boolean) 0 0 0 0 (cw cy tE a rw S) [.int p0, .int 3] (QI D (U := GS) (fun r u => 0 = r ∧ S = u) (cw cy tE a rw)) := by
  refine Ct.ofZ RX11 "isWithin" [(0, .int p0), (1, .int 3)] rfl rfl rfl rfl (Nat.le_of_ble_eq_true rfl) ?_
  intro p e R s m args below meth c A b
  refine z_iload_n b dX11_isWithin_0 rfl rfl ?_
  refine y_if_lt (tgt := 13) (xl := p0.toInt) b rfl dX11_isWithin_1 (by decide) (fun c485 => ?_) (fun c485 => ?_)
  · exfalso; omega
  · refine z_iload_n b dX11_isWithin_4 rfl rfl ?_
    refine z_iload_n b dX11_isWithin_5 rfl rfl ?_
    refine y_icmp_gt (tgt := 13) (xl := p0.toInt) (yl := 3) b rfl (by decide) dX11_isWithin_6 (by decide) (fun c486 => ?_) (fun c486 => ?_)
    · refine z_iconst (v := 0) b dX11_isWithin_13 (by decide) ?_
      exact z_zret (u := S) b rfl (by decide) dX11_isWithin_14 ⟨rfl, rfl⟩ rfl (by decide) (by decide)
    · exfalso; omega

set_option maxHeartbeats 4000000 in
set_option maxRecDepth 100000 in
theorem c_X11_owner_5 {l : Launch} {D : va_G} {cy : Nat → ClassId} {T0 tB tE : Nat} {a : Nat → Nat} {rw : Nat → Option Nat} (S : GS) (p0 : Int32)  (hr_p0 : 4 ≤ p0.toInt ∧ p0.toInt ≤ 2147483647) : Ct l D cy T0 tB tE yX11_owner cX11_owner 3 (some .boolean) 1 21 0 0 (cw cy tE a rw S) [.ref (a 0), .int 0, .int p0] (QI D (U := GS) (fun r u => 0 = r ∧ S = u) (cw cy tE a rw)) := by
  refine Ct.ofZ RX11 "owner" [(0, .ref (a 0)), (1, .int 0), (2, .int p0)] rfl rfl rfl rfl (Nat.le_of_ble_eq_true rfl) ?_
  intro p e R s m args below meth c A b
  refine z_iload_n b dX11_owner_0 rfl rfl ?_
  refine z_calli b (z_runS (As := [.int 0]) (st := []) b (c_X11_isThing_3 S ) cf_X11_isThing wm_X11_87 ws_X11_isThing dX11_owner_1 rfl (Nat.le_of_ble_eq_true rfl) ⟨by decide, by decide, by decide, by decide⟩) (fun r483 u484 h482 => ?_)
  obtain ⟨rfl, rfl⟩ := h482
  refine z_if_eq_f (tgt := 15) b dX11_owner_4 (by decide) (by decide) ?_
  refine z_iload_n b dX11_owner_7 rfl rfl ?_
  refine z_iconst (v := 3) b dX11_owner_8 (by decide) ?_
  refine z_calli b (z_runS (As := [.int p0, .int 3]) (st := []) b (c_X11_isWithin_6 S p0 ⟨by omega, by omega⟩) cf_X11_isWithin wm_X11_73 ws_X11_isWithin dX11_owner_9 rfl (Nat.le_of_ble_eq_true rfl) ⟨by decide, by decide, by decide, by decide⟩) (fun r488 u489 h487 => ?_)
  obtain ⟨rfl, rfl⟩ := h487
  refine z_if_ne_f (tgt := 17) b dX11_owner_12 (by decide) (by decide) ?_
  refine z_iconst (v := 0) b dX11_owner_15 (by decide) ?_
  exact z_zret (u := S) b rfl (by decide) dX11_owner_16 ⟨rfl, rfl⟩ rfl (by decide) (by decide)

set_option maxHeartbeats 4000000 in
set_option maxRecDepth 100000 in
theorem c_X12_isIn_11 {l : Launch} {D : va_G} {cy : Nat → ClassId} {T0 tB tE : Nat} {a : Nat → Nat} (S : GS) (p0 : Int32)  (hr_p0 : 4 ≤ p0.toInt ∧ p0.toInt ≤ 2147483647) : Ct l D cy T0 tB tE yX12_isIn cX12_isIn 3 (some .boolean) 0 0 0 0 (mw cy a S) [.int p0, .int 0, .int 3] (QI D (U := GS) (fun r u => 0 = r ∧ S = u) (mw cy a)) := by
  refine Ct.ofZ RX12 "isIn" [(0, .int p0), (1, .int 0), (2, .int 3)] rfl rfl rfl rfl (Nat.le_of_ble_eq_true rfl) ?_
  intro p e R s m args below meth c A b
  refine z_iload_n b dX12_isIn_0 rfl rfl ?_
  refine z_iload_n b dX12_isIn_1 rfl rfl ?_
  refine y_icmp_lt (tgt := 14) (xl := p0.toInt) (yl := 0) b rfl (by decide) dX12_isIn_2 (by decide) (fun c493 => ?_) (fun c493 => ?_)
  · exfalso; omega
  · refine z_iload_n b dX12_isIn_5 rfl rfl ?_
    refine z_iload_n b dX12_isIn_6 rfl rfl ?_
    refine y_icmp_gt (tgt := 14) (xl := p0.toInt) (yl := 3) b rfl (by decide) dX12_isIn_7 (by decide) (fun c494 => ?_) (fun c494 => ?_)
    · refine z_iconst (v := 0) b dX12_isIn_14 (by decide) ?_
      exact z_zret (u := S) b rfl (by decide) dX12_isIn_15 ⟨rfl, rfl⟩ rfl (by decide) (by decide)
    · exfalso; omega

set_option maxHeartbeats 4000000 in
set_option maxRecDepth 100000 in
theorem c_X12_owner_5 {l : Launch} {D : va_G} {cy : Nat → ClassId} {T0 tB tE : Nat} {a : Nat → Nat} (S : GS) (p0 : Int32)  (hr_p0 : 4 ≤ p0.toInt ∧ p0.toInt ≤ 2147483647) : Ct l D cy T0 tB tE yX12_owner cX12_owner 3 (some .boolean) 2 42 0 0 (mw cy a S) [.ref (a 0), .int 0, .int p0] (QI D (U := GS) (fun r u => 0 = r ∧ S = u) (mw cy a)) := by
  refine Ct.ofZ RX12 "owner" [(0, .ref (a 0)), (1, .int 0), (2, .int p0)] rfl rfl rfl rfl (Nat.le_of_ble_eq_true rfl) ?_
  intro p e R s m args below meth c A b
  refine z_iload_n b dX12_owner_0 rfl rfl ?_
  refine z_calli b (z_runS (As := [.int 0]) (st := []) b (c_X12_isOne_3 S ) cf_X12_isOne wm_X12_170 ws_X12_isOne dX12_owner_1 rfl (Nat.le_of_ble_eq_true rfl) ⟨by decide, by decide, by decide, by decide⟩) (fun r491 u492 h490 => ?_)
  obtain ⟨rfl, rfl⟩ := h490
  refine z_if_eq_f (tgt := 16) b dX12_owner_4 (by decide) (by decide) ?_
  refine z_iload_n b dX12_owner_7 rfl rfl ?_
  refine z_iconst (v := 0) b dX12_owner_8 (by decide) ?_
  refine z_iconst (v := 3) b dX12_owner_9 (by decide) ?_
  refine z_calli b (z_runS (As := [.int p0, .int 0, .int 3]) (st := []) b (c_X12_isIn_11 S p0 ⟨by omega, by omega⟩) cf_X12_isIn wm_X12_1 ws_X12_isIn dX12_owner_10 rfl (Nat.le_of_ble_eq_true rfl) ⟨by decide, by decide, by decide, by decide⟩) (fun r496 u497 h495 => ?_)
  obtain ⟨rfl, rfl⟩ := h495
  refine z_if_ne_f (tgt := 18) b dX12_owner_13 (by decide) (by decide) ?_
  refine z_iconst (v := 0) b dX12_owner_16 (by decide) ?_
  exact z_zret (u := S) b rfl (by decide) dX12_owner_17 ⟨rfl, rfl⟩ rfl (by decide) (by decide)

set_option maxHeartbeats 4000000 in
set_option maxRecDepth 100000 in
theorem c_X11_isThing_4 {l : Launch} {D : va_G} {cy : Nat → ClassId} {T0 tB tE : Nat} {a : Nat → Nat} {rw : Nat → Option Nat} (S : GS)   : Ct l D cy T0 tB tE yX11_isThing cX11_isThing 1 (some .boolean) 0 0 0 0 (cw cy tE a rw S) [.int 1] (QI D (U := GS) (fun r u => 1 = r ∧ S = u) (cw cy tE a rw)) := by
  refine Ct.ofZ RX11 "isThing" [(0, .int 1)] rfl rfl rfl rfl (Nat.le_of_ble_eq_true rfl) ?_
  intro p e R s m args below meth c A b
  refine z_iload_n b dX11_isThing_0 rfl rfl ?_
  refine z_if_lt_f (tgt := 13) b dX11_isThing_1 (by decide) (by decide) ?_
  refine z_iload_n b dX11_isThing_4 rfl rfl ?_
  refine z_iconst (v := 3) b dX11_isThing_5 (by decide) ?_
  refine z_icmp_ge_f (tgt := 13) b dX11_isThing_6 (by decide) (by decide) ?_
  refine z_iconst (v := 1) b dX11_isThing_9 (by decide) ?_
  refine z_goto (tgt := 14) b dX11_isThing_10 (by decide) ?_
  exact z_zret (u := S) b rfl (by decide) dX11_isThing_14 ⟨rfl, rfl⟩ rfl (by decide) (by decide)

set_option maxHeartbeats 4000000 in
set_option maxRecDepth 100000 in
theorem c_X11_owner_6 {l : Launch} {D : va_G} {cy : Nat → ClassId} {T0 tB tE : Nat} {a : Nat → Nat} {rw : Nat → Option Nat} (S : GS) (p0 : Int32)  (hr_p0 : (-2147483648) ≤ p0.toInt ∧ p0.toInt ≤ (-1)) : Ct l D cy T0 tB tE yX11_owner cX11_owner 3 (some .boolean) 1 21 0 0 (cw cy tE a rw S) [.ref (a 0), .int 1, .int p0] (QI D (U := GS) (fun r u => 0 = r ∧ S = u) (cw cy tE a rw)) := by
  refine Ct.ofZ RX11 "owner" [(0, .ref (a 0)), (1, .int 1), (2, .int p0)] rfl rfl rfl rfl (Nat.le_of_ble_eq_true rfl) ?_
  intro p e R s m args below meth c A b
  refine z_iload_n b dX11_owner_0 rfl rfl ?_
  refine z_calli b (z_runS (As := [.int 1]) (st := []) b (c_X11_isThing_4 S ) cf_X11_isThing wm_X11_87 ws_X11_isThing dX11_owner_1 rfl (Nat.le_of_ble_eq_true rfl) ⟨by decide, by decide, by decide, by decide⟩) (fun r499 u500 h498 => ?_)
  obtain ⟨rfl, rfl⟩ := h498
  refine z_if_eq_f (tgt := 15) b dX11_owner_4 (by decide) (by decide) ?_
  refine z_iload_n b dX11_owner_7 rfl rfl ?_
  refine z_iconst (v := 3) b dX11_owner_8 (by decide) ?_
  refine z_calli b (z_runS (As := [.int p0, .int 3]) (st := []) b (c_X11_isWithin_4 S p0 ⟨by omega, by omega⟩) cf_X11_isWithin wm_X11_73 ws_X11_isWithin dX11_owner_9 rfl (Nat.le_of_ble_eq_true rfl) ⟨by decide, by decide, by decide, by decide⟩) (fun r502 u503 h501 => ?_)
  obtain ⟨rfl, rfl⟩ := h501
  refine z_if_ne_f (tgt := 17) b dX11_owner_12 (by decide) (by decide) ?_
  refine z_iconst (v := 0) b dX11_owner_15 (by decide) ?_
  exact z_zret (u := S) b rfl (by decide) dX11_owner_16 ⟨rfl, rfl⟩ rfl (by decide) (by decide)

set_option maxHeartbeats 4000000 in
set_option maxRecDepth 100000 in
theorem c_X12_owner_6 {l : Launch} {D : va_G} {cy : Nat → ClassId} {T0 tB tE : Nat} {a : Nat → Nat} (S : GS) (p0 : Int32)  (hr_p0 : (-2147483648) ≤ p0.toInt ∧ p0.toInt ≤ (-1)) : Ct l D cy T0 tB tE yX12_owner cX12_owner 3 (some .boolean) 2 42 0 0 (mw cy a S) [.ref (a 0), .int 1, .int p0] (QI D (U := GS) (fun r u => 0 = r ∧ S = u) (mw cy a)) := by
  refine Ct.ofZ RX12 "owner" [(0, .ref (a 0)), (1, .int 1), (2, .int p0)] rfl rfl rfl rfl (Nat.le_of_ble_eq_true rfl) ?_
  intro p e R s m args below meth c A b
  refine z_iload_n b dX12_owner_0 rfl rfl ?_
  refine z_calli b (z_runS (As := [.int 1]) (st := []) b (c_X12_isOne_4 S ) cf_X12_isOne wm_X12_170 ws_X12_isOne dX12_owner_1 rfl (Nat.le_of_ble_eq_true rfl) ⟨by decide, by decide, by decide, by decide⟩) (fun r505 u506 h504 => ?_)
  obtain ⟨rfl, rfl⟩ := h504
  refine z_if_eq_f (tgt := 16) b dX12_owner_4 (by decide) (by decide) ?_
  refine z_iload_n b dX12_owner_7 rfl rfl ?_
  refine z_iconst (v := 0) b dX12_owner_8 (by decide) ?_
  refine z_iconst (v := 3) b dX12_owner_9 (by decide) ?_
  refine z_calli b (z_runS (As := [.int p0, .int 0, .int 3]) (st := []) b (c_X12_isIn_9 S p0 ⟨by omega, by omega⟩) cf_X12_isIn wm_X12_1 ws_X12_isIn dX12_owner_10 rfl (Nat.le_of_ble_eq_true rfl) ⟨by decide, by decide, by decide, by decide⟩) (fun r508 u509 h507 => ?_)
  obtain ⟨rfl, rfl⟩ := h507
  refine z_if_ne_f (tgt := 18) b dX12_owner_13 (by decide) (by decide) ?_
  refine z_iconst (v := 0) b dX12_owner_16 (by decide) ?_
  exact z_zret (u := S) b rfl (by decide) dX12_owner_17 ⟨rfl, rfl⟩ rfl (by decide) (by decide)

set_option maxHeartbeats 4000000 in
set_option maxRecDepth 100000 in
theorem c_X9_set_5 {l : Launch} {D : va_G} {cy : Nat → ClassId} {T0 tB tE : Nat} {a : Nat → Nat} {rw : Nat → Option Nat} (S : GS) (p0 : Int32)  (hr_p0 : 0 ≤ p0.toInt ∧ p0.toInt ≤ 3) : Ct l D cy T0 tB tE yX9_set cX9_set 3 none 0 0 0 0 (cw cy tE a rw S) [.ref (a 14), .int 41, .int p0] (QV D (U := GS) (fun u => su S 4 41 p0 = u) (cw cy tE a rw)) := by
  refine Ct.ofZ RX9 "set" [(0, .ref (a 14)), (1, .int 41), (2, .int p0)] rfl rfl rfl rfl (Nat.le_of_ble_eq_true rfl) ?_
  intro p e R s m args below meth c A b
  refine z_iload_n b dX9_set_0 rfl rfl ?_
  refine z_if_lt_f (tgt := 20) b dX9_set_1 (by decide) (by decide) ?_
  refine z_iload_n b dX9_set_4 rfl rfl ?_
  refine z_aload_n b dX9_set_5 rfl rfl ?_
  refine z_get (q0 := 14) (k9 := 0) (v := .ref (a 15)) b (cw_14 cy tE a rw S) rfl in_X9 (by decide) wf_X9_11 rfl dX9_set_6 ?_
  refine z_alen (q0 := 15) (t0 := 0) (v := 51) b (cw_15 cy tE a rw S) rfl rfl dX9_set_9 ?_
  refine z_icmp_ge_f (tgt := 20) b dX9_set_10 (by decide) (by decide) ?_
  refine z_aload_n b dX9_set_13 rfl rfl ?_
  refine z_get (q0 := 14) (k9 := 0) (v := .ref (a 15)) b (cw_14 cy tE a rw S) rfl in_X9 (by decide) wf_X9_11 rfl dX9_set_14 ?_
  refine z_iload_n b dX9_set_17 rfl rfl ?_
  refine z_iload_n b dX9_set_18 rfl rfl ?_
  refine y_iast (q0 := 15) (j := 41) b (cw_15 cy tE a rw S) (by decide) dX9_set_19 (cwa_15 cy tE a rw S 41 p0) ?_
  exact z_vret (u := (su S 4 41 p0)) b rfl dX9_set_20 rfl rfl (by decide) (by decide)

set_option maxHeartbeats 4000000 in
set_option maxRecDepth 100000 in
theorem c_X11_owner_7 {l : Launch} {D : va_G} {cy : Nat → ClassId} {T0 tB tE : Nat} {a : Nat → Nat} {rw : Nat → Option Nat} (S : GS) (p0 : Int32) (h_i_24 : fi S 24 = 0) (hr_p0 : 0 ≤ p0.toInt ∧ p0.toInt ≤ 3) : Ct l D cy T0 tB tE yX11_owner cX11_owner 3 (some .boolean) 1 22 0 0 (cw cy tE a rw S) [.ref (a 0), .int 1, .int p0] (QI D (U := GS) (fun r u => 1 = r ∧ (su S 4 41 p0) = u) (cw cy tE a rw)) := by
  refine Ct.ofZ RX11 "owner" [(0, .ref (a 0)), (1, .int 1), (2, .int p0)] rfl rfl rfl rfl (Nat.le_of_ble_eq_true rfl) ?_
  intro p e R s m args below meth c A b
  refine z_iload_n b dX11_owner_0 rfl rfl ?_
  refine z_calli b (z_runS (As := [.int 1]) (st := []) b (c_X11_isThing_4 S ) cf_X11_isThing wm_X11_87 ws_X11_isThing dX11_owner_1 rfl (Nat.le_of_ble_eq_true rfl) ⟨by decide, by decide, by decide, by decide⟩) (fun r511 u512 h510 => ?_)
  obtain ⟨rfl, rfl⟩ := h510
  refine z_if_eq_f (tgt := 15) b dX11_owner_4 (by decide) (by decide) ?_
  refine z_iload_n b dX11_owner_7 rfl rfl ?_
  refine z_iconst (v := 3) b dX11_owner_8 (by decide) ?_
  refine z_calli b (z_runS (As := [.int p0, .int 3]) (st := []) b (c_X11_isWithin_5 S p0 ⟨by omega, by omega⟩) cf_X11_isWithin wm_X11_73 ws_X11_isWithin dX11_owner_9 rfl (Nat.le_of_ble_eq_true rfl) ⟨by decide, by decide, by decide, by decide⟩) (fun r514 u515 h513 => ?_)
  obtain ⟨rfl, rfl⟩ := h513
  refine z_if_ne_t (tgt := 17) b dX11_owner_12 (by decide) (by decide) ?_
  refine z_aload_n b dX11_owner_17 rfl rfl ?_
  refine z_get (q0 := 0) (k9 := 4) (v := .ref (a 14)) b (cw_0 cy tE a rw S) rfl in_X11 (by decide) wf_X11_34 rfl dX11_owner_18 ?_
  refine z_bipush (v := 40) b dX11_owner_21 (by decide) ?_
  refine z_iload_n b dX11_owner_23 rfl rfl ?_
  refine z_iadd (v := 41) b dX11_owner_24 (by decide) ?_
  refine z_iload_n b dX11_owner_25 rfl rfl ?_
  refine z_callv b (z_runV (q0 := 14) (As := [.int 41, .int p0]) (st := []) b (c_X9_set_5 S p0 ⟨by omega, by omega⟩) cf_X9_set (cw_14 cy tE a rw S) rfl wm_X11_77 wi_X9_set ws_X9_set dX11_owner_26 rfl (Nat.le_of_ble_eq_true rfl) ⟨by decide, by decide, by decide, by decide⟩) (fun u518 h516 => ?_)
  obtain rfl := h516
  refine z_aload_n b dX11_owner_29 rfl rfl ?_
  refine z_get (q0 := 0) (k9 := 6) (v := .ref (a 25)) b (cw_0 cy tE a rw (su S 4 41 p0)) rfl in_X11 (by decide) wf_X11_52 rfl dX11_owner_30 ?_
  refine z_callv b (z_runV (q0 := 25) (As := []) (st := []) b (c_X8_forget (su S 4 41 p0) h_i_24) cf_X8_forget (cw_25 cy tE a rw (su S 4 41 p0)) rfl wm_X11_81 wi_X8_forget ws_X8_forget dX11_owner_33 rfl (Nat.le_of_ble_eq_true rfl) ⟨by decide, by decide, by decide, by decide⟩) (fun u521 h519 => ?_)
  obtain rfl := h519
  refine z_iconst (v := 1) b dX11_owner_36 (by decide) ?_
  exact z_zret (u := (su S 4 41 p0)) b rfl (by decide) dX11_owner_37 ⟨rfl, rfl⟩ rfl (by decide) (by decide)

set_option maxHeartbeats 4000000 in
set_option maxRecDepth 100000 in
theorem ch_X12_packs_12 {p : Program} {l : Launch} {e : Env} {R : Room} {s : State} {m : MethodId} {args : Array Value} {below : List Frame} {meth : Method} {c : Code} {D : va_G} {cy : Nat → ClassId} {T0 tB tE : Nat} {A : Nat → Prop} {Q : State → Prop} {a : Nat → Nat} (S : GS)  (h_a_0_0 : ar S 0 0 = 0) (h_a_1_1 : ar S 1 1 = 0) (h_a_1_2 : ar S 1 2 = 0) (h_a_2_0 : ar S 2 0 = 3) (h_a_3_1 : ar S 3 1 = 0) (h_a_4_1 : ar S 4 1 = 0) (h_a_4_2 : ar S 4 2 = 0) (h_i_0 : fi S 0 = 0) (b : Bz p R s m args meth c D cy T0 tB tE A 5 cX12_packs RX12 (some .long) "packs" 1 21 0 0) (k : Z p l e R s m args below meth c D A 5 Q 0 0 (mw cy a S) [(3, .int 1), (4, .int 2), (1, .long 1536), (0, .ref (a 0))] 21 [.int 1, .ref (a 1), .long 24576]) : Z p l e R s m args below meth c D A 5 Q 0 0 (mw cy a S) [(0, .ref (a 0))] 0 [] := by
  refine z_aload_n b dX12_packs_0 rfl rfl ?_
  refine z_get (q0 := 0) (k9 := 5) (v := .int (fi S 0)) b (mw_0 cy a S) rfl in_X12 (by decide) wf_X12_157 rfl dX12_packs_1 ?_
  refine z_eqi h_i_0 ?_
  refine z_i2l (v := 0) b dX12_packs_4 (by decide) ?_
  refine z_lstore_n (lv' := [(1, .long 0), (0, .ref (a 0))]) b dX12_packs_5 rfl (by decide) rfl ?_
  refine z_iconst (v := 0) b dX12_packs_6 (by decide) ?_
  refine z_istore_n (lv' := [(3, .int 0), (1, .long 0), (0, .ref (a 0))]) b dX12_packs_7 rfl (by decide) rfl ?_
  refine z_iload_n b dX12_packs_8 rfl rfl ?_
  refine z_iconst (v := 3) b dX12_packs_9 (by decide) ?_
  refine z_icmp_ge_f (tgt := 134) b dX12_packs_10 (by decide) (by decide) ?_
  refine z_lload_n b dX12_packs_13 rfl rfl ?_
  refine z_iconst (v := 4) b dX12_packs_14 (by decide) ?_
  refine z_lshl (v := 0) b dX12_packs_15 (by decide) ?_
  refine z_aload_n b dX12_packs_16 rfl rfl ?_
  refine z_get (q0 := 0) (k9 := 0) (v := .ref (a 1)) b (mw_0 cy a S) rfl in_X12 (by decide) wf_X12_13 rfl dX12_packs_17 ?_
  refine z_iload_n b dX12_packs_20 rfl rfl ?_
  refine y_iald (q0 := 1) (j := 0) (v := (ar S 0 0)) b (mw_1 cy a S) (by decide) rfl dX12_packs_21 ?_
  refine z_eqi h_a_0_0 ?_
  refine z_i2l (v := 0) b dX12_packs_22 (by decide) ?_
  refine z_lor (v := 0) b dX12_packs_23 (by decide) ?_
  refine z_lstore_n (lv' := [(1, .long 0), (3, .int 0), (0, .ref (a 0))]) b dX12_packs_24 rfl (by decide) rfl ?_
  refine z_lload_n b dX12_packs_25 rfl rfl ?_
  refine z_iconst (v := 2) b dX12_packs_26 (by decide) ?_
  refine z_lshl (v := 0) b dX12_packs_27 (by decide) ?_
  refine z_aload_n b dX12_packs_28 rfl rfl ?_
  refine z_get (q0 := 0) (k9 := 2) (v := .ref (a 3)) b (mw_0 cy a S) rfl in_X12 (by decide) wf_X12_20 rfl dX12_packs_29 ?_
  refine z_iload_n b dX12_packs_32 rfl rfl ?_
  refine y_iald (q0 := 3) (j := 0) (v := (ar S 2 0)) b (mw_3 cy a S) (by decide) rfl dX12_packs_33 ?_
  refine z_eqi h_a_2_0 ?_
  refine z_i2l (v := 3) b dX12_packs_34 (by decide) ?_
  refine z_lor (v := 3) b dX12_packs_35 (by decide) ?_
  refine z_lstore_n (lv' := [(1, .long 3), (3, .int 0), (0, .ref (a 0))]) b dX12_packs_36 rfl (by decide) rfl ?_
  refine z_lload_n b dX12_packs_37 rfl rfl ?_
  refine z_iconst (v := 1) b dX12_packs_38 (by decide) ?_
  refine z_lshl (v := 6) b dX12_packs_39 (by decide) ?_
  refine z_aload_n b dX12_packs_40 rfl rfl ?_
  refine z_get (q0 := 0) (k9 := 3) (v := .ref (a 4)) b (mw_0 cy a S) rfl in_X12 (by decide) wf_X12_23 rfl dX12_packs_41 ?_
  refine z_iconst (v := 3) b dX12_packs_44 (by decide) ?_
  refine z_iload_n b dX12_packs_45 rfl rfl ?_
  refine z_imul (v := 0) b dX12_packs_46 (by decide) ?_
  refine z_iload_n b dX12_packs_47 rfl rfl ?_
  refine z_iconst (v := 0) b dX12_packs_48 (by decide) ?_
  refine z_calli b (z_runS (As := [.int 0, .int 0]) (st := [.int 0, .ref (a 4), .long 6]) b (c_X12_other_6 S ) cf_X12_other wm_X12_160 ws_X12_other dX12_packs_49 rfl (Nat.le_of_ble_eq_true rfl) ⟨by decide, by decide, by decide, by decide⟩) (fun r532 u533 h531 => ?_)
  obtain ⟨rfl, rfl⟩ := h531
  refine z_iadd (v := 1) b dX12_packs_52 (by decide) ?_
  refine y_zald (q0 := 4) (j := 1) (v := (ar S 3 1)) b (mw_4 cy a S) (by decide) rfl dX12_packs_53 ?_
  refine z_eqi h_a_3_1 ?_
  refine z_if_eq_t (tgt := 61) b dX12_packs_54 (by decide) (by decide) ?_
  refine z_lconst (v := 0) b dX12_packs_61 (by decide) ?_
  refine z_lor (v := 6) b dX12_packs_62 (by decide) ?_
  refine z_lstore_n (lv' := [(1, .long 6), (3, .int 0), (0, .ref (a 0))]) b dX12_packs_63 rfl (by decide) rfl ?_
  refine z_iconst (v := 0) b dX12_packs_64 (by decide) ?_
  refine z_istore (lv' := [(4, .int 0), (1, .long 6), (3, .int 0), (0, .ref (a 0))]) b dX12_packs_65 (by decide) rfl ?_
  refine z_iload b dX12_packs_67 rfl ?_
  refine z_iconst (v := 2) b dX12_packs_69 (by decide) ?_
  refine z_icmp_ge_f (tgt := 128) b dX12_packs_70 (by decide) (by decide) ?_
  refine z_lload_n b dX12_packs_73 rfl rfl ?_
  refine z_iconst (v := 3) b dX12_packs_74 (by decide) ?_
  refine z_lshl (v := 48) b dX12_packs_75 (by decide) ?_
  refine z_aload_n b dX12_packs_76 rfl rfl ?_
  refine z_get (q0 := 0) (k9 := 1) (v := .ref (a 2)) b (mw_0 cy a S) rfl in_X12 (by decide) wf_X12_17 rfl dX12_packs_77 ?_
  refine z_iconst (v := 3) b dX12_packs_80 (by decide) ?_
  refine z_iload_n b dX12_packs_81 rfl rfl ?_
  refine z_imul (v := 0) b dX12_packs_82 (by decide) ?_
  refine z_iload_n b dX12_packs_83 rfl rfl ?_
  refine z_iload b dX12_packs_84 rfl ?_
  refine z_calli b (z_runS (As := [.int 0, .int 0]) (st := [.int 0, .ref (a 2), .long 48]) b (c_X12_other_6 S ) cf_X12_other wm_X12_160 ws_X12_other dX12_packs_86 rfl (Nat.le_of_ble_eq_true rfl) ⟨by decide, by decide, by decide, by decide⟩) (fun r535 u536 h534 => ?_)
  obtain ⟨rfl, rfl⟩ := h534
  refine z_iadd (v := 1) b dX12_packs_89 (by decide) ?_
  refine y_iald (q0 := 2) (j := 1) (v := (ar S 1 1)) b (mw_2 cy a S) (by decide) rfl dX12_packs_90 ?_
  refine z_eqi h_a_1_1 ?_
  refine z_i2l (v := 0) b dX12_packs_91 (by decide) ?_
  refine z_lor (v := 48) b dX12_packs_92 (by decide) ?_
  refine z_lstore_n (lv' := [(1, .long 48), (4, .int 0), (3, .int 0), (0, .ref (a 0))]) b dX12_packs_93 rfl (by decide) rfl ?_
  refine z_lload_n b dX12_packs_94 rfl rfl ?_
  refine z_iconst (v := 1) b dX12_packs_95 (by decide) ?_
  refine z_lshl (v := 96) b dX12_packs_96 (by decide) ?_
  refine z_aload_n b dX12_packs_97 rfl rfl ?_
  refine z_get (q0 := 0) (k9 := 4) (v := .ref (a 5)) b (mw_0 cy a S) rfl in_X12 (by decide) wf_X12_27 rfl dX12_packs_98 ?_
  refine z_iconst (v := 3) b dX12_packs_101 (by decide) ?_
  refine z_iload_n b dX12_packs_102 rfl rfl ?_
  refine z_imul (v := 0) b dX12_packs_103 (by decide) ?_
  refine z_iload_n b dX12_packs_104 rfl rfl ?_
  refine z_iload b dX12_packs_105 rfl ?_
  refine z_calli b (z_runS (As := [.int 0, .int 0]) (st := [.int 0, .ref (a 5), .long 96]) b (c_X12_other_6 S ) cf_X12_other wm_X12_160 ws_X12_other dX12_packs_107 rfl (Nat.le_of_ble_eq_true rfl) ⟨by decide, by decide, by decide, by decide⟩) (fun r538 u539 h537 => ?_)
  obtain ⟨rfl, rfl⟩ := h537
  refine z_iadd (v := 1) b dX12_packs_110 (by decide) ?_
  refine y_zald (q0 := 5) (j := 1) (v := (ar S 4 1)) b (mw_5 cy a S) (by decide) rfl dX12_packs_111 ?_
  refine z_eqi h_a_4_1 ?_
  refine z_if_eq_t (tgt := 119) b dX12_packs_112 (by decide) (by decide) ?_
  refine z_lconst (v := 0) b dX12_packs_119 (by decide) ?_
  refine z_lor (v := 96) b dX12_packs_120 (by decide) ?_
  refine z_lstore_n (lv' := [(1, .long 96), (4, .int 0), (3, .int 0), (0, .ref (a 0))]) b dX12_packs_121 rfl (by decide) rfl ?_
  refine z_iinc (k9 := 1) (v := 1) (lv' := [(4, .int 1), (1, .long 96), (3, .int 0), (0, .ref (a 0))]) b dX12_packs_122 rfl (by decide) (by decide) rfl ?_
  refine z_goto (tgt := 67) b dX12_packs_125 (by decide) ?_
  refine z_iload b dX12_packs_67 rfl ?_
  refine z_iconst (v := 2) b dX12_packs_69 (by decide) ?_
  refine z_icmp_ge_f (tgt := 128) b dX12_packs_70 (by decide) (by decide) ?_
  refine z_lload_n b dX12_packs_73 rfl rfl ?_
  refine z_iconst (v := 3) b dX12_packs_74 (by decide) ?_
  refine z_lshl (v := 768) b dX12_packs_75 (by decide) ?_
  refine z_aload_n b dX12_packs_76 rfl rfl ?_
  refine z_get (q0 := 0) (k9 := 1) (v := .ref (a 2)) b (mw_0 cy a S) rfl in_X12 (by decide) wf_X12_17 rfl dX12_packs_77 ?_
  refine z_iconst (v := 3) b dX12_packs_80 (by decide) ?_
  refine z_iload_n b dX12_packs_81 rfl rfl ?_
  refine z_imul (v := 0) b dX12_packs_82 (by decide) ?_
  refine z_iload_n b dX12_packs_83 rfl rfl ?_
  refine z_iload b dX12_packs_84 rfl ?_
  refine z_calli b (z_runS (As := [.int 0, .int 1]) (st := [.int 0, .ref (a 2), .long 768]) b (c_X12_other_5 S ) cf_X12_other wm_X12_160 ws_X12_other dX12_packs_86 rfl (Nat.le_of_ble_eq_true rfl) ⟨by decide, by decide, by decide, by decide⟩) (fun r541 u542 h540 => ?_)
  obtain ⟨rfl, rfl⟩ := h540
  refine z_iadd (v := 2) b dX12_packs_89 (by decide) ?_
  refine y_iald (q0 := 2) (j := 2) (v := (ar S 1 2)) b (mw_2 cy a S) (by decide) rfl dX12_packs_90 ?_
  refine z_eqi h_a_1_2 ?_
  refine z_i2l (v := 0) b dX12_packs_91 (by decide) ?_
  refine z_lor (v := 768) b dX12_packs_92 (by decide) ?_
  refine z_lstore_n (lv' := [(1, .long 768), (4, .int 1), (3, .int 0), (0, .ref (a 0))]) b dX12_packs_93 rfl (by decide) rfl ?_
  refine z_lload_n b dX12_packs_94 rfl rfl ?_
  refine z_iconst (v := 1) b dX12_packs_95 (by decide) ?_
  refine z_lshl (v := 1536) b dX12_packs_96 (by decide) ?_
  refine z_aload_n b dX12_packs_97 rfl rfl ?_
  refine z_get (q0 := 0) (k9 := 4) (v := .ref (a 5)) b (mw_0 cy a S) rfl in_X12 (by decide) wf_X12_27 rfl dX12_packs_98 ?_
  refine z_iconst (v := 3) b dX12_packs_101 (by decide) ?_
  refine z_iload_n b dX12_packs_102 rfl rfl ?_
  refine z_imul (v := 0) b dX12_packs_103 (by decide) ?_
  refine z_iload_n b dX12_packs_104 rfl rfl ?_
  refine z_iload b dX12_packs_105 rfl ?_
  refine z_calli b (z_runS (As := [.int 0, .int 1]) (st := [.int 0, .ref (a 5), .long 1536]) b (c_X12_other_5 S ) cf_X12_other wm_X12_160 ws_X12_other dX12_packs_107 rfl (Nat.le_of_ble_eq_true rfl) ⟨by decide, by decide, by decide, by decide⟩) (fun r544 u545 h543 => ?_)
  obtain ⟨rfl, rfl⟩ := h543
  refine z_iadd (v := 2) b dX12_packs_110 (by decide) ?_
  refine y_zald (q0 := 5) (j := 2) (v := (ar S 4 2)) b (mw_5 cy a S) (by decide) rfl dX12_packs_111 ?_
  refine z_eqi h_a_4_2 ?_
  refine z_if_eq_t (tgt := 119) b dX12_packs_112 (by decide) (by decide) ?_
  refine z_lconst (v := 0) b dX12_packs_119 (by decide) ?_
  refine z_lor (v := 1536) b dX12_packs_120 (by decide) ?_
  refine z_lstore_n (lv' := [(1, .long 1536), (4, .int 1), (3, .int 0), (0, .ref (a 0))]) b dX12_packs_121 rfl (by decide) rfl ?_
  refine z_iinc (k9 := 1) (v := 2) (lv' := [(4, .int 2), (1, .long 1536), (3, .int 0), (0, .ref (a 0))]) b dX12_packs_122 rfl (by decide) (by decide) rfl ?_
  refine z_goto (tgt := 67) b dX12_packs_125 (by decide) ?_
  refine z_iload b dX12_packs_67 rfl ?_
  refine z_iconst (v := 2) b dX12_packs_69 (by decide) ?_
  refine z_icmp_ge_t (tgt := 128) b dX12_packs_70 (by decide) (by decide) ?_
  refine z_iinc (k9 := 2) (v := 1) (lv' := [(3, .int 1), (4, .int 2), (1, .long 1536), (0, .ref (a 0))]) b dX12_packs_128 rfl (by decide) (by decide) rfl ?_
  refine z_goto (tgt := 8) b dX12_packs_131 (by decide) ?_
  refine z_iload_n b dX12_packs_8 rfl rfl ?_
  refine z_iconst (v := 3) b dX12_packs_9 (by decide) ?_
  refine z_icmp_ge_f (tgt := 134) b dX12_packs_10 (by decide) (by decide) ?_
  refine z_lload_n b dX12_packs_13 rfl rfl ?_
  refine z_iconst (v := 4) b dX12_packs_14 (by decide) ?_
  refine z_lshl (v := 24576) b dX12_packs_15 (by decide) ?_
  refine z_aload_n b dX12_packs_16 rfl rfl ?_
  refine z_get (q0 := 0) (k9 := 0) (v := .ref (a 1)) b (mw_0 cy a S) rfl in_X12 (by decide) wf_X12_13 rfl dX12_packs_17 ?_
  refine z_iload_n b dX12_packs_20 rfl rfl ?_
  exact k

set_option maxHeartbeats 4000000 in
set_option maxRecDepth 100000 in
theorem ch_X12_packs_13 {p : Program} {l : Launch} {e : Env} {R : Room} {s : State} {m : MethodId} {args : Array Value} {below : List Frame} {meth : Method} {c : Code} {D : va_G} {cy : Nat → ClassId} {T0 tB tE : Nat} {A : Nat → Prop} {Q : State → Prop} {a : Nat → Nat} (S : GS)  (h_a_0_1 : ar S 0 1 = 0) (h_a_0_2 : ar S 0 2 = 0) (h_a_1_3 : ar S 1 3 = 0) (h_a_1_5 : ar S 1 5 = 0) (h_a_2_2 : ar S 2 2 = 3) (h_a_3_5 : ar S 3 5 = 0) (h_a_4_3 : ar S 4 3 = 0) (h_a_4_5 : ar S 4 5 = 0) (b : Bz p R s m args meth c D cy T0 tB tE A 5 cX12_packs RX12 (some .long) "packs" 1 21 0 0) (k : Z p l e R s m args below meth c D A 5 Q 0 0 (mw cy a S) [(1, .long (((((((((((((((98304 ||| ((ar S 2 1) : Int32).toInt64) <<< ((1 : Int32).toInt64 &&& 63)) ||| 0) <<< ((3 : Int32).toInt64 &&& 63)) ||| 0) <<< ((1 : Int32).toInt64 &&& 63)) ||| 0) <<< ((3 : Int32).toInt64 &&& 63)) ||| 0) <<< ((1 : Int32).toInt64 &&& 63)) ||| 0) <<< ((4 : Int32).toInt64 &&& 63)) ||| 0) <<< ((2 : Int32).toInt64 &&& 63)) ||| 3)), (3, .int 2), (4, .int 2), (0, .ref (a 0))] 38 [.long (((((((((((((((98304 ||| ((ar S 2 1) : Int32).toInt64) <<< ((1 : Int32).toInt64 &&& 63)) ||| 0) <<< ((3 : Int32).toInt64 &&& 63)) ||| 0) <<< ((1 : Int32).toInt64 &&& 63)) ||| 0) <<< ((3 : Int32).toInt64 &&& 63)) ||| 0) <<< ((1 : Int32).toInt64 &&& 63)) ||| 0) <<< ((4 : Int32).toInt64 &&& 63)) ||| 0) <<< ((2 : Int32).toInt64 &&& 63)) ||| 3)]) : Z p l e R s m args below meth c D A 5 Q 0 0 (mw cy a S) [(3, .int 1), (4, .int 2), (1, .long 1536), (0, .ref (a 0))] 21 [.int 1, .ref (a 1), .long 24576] := by
  refine y_iald (q0 := 1) (j := 1) (v := (ar S 0 1)) b (mw_1 cy a S) (by decide) rfl dX12_packs_21 ?_
  refine z_eqi h_a_0_1 ?_
  refine z_i2l (v := 0) b dX12_packs_22 (by decide) ?_
  refine z_lor (v := 24576) b dX12_packs_23 (by decide) ?_
  refine z_lstore_n (lv' := [(1, .long 24576), (3, .int 1), (4, .int 2), (0, .ref (a 0))]) b dX12_packs_24 rfl (by decide) rfl ?_
  refine z_lload_n b dX12_packs_25 rfl rfl ?_
  refine z_iconst (v := 2) b dX12_packs_26 (by decide) ?_
  refine z_lshl (v := 98304) b dX12_packs_27 (by decide) ?_
  refine z_aload_n b dX12_packs_28 rfl rfl ?_
  refine z_get (q0 := 0) (k9 := 2) (v := .ref (a 3)) b (mw_0 cy a S) rfl in_X12 (by decide) wf_X12_20 rfl dX12_packs_29 ?_
  refine z_iload_n b dX12_packs_32 rfl rfl ?_
  refine y_iald (q0 := 3) (j := 1) (v := (ar S 2 1)) b (mw_3 cy a S) (by decide) rfl dX12_packs_33 ?_
  refine z_i2l b dX12_packs_34 rfl ?_
  refine z_lor b dX12_packs_35 rfl ?_
  refine z_lstore_n (lv' := [(1, .long (98304 ||| ((ar S 2 1) : Int32).toInt64)), (3, .int 1), (4, .int 2), (0, .ref (a 0))]) b dX12_packs_36 rfl (by decide) rfl ?_
  refine z_lload_n b dX12_packs_37 rfl rfl ?_
  refine z_iconst (v := 1) b dX12_packs_38 (by decide) ?_
  refine z_lshl b dX12_packs_39 rfl ?_
  refine z_aload_n b dX12_packs_40 rfl rfl ?_
  refine z_get (q0 := 0) (k9 := 3) (v := .ref (a 4)) b (mw_0 cy a S) rfl in_X12 (by decide) wf_X12_23 rfl dX12_packs_41 ?_
  refine z_iconst (v := 3) b dX12_packs_44 (by decide) ?_
  refine z_iload_n b dX12_packs_45 rfl rfl ?_
  refine z_imul (v := 3) b dX12_packs_46 (by decide) ?_
  refine z_iload_n b dX12_packs_47 rfl rfl ?_
  refine z_iconst (v := 0) b dX12_packs_48 (by decide) ?_
  refine z_calli b (z_runS (As := [.int 1, .int 0]) (st := [.int 3, .ref (a 4), .long ((98304 ||| ((ar S 2 1) : Int32).toInt64) <<< ((1 : Int32).toInt64 &&& 63))]) b (c_X12_other_4 S ) cf_X12_other wm_X12_160 ws_X12_other dX12_packs_49 rfl (Nat.le_of_ble_eq_true rfl) ⟨by decide, by decide, by decide, by decide⟩) (fun r547 u548 h546 => ?_)
  obtain ⟨rfl, rfl⟩ := h546
  refine z_iadd (v := 5) b dX12_packs_52 (by decide) ?_
  refine y_zald (q0 := 4) (j := 5) (v := (ar S 3 5)) b (mw_4 cy a S) (by decide) rfl dX12_packs_53 ?_
  refine z_eqi h_a_3_5 ?_
  refine z_if_eq_t (tgt := 61) b dX12_packs_54 (by decide) (by decide) ?_
  refine z_lconst (v := 0) b dX12_packs_61 (by decide) ?_
  refine z_lor b dX12_packs_62 rfl ?_
  refine z_lstore_n (lv' := [(1, .long (((98304 ||| ((ar S 2 1) : Int32).toInt64) <<< ((1 : Int32).toInt64 &&& 63)) ||| 0)), (3, .int 1), (4, .int 2), (0, .ref (a 0))]) b dX12_packs_63 rfl (by decide) rfl ?_
  refine z_iconst (v := 0) b dX12_packs_64 (by decide) ?_
  refine z_istore (lv' := [(4, .int 0), (1, .long (((98304 ||| ((ar S 2 1) : Int32).toInt64) <<< ((1 : Int32).toInt64 &&& 63)) ||| 0)), (3, .int 1), (0, .ref (a 0))]) b dX12_packs_65 (by decide) rfl ?_
  refine z_iload b dX12_packs_67 rfl ?_
  refine z_iconst (v := 2) b dX12_packs_69 (by decide) ?_
  refine z_icmp_ge_f (tgt := 128) b dX12_packs_70 (by decide) (by decide) ?_
  refine z_lload_n b dX12_packs_73 rfl rfl ?_
  refine z_iconst (v := 3) b dX12_packs_74 (by decide) ?_
  refine z_lshl b dX12_packs_75 rfl ?_
  refine z_aload_n b dX12_packs_76 rfl rfl ?_
  refine z_get (q0 := 0) (k9 := 1) (v := .ref (a 2)) b (mw_0 cy a S) rfl in_X12 (by decide) wf_X12_17 rfl dX12_packs_77 ?_
  refine z_iconst (v := 3) b dX12_packs_80 (by decide) ?_
  refine z_iload_n b dX12_packs_81 rfl rfl ?_
  refine z_imul (v := 3) b dX12_packs_82 (by decide) ?_
  refine z_iload_n b dX12_packs_83 rfl rfl ?_
  refine z_iload b dX12_packs_84 rfl ?_
  refine z_calli b (z_runS (As := [.int 1, .int 0]) (st := [.int 3, .ref (a 2), .long ((((98304 ||| ((ar S 2 1) : Int32).toInt64) <<< ((1 : Int32).toInt64 &&& 63)) ||| 0) <<< ((3 : Int32).toInt64 &&& 63))]) b (c_X12_other_4 S ) cf_X12_other wm_X12_160 ws_X12_other dX12_packs_86 rfl (Nat.le_of_ble_eq_true rfl) ⟨by decide, by decide, by decide, by decide⟩) (fun r550 u551 h549 => ?_)
  obtain ⟨rfl, rfl⟩ := h549
  refine z_iadd (v := 5) b dX12_packs_89 (by decide) ?_
  refine y_iald (q0 := 2) (j := 5) (v := (ar S 1 5)) b (mw_2 cy a S) (by decide) rfl dX12_packs_90 ?_
  refine z_eqi h_a_1_5 ?_
  refine z_i2l (v := 0) b dX12_packs_91 (by decide) ?_
  refine z_lor b dX12_packs_92 rfl ?_
  refine z_lstore_n (lv' := [(1, .long (((((98304 ||| ((ar S 2 1) : Int32).toInt64) <<< ((1 : Int32).toInt64 &&& 63)) ||| 0) <<< ((3 : Int32).toInt64 &&& 63)) ||| 0)), (4, .int 0), (3, .int 1), (0, .ref (a 0))]) b dX12_packs_93 rfl (by decide) rfl ?_
  refine z_lload_n b dX12_packs_94 rfl rfl ?_
  refine z_iconst (v := 1) b dX12_packs_95 (by decide) ?_
  refine z_lshl b dX12_packs_96 rfl ?_
  refine z_aload_n b dX12_packs_97 rfl rfl ?_
  refine z_get (q0 := 0) (k9 := 4) (v := .ref (a 5)) b (mw_0 cy a S) rfl in_X12 (by decide) wf_X12_27 rfl dX12_packs_98 ?_
  refine z_iconst (v := 3) b dX12_packs_101 (by decide) ?_
  refine z_iload_n b dX12_packs_102 rfl rfl ?_
  refine z_imul (v := 3) b dX12_packs_103 (by decide) ?_
  refine z_iload_n b dX12_packs_104 rfl rfl ?_
  refine z_iload b dX12_packs_105 rfl ?_
  refine z_calli b (z_runS (As := [.int 1, .int 0]) (st := [.int 3, .ref (a 5), .long ((((((98304 ||| ((ar S 2 1) : Int32).toInt64) <<< ((1 : Int32).toInt64 &&& 63)) ||| 0) <<< ((3 : Int32).toInt64 &&& 63)) ||| 0) <<< ((1 : Int32).toInt64 &&& 63))]) b (c_X12_other_4 S ) cf_X12_other wm_X12_160 ws_X12_other dX12_packs_107 rfl (Nat.le_of_ble_eq_true rfl) ⟨by decide, by decide, by decide, by decide⟩) (fun r553 u554 h552 => ?_)
  obtain ⟨rfl, rfl⟩ := h552
  refine z_iadd (v := 5) b dX12_packs_110 (by decide) ?_
  refine y_zald (q0 := 5) (j := 5) (v := (ar S 4 5)) b (mw_5 cy a S) (by decide) rfl dX12_packs_111 ?_
  refine z_eqi h_a_4_5 ?_
  refine z_if_eq_t (tgt := 119) b dX12_packs_112 (by decide) (by decide) ?_
  refine z_lconst (v := 0) b dX12_packs_119 (by decide) ?_
  refine z_lor b dX12_packs_120 rfl ?_
  refine z_lstore_n (lv' := [(1, .long (((((((98304 ||| ((ar S 2 1) : Int32).toInt64) <<< ((1 : Int32).toInt64 &&& 63)) ||| 0) <<< ((3 : Int32).toInt64 &&& 63)) ||| 0) <<< ((1 : Int32).toInt64 &&& 63)) ||| 0)), (4, .int 0), (3, .int 1), (0, .ref (a 0))]) b dX12_packs_121 rfl (by decide) rfl ?_
  refine z_iinc (k9 := 1) (v := 1) (lv' := [(4, .int 1), (1, .long (((((((98304 ||| ((ar S 2 1) : Int32).toInt64) <<< ((1 : Int32).toInt64 &&& 63)) ||| 0) <<< ((3 : Int32).toInt64 &&& 63)) ||| 0) <<< ((1 : Int32).toInt64 &&& 63)) ||| 0)), (3, .int 1), (0, .ref (a 0))]) b dX12_packs_122 rfl (by decide) (by decide) rfl ?_
  refine z_goto (tgt := 67) b dX12_packs_125 (by decide) ?_
  refine z_iload b dX12_packs_67 rfl ?_
  refine z_iconst (v := 2) b dX12_packs_69 (by decide) ?_
  refine z_icmp_ge_f (tgt := 128) b dX12_packs_70 (by decide) (by decide) ?_
  refine z_lload_n b dX12_packs_73 rfl rfl ?_
  refine z_iconst (v := 3) b dX12_packs_74 (by decide) ?_
  refine z_lshl b dX12_packs_75 rfl ?_
  refine z_aload_n b dX12_packs_76 rfl rfl ?_
  refine z_get (q0 := 0) (k9 := 1) (v := .ref (a 2)) b (mw_0 cy a S) rfl in_X12 (by decide) wf_X12_17 rfl dX12_packs_77 ?_
  refine z_iconst (v := 3) b dX12_packs_80 (by decide) ?_
  refine z_iload_n b dX12_packs_81 rfl rfl ?_
  refine z_imul (v := 3) b dX12_packs_82 (by decide) ?_
  refine z_iload_n b dX12_packs_83 rfl rfl ?_
  refine z_iload b dX12_packs_84 rfl ?_
  refine z_calli b (z_runS (As := [.int 1, .int 1]) (st := [.int 3, .ref (a 2), .long ((((((((98304 ||| ((ar S 2 1) : Int32).toInt64) <<< ((1 : Int32).toInt64 &&& 63)) ||| 0) <<< ((3 : Int32).toInt64 &&& 63)) ||| 0) <<< ((1 : Int32).toInt64 &&& 63)) ||| 0) <<< ((3 : Int32).toInt64 &&& 63))]) b (c_X12_other_3 S ) cf_X12_other wm_X12_160 ws_X12_other dX12_packs_86 rfl (Nat.le_of_ble_eq_true rfl) ⟨by decide, by decide, by decide, by decide⟩) (fun r556 u557 h555 => ?_)
  obtain ⟨rfl, rfl⟩ := h555
  refine z_iadd (v := 3) b dX12_packs_89 (by decide) ?_
  refine y_iald (q0 := 2) (j := 3) (v := (ar S 1 3)) b (mw_2 cy a S) (by decide) rfl dX12_packs_90 ?_
  refine z_eqi h_a_1_3 ?_
  refine z_i2l (v := 0) b dX12_packs_91 (by decide) ?_
  refine z_lor b dX12_packs_92 rfl ?_
  refine z_lstore_n (lv' := [(1, .long (((((((((98304 ||| ((ar S 2 1) : Int32).toInt64) <<< ((1 : Int32).toInt64 &&& 63)) ||| 0) <<< ((3 : Int32).toInt64 &&& 63)) ||| 0) <<< ((1 : Int32).toInt64 &&& 63)) ||| 0) <<< ((3 : Int32).toInt64 &&& 63)) ||| 0)), (4, .int 1), (3, .int 1), (0, .ref (a 0))]) b dX12_packs_93 rfl (by decide) rfl ?_
  refine z_lload_n b dX12_packs_94 rfl rfl ?_
  refine z_iconst (v := 1) b dX12_packs_95 (by decide) ?_
  refine z_lshl b dX12_packs_96 rfl ?_
  refine z_aload_n b dX12_packs_97 rfl rfl ?_
  refine z_get (q0 := 0) (k9 := 4) (v := .ref (a 5)) b (mw_0 cy a S) rfl in_X12 (by decide) wf_X12_27 rfl dX12_packs_98 ?_
  refine z_iconst (v := 3) b dX12_packs_101 (by decide) ?_
  refine z_iload_n b dX12_packs_102 rfl rfl ?_
  refine z_imul (v := 3) b dX12_packs_103 (by decide) ?_
  refine z_iload_n b dX12_packs_104 rfl rfl ?_
  refine z_iload b dX12_packs_105 rfl ?_
  refine z_calli b (z_runS (As := [.int 1, .int 1]) (st := [.int 3, .ref (a 5), .long ((((((((((98304 ||| ((ar S 2 1) : Int32).toInt64) <<< ((1 : Int32).toInt64 &&& 63)) ||| 0) <<< ((3 : Int32).toInt64 &&& 63)) ||| 0) <<< ((1 : Int32).toInt64 &&& 63)) ||| 0) <<< ((3 : Int32).toInt64 &&& 63)) ||| 0) <<< ((1 : Int32).toInt64 &&& 63))]) b (c_X12_other_3 S ) cf_X12_other wm_X12_160 ws_X12_other dX12_packs_107 rfl (Nat.le_of_ble_eq_true rfl) ⟨by decide, by decide, by decide, by decide⟩) (fun r559 u560 h558 => ?_)
  obtain ⟨rfl, rfl⟩ := h558
  refine z_iadd (v := 3) b dX12_packs_110 (by decide) ?_
  refine y_zald (q0 := 5) (j := 3) (v := (ar S 4 3)) b (mw_5 cy a S) (by decide) rfl dX12_packs_111 ?_
  refine z_eqi h_a_4_3 ?_
  refine z_if_eq_t (tgt := 119) b dX12_packs_112 (by decide) (by decide) ?_
  refine z_lconst (v := 0) b dX12_packs_119 (by decide) ?_
  refine z_lor b dX12_packs_120 rfl ?_
  refine z_lstore_n (lv' := [(1, .long (((((((((((98304 ||| ((ar S 2 1) : Int32).toInt64) <<< ((1 : Int32).toInt64 &&& 63)) ||| 0) <<< ((3 : Int32).toInt64 &&& 63)) ||| 0) <<< ((1 : Int32).toInt64 &&& 63)) ||| 0) <<< ((3 : Int32).toInt64 &&& 63)) ||| 0) <<< ((1 : Int32).toInt64 &&& 63)) ||| 0)), (4, .int 1), (3, .int 1), (0, .ref (a 0))]) b dX12_packs_121 rfl (by decide) rfl ?_
  refine z_iinc (k9 := 1) (v := 2) (lv' := [(4, .int 2), (1, .long (((((((((((98304 ||| ((ar S 2 1) : Int32).toInt64) <<< ((1 : Int32).toInt64 &&& 63)) ||| 0) <<< ((3 : Int32).toInt64 &&& 63)) ||| 0) <<< ((1 : Int32).toInt64 &&& 63)) ||| 0) <<< ((3 : Int32).toInt64 &&& 63)) ||| 0) <<< ((1 : Int32).toInt64 &&& 63)) ||| 0)), (3, .int 1), (0, .ref (a 0))]) b dX12_packs_122 rfl (by decide) (by decide) rfl ?_
  refine z_goto (tgt := 67) b dX12_packs_125 (by decide) ?_
  refine z_iload b dX12_packs_67 rfl ?_
  refine z_iconst (v := 2) b dX12_packs_69 (by decide) ?_
  refine z_icmp_ge_t (tgt := 128) b dX12_packs_70 (by decide) (by decide) ?_
  refine z_iinc (k9 := 2) (v := 2) (lv' := [(3, .int 2), (4, .int 2), (1, .long (((((((((((98304 ||| ((ar S 2 1) : Int32).toInt64) <<< ((1 : Int32).toInt64 &&& 63)) ||| 0) <<< ((3 : Int32).toInt64 &&& 63)) ||| 0) <<< ((1 : Int32).toInt64 &&& 63)) ||| 0) <<< ((3 : Int32).toInt64 &&& 63)) ||| 0) <<< ((1 : Int32).toInt64 &&& 63)) ||| 0)), (0, .ref (a 0))]) b dX12_packs_128 rfl (by decide) (by decide) rfl ?_
  refine z_goto (tgt := 8) b dX12_packs_131 (by decide) ?_
  refine z_iload_n b dX12_packs_8 rfl rfl ?_
  refine z_iconst (v := 3) b dX12_packs_9 (by decide) ?_
  refine z_icmp_ge_f (tgt := 134) b dX12_packs_10 (by decide) (by decide) ?_
  refine z_lload_n b dX12_packs_13 rfl rfl ?_
  refine z_iconst (v := 4) b dX12_packs_14 (by decide) ?_
  refine z_lshl b dX12_packs_15 rfl ?_
  refine z_aload_n b dX12_packs_16 rfl rfl ?_
  refine z_get (q0 := 0) (k9 := 0) (v := .ref (a 1)) b (mw_0 cy a S) rfl in_X12 (by decide) wf_X12_13 rfl dX12_packs_17 ?_
  refine z_iload_n b dX12_packs_20 rfl rfl ?_
  refine y_iald (q0 := 1) (j := 2) (v := (ar S 0 2)) b (mw_1 cy a S) (by decide) rfl dX12_packs_21 ?_
  refine z_eqi h_a_0_2 ?_
  refine z_i2l (v := 0) b dX12_packs_22 (by decide) ?_
  refine z_lor b dX12_packs_23 rfl ?_
  refine z_lstore_n (lv' := [(1, .long (((((((((((((98304 ||| ((ar S 2 1) : Int32).toInt64) <<< ((1 : Int32).toInt64 &&& 63)) ||| 0) <<< ((3 : Int32).toInt64 &&& 63)) ||| 0) <<< ((1 : Int32).toInt64 &&& 63)) ||| 0) <<< ((3 : Int32).toInt64 &&& 63)) ||| 0) <<< ((1 : Int32).toInt64 &&& 63)) ||| 0) <<< ((4 : Int32).toInt64 &&& 63)) ||| 0)), (3, .int 2), (4, .int 2), (0, .ref (a 0))]) b dX12_packs_24 rfl (by decide) rfl ?_
  refine z_lload_n b dX12_packs_25 rfl rfl ?_
  refine z_iconst (v := 2) b dX12_packs_26 (by decide) ?_
  refine z_lshl b dX12_packs_27 rfl ?_
  refine z_aload_n b dX12_packs_28 rfl rfl ?_
  refine z_get (q0 := 0) (k9 := 2) (v := .ref (a 3)) b (mw_0 cy a S) rfl in_X12 (by decide) wf_X12_20 rfl dX12_packs_29 ?_
  refine z_iload_n b dX12_packs_32 rfl rfl ?_
  refine y_iald (q0 := 3) (j := 2) (v := (ar S 2 2)) b (mw_3 cy a S) (by decide) rfl dX12_packs_33 ?_
  refine z_eqi h_a_2_2 ?_
  refine z_i2l (v := 3) b dX12_packs_34 (by decide) ?_
  refine z_lor b dX12_packs_35 rfl ?_
  refine z_lstore_n (lv' := [(1, .long (((((((((((((((98304 ||| ((ar S 2 1) : Int32).toInt64) <<< ((1 : Int32).toInt64 &&& 63)) ||| 0) <<< ((3 : Int32).toInt64 &&& 63)) ||| 0) <<< ((1 : Int32).toInt64 &&& 63)) ||| 0) <<< ((3 : Int32).toInt64 &&& 63)) ||| 0) <<< ((1 : Int32).toInt64 &&& 63)) ||| 0) <<< ((4 : Int32).toInt64 &&& 63)) ||| 0) <<< ((2 : Int32).toInt64 &&& 63)) ||| 3)), (3, .int 2), (4, .int 2), (0, .ref (a 0))]) b dX12_packs_36 rfl (by decide) rfl ?_
  refine z_lload_n b dX12_packs_37 rfl rfl ?_
  exact k

set_option maxHeartbeats 4000000 in
set_option maxRecDepth 100000 in
theorem c_X12_packs_5 {l : Launch} {D : va_G} {cy : Nat → ClassId} {T0 tB tE : Nat} {a : Nat → Nat} (S : GS)  (h_i_0 : fi S 0 = 0) (h_a_0_0 : ar S 0 0 = 0) (h_a_2_0 : ar S 2 0 = 3) (h_a_3_1 : ar S 3 1 = 0) (h_a_1_1 : ar S 1 1 = 0) (h_a_4_1 : ar S 4 1 = 0) (h_a_1_2 : ar S 1 2 = 0) (h_a_4_2 : ar S 4 2 = 0) (h_a_0_1 : ar S 0 1 = 0) (h_a_3_5 : ar S 3 5 = 0) (h_a_1_5 : ar S 1 5 = 0) (h_a_4_5 : ar S 4 5 = 0) (h_a_1_3 : ar S 1 3 = 0) (h_a_4_3 : ar S 4 3 = 0) (h_a_0_2 : ar S 0 2 = 0) (h_a_2_2 : ar S 2 2 = 3) (h_a_3_6 : ar S 3 6 = 0) (h_a_1_6 : ar S 1 6 = 0) (h_a_4_6 : ar S 4 6 = 0) (h_a_1_7 : ar S 1 7 = 0) (h_a_4_7 : ar S 4 7 = 0) : Ct l D cy T0 tB tE yX12_packs cX12_packs 5 (some .long) 1 21 0 0 (mw cy a S) [.ref (a 0)] (QL D (U := GS) (fun r u => (((((((((((((((((((((((((98304 ||| ((ar S 2 1) : Int32).toInt64) <<< ((1 : Int32).toInt64 &&& 63)) ||| 0) <<< ((3 : Int32).toInt64 &&& 63)) ||| 0) <<< ((1 : Int32).toInt64 &&& 63)) ||| 0) <<< ((3 : Int32).toInt64 &&& 63)) ||| 0) <<< ((1 : Int32).toInt64 &&& 63)) ||| 0) <<< ((4 : Int32).toInt64 &&& 63)) ||| 0) <<< ((2 : Int32).toInt64 &&& 63)) ||| 3) <<< ((1 : Int32).toInt64 &&& 63)) ||| 0) <<< ((3 : Int32).toInt64 &&& 63)) ||| 0) <<< ((1 : Int32).toInt64 &&& 63)) ||| 0) <<< ((3 : Int32).toInt64 &&& 63)) ||| 0) <<< ((1 : Int32).toInt64 &&& 63)) ||| 0) = r ∧ S = u) (mw cy a)) := by
  refine Ct.ofZ RX12 "packs" [(0, .ref (a 0))] rfl rfl rfl rfl (Nat.le_of_ble_eq_true rfl) ?_
  intro p e R s m args below meth c A b
  refine ch_X12_packs_12 S  h_a_0_0 h_a_1_1 h_a_1_2 h_a_2_0 h_a_3_1 h_a_4_1 h_a_4_2 h_i_0  b ?_
  refine ch_X12_packs_13 S  h_a_0_1 h_a_0_2 h_a_1_3 h_a_1_5 h_a_2_2 h_a_3_5 h_a_4_3 h_a_4_5  b ?_
  refine z_iconst (v := 1) b dX12_packs_38 (by decide) ?_
  refine z_lshl b dX12_packs_39 rfl ?_
  refine z_aload_n b dX12_packs_40 rfl rfl ?_
  refine z_get (q0 := 0) (k9 := 3) (v := .ref (a 4)) b (mw_0 cy a S) rfl in_X12 (by decide) wf_X12_23 rfl dX12_packs_41 ?_
  refine z_iconst (v := 3) b dX12_packs_44 (by decide) ?_
  refine z_iload_n b dX12_packs_45 rfl rfl ?_
  refine z_imul (v := 6) b dX12_packs_46 (by decide) ?_
  refine z_iload_n b dX12_packs_47 rfl rfl ?_
  refine z_iconst (v := 0) b dX12_packs_48 (by decide) ?_
  refine z_calli b (z_runS (As := [.int 2, .int 0]) (st := [.int 6, .ref (a 4), .long ((((((((((((((((98304 ||| ((ar S 2 1) : Int32).toInt64) <<< ((1 : Int32).toInt64 &&& 63)) ||| 0) <<< ((3 : Int32).toInt64 &&& 63)) ||| 0) <<< ((1 : Int32).toInt64 &&& 63)) ||| 0) <<< ((3 : Int32).toInt64 &&& 63)) ||| 0) <<< ((1 : Int32).toInt64 &&& 63)) ||| 0) <<< ((4 : Int32).toInt64 &&& 63)) ||| 0) <<< ((2 : Int32).toInt64 &&& 63)) ||| 3) <<< ((1 : Int32).toInt64 &&& 63))]) b (c_X12_other_2 S ) cf_X12_other wm_X12_160 ws_X12_other dX12_packs_49 rfl (Nat.le_of_ble_eq_true rfl) ⟨by decide, by decide, by decide, by decide⟩) (fun r562 u563 h561 => ?_)
  obtain ⟨rfl, rfl⟩ := h561
  refine z_iadd (v := 6) b dX12_packs_52 (by decide) ?_
  refine y_zald (q0 := 4) (j := 6) (v := (ar S 3 6)) b (mw_4 cy a S) (by decide) rfl dX12_packs_53 ?_
  refine z_eqi h_a_3_6 ?_
  refine z_if_eq_t (tgt := 61) b dX12_packs_54 (by decide) (by decide) ?_
  refine z_lconst (v := 0) b dX12_packs_61 (by decide) ?_
  refine z_lor b dX12_packs_62 rfl ?_
  refine z_lstore_n (lv' := [(1, .long (((((((((((((((((98304 ||| ((ar S 2 1) : Int32).toInt64) <<< ((1 : Int32).toInt64 &&& 63)) ||| 0) <<< ((3 : Int32).toInt64 &&& 63)) ||| 0) <<< ((1 : Int32).toInt64 &&& 63)) ||| 0) <<< ((3 : Int32).toInt64 &&& 63)) ||| 0) <<< ((1 : Int32).toInt64 &&& 63)) ||| 0) <<< ((4 : Int32).toInt64 &&& 63)) ||| 0) <<< ((2 : Int32).toInt64 &&& 63)) ||| 3) <<< ((1 : Int32).toInt64 &&& 63)) ||| 0)), (3, .int 2), (4, .int 2), (0, .ref (a 0))]) b dX12_packs_63 rfl (by decide) rfl ?_
  refine z_iconst (v := 0) b dX12_packs_64 (by decide) ?_
  refine z_istore (lv' := [(4, .int 0), (1, .long (((((((((((((((((98304 ||| ((ar S 2 1) : Int32).toInt64) <<< ((1 : Int32).toInt64 &&& 63)) ||| 0) <<< ((3 : Int32).toInt64 &&& 63)) ||| 0) <<< ((1 : Int32).toInt64 &&& 63)) ||| 0) <<< ((3 : Int32).toInt64 &&& 63)) ||| 0) <<< ((1 : Int32).toInt64 &&& 63)) ||| 0) <<< ((4 : Int32).toInt64 &&& 63)) ||| 0) <<< ((2 : Int32).toInt64 &&& 63)) ||| 3) <<< ((1 : Int32).toInt64 &&& 63)) ||| 0)), (3, .int 2), (0, .ref (a 0))]) b dX12_packs_65 (by decide) rfl ?_
  refine z_iload b dX12_packs_67 rfl ?_
  refine z_iconst (v := 2) b dX12_packs_69 (by decide) ?_
  refine z_icmp_ge_f (tgt := 128) b dX12_packs_70 (by decide) (by decide) ?_
  refine z_lload_n b dX12_packs_73 rfl rfl ?_
  refine z_iconst (v := 3) b dX12_packs_74 (by decide) ?_
  refine z_lshl b dX12_packs_75 rfl ?_
  refine z_aload_n b dX12_packs_76 rfl rfl ?_
  refine z_get (q0 := 0) (k9 := 1) (v := .ref (a 2)) b (mw_0 cy a S) rfl in_X12 (by decide) wf_X12_17 rfl dX12_packs_77 ?_
  refine z_iconst (v := 3) b dX12_packs_80 (by decide) ?_
  refine z_iload_n b dX12_packs_81 rfl rfl ?_
  refine z_imul (v := 6) b dX12_packs_82 (by decide) ?_
  refine z_iload_n b dX12_packs_83 rfl rfl ?_
  refine z_iload b dX12_packs_84 rfl ?_
  refine z_calli b (z_runS (As := [.int 2, .int 0]) (st := [.int 6, .ref (a 2), .long ((((((((((((((((((98304 ||| ((ar S 2 1) : Int32).toInt64) <<< ((1 : Int32).toInt64 &&& 63)) ||| 0) <<< ((3 : Int32).toInt64 &&& 63)) ||| 0) <<< ((1 : Int32).toInt64 &&& 63)) ||| 0) <<< ((3 : Int32).toInt64 &&& 63)) ||| 0) <<< ((1 : Int32).toInt64 &&& 63)) ||| 0) <<< ((4 : Int32).toInt64 &&& 63)) ||| 0) <<< ((2 : Int32).toInt64 &&& 63)) ||| 3) <<< ((1 : Int32).toInt64 &&& 63)) ||| 0) <<< ((3 : Int32).toInt64 &&& 63))]) b (c_X12_other_2 S ) cf_X12_other wm_X12_160 ws_X12_other dX12_packs_86 rfl (Nat.le_of_ble_eq_true rfl) ⟨by decide, by decide, by decide, by decide⟩) (fun r565 u566 h564 => ?_)
  obtain ⟨rfl, rfl⟩ := h564
  refine z_iadd (v := 6) b dX12_packs_89 (by decide) ?_
  refine y_iald (q0 := 2) (j := 6) (v := (ar S 1 6)) b (mw_2 cy a S) (by decide) rfl dX12_packs_90 ?_
  refine z_eqi h_a_1_6 ?_
  refine z_i2l (v := 0) b dX12_packs_91 (by decide) ?_
  refine z_lor b dX12_packs_92 rfl ?_
  refine z_lstore_n (lv' := [(1, .long (((((((((((((((((((98304 ||| ((ar S 2 1) : Int32).toInt64) <<< ((1 : Int32).toInt64 &&& 63)) ||| 0) <<< ((3 : Int32).toInt64 &&& 63)) ||| 0) <<< ((1 : Int32).toInt64 &&& 63)) ||| 0) <<< ((3 : Int32).toInt64 &&& 63)) ||| 0) <<< ((1 : Int32).toInt64 &&& 63)) ||| 0) <<< ((4 : Int32).toInt64 &&& 63)) ||| 0) <<< ((2 : Int32).toInt64 &&& 63)) ||| 3) <<< ((1 : Int32).toInt64 &&& 63)) ||| 0) <<< ((3 : Int32).toInt64 &&& 63)) ||| 0)), (4, .int 0), (3, .int 2), (0, .ref (a 0))]) b dX12_packs_93 rfl (by decide) rfl ?_
  refine z_lload_n b dX12_packs_94 rfl rfl ?_
  refine z_iconst (v := 1) b dX12_packs_95 (by decide) ?_
  refine z_lshl b dX12_packs_96 rfl ?_
  refine z_aload_n b dX12_packs_97 rfl rfl ?_
  refine z_get (q0 := 0) (k9 := 4) (v := .ref (a 5)) b (mw_0 cy a S) rfl in_X12 (by decide) wf_X12_27 rfl dX12_packs_98 ?_
  refine z_iconst (v := 3) b dX12_packs_101 (by decide) ?_
  refine z_iload_n b dX12_packs_102 rfl rfl ?_
  refine z_imul (v := 6) b dX12_packs_103 (by decide) ?_
  refine z_iload_n b dX12_packs_104 rfl rfl ?_
  refine z_iload b dX12_packs_105 rfl ?_
  refine z_calli b (z_runS (As := [.int 2, .int 0]) (st := [.int 6, .ref (a 5), .long ((((((((((((((((((((98304 ||| ((ar S 2 1) : Int32).toInt64) <<< ((1 : Int32).toInt64 &&& 63)) ||| 0) <<< ((3 : Int32).toInt64 &&& 63)) ||| 0) <<< ((1 : Int32).toInt64 &&& 63)) ||| 0) <<< ((3 : Int32).toInt64 &&& 63)) ||| 0) <<< ((1 : Int32).toInt64 &&& 63)) ||| 0) <<< ((4 : Int32).toInt64 &&& 63)) ||| 0) <<< ((2 : Int32).toInt64 &&& 63)) ||| 3) <<< ((1 : Int32).toInt64 &&& 63)) ||| 0) <<< ((3 : Int32).toInt64 &&& 63)) ||| 0) <<< ((1 : Int32).toInt64 &&& 63))]) b (c_X12_other_2 S ) cf_X12_other wm_X12_160 ws_X12_other dX12_packs_107 rfl (Nat.le_of_ble_eq_true rfl) ⟨by decide, by decide, by decide, by decide⟩) (fun r568 u569 h567 => ?_)
  obtain ⟨rfl, rfl⟩ := h567
  refine z_iadd (v := 6) b dX12_packs_110 (by decide) ?_
  refine y_zald (q0 := 5) (j := 6) (v := (ar S 4 6)) b (mw_5 cy a S) (by decide) rfl dX12_packs_111 ?_
  refine z_eqi h_a_4_6 ?_
  refine z_if_eq_t (tgt := 119) b dX12_packs_112 (by decide) (by decide) ?_
  refine z_lconst (v := 0) b dX12_packs_119 (by decide) ?_
  refine z_lor b dX12_packs_120 rfl ?_
  refine z_lstore_n (lv' := [(1, .long (((((((((((((((((((((98304 ||| ((ar S 2 1) : Int32).toInt64) <<< ((1 : Int32).toInt64 &&& 63)) ||| 0) <<< ((3 : Int32).toInt64 &&& 63)) ||| 0) <<< ((1 : Int32).toInt64 &&& 63)) ||| 0) <<< ((3 : Int32).toInt64 &&& 63)) ||| 0) <<< ((1 : Int32).toInt64 &&& 63)) ||| 0) <<< ((4 : Int32).toInt64 &&& 63)) ||| 0) <<< ((2 : Int32).toInt64 &&& 63)) ||| 3) <<< ((1 : Int32).toInt64 &&& 63)) ||| 0) <<< ((3 : Int32).toInt64 &&& 63)) ||| 0) <<< ((1 : Int32).toInt64 &&& 63)) ||| 0)), (4, .int 0), (3, .int 2), (0, .ref (a 0))]) b dX12_packs_121 rfl (by decide) rfl ?_
  refine z_iinc (k9 := 1) (v := 1) (lv' := [(4, .int 1), (1, .long (((((((((((((((((((((98304 ||| ((ar S 2 1) : Int32).toInt64) <<< ((1 : Int32).toInt64 &&& 63)) ||| 0) <<< ((3 : Int32).toInt64 &&& 63)) ||| 0) <<< ((1 : Int32).toInt64 &&& 63)) ||| 0) <<< ((3 : Int32).toInt64 &&& 63)) ||| 0) <<< ((1 : Int32).toInt64 &&& 63)) ||| 0) <<< ((4 : Int32).toInt64 &&& 63)) ||| 0) <<< ((2 : Int32).toInt64 &&& 63)) ||| 3) <<< ((1 : Int32).toInt64 &&& 63)) ||| 0) <<< ((3 : Int32).toInt64 &&& 63)) ||| 0) <<< ((1 : Int32).toInt64 &&& 63)) ||| 0)), (3, .int 2), (0, .ref (a 0))]) b dX12_packs_122 rfl (by decide) (by decide) rfl ?_
  refine z_goto (tgt := 67) b dX12_packs_125 (by decide) ?_
  refine z_iload b dX12_packs_67 rfl ?_
  refine z_iconst (v := 2) b dX12_packs_69 (by decide) ?_
  refine z_icmp_ge_f (tgt := 128) b dX12_packs_70 (by decide) (by decide) ?_
  refine z_lload_n b dX12_packs_73 rfl rfl ?_
  refine z_iconst (v := 3) b dX12_packs_74 (by decide) ?_
  refine z_lshl b dX12_packs_75 rfl ?_
  refine z_aload_n b dX12_packs_76 rfl rfl ?_
  refine z_get (q0 := 0) (k9 := 1) (v := .ref (a 2)) b (mw_0 cy a S) rfl in_X12 (by decide) wf_X12_17 rfl dX12_packs_77 ?_
  refine z_iconst (v := 3) b dX12_packs_80 (by decide) ?_
  refine z_iload_n b dX12_packs_81 rfl rfl ?_
  refine z_imul (v := 6) b dX12_packs_82 (by decide) ?_
  refine z_iload_n b dX12_packs_83 rfl rfl ?_
  refine z_iload b dX12_packs_84 rfl ?_
  refine z_calli b (z_runS (As := [.int 2, .int 1]) (st := [.int 6, .ref (a 2), .long ((((((((((((((((((((((98304 ||| ((ar S 2 1) : Int32).toInt64) <<< ((1 : Int32).toInt64 &&& 63)) ||| 0) <<< ((3 : Int32).toInt64 &&& 63)) ||| 0) <<< ((1 : Int32).toInt64 &&& 63)) ||| 0) <<< ((3 : Int32).toInt64 &&& 63)) ||| 0) <<< ((1 : Int32).toInt64 &&& 63)) ||| 0) <<< ((4 : Int32).toInt64 &&& 63)) ||| 0) <<< ((2 : Int32).toInt64 &&& 63)) ||| 3) <<< ((1 : Int32).toInt64 &&& 63)) ||| 0) <<< ((3 : Int32).toInt64 &&& 63)) ||| 0) <<< ((1 : Int32).toInt64 &&& 63)) ||| 0) <<< ((3 : Int32).toInt64 &&& 63))]) b (c_X12_other S ) cf_X12_other wm_X12_160 ws_X12_other dX12_packs_86 rfl (Nat.le_of_ble_eq_true rfl) ⟨by decide, by decide, by decide, by decide⟩) (fun r571 u572 h570 => ?_)
  obtain ⟨rfl, rfl⟩ := h570
  refine z_iadd (v := 7) b dX12_packs_89 (by decide) ?_
  refine y_iald (q0 := 2) (j := 7) (v := (ar S 1 7)) b (mw_2 cy a S) (by decide) rfl dX12_packs_90 ?_
  refine z_eqi h_a_1_7 ?_
  refine z_i2l (v := 0) b dX12_packs_91 (by decide) ?_
  refine z_lor b dX12_packs_92 rfl ?_
  refine z_lstore_n (lv' := [(1, .long (((((((((((((((((((((((98304 ||| ((ar S 2 1) : Int32).toInt64) <<< ((1 : Int32).toInt64 &&& 63)) ||| 0) <<< ((3 : Int32).toInt64 &&& 63)) ||| 0) <<< ((1 : Int32).toInt64 &&& 63)) ||| 0) <<< ((3 : Int32).toInt64 &&& 63)) ||| 0) <<< ((1 : Int32).toInt64 &&& 63)) ||| 0) <<< ((4 : Int32).toInt64 &&& 63)) ||| 0) <<< ((2 : Int32).toInt64 &&& 63)) ||| 3) <<< ((1 : Int32).toInt64 &&& 63)) ||| 0) <<< ((3 : Int32).toInt64 &&& 63)) ||| 0) <<< ((1 : Int32).toInt64 &&& 63)) ||| 0) <<< ((3 : Int32).toInt64 &&& 63)) ||| 0)), (4, .int 1), (3, .int 2), (0, .ref (a 0))]) b dX12_packs_93 rfl (by decide) rfl ?_
  refine z_lload_n b dX12_packs_94 rfl rfl ?_
  refine z_iconst (v := 1) b dX12_packs_95 (by decide) ?_
  refine z_lshl b dX12_packs_96 rfl ?_
  refine z_aload_n b dX12_packs_97 rfl rfl ?_
  refine z_get (q0 := 0) (k9 := 4) (v := .ref (a 5)) b (mw_0 cy a S) rfl in_X12 (by decide) wf_X12_27 rfl dX12_packs_98 ?_
  refine z_iconst (v := 3) b dX12_packs_101 (by decide) ?_
  refine z_iload_n b dX12_packs_102 rfl rfl ?_
  refine z_imul (v := 6) b dX12_packs_103 (by decide) ?_
  refine z_iload_n b dX12_packs_104 rfl rfl ?_
  refine z_iload b dX12_packs_105 rfl ?_
  refine z_calli b (z_runS (As := [.int 2, .int 1]) (st := [.int 6, .ref (a 5), .long ((((((((((((((((((((((((98304 ||| ((ar S 2 1) : Int32).toInt64) <<< ((1 : Int32).toInt64 &&& 63)) ||| 0) <<< ((3 : Int32).toInt64 &&& 63)) ||| 0) <<< ((1 : Int32).toInt64 &&& 63)) ||| 0) <<< ((3 : Int32).toInt64 &&& 63)) ||| 0) <<< ((1 : Int32).toInt64 &&& 63)) ||| 0) <<< ((4 : Int32).toInt64 &&& 63)) ||| 0) <<< ((2 : Int32).toInt64 &&& 63)) ||| 3) <<< ((1 : Int32).toInt64 &&& 63)) ||| 0) <<< ((3 : Int32).toInt64 &&& 63)) ||| 0) <<< ((1 : Int32).toInt64 &&& 63)) ||| 0) <<< ((3 : Int32).toInt64 &&& 63)) ||| 0) <<< ((1 : Int32).toInt64 &&& 63))]) b (c_X12_other S ) cf_X12_other wm_X12_160 ws_X12_other dX12_packs_107 rfl (Nat.le_of_ble_eq_true rfl) ⟨by decide, by decide, by decide, by decide⟩) (fun r574 u575 h573 => ?_)
  obtain ⟨rfl, rfl⟩ := h573
  refine z_iadd (v := 7) b dX12_packs_110 (by decide) ?_
  refine y_zald (q0 := 5) (j := 7) (v := (ar S 4 7)) b (mw_5 cy a S) (by decide) rfl dX12_packs_111 ?_
  refine z_eqi h_a_4_7 ?_
  refine z_if_eq_t (tgt := 119) b dX12_packs_112 (by decide) (by decide) ?_
  refine z_lconst (v := 0) b dX12_packs_119 (by decide) ?_
  refine z_lor b dX12_packs_120 rfl ?_
  refine z_lstore_n (lv' := [(1, .long (((((((((((((((((((((((((98304 ||| ((ar S 2 1) : Int32).toInt64) <<< ((1 : Int32).toInt64 &&& 63)) ||| 0) <<< ((3 : Int32).toInt64 &&& 63)) ||| 0) <<< ((1 : Int32).toInt64 &&& 63)) ||| 0) <<< ((3 : Int32).toInt64 &&& 63)) ||| 0) <<< ((1 : Int32).toInt64 &&& 63)) ||| 0) <<< ((4 : Int32).toInt64 &&& 63)) ||| 0) <<< ((2 : Int32).toInt64 &&& 63)) ||| 3) <<< ((1 : Int32).toInt64 &&& 63)) ||| 0) <<< ((3 : Int32).toInt64 &&& 63)) ||| 0) <<< ((1 : Int32).toInt64 &&& 63)) ||| 0) <<< ((3 : Int32).toInt64 &&& 63)) ||| 0) <<< ((1 : Int32).toInt64 &&& 63)) ||| 0)), (4, .int 1), (3, .int 2), (0, .ref (a 0))]) b dX12_packs_121 rfl (by decide) rfl ?_
  refine z_iinc (k9 := 1) (v := 2) (lv' := [(4, .int 2), (1, .long (((((((((((((((((((((((((98304 ||| ((ar S 2 1) : Int32).toInt64) <<< ((1 : Int32).toInt64 &&& 63)) ||| 0) <<< ((3 : Int32).toInt64 &&& 63)) ||| 0) <<< ((1 : Int32).toInt64 &&& 63)) ||| 0) <<< ((3 : Int32).toInt64 &&& 63)) ||| 0) <<< ((1 : Int32).toInt64 &&& 63)) ||| 0) <<< ((4 : Int32).toInt64 &&& 63)) ||| 0) <<< ((2 : Int32).toInt64 &&& 63)) ||| 3) <<< ((1 : Int32).toInt64 &&& 63)) ||| 0) <<< ((3 : Int32).toInt64 &&& 63)) ||| 0) <<< ((1 : Int32).toInt64 &&& 63)) ||| 0) <<< ((3 : Int32).toInt64 &&& 63)) ||| 0) <<< ((1 : Int32).toInt64 &&& 63)) ||| 0)), (3, .int 2), (0, .ref (a 0))]) b dX12_packs_122 rfl (by decide) (by decide) rfl ?_
  refine z_goto (tgt := 67) b dX12_packs_125 (by decide) ?_
  refine z_iload b dX12_packs_67 rfl ?_
  refine z_iconst (v := 2) b dX12_packs_69 (by decide) ?_
  refine z_icmp_ge_t (tgt := 128) b dX12_packs_70 (by decide) (by decide) ?_
  refine z_iinc (k9 := 2) (v := 3) (lv' := [(3, .int 3), (4, .int 2), (1, .long (((((((((((((((((((((((((98304 ||| ((ar S 2 1) : Int32).toInt64) <<< ((1 : Int32).toInt64 &&& 63)) ||| 0) <<< ((3 : Int32).toInt64 &&& 63)) ||| 0) <<< ((1 : Int32).toInt64 &&& 63)) ||| 0) <<< ((3 : Int32).toInt64 &&& 63)) ||| 0) <<< ((1 : Int32).toInt64 &&& 63)) ||| 0) <<< ((4 : Int32).toInt64 &&& 63)) ||| 0) <<< ((2 : Int32).toInt64 &&& 63)) ||| 3) <<< ((1 : Int32).toInt64 &&& 63)) ||| 0) <<< ((3 : Int32).toInt64 &&& 63)) ||| 0) <<< ((1 : Int32).toInt64 &&& 63)) ||| 0) <<< ((3 : Int32).toInt64 &&& 63)) ||| 0) <<< ((1 : Int32).toInt64 &&& 63)) ||| 0)), (0, .ref (a 0))]) b dX12_packs_128 rfl (by decide) (by decide) rfl ?_
  refine z_goto (tgt := 8) b dX12_packs_131 (by decide) ?_
  refine z_iload_n b dX12_packs_8 rfl rfl ?_
  refine z_iconst (v := 3) b dX12_packs_9 (by decide) ?_
  refine z_icmp_ge_t (tgt := 134) b dX12_packs_10 (by decide) (by decide) ?_
  refine z_lload_n b dX12_packs_134 rfl rfl ?_
  exact z_lret (u := S) b rfl dX12_packs_135 ⟨rfl, rfl⟩ rfl (by decide) (by decide)

set_option maxHeartbeats 4000000 in
set_option maxRecDepth 100000 in
theorem c_X12_told_5 {l : Launch} {D : va_G} {cy : Nat → ClassId} {T0 tB tE : Nat} {a : Nat → Nat} (S : GS)  (h_i_0 : fi S 0 = 0) (h_a_0_0 : ar S 0 0 = 0) (h_a_2_0 : ar S 2 0 = 3) (h_a_3_1 : ar S 3 1 = 0) (h_a_1_1 : ar S 1 1 = 0) (h_a_4_1 : ar S 4 1 = 0) (h_a_1_2 : ar S 1 2 = 0) (h_a_4_2 : ar S 4 2 = 0) (h_a_0_1 : ar S 0 1 = 0) (h_a_3_5 : ar S 3 5 = 0) (h_a_1_5 : ar S 1 5 = 0) (h_a_4_5 : ar S 4 5 = 0) (h_a_1_3 : ar S 1 3 = 0) (h_a_4_3 : ar S 4 3 = 0) (h_a_0_2 : ar S 0 2 = 0) (h_a_2_2 : ar S 2 2 = 3) (h_a_3_6 : ar S 3 6 = 0) (h_a_1_6 : ar S 1 6 = 0) (h_a_4_6 : ar S 4 6 = 0) (h_a_1_7 : ar S 1 7 = 0) (h_a_4_7 : ar S 4 7 = 0) : Ct l D cy T0 tB tE yX12_told cX12_told 1 (some .boolean) 2 45 0 0 (mw cy a S) [.ref (a 0)] (QI D (U := GS) (fun r u => 1 = r ∧ sl S 0 (((((((((((((((((((((((((98304 ||| ((ar S 2 1) : Int32).toInt64) <<< ((1 : Int32).toInt64 &&& 63)) ||| 0) <<< ((3 : Int32).toInt64 &&& 63)) ||| 0) <<< ((1 : Int32).toInt64 &&& 63)) ||| 0) <<< ((3 : Int32).toInt64 &&& 63)) ||| 0) <<< ((1 : Int32).toInt64 &&& 63)) ||| 0) <<< ((4 : Int32).toInt64 &&& 63)) ||| 0) <<< ((2 : Int32).toInt64 &&& 63)) ||| 3) <<< ((1 : Int32).toInt64 &&& 63)) ||| 0) <<< ((3 : Int32).toInt64 &&& 63)) ||| 0) <<< ((1 : Int32).toInt64 &&& 63)) ||| 0) <<< ((3 : Int32).toInt64 &&& 63)) ||| 0) <<< ((1 : Int32).toInt64 &&& 63)) ||| 0) = u) (mw cy a)) := by
  refine Ct.ofZ RX12 "told" [(0, .ref (a 0))] rfl rfl rfl rfl (Nat.le_of_ble_eq_true rfl) ?_
  intro p e R s m args below meth c A b
  refine z_aload_n b dX12_told_0 rfl rfl ?_
  refine z_aload_n b dX12_told_1 rfl rfl ?_
  refine z_calll b (z_runV (q0 := 0) (As := []) (st := [.ref (a 0)]) b (c_X12_packs_5 S h_i_0 h_a_0_0 h_a_2_0 h_a_3_1 h_a_1_1 h_a_4_1 h_a_1_2 h_a_4_2 h_a_0_1 h_a_3_5 h_a_1_5 h_a_4_5 h_a_1_3 h_a_4_3 h_a_0_2 h_a_2_2 h_a_3_6 h_a_1_6 h_a_4_6 h_a_1_7 h_a_4_7) cf_X12_packs (mw_0 cy a S) rfl wm_X12_149 wi_X12_packs ws_X12_packs dX12_told_2 rfl (Nat.le_of_ble_eq_true rfl) ⟨by decide, by decide, by decide, by decide⟩) (fun r577 u578 h576 => ?_)
  obtain ⟨rfl, rfl⟩ := h576
  refine z_put (q0 := 0) (k9 := 6) tyX12 b (mw_0 cy a S) rfl in_X12 tyX12_ok nmX12 (by decide) wf_X12_153 rfl rfl rfl rfl (Nat.le_of_ble_eq_true rfl) dX12_told_5 (mwp_0_6 cy a S (((((((((((((((((((((((((98304 ||| ((ar S 2 1) : Int32).toInt64) <<< ((1 : Int32).toInt64 &&& 63)) ||| 0) <<< ((3 : Int32).toInt64 &&& 63)) ||| 0) <<< ((1 : Int32).toInt64 &&& 63)) ||| 0) <<< ((3 : Int32).toInt64 &&& 63)) ||| 0) <<< ((1 : Int32).toInt64 &&& 63)) ||| 0) <<< ((4 : Int32).toInt64 &&& 63)) ||| 0) <<< ((2 : Int32).toInt64 &&& 63)) ||| 3) <<< ((1 : Int32).toInt64 &&& 63)) ||| 0) <<< ((3 : Int32).toInt64 &&& 63)) ||| 0) <<< ((1 : Int32).toInt64 &&& 63)) ||| 0) <<< ((3 : Int32).toInt64 &&& 63)) ||| 0) <<< ((1 : Int32).toInt64 &&& 63)) ||| 0)) ?_
  refine z_iconst (v := 1) b dX12_told_8 (by decide) ?_
  exact z_zret (u := (sl S 0 (((((((((((((((((((((((((98304 ||| ((ar S 2 1) : Int32).toInt64) <<< ((1 : Int32).toInt64 &&& 63)) ||| 0) <<< ((3 : Int32).toInt64 &&& 63)) ||| 0) <<< ((1 : Int32).toInt64 &&& 63)) ||| 0) <<< ((3 : Int32).toInt64 &&& 63)) ||| 0) <<< ((1 : Int32).toInt64 &&& 63)) ||| 0) <<< ((4 : Int32).toInt64 &&& 63)) ||| 0) <<< ((2 : Int32).toInt64 &&& 63)) ||| 3) <<< ((1 : Int32).toInt64 &&& 63)) ||| 0) <<< ((3 : Int32).toInt64 &&& 63)) ||| 0) <<< ((1 : Int32).toInt64 &&& 63)) ||| 0) <<< ((3 : Int32).toInt64 &&& 63)) ||| 0) <<< ((1 : Int32).toInt64 &&& 63)) ||| 0))) b rfl (by decide) dX12_told_9 ⟨rfl, rfl⟩ rfl (by decide) (by decide)

set_option maxHeartbeats 4000000 in
set_option maxRecDepth 100000 in
theorem c_X12_owner_7 {l : Launch} {D : va_G} {cy : Nat → ClassId} {T0 tB tE : Nat} {a : Nat → Nat} (S : GS) (p0 : Int32) (h_l_0 : fl S 0 = 1649317774848) (h_a_4_7 : ar S 4 7 = 0) (h_a_1_7 : ar S 1 7 = 0) (h_a_4_6 : ar S 4 6 = 0) (h_a_1_6 : ar S 1 6 = 0) (h_a_3_6 : ar S 3 6 = 0) (h_a_3_2 : ar S 3 2 = 0) (h_a_2_2 : ar S 2 2 = 3) (h_a_0_2 : ar S 0 2 = 0) (h_a_4_3 : ar S 4 3 = 0) (h_a_1_3 : ar S 1 3 = 0) (h_a_4_5 : ar S 4 5 = 0) (h_a_1_5 : ar S 1 5 = 0) (h_a_3_5 : ar S 3 5 = 0) (h_a_3_7 : ar S 3 7 = 0) (h_a_2_1 : ar S 2 1 = 3) (h_a_0_1 : ar S 0 1 = 0) (h_a_4_2 : ar S 4 2 = 0) (h_a_1_2 : ar S 1 2 = 0) (h_a_4_1 : ar S 4 1 = 0) (h_a_1_1 : ar S 1 1 = 0) (h_a_3_1 : ar S 3 1 = 0) (h_a_3_3 : ar S 3 3 = 0) (h_a_2_0 : ar S 2 0 = 3) (h_a_0_0 : ar S 0 0 = 0) (h_i_0 : fi S 0 = 0) (hr_p0 : 0 ≤ p0.toInt ∧ p0.toInt ≤ 3) : Ct l D cy T0 tB tE yX12_owner cX12_owner 3 (some .boolean) 3 65 0 0 (mw cy a S) [.ref (a 0), .int 1, .int p0] (QI D (U := GS) (fun r u => 1 = r ∧ sl (su S 2 1 p0) 0 (((((((((((((((((((((((((98304 ||| ((ar (su S 2 1 p0) 2 1) : Int32).toInt64) <<< ((1 : Int32).toInt64 &&& 63)) ||| 0) <<< ((3 : Int32).toInt64 &&& 63)) ||| 0) <<< ((1 : Int32).toInt64 &&& 63)) ||| 0) <<< ((3 : Int32).toInt64 &&& 63)) ||| 0) <<< ((1 : Int32).toInt64 &&& 63)) ||| 0) <<< ((4 : Int32).toInt64 &&& 63)) ||| 0) <<< ((2 : Int32).toInt64 &&& 63)) ||| 3) <<< ((1 : Int32).toInt64 &&& 63)) ||| 0) <<< ((3 : Int32).toInt64 &&& 63)) ||| 0) <<< ((1 : Int32).toInt64 &&& 63)) ||| 0) <<< ((3 : Int32).toInt64 &&& 63)) ||| 0) <<< ((1 : Int32).toInt64 &&& 63)) ||| 0) = u) (mw cy a)) := by
  refine Ct.ofZ RX12 "owner" [(0, .ref (a 0)), (1, .int 1), (2, .int p0)] rfl rfl rfl rfl (Nat.le_of_ble_eq_true rfl) ?_
  intro p e R s m args below meth c A b
  refine z_iload_n b dX12_owner_0 rfl rfl ?_
  refine z_calli b (z_runS (As := [.int 1]) (st := []) b (c_X12_isOne_4 S ) cf_X12_isOne wm_X12_170 ws_X12_isOne dX12_owner_1 rfl (Nat.le_of_ble_eq_true rfl) ⟨by decide, by decide, by decide, by decide⟩) (fun r523 u524 h522 => ?_)
  obtain ⟨rfl, rfl⟩ := h522
  refine z_if_eq_f (tgt := 16) b dX12_owner_4 (by decide) (by decide) ?_
  refine z_iload_n b dX12_owner_7 rfl rfl ?_
  refine z_iconst (v := 0) b dX12_owner_8 (by decide) ?_
  refine z_iconst (v := 3) b dX12_owner_9 (by decide) ?_
  refine z_calli b (z_runS (As := [.int p0, .int 0, .int 3]) (st := []) b (c_X12_isIn_10 S p0 ⟨by omega, by omega⟩) cf_X12_isIn wm_X12_1 ws_X12_isIn dX12_owner_10 rfl (Nat.le_of_ble_eq_true rfl) ⟨by decide, by decide, by decide, by decide⟩) (fun r526 u527 h525 => ?_)
  obtain ⟨rfl, rfl⟩ := h525
  refine z_if_ne_t (tgt := 18) b dX12_owner_13 (by decide) (by decide) ?_
  refine z_aload_n b dX12_owner_18 rfl rfl ?_
  refine z_aload_n b dX12_owner_19 rfl rfl ?_
  refine z_get (q0 := 0) (k9 := 6) (v := .long (fl S 0)) b (mw_0 cy a S) rfl in_X12 (by decide) wf_X12_153 rfl dX12_owner_20 ?_
  refine z_eql h_l_0 ?_
  refine z_callv b (z_runV (q0 := 0) (As := [.long 1649317774848]) (st := []) b (c_X12_takes S h_a_4_7 h_a_1_7 h_a_4_6 h_a_1_6 h_a_3_6 h_a_3_2 h_a_2_2 h_a_0_2 h_a_4_3 h_a_1_3 h_a_4_5 h_a_1_5 h_a_3_5 h_a_3_7 h_a_2_1 h_a_0_1 h_a_4_2 h_a_1_2 h_a_4_1 h_a_1_1 h_a_3_1 h_a_3_3 h_a_2_0 h_a_0_0 h_i_0) cf_X12_takes (mw_0 cy a S) rfl wm_X12_174 wi_X12_takes ws_X12_takes dX12_owner_23 rfl (Nat.le_of_ble_eq_true rfl) ⟨by decide, by decide, by decide, by decide⟩) (fun u530 h528 => ?_)
  obtain rfl := h528
  refine z_aload_n b dX12_owner_26 rfl rfl ?_
  refine z_get (q0 := 0) (k9 := 2) (v := .ref (a 3)) b (mw_0 cy a S) rfl in_X12 (by decide) wf_X12_20 rfl dX12_owner_27 ?_
  refine z_iload_n b dX12_owner_30 rfl rfl ?_
  refine z_iload_n b dX12_owner_31 rfl rfl ?_
  refine y_iast (q0 := 3) (j := 1) b (mw_3 cy a S) (by decide) dX12_owner_32 (mwa_3 cy a S 1 p0) ?_
  refine z_aload_n b dX12_owner_33 rfl rfl ?_
  refine z_calli b (z_runV (q0 := 0) (As := []) (st := []) b (c_X12_told_5 (su S 2 1 p0) h_i_0 h_a_0_0 h_a_2_0 h_a_3_1 h_a_1_1 h_a_4_1 h_a_1_2 h_a_4_2 h_a_0_1 h_a_3_5 h_a_1_5 h_a_4_5 h_a_1_3 h_a_4_3 h_a_0_2 h_a_2_2 h_a_3_6 h_a_1_6 h_a_4_6 h_a_1_7 h_a_4_7) cf_X12_told (mw_0 cy a (su S 2 1 p0)) rfl wm_X12_178 wi_X12_told ws_X12_told dX12_owner_34 rfl (Nat.le_of_ble_eq_true rfl) ⟨by decide, by decide, by decide, by decide⟩) (fun r580 u581 h579 => ?_)
  obtain ⟨rfl, rfl⟩ := h579
  exact z_zret (u := (sl (su S 2 1 p0) 0 (((((((((((((((((((((((((98304 ||| ((ar (su S 2 1 p0) 2 1) : Int32).toInt64) <<< ((1 : Int32).toInt64 &&& 63)) ||| 0) <<< ((3 : Int32).toInt64 &&& 63)) ||| 0) <<< ((1 : Int32).toInt64 &&& 63)) ||| 0) <<< ((3 : Int32).toInt64 &&& 63)) ||| 0) <<< ((1 : Int32).toInt64 &&& 63)) ||| 0) <<< ((4 : Int32).toInt64 &&& 63)) ||| 0) <<< ((2 : Int32).toInt64 &&& 63)) ||| 3) <<< ((1 : Int32).toInt64 &&& 63)) ||| 0) <<< ((3 : Int32).toInt64 &&& 63)) ||| 0) <<< ((1 : Int32).toInt64 &&& 63)) ||| 0) <<< ((3 : Int32).toInt64 &&& 63)) ||| 0) <<< ((1 : Int32).toInt64 &&& 63)) ||| 0))) b rfl (by decide) dX12_owner_37 ⟨rfl, rfl⟩ rfl (by decide) (by decide)

set_option maxHeartbeats 4000000 in
set_option maxRecDepth 100000 in
theorem c_X11_owner_8 {l : Launch} {D : va_G} {cy : Nat → ClassId} {T0 tB tE : Nat} {a : Nat → Nat} {rw : Nat → Option Nat} (S : GS) (p0 : Int32)  (hr_p0 : 4 ≤ p0.toInt ∧ p0.toInt ≤ 2147483647) : Ct l D cy T0 tB tE yX11_owner cX11_owner 3 (some .boolean) 1 21 0 0 (cw cy tE a rw S) [.ref (a 0), .int 1, .int p0] (QI D (U := GS) (fun r u => 0 = r ∧ S = u) (cw cy tE a rw)) := by
  refine Ct.ofZ RX11 "owner" [(0, .ref (a 0)), (1, .int 1), (2, .int p0)] rfl rfl rfl rfl (Nat.le_of_ble_eq_true rfl) ?_
  intro p e R s m args below meth c A b
  refine z_iload_n b dX11_owner_0 rfl rfl ?_
  refine z_calli b (z_runS (As := [.int 1]) (st := []) b (c_X11_isThing_4 S ) cf_X11_isThing wm_X11_87 ws_X11_isThing dX11_owner_1 rfl (Nat.le_of_ble_eq_true rfl) ⟨by decide, by decide, by decide, by decide⟩) (fun r583 u584 h582 => ?_)
  obtain ⟨rfl, rfl⟩ := h582
  refine z_if_eq_f (tgt := 15) b dX11_owner_4 (by decide) (by decide) ?_
  refine z_iload_n b dX11_owner_7 rfl rfl ?_
  refine z_iconst (v := 3) b dX11_owner_8 (by decide) ?_
  refine z_calli b (z_runS (As := [.int p0, .int 3]) (st := []) b (c_X11_isWithin_6 S p0 ⟨by omega, by omega⟩) cf_X11_isWithin wm_X11_73 ws_X11_isWithin dX11_owner_9 rfl (Nat.le_of_ble_eq_true rfl) ⟨by decide, by decide, by decide, by decide⟩) (fun r586 u587 h585 => ?_)
  obtain ⟨rfl, rfl⟩ := h585
  refine z_if_ne_f (tgt := 17) b dX11_owner_12 (by decide) (by decide) ?_
  refine z_iconst (v := 0) b dX11_owner_15 (by decide) ?_
  exact z_zret (u := S) b rfl (by decide) dX11_owner_16 ⟨rfl, rfl⟩ rfl (by decide) (by decide)

set_option maxHeartbeats 4000000 in
set_option maxRecDepth 100000 in
theorem c_X12_owner_8 {l : Launch} {D : va_G} {cy : Nat → ClassId} {T0 tB tE : Nat} {a : Nat → Nat} (S : GS) (p0 : Int32)  (hr_p0 : 4 ≤ p0.toInt ∧ p0.toInt ≤ 2147483647) : Ct l D cy T0 tB tE yX12_owner cX12_owner 3 (some .boolean) 2 42 0 0 (mw cy a S) [.ref (a 0), .int 1, .int p0] (QI D (U := GS) (fun r u => 0 = r ∧ S = u) (mw cy a)) := by
  refine Ct.ofZ RX12 "owner" [(0, .ref (a 0)), (1, .int 1), (2, .int p0)] rfl rfl rfl rfl (Nat.le_of_ble_eq_true rfl) ?_
  intro p e R s m args below meth c A b
  refine z_iload_n b dX12_owner_0 rfl rfl ?_
  refine z_calli b (z_runS (As := [.int 1]) (st := []) b (c_X12_isOne_4 S ) cf_X12_isOne wm_X12_170 ws_X12_isOne dX12_owner_1 rfl (Nat.le_of_ble_eq_true rfl) ⟨by decide, by decide, by decide, by decide⟩) (fun r589 u590 h588 => ?_)
  obtain ⟨rfl, rfl⟩ := h588
  refine z_if_eq_f (tgt := 16) b dX12_owner_4 (by decide) (by decide) ?_
  refine z_iload_n b dX12_owner_7 rfl rfl ?_
  refine z_iconst (v := 0) b dX12_owner_8 (by decide) ?_
  refine z_iconst (v := 3) b dX12_owner_9 (by decide) ?_
  refine z_calli b (z_runS (As := [.int p0, .int 0, .int 3]) (st := []) b (c_X12_isIn_11 S p0 ⟨by omega, by omega⟩) cf_X12_isIn wm_X12_1 ws_X12_isIn dX12_owner_10 rfl (Nat.le_of_ble_eq_true rfl) ⟨by decide, by decide, by decide, by decide⟩) (fun r592 u593 h591 => ?_)
  obtain ⟨rfl, rfl⟩ := h591
  refine z_if_ne_f (tgt := 18) b dX12_owner_13 (by decide) (by decide) ?_
  refine z_iconst (v := 0) b dX12_owner_16 (by decide) ?_
  exact z_zret (u := S) b rfl (by decide) dX12_owner_17 ⟨rfl, rfl⟩ rfl (by decide) (by decide)

set_option maxHeartbeats 4000000 in
set_option maxRecDepth 100000 in
theorem c_X11_isThing_5 {l : Launch} {D : va_G} {cy : Nat → ClassId} {T0 tB tE : Nat} {a : Nat → Nat} {rw : Nat → Option Nat} (S : GS)   : Ct l D cy T0 tB tE yX11_isThing cX11_isThing 1 (some .boolean) 0 0 0 0 (cw cy tE a rw S) [.int 2] (QI D (U := GS) (fun r u => 1 = r ∧ S = u) (cw cy tE a rw)) := by
  refine Ct.ofZ RX11 "isThing" [(0, .int 2)] rfl rfl rfl rfl (Nat.le_of_ble_eq_true rfl) ?_
  intro p e R s m args below meth c A b
  refine z_iload_n b dX11_isThing_0 rfl rfl ?_
  refine z_if_lt_f (tgt := 13) b dX11_isThing_1 (by decide) (by decide) ?_
  refine z_iload_n b dX11_isThing_4 rfl rfl ?_
  refine z_iconst (v := 3) b dX11_isThing_5 (by decide) ?_
  refine z_icmp_ge_f (tgt := 13) b dX11_isThing_6 (by decide) (by decide) ?_
  refine z_iconst (v := 1) b dX11_isThing_9 (by decide) ?_
  refine z_goto (tgt := 14) b dX11_isThing_10 (by decide) ?_
  exact z_zret (u := S) b rfl (by decide) dX11_isThing_14 ⟨rfl, rfl⟩ rfl (by decide) (by decide)

set_option maxHeartbeats 4000000 in
set_option maxRecDepth 100000 in
theorem c_X11_owner_9 {l : Launch} {D : va_G} {cy : Nat → ClassId} {T0 tB tE : Nat} {a : Nat → Nat} {rw : Nat → Option Nat} (S : GS) (p0 : Int32)  (hr_p0 : (-2147483648) ≤ p0.toInt ∧ p0.toInt ≤ (-1)) : Ct l D cy T0 tB tE yX11_owner cX11_owner 3 (some .boolean) 1 21 0 0 (cw cy tE a rw S) [.ref (a 0), .int 2, .int p0] (QI D (U := GS) (fun r u => 0 = r ∧ S = u) (cw cy tE a rw)) := by
  refine Ct.ofZ RX11 "owner" [(0, .ref (a 0)), (1, .int 2), (2, .int p0)] rfl rfl rfl rfl (Nat.le_of_ble_eq_true rfl) ?_
  intro p e R s m args below meth c A b
  refine z_iload_n b dX11_owner_0 rfl rfl ?_
  refine z_calli b (z_runS (As := [.int 2]) (st := []) b (c_X11_isThing_5 S ) cf_X11_isThing wm_X11_87 ws_X11_isThing dX11_owner_1 rfl (Nat.le_of_ble_eq_true rfl) ⟨by decide, by decide, by decide, by decide⟩) (fun r595 u596 h594 => ?_)
  obtain ⟨rfl, rfl⟩ := h594
  refine z_if_eq_f (tgt := 15) b dX11_owner_4 (by decide) (by decide) ?_
  refine z_iload_n b dX11_owner_7 rfl rfl ?_
  refine z_iconst (v := 3) b dX11_owner_8 (by decide) ?_
  refine z_calli b (z_runS (As := [.int p0, .int 3]) (st := []) b (c_X11_isWithin_4 S p0 ⟨by omega, by omega⟩) cf_X11_isWithin wm_X11_73 ws_X11_isWithin dX11_owner_9 rfl (Nat.le_of_ble_eq_true rfl) ⟨by decide, by decide, by decide, by decide⟩) (fun r598 u599 h597 => ?_)
  obtain ⟨rfl, rfl⟩ := h597
  refine z_if_ne_f (tgt := 17) b dX11_owner_12 (by decide) (by decide) ?_
  refine z_iconst (v := 0) b dX11_owner_15 (by decide) ?_
  exact z_zret (u := S) b rfl (by decide) dX11_owner_16 ⟨rfl, rfl⟩ rfl (by decide) (by decide)

set_option maxHeartbeats 4000000 in
set_option maxRecDepth 100000 in
theorem c_X12_owner_9 {l : Launch} {D : va_G} {cy : Nat → ClassId} {T0 tB tE : Nat} {a : Nat → Nat} (S : GS) (p0 : Int32)  (hr_p0 : (-2147483648) ≤ p0.toInt ∧ p0.toInt ≤ (-1)) : Ct l D cy T0 tB tE yX12_owner cX12_owner 3 (some .boolean) 2 42 0 0 (mw cy a S) [.ref (a 0), .int 2, .int p0] (QI D (U := GS) (fun r u => 0 = r ∧ S = u) (mw cy a)) := by
  refine Ct.ofZ RX12 "owner" [(0, .ref (a 0)), (1, .int 2), (2, .int p0)] rfl rfl rfl rfl (Nat.le_of_ble_eq_true rfl) ?_
  intro p e R s m args below meth c A b
  refine z_iload_n b dX12_owner_0 rfl rfl ?_
  refine z_calli b (z_runS (As := [.int 2]) (st := []) b (c_X12_isOne_5 S ) cf_X12_isOne wm_X12_170 ws_X12_isOne dX12_owner_1 rfl (Nat.le_of_ble_eq_true rfl) ⟨by decide, by decide, by decide, by decide⟩) (fun r601 u602 h600 => ?_)
  obtain ⟨rfl, rfl⟩ := h600
  refine z_if_eq_f (tgt := 16) b dX12_owner_4 (by decide) (by decide) ?_
  refine z_iload_n b dX12_owner_7 rfl rfl ?_
  refine z_iconst (v := 0) b dX12_owner_8 (by decide) ?_
  refine z_iconst (v := 3) b dX12_owner_9 (by decide) ?_
  refine z_calli b (z_runS (As := [.int p0, .int 0, .int 3]) (st := []) b (c_X12_isIn_9 S p0 ⟨by omega, by omega⟩) cf_X12_isIn wm_X12_1 ws_X12_isIn dX12_owner_10 rfl (Nat.le_of_ble_eq_true rfl) ⟨by decide, by decide, by decide, by decide⟩) (fun r604 u605 h603 => ?_)
  obtain ⟨rfl, rfl⟩ := h603
  refine z_if_ne_f (tgt := 18) b dX12_owner_13 (by decide) (by decide) ?_
  refine z_iconst (v := 0) b dX12_owner_16 (by decide) ?_
  exact z_zret (u := S) b rfl (by decide) dX12_owner_17 ⟨rfl, rfl⟩ rfl (by decide) (by decide)

set_option maxHeartbeats 4000000 in
set_option maxRecDepth 100000 in
theorem c_X9_set_6 {l : Launch} {D : va_G} {cy : Nat → ClassId} {T0 tB tE : Nat} {a : Nat → Nat} {rw : Nat → Option Nat} (S : GS) (p0 : Int32)  (hr_p0 : 0 ≤ p0.toInt ∧ p0.toInt ≤ 3) : Ct l D cy T0 tB tE yX9_set cX9_set 3 none 0 0 0 0 (cw cy tE a rw S) [.ref (a 14), .int 42, .int p0] (QV D (U := GS) (fun u => su S 4 42 p0 = u) (cw cy tE a rw)) := by
  refine Ct.ofZ RX9 "set" [(0, .ref (a 14)), (1, .int 42), (2, .int p0)] rfl rfl rfl rfl (Nat.le_of_ble_eq_true rfl) ?_
  intro p e R s m args below meth c A b
  refine z_iload_n b dX9_set_0 rfl rfl ?_
  refine z_if_lt_f (tgt := 20) b dX9_set_1 (by decide) (by decide) ?_
  refine z_iload_n b dX9_set_4 rfl rfl ?_
  refine z_aload_n b dX9_set_5 rfl rfl ?_
  refine z_get (q0 := 14) (k9 := 0) (v := .ref (a 15)) b (cw_14 cy tE a rw S) rfl in_X9 (by decide) wf_X9_11 rfl dX9_set_6 ?_
  refine z_alen (q0 := 15) (t0 := 0) (v := 51) b (cw_15 cy tE a rw S) rfl rfl dX9_set_9 ?_
  refine z_icmp_ge_f (tgt := 20) b dX9_set_10 (by decide) (by decide) ?_
  refine z_aload_n b dX9_set_13 rfl rfl ?_
  refine z_get (q0 := 14) (k9 := 0) (v := .ref (a 15)) b (cw_14 cy tE a rw S) rfl in_X9 (by decide) wf_X9_11 rfl dX9_set_14 ?_
  refine z_iload_n b dX9_set_17 rfl rfl ?_
  refine z_iload_n b dX9_set_18 rfl rfl ?_
  refine y_iast (q0 := 15) (j := 42) b (cw_15 cy tE a rw S) (by decide) dX9_set_19 (cwa_15 cy tE a rw S 42 p0) ?_
  exact z_vret (u := (su S 4 42 p0)) b rfl dX9_set_20 rfl rfl (by decide) (by decide)

set_option maxHeartbeats 4000000 in
set_option maxRecDepth 100000 in
theorem c_X11_owner_10 {l : Launch} {D : va_G} {cy : Nat → ClassId} {T0 tB tE : Nat} {a : Nat → Nat} {rw : Nat → Option Nat} (S : GS) (p0 : Int32) (h_i_24 : fi S 24 = 0) (hr_p0 : 0 ≤ p0.toInt ∧ p0.toInt ≤ 3) : Ct l D cy T0 tB tE yX11_owner cX11_owner 3 (some .boolean) 1 22 0 0 (cw cy tE a rw S) [.ref (a 0), .int 2, .int p0] (QI D (U := GS) (fun r u => 1 = r ∧ (su S 4 42 p0) = u) (cw cy tE a rw)) := by
  refine Ct.ofZ RX11 "owner" [(0, .ref (a 0)), (1, .int 2), (2, .int p0)] rfl rfl rfl rfl (Nat.le_of_ble_eq_true rfl) ?_
  intro p e R s m args below meth c A b
  refine z_iload_n b dX11_owner_0 rfl rfl ?_
  refine z_calli b (z_runS (As := [.int 2]) (st := []) b (c_X11_isThing_5 S ) cf_X11_isThing wm_X11_87 ws_X11_isThing dX11_owner_1 rfl (Nat.le_of_ble_eq_true rfl) ⟨by decide, by decide, by decide, by decide⟩) (fun r607 u608 h606 => ?_)
  obtain ⟨rfl, rfl⟩ := h606
  refine z_if_eq_f (tgt := 15) b dX11_owner_4 (by decide) (by decide) ?_
  refine z_iload_n b dX11_owner_7 rfl rfl ?_
  refine z_iconst (v := 3) b dX11_owner_8 (by decide) ?_
  refine z_calli b (z_runS (As := [.int p0, .int 3]) (st := []) b (c_X11_isWithin_5 S p0 ⟨by omega, by omega⟩) cf_X11_isWithin wm_X11_73 ws_X11_isWithin dX11_owner_9 rfl (Nat.le_of_ble_eq_true rfl) ⟨by decide, by decide, by decide, by decide⟩) (fun r610 u611 h609 => ?_)
  obtain ⟨rfl, rfl⟩ := h609
  refine z_if_ne_t (tgt := 17) b dX11_owner_12 (by decide) (by decide) ?_
  refine z_aload_n b dX11_owner_17 rfl rfl ?_
  refine z_get (q0 := 0) (k9 := 4) (v := .ref (a 14)) b (cw_0 cy tE a rw S) rfl in_X11 (by decide) wf_X11_34 rfl dX11_owner_18 ?_
  refine z_bipush (v := 40) b dX11_owner_21 (by decide) ?_
  refine z_iload_n b dX11_owner_23 rfl rfl ?_
  refine z_iadd (v := 42) b dX11_owner_24 (by decide) ?_
  refine z_iload_n b dX11_owner_25 rfl rfl ?_
  refine z_callv b (z_runV (q0 := 14) (As := [.int 42, .int p0]) (st := []) b (c_X9_set_6 S p0 ⟨by omega, by omega⟩) cf_X9_set (cw_14 cy tE a rw S) rfl wm_X11_77 wi_X9_set ws_X9_set dX11_owner_26 rfl (Nat.le_of_ble_eq_true rfl) ⟨by decide, by decide, by decide, by decide⟩) (fun u614 h612 => ?_)
  obtain rfl := h612
  refine z_aload_n b dX11_owner_29 rfl rfl ?_
  refine z_get (q0 := 0) (k9 := 6) (v := .ref (a 25)) b (cw_0 cy tE a rw (su S 4 42 p0)) rfl in_X11 (by decide) wf_X11_52 rfl dX11_owner_30 ?_
  refine z_callv b (z_runV (q0 := 25) (As := []) (st := []) b (c_X8_forget (su S 4 42 p0) h_i_24) cf_X8_forget (cw_25 cy tE a rw (su S 4 42 p0)) rfl wm_X11_81 wi_X8_forget ws_X8_forget dX11_owner_33 rfl (Nat.le_of_ble_eq_true rfl) ⟨by decide, by decide, by decide, by decide⟩) (fun u617 h615 => ?_)
  obtain rfl := h615
  refine z_iconst (v := 1) b dX11_owner_36 (by decide) ?_
  exact z_zret (u := (su S 4 42 p0)) b rfl (by decide) dX11_owner_37 ⟨rfl, rfl⟩ rfl (by decide) (by decide)

set_option maxHeartbeats 4000000 in
set_option maxRecDepth 100000 in
theorem ch_X12_packs_14 {p : Program} {l : Launch} {e : Env} {R : Room} {s : State} {m : MethodId} {args : Array Value} {below : List Frame} {meth : Method} {c : Code} {D : va_G} {cy : Nat → ClassId} {T0 tB tE : Nat} {A : Nat → Prop} {Q : State → Prop} {a : Nat → Nat} (S : GS)  (h_a_0_0 : ar S 0 0 = 0) (h_a_1_1 : ar S 1 1 = 0) (h_a_1_2 : ar S 1 2 = 0) (h_a_2_0 : ar S 2 0 = 3) (h_a_3_1 : ar S 3 1 = 0) (h_a_4_1 : ar S 4 1 = 0) (h_a_4_2 : ar S 4 2 = 0) (h_i_0 : fi S 0 = 0) (b : Bz p R s m args meth c D cy T0 tB tE A 5 cX12_packs RX12 (some .long) "packs" 1 21 0 0) (k : Z p l e R s m args below meth c D A 5 Q 0 0 (mw cy a S) [(3, .int 1), (4, .int 2), (1, .long 1536), (0, .ref (a 0))] 21 [.int 1, .ref (a 1), .long 24576]) : Z p l e R s m args below meth c D A 5 Q 0 0 (mw cy a S) [(0, .ref (a 0))] 0 [] := by
  refine z_aload_n b dX12_packs_0 rfl rfl ?_
  refine z_get (q0 := 0) (k9 := 5) (v := .int (fi S 0)) b (mw_0 cy a S) rfl in_X12 (by decide) wf_X12_157 rfl dX12_packs_1 ?_
  refine z_eqi h_i_0 ?_
  refine z_i2l (v := 0) b dX12_packs_4 (by decide) ?_
  refine z_lstore_n (lv' := [(1, .long 0), (0, .ref (a 0))]) b dX12_packs_5 rfl (by decide) rfl ?_
  refine z_iconst (v := 0) b dX12_packs_6 (by decide) ?_
  refine z_istore_n (lv' := [(3, .int 0), (1, .long 0), (0, .ref (a 0))]) b dX12_packs_7 rfl (by decide) rfl ?_
  refine z_iload_n b dX12_packs_8 rfl rfl ?_
  refine z_iconst (v := 3) b dX12_packs_9 (by decide) ?_
  refine z_icmp_ge_f (tgt := 134) b dX12_packs_10 (by decide) (by decide) ?_
  refine z_lload_n b dX12_packs_13 rfl rfl ?_
  refine z_iconst (v := 4) b dX12_packs_14 (by decide) ?_
  refine z_lshl (v := 0) b dX12_packs_15 (by decide) ?_
  refine z_aload_n b dX12_packs_16 rfl rfl ?_
  refine z_get (q0 := 0) (k9 := 0) (v := .ref (a 1)) b (mw_0 cy a S) rfl in_X12 (by decide) wf_X12_13 rfl dX12_packs_17 ?_
  refine z_iload_n b dX12_packs_20 rfl rfl ?_
  refine y_iald (q0 := 1) (j := 0) (v := (ar S 0 0)) b (mw_1 cy a S) (by decide) rfl dX12_packs_21 ?_
  refine z_eqi h_a_0_0 ?_
  refine z_i2l (v := 0) b dX12_packs_22 (by decide) ?_
  refine z_lor (v := 0) b dX12_packs_23 (by decide) ?_
  refine z_lstore_n (lv' := [(1, .long 0), (3, .int 0), (0, .ref (a 0))]) b dX12_packs_24 rfl (by decide) rfl ?_
  refine z_lload_n b dX12_packs_25 rfl rfl ?_
  refine z_iconst (v := 2) b dX12_packs_26 (by decide) ?_
  refine z_lshl (v := 0) b dX12_packs_27 (by decide) ?_
  refine z_aload_n b dX12_packs_28 rfl rfl ?_
  refine z_get (q0 := 0) (k9 := 2) (v := .ref (a 3)) b (mw_0 cy a S) rfl in_X12 (by decide) wf_X12_20 rfl dX12_packs_29 ?_
  refine z_iload_n b dX12_packs_32 rfl rfl ?_
  refine y_iald (q0 := 3) (j := 0) (v := (ar S 2 0)) b (mw_3 cy a S) (by decide) rfl dX12_packs_33 ?_
  refine z_eqi h_a_2_0 ?_
  refine z_i2l (v := 3) b dX12_packs_34 (by decide) ?_
  refine z_lor (v := 3) b dX12_packs_35 (by decide) ?_
  refine z_lstore_n (lv' := [(1, .long 3), (3, .int 0), (0, .ref (a 0))]) b dX12_packs_36 rfl (by decide) rfl ?_
  refine z_lload_n b dX12_packs_37 rfl rfl ?_
  refine z_iconst (v := 1) b dX12_packs_38 (by decide) ?_
  refine z_lshl (v := 6) b dX12_packs_39 (by decide) ?_
  refine z_aload_n b dX12_packs_40 rfl rfl ?_
  refine z_get (q0 := 0) (k9 := 3) (v := .ref (a 4)) b (mw_0 cy a S) rfl in_X12 (by decide) wf_X12_23 rfl dX12_packs_41 ?_
  refine z_iconst (v := 3) b dX12_packs_44 (by decide) ?_
  refine z_iload_n b dX12_packs_45 rfl rfl ?_
  refine z_imul (v := 0) b dX12_packs_46 (by decide) ?_
  refine z_iload_n b dX12_packs_47 rfl rfl ?_
  refine z_iconst (v := 0) b dX12_packs_48 (by decide) ?_
  refine z_calli b (z_runS (As := [.int 0, .int 0]) (st := [.int 0, .ref (a 4), .long 6]) b (c_X12_other_6 S ) cf_X12_other wm_X12_160 ws_X12_other dX12_packs_49 rfl (Nat.le_of_ble_eq_true rfl) ⟨by decide, by decide, by decide, by decide⟩) (fun r628 u629 h627 => ?_)
  obtain ⟨rfl, rfl⟩ := h627
  refine z_iadd (v := 1) b dX12_packs_52 (by decide) ?_
  refine y_zald (q0 := 4) (j := 1) (v := (ar S 3 1)) b (mw_4 cy a S) (by decide) rfl dX12_packs_53 ?_
  refine z_eqi h_a_3_1 ?_
  refine z_if_eq_t (tgt := 61) b dX12_packs_54 (by decide) (by decide) ?_
  refine z_lconst (v := 0) b dX12_packs_61 (by decide) ?_
  refine z_lor (v := 6) b dX12_packs_62 (by decide) ?_
  refine z_lstore_n (lv' := [(1, .long 6), (3, .int 0), (0, .ref (a 0))]) b dX12_packs_63 rfl (by decide) rfl ?_
  refine z_iconst (v := 0) b dX12_packs_64 (by decide) ?_
  refine z_istore (lv' := [(4, .int 0), (1, .long 6), (3, .int 0), (0, .ref (a 0))]) b dX12_packs_65 (by decide) rfl ?_
  refine z_iload b dX12_packs_67 rfl ?_
  refine z_iconst (v := 2) b dX12_packs_69 (by decide) ?_
  refine z_icmp_ge_f (tgt := 128) b dX12_packs_70 (by decide) (by decide) ?_
  refine z_lload_n b dX12_packs_73 rfl rfl ?_
  refine z_iconst (v := 3) b dX12_packs_74 (by decide) ?_
  refine z_lshl (v := 48) b dX12_packs_75 (by decide) ?_
  refine z_aload_n b dX12_packs_76 rfl rfl ?_
  refine z_get (q0 := 0) (k9 := 1) (v := .ref (a 2)) b (mw_0 cy a S) rfl in_X12 (by decide) wf_X12_17 rfl dX12_packs_77 ?_
  refine z_iconst (v := 3) b dX12_packs_80 (by decide) ?_
  refine z_iload_n b dX12_packs_81 rfl rfl ?_
  refine z_imul (v := 0) b dX12_packs_82 (by decide) ?_
  refine z_iload_n b dX12_packs_83 rfl rfl ?_
  refine z_iload b dX12_packs_84 rfl ?_
  refine z_calli b (z_runS (As := [.int 0, .int 0]) (st := [.int 0, .ref (a 2), .long 48]) b (c_X12_other_6 S ) cf_X12_other wm_X12_160 ws_X12_other dX12_packs_86 rfl (Nat.le_of_ble_eq_true rfl) ⟨by decide, by decide, by decide, by decide⟩) (fun r631 u632 h630 => ?_)
  obtain ⟨rfl, rfl⟩ := h630
  refine z_iadd (v := 1) b dX12_packs_89 (by decide) ?_
  refine y_iald (q0 := 2) (j := 1) (v := (ar S 1 1)) b (mw_2 cy a S) (by decide) rfl dX12_packs_90 ?_
  refine z_eqi h_a_1_1 ?_
  refine z_i2l (v := 0) b dX12_packs_91 (by decide) ?_
  refine z_lor (v := 48) b dX12_packs_92 (by decide) ?_
  refine z_lstore_n (lv' := [(1, .long 48), (4, .int 0), (3, .int 0), (0, .ref (a 0))]) b dX12_packs_93 rfl (by decide) rfl ?_
  refine z_lload_n b dX12_packs_94 rfl rfl ?_
  refine z_iconst (v := 1) b dX12_packs_95 (by decide) ?_
  refine z_lshl (v := 96) b dX12_packs_96 (by decide) ?_
  refine z_aload_n b dX12_packs_97 rfl rfl ?_
  refine z_get (q0 := 0) (k9 := 4) (v := .ref (a 5)) b (mw_0 cy a S) rfl in_X12 (by decide) wf_X12_27 rfl dX12_packs_98 ?_
  refine z_iconst (v := 3) b dX12_packs_101 (by decide) ?_
  refine z_iload_n b dX12_packs_102 rfl rfl ?_
  refine z_imul (v := 0) b dX12_packs_103 (by decide) ?_
  refine z_iload_n b dX12_packs_104 rfl rfl ?_
  refine z_iload b dX12_packs_105 rfl ?_
  refine z_calli b (z_runS (As := [.int 0, .int 0]) (st := [.int 0, .ref (a 5), .long 96]) b (c_X12_other_6 S ) cf_X12_other wm_X12_160 ws_X12_other dX12_packs_107 rfl (Nat.le_of_ble_eq_true rfl) ⟨by decide, by decide, by decide, by decide⟩) (fun r634 u635 h633 => ?_)
  obtain ⟨rfl, rfl⟩ := h633
  refine z_iadd (v := 1) b dX12_packs_110 (by decide) ?_
  refine y_zald (q0 := 5) (j := 1) (v := (ar S 4 1)) b (mw_5 cy a S) (by decide) rfl dX12_packs_111 ?_
  refine z_eqi h_a_4_1 ?_
  refine z_if_eq_t (tgt := 119) b dX12_packs_112 (by decide) (by decide) ?_
  refine z_lconst (v := 0) b dX12_packs_119 (by decide) ?_
  refine z_lor (v := 96) b dX12_packs_120 (by decide) ?_
  refine z_lstore_n (lv' := [(1, .long 96), (4, .int 0), (3, .int 0), (0, .ref (a 0))]) b dX12_packs_121 rfl (by decide) rfl ?_
  refine z_iinc (k9 := 1) (v := 1) (lv' := [(4, .int 1), (1, .long 96), (3, .int 0), (0, .ref (a 0))]) b dX12_packs_122 rfl (by decide) (by decide) rfl ?_
  refine z_goto (tgt := 67) b dX12_packs_125 (by decide) ?_
  refine z_iload b dX12_packs_67 rfl ?_
  refine z_iconst (v := 2) b dX12_packs_69 (by decide) ?_
  refine z_icmp_ge_f (tgt := 128) b dX12_packs_70 (by decide) (by decide) ?_
  refine z_lload_n b dX12_packs_73 rfl rfl ?_
  refine z_iconst (v := 3) b dX12_packs_74 (by decide) ?_
  refine z_lshl (v := 768) b dX12_packs_75 (by decide) ?_
  refine z_aload_n b dX12_packs_76 rfl rfl ?_
  refine z_get (q0 := 0) (k9 := 1) (v := .ref (a 2)) b (mw_0 cy a S) rfl in_X12 (by decide) wf_X12_17 rfl dX12_packs_77 ?_
  refine z_iconst (v := 3) b dX12_packs_80 (by decide) ?_
  refine z_iload_n b dX12_packs_81 rfl rfl ?_
  refine z_imul (v := 0) b dX12_packs_82 (by decide) ?_
  refine z_iload_n b dX12_packs_83 rfl rfl ?_
  refine z_iload b dX12_packs_84 rfl ?_
  refine z_calli b (z_runS (As := [.int 0, .int 1]) (st := [.int 0, .ref (a 2), .long 768]) b (c_X12_other_5 S ) cf_X12_other wm_X12_160 ws_X12_other dX12_packs_86 rfl (Nat.le_of_ble_eq_true rfl) ⟨by decide, by decide, by decide, by decide⟩) (fun r637 u638 h636 => ?_)
  obtain ⟨rfl, rfl⟩ := h636
  refine z_iadd (v := 2) b dX12_packs_89 (by decide) ?_
  refine y_iald (q0 := 2) (j := 2) (v := (ar S 1 2)) b (mw_2 cy a S) (by decide) rfl dX12_packs_90 ?_
  refine z_eqi h_a_1_2 ?_
  refine z_i2l (v := 0) b dX12_packs_91 (by decide) ?_
  refine z_lor (v := 768) b dX12_packs_92 (by decide) ?_
  refine z_lstore_n (lv' := [(1, .long 768), (4, .int 1), (3, .int 0), (0, .ref (a 0))]) b dX12_packs_93 rfl (by decide) rfl ?_
  refine z_lload_n b dX12_packs_94 rfl rfl ?_
  refine z_iconst (v := 1) b dX12_packs_95 (by decide) ?_
  refine z_lshl (v := 1536) b dX12_packs_96 (by decide) ?_
  refine z_aload_n b dX12_packs_97 rfl rfl ?_
  refine z_get (q0 := 0) (k9 := 4) (v := .ref (a 5)) b (mw_0 cy a S) rfl in_X12 (by decide) wf_X12_27 rfl dX12_packs_98 ?_
  refine z_iconst (v := 3) b dX12_packs_101 (by decide) ?_
  refine z_iload_n b dX12_packs_102 rfl rfl ?_
  refine z_imul (v := 0) b dX12_packs_103 (by decide) ?_
  refine z_iload_n b dX12_packs_104 rfl rfl ?_
  refine z_iload b dX12_packs_105 rfl ?_
  refine z_calli b (z_runS (As := [.int 0, .int 1]) (st := [.int 0, .ref (a 5), .long 1536]) b (c_X12_other_5 S ) cf_X12_other wm_X12_160 ws_X12_other dX12_packs_107 rfl (Nat.le_of_ble_eq_true rfl) ⟨by decide, by decide, by decide, by decide⟩) (fun r640 u641 h639 => ?_)
  obtain ⟨rfl, rfl⟩ := h639
  refine z_iadd (v := 2) b dX12_packs_110 (by decide) ?_
  refine y_zald (q0 := 5) (j := 2) (v := (ar S 4 2)) b (mw_5 cy a S) (by decide) rfl dX12_packs_111 ?_
  refine z_eqi h_a_4_2 ?_
  refine z_if_eq_t (tgt := 119) b dX12_packs_112 (by decide) (by decide) ?_
  refine z_lconst (v := 0) b dX12_packs_119 (by decide) ?_
  refine z_lor (v := 1536) b dX12_packs_120 (by decide) ?_
  refine z_lstore_n (lv' := [(1, .long 1536), (4, .int 1), (3, .int 0), (0, .ref (a 0))]) b dX12_packs_121 rfl (by decide) rfl ?_
  refine z_iinc (k9 := 1) (v := 2) (lv' := [(4, .int 2), (1, .long 1536), (3, .int 0), (0, .ref (a 0))]) b dX12_packs_122 rfl (by decide) (by decide) rfl ?_
  refine z_goto (tgt := 67) b dX12_packs_125 (by decide) ?_
  refine z_iload b dX12_packs_67 rfl ?_
  refine z_iconst (v := 2) b dX12_packs_69 (by decide) ?_
  refine z_icmp_ge_t (tgt := 128) b dX12_packs_70 (by decide) (by decide) ?_
  refine z_iinc (k9 := 2) (v := 1) (lv' := [(3, .int 1), (4, .int 2), (1, .long 1536), (0, .ref (a 0))]) b dX12_packs_128 rfl (by decide) (by decide) rfl ?_
  refine z_goto (tgt := 8) b dX12_packs_131 (by decide) ?_
  refine z_iload_n b dX12_packs_8 rfl rfl ?_
  refine z_iconst (v := 3) b dX12_packs_9 (by decide) ?_
  refine z_icmp_ge_f (tgt := 134) b dX12_packs_10 (by decide) (by decide) ?_
  refine z_lload_n b dX12_packs_13 rfl rfl ?_
  refine z_iconst (v := 4) b dX12_packs_14 (by decide) ?_
  refine z_lshl (v := 24576) b dX12_packs_15 (by decide) ?_
  refine z_aload_n b dX12_packs_16 rfl rfl ?_
  refine z_get (q0 := 0) (k9 := 0) (v := .ref (a 1)) b (mw_0 cy a S) rfl in_X12 (by decide) wf_X12_13 rfl dX12_packs_17 ?_
  refine z_iload_n b dX12_packs_20 rfl rfl ?_
  exact k

set_option maxHeartbeats 4000000 in
set_option maxRecDepth 100000 in
theorem ch_X12_packs_15 {p : Program} {l : Launch} {e : Env} {R : Room} {s : State} {m : MethodId} {args : Array Value} {below : List Frame} {meth : Method} {c : Code} {D : va_G} {cy : Nat → ClassId} {T0 tB tE : Nat} {A : Nat → Prop} {Q : State → Prop} {a : Nat → Nat} (S : GS)  (h_a_0_1 : ar S 0 1 = 0) (h_a_0_2 : ar S 0 2 = 0) (h_a_1_3 : ar S 1 3 = 0) (h_a_1_5 : ar S 1 5 = 0) (h_a_2_1 : ar S 2 1 = 3) (h_a_3_5 : ar S 3 5 = 0) (h_a_4_3 : ar S 4 3 = 0) (h_a_4_5 : ar S 4 5 = 0) (b : Bz p R s m args meth c D cy T0 tB tE A 5 cX12_packs RX12 (some .long) "packs" 1 21 0 0) (k : Z p l e R s m args below meth c D A 5 Q 0 0 (mw cy a S) [(1, .long (3221323776 ||| ((ar S 2 2) : Int32).toInt64)), (3, .int 2), (4, .int 2), (0, .ref (a 0))] 38 [.long (3221323776 ||| ((ar S 2 2) : Int32).toInt64)]) : Z p l e R s m args below meth c D A 5 Q 0 0 (mw cy a S) [(3, .int 1), (4, .int 2), (1, .long 1536), (0, .ref (a 0))] 21 [.int 1, .ref (a 1), .long 24576] := by
  refine y_iald (q0 := 1) (j := 1) (v := (ar S 0 1)) b (mw_1 cy a S) (by decide) rfl dX12_packs_21 ?_
  refine z_eqi h_a_0_1 ?_
  refine z_i2l (v := 0) b dX12_packs_22 (by decide) ?_
  refine z_lor (v := 24576) b dX12_packs_23 (by decide) ?_
  refine z_lstore_n (lv' := [(1, .long 24576), (3, .int 1), (4, .int 2), (0, .ref (a 0))]) b dX12_packs_24 rfl (by decide) rfl ?_
  refine z_lload_n b dX12_packs_25 rfl rfl ?_
  refine z_iconst (v := 2) b dX12_packs_26 (by decide) ?_
  refine z_lshl (v := 98304) b dX12_packs_27 (by decide) ?_
  refine z_aload_n b dX12_packs_28 rfl rfl ?_
  refine z_get (q0 := 0) (k9 := 2) (v := .ref (a 3)) b (mw_0 cy a S) rfl in_X12 (by decide) wf_X12_20 rfl dX12_packs_29 ?_
  refine z_iload_n b dX12_packs_32 rfl rfl ?_
  refine y_iald (q0 := 3) (j := 1) (v := (ar S 2 1)) b (mw_3 cy a S) (by decide) rfl dX12_packs_33 ?_
  refine z_eqi h_a_2_1 ?_
  refine z_i2l (v := 3) b dX12_packs_34 (by decide) ?_
  refine z_lor (v := 98307) b dX12_packs_35 (by decide) ?_
  refine z_lstore_n (lv' := [(1, .long 98307), (3, .int 1), (4, .int 2), (0, .ref (a 0))]) b dX12_packs_36 rfl (by decide) rfl ?_
  refine z_lload_n b dX12_packs_37 rfl rfl ?_
  refine z_iconst (v := 1) b dX12_packs_38 (by decide) ?_
  refine z_lshl (v := 196614) b dX12_packs_39 (by decide) ?_
  refine z_aload_n b dX12_packs_40 rfl rfl ?_
  refine z_get (q0 := 0) (k9 := 3) (v := .ref (a 4)) b (mw_0 cy a S) rfl in_X12 (by decide) wf_X12_23 rfl dX12_packs_41 ?_
  refine z_iconst (v := 3) b dX12_packs_44 (by decide) ?_
  refine z_iload_n b dX12_packs_45 rfl rfl ?_
  refine z_imul (v := 3) b dX12_packs_46 (by decide) ?_
  refine z_iload_n b dX12_packs_47 rfl rfl ?_
  refine z_iconst (v := 0) b dX12_packs_48 (by decide) ?_
  refine z_calli b (z_runS (As := [.int 1, .int 0]) (st := [.int 3, .ref (a 4), .long 196614]) b (c_X12_other_4 S ) cf_X12_other wm_X12_160 ws_X12_other dX12_packs_49 rfl (Nat.le_of_ble_eq_true rfl) ⟨by decide, by decide, by decide, by decide⟩) (fun r643 u644 h642 => ?_)
  obtain ⟨rfl, rfl⟩ := h642
  refine z_iadd (v := 5) b dX12_packs_52 (by decide) ?_
  refine y_zald (q0 := 4) (j := 5) (v := (ar S 3 5)) b (mw_4 cy a S) (by decide) rfl dX12_packs_53 ?_
  refine z_eqi h_a_3_5 ?_
  refine z_if_eq_t (tgt := 61) b dX12_packs_54 (by decide) (by decide) ?_
  refine z_lconst (v := 0) b dX12_packs_61 (by decide) ?_
  refine z_lor (v := 196614) b dX12_packs_62 (by decide) ?_
  refine z_lstore_n (lv' := [(1, .long 196614), (3, .int 1), (4, .int 2), (0, .ref (a 0))]) b dX12_packs_63 rfl (by decide) rfl ?_
  refine z_iconst (v := 0) b dX12_packs_64 (by decide) ?_
  refine z_istore (lv' := [(4, .int 0), (1, .long 196614), (3, .int 1), (0, .ref (a 0))]) b dX12_packs_65 (by decide) rfl ?_
  refine z_iload b dX12_packs_67 rfl ?_
  refine z_iconst (v := 2) b dX12_packs_69 (by decide) ?_
  refine z_icmp_ge_f (tgt := 128) b dX12_packs_70 (by decide) (by decide) ?_
  refine z_lload_n b dX12_packs_73 rfl rfl ?_
  refine z_iconst (v := 3) b dX12_packs_74 (by decide) ?_
  refine z_lshl (v := 1572912) b dX12_packs_75 (by decide) ?_
  refine z_aload_n b dX12_packs_76 rfl rfl ?_
  refine z_get (q0 := 0) (k9 := 1) (v := .ref (a 2)) b (mw_0 cy a S) rfl in_X12 (by decide) wf_X12_17 rfl dX12_packs_77 ?_
  refine z_iconst (v := 3) b dX12_packs_80 (by decide) ?_
  refine z_iload_n b dX12_packs_81 rfl rfl ?_
  refine z_imul (v := 3) b dX12_packs_82 (by decide) ?_
  refine z_iload_n b dX12_packs_83 rfl rfl ?_
  refine z_iload b dX12_packs_84 rfl ?_
  refine z_calli b (z_runS (As := [.int 1, .int 0]) (st := [.int 3, .ref (a 2), .long 1572912]) b (c_X12_other_4 S ) cf_X12_other wm_X12_160 ws_X12_other dX12_packs_86 rfl (Nat.le_of_ble_eq_true rfl) ⟨by decide, by decide, by decide, by decide⟩) (fun r646 u647 h645 => ?_)
  obtain ⟨rfl, rfl⟩ := h645
  refine z_iadd (v := 5) b dX12_packs_89 (by decide) ?_
  refine y_iald (q0 := 2) (j := 5) (v := (ar S 1 5)) b (mw_2 cy a S) (by decide) rfl dX12_packs_90 ?_
  refine z_eqi h_a_1_5 ?_
  refine z_i2l (v := 0) b dX12_packs_91 (by decide) ?_
  refine z_lor (v := 1572912) b dX12_packs_92 (by decide) ?_
  refine z_lstore_n (lv' := [(1, .long 1572912), (4, .int 0), (3, .int 1), (0, .ref (a 0))]) b dX12_packs_93 rfl (by decide) rfl ?_
  refine z_lload_n b dX12_packs_94 rfl rfl ?_
  refine z_iconst (v := 1) b dX12_packs_95 (by decide) ?_
  refine z_lshl (v := 3145824) b dX12_packs_96 (by decide) ?_
  refine z_aload_n b dX12_packs_97 rfl rfl ?_
  refine z_get (q0 := 0) (k9 := 4) (v := .ref (a 5)) b (mw_0 cy a S) rfl in_X12 (by decide) wf_X12_27 rfl dX12_packs_98 ?_
  refine z_iconst (v := 3) b dX12_packs_101 (by decide) ?_
  refine z_iload_n b dX12_packs_102 rfl rfl ?_
  refine z_imul (v := 3) b dX12_packs_103 (by decide) ?_
  refine z_iload_n b dX12_packs_104 rfl rfl ?_
  refine z_iload b dX12_packs_105 rfl ?_
  refine z_calli b (z_runS (As := [.int 1, .int 0]) (st := [.int 3, .ref (a 5), .long 3145824]) b (c_X12_other_4 S ) cf_X12_other wm_X12_160 ws_X12_other dX12_packs_107 rfl (Nat.le_of_ble_eq_true rfl) ⟨by decide, by decide, by decide, by decide⟩) (fun r649 u650 h648 => ?_)
  obtain ⟨rfl, rfl⟩ := h648
  refine z_iadd (v := 5) b dX12_packs_110 (by decide) ?_
  refine y_zald (q0 := 5) (j := 5) (v := (ar S 4 5)) b (mw_5 cy a S) (by decide) rfl dX12_packs_111 ?_
  refine z_eqi h_a_4_5 ?_
  refine z_if_eq_t (tgt := 119) b dX12_packs_112 (by decide) (by decide) ?_
  refine z_lconst (v := 0) b dX12_packs_119 (by decide) ?_
  refine z_lor (v := 3145824) b dX12_packs_120 (by decide) ?_
  refine z_lstore_n (lv' := [(1, .long 3145824), (4, .int 0), (3, .int 1), (0, .ref (a 0))]) b dX12_packs_121 rfl (by decide) rfl ?_
  refine z_iinc (k9 := 1) (v := 1) (lv' := [(4, .int 1), (1, .long 3145824), (3, .int 1), (0, .ref (a 0))]) b dX12_packs_122 rfl (by decide) (by decide) rfl ?_
  refine z_goto (tgt := 67) b dX12_packs_125 (by decide) ?_
  refine z_iload b dX12_packs_67 rfl ?_
  refine z_iconst (v := 2) b dX12_packs_69 (by decide) ?_
  refine z_icmp_ge_f (tgt := 128) b dX12_packs_70 (by decide) (by decide) ?_
  refine z_lload_n b dX12_packs_73 rfl rfl ?_
  refine z_iconst (v := 3) b dX12_packs_74 (by decide) ?_
  refine z_lshl (v := 25166592) b dX12_packs_75 (by decide) ?_
  refine z_aload_n b dX12_packs_76 rfl rfl ?_
  refine z_get (q0 := 0) (k9 := 1) (v := .ref (a 2)) b (mw_0 cy a S) rfl in_X12 (by decide) wf_X12_17 rfl dX12_packs_77 ?_
  refine z_iconst (v := 3) b dX12_packs_80 (by decide) ?_
  refine z_iload_n b dX12_packs_81 rfl rfl ?_
  refine z_imul (v := 3) b dX12_packs_82 (by decide) ?_
  refine z_iload_n b dX12_packs_83 rfl rfl ?_
  refine z_iload b dX12_packs_84 rfl ?_
  refine z_calli b (z_runS (As := [.int 1, .int 1]) (st := [.int 3, .ref (a 2), .long 25166592]) b (c_X12_other_3 S ) cf_X12_other wm_X12_160 ws_X12_other dX12_packs_86 rfl (Nat.le_of_ble_eq_true rfl) ⟨by decide, by decide, by decide, by decide⟩) (fun r652 u653 h651 => ?_)
  obtain ⟨rfl, rfl⟩ := h651
  refine z_iadd (v := 3) b dX12_packs_89 (by decide) ?_
  refine y_iald (q0 := 2) (j := 3) (v := (ar S 1 3)) b (mw_2 cy a S) (by decide) rfl dX12_packs_90 ?_
  refine z_eqi h_a_1_3 ?_
  refine z_i2l (v := 0) b dX12_packs_91 (by decide) ?_
  refine z_lor (v := 25166592) b dX12_packs_92 (by decide) ?_
  refine z_lstore_n (lv' := [(1, .long 25166592), (4, .int 1), (3, .int 1), (0, .ref (a 0))]) b dX12_packs_93 rfl (by decide) rfl ?_
  refine z_lload_n b dX12_packs_94 rfl rfl ?_
  refine z_iconst (v := 1) b dX12_packs_95 (by decide) ?_
  refine z_lshl (v := 50333184) b dX12_packs_96 (by decide) ?_
  refine z_aload_n b dX12_packs_97 rfl rfl ?_
  refine z_get (q0 := 0) (k9 := 4) (v := .ref (a 5)) b (mw_0 cy a S) rfl in_X12 (by decide) wf_X12_27 rfl dX12_packs_98 ?_
  refine z_iconst (v := 3) b dX12_packs_101 (by decide) ?_
  refine z_iload_n b dX12_packs_102 rfl rfl ?_
  refine z_imul (v := 3) b dX12_packs_103 (by decide) ?_
  refine z_iload_n b dX12_packs_104 rfl rfl ?_
  refine z_iload b dX12_packs_105 rfl ?_
  refine z_calli b (z_runS (As := [.int 1, .int 1]) (st := [.int 3, .ref (a 5), .long 50333184]) b (c_X12_other_3 S ) cf_X12_other wm_X12_160 ws_X12_other dX12_packs_107 rfl (Nat.le_of_ble_eq_true rfl) ⟨by decide, by decide, by decide, by decide⟩) (fun r655 u656 h654 => ?_)
  obtain ⟨rfl, rfl⟩ := h654
  refine z_iadd (v := 3) b dX12_packs_110 (by decide) ?_
  refine y_zald (q0 := 5) (j := 3) (v := (ar S 4 3)) b (mw_5 cy a S) (by decide) rfl dX12_packs_111 ?_
  refine z_eqi h_a_4_3 ?_
  refine z_if_eq_t (tgt := 119) b dX12_packs_112 (by decide) (by decide) ?_
  refine z_lconst (v := 0) b dX12_packs_119 (by decide) ?_
  refine z_lor (v := 50333184) b dX12_packs_120 (by decide) ?_
  refine z_lstore_n (lv' := [(1, .long 50333184), (4, .int 1), (3, .int 1), (0, .ref (a 0))]) b dX12_packs_121 rfl (by decide) rfl ?_
  refine z_iinc (k9 := 1) (v := 2) (lv' := [(4, .int 2), (1, .long 50333184), (3, .int 1), (0, .ref (a 0))]) b dX12_packs_122 rfl (by decide) (by decide) rfl ?_
  refine z_goto (tgt := 67) b dX12_packs_125 (by decide) ?_
  refine z_iload b dX12_packs_67 rfl ?_
  refine z_iconst (v := 2) b dX12_packs_69 (by decide) ?_
  refine z_icmp_ge_t (tgt := 128) b dX12_packs_70 (by decide) (by decide) ?_
  refine z_iinc (k9 := 2) (v := 2) (lv' := [(3, .int 2), (4, .int 2), (1, .long 50333184), (0, .ref (a 0))]) b dX12_packs_128 rfl (by decide) (by decide) rfl ?_
  refine z_goto (tgt := 8) b dX12_packs_131 (by decide) ?_
  refine z_iload_n b dX12_packs_8 rfl rfl ?_
  refine z_iconst (v := 3) b dX12_packs_9 (by decide) ?_
  refine z_icmp_ge_f (tgt := 134) b dX12_packs_10 (by decide) (by decide) ?_
  refine z_lload_n b dX12_packs_13 rfl rfl ?_
  refine z_iconst (v := 4) b dX12_packs_14 (by decide) ?_
  refine z_lshl (v := 805330944) b dX12_packs_15 (by decide) ?_
  refine z_aload_n b dX12_packs_16 rfl rfl ?_
  refine z_get (q0 := 0) (k9 := 0) (v := .ref (a 1)) b (mw_0 cy a S) rfl in_X12 (by decide) wf_X12_13 rfl dX12_packs_17 ?_
  refine z_iload_n b dX12_packs_20 rfl rfl ?_
  refine y_iald (q0 := 1) (j := 2) (v := (ar S 0 2)) b (mw_1 cy a S) (by decide) rfl dX12_packs_21 ?_
  refine z_eqi h_a_0_2 ?_
  refine z_i2l (v := 0) b dX12_packs_22 (by decide) ?_
  refine z_lor (v := 805330944) b dX12_packs_23 (by decide) ?_
  refine z_lstore_n (lv' := [(1, .long 805330944), (3, .int 2), (4, .int 2), (0, .ref (a 0))]) b dX12_packs_24 rfl (by decide) rfl ?_
  refine z_lload_n b dX12_packs_25 rfl rfl ?_
  refine z_iconst (v := 2) b dX12_packs_26 (by decide) ?_
  refine z_lshl (v := 3221323776) b dX12_packs_27 (by decide) ?_
  refine z_aload_n b dX12_packs_28 rfl rfl ?_
  refine z_get (q0 := 0) (k9 := 2) (v := .ref (a 3)) b (mw_0 cy a S) rfl in_X12 (by decide) wf_X12_20 rfl dX12_packs_29 ?_
  refine z_iload_n b dX12_packs_32 rfl rfl ?_
  refine y_iald (q0 := 3) (j := 2) (v := (ar S 2 2)) b (mw_3 cy a S) (by decide) rfl dX12_packs_33 ?_
  refine z_i2l b dX12_packs_34 rfl ?_
  refine z_lor b dX12_packs_35 rfl ?_
  refine z_lstore_n (lv' := [(1, .long (3221323776 ||| ((ar S 2 2) : Int32).toInt64)), (3, .int 2), (4, .int 2), (0, .ref (a 0))]) b dX12_packs_36 rfl (by decide) rfl ?_
  refine z_lload_n b dX12_packs_37 rfl rfl ?_
  exact k

set_option maxHeartbeats 4000000 in
set_option maxRecDepth 100000 in
theorem c_X12_packs_6 {l : Launch} {D : va_G} {cy : Nat → ClassId} {T0 tB tE : Nat} {a : Nat → Nat} (S : GS)  (h_i_0 : fi S 0 = 0) (h_a_0_0 : ar S 0 0 = 0) (h_a_2_0 : ar S 2 0 = 3) (h_a_3_1 : ar S 3 1 = 0) (h_a_1_1 : ar S 1 1 = 0) (h_a_4_1 : ar S 4 1 = 0) (h_a_1_2 : ar S 1 2 = 0) (h_a_4_2 : ar S 4 2 = 0) (h_a_0_1 : ar S 0 1 = 0) (h_a_2_1 : ar S 2 1 = 3) (h_a_3_5 : ar S 3 5 = 0) (h_a_1_5 : ar S 1 5 = 0) (h_a_4_5 : ar S 4 5 = 0) (h_a_1_3 : ar S 1 3 = 0) (h_a_4_3 : ar S 4 3 = 0) (h_a_0_2 : ar S 0 2 = 0) (h_a_3_6 : ar S 3 6 = 0) (h_a_1_6 : ar S 1 6 = 0) (h_a_4_6 : ar S 4 6 = 0) (h_a_1_7 : ar S 1 7 = 0) (h_a_4_7 : ar S 4 7 = 0) : Ct l D cy T0 tB tE yX12_packs cX12_packs 5 (some .long) 1 21 0 0 (mw cy a S) [.ref (a 0)] (QL D (U := GS) (fun r u => (((((((((((3221323776 ||| ((ar S 2 2) : Int32).toInt64) <<< ((1 : Int32).toInt64 &&& 63)) ||| 0) <<< ((3 : Int32).toInt64 &&& 63)) ||| 0) <<< ((1 : Int32).toInt64 &&& 63)) ||| 0) <<< ((3 : Int32).toInt64 &&& 63)) ||| 0) <<< ((1 : Int32).toInt64 &&& 63)) ||| 0) = r ∧ S = u) (mw cy a)) := by
  refine Ct.ofZ RX12 "packs" [(0, .ref (a 0))] rfl rfl rfl rfl (Nat.le_of_ble_eq_true rfl) ?_
  intro p e R s m args below meth c A b
  refine ch_X12_packs_14 S  h_a_0_0 h_a_1_1 h_a_1_2 h_a_2_0 h_a_3_1 h_a_4_1 h_a_4_2 h_i_0  b ?_
  refine ch_X12_packs_15 S  h_a_0_1 h_a_0_2 h_a_1_3 h_a_1_5 h_a_2_1 h_a_3_5 h_a_4_3 h_a_4_5  b ?_
  refine z_iconst (v := 1) b dX12_packs_38 (by decide) ?_
  refine z_lshl b dX12_packs_39 rfl ?_
  refine z_aload_n b dX12_packs_40 rfl rfl ?_
  refine z_get (q0 := 0) (k9 := 3) (v := .ref (a 4)) b (mw_0 cy a S) rfl in_X12 (by decide) wf_X12_23 rfl dX12_packs_41 ?_
  refine z_iconst (v := 3) b dX12_packs_44 (by decide) ?_
  refine z_iload_n b dX12_packs_45 rfl rfl ?_
  refine z_imul (v := 6) b dX12_packs_46 (by decide) ?_
  refine z_iload_n b dX12_packs_47 rfl rfl ?_
  refine z_iconst (v := 0) b dX12_packs_48 (by decide) ?_
  refine z_calli b (z_runS (As := [.int 2, .int 0]) (st := [.int 6, .ref (a 4), .long ((3221323776 ||| ((ar S 2 2) : Int32).toInt64) <<< ((1 : Int32).toInt64 &&& 63))]) b (c_X12_other_2 S ) cf_X12_other wm_X12_160 ws_X12_other dX12_packs_49 rfl (Nat.le_of_ble_eq_true rfl) ⟨by decide, by decide, by decide, by decide⟩) (fun r658 u659 h657 => ?_)
  obtain ⟨rfl, rfl⟩ := h657
  refine z_iadd (v := 6) b dX12_packs_52 (by decide) ?_
  refine y_zald (q0 := 4) (j := 6) (v := (ar S 3 6)) b (mw_4 cy a S) (by decide) rfl dX12_packs_53 ?_
  refine z_eqi h_a_3_6 ?_
  refine z_if_eq_t (tgt := 61) b dX12_packs_54 (by decide) (by decide) ?_
  refine z_lconst (v := 0) b dX12_packs_61 (by decide) ?_
  refine z_lor b dX12_packs_62 rfl ?_
  refine z_lstore_n (lv' := [(1, .long (((3221323776 ||| ((ar S 2 2) : Int32).toInt64) <<< ((1 : Int32).toInt64 &&& 63)) ||| 0)), (3, .int 2), (4, .int 2), (0, .ref (a 0))]) b dX12_packs_63 rfl (by decide) rfl ?_
  refine z_iconst (v := 0) b dX12_packs_64 (by decide) ?_
  refine z_istore (lv' := [(4, .int 0), (1, .long (((3221323776 ||| ((ar S 2 2) : Int32).toInt64) <<< ((1 : Int32).toInt64 &&& 63)) ||| 0)), (3, .int 2), (0, .ref (a 0))]) b dX12_packs_65 (by decide) rfl ?_
  refine z_iload b dX12_packs_67 rfl ?_
  refine z_iconst (v := 2) b dX12_packs_69 (by decide) ?_
  refine z_icmp_ge_f (tgt := 128) b dX12_packs_70 (by decide) (by decide) ?_
  refine z_lload_n b dX12_packs_73 rfl rfl ?_
  refine z_iconst (v := 3) b dX12_packs_74 (by decide) ?_
  refine z_lshl b dX12_packs_75 rfl ?_
  refine z_aload_n b dX12_packs_76 rfl rfl ?_
  refine z_get (q0 := 0) (k9 := 1) (v := .ref (a 2)) b (mw_0 cy a S) rfl in_X12 (by decide) wf_X12_17 rfl dX12_packs_77 ?_
  refine z_iconst (v := 3) b dX12_packs_80 (by decide) ?_
  refine z_iload_n b dX12_packs_81 rfl rfl ?_
  refine z_imul (v := 6) b dX12_packs_82 (by decide) ?_
  refine z_iload_n b dX12_packs_83 rfl rfl ?_
  refine z_iload b dX12_packs_84 rfl ?_
  refine z_calli b (z_runS (As := [.int 2, .int 0]) (st := [.int 6, .ref (a 2), .long ((((3221323776 ||| ((ar S 2 2) : Int32).toInt64) <<< ((1 : Int32).toInt64 &&& 63)) ||| 0) <<< ((3 : Int32).toInt64 &&& 63))]) b (c_X12_other_2 S ) cf_X12_other wm_X12_160 ws_X12_other dX12_packs_86 rfl (Nat.le_of_ble_eq_true rfl) ⟨by decide, by decide, by decide, by decide⟩) (fun r661 u662 h660 => ?_)
  obtain ⟨rfl, rfl⟩ := h660
  refine z_iadd (v := 6) b dX12_packs_89 (by decide) ?_
  refine y_iald (q0 := 2) (j := 6) (v := (ar S 1 6)) b (mw_2 cy a S) (by decide) rfl dX12_packs_90 ?_
  refine z_eqi h_a_1_6 ?_
  refine z_i2l (v := 0) b dX12_packs_91 (by decide) ?_
  refine z_lor b dX12_packs_92 rfl ?_
  refine z_lstore_n (lv' := [(1, .long (((((3221323776 ||| ((ar S 2 2) : Int32).toInt64) <<< ((1 : Int32).toInt64 &&& 63)) ||| 0) <<< ((3 : Int32).toInt64 &&& 63)) ||| 0)), (4, .int 0), (3, .int 2), (0, .ref (a 0))]) b dX12_packs_93 rfl (by decide) rfl ?_
  refine z_lload_n b dX12_packs_94 rfl rfl ?_
  refine z_iconst (v := 1) b dX12_packs_95 (by decide) ?_
  refine z_lshl b dX12_packs_96 rfl ?_
  refine z_aload_n b dX12_packs_97 rfl rfl ?_
  refine z_get (q0 := 0) (k9 := 4) (v := .ref (a 5)) b (mw_0 cy a S) rfl in_X12 (by decide) wf_X12_27 rfl dX12_packs_98 ?_
  refine z_iconst (v := 3) b dX12_packs_101 (by decide) ?_
  refine z_iload_n b dX12_packs_102 rfl rfl ?_
  refine z_imul (v := 6) b dX12_packs_103 (by decide) ?_
  refine z_iload_n b dX12_packs_104 rfl rfl ?_
  refine z_iload b dX12_packs_105 rfl ?_
  refine z_calli b (z_runS (As := [.int 2, .int 0]) (st := [.int 6, .ref (a 5), .long ((((((3221323776 ||| ((ar S 2 2) : Int32).toInt64) <<< ((1 : Int32).toInt64 &&& 63)) ||| 0) <<< ((3 : Int32).toInt64 &&& 63)) ||| 0) <<< ((1 : Int32).toInt64 &&& 63))]) b (c_X12_other_2 S ) cf_X12_other wm_X12_160 ws_X12_other dX12_packs_107 rfl (Nat.le_of_ble_eq_true rfl) ⟨by decide, by decide, by decide, by decide⟩) (fun r664 u665 h663 => ?_)
  obtain ⟨rfl, rfl⟩ := h663
  refine z_iadd (v := 6) b dX12_packs_110 (by decide) ?_
  refine y_zald (q0 := 5) (j := 6) (v := (ar S 4 6)) b (mw_5 cy a S) (by decide) rfl dX12_packs_111 ?_
  refine z_eqi h_a_4_6 ?_
  refine z_if_eq_t (tgt := 119) b dX12_packs_112 (by decide) (by decide) ?_
  refine z_lconst (v := 0) b dX12_packs_119 (by decide) ?_
  refine z_lor b dX12_packs_120 rfl ?_
  refine z_lstore_n (lv' := [(1, .long (((((((3221323776 ||| ((ar S 2 2) : Int32).toInt64) <<< ((1 : Int32).toInt64 &&& 63)) ||| 0) <<< ((3 : Int32).toInt64 &&& 63)) ||| 0) <<< ((1 : Int32).toInt64 &&& 63)) ||| 0)), (4, .int 0), (3, .int 2), (0, .ref (a 0))]) b dX12_packs_121 rfl (by decide) rfl ?_
  refine z_iinc (k9 := 1) (v := 1) (lv' := [(4, .int 1), (1, .long (((((((3221323776 ||| ((ar S 2 2) : Int32).toInt64) <<< ((1 : Int32).toInt64 &&& 63)) ||| 0) <<< ((3 : Int32).toInt64 &&& 63)) ||| 0) <<< ((1 : Int32).toInt64 &&& 63)) ||| 0)), (3, .int 2), (0, .ref (a 0))]) b dX12_packs_122 rfl (by decide) (by decide) rfl ?_
  refine z_goto (tgt := 67) b dX12_packs_125 (by decide) ?_
  refine z_iload b dX12_packs_67 rfl ?_
  refine z_iconst (v := 2) b dX12_packs_69 (by decide) ?_
  refine z_icmp_ge_f (tgt := 128) b dX12_packs_70 (by decide) (by decide) ?_
  refine z_lload_n b dX12_packs_73 rfl rfl ?_
  refine z_iconst (v := 3) b dX12_packs_74 (by decide) ?_
  refine z_lshl b dX12_packs_75 rfl ?_
  refine z_aload_n b dX12_packs_76 rfl rfl ?_
  refine z_get (q0 := 0) (k9 := 1) (v := .ref (a 2)) b (mw_0 cy a S) rfl in_X12 (by decide) wf_X12_17 rfl dX12_packs_77 ?_
  refine z_iconst (v := 3) b dX12_packs_80 (by decide) ?_
  refine z_iload_n b dX12_packs_81 rfl rfl ?_
  refine z_imul (v := 6) b dX12_packs_82 (by decide) ?_
  refine z_iload_n b dX12_packs_83 rfl rfl ?_
  refine z_iload b dX12_packs_84 rfl ?_
  refine z_calli b (z_runS (As := [.int 2, .int 1]) (st := [.int 6, .ref (a 2), .long ((((((((3221323776 ||| ((ar S 2 2) : Int32).toInt64) <<< ((1 : Int32).toInt64 &&& 63)) ||| 0) <<< ((3 : Int32).toInt64 &&& 63)) ||| 0) <<< ((1 : Int32).toInt64 &&& 63)) ||| 0) <<< ((3 : Int32).toInt64 &&& 63))]) b (c_X12_other S ) cf_X12_other wm_X12_160 ws_X12_other dX12_packs_86 rfl (Nat.le_of_ble_eq_true rfl) ⟨by decide, by decide, by decide, by decide⟩) (fun r667 u668 h666 => ?_)
  obtain ⟨rfl, rfl⟩ := h666
  refine z_iadd (v := 7) b dX12_packs_89 (by decide) ?_
  refine y_iald (q0 := 2) (j := 7) (v := (ar S 1 7)) b (mw_2 cy a S) (by decide) rfl dX12_packs_90 ?_
  refine z_eqi h_a_1_7 ?_
  refine z_i2l (v := 0) b dX12_packs_91 (by decide) ?_
  refine z_lor b dX12_packs_92 rfl ?_
  refine z_lstore_n (lv' := [(1, .long (((((((((3221323776 ||| ((ar S 2 2) : Int32).toInt64) <<< ((1 : Int32).toInt64 &&& 63)) ||| 0) <<< ((3 : Int32).toInt64 &&& 63)) ||| 0) <<< ((1 : Int32).toInt64 &&& 63)) ||| 0) <<< ((3 : Int32).toInt64 &&& 63)) ||| 0)), (4, .int 1), (3, .int 2), (0, .ref (a 0))]) b dX12_packs_93 rfl (by decide) rfl ?_
  refine z_lload_n b dX12_packs_94 rfl rfl ?_
  refine z_iconst (v := 1) b dX12_packs_95 (by decide) ?_
  refine z_lshl b dX12_packs_96 rfl ?_
  refine z_aload_n b dX12_packs_97 rfl rfl ?_
  refine z_get (q0 := 0) (k9 := 4) (v := .ref (a 5)) b (mw_0 cy a S) rfl in_X12 (by decide) wf_X12_27 rfl dX12_packs_98 ?_
  refine z_iconst (v := 3) b dX12_packs_101 (by decide) ?_
  refine z_iload_n b dX12_packs_102 rfl rfl ?_
  refine z_imul (v := 6) b dX12_packs_103 (by decide) ?_
  refine z_iload_n b dX12_packs_104 rfl rfl ?_
  refine z_iload b dX12_packs_105 rfl ?_
  refine z_calli b (z_runS (As := [.int 2, .int 1]) (st := [.int 6, .ref (a 5), .long ((((((((((3221323776 ||| ((ar S 2 2) : Int32).toInt64) <<< ((1 : Int32).toInt64 &&& 63)) ||| 0) <<< ((3 : Int32).toInt64 &&& 63)) ||| 0) <<< ((1 : Int32).toInt64 &&& 63)) ||| 0) <<< ((3 : Int32).toInt64 &&& 63)) ||| 0) <<< ((1 : Int32).toInt64 &&& 63))]) b (c_X12_other S ) cf_X12_other wm_X12_160 ws_X12_other dX12_packs_107 rfl (Nat.le_of_ble_eq_true rfl) ⟨by decide, by decide, by decide, by decide⟩) (fun r670 u671 h669 => ?_)
  obtain ⟨rfl, rfl⟩ := h669
  refine z_iadd (v := 7) b dX12_packs_110 (by decide) ?_
  refine y_zald (q0 := 5) (j := 7) (v := (ar S 4 7)) b (mw_5 cy a S) (by decide) rfl dX12_packs_111 ?_
  refine z_eqi h_a_4_7 ?_
  refine z_if_eq_t (tgt := 119) b dX12_packs_112 (by decide) (by decide) ?_
  refine z_lconst (v := 0) b dX12_packs_119 (by decide) ?_
  refine z_lor b dX12_packs_120 rfl ?_
  refine z_lstore_n (lv' := [(1, .long (((((((((((3221323776 ||| ((ar S 2 2) : Int32).toInt64) <<< ((1 : Int32).toInt64 &&& 63)) ||| 0) <<< ((3 : Int32).toInt64 &&& 63)) ||| 0) <<< ((1 : Int32).toInt64 &&& 63)) ||| 0) <<< ((3 : Int32).toInt64 &&& 63)) ||| 0) <<< ((1 : Int32).toInt64 &&& 63)) ||| 0)), (4, .int 1), (3, .int 2), (0, .ref (a 0))]) b dX12_packs_121 rfl (by decide) rfl ?_
  refine z_iinc (k9 := 1) (v := 2) (lv' := [(4, .int 2), (1, .long (((((((((((3221323776 ||| ((ar S 2 2) : Int32).toInt64) <<< ((1 : Int32).toInt64 &&& 63)) ||| 0) <<< ((3 : Int32).toInt64 &&& 63)) ||| 0) <<< ((1 : Int32).toInt64 &&& 63)) ||| 0) <<< ((3 : Int32).toInt64 &&& 63)) ||| 0) <<< ((1 : Int32).toInt64 &&& 63)) ||| 0)), (3, .int 2), (0, .ref (a 0))]) b dX12_packs_122 rfl (by decide) (by decide) rfl ?_
  refine z_goto (tgt := 67) b dX12_packs_125 (by decide) ?_
  refine z_iload b dX12_packs_67 rfl ?_
  refine z_iconst (v := 2) b dX12_packs_69 (by decide) ?_
  refine z_icmp_ge_t (tgt := 128) b dX12_packs_70 (by decide) (by decide) ?_
  refine z_iinc (k9 := 2) (v := 3) (lv' := [(3, .int 3), (4, .int 2), (1, .long (((((((((((3221323776 ||| ((ar S 2 2) : Int32).toInt64) <<< ((1 : Int32).toInt64 &&& 63)) ||| 0) <<< ((3 : Int32).toInt64 &&& 63)) ||| 0) <<< ((1 : Int32).toInt64 &&& 63)) ||| 0) <<< ((3 : Int32).toInt64 &&& 63)) ||| 0) <<< ((1 : Int32).toInt64 &&& 63)) ||| 0)), (0, .ref (a 0))]) b dX12_packs_128 rfl (by decide) (by decide) rfl ?_
  refine z_goto (tgt := 8) b dX12_packs_131 (by decide) ?_
  refine z_iload_n b dX12_packs_8 rfl rfl ?_
  refine z_iconst (v := 3) b dX12_packs_9 (by decide) ?_
  refine z_icmp_ge_t (tgt := 134) b dX12_packs_10 (by decide) (by decide) ?_
  refine z_lload_n b dX12_packs_134 rfl rfl ?_
  exact z_lret (u := S) b rfl dX12_packs_135 ⟨rfl, rfl⟩ rfl (by decide) (by decide)

set_option maxHeartbeats 4000000 in
set_option maxRecDepth 100000 in
theorem c_X12_told_6 {l : Launch} {D : va_G} {cy : Nat → ClassId} {T0 tB tE : Nat} {a : Nat → Nat} (S : GS)  (h_i_0 : fi S 0 = 0) (h_a_0_0 : ar S 0 0 = 0) (h_a_2_0 : ar S 2 0 = 3) (h_a_3_1 : ar S 3 1 = 0) (h_a_1_1 : ar S 1 1 = 0) (h_a_4_1 : ar S 4 1 = 0) (h_a_1_2 : ar S 1 2 = 0) (h_a_4_2 : ar S 4 2 = 0) (h_a_0_1 : ar S 0 1 = 0) (h_a_2_1 : ar S 2 1 = 3) (h_a_3_5 : ar S 3 5 = 0) (h_a_1_5 : ar S 1 5 = 0) (h_a_4_5 : ar S 4 5 = 0) (h_a_1_3 : ar S 1 3 = 0) (h_a_4_3 : ar S 4 3 = 0) (h_a_0_2 : ar S 0 2 = 0) (h_a_3_6 : ar S 3 6 = 0) (h_a_1_6 : ar S 1 6 = 0) (h_a_4_6 : ar S 4 6 = 0) (h_a_1_7 : ar S 1 7 = 0) (h_a_4_7 : ar S 4 7 = 0) : Ct l D cy T0 tB tE yX12_told cX12_told 1 (some .boolean) 2 45 0 0 (mw cy a S) [.ref (a 0)] (QI D (U := GS) (fun r u => 1 = r ∧ sl S 0 (((((((((((3221323776 ||| ((ar S 2 2) : Int32).toInt64) <<< ((1 : Int32).toInt64 &&& 63)) ||| 0) <<< ((3 : Int32).toInt64 &&& 63)) ||| 0) <<< ((1 : Int32).toInt64 &&& 63)) ||| 0) <<< ((3 : Int32).toInt64 &&& 63)) ||| 0) <<< ((1 : Int32).toInt64 &&& 63)) ||| 0) = u) (mw cy a)) := by
  refine Ct.ofZ RX12 "told" [(0, .ref (a 0))] rfl rfl rfl rfl (Nat.le_of_ble_eq_true rfl) ?_
  intro p e R s m args below meth c A b
  refine z_aload_n b dX12_told_0 rfl rfl ?_
  refine z_aload_n b dX12_told_1 rfl rfl ?_
  refine z_calll b (z_runV (q0 := 0) (As := []) (st := [.ref (a 0)]) b (c_X12_packs_6 S h_i_0 h_a_0_0 h_a_2_0 h_a_3_1 h_a_1_1 h_a_4_1 h_a_1_2 h_a_4_2 h_a_0_1 h_a_2_1 h_a_3_5 h_a_1_5 h_a_4_5 h_a_1_3 h_a_4_3 h_a_0_2 h_a_3_6 h_a_1_6 h_a_4_6 h_a_1_7 h_a_4_7) cf_X12_packs (mw_0 cy a S) rfl wm_X12_149 wi_X12_packs ws_X12_packs dX12_told_2 rfl (Nat.le_of_ble_eq_true rfl) ⟨by decide, by decide, by decide, by decide⟩) (fun r673 u674 h672 => ?_)
  obtain ⟨rfl, rfl⟩ := h672
  refine z_put (q0 := 0) (k9 := 6) tyX12 b (mw_0 cy a S) rfl in_X12 tyX12_ok nmX12 (by decide) wf_X12_153 rfl rfl rfl rfl (Nat.le_of_ble_eq_true rfl) dX12_told_5 (mwp_0_6 cy a S (((((((((((3221323776 ||| ((ar S 2 2) : Int32).toInt64) <<< ((1 : Int32).toInt64 &&& 63)) ||| 0) <<< ((3 : Int32).toInt64 &&& 63)) ||| 0) <<< ((1 : Int32).toInt64 &&& 63)) ||| 0) <<< ((3 : Int32).toInt64 &&& 63)) ||| 0) <<< ((1 : Int32).toInt64 &&& 63)) ||| 0)) ?_
  refine z_iconst (v := 1) b dX12_told_8 (by decide) ?_
  exact z_zret (u := (sl S 0 (((((((((((3221323776 ||| ((ar S 2 2) : Int32).toInt64) <<< ((1 : Int32).toInt64 &&& 63)) ||| 0) <<< ((3 : Int32).toInt64 &&& 63)) ||| 0) <<< ((1 : Int32).toInt64 &&& 63)) ||| 0) <<< ((3 : Int32).toInt64 &&& 63)) ||| 0) <<< ((1 : Int32).toInt64 &&& 63)) ||| 0))) b rfl (by decide) dX12_told_9 ⟨rfl, rfl⟩ rfl (by decide) (by decide)

set_option maxHeartbeats 4000000 in
set_option maxRecDepth 100000 in
theorem c_X12_owner_10 {l : Launch} {D : va_G} {cy : Nat → ClassId} {T0 tB tE : Nat} {a : Nat → Nat} (S : GS) (p0 : Int32) (h_l_0 : fl S 0 = 1649317774848) (h_a_4_7 : ar S 4 7 = 0) (h_a_1_7 : ar S 1 7 = 0) (h_a_4_6 : ar S 4 6 = 0) (h_a_1_6 : ar S 1 6 = 0) (h_a_3_6 : ar S 3 6 = 0) (h_a_3_2 : ar S 3 2 = 0) (h_a_2_2 : ar S 2 2 = 3) (h_a_0_2 : ar S 0 2 = 0) (h_a_4_3 : ar S 4 3 = 0) (h_a_1_3 : ar S 1 3 = 0) (h_a_4_5 : ar S 4 5 = 0) (h_a_1_5 : ar S 1 5 = 0) (h_a_3_5 : ar S 3 5 = 0) (h_a_3_7 : ar S 3 7 = 0) (h_a_2_1 : ar S 2 1 = 3) (h_a_0_1 : ar S 0 1 = 0) (h_a_4_2 : ar S 4 2 = 0) (h_a_1_2 : ar S 1 2 = 0) (h_a_4_1 : ar S 4 1 = 0) (h_a_1_1 : ar S 1 1 = 0) (h_a_3_1 : ar S 3 1 = 0) (h_a_3_3 : ar S 3 3 = 0) (h_a_2_0 : ar S 2 0 = 3) (h_a_0_0 : ar S 0 0 = 0) (h_i_0 : fi S 0 = 0) (hr_p0 : 0 ≤ p0.toInt ∧ p0.toInt ≤ 3) : Ct l D cy T0 tB tE yX12_owner cX12_owner 3 (some .boolean) 3 65 0 0 (mw cy a S) [.ref (a 0), .int 2, .int p0] (QI D (U := GS) (fun r u => 1 = r ∧ sl (su S 2 2 p0) 0 (((((((((((3221323776 ||| ((ar (su S 2 2 p0) 2 2) : Int32).toInt64) <<< ((1 : Int32).toInt64 &&& 63)) ||| 0) <<< ((3 : Int32).toInt64 &&& 63)) ||| 0) <<< ((1 : Int32).toInt64 &&& 63)) ||| 0) <<< ((3 : Int32).toInt64 &&& 63)) ||| 0) <<< ((1 : Int32).toInt64 &&& 63)) ||| 0) = u) (mw cy a)) := by
  refine Ct.ofZ RX12 "owner" [(0, .ref (a 0)), (1, .int 2), (2, .int p0)] rfl rfl rfl rfl (Nat.le_of_ble_eq_true rfl) ?_
  intro p e R s m args below meth c A b
  refine z_iload_n b dX12_owner_0 rfl rfl ?_
  refine z_calli b (z_runS (As := [.int 2]) (st := []) b (c_X12_isOne_5 S ) cf_X12_isOne wm_X12_170 ws_X12_isOne dX12_owner_1 rfl (Nat.le_of_ble_eq_true rfl) ⟨by decide, by decide, by decide, by decide⟩) (fun r619 u620 h618 => ?_)
  obtain ⟨rfl, rfl⟩ := h618
  refine z_if_eq_f (tgt := 16) b dX12_owner_4 (by decide) (by decide) ?_
  refine z_iload_n b dX12_owner_7 rfl rfl ?_
  refine z_iconst (v := 0) b dX12_owner_8 (by decide) ?_
  refine z_iconst (v := 3) b dX12_owner_9 (by decide) ?_
  refine z_calli b (z_runS (As := [.int p0, .int 0, .int 3]) (st := []) b (c_X12_isIn_10 S p0 ⟨by omega, by omega⟩) cf_X12_isIn wm_X12_1 ws_X12_isIn dX12_owner_10 rfl (Nat.le_of_ble_eq_true rfl) ⟨by decide, by decide, by decide, by decide⟩) (fun r622 u623 h621 => ?_)
  obtain ⟨rfl, rfl⟩ := h621
  refine z_if_ne_t (tgt := 18) b dX12_owner_13 (by decide) (by decide) ?_
  refine z_aload_n b dX12_owner_18 rfl rfl ?_
  refine z_aload_n b dX12_owner_19 rfl rfl ?_
  refine z_get (q0 := 0) (k9 := 6) (v := .long (fl S 0)) b (mw_0 cy a S) rfl in_X12 (by decide) wf_X12_153 rfl dX12_owner_20 ?_
  refine z_eql h_l_0 ?_
  refine z_callv b (z_runV (q0 := 0) (As := [.long 1649317774848]) (st := []) b (c_X12_takes S h_a_4_7 h_a_1_7 h_a_4_6 h_a_1_6 h_a_3_6 h_a_3_2 h_a_2_2 h_a_0_2 h_a_4_3 h_a_1_3 h_a_4_5 h_a_1_5 h_a_3_5 h_a_3_7 h_a_2_1 h_a_0_1 h_a_4_2 h_a_1_2 h_a_4_1 h_a_1_1 h_a_3_1 h_a_3_3 h_a_2_0 h_a_0_0 h_i_0) cf_X12_takes (mw_0 cy a S) rfl wm_X12_174 wi_X12_takes ws_X12_takes dX12_owner_23 rfl (Nat.le_of_ble_eq_true rfl) ⟨by decide, by decide, by decide, by decide⟩) (fun u626 h624 => ?_)
  obtain rfl := h624
  refine z_aload_n b dX12_owner_26 rfl rfl ?_
  refine z_get (q0 := 0) (k9 := 2) (v := .ref (a 3)) b (mw_0 cy a S) rfl in_X12 (by decide) wf_X12_20 rfl dX12_owner_27 ?_
  refine z_iload_n b dX12_owner_30 rfl rfl ?_
  refine z_iload_n b dX12_owner_31 rfl rfl ?_
  refine y_iast (q0 := 3) (j := 2) b (mw_3 cy a S) (by decide) dX12_owner_32 (mwa_3 cy a S 2 p0) ?_
  refine z_aload_n b dX12_owner_33 rfl rfl ?_
  refine z_calli b (z_runV (q0 := 0) (As := []) (st := []) b (c_X12_told_6 (su S 2 2 p0) h_i_0 h_a_0_0 h_a_2_0 h_a_3_1 h_a_1_1 h_a_4_1 h_a_1_2 h_a_4_2 h_a_0_1 h_a_2_1 h_a_3_5 h_a_1_5 h_a_4_5 h_a_1_3 h_a_4_3 h_a_0_2 h_a_3_6 h_a_1_6 h_a_4_6 h_a_1_7 h_a_4_7) cf_X12_told (mw_0 cy a (su S 2 2 p0)) rfl wm_X12_178 wi_X12_told ws_X12_told dX12_owner_34 rfl (Nat.le_of_ble_eq_true rfl) ⟨by decide, by decide, by decide, by decide⟩) (fun r676 u677 h675 => ?_)
  obtain ⟨rfl, rfl⟩ := h675
  exact z_zret (u := (sl (su S 2 2 p0) 0 (((((((((((3221323776 ||| ((ar (su S 2 2 p0) 2 2) : Int32).toInt64) <<< ((1 : Int32).toInt64 &&& 63)) ||| 0) <<< ((3 : Int32).toInt64 &&& 63)) ||| 0) <<< ((1 : Int32).toInt64 &&& 63)) ||| 0) <<< ((3 : Int32).toInt64 &&& 63)) ||| 0) <<< ((1 : Int32).toInt64 &&& 63)) ||| 0))) b rfl (by decide) dX12_owner_37 ⟨rfl, rfl⟩ rfl (by decide) (by decide)

set_option maxHeartbeats 4000000 in
set_option maxRecDepth 100000 in
theorem c_X11_owner_11 {l : Launch} {D : va_G} {cy : Nat → ClassId} {T0 tB tE : Nat} {a : Nat → Nat} {rw : Nat → Option Nat} (S : GS) (p0 : Int32)  (hr_p0 : 4 ≤ p0.toInt ∧ p0.toInt ≤ 2147483647) : Ct l D cy T0 tB tE yX11_owner cX11_owner 3 (some .boolean) 1 21 0 0 (cw cy tE a rw S) [.ref (a 0), .int 2, .int p0] (QI D (U := GS) (fun r u => 0 = r ∧ S = u) (cw cy tE a rw)) := by
  refine Ct.ofZ RX11 "owner" [(0, .ref (a 0)), (1, .int 2), (2, .int p0)] rfl rfl rfl rfl (Nat.le_of_ble_eq_true rfl) ?_
  intro p e R s m args below meth c A b
  refine z_iload_n b dX11_owner_0 rfl rfl ?_
  refine z_calli b (z_runS (As := [.int 2]) (st := []) b (c_X11_isThing_5 S ) cf_X11_isThing wm_X11_87 ws_X11_isThing dX11_owner_1 rfl (Nat.le_of_ble_eq_true rfl) ⟨by decide, by decide, by decide, by decide⟩) (fun r679 u680 h678 => ?_)
  obtain ⟨rfl, rfl⟩ := h678
  refine z_if_eq_f (tgt := 15) b dX11_owner_4 (by decide) (by decide) ?_
  refine z_iload_n b dX11_owner_7 rfl rfl ?_
  refine z_iconst (v := 3) b dX11_owner_8 (by decide) ?_
  refine z_calli b (z_runS (As := [.int p0, .int 3]) (st := []) b (c_X11_isWithin_6 S p0 ⟨by omega, by omega⟩) cf_X11_isWithin wm_X11_73 ws_X11_isWithin dX11_owner_9 rfl (Nat.le_of_ble_eq_true rfl) ⟨by decide, by decide, by decide, by decide⟩) (fun r682 u683 h681 => ?_)
  obtain ⟨rfl, rfl⟩ := h681
  refine z_if_ne_f (tgt := 17) b dX11_owner_12 (by decide) (by decide) ?_
  refine z_iconst (v := 0) b dX11_owner_15 (by decide) ?_
  exact z_zret (u := S) b rfl (by decide) dX11_owner_16 ⟨rfl, rfl⟩ rfl (by decide) (by decide)

set_option maxHeartbeats 4000000 in
set_option maxRecDepth 100000 in
theorem c_X12_owner_11 {l : Launch} {D : va_G} {cy : Nat → ClassId} {T0 tB tE : Nat} {a : Nat → Nat} (S : GS) (p0 : Int32)  (hr_p0 : 4 ≤ p0.toInt ∧ p0.toInt ≤ 2147483647) : Ct l D cy T0 tB tE yX12_owner cX12_owner 3 (some .boolean) 2 42 0 0 (mw cy a S) [.ref (a 0), .int 2, .int p0] (QI D (U := GS) (fun r u => 0 = r ∧ S = u) (mw cy a)) := by
  refine Ct.ofZ RX12 "owner" [(0, .ref (a 0)), (1, .int 2), (2, .int p0)] rfl rfl rfl rfl (Nat.le_of_ble_eq_true rfl) ?_
  intro p e R s m args below meth c A b
  refine z_iload_n b dX12_owner_0 rfl rfl ?_
  refine z_calli b (z_runS (As := [.int 2]) (st := []) b (c_X12_isOne_5 S ) cf_X12_isOne wm_X12_170 ws_X12_isOne dX12_owner_1 rfl (Nat.le_of_ble_eq_true rfl) ⟨by decide, by decide, by decide, by decide⟩) (fun r685 u686 h684 => ?_)
  obtain ⟨rfl, rfl⟩ := h684
  refine z_if_eq_f (tgt := 16) b dX12_owner_4 (by decide) (by decide) ?_
  refine z_iload_n b dX12_owner_7 rfl rfl ?_
  refine z_iconst (v := 0) b dX12_owner_8 (by decide) ?_
  refine z_iconst (v := 3) b dX12_owner_9 (by decide) ?_
  refine z_calli b (z_runS (As := [.int p0, .int 0, .int 3]) (st := []) b (c_X12_isIn_11 S p0 ⟨by omega, by omega⟩) cf_X12_isIn wm_X12_1 ws_X12_isIn dX12_owner_10 rfl (Nat.le_of_ble_eq_true rfl) ⟨by decide, by decide, by decide, by decide⟩) (fun r688 u689 h687 => ?_)
  obtain ⟨rfl, rfl⟩ := h687
  refine z_if_ne_f (tgt := 18) b dX12_owner_13 (by decide) (by decide) ?_
  refine z_iconst (v := 0) b dX12_owner_16 (by decide) ?_
  exact z_zret (u := S) b rfl (by decide) dX12_owner_17 ⟨rfl, rfl⟩ rfl (by decide) (by decide)

set_option maxHeartbeats 4000000 in
set_option maxRecDepth 100000 in
theorem c_X11_day {l : Launch} {D : va_G} {cy : Nat → ClassId} {T0 tB tE : Nat} {a : Nat → Nat} {rw : Nat → Option Nat} (S : GS) (p0 : Int32)  (hr_p0 : (-2147483648) ≤ p0.toInt ∧ p0.toInt ≤ (-1)) : Ct l D cy T0 tB tE yX11_day cX11_day 2 (some .boolean) 1 21 0 0 (cw cy tE a rw S) [.ref (a 0), .int p0] (QI D (U := GS) (fun r u => 0 = r ∧ S = u) (cw cy tE a rw)) := by
  refine Ct.ofZ RX11 "day" [(0, .ref (a 0)), (1, .int p0)] rfl rfl rfl rfl (Nat.le_of_ble_eq_true rfl) ?_
  intro p e R s m args below meth c A b
  refine z_iload_n b dX11_day_0 rfl rfl ?_
  refine z_bipush (v := 15) b dX11_day_1 (by decide) ?_
  refine z_calli b (z_runS (As := [.int p0, .int 15]) (st := []) b (c_X11_isWithin S p0 ⟨by omega, by omega⟩) cf_X11_isWithin wm_X11_73 ws_X11_isWithin dX11_day_3 rfl (Nat.le_of_ble_eq_true rfl) ⟨by decide, by decide, by decide, by decide⟩) (fun r691 u692 h690 => ?_)
  obtain ⟨rfl, rfl⟩ := h690
  refine z_if_ne_f (tgt := 11) b dX11_day_6 (by decide) (by decide) ?_
  refine z_iconst (v := 0) b dX11_day_9 (by decide) ?_
  exact z_zret (u := S) b rfl (by decide) dX11_day_10 ⟨rfl, rfl⟩ rfl (by decide) (by decide)

set_option maxHeartbeats 4000000 in
set_option maxRecDepth 100000 in
theorem c_X12_day {l : Launch} {D : va_G} {cy : Nat → ClassId} {T0 tB tE : Nat} {a : Nat → Nat} (S : GS) (p0 : Int32)  (hr_p0 : (-2147483648) ≤ p0.toInt ∧ p0.toInt ≤ (-1)) : Ct l D cy T0 tB tE yX12_day cX12_day 2 (some .boolean) 1 22 0 0 (mw cy a S) [.ref (a 0), .int p0] (QI D (U := GS) (fun r u => 0 = r ∧ S = u) (mw cy a)) := by
  refine Ct.ofZ RX12 "day" [(0, .ref (a 0)), (1, .int p0)] rfl rfl rfl rfl (Nat.le_of_ble_eq_true rfl) ?_
  intro p e R s m args below meth c A b
  refine z_iload_n b dX12_day_0 rfl rfl ?_
  refine z_iconst (v := 0) b dX12_day_1 (by decide) ?_
  refine z_bipush (v := 15) b dX12_day_2 (by decide) ?_
  refine z_calli b (z_runS (As := [.int p0, .int 0, .int 15]) (st := []) b (c_X12_isIn_4 S p0 ⟨by omega, by omega⟩) cf_X12_isIn wm_X12_1 ws_X12_isIn dX12_day_4 rfl (Nat.le_of_ble_eq_true rfl) ⟨by decide, by decide, by decide, by decide⟩) (fun r694 u695 h693 => ?_)
  obtain ⟨rfl, rfl⟩ := h693
  refine z_if_ne_f (tgt := 12) b dX12_day_7 (by decide) (by decide) ?_
  refine z_iconst (v := 0) b dX12_day_10 (by decide) ?_
  exact z_zret (u := S) b rfl (by decide) dX12_day_11 ⟨rfl, rfl⟩ rfl (by decide) (by decide)

set_option maxHeartbeats 4000000 in
set_option maxRecDepth 100000 in
theorem c_X9_set_7 {l : Launch} {D : va_G} {cy : Nat → ClassId} {T0 tB tE : Nat} {a : Nat → Nat} {rw : Nat → Option Nat} (S : GS) (p0 : Int32)  (hr_p0 : 0 ≤ p0.toInt ∧ p0.toInt ≤ 15) : Ct l D cy T0 tB tE yX9_set cX9_set 3 none 0 0 0 0 (cw cy tE a rw S) [.ref (a 14), .int 50, .int p0] (QV D (U := GS) (fun u => su S 4 50 p0 = u) (cw cy tE a rw)) := by
  refine Ct.ofZ RX9 "set" [(0, .ref (a 14)), (1, .int 50), (2, .int p0)] rfl rfl rfl rfl (Nat.le_of_ble_eq_true rfl) ?_
  intro p e R s m args below meth c A b
  refine z_iload_n b dX9_set_0 rfl rfl ?_
  refine z_if_lt_f (tgt := 20) b dX9_set_1 (by decide) (by decide) ?_
  refine z_iload_n b dX9_set_4 rfl rfl ?_
  refine z_aload_n b dX9_set_5 rfl rfl ?_
  refine z_get (q0 := 14) (k9 := 0) (v := .ref (a 15)) b (cw_14 cy tE a rw S) rfl in_X9 (by decide) wf_X9_11 rfl dX9_set_6 ?_
  refine z_alen (q0 := 15) (t0 := 0) (v := 51) b (cw_15 cy tE a rw S) rfl rfl dX9_set_9 ?_
  refine z_icmp_ge_f (tgt := 20) b dX9_set_10 (by decide) (by decide) ?_
  refine z_aload_n b dX9_set_13 rfl rfl ?_
  refine z_get (q0 := 14) (k9 := 0) (v := .ref (a 15)) b (cw_14 cy tE a rw S) rfl in_X9 (by decide) wf_X9_11 rfl dX9_set_14 ?_
  refine z_iload_n b dX9_set_17 rfl rfl ?_
  refine z_iload_n b dX9_set_18 rfl rfl ?_
  refine y_iast (q0 := 15) (j := 50) b (cw_15 cy tE a rw S) (by decide) dX9_set_19 (cwa_15 cy tE a rw S 50 p0) ?_
  exact z_vret (u := (su S 4 50 p0)) b rfl dX9_set_20 rfl rfl (by decide) (by decide)

set_option maxHeartbeats 4000000 in
set_option maxRecDepth 100000 in
theorem c_X11_day_2 {l : Launch} {D : va_G} {cy : Nat → ClassId} {T0 tB tE : Nat} {a : Nat → Nat} {rw : Nat → Option Nat} (S : GS) (p0 : Int32) (h_i_24 : fi S 24 = 0) (hr_p0 : 0 ≤ p0.toInt ∧ p0.toInt ≤ 15) : Ct l D cy T0 tB tE yX11_day cX11_day 2 (some .boolean) 1 22 0 0 (cw cy tE a rw S) [.ref (a 0), .int p0] (QI D (U := GS) (fun r u => 1 = r ∧ (su S 4 50 p0) = u) (cw cy tE a rw)) := by
  refine Ct.ofZ RX11 "day" [(0, .ref (a 0)), (1, .int p0)] rfl rfl rfl rfl (Nat.le_of_ble_eq_true rfl) ?_
  intro p e R s m args below meth c A b
  refine z_iload_n b dX11_day_0 rfl rfl ?_
  refine z_bipush (v := 15) b dX11_day_1 (by decide) ?_
  refine z_calli b (z_runS (As := [.int p0, .int 15]) (st := []) b (c_X11_isWithin_2 S p0 ⟨by omega, by omega⟩) cf_X11_isWithin wm_X11_73 ws_X11_isWithin dX11_day_3 rfl (Nat.le_of_ble_eq_true rfl) ⟨by decide, by decide, by decide, by decide⟩) (fun r697 u698 h696 => ?_)
  obtain ⟨rfl, rfl⟩ := h696
  refine z_if_ne_t (tgt := 11) b dX11_day_6 (by decide) (by decide) ?_
  refine z_aload_n b dX11_day_11 rfl rfl ?_
  refine z_get (q0 := 0) (k9 := 4) (v := .ref (a 14)) b (cw_0 cy tE a rw S) rfl in_X11 (by decide) wf_X11_34 rfl dX11_day_12 ?_
  refine z_bipush (v := 50) b dX11_day_15 (by decide) ?_
  refine z_iload_n b dX11_day_17 rfl rfl ?_
  refine z_callv b (z_runV (q0 := 14) (As := [.int 50, .int p0]) (st := []) b (c_X9_set_7 S p0 ⟨by omega, by omega⟩) cf_X9_set (cw_14 cy tE a rw S) rfl wm_X11_77 wi_X9_set ws_X9_set dX11_day_18 rfl (Nat.le_of_ble_eq_true rfl) ⟨by decide, by decide, by decide, by decide⟩) (fun u701 h699 => ?_)
  obtain rfl := h699
  refine z_aload_n b dX11_day_21 rfl rfl ?_
  refine z_get (q0 := 0) (k9 := 6) (v := .ref (a 25)) b (cw_0 cy tE a rw (su S 4 50 p0)) rfl in_X11 (by decide) wf_X11_52 rfl dX11_day_22 ?_
  refine z_callv b (z_runV (q0 := 25) (As := []) (st := []) b (c_X8_forget (su S 4 50 p0) h_i_24) cf_X8_forget (cw_25 cy tE a rw (su S 4 50 p0)) rfl wm_X11_81 wi_X8_forget ws_X8_forget dX11_day_25 rfl (Nat.le_of_ble_eq_true rfl) ⟨by decide, by decide, by decide, by decide⟩) (fun u704 h702 => ?_)
  obtain rfl := h702
  refine z_iconst (v := 1) b dX11_day_28 (by decide) ?_
  exact z_zret (u := (su S 4 50 p0)) b rfl (by decide) dX11_day_29 ⟨rfl, rfl⟩ rfl (by decide) (by decide)

set_option maxHeartbeats 4000000 in
set_option maxRecDepth 100000 in
theorem ch_X12_packs_16 {p : Program} {l : Launch} {e : Env} {R : Room} {s : State} {m : MethodId} {args : Array Value} {below : List Frame} {meth : Method} {c : Code} {D : va_G} {cy : Nat → ClassId} {T0 tB tE : Nat} {A : Nat → Prop} {Q : State → Prop} {a : Nat → Nat} (S : GS)  (h_a_0_0 : ar S 0 0 = 0) (h_a_0_1 : ar S 0 1 = 0) (h_a_1_1 : ar S 1 1 = 0) (h_a_1_2 : ar S 1 2 = 0) (h_a_2_0 : ar S 2 0 = 3) (h_a_3_1 : ar S 3 1 = 0) (h_a_4_1 : ar S 4 1 = 0) (h_a_4_2 : ar S 4 2 = 0) (b : Bz p R s m args meth c D cy T0 tB tE A 5 cX12_packs RX12 (some .long) "packs" 1 21 0 0) (k : Z p l e R s m args below meth c D A 5 Q 0 0 (mw cy a S) [(3, .int 1), (4, .int 2), (1, .long ((((((((((((((((fi S 0) : Int32).toInt64 <<< ((4 : Int32).toInt64 &&& 63)) ||| 0) <<< ((2 : Int32).toInt64 &&& 63)) ||| 3) <<< ((1 : Int32).toInt64 &&& 63)) ||| 0) <<< ((3 : Int32).toInt64 &&& 63)) ||| 0) <<< ((1 : Int32).toInt64 &&& 63)) ||| 0) <<< ((3 : Int32).toInt64 &&& 63)) ||| 0) <<< ((1 : Int32).toInt64 &&& 63)) ||| 0)), (0, .ref (a 0))] 22 [.int 0, .long (((((((((((((((((fi S 0) : Int32).toInt64 <<< ((4 : Int32).toInt64 &&& 63)) ||| 0) <<< ((2 : Int32).toInt64 &&& 63)) ||| 3) <<< ((1 : Int32).toInt64 &&& 63)) ||| 0) <<< ((3 : Int32).toInt64 &&& 63)) ||| 0) <<< ((1 : Int32).toInt64 &&& 63)) ||| 0) <<< ((3 : Int32).toInt64 &&& 63)) ||| 0) <<< ((1 : Int32).toInt64 &&& 63)) ||| 0) <<< ((4 : Int32).toInt64 &&& 63))]) : Z p l e R s m args below meth c D A 5 Q 0 0 (mw cy a S) [(0, .ref (a 0))] 0 [] := by
  refine z_aload_n b dX12_packs_0 rfl rfl ?_
  refine z_get (q0 := 0) (k9 := 5) (v := .int (fi S 0)) b (mw_0 cy a S) rfl in_X12 (by decide) wf_X12_157 rfl dX12_packs_1 ?_
  refine z_i2l b dX12_packs_4 rfl ?_
  refine z_lstore_n (lv' := [(1, .long ((fi S 0) : Int32).toInt64), (0, .ref (a 0))]) b dX12_packs_5 rfl (by decide) rfl ?_
  refine z_iconst (v := 0) b dX12_packs_6 (by decide) ?_
  refine z_istore_n (lv' := [(3, .int 0), (1, .long ((fi S 0) : Int32).toInt64), (0, .ref (a 0))]) b dX12_packs_7 rfl (by decide) rfl ?_
  refine z_iload_n b dX12_packs_8 rfl rfl ?_
  refine z_iconst (v := 3) b dX12_packs_9 (by decide) ?_
  refine z_icmp_ge_f (tgt := 134) b dX12_packs_10 (by decide) (by decide) ?_
  refine z_lload_n b dX12_packs_13 rfl rfl ?_
  refine z_iconst (v := 4) b dX12_packs_14 (by decide) ?_
  refine z_lshl b dX12_packs_15 rfl ?_
  refine z_aload_n b dX12_packs_16 rfl rfl ?_
  refine z_get (q0 := 0) (k9 := 0) (v := .ref (a 1)) b (mw_0 cy a S) rfl in_X12 (by decide) wf_X12_13 rfl dX12_packs_17 ?_
  refine z_iload_n b dX12_packs_20 rfl rfl ?_
  refine y_iald (q0 := 1) (j := 0) (v := (ar S 0 0)) b (mw_1 cy a S) (by decide) rfl dX12_packs_21 ?_
  refine z_eqi h_a_0_0 ?_
  refine z_i2l (v := 0) b dX12_packs_22 (by decide) ?_
  refine z_lor b dX12_packs_23 rfl ?_
  refine z_lstore_n (lv' := [(1, .long ((((fi S 0) : Int32).toInt64 <<< ((4 : Int32).toInt64 &&& 63)) ||| 0)), (3, .int 0), (0, .ref (a 0))]) b dX12_packs_24 rfl (by decide) rfl ?_
  refine z_lload_n b dX12_packs_25 rfl rfl ?_
  refine z_iconst (v := 2) b dX12_packs_26 (by decide) ?_
  refine z_lshl b dX12_packs_27 rfl ?_
  refine z_aload_n b dX12_packs_28 rfl rfl ?_
  refine z_get (q0 := 0) (k9 := 2) (v := .ref (a 3)) b (mw_0 cy a S) rfl in_X12 (by decide) wf_X12_20 rfl dX12_packs_29 ?_
  refine z_iload_n b dX12_packs_32 rfl rfl ?_
  refine y_iald (q0 := 3) (j := 0) (v := (ar S 2 0)) b (mw_3 cy a S) (by decide) rfl dX12_packs_33 ?_
  refine z_eqi h_a_2_0 ?_
  refine z_i2l (v := 3) b dX12_packs_34 (by decide) ?_
  refine z_lor b dX12_packs_35 rfl ?_
  refine z_lstore_n (lv' := [(1, .long ((((((fi S 0) : Int32).toInt64 <<< ((4 : Int32).toInt64 &&& 63)) ||| 0) <<< ((2 : Int32).toInt64 &&& 63)) ||| 3)), (3, .int 0), (0, .ref (a 0))]) b dX12_packs_36 rfl (by decide) rfl ?_
  refine z_lload_n b dX12_packs_37 rfl rfl ?_
  refine z_iconst (v := 1) b dX12_packs_38 (by decide) ?_
  refine z_lshl b dX12_packs_39 rfl ?_
  refine z_aload_n b dX12_packs_40 rfl rfl ?_
  refine z_get (q0 := 0) (k9 := 3) (v := .ref (a 4)) b (mw_0 cy a S) rfl in_X12 (by decide) wf_X12_23 rfl dX12_packs_41 ?_
  refine z_iconst (v := 3) b dX12_packs_44 (by decide) ?_
  refine z_iload_n b dX12_packs_45 rfl rfl ?_
  refine z_imul (v := 0) b dX12_packs_46 (by decide) ?_
  refine z_iload_n b dX12_packs_47 rfl rfl ?_
  refine z_iconst (v := 0) b dX12_packs_48 (by decide) ?_
  refine z_calli b (z_runS (As := [.int 0, .int 0]) (st := [.int 0, .ref (a 4), .long (((((((fi S 0) : Int32).toInt64 <<< ((4 : Int32).toInt64 &&& 63)) ||| 0) <<< ((2 : Int32).toInt64 &&& 63)) ||| 3) <<< ((1 : Int32).toInt64 &&& 63))]) b (c_X12_other_6 S ) cf_X12_other wm_X12_160 ws_X12_other dX12_packs_49 rfl (Nat.le_of_ble_eq_true rfl) ⟨by decide, by decide, by decide, by decide⟩) (fun r712 u713 h711 => ?_)
  obtain ⟨rfl, rfl⟩ := h711
  refine z_iadd (v := 1) b dX12_packs_52 (by decide) ?_
  refine y_zald (q0 := 4) (j := 1) (v := (ar S 3 1)) b (mw_4 cy a S) (by decide) rfl dX12_packs_53 ?_
  refine z_eqi h_a_3_1 ?_
  refine z_if_eq_t (tgt := 61) b dX12_packs_54 (by decide) (by decide) ?_
  refine z_lconst (v := 0) b dX12_packs_61 (by decide) ?_
  refine z_lor b dX12_packs_62 rfl ?_
  refine z_lstore_n (lv' := [(1, .long ((((((((fi S 0) : Int32).toInt64 <<< ((4 : Int32).toInt64 &&& 63)) ||| 0) <<< ((2 : Int32).toInt64 &&& 63)) ||| 3) <<< ((1 : Int32).toInt64 &&& 63)) ||| 0)), (3, .int 0), (0, .ref (a 0))]) b dX12_packs_63 rfl (by decide) rfl ?_
  refine z_iconst (v := 0) b dX12_packs_64 (by decide) ?_
  refine z_istore (lv' := [(4, .int 0), (1, .long ((((((((fi S 0) : Int32).toInt64 <<< ((4 : Int32).toInt64 &&& 63)) ||| 0) <<< ((2 : Int32).toInt64 &&& 63)) ||| 3) <<< ((1 : Int32).toInt64 &&& 63)) ||| 0)), (3, .int 0), (0, .ref (a 0))]) b dX12_packs_65 (by decide) rfl ?_
  refine z_iload b dX12_packs_67 rfl ?_
  refine z_iconst (v := 2) b dX12_packs_69 (by decide) ?_
  refine z_icmp_ge_f (tgt := 128) b dX12_packs_70 (by decide) (by decide) ?_
  refine z_lload_n b dX12_packs_73 rfl rfl ?_
  refine z_iconst (v := 3) b dX12_packs_74 (by decide) ?_
  refine z_lshl b dX12_packs_75 rfl ?_
  refine z_aload_n b dX12_packs_76 rfl rfl ?_
  refine z_get (q0 := 0) (k9 := 1) (v := .ref (a 2)) b (mw_0 cy a S) rfl in_X12 (by decide) wf_X12_17 rfl dX12_packs_77 ?_
  refine z_iconst (v := 3) b dX12_packs_80 (by decide) ?_
  refine z_iload_n b dX12_packs_81 rfl rfl ?_
  refine z_imul (v := 0) b dX12_packs_82 (by decide) ?_
  refine z_iload_n b dX12_packs_83 rfl rfl ?_
  refine z_iload b dX12_packs_84 rfl ?_
  refine z_calli b (z_runS (As := [.int 0, .int 0]) (st := [.int 0, .ref (a 2), .long (((((((((fi S 0) : Int32).toInt64 <<< ((4 : Int32).toInt64 &&& 63)) ||| 0) <<< ((2 : Int32).toInt64 &&& 63)) ||| 3) <<< ((1 : Int32).toInt64 &&& 63)) ||| 0) <<< ((3 : Int32).toInt64 &&& 63))]) b (c_X12_other_6 S ) cf_X12_other wm_X12_160 ws_X12_other dX12_packs_86 rfl (Nat.le_of_ble_eq_true rfl) ⟨by decide, by decide, by decide, by decide⟩) (fun r715 u716 h714 => ?_)
  obtain ⟨rfl, rfl⟩ := h714
  refine z_iadd (v := 1) b dX12_packs_89 (by decide) ?_
  refine y_iald (q0 := 2) (j := 1) (v := (ar S 1 1)) b (mw_2 cy a S) (by decide) rfl dX12_packs_90 ?_
  refine z_eqi h_a_1_1 ?_
  refine z_i2l (v := 0) b dX12_packs_91 (by decide) ?_
  refine z_lor b dX12_packs_92 rfl ?_
  refine z_lstore_n (lv' := [(1, .long ((((((((((fi S 0) : Int32).toInt64 <<< ((4 : Int32).toInt64 &&& 63)) ||| 0) <<< ((2 : Int32).toInt64 &&& 63)) ||| 3) <<< ((1 : Int32).toInt64 &&& 63)) ||| 0) <<< ((3 : Int32).toInt64 &&& 63)) ||| 0)), (4, .int 0), (3, .int 0), (0, .ref (a 0))]) b dX12_packs_93 rfl (by decide) rfl ?_
  refine z_lload_n b dX12_packs_94 rfl rfl ?_
  refine z_iconst (v := 1) b dX12_packs_95 (by decide) ?_
  refine z_lshl b dX12_packs_96 rfl ?_
  refine z_aload_n b dX12_packs_97 rfl rfl ?_
  refine z_get (q0 := 0) (k9 := 4) (v := .ref (a 5)) b (mw_0 cy a S) rfl in_X12 (by decide) wf_X12_27 rfl dX12_packs_98 ?_
  refine z_iconst (v := 3) b dX12_packs_101 (by decide) ?_
  refine z_iload_n b dX12_packs_102 rfl rfl ?_
  refine z_imul (v := 0) b dX12_packs_103 (by decide) ?_
  refine z_iload_n b dX12_packs_104 rfl rfl ?_
  refine z_iload b dX12_packs_105 rfl ?_
  refine z_calli b (z_runS (As := [.int 0, .int 0]) (st := [.int 0, .ref (a 5), .long (((((((((((fi S 0) : Int32).toInt64 <<< ((4 : Int32).toInt64 &&& 63)) ||| 0) <<< ((2 : Int32).toInt64 &&& 63)) ||| 3) <<< ((1 : Int32).toInt64 &&& 63)) ||| 0) <<< ((3 : Int32).toInt64 &&& 63)) ||| 0) <<< ((1 : Int32).toInt64 &&& 63))]) b (c_X12_other_6 S ) cf_X12_other wm_X12_160 ws_X12_other dX12_packs_107 rfl (Nat.le_of_ble_eq_true rfl) ⟨by decide, by decide, by decide, by decide⟩) (fun r718 u719 h717 => ?_)
  obtain ⟨rfl, rfl⟩ := h717
  refine z_iadd (v := 1) b dX12_packs_110 (by decide) ?_
  refine y_zald (q0 := 5) (j := 1) (v := (ar S 4 1)) b (mw_5 cy a S) (by decide) rfl dX12_packs_111 ?_
  refine z_eqi h_a_4_1 ?_
  refine z_if_eq_t (tgt := 119) b dX12_packs_112 (by decide) (by decide) ?_
  refine z_lconst (v := 0) b dX12_packs_119 (by decide) ?_
  refine z_lor b dX12_packs_120 rfl ?_
  refine z_lstore_n (lv' := [(1, .long ((((((((((((fi S 0) : Int32).toInt64 <<< ((4 : Int32).toInt64 &&& 63)) ||| 0) <<< ((2 : Int32).toInt64 &&& 63)) ||| 3) <<< ((1 : Int32).toInt64 &&& 63)) ||| 0) <<< ((3 : Int32).toInt64 &&& 63)) ||| 0) <<< ((1 : Int32).toInt64 &&& 63)) ||| 0)), (4, .int 0), (3, .int 0), (0, .ref (a 0))]) b dX12_packs_121 rfl (by decide) rfl ?_
  refine z_iinc (k9 := 1) (v := 1) (lv' := [(4, .int 1), (1, .long ((((((((((((fi S 0) : Int32).toInt64 <<< ((4 : Int32).toInt64 &&& 63)) ||| 0) <<< ((2 : Int32).toInt64 &&& 63)) ||| 3) <<< ((1 : Int32).toInt64 &&& 63)) ||| 0) <<< ((3 : Int32).toInt64 &&& 63)) ||| 0) <<< ((1 : Int32).toInt64 &&& 63)) ||| 0)), (3, .int 0), (0, .ref (a 0))]) b dX12_packs_122 rfl (by decide) (by decide) rfl ?_
  refine z_goto (tgt := 67) b dX12_packs_125 (by decide) ?_
  refine z_iload b dX12_packs_67 rfl ?_
  refine z_iconst (v := 2) b dX12_packs_69 (by decide) ?_
  refine z_icmp_ge_f (tgt := 128) b dX12_packs_70 (by decide) (by decide) ?_
  refine z_lload_n b dX12_packs_73 rfl rfl ?_
  refine z_iconst (v := 3) b dX12_packs_74 (by decide) ?_
  refine z_lshl b dX12_packs_75 rfl ?_
  refine z_aload_n b dX12_packs_76 rfl rfl ?_
  refine z_get (q0 := 0) (k9 := 1) (v := .ref (a 2)) b (mw_0 cy a S) rfl in_X12 (by decide) wf_X12_17 rfl dX12_packs_77 ?_
  refine z_iconst (v := 3) b dX12_packs_80 (by decide) ?_
  refine z_iload_n b dX12_packs_81 rfl rfl ?_
  refine z_imul (v := 0) b dX12_packs_82 (by decide) ?_
  refine z_iload_n b dX12_packs_83 rfl rfl ?_
  refine z_iload b dX12_packs_84 rfl ?_
  refine z_calli b (z_runS (As := [.int 0, .int 1]) (st := [.int 0, .ref (a 2), .long (((((((((((((fi S 0) : Int32).toInt64 <<< ((4 : Int32).toInt64 &&& 63)) ||| 0) <<< ((2 : Int32).toInt64 &&& 63)) ||| 3) <<< ((1 : Int32).toInt64 &&& 63)) ||| 0) <<< ((3 : Int32).toInt64 &&& 63)) ||| 0) <<< ((1 : Int32).toInt64 &&& 63)) ||| 0) <<< ((3 : Int32).toInt64 &&& 63))]) b (c_X12_other_5 S ) cf_X12_other wm_X12_160 ws_X12_other dX12_packs_86 rfl (Nat.le_of_ble_eq_true rfl) ⟨by decide, by decide, by decide, by decide⟩) (fun r721 u722 h720 => ?_)
  obtain ⟨rfl, rfl⟩ := h720
  refine z_iadd (v := 2) b dX12_packs_89 (by decide) ?_
  refine y_iald (q0 := 2) (j := 2) (v := (ar S 1 2)) b (mw_2 cy a S) (by decide) rfl dX12_packs_90 ?_
  refine z_eqi h_a_1_2 ?_
  refine z_i2l (v := 0) b dX12_packs_91 (by decide) ?_
  refine z_lor b dX12_packs_92 rfl ?_
  refine z_lstore_n (lv' := [(1, .long ((((((((((((((fi S 0) : Int32).toInt64 <<< ((4 : Int32).toInt64 &&& 63)) ||| 0) <<< ((2 : Int32).toInt64 &&& 63)) ||| 3) <<< ((1 : Int32).toInt64 &&& 63)) ||| 0) <<< ((3 : Int32).toInt64 &&& 63)) ||| 0) <<< ((1 : Int32).toInt64 &&& 63)) ||| 0) <<< ((3 : Int32).toInt64 &&& 63)) ||| 0)), (4, .int 1), (3, .int 0), (0, .ref (a 0))]) b dX12_packs_93 rfl (by decide) rfl ?_
  refine z_lload_n b dX12_packs_94 rfl rfl ?_
  refine z_iconst (v := 1) b dX12_packs_95 (by decide) ?_
  refine z_lshl b dX12_packs_96 rfl ?_
  refine z_aload_n b dX12_packs_97 rfl rfl ?_
  refine z_get (q0 := 0) (k9 := 4) (v := .ref (a 5)) b (mw_0 cy a S) rfl in_X12 (by decide) wf_X12_27 rfl dX12_packs_98 ?_
  refine z_iconst (v := 3) b dX12_packs_101 (by decide) ?_
  refine z_iload_n b dX12_packs_102 rfl rfl ?_
  refine z_imul (v := 0) b dX12_packs_103 (by decide) ?_
  refine z_iload_n b dX12_packs_104 rfl rfl ?_
  refine z_iload b dX12_packs_105 rfl ?_
  refine z_calli b (z_runS (As := [.int 0, .int 1]) (st := [.int 0, .ref (a 5), .long (((((((((((((((fi S 0) : Int32).toInt64 <<< ((4 : Int32).toInt64 &&& 63)) ||| 0) <<< ((2 : Int32).toInt64 &&& 63)) ||| 3) <<< ((1 : Int32).toInt64 &&& 63)) ||| 0) <<< ((3 : Int32).toInt64 &&& 63)) ||| 0) <<< ((1 : Int32).toInt64 &&& 63)) ||| 0) <<< ((3 : Int32).toInt64 &&& 63)) ||| 0) <<< ((1 : Int32).toInt64 &&& 63))]) b (c_X12_other_5 S ) cf_X12_other wm_X12_160 ws_X12_other dX12_packs_107 rfl (Nat.le_of_ble_eq_true rfl) ⟨by decide, by decide, by decide, by decide⟩) (fun r724 u725 h723 => ?_)
  obtain ⟨rfl, rfl⟩ := h723
  refine z_iadd (v := 2) b dX12_packs_110 (by decide) ?_
  refine y_zald (q0 := 5) (j := 2) (v := (ar S 4 2)) b (mw_5 cy a S) (by decide) rfl dX12_packs_111 ?_
  refine z_eqi h_a_4_2 ?_
  refine z_if_eq_t (tgt := 119) b dX12_packs_112 (by decide) (by decide) ?_
  refine z_lconst (v := 0) b dX12_packs_119 (by decide) ?_
  refine z_lor b dX12_packs_120 rfl ?_
  refine z_lstore_n (lv' := [(1, .long ((((((((((((((((fi S 0) : Int32).toInt64 <<< ((4 : Int32).toInt64 &&& 63)) ||| 0) <<< ((2 : Int32).toInt64 &&& 63)) ||| 3) <<< ((1 : Int32).toInt64 &&& 63)) ||| 0) <<< ((3 : Int32).toInt64 &&& 63)) ||| 0) <<< ((1 : Int32).toInt64 &&& 63)) ||| 0) <<< ((3 : Int32).toInt64 &&& 63)) ||| 0) <<< ((1 : Int32).toInt64 &&& 63)) ||| 0)), (4, .int 1), (3, .int 0), (0, .ref (a 0))]) b dX12_packs_121 rfl (by decide) rfl ?_
  refine z_iinc (k9 := 1) (v := 2) (lv' := [(4, .int 2), (1, .long ((((((((((((((((fi S 0) : Int32).toInt64 <<< ((4 : Int32).toInt64 &&& 63)) ||| 0) <<< ((2 : Int32).toInt64 &&& 63)) ||| 3) <<< ((1 : Int32).toInt64 &&& 63)) ||| 0) <<< ((3 : Int32).toInt64 &&& 63)) ||| 0) <<< ((1 : Int32).toInt64 &&& 63)) ||| 0) <<< ((3 : Int32).toInt64 &&& 63)) ||| 0) <<< ((1 : Int32).toInt64 &&& 63)) ||| 0)), (3, .int 0), (0, .ref (a 0))]) b dX12_packs_122 rfl (by decide) (by decide) rfl ?_
  refine z_goto (tgt := 67) b dX12_packs_125 (by decide) ?_
  refine z_iload b dX12_packs_67 rfl ?_
  refine z_iconst (v := 2) b dX12_packs_69 (by decide) ?_
  refine z_icmp_ge_t (tgt := 128) b dX12_packs_70 (by decide) (by decide) ?_
  refine z_iinc (k9 := 2) (v := 1) (lv' := [(3, .int 1), (4, .int 2), (1, .long ((((((((((((((((fi S 0) : Int32).toInt64 <<< ((4 : Int32).toInt64 &&& 63)) ||| 0) <<< ((2 : Int32).toInt64 &&& 63)) ||| 3) <<< ((1 : Int32).toInt64 &&& 63)) ||| 0) <<< ((3 : Int32).toInt64 &&& 63)) ||| 0) <<< ((1 : Int32).toInt64 &&& 63)) ||| 0) <<< ((3 : Int32).toInt64 &&& 63)) ||| 0) <<< ((1 : Int32).toInt64 &&& 63)) ||| 0)), (0, .ref (a 0))]) b dX12_packs_128 rfl (by decide) (by decide) rfl ?_
  refine z_goto (tgt := 8) b dX12_packs_131 (by decide) ?_
  refine z_iload_n b dX12_packs_8 rfl rfl ?_
  refine z_iconst (v := 3) b dX12_packs_9 (by decide) ?_
  refine z_icmp_ge_f (tgt := 134) b dX12_packs_10 (by decide) (by decide) ?_
  refine z_lload_n b dX12_packs_13 rfl rfl ?_
  refine z_iconst (v := 4) b dX12_packs_14 (by decide) ?_
  refine z_lshl b dX12_packs_15 rfl ?_
  refine z_aload_n b dX12_packs_16 rfl rfl ?_
  refine z_get (q0 := 0) (k9 := 0) (v := .ref (a 1)) b (mw_0 cy a S) rfl in_X12 (by decide) wf_X12_13 rfl dX12_packs_17 ?_
  refine z_iload_n b dX12_packs_20 rfl rfl ?_
  refine y_iald (q0 := 1) (j := 1) (v := (ar S 0 1)) b (mw_1 cy a S) (by decide) rfl dX12_packs_21 ?_
  refine z_eqi h_a_0_1 ?_
  exact k

set_option maxHeartbeats 4000000 in
set_option maxRecDepth 100000 in
theorem ch_X12_packs_17 {p : Program} {l : Launch} {e : Env} {R : Room} {s : State} {m : MethodId} {args : Array Value} {below : List Frame} {meth : Method} {c : Code} {D : va_G} {cy : Nat → ClassId} {T0 tB tE : Nat} {A : Nat → Prop} {Q : State → Prop} {a : Nat → Nat} (S : GS)  (h_a_0_2 : ar S 0 2 = 0) (h_a_1_3 : ar S 1 3 = 0) (h_a_1_5 : ar S 1 5 = 0) (h_a_2_1 : ar S 2 1 = 3) (h_a_2_2 : ar S 2 2 = 3) (h_a_3_5 : ar S 3 5 = 0) (h_a_4_3 : ar S 4 3 = 0) (h_a_4_5 : ar S 4 5 = 0) (b : Bz p R s m args meth c D cy T0 tB tE A 5 cX12_packs RX12 (some .long) "packs" 1 21 0 0) (k : Z p l e R s m args below meth c D A 5 Q 0 0 (mw cy a S) [(1, .long ((((((((((((((((((((((((((((((((((fi S 0) : Int32).toInt64 <<< ((4 : Int32).toInt64 &&& 63)) ||| 0) <<< ((2 : Int32).toInt64 &&& 63)) ||| 3) <<< ((1 : Int32).toInt64 &&& 63)) ||| 0) <<< ((3 : Int32).toInt64 &&& 63)) ||| 0) <<< ((1 : Int32).toInt64 &&& 63)) ||| 0) <<< ((3 : Int32).toInt64 &&& 63)) ||| 0) <<< ((1 : Int32).toInt64 &&& 63)) ||| 0) <<< ((4 : Int32).toInt64 &&& 63)) ||| 0) <<< ((2 : Int32).toInt64 &&& 63)) ||| 3) <<< ((1 : Int32).toInt64 &&& 63)) ||| 0) <<< ((3 : Int32).toInt64 &&& 63)) ||| 0) <<< ((1 : Int32).toInt64 &&& 63)) ||| 0) <<< ((3 : Int32).toInt64 &&& 63)) ||| 0) <<< ((1 : Int32).toInt64 &&& 63)) ||| 0) <<< ((4 : Int32).toInt64 &&& 63)) ||| 0) <<< ((2 : Int32).toInt64 &&& 63)) ||| 3)), (3, .int 2), (4, .int 2), (0, .ref (a 0))] 39 [.int 1, .long ((((((((((((((((((((((((((((((((((fi S 0) : Int32).toInt64 <<< ((4 : Int32).toInt64 &&& 63)) ||| 0) <<< ((2 : Int32).toInt64 &&& 63)) ||| 3) <<< ((1 : Int32).toInt64 &&& 63)) ||| 0) <<< ((3 : Int32).toInt64 &&& 63)) ||| 0) <<< ((1 : Int32).toInt64 &&& 63)) ||| 0) <<< ((3 : Int32).toInt64 &&& 63)) ||| 0) <<< ((1 : Int32).toInt64 &&& 63)) ||| 0) <<< ((4 : Int32).toInt64 &&& 63)) ||| 0) <<< ((2 : Int32).toInt64 &&& 63)) ||| 3) <<< ((1 : Int32).toInt64 &&& 63)) ||| 0) <<< ((3 : Int32).toInt64 &&& 63)) ||| 0) <<< ((1 : Int32).toInt64 &&& 63)) ||| 0) <<< ((3 : Int32).toInt64 &&& 63)) ||| 0) <<< ((1 : Int32).toInt64 &&& 63)) ||| 0) <<< ((4 : Int32).toInt64 &&& 63)) ||| 0) <<< ((2 : Int32).toInt64 &&& 63)) ||| 3)]) : Z p l e R s m args below meth c D A 5 Q 0 0 (mw cy a S) [(3, .int 1), (4, .int 2), (1, .long ((((((((((((((((fi S 0) : Int32).toInt64 <<< ((4 : Int32).toInt64 &&& 63)) ||| 0) <<< ((2 : Int32).toInt64 &&& 63)) ||| 3) <<< ((1 : Int32).toInt64 &&& 63)) ||| 0) <<< ((3 : Int32).toInt64 &&& 63)) ||| 0) <<< ((1 : Int32).toInt64 &&& 63)) ||| 0) <<< ((3 : Int32).toInt64 &&& 63)) ||| 0) <<< ((1 : Int32).toInt64 &&& 63)) ||| 0)), (0, .ref (a 0))] 22 [.int 0, .long (((((((((((((((((fi S 0) : Int32).toInt64 <<< ((4 : Int32).toInt64 &&& 63)) ||| 0) <<< ((2 : Int32).toInt64 &&& 63)) ||| 3) <<< ((1 : Int32).toInt64 &&& 63)) ||| 0) <<< ((3 : Int32).toInt64 &&& 63)) ||| 0) <<< ((1 : Int32).toInt64 &&& 63)) ||| 0) <<< ((3 : Int32).toInt64 &&& 63)) ||| 0) <<< ((1 : Int32).toInt64 &&& 63)) ||| 0) <<< ((4 : Int32).toInt64 &&& 63))] := by
  refine z_i2l (v := 0) b dX12_packs_22 (by decide) ?_
  refine z_lor b dX12_packs_23 rfl ?_
  refine z_lstore_n (lv' := [(1, .long ((((((((((((((((((fi S 0) : Int32).toInt64 <<< ((4 : Int32).toInt64 &&& 63)) ||| 0) <<< ((2 : Int32).toInt64 &&& 63)) ||| 3) <<< ((1 : Int32).toInt64 &&& 63)) ||| 0) <<< ((3 : Int32).toInt64 &&& 63)) ||| 0) <<< ((1 : Int32).toInt64 &&& 63)) ||| 0) <<< ((3 : Int32).toInt64 &&& 63)) ||| 0) <<< ((1 : Int32).toInt64 &&& 63)) ||| 0) <<< ((4 : Int32).toInt64 &&& 63)) ||| 0)), (3, .int 1), (4, .int 2), (0, .ref (a 0))]) b dX12_packs_24 rfl (by decide) rfl ?_
  refine z_lload_n b dX12_packs_25 rfl rfl ?_
  refine z_iconst (v := 2) b dX12_packs_26 (by decide) ?_
  refine z_lshl b dX12_packs_27 rfl ?_
  refine z_aload_n b dX12_packs_28 rfl rfl ?_
  refine z_get (q0 := 0) (k9 := 2) (v := .ref (a 3)) b (mw_0 cy a S) rfl in_X12 (by decide) wf_X12_20 rfl dX12_packs_29 ?_
  refine z_iload_n b dX12_packs_32 rfl rfl ?_
  refine y_iald (q0 := 3) (j := 1) (v := (ar S 2 1)) b (mw_3 cy a S) (by decide) rfl dX12_packs_33 ?_
  refine z_eqi h_a_2_1 ?_
  refine z_i2l (v := 3) b dX12_packs_34 (by decide) ?_
  refine z_lor b dX12_packs_35 rfl ?_
  refine z_lstore_n (lv' := [(1, .long ((((((((((((((((((((fi S 0) : Int32).toInt64 <<< ((4 : Int32).toInt64 &&& 63)) ||| 0) <<< ((2 : Int32).toInt64 &&& 63)) ||| 3) <<< ((1 : Int32).toInt64 &&& 63)) ||| 0) <<< ((3 : Int32).toInt64 &&& 63)) ||| 0) <<< ((1 : Int32).toInt64 &&& 63)) ||| 0) <<< ((3 : Int32).toInt64 &&& 63)) ||| 0) <<< ((1 : Int32).toInt64 &&& 63)) ||| 0) <<< ((4 : Int32).toInt64 &&& 63)) ||| 0) <<< ((2 : Int32).toInt64 &&& 63)) ||| 3)), (3, .int 1), (4, .int 2), (0, .ref (a 0))]) b dX12_packs_36 rfl (by decide) rfl ?_
  refine z_lload_n b dX12_packs_37 rfl rfl ?_
  refine z_iconst (v := 1) b dX12_packs_38 (by decide) ?_
  refine z_lshl b dX12_packs_39 rfl ?_
  refine z_aload_n b dX12_packs_40 rfl rfl ?_
  refine z_get (q0 := 0) (k9 := 3) (v := .ref (a 4)) b (mw_0 cy a S) rfl in_X12 (by decide) wf_X12_23 rfl dX12_packs_41 ?_
  refine z_iconst (v := 3) b dX12_packs_44 (by decide) ?_
  refine z_iload_n b dX12_packs_45 rfl rfl ?_
  refine z_imul (v := 3) b dX12_packs_46 (by decide) ?_
  refine z_iload_n b dX12_packs_47 rfl rfl ?_
  refine z_iconst (v := 0) b dX12_packs_48 (by decide) ?_
  refine z_calli b (z_runS (As := [.int 1, .int 0]) (st := [.int 3, .ref (a 4), .long (((((((((((((((((((((fi S 0) : Int32).toInt64 <<< ((4 : Int32).toInt64 &&& 63)) ||| 0) <<< ((2 : Int32).toInt64 &&& 63)) ||| 3) <<< ((1 : Int32).toInt64 &&& 63)) ||| 0) <<< ((3 : Int32).toInt64 &&& 63)) ||| 0) <<< ((1 : Int32).toInt64 &&& 63)) ||| 0) <<< ((3 : Int32).toInt64 &&& 63)) ||| 0) <<< ((1 : Int32).toInt64 &&& 63)) ||| 0) <<< ((4 : Int32).toInt64 &&& 63)) ||| 0) <<< ((2 : Int32).toInt64 &&& 63)) ||| 3) <<< ((1 : Int32).toInt64 &&& 63))]) b (c_X12_other_4 S ) cf_X12_other wm_X12_160 ws_X12_other dX12_packs_49 rfl (Nat.le_of_ble_eq_true rfl) ⟨by decide, by decide, by decide, by decide⟩) (fun r727 u728 h726 => ?_)
  obtain ⟨rfl, rfl⟩ := h726
  refine z_iadd (v := 5) b dX12_packs_52 (by decide) ?_
  refine y_zald (q0 := 4) (j := 5) (v := (ar S 3 5)) b (mw_4 cy a S) (by decide) rfl dX12_packs_53 ?_
  refine z_eqi h_a_3_5 ?_
  refine z_if_eq_t (tgt := 61) b dX12_packs_54 (by decide) (by decide) ?_
  refine z_lconst (v := 0) b dX12_packs_61 (by decide) ?_
  refine z_lor b dX12_packs_62 rfl ?_
  refine z_lstore_n (lv' := [(1, .long ((((((((((((((((((((((fi S 0) : Int32).toInt64 <<< ((4 : Int32).toInt64 &&& 63)) ||| 0) <<< ((2 : Int32).toInt64 &&& 63)) ||| 3) <<< ((1 : Int32).toInt64 &&& 63)) ||| 0) <<< ((3 : Int32).toInt64 &&& 63)) ||| 0) <<< ((1 : Int32).toInt64 &&& 63)) ||| 0) <<< ((3 : Int32).toInt64 &&& 63)) ||| 0) <<< ((1 : Int32).toInt64 &&& 63)) ||| 0) <<< ((4 : Int32).toInt64 &&& 63)) ||| 0) <<< ((2 : Int32).toInt64 &&& 63)) ||| 3) <<< ((1 : Int32).toInt64 &&& 63)) ||| 0)), (3, .int 1), (4, .int 2), (0, .ref (a 0))]) b dX12_packs_63 rfl (by decide) rfl ?_
  refine z_iconst (v := 0) b dX12_packs_64 (by decide) ?_
  refine z_istore (lv' := [(4, .int 0), (1, .long ((((((((((((((((((((((fi S 0) : Int32).toInt64 <<< ((4 : Int32).toInt64 &&& 63)) ||| 0) <<< ((2 : Int32).toInt64 &&& 63)) ||| 3) <<< ((1 : Int32).toInt64 &&& 63)) ||| 0) <<< ((3 : Int32).toInt64 &&& 63)) ||| 0) <<< ((1 : Int32).toInt64 &&& 63)) ||| 0) <<< ((3 : Int32).toInt64 &&& 63)) ||| 0) <<< ((1 : Int32).toInt64 &&& 63)) ||| 0) <<< ((4 : Int32).toInt64 &&& 63)) ||| 0) <<< ((2 : Int32).toInt64 &&& 63)) ||| 3) <<< ((1 : Int32).toInt64 &&& 63)) ||| 0)), (3, .int 1), (0, .ref (a 0))]) b dX12_packs_65 (by decide) rfl ?_
  refine z_iload b dX12_packs_67 rfl ?_
  refine z_iconst (v := 2) b dX12_packs_69 (by decide) ?_
  refine z_icmp_ge_f (tgt := 128) b dX12_packs_70 (by decide) (by decide) ?_
  refine z_lload_n b dX12_packs_73 rfl rfl ?_
  refine z_iconst (v := 3) b dX12_packs_74 (by decide) ?_
  refine z_lshl b dX12_packs_75 rfl ?_
  refine z_aload_n b dX12_packs_76 rfl rfl ?_
  refine z_get (q0 := 0) (k9 := 1) (v := .ref (a 2)) b (mw_0 cy a S) rfl in_X12 (by decide) wf_X12_17 rfl dX12_packs_77 ?_
  refine z_iconst (v := 3) b dX12_packs_80 (by decide) ?_
  refine z_iload_n b dX12_packs_81 rfl rfl ?_
  refine z_imul (v := 3) b dX12_packs_82 (by decide) ?_
  refine z_iload_n b dX12_packs_83 rfl rfl ?_
  refine z_iload b dX12_packs_84 rfl ?_
  refine z_calli b (z_runS (As := [.int 1, .int 0]) (st := [.int 3, .ref (a 2), .long (((((((((((((((((((((((fi S 0) : Int32).toInt64 <<< ((4 : Int32).toInt64 &&& 63)) ||| 0) <<< ((2 : Int32).toInt64 &&& 63)) ||| 3) <<< ((1 : Int32).toInt64 &&& 63)) ||| 0) <<< ((3 : Int32).toInt64 &&& 63)) ||| 0) <<< ((1 : Int32).toInt64 &&& 63)) ||| 0) <<< ((3 : Int32).toInt64 &&& 63)) ||| 0) <<< ((1 : Int32).toInt64 &&& 63)) ||| 0) <<< ((4 : Int32).toInt64 &&& 63)) ||| 0) <<< ((2 : Int32).toInt64 &&& 63)) ||| 3) <<< ((1 : Int32).toInt64 &&& 63)) ||| 0) <<< ((3 : Int32).toInt64 &&& 63))]) b (c_X12_other_4 S ) cf_X12_other wm_X12_160 ws_X12_other dX12_packs_86 rfl (Nat.le_of_ble_eq_true rfl) ⟨by decide, by decide, by decide, by decide⟩) (fun r730 u731 h729 => ?_)
  obtain ⟨rfl, rfl⟩ := h729
  refine z_iadd (v := 5) b dX12_packs_89 (by decide) ?_
  refine y_iald (q0 := 2) (j := 5) (v := (ar S 1 5)) b (mw_2 cy a S) (by decide) rfl dX12_packs_90 ?_
  refine z_eqi h_a_1_5 ?_
  refine z_i2l (v := 0) b dX12_packs_91 (by decide) ?_
  refine z_lor b dX12_packs_92 rfl ?_
  refine z_lstore_n (lv' := [(1, .long ((((((((((((((((((((((((fi S 0) : Int32).toInt64 <<< ((4 : Int32).toInt64 &&& 63)) ||| 0) <<< ((2 : Int32).toInt64 &&& 63)) ||| 3) <<< ((1 : Int32).toInt64 &&& 63)) ||| 0) <<< ((3 : Int32).toInt64 &&& 63)) ||| 0) <<< ((1 : Int32).toInt64 &&& 63)) ||| 0) <<< ((3 : Int32).toInt64 &&& 63)) ||| 0) <<< ((1 : Int32).toInt64 &&& 63)) ||| 0) <<< ((4 : Int32).toInt64 &&& 63)) ||| 0) <<< ((2 : Int32).toInt64 &&& 63)) ||| 3) <<< ((1 : Int32).toInt64 &&& 63)) ||| 0) <<< ((3 : Int32).toInt64 &&& 63)) ||| 0)), (4, .int 0), (3, .int 1), (0, .ref (a 0))]) b dX12_packs_93 rfl (by decide) rfl ?_
  refine z_lload_n b dX12_packs_94 rfl rfl ?_
  refine z_iconst (v := 1) b dX12_packs_95 (by decide) ?_
  refine z_lshl b dX12_packs_96 rfl ?_
  refine z_aload_n b dX12_packs_97 rfl rfl ?_
  refine z_get (q0 := 0) (k9 := 4) (v := .ref (a 5)) b (mw_0 cy a S) rfl in_X12 (by decide) wf_X12_27 rfl dX12_packs_98 ?_
  refine z_iconst (v := 3) b dX12_packs_101 (by decide) ?_
  refine z_iload_n b dX12_packs_102 rfl rfl ?_
  refine z_imul (v := 3) b dX12_packs_103 (by decide) ?_
  refine z_iload_n b dX12_packs_104 rfl rfl ?_
  refine z_iload b dX12_packs_105 rfl ?_
  refine z_calli b (z_runS (As := [.int 1, .int 0]) (st := [.int 3, .ref (a 5), .long (((((((((((((((((((((((((fi S 0) : Int32).toInt64 <<< ((4 : Int32).toInt64 &&& 63)) ||| 0) <<< ((2 : Int32).toInt64 &&& 63)) ||| 3) <<< ((1 : Int32).toInt64 &&& 63)) ||| 0) <<< ((3 : Int32).toInt64 &&& 63)) ||| 0) <<< ((1 : Int32).toInt64 &&& 63)) ||| 0) <<< ((3 : Int32).toInt64 &&& 63)) ||| 0) <<< ((1 : Int32).toInt64 &&& 63)) ||| 0) <<< ((4 : Int32).toInt64 &&& 63)) ||| 0) <<< ((2 : Int32).toInt64 &&& 63)) ||| 3) <<< ((1 : Int32).toInt64 &&& 63)) ||| 0) <<< ((3 : Int32).toInt64 &&& 63)) ||| 0) <<< ((1 : Int32).toInt64 &&& 63))]) b (c_X12_other_4 S ) cf_X12_other wm_X12_160 ws_X12_other dX12_packs_107 rfl (Nat.le_of_ble_eq_true rfl) ⟨by decide, by decide, by decide, by decide⟩) (fun r733 u734 h732 => ?_)
  obtain ⟨rfl, rfl⟩ := h732
  refine z_iadd (v := 5) b dX12_packs_110 (by decide) ?_
  refine y_zald (q0 := 5) (j := 5) (v := (ar S 4 5)) b (mw_5 cy a S) (by decide) rfl dX12_packs_111 ?_
  refine z_eqi h_a_4_5 ?_
  refine z_if_eq_t (tgt := 119) b dX12_packs_112 (by decide) (by decide) ?_
  refine z_lconst (v := 0) b dX12_packs_119 (by decide) ?_
  refine z_lor b dX12_packs_120 rfl ?_
  refine z_lstore_n (lv' := [(1, .long ((((((((((((((((((((((((((fi S 0) : Int32).toInt64 <<< ((4 : Int32).toInt64 &&& 63)) ||| 0) <<< ((2 : Int32).toInt64 &&& 63)) ||| 3) <<< ((1 : Int32).toInt64 &&& 63)) ||| 0) <<< ((3 : Int32).toInt64 &&& 63)) ||| 0) <<< ((1 : Int32).toInt64 &&& 63)) ||| 0) <<< ((3 : Int32).toInt64 &&& 63)) ||| 0) <<< ((1 : Int32).toInt64 &&& 63)) ||| 0) <<< ((4 : Int32).toInt64 &&& 63)) ||| 0) <<< ((2 : Int32).toInt64 &&& 63)) ||| 3) <<< ((1 : Int32).toInt64 &&& 63)) ||| 0) <<< ((3 : Int32).toInt64 &&& 63)) ||| 0) <<< ((1 : Int32).toInt64 &&& 63)) ||| 0)), (4, .int 0), (3, .int 1), (0, .ref (a 0))]) b dX12_packs_121 rfl (by decide) rfl ?_
  refine z_iinc (k9 := 1) (v := 1) (lv' := [(4, .int 1), (1, .long ((((((((((((((((((((((((((fi S 0) : Int32).toInt64 <<< ((4 : Int32).toInt64 &&& 63)) ||| 0) <<< ((2 : Int32).toInt64 &&& 63)) ||| 3) <<< ((1 : Int32).toInt64 &&& 63)) ||| 0) <<< ((3 : Int32).toInt64 &&& 63)) ||| 0) <<< ((1 : Int32).toInt64 &&& 63)) ||| 0) <<< ((3 : Int32).toInt64 &&& 63)) ||| 0) <<< ((1 : Int32).toInt64 &&& 63)) ||| 0) <<< ((4 : Int32).toInt64 &&& 63)) ||| 0) <<< ((2 : Int32).toInt64 &&& 63)) ||| 3) <<< ((1 : Int32).toInt64 &&& 63)) ||| 0) <<< ((3 : Int32).toInt64 &&& 63)) ||| 0) <<< ((1 : Int32).toInt64 &&& 63)) ||| 0)), (3, .int 1), (0, .ref (a 0))]) b dX12_packs_122 rfl (by decide) (by decide) rfl ?_
  refine z_goto (tgt := 67) b dX12_packs_125 (by decide) ?_
  refine z_iload b dX12_packs_67 rfl ?_
  refine z_iconst (v := 2) b dX12_packs_69 (by decide) ?_
  refine z_icmp_ge_f (tgt := 128) b dX12_packs_70 (by decide) (by decide) ?_
  refine z_lload_n b dX12_packs_73 rfl rfl ?_
  refine z_iconst (v := 3) b dX12_packs_74 (by decide) ?_
  refine z_lshl b dX12_packs_75 rfl ?_
  refine z_aload_n b dX12_packs_76 rfl rfl ?_
  refine z_get (q0 := 0) (k9 := 1) (v := .ref (a 2)) b (mw_0 cy a S) rfl in_X12 (by decide) wf_X12_17 rfl dX12_packs_77 ?_
  refine z_iconst (v := 3) b dX12_packs_80 (by decide) ?_
  refine z_iload_n b dX12_packs_81 rfl rfl ?_
  refine z_imul (v := 3) b dX12_packs_82 (by decide) ?_
  refine z_iload_n b dX12_packs_83 rfl rfl ?_
  refine z_iload b dX12_packs_84 rfl ?_
  refine z_calli b (z_runS (As := [.int 1, .int 1]) (st := [.int 3, .ref (a 2), .long (((((((((((((((((((((((((((fi S 0) : Int32).toInt64 <<< ((4 : Int32).toInt64 &&& 63)) ||| 0) <<< ((2 : Int32).toInt64 &&& 63)) ||| 3) <<< ((1 : Int32).toInt64 &&& 63)) ||| 0) <<< ((3 : Int32).toInt64 &&& 63)) ||| 0) <<< ((1 : Int32).toInt64 &&& 63)) ||| 0) <<< ((3 : Int32).toInt64 &&& 63)) ||| 0) <<< ((1 : Int32).toInt64 &&& 63)) ||| 0) <<< ((4 : Int32).toInt64 &&& 63)) ||| 0) <<< ((2 : Int32).toInt64 &&& 63)) ||| 3) <<< ((1 : Int32).toInt64 &&& 63)) ||| 0) <<< ((3 : Int32).toInt64 &&& 63)) ||| 0) <<< ((1 : Int32).toInt64 &&& 63)) ||| 0) <<< ((3 : Int32).toInt64 &&& 63))]) b (c_X12_other_3 S ) cf_X12_other wm_X12_160 ws_X12_other dX12_packs_86 rfl (Nat.le_of_ble_eq_true rfl) ⟨by decide, by decide, by decide, by decide⟩) (fun r736 u737 h735 => ?_)
  obtain ⟨rfl, rfl⟩ := h735
  refine z_iadd (v := 3) b dX12_packs_89 (by decide) ?_
  refine y_iald (q0 := 2) (j := 3) (v := (ar S 1 3)) b (mw_2 cy a S) (by decide) rfl dX12_packs_90 ?_
  refine z_eqi h_a_1_3 ?_
  refine z_i2l (v := 0) b dX12_packs_91 (by decide) ?_
  refine z_lor b dX12_packs_92 rfl ?_
  refine z_lstore_n (lv' := [(1, .long ((((((((((((((((((((((((((((fi S 0) : Int32).toInt64 <<< ((4 : Int32).toInt64 &&& 63)) ||| 0) <<< ((2 : Int32).toInt64 &&& 63)) ||| 3) <<< ((1 : Int32).toInt64 &&& 63)) ||| 0) <<< ((3 : Int32).toInt64 &&& 63)) ||| 0) <<< ((1 : Int32).toInt64 &&& 63)) ||| 0) <<< ((3 : Int32).toInt64 &&& 63)) ||| 0) <<< ((1 : Int32).toInt64 &&& 63)) ||| 0) <<< ((4 : Int32).toInt64 &&& 63)) ||| 0) <<< ((2 : Int32).toInt64 &&& 63)) ||| 3) <<< ((1 : Int32).toInt64 &&& 63)) ||| 0) <<< ((3 : Int32).toInt64 &&& 63)) ||| 0) <<< ((1 : Int32).toInt64 &&& 63)) ||| 0) <<< ((3 : Int32).toInt64 &&& 63)) ||| 0)), (4, .int 1), (3, .int 1), (0, .ref (a 0))]) b dX12_packs_93 rfl (by decide) rfl ?_
  refine z_lload_n b dX12_packs_94 rfl rfl ?_
  refine z_iconst (v := 1) b dX12_packs_95 (by decide) ?_
  refine z_lshl b dX12_packs_96 rfl ?_
  refine z_aload_n b dX12_packs_97 rfl rfl ?_
  refine z_get (q0 := 0) (k9 := 4) (v := .ref (a 5)) b (mw_0 cy a S) rfl in_X12 (by decide) wf_X12_27 rfl dX12_packs_98 ?_
  refine z_iconst (v := 3) b dX12_packs_101 (by decide) ?_
  refine z_iload_n b dX12_packs_102 rfl rfl ?_
  refine z_imul (v := 3) b dX12_packs_103 (by decide) ?_
  refine z_iload_n b dX12_packs_104 rfl rfl ?_
  refine z_iload b dX12_packs_105 rfl ?_
  refine z_calli b (z_runS (As := [.int 1, .int 1]) (st := [.int 3, .ref (a 5), .long (((((((((((((((((((((((((((((fi S 0) : Int32).toInt64 <<< ((4 : Int32).toInt64 &&& 63)) ||| 0) <<< ((2 : Int32).toInt64 &&& 63)) ||| 3) <<< ((1 : Int32).toInt64 &&& 63)) ||| 0) <<< ((3 : Int32).toInt64 &&& 63)) ||| 0) <<< ((1 : Int32).toInt64 &&& 63)) ||| 0) <<< ((3 : Int32).toInt64 &&& 63)) ||| 0) <<< ((1 : Int32).toInt64 &&& 63)) ||| 0) <<< ((4 : Int32).toInt64 &&& 63)) ||| 0) <<< ((2 : Int32).toInt64 &&& 63)) ||| 3) <<< ((1 : Int32).toInt64 &&& 63)) ||| 0) <<< ((3 : Int32).toInt64 &&& 63)) ||| 0) <<< ((1 : Int32).toInt64 &&& 63)) ||| 0) <<< ((3 : Int32).toInt64 &&& 63)) ||| 0) <<< ((1 : Int32).toInt64 &&& 63))]) b (c_X12_other_3 S ) cf_X12_other wm_X12_160 ws_X12_other dX12_packs_107 rfl (Nat.le_of_ble_eq_true rfl) ⟨by decide, by decide, by decide, by decide⟩) (fun r739 u740 h738 => ?_)
  obtain ⟨rfl, rfl⟩ := h738
  refine z_iadd (v := 3) b dX12_packs_110 (by decide) ?_
  refine y_zald (q0 := 5) (j := 3) (v := (ar S 4 3)) b (mw_5 cy a S) (by decide) rfl dX12_packs_111 ?_
  refine z_eqi h_a_4_3 ?_
  refine z_if_eq_t (tgt := 119) b dX12_packs_112 (by decide) (by decide) ?_
  refine z_lconst (v := 0) b dX12_packs_119 (by decide) ?_
  refine z_lor b dX12_packs_120 rfl ?_
  refine z_lstore_n (lv' := [(1, .long ((((((((((((((((((((((((((((((fi S 0) : Int32).toInt64 <<< ((4 : Int32).toInt64 &&& 63)) ||| 0) <<< ((2 : Int32).toInt64 &&& 63)) ||| 3) <<< ((1 : Int32).toInt64 &&& 63)) ||| 0) <<< ((3 : Int32).toInt64 &&& 63)) ||| 0) <<< ((1 : Int32).toInt64 &&& 63)) ||| 0) <<< ((3 : Int32).toInt64 &&& 63)) ||| 0) <<< ((1 : Int32).toInt64 &&& 63)) ||| 0) <<< ((4 : Int32).toInt64 &&& 63)) ||| 0) <<< ((2 : Int32).toInt64 &&& 63)) ||| 3) <<< ((1 : Int32).toInt64 &&& 63)) ||| 0) <<< ((3 : Int32).toInt64 &&& 63)) ||| 0) <<< ((1 : Int32).toInt64 &&& 63)) ||| 0) <<< ((3 : Int32).toInt64 &&& 63)) ||| 0) <<< ((1 : Int32).toInt64 &&& 63)) ||| 0)), (4, .int 1), (3, .int 1), (0, .ref (a 0))]) b dX12_packs_121 rfl (by decide) rfl ?_
  refine z_iinc (k9 := 1) (v := 2) (lv' := [(4, .int 2), (1, .long ((((((((((((((((((((((((((((((fi S 0) : Int32).toInt64 <<< ((4 : Int32).toInt64 &&& 63)) ||| 0) <<< ((2 : Int32).toInt64 &&& 63)) ||| 3) <<< ((1 : Int32).toInt64 &&& 63)) ||| 0) <<< ((3 : Int32).toInt64 &&& 63)) ||| 0) <<< ((1 : Int32).toInt64 &&& 63)) ||| 0) <<< ((3 : Int32).toInt64 &&& 63)) ||| 0) <<< ((1 : Int32).toInt64 &&& 63)) ||| 0) <<< ((4 : Int32).toInt64 &&& 63)) ||| 0) <<< ((2 : Int32).toInt64 &&& 63)) ||| 3) <<< ((1 : Int32).toInt64 &&& 63)) ||| 0) <<< ((3 : Int32).toInt64 &&& 63)) ||| 0) <<< ((1 : Int32).toInt64 &&& 63)) ||| 0) <<< ((3 : Int32).toInt64 &&& 63)) ||| 0) <<< ((1 : Int32).toInt64 &&& 63)) ||| 0)), (3, .int 1), (0, .ref (a 0))]) b dX12_packs_122 rfl (by decide) (by decide) rfl ?_
  refine z_goto (tgt := 67) b dX12_packs_125 (by decide) ?_
  refine z_iload b dX12_packs_67 rfl ?_
  refine z_iconst (v := 2) b dX12_packs_69 (by decide) ?_
  refine z_icmp_ge_t (tgt := 128) b dX12_packs_70 (by decide) (by decide) ?_
  refine z_iinc (k9 := 2) (v := 2) (lv' := [(3, .int 2), (4, .int 2), (1, .long ((((((((((((((((((((((((((((((fi S 0) : Int32).toInt64 <<< ((4 : Int32).toInt64 &&& 63)) ||| 0) <<< ((2 : Int32).toInt64 &&& 63)) ||| 3) <<< ((1 : Int32).toInt64 &&& 63)) ||| 0) <<< ((3 : Int32).toInt64 &&& 63)) ||| 0) <<< ((1 : Int32).toInt64 &&& 63)) ||| 0) <<< ((3 : Int32).toInt64 &&& 63)) ||| 0) <<< ((1 : Int32).toInt64 &&& 63)) ||| 0) <<< ((4 : Int32).toInt64 &&& 63)) ||| 0) <<< ((2 : Int32).toInt64 &&& 63)) ||| 3) <<< ((1 : Int32).toInt64 &&& 63)) ||| 0) <<< ((3 : Int32).toInt64 &&& 63)) ||| 0) <<< ((1 : Int32).toInt64 &&& 63)) ||| 0) <<< ((3 : Int32).toInt64 &&& 63)) ||| 0) <<< ((1 : Int32).toInt64 &&& 63)) ||| 0)), (0, .ref (a 0))]) b dX12_packs_128 rfl (by decide) (by decide) rfl ?_
  refine z_goto (tgt := 8) b dX12_packs_131 (by decide) ?_
  refine z_iload_n b dX12_packs_8 rfl rfl ?_
  refine z_iconst (v := 3) b dX12_packs_9 (by decide) ?_
  refine z_icmp_ge_f (tgt := 134) b dX12_packs_10 (by decide) (by decide) ?_
  refine z_lload_n b dX12_packs_13 rfl rfl ?_
  refine z_iconst (v := 4) b dX12_packs_14 (by decide) ?_
  refine z_lshl b dX12_packs_15 rfl ?_
  refine z_aload_n b dX12_packs_16 rfl rfl ?_
  refine z_get (q0 := 0) (k9 := 0) (v := .ref (a 1)) b (mw_0 cy a S) rfl in_X12 (by decide) wf_X12_13 rfl dX12_packs_17 ?_
  refine z_iload_n b dX12_packs_20 rfl rfl ?_
  refine y_iald (q0 := 1) (j := 2) (v := (ar S 0 2)) b (mw_1 cy a S) (by decide) rfl dX12_packs_21 ?_
  refine z_eqi h_a_0_2 ?_
  refine z_i2l (v := 0) b dX12_packs_22 (by decide) ?_
  refine z_lor b dX12_packs_23 rfl ?_
  refine z_lstore_n (lv' := [(1, .long ((((((((((((((((((((((((((((((((fi S 0) : Int32).toInt64 <<< ((4 : Int32).toInt64 &&& 63)) ||| 0) <<< ((2 : Int32).toInt64 &&& 63)) ||| 3) <<< ((1 : Int32).toInt64 &&& 63)) ||| 0) <<< ((3 : Int32).toInt64 &&& 63)) ||| 0) <<< ((1 : Int32).toInt64 &&& 63)) ||| 0) <<< ((3 : Int32).toInt64 &&& 63)) ||| 0) <<< ((1 : Int32).toInt64 &&& 63)) ||| 0) <<< ((4 : Int32).toInt64 &&& 63)) ||| 0) <<< ((2 : Int32).toInt64 &&& 63)) ||| 3) <<< ((1 : Int32).toInt64 &&& 63)) ||| 0) <<< ((3 : Int32).toInt64 &&& 63)) ||| 0) <<< ((1 : Int32).toInt64 &&& 63)) ||| 0) <<< ((3 : Int32).toInt64 &&& 63)) ||| 0) <<< ((1 : Int32).toInt64 &&& 63)) ||| 0) <<< ((4 : Int32).toInt64 &&& 63)) ||| 0)), (3, .int 2), (4, .int 2), (0, .ref (a 0))]) b dX12_packs_24 rfl (by decide) rfl ?_
  refine z_lload_n b dX12_packs_25 rfl rfl ?_
  refine z_iconst (v := 2) b dX12_packs_26 (by decide) ?_
  refine z_lshl b dX12_packs_27 rfl ?_
  refine z_aload_n b dX12_packs_28 rfl rfl ?_
  refine z_get (q0 := 0) (k9 := 2) (v := .ref (a 3)) b (mw_0 cy a S) rfl in_X12 (by decide) wf_X12_20 rfl dX12_packs_29 ?_
  refine z_iload_n b dX12_packs_32 rfl rfl ?_
  refine y_iald (q0 := 3) (j := 2) (v := (ar S 2 2)) b (mw_3 cy a S) (by decide) rfl dX12_packs_33 ?_
  refine z_eqi h_a_2_2 ?_
  refine z_i2l (v := 3) b dX12_packs_34 (by decide) ?_
  refine z_lor b dX12_packs_35 rfl ?_
  refine z_lstore_n (lv' := [(1, .long ((((((((((((((((((((((((((((((((((fi S 0) : Int32).toInt64 <<< ((4 : Int32).toInt64 &&& 63)) ||| 0) <<< ((2 : Int32).toInt64 &&& 63)) ||| 3) <<< ((1 : Int32).toInt64 &&& 63)) ||| 0) <<< ((3 : Int32).toInt64 &&& 63)) ||| 0) <<< ((1 : Int32).toInt64 &&& 63)) ||| 0) <<< ((3 : Int32).toInt64 &&& 63)) ||| 0) <<< ((1 : Int32).toInt64 &&& 63)) ||| 0) <<< ((4 : Int32).toInt64 &&& 63)) ||| 0) <<< ((2 : Int32).toInt64 &&& 63)) ||| 3) <<< ((1 : Int32).toInt64 &&& 63)) ||| 0) <<< ((3 : Int32).toInt64 &&& 63)) ||| 0) <<< ((1 : Int32).toInt64 &&& 63)) ||| 0) <<< ((3 : Int32).toInt64 &&& 63)) ||| 0) <<< ((1 : Int32).toInt64 &&& 63)) ||| 0) <<< ((4 : Int32).toInt64 &&& 63)) ||| 0) <<< ((2 : Int32).toInt64 &&& 63)) ||| 3)), (3, .int 2), (4, .int 2), (0, .ref (a 0))]) b dX12_packs_36 rfl (by decide) rfl ?_
  refine z_lload_n b dX12_packs_37 rfl rfl ?_
  refine z_iconst (v := 1) b dX12_packs_38 (by decide) ?_
  exact k

set_option maxHeartbeats 4000000 in
set_option maxRecDepth 100000 in
theorem c_X12_packs_7 {l : Launch} {D : va_G} {cy : Nat → ClassId} {T0 tB tE : Nat} {a : Nat → Nat} (S : GS)  (h_a_0_0 : ar S 0 0 = 0) (h_a_2_0 : ar S 2 0 = 3) (h_a_3_1 : ar S 3 1 = 0) (h_a_1_1 : ar S 1 1 = 0) (h_a_4_1 : ar S 4 1 = 0) (h_a_1_2 : ar S 1 2 = 0) (h_a_4_2 : ar S 4 2 = 0) (h_a_0_1 : ar S 0 1 = 0) (h_a_2_1 : ar S 2 1 = 3) (h_a_3_5 : ar S 3 5 = 0) (h_a_1_5 : ar S 1 5 = 0) (h_a_4_5 : ar S 4 5 = 0) (h_a_1_3 : ar S 1 3 = 0) (h_a_4_3 : ar S 4 3 = 0) (h_a_0_2 : ar S 0 2 = 0) (h_a_2_2 : ar S 2 2 = 3) (h_a_3_6 : ar S 3 6 = 0) (h_a_1_6 : ar S 1 6 = 0) (h_a_4_6 : ar S 4 6 = 0) (h_a_1_7 : ar S 1 7 = 0) (h_a_4_7 : ar S 4 7 = 0) : Ct l D cy T0 tB tE yX12_packs cX12_packs 5 (some .long) 1 21 0 0 (mw cy a S) [.ref (a 0)] (QL D (U := GS) (fun r u => ((((((((((((((((((((((((((((((((((((((((((((fi S 0) : Int32).toInt64 <<< ((4 : Int32).toInt64 &&& 63)) ||| 0) <<< ((2 : Int32).toInt64 &&& 63)) ||| 3) <<< ((1 : Int32).toInt64 &&& 63)) ||| 0) <<< ((3 : Int32).toInt64 &&& 63)) ||| 0) <<< ((1 : Int32).toInt64 &&& 63)) ||| 0) <<< ((3 : Int32).toInt64 &&& 63)) ||| 0) <<< ((1 : Int32).toInt64 &&& 63)) ||| 0) <<< ((4 : Int32).toInt64 &&& 63)) ||| 0) <<< ((2 : Int32).toInt64 &&& 63)) ||| 3) <<< ((1 : Int32).toInt64 &&& 63)) ||| 0) <<< ((3 : Int32).toInt64 &&& 63)) ||| 0) <<< ((1 : Int32).toInt64 &&& 63)) ||| 0) <<< ((3 : Int32).toInt64 &&& 63)) ||| 0) <<< ((1 : Int32).toInt64 &&& 63)) ||| 0) <<< ((4 : Int32).toInt64 &&& 63)) ||| 0) <<< ((2 : Int32).toInt64 &&& 63)) ||| 3) <<< ((1 : Int32).toInt64 &&& 63)) ||| 0) <<< ((3 : Int32).toInt64 &&& 63)) ||| 0) <<< ((1 : Int32).toInt64 &&& 63)) ||| 0) <<< ((3 : Int32).toInt64 &&& 63)) ||| 0) <<< ((1 : Int32).toInt64 &&& 63)) ||| 0) = r ∧ S = u) (mw cy a)) := by
  refine Ct.ofZ RX12 "packs" [(0, .ref (a 0))] rfl rfl rfl rfl (Nat.le_of_ble_eq_true rfl) ?_
  intro p e R s m args below meth c A b
  refine ch_X12_packs_16 S  h_a_0_0 h_a_0_1 h_a_1_1 h_a_1_2 h_a_2_0 h_a_3_1 h_a_4_1 h_a_4_2  b ?_
  refine ch_X12_packs_17 S  h_a_0_2 h_a_1_3 h_a_1_5 h_a_2_1 h_a_2_2 h_a_3_5 h_a_4_3 h_a_4_5  b ?_
  refine z_lshl b dX12_packs_39 rfl ?_
  refine z_aload_n b dX12_packs_40 rfl rfl ?_
  refine z_get (q0 := 0) (k9 := 3) (v := .ref (a 4)) b (mw_0 cy a S) rfl in_X12 (by decide) wf_X12_23 rfl dX12_packs_41 ?_
  refine z_iconst (v := 3) b dX12_packs_44 (by decide) ?_
  refine z_iload_n b dX12_packs_45 rfl rfl ?_
  refine z_imul (v := 6) b dX12_packs_46 (by decide) ?_
  refine z_iload_n b dX12_packs_47 rfl rfl ?_
  refine z_iconst (v := 0) b dX12_packs_48 (by decide) ?_
  refine z_calli b (z_runS (As := [.int 2, .int 0]) (st := [.int 6, .ref (a 4), .long (((((((((((((((((((((((((((((((((((fi S 0) : Int32).toInt64 <<< ((4 : Int32).toInt64 &&& 63)) ||| 0) <<< ((2 : Int32).toInt64 &&& 63)) ||| 3) <<< ((1 : Int32).toInt64 &&& 63)) ||| 0) <<< ((3 : Int32).toInt64 &&& 63)) ||| 0) <<< ((1 : Int32).toInt64 &&& 63)) ||| 0) <<< ((3 : Int32).toInt64 &&& 63)) ||| 0) <<< ((1 : Int32).toInt64 &&& 63)) ||| 0) <<< ((4 : Int32).toInt64 &&& 63)) ||| 0) <<< ((2 : Int32).toInt64 &&& 63)) ||| 3) <<< ((1 : Int32).toInt64 &&& 63)) ||| 0) <<< ((3 : Int32).toInt64 &&& 63)) ||| 0) <<< ((1 : Int32).toInt64 &&& 63)) ||| 0) <<< ((3 : Int32).toInt64 &&& 63)) ||| 0) <<< ((1 : Int32).toInt64 &&& 63)) ||| 0) <<< ((4 : Int32).toInt64 &&& 63)) ||| 0) <<< ((2 : Int32).toInt64 &&& 63)) ||| 3) <<< ((1 : Int32).toInt64 &&& 63))]) b (c_X12_other_2 S ) cf_X12_other wm_X12_160 ws_X12_other dX12_packs_49 rfl (Nat.le_of_ble_eq_true rfl) ⟨by decide, by decide, by decide, by decide⟩) (fun r742 u743 h741 => ?_)
  obtain ⟨rfl, rfl⟩ := h741
  refine z_iadd (v := 6) b dX12_packs_52 (by decide) ?_
  refine y_zald (q0 := 4) (j := 6) (v := (ar S 3 6)) b (mw_4 cy a S) (by decide) rfl dX12_packs_53 ?_
  refine z_eqi h_a_3_6 ?_
  refine z_if_eq_t (tgt := 61) b dX12_packs_54 (by decide) (by decide) ?_
  refine z_lconst (v := 0) b dX12_packs_61 (by decide) ?_
  refine z_lor b dX12_packs_62 rfl ?_
  refine z_lstore_n (lv' := [(1, .long ((((((((((((((((((((((((((((((((((((fi S 0) : Int32).toInt64 <<< ((4 : Int32).toInt64 &&& 63)) ||| 0) <<< ((2 : Int32).toInt64 &&& 63)) ||| 3) <<< ((1 : Int32).toInt64 &&& 63)) ||| 0) <<< ((3 : Int32).toInt64 &&& 63)) ||| 0) <<< ((1 : Int32).toInt64 &&& 63)) ||| 0) <<< ((3 : Int32).toInt64 &&& 63)) ||| 0) <<< ((1 : Int32).toInt64 &&& 63)) ||| 0) <<< ((4 : Int32).toInt64 &&& 63)) ||| 0) <<< ((2 : Int32).toInt64 &&& 63)) ||| 3) <<< ((1 : Int32).toInt64 &&& 63)) ||| 0) <<< ((3 : Int32).toInt64 &&& 63)) ||| 0) <<< ((1 : Int32).toInt64 &&& 63)) ||| 0) <<< ((3 : Int32).toInt64 &&& 63)) ||| 0) <<< ((1 : Int32).toInt64 &&& 63)) ||| 0) <<< ((4 : Int32).toInt64 &&& 63)) ||| 0) <<< ((2 : Int32).toInt64 &&& 63)) ||| 3) <<< ((1 : Int32).toInt64 &&& 63)) ||| 0)), (3, .int 2), (4, .int 2), (0, .ref (a 0))]) b dX12_packs_63 rfl (by decide) rfl ?_
  refine z_iconst (v := 0) b dX12_packs_64 (by decide) ?_
  refine z_istore (lv' := [(4, .int 0), (1, .long ((((((((((((((((((((((((((((((((((((fi S 0) : Int32).toInt64 <<< ((4 : Int32).toInt64 &&& 63)) ||| 0) <<< ((2 : Int32).toInt64 &&& 63)) ||| 3) <<< ((1 : Int32).toInt64 &&& 63)) ||| 0) <<< ((3 : Int32).toInt64 &&& 63)) ||| 0) <<< ((1 : Int32).toInt64 &&& 63)) ||| 0) <<< ((3 : Int32).toInt64 &&& 63)) ||| 0) <<< ((1 : Int32).toInt64 &&& 63)) ||| 0) <<< ((4 : Int32).toInt64 &&& 63)) ||| 0) <<< ((2 : Int32).toInt64 &&& 63)) ||| 3) <<< ((1 : Int32).toInt64 &&& 63)) ||| 0) <<< ((3 : Int32).toInt64 &&& 63)) ||| 0) <<< ((1 : Int32).toInt64 &&& 63)) ||| 0) <<< ((3 : Int32).toInt64 &&& 63)) ||| 0) <<< ((1 : Int32).toInt64 &&& 63)) ||| 0) <<< ((4 : Int32).toInt64 &&& 63)) ||| 0) <<< ((2 : Int32).toInt64 &&& 63)) ||| 3) <<< ((1 : Int32).toInt64 &&& 63)) ||| 0)), (3, .int 2), (0, .ref (a 0))]) b dX12_packs_65 (by decide) rfl ?_
  refine z_iload b dX12_packs_67 rfl ?_
  refine z_iconst (v := 2) b dX12_packs_69 (by decide) ?_
  refine z_icmp_ge_f (tgt := 128) b dX12_packs_70 (by decide) (by decide) ?_
  refine z_lload_n b dX12_packs_73 rfl rfl ?_
  refine z_iconst (v := 3) b dX12_packs_74 (by decide) ?_
  refine z_lshl b dX12_packs_75 rfl ?_
  refine z_aload_n b dX12_packs_76 rfl rfl ?_
  refine z_get (q0 := 0) (k9 := 1) (v := .ref (a 2)) b (mw_0 cy a S) rfl in_X12 (by decide) wf_X12_17 rfl dX12_packs_77 ?_
  refine z_iconst (v := 3) b dX12_packs_80 (by decide) ?_
  refine z_iload_n b dX12_packs_81 rfl rfl ?_
  refine z_imul (v := 6) b dX12_packs_82 (by decide) ?_
  refine z_iload_n b dX12_packs_83 rfl rfl ?_
  refine z_iload b dX12_packs_84 rfl ?_
  refine z_calli b (z_runS (As := [.int 2, .int 0]) (st := [.int 6, .ref (a 2), .long (((((((((((((((((((((((((((((((((((((fi S 0) : Int32).toInt64 <<< ((4 : Int32).toInt64 &&& 63)) ||| 0) <<< ((2 : Int32).toInt64 &&& 63)) ||| 3) <<< ((1 : Int32).toInt64 &&& 63)) ||| 0) <<< ((3 : Int32).toInt64 &&& 63)) ||| 0) <<< ((1 : Int32).toInt64 &&& 63)) ||| 0) <<< ((3 : Int32).toInt64 &&& 63)) ||| 0) <<< ((1 : Int32).toInt64 &&& 63)) ||| 0) <<< ((4 : Int32).toInt64 &&& 63)) ||| 0) <<< ((2 : Int32).toInt64 &&& 63)) ||| 3) <<< ((1 : Int32).toInt64 &&& 63)) ||| 0) <<< ((3 : Int32).toInt64 &&& 63)) ||| 0) <<< ((1 : Int32).toInt64 &&& 63)) ||| 0) <<< ((3 : Int32).toInt64 &&& 63)) ||| 0) <<< ((1 : Int32).toInt64 &&& 63)) ||| 0) <<< ((4 : Int32).toInt64 &&& 63)) ||| 0) <<< ((2 : Int32).toInt64 &&& 63)) ||| 3) <<< ((1 : Int32).toInt64 &&& 63)) ||| 0) <<< ((3 : Int32).toInt64 &&& 63))]) b (c_X12_other_2 S ) cf_X12_other wm_X12_160 ws_X12_other dX12_packs_86 rfl (Nat.le_of_ble_eq_true rfl) ⟨by decide, by decide, by decide, by decide⟩) (fun r745 u746 h744 => ?_)
  obtain ⟨rfl, rfl⟩ := h744
  refine z_iadd (v := 6) b dX12_packs_89 (by decide) ?_
  refine y_iald (q0 := 2) (j := 6) (v := (ar S 1 6)) b (mw_2 cy a S) (by decide) rfl dX12_packs_90 ?_
  refine z_eqi h_a_1_6 ?_
  refine z_i2l (v := 0) b dX12_packs_91 (by decide) ?_
  refine z_lor b dX12_packs_92 rfl ?_
  refine z_lstore_n (lv' := [(1, .long ((((((((((((((((((((((((((((((((((((((fi S 0) : Int32).toInt64 <<< ((4 : Int32).toInt64 &&& 63)) ||| 0) <<< ((2 : Int32).toInt64 &&& 63)) ||| 3) <<< ((1 : Int32).toInt64 &&& 63)) ||| 0) <<< ((3 : Int32).toInt64 &&& 63)) ||| 0) <<< ((1 : Int32).toInt64 &&& 63)) ||| 0) <<< ((3 : Int32).toInt64 &&& 63)) ||| 0) <<< ((1 : Int32).toInt64 &&& 63)) ||| 0) <<< ((4 : Int32).toInt64 &&& 63)) ||| 0) <<< ((2 : Int32).toInt64 &&& 63)) ||| 3) <<< ((1 : Int32).toInt64 &&& 63)) ||| 0) <<< ((3 : Int32).toInt64 &&& 63)) ||| 0) <<< ((1 : Int32).toInt64 &&& 63)) ||| 0) <<< ((3 : Int32).toInt64 &&& 63)) ||| 0) <<< ((1 : Int32).toInt64 &&& 63)) ||| 0) <<< ((4 : Int32).toInt64 &&& 63)) ||| 0) <<< ((2 : Int32).toInt64 &&& 63)) ||| 3) <<< ((1 : Int32).toInt64 &&& 63)) ||| 0) <<< ((3 : Int32).toInt64 &&& 63)) ||| 0)), (4, .int 0), (3, .int 2), (0, .ref (a 0))]) b dX12_packs_93 rfl (by decide) rfl ?_
  refine z_lload_n b dX12_packs_94 rfl rfl ?_
  refine z_iconst (v := 1) b dX12_packs_95 (by decide) ?_
  refine z_lshl b dX12_packs_96 rfl ?_
  refine z_aload_n b dX12_packs_97 rfl rfl ?_
  refine z_get (q0 := 0) (k9 := 4) (v := .ref (a 5)) b (mw_0 cy a S) rfl in_X12 (by decide) wf_X12_27 rfl dX12_packs_98 ?_
  refine z_iconst (v := 3) b dX12_packs_101 (by decide) ?_
  refine z_iload_n b dX12_packs_102 rfl rfl ?_
  refine z_imul (v := 6) b dX12_packs_103 (by decide) ?_
  refine z_iload_n b dX12_packs_104 rfl rfl ?_
  refine z_iload b dX12_packs_105 rfl ?_
  refine z_calli b (z_runS (As := [.int 2, .int 0]) (st := [.int 6, .ref (a 5), .long (((((((((((((((((((((((((((((((((((((((fi S 0) : Int32).toInt64 <<< ((4 : Int32).toInt64 &&& 63)) ||| 0) <<< ((2 : Int32).toInt64 &&& 63)) ||| 3) <<< ((1 : Int32).toInt64 &&& 63)) ||| 0) <<< ((3 : Int32).toInt64 &&& 63)) ||| 0) <<< ((1 : Int32).toInt64 &&& 63)) ||| 0) <<< ((3 : Int32).toInt64 &&& 63)) ||| 0) <<< ((1 : Int32).toInt64 &&& 63)) ||| 0) <<< ((4 : Int32).toInt64 &&& 63)) ||| 0) <<< ((2 : Int32).toInt64 &&& 63)) ||| 3) <<< ((1 : Int32).toInt64 &&& 63)) ||| 0) <<< ((3 : Int32).toInt64 &&& 63)) ||| 0) <<< ((1 : Int32).toInt64 &&& 63)) ||| 0) <<< ((3 : Int32).toInt64 &&& 63)) ||| 0) <<< ((1 : Int32).toInt64 &&& 63)) ||| 0) <<< ((4 : Int32).toInt64 &&& 63)) ||| 0) <<< ((2 : Int32).toInt64 &&& 63)) ||| 3) <<< ((1 : Int32).toInt64 &&& 63)) ||| 0) <<< ((3 : Int32).toInt64 &&& 63)) ||| 0) <<< ((1 : Int32).toInt64 &&& 63))]) b (c_X12_other_2 S ) cf_X12_other wm_X12_160 ws_X12_other dX12_packs_107 rfl (Nat.le_of_ble_eq_true rfl) ⟨by decide, by decide, by decide, by decide⟩) (fun r748 u749 h747 => ?_)
  obtain ⟨rfl, rfl⟩ := h747
  refine z_iadd (v := 6) b dX12_packs_110 (by decide) ?_
  refine y_zald (q0 := 5) (j := 6) (v := (ar S 4 6)) b (mw_5 cy a S) (by decide) rfl dX12_packs_111 ?_
  refine z_eqi h_a_4_6 ?_
  refine z_if_eq_t (tgt := 119) b dX12_packs_112 (by decide) (by decide) ?_
  refine z_lconst (v := 0) b dX12_packs_119 (by decide) ?_
  refine z_lor b dX12_packs_120 rfl ?_
  refine z_lstore_n (lv' := [(1, .long ((((((((((((((((((((((((((((((((((((((((fi S 0) : Int32).toInt64 <<< ((4 : Int32).toInt64 &&& 63)) ||| 0) <<< ((2 : Int32).toInt64 &&& 63)) ||| 3) <<< ((1 : Int32).toInt64 &&& 63)) ||| 0) <<< ((3 : Int32).toInt64 &&& 63)) ||| 0) <<< ((1 : Int32).toInt64 &&& 63)) ||| 0) <<< ((3 : Int32).toInt64 &&& 63)) ||| 0) <<< ((1 : Int32).toInt64 &&& 63)) ||| 0) <<< ((4 : Int32).toInt64 &&& 63)) ||| 0) <<< ((2 : Int32).toInt64 &&& 63)) ||| 3) <<< ((1 : Int32).toInt64 &&& 63)) ||| 0) <<< ((3 : Int32).toInt64 &&& 63)) ||| 0) <<< ((1 : Int32).toInt64 &&& 63)) ||| 0) <<< ((3 : Int32).toInt64 &&& 63)) ||| 0) <<< ((1 : Int32).toInt64 &&& 63)) ||| 0) <<< ((4 : Int32).toInt64 &&& 63)) ||| 0) <<< ((2 : Int32).toInt64 &&& 63)) ||| 3) <<< ((1 : Int32).toInt64 &&& 63)) ||| 0) <<< ((3 : Int32).toInt64 &&& 63)) ||| 0) <<< ((1 : Int32).toInt64 &&& 63)) ||| 0)), (4, .int 0), (3, .int 2), (0, .ref (a 0))]) b dX12_packs_121 rfl (by decide) rfl ?_
  refine z_iinc (k9 := 1) (v := 1) (lv' := [(4, .int 1), (1, .long ((((((((((((((((((((((((((((((((((((((((fi S 0) : Int32).toInt64 <<< ((4 : Int32).toInt64 &&& 63)) ||| 0) <<< ((2 : Int32).toInt64 &&& 63)) ||| 3) <<< ((1 : Int32).toInt64 &&& 63)) ||| 0) <<< ((3 : Int32).toInt64 &&& 63)) ||| 0) <<< ((1 : Int32).toInt64 &&& 63)) ||| 0) <<< ((3 : Int32).toInt64 &&& 63)) ||| 0) <<< ((1 : Int32).toInt64 &&& 63)) ||| 0) <<< ((4 : Int32).toInt64 &&& 63)) ||| 0) <<< ((2 : Int32).toInt64 &&& 63)) ||| 3) <<< ((1 : Int32).toInt64 &&& 63)) ||| 0) <<< ((3 : Int32).toInt64 &&& 63)) ||| 0) <<< ((1 : Int32).toInt64 &&& 63)) ||| 0) <<< ((3 : Int32).toInt64 &&& 63)) ||| 0) <<< ((1 : Int32).toInt64 &&& 63)) ||| 0) <<< ((4 : Int32).toInt64 &&& 63)) ||| 0) <<< ((2 : Int32).toInt64 &&& 63)) ||| 3) <<< ((1 : Int32).toInt64 &&& 63)) ||| 0) <<< ((3 : Int32).toInt64 &&& 63)) ||| 0) <<< ((1 : Int32).toInt64 &&& 63)) ||| 0)), (3, .int 2), (0, .ref (a 0))]) b dX12_packs_122 rfl (by decide) (by decide) rfl ?_
  refine z_goto (tgt := 67) b dX12_packs_125 (by decide) ?_
  refine z_iload b dX12_packs_67 rfl ?_
  refine z_iconst (v := 2) b dX12_packs_69 (by decide) ?_
  refine z_icmp_ge_f (tgt := 128) b dX12_packs_70 (by decide) (by decide) ?_
  refine z_lload_n b dX12_packs_73 rfl rfl ?_
  refine z_iconst (v := 3) b dX12_packs_74 (by decide) ?_
  refine z_lshl b dX12_packs_75 rfl ?_
  refine z_aload_n b dX12_packs_76 rfl rfl ?_
  refine z_get (q0 := 0) (k9 := 1) (v := .ref (a 2)) b (mw_0 cy a S) rfl in_X12 (by decide) wf_X12_17 rfl dX12_packs_77 ?_
  refine z_iconst (v := 3) b dX12_packs_80 (by decide) ?_
  refine z_iload_n b dX12_packs_81 rfl rfl ?_
  refine z_imul (v := 6) b dX12_packs_82 (by decide) ?_
  refine z_iload_n b dX12_packs_83 rfl rfl ?_
  refine z_iload b dX12_packs_84 rfl ?_
  refine z_calli b (z_runS (As := [.int 2, .int 1]) (st := [.int 6, .ref (a 2), .long (((((((((((((((((((((((((((((((((((((((((fi S 0) : Int32).toInt64 <<< ((4 : Int32).toInt64 &&& 63)) ||| 0) <<< ((2 : Int32).toInt64 &&& 63)) ||| 3) <<< ((1 : Int32).toInt64 &&& 63)) ||| 0) <<< ((3 : Int32).toInt64 &&& 63)) ||| 0) <<< ((1 : Int32).toInt64 &&& 63)) ||| 0) <<< ((3 : Int32).toInt64 &&& 63)) ||| 0) <<< ((1 : Int32).toInt64 &&& 63)) ||| 0) <<< ((4 : Int32).toInt64 &&& 63)) ||| 0) <<< ((2 : Int32).toInt64 &&& 63)) ||| 3) <<< ((1 : Int32).toInt64 &&& 63)) ||| 0) <<< ((3 : Int32).toInt64 &&& 63)) ||| 0) <<< ((1 : Int32).toInt64 &&& 63)) ||| 0) <<< ((3 : Int32).toInt64 &&& 63)) ||| 0) <<< ((1 : Int32).toInt64 &&& 63)) ||| 0) <<< ((4 : Int32).toInt64 &&& 63)) ||| 0) <<< ((2 : Int32).toInt64 &&& 63)) ||| 3) <<< ((1 : Int32).toInt64 &&& 63)) ||| 0) <<< ((3 : Int32).toInt64 &&& 63)) ||| 0) <<< ((1 : Int32).toInt64 &&& 63)) ||| 0) <<< ((3 : Int32).toInt64 &&& 63))]) b (c_X12_other S ) cf_X12_other wm_X12_160 ws_X12_other dX12_packs_86 rfl (Nat.le_of_ble_eq_true rfl) ⟨by decide, by decide, by decide, by decide⟩) (fun r751 u752 h750 => ?_)
  obtain ⟨rfl, rfl⟩ := h750
  refine z_iadd (v := 7) b dX12_packs_89 (by decide) ?_
  refine y_iald (q0 := 2) (j := 7) (v := (ar S 1 7)) b (mw_2 cy a S) (by decide) rfl dX12_packs_90 ?_
  refine z_eqi h_a_1_7 ?_
  refine z_i2l (v := 0) b dX12_packs_91 (by decide) ?_
  refine z_lor b dX12_packs_92 rfl ?_
  refine z_lstore_n (lv' := [(1, .long ((((((((((((((((((((((((((((((((((((((((((fi S 0) : Int32).toInt64 <<< ((4 : Int32).toInt64 &&& 63)) ||| 0) <<< ((2 : Int32).toInt64 &&& 63)) ||| 3) <<< ((1 : Int32).toInt64 &&& 63)) ||| 0) <<< ((3 : Int32).toInt64 &&& 63)) ||| 0) <<< ((1 : Int32).toInt64 &&& 63)) ||| 0) <<< ((3 : Int32).toInt64 &&& 63)) ||| 0) <<< ((1 : Int32).toInt64 &&& 63)) ||| 0) <<< ((4 : Int32).toInt64 &&& 63)) ||| 0) <<< ((2 : Int32).toInt64 &&& 63)) ||| 3) <<< ((1 : Int32).toInt64 &&& 63)) ||| 0) <<< ((3 : Int32).toInt64 &&& 63)) ||| 0) <<< ((1 : Int32).toInt64 &&& 63)) ||| 0) <<< ((3 : Int32).toInt64 &&& 63)) ||| 0) <<< ((1 : Int32).toInt64 &&& 63)) ||| 0) <<< ((4 : Int32).toInt64 &&& 63)) ||| 0) <<< ((2 : Int32).toInt64 &&& 63)) ||| 3) <<< ((1 : Int32).toInt64 &&& 63)) ||| 0) <<< ((3 : Int32).toInt64 &&& 63)) ||| 0) <<< ((1 : Int32).toInt64 &&& 63)) ||| 0) <<< ((3 : Int32).toInt64 &&& 63)) ||| 0)), (4, .int 1), (3, .int 2), (0, .ref (a 0))]) b dX12_packs_93 rfl (by decide) rfl ?_
  refine z_lload_n b dX12_packs_94 rfl rfl ?_
  refine z_iconst (v := 1) b dX12_packs_95 (by decide) ?_
  refine z_lshl b dX12_packs_96 rfl ?_
  refine z_aload_n b dX12_packs_97 rfl rfl ?_
  refine z_get (q0 := 0) (k9 := 4) (v := .ref (a 5)) b (mw_0 cy a S) rfl in_X12 (by decide) wf_X12_27 rfl dX12_packs_98 ?_
  refine z_iconst (v := 3) b dX12_packs_101 (by decide) ?_
  refine z_iload_n b dX12_packs_102 rfl rfl ?_
  refine z_imul (v := 6) b dX12_packs_103 (by decide) ?_
  refine z_iload_n b dX12_packs_104 rfl rfl ?_
  refine z_iload b dX12_packs_105 rfl ?_
  refine z_calli b (z_runS (As := [.int 2, .int 1]) (st := [.int 6, .ref (a 5), .long (((((((((((((((((((((((((((((((((((((((((((fi S 0) : Int32).toInt64 <<< ((4 : Int32).toInt64 &&& 63)) ||| 0) <<< ((2 : Int32).toInt64 &&& 63)) ||| 3) <<< ((1 : Int32).toInt64 &&& 63)) ||| 0) <<< ((3 : Int32).toInt64 &&& 63)) ||| 0) <<< ((1 : Int32).toInt64 &&& 63)) ||| 0) <<< ((3 : Int32).toInt64 &&& 63)) ||| 0) <<< ((1 : Int32).toInt64 &&& 63)) ||| 0) <<< ((4 : Int32).toInt64 &&& 63)) ||| 0) <<< ((2 : Int32).toInt64 &&& 63)) ||| 3) <<< ((1 : Int32).toInt64 &&& 63)) ||| 0) <<< ((3 : Int32).toInt64 &&& 63)) ||| 0) <<< ((1 : Int32).toInt64 &&& 63)) ||| 0) <<< ((3 : Int32).toInt64 &&& 63)) ||| 0) <<< ((1 : Int32).toInt64 &&& 63)) ||| 0) <<< ((4 : Int32).toInt64 &&& 63)) ||| 0) <<< ((2 : Int32).toInt64 &&& 63)) ||| 3) <<< ((1 : Int32).toInt64 &&& 63)) ||| 0) <<< ((3 : Int32).toInt64 &&& 63)) ||| 0) <<< ((1 : Int32).toInt64 &&& 63)) ||| 0) <<< ((3 : Int32).toInt64 &&& 63)) ||| 0) <<< ((1 : Int32).toInt64 &&& 63))]) b (c_X12_other S ) cf_X12_other wm_X12_160 ws_X12_other dX12_packs_107 rfl (Nat.le_of_ble_eq_true rfl) ⟨by decide, by decide, by decide, by decide⟩) (fun r754 u755 h753 => ?_)
  obtain ⟨rfl, rfl⟩ := h753
  refine z_iadd (v := 7) b dX12_packs_110 (by decide) ?_
  refine y_zald (q0 := 5) (j := 7) (v := (ar S 4 7)) b (mw_5 cy a S) (by decide) rfl dX12_packs_111 ?_
  refine z_eqi h_a_4_7 ?_
  refine z_if_eq_t (tgt := 119) b dX12_packs_112 (by decide) (by decide) ?_
  refine z_lconst (v := 0) b dX12_packs_119 (by decide) ?_
  refine z_lor b dX12_packs_120 rfl ?_
  refine z_lstore_n (lv' := [(1, .long ((((((((((((((((((((((((((((((((((((((((((((fi S 0) : Int32).toInt64 <<< ((4 : Int32).toInt64 &&& 63)) ||| 0) <<< ((2 : Int32).toInt64 &&& 63)) ||| 3) <<< ((1 : Int32).toInt64 &&& 63)) ||| 0) <<< ((3 : Int32).toInt64 &&& 63)) ||| 0) <<< ((1 : Int32).toInt64 &&& 63)) ||| 0) <<< ((3 : Int32).toInt64 &&& 63)) ||| 0) <<< ((1 : Int32).toInt64 &&& 63)) ||| 0) <<< ((4 : Int32).toInt64 &&& 63)) ||| 0) <<< ((2 : Int32).toInt64 &&& 63)) ||| 3) <<< ((1 : Int32).toInt64 &&& 63)) ||| 0) <<< ((3 : Int32).toInt64 &&& 63)) ||| 0) <<< ((1 : Int32).toInt64 &&& 63)) ||| 0) <<< ((3 : Int32).toInt64 &&& 63)) ||| 0) <<< ((1 : Int32).toInt64 &&& 63)) ||| 0) <<< ((4 : Int32).toInt64 &&& 63)) ||| 0) <<< ((2 : Int32).toInt64 &&& 63)) ||| 3) <<< ((1 : Int32).toInt64 &&& 63)) ||| 0) <<< ((3 : Int32).toInt64 &&& 63)) ||| 0) <<< ((1 : Int32).toInt64 &&& 63)) ||| 0) <<< ((3 : Int32).toInt64 &&& 63)) ||| 0) <<< ((1 : Int32).toInt64 &&& 63)) ||| 0)), (4, .int 1), (3, .int 2), (0, .ref (a 0))]) b dX12_packs_121 rfl (by decide) rfl ?_
  refine z_iinc (k9 := 1) (v := 2) (lv' := [(4, .int 2), (1, .long ((((((((((((((((((((((((((((((((((((((((((((fi S 0) : Int32).toInt64 <<< ((4 : Int32).toInt64 &&& 63)) ||| 0) <<< ((2 : Int32).toInt64 &&& 63)) ||| 3) <<< ((1 : Int32).toInt64 &&& 63)) ||| 0) <<< ((3 : Int32).toInt64 &&& 63)) ||| 0) <<< ((1 : Int32).toInt64 &&& 63)) ||| 0) <<< ((3 : Int32).toInt64 &&& 63)) ||| 0) <<< ((1 : Int32).toInt64 &&& 63)) ||| 0) <<< ((4 : Int32).toInt64 &&& 63)) ||| 0) <<< ((2 : Int32).toInt64 &&& 63)) ||| 3) <<< ((1 : Int32).toInt64 &&& 63)) ||| 0) <<< ((3 : Int32).toInt64 &&& 63)) ||| 0) <<< ((1 : Int32).toInt64 &&& 63)) ||| 0) <<< ((3 : Int32).toInt64 &&& 63)) ||| 0) <<< ((1 : Int32).toInt64 &&& 63)) ||| 0) <<< ((4 : Int32).toInt64 &&& 63)) ||| 0) <<< ((2 : Int32).toInt64 &&& 63)) ||| 3) <<< ((1 : Int32).toInt64 &&& 63)) ||| 0) <<< ((3 : Int32).toInt64 &&& 63)) ||| 0) <<< ((1 : Int32).toInt64 &&& 63)) ||| 0) <<< ((3 : Int32).toInt64 &&& 63)) ||| 0) <<< ((1 : Int32).toInt64 &&& 63)) ||| 0)), (3, .int 2), (0, .ref (a 0))]) b dX12_packs_122 rfl (by decide) (by decide) rfl ?_
  refine z_goto (tgt := 67) b dX12_packs_125 (by decide) ?_
  refine z_iload b dX12_packs_67 rfl ?_
  refine z_iconst (v := 2) b dX12_packs_69 (by decide) ?_
  refine z_icmp_ge_t (tgt := 128) b dX12_packs_70 (by decide) (by decide) ?_
  refine z_iinc (k9 := 2) (v := 3) (lv' := [(3, .int 3), (4, .int 2), (1, .long ((((((((((((((((((((((((((((((((((((((((((((fi S 0) : Int32).toInt64 <<< ((4 : Int32).toInt64 &&& 63)) ||| 0) <<< ((2 : Int32).toInt64 &&& 63)) ||| 3) <<< ((1 : Int32).toInt64 &&& 63)) ||| 0) <<< ((3 : Int32).toInt64 &&& 63)) ||| 0) <<< ((1 : Int32).toInt64 &&& 63)) ||| 0) <<< ((3 : Int32).toInt64 &&& 63)) ||| 0) <<< ((1 : Int32).toInt64 &&& 63)) ||| 0) <<< ((4 : Int32).toInt64 &&& 63)) ||| 0) <<< ((2 : Int32).toInt64 &&& 63)) ||| 3) <<< ((1 : Int32).toInt64 &&& 63)) ||| 0) <<< ((3 : Int32).toInt64 &&& 63)) ||| 0) <<< ((1 : Int32).toInt64 &&& 63)) ||| 0) <<< ((3 : Int32).toInt64 &&& 63)) ||| 0) <<< ((1 : Int32).toInt64 &&& 63)) ||| 0) <<< ((4 : Int32).toInt64 &&& 63)) ||| 0) <<< ((2 : Int32).toInt64 &&& 63)) ||| 3) <<< ((1 : Int32).toInt64 &&& 63)) ||| 0) <<< ((3 : Int32).toInt64 &&& 63)) ||| 0) <<< ((1 : Int32).toInt64 &&& 63)) ||| 0) <<< ((3 : Int32).toInt64 &&& 63)) ||| 0) <<< ((1 : Int32).toInt64 &&& 63)) ||| 0)), (0, .ref (a 0))]) b dX12_packs_128 rfl (by decide) (by decide) rfl ?_
  refine z_goto (tgt := 8) b dX12_packs_131 (by decide) ?_
  refine z_iload_n b dX12_packs_8 rfl rfl ?_
  refine z_iconst (v := 3) b dX12_packs_9 (by decide) ?_
  refine z_icmp_ge_t (tgt := 134) b dX12_packs_10 (by decide) (by decide) ?_
  refine z_lload_n b dX12_packs_134 rfl rfl ?_
  exact z_lret (u := S) b rfl dX12_packs_135 ⟨rfl, rfl⟩ rfl (by decide) (by decide)

set_option maxHeartbeats 4000000 in
set_option maxRecDepth 100000 in
theorem c_X12_told_7 {l : Launch} {D : va_G} {cy : Nat → ClassId} {T0 tB tE : Nat} {a : Nat → Nat} (S : GS)  (h_a_0_0 : ar S 0 0 = 0) (h_a_2_0 : ar S 2 0 = 3) (h_a_3_1 : ar S 3 1 = 0) (h_a_1_1 : ar S 1 1 = 0) (h_a_4_1 : ar S 4 1 = 0) (h_a_1_2 : ar S 1 2 = 0) (h_a_4_2 : ar S 4 2 = 0) (h_a_0_1 : ar S 0 1 = 0) (h_a_2_1 : ar S 2 1 = 3) (h_a_3_5 : ar S 3 5 = 0) (h_a_1_5 : ar S 1 5 = 0) (h_a_4_5 : ar S 4 5 = 0) (h_a_1_3 : ar S 1 3 = 0) (h_a_4_3 : ar S 4 3 = 0) (h_a_0_2 : ar S 0 2 = 0) (h_a_2_2 : ar S 2 2 = 3) (h_a_3_6 : ar S 3 6 = 0) (h_a_1_6 : ar S 1 6 = 0) (h_a_4_6 : ar S 4 6 = 0) (h_a_1_7 : ar S 1 7 = 0) (h_a_4_7 : ar S 4 7 = 0) : Ct l D cy T0 tB tE yX12_told cX12_told 1 (some .boolean) 2 45 0 0 (mw cy a S) [.ref (a 0)] (QI D (U := GS) (fun r u => 1 = r ∧ sl S 0 ((((((((((((((((((((((((((((((((((((((((((((fi S 0) : Int32).toInt64 <<< ((4 : Int32).toInt64 &&& 63)) ||| 0) <<< ((2 : Int32).toInt64 &&& 63)) ||| 3) <<< ((1 : Int32).toInt64 &&& 63)) ||| 0) <<< ((3 : Int32).toInt64 &&& 63)) ||| 0) <<< ((1 : Int32).toInt64 &&& 63)) ||| 0) <<< ((3 : Int32).toInt64 &&& 63)) ||| 0) <<< ((1 : Int32).toInt64 &&& 63)) ||| 0) <<< ((4 : Int32).toInt64 &&& 63)) ||| 0) <<< ((2 : Int32).toInt64 &&& 63)) ||| 3) <<< ((1 : Int32).toInt64 &&& 63)) ||| 0) <<< ((3 : Int32).toInt64 &&& 63)) ||| 0) <<< ((1 : Int32).toInt64 &&& 63)) ||| 0) <<< ((3 : Int32).toInt64 &&& 63)) ||| 0) <<< ((1 : Int32).toInt64 &&& 63)) ||| 0) <<< ((4 : Int32).toInt64 &&& 63)) ||| 0) <<< ((2 : Int32).toInt64 &&& 63)) ||| 3) <<< ((1 : Int32).toInt64 &&& 63)) ||| 0) <<< ((3 : Int32).toInt64 &&& 63)) ||| 0) <<< ((1 : Int32).toInt64 &&& 63)) ||| 0) <<< ((3 : Int32).toInt64 &&& 63)) ||| 0) <<< ((1 : Int32).toInt64 &&& 63)) ||| 0) = u) (mw cy a)) := by
  refine Ct.ofZ RX12 "told" [(0, .ref (a 0))] rfl rfl rfl rfl (Nat.le_of_ble_eq_true rfl) ?_
  intro p e R s m args below meth c A b
  refine z_aload_n b dX12_told_0 rfl rfl ?_
  refine z_aload_n b dX12_told_1 rfl rfl ?_
  refine z_calll b (z_runV (q0 := 0) (As := []) (st := [.ref (a 0)]) b (c_X12_packs_7 S h_a_0_0 h_a_2_0 h_a_3_1 h_a_1_1 h_a_4_1 h_a_1_2 h_a_4_2 h_a_0_1 h_a_2_1 h_a_3_5 h_a_1_5 h_a_4_5 h_a_1_3 h_a_4_3 h_a_0_2 h_a_2_2 h_a_3_6 h_a_1_6 h_a_4_6 h_a_1_7 h_a_4_7) cf_X12_packs (mw_0 cy a S) rfl wm_X12_149 wi_X12_packs ws_X12_packs dX12_told_2 rfl (Nat.le_of_ble_eq_true rfl) ⟨by decide, by decide, by decide, by decide⟩) (fun r757 u758 h756 => ?_)
  obtain ⟨rfl, rfl⟩ := h756
  refine z_put (q0 := 0) (k9 := 6) tyX12 b (mw_0 cy a S) rfl in_X12 tyX12_ok nmX12 (by decide) wf_X12_153 rfl rfl rfl rfl (Nat.le_of_ble_eq_true rfl) dX12_told_5 (mwp_0_6 cy a S ((((((((((((((((((((((((((((((((((((((((((((fi S 0) : Int32).toInt64 <<< ((4 : Int32).toInt64 &&& 63)) ||| 0) <<< ((2 : Int32).toInt64 &&& 63)) ||| 3) <<< ((1 : Int32).toInt64 &&& 63)) ||| 0) <<< ((3 : Int32).toInt64 &&& 63)) ||| 0) <<< ((1 : Int32).toInt64 &&& 63)) ||| 0) <<< ((3 : Int32).toInt64 &&& 63)) ||| 0) <<< ((1 : Int32).toInt64 &&& 63)) ||| 0) <<< ((4 : Int32).toInt64 &&& 63)) ||| 0) <<< ((2 : Int32).toInt64 &&& 63)) ||| 3) <<< ((1 : Int32).toInt64 &&& 63)) ||| 0) <<< ((3 : Int32).toInt64 &&& 63)) ||| 0) <<< ((1 : Int32).toInt64 &&& 63)) ||| 0) <<< ((3 : Int32).toInt64 &&& 63)) ||| 0) <<< ((1 : Int32).toInt64 &&& 63)) ||| 0) <<< ((4 : Int32).toInt64 &&& 63)) ||| 0) <<< ((2 : Int32).toInt64 &&& 63)) ||| 3) <<< ((1 : Int32).toInt64 &&& 63)) ||| 0) <<< ((3 : Int32).toInt64 &&& 63)) ||| 0) <<< ((1 : Int32).toInt64 &&& 63)) ||| 0) <<< ((3 : Int32).toInt64 &&& 63)) ||| 0) <<< ((1 : Int32).toInt64 &&& 63)) ||| 0)) ?_
  refine z_iconst (v := 1) b dX12_told_8 (by decide) ?_
  exact z_zret (u := (sl S 0 ((((((((((((((((((((((((((((((((((((((((((((fi S 0) : Int32).toInt64 <<< ((4 : Int32).toInt64 &&& 63)) ||| 0) <<< ((2 : Int32).toInt64 &&& 63)) ||| 3) <<< ((1 : Int32).toInt64 &&& 63)) ||| 0) <<< ((3 : Int32).toInt64 &&& 63)) ||| 0) <<< ((1 : Int32).toInt64 &&& 63)) ||| 0) <<< ((3 : Int32).toInt64 &&& 63)) ||| 0) <<< ((1 : Int32).toInt64 &&& 63)) ||| 0) <<< ((4 : Int32).toInt64 &&& 63)) ||| 0) <<< ((2 : Int32).toInt64 &&& 63)) ||| 3) <<< ((1 : Int32).toInt64 &&& 63)) ||| 0) <<< ((3 : Int32).toInt64 &&& 63)) ||| 0) <<< ((1 : Int32).toInt64 &&& 63)) ||| 0) <<< ((3 : Int32).toInt64 &&& 63)) ||| 0) <<< ((1 : Int32).toInt64 &&& 63)) ||| 0) <<< ((4 : Int32).toInt64 &&& 63)) ||| 0) <<< ((2 : Int32).toInt64 &&& 63)) ||| 3) <<< ((1 : Int32).toInt64 &&& 63)) ||| 0) <<< ((3 : Int32).toInt64 &&& 63)) ||| 0) <<< ((1 : Int32).toInt64 &&& 63)) ||| 0) <<< ((3 : Int32).toInt64 &&& 63)) ||| 0) <<< ((1 : Int32).toInt64 &&& 63)) ||| 0))) b rfl (by decide) dX12_told_9 ⟨rfl, rfl⟩ rfl (by decide) (by decide)

set_option maxHeartbeats 4000000 in
set_option maxRecDepth 100000 in
theorem c_X12_day_2 {l : Launch} {D : va_G} {cy : Nat → ClassId} {T0 tB tE : Nat} {a : Nat → Nat} (S : GS) (p0 : Int32) (h_l_0 : fl S 0 = 1649317774848) (h_a_4_7 : ar S 4 7 = 0) (h_a_1_7 : ar S 1 7 = 0) (h_a_4_6 : ar S 4 6 = 0) (h_a_1_6 : ar S 1 6 = 0) (h_a_3_6 : ar S 3 6 = 0) (h_a_3_2 : ar S 3 2 = 0) (h_a_2_2 : ar S 2 2 = 3) (h_a_0_2 : ar S 0 2 = 0) (h_a_4_3 : ar S 4 3 = 0) (h_a_1_3 : ar S 1 3 = 0) (h_a_4_5 : ar S 4 5 = 0) (h_a_1_5 : ar S 1 5 = 0) (h_a_3_5 : ar S 3 5 = 0) (h_a_3_7 : ar S 3 7 = 0) (h_a_2_1 : ar S 2 1 = 3) (h_a_0_1 : ar S 0 1 = 0) (h_a_4_2 : ar S 4 2 = 0) (h_a_1_2 : ar S 1 2 = 0) (h_a_4_1 : ar S 4 1 = 0) (h_a_1_1 : ar S 1 1 = 0) (h_a_3_1 : ar S 3 1 = 0) (h_a_3_3 : ar S 3 3 = 0) (h_a_2_0 : ar S 2 0 = 3) (h_a_0_0 : ar S 0 0 = 0) (h_i_0 : fi S 0 = 0) (hr_p0 : 0 ≤ p0.toInt ∧ p0.toInt ≤ 15) : Ct l D cy T0 tB tE yX12_day cX12_day 2 (some .boolean) 3 65 0 0 (mw cy a S) [.ref (a 0), .int p0] (QI D (U := GS) (fun r u => 1 = r ∧ sl (si S 0 p0) 0 ((((((((((((((((((((((((((((((((((((((((((((fi (si S 0 p0) 0) : Int32).toInt64 <<< ((4 : Int32).toInt64 &&& 63)) ||| 0) <<< ((2 : Int32).toInt64 &&& 63)) ||| 3) <<< ((1 : Int32).toInt64 &&& 63)) ||| 0) <<< ((3 : Int32).toInt64 &&& 63)) ||| 0) <<< ((1 : Int32).toInt64 &&& 63)) ||| 0) <<< ((3 : Int32).toInt64 &&& 63)) ||| 0) <<< ((1 : Int32).toInt64 &&& 63)) ||| 0) <<< ((4 : Int32).toInt64 &&& 63)) ||| 0) <<< ((2 : Int32).toInt64 &&& 63)) ||| 3) <<< ((1 : Int32).toInt64 &&& 63)) ||| 0) <<< ((3 : Int32).toInt64 &&& 63)) ||| 0) <<< ((1 : Int32).toInt64 &&& 63)) ||| 0) <<< ((3 : Int32).toInt64 &&& 63)) ||| 0) <<< ((1 : Int32).toInt64 &&& 63)) ||| 0) <<< ((4 : Int32).toInt64 &&& 63)) ||| 0) <<< ((2 : Int32).toInt64 &&& 63)) ||| 3) <<< ((1 : Int32).toInt64 &&& 63)) ||| 0) <<< ((3 : Int32).toInt64 &&& 63)) ||| 0) <<< ((1 : Int32).toInt64 &&& 63)) ||| 0) <<< ((3 : Int32).toInt64 &&& 63)) ||| 0) <<< ((1 : Int32).toInt64 &&& 63)) ||| 0) = u) (mw cy a)) := by
  refine Ct.ofZ RX12 "day" [(0, .ref (a 0)), (1, .int p0)] rfl rfl rfl rfl (Nat.le_of_ble_eq_true rfl) ?_
  intro p e R s m args below meth c A b
  refine z_iload_n b dX12_day_0 rfl rfl ?_
  refine z_iconst (v := 0) b dX12_day_1 (by decide) ?_
  refine z_bipush (v := 15) b dX12_day_2 (by decide) ?_
  refine z_calli b (z_runS (As := [.int p0, .int 0, .int 15]) (st := []) b (c_X12_isIn_5 S p0 ⟨by omega, by omega⟩) cf_X12_isIn wm_X12_1 ws_X12_isIn dX12_day_4 rfl (Nat.le_of_ble_eq_true rfl) ⟨by decide, by decide, by decide, by decide⟩) (fun r706 u707 h705 => ?_)
  obtain ⟨rfl, rfl⟩ := h705
  refine z_if_ne_t (tgt := 12) b dX12_day_7 (by decide) (by decide) ?_
  refine z_aload_n b dX12_day_12 rfl rfl ?_
  refine z_aload_n b dX12_day_13 rfl rfl ?_
  refine z_get (q0 := 0) (k9 := 6) (v := .long (fl S 0)) b (mw_0 cy a S) rfl in_X12 (by decide) wf_X12_153 rfl dX12_day_14 ?_
  refine z_eql h_l_0 ?_
  refine z_callv b (z_runV (q0 := 0) (As := [.long 1649317774848]) (st := []) b (c_X12_takes S h_a_4_7 h_a_1_7 h_a_4_6 h_a_1_6 h_a_3_6 h_a_3_2 h_a_2_2 h_a_0_2 h_a_4_3 h_a_1_3 h_a_4_5 h_a_1_5 h_a_3_5 h_a_3_7 h_a_2_1 h_a_0_1 h_a_4_2 h_a_1_2 h_a_4_1 h_a_1_1 h_a_3_1 h_a_3_3 h_a_2_0 h_a_0_0 h_i_0) cf_X12_takes (mw_0 cy a S) rfl wm_X12_174 wi_X12_takes ws_X12_takes dX12_day_17 rfl (Nat.le_of_ble_eq_true rfl) ⟨by decide, by decide, by decide, by decide⟩) (fun u710 h708 => ?_)
  obtain rfl := h708
  refine z_aload_n b dX12_day_20 rfl rfl ?_
  refine z_iload_n b dX12_day_21 rfl rfl ?_
  refine z_put (q0 := 0) (k9 := 5) tyX12 b (mw_0 cy a S) rfl in_X12 tyX12_ok nmX12 (by decide) wf_X12_157 rfl rfl rfl rfl (Nat.le_of_ble_eq_true rfl) dX12_day_22 (mwp_0_5 cy a S p0) ?_
  refine z_aload_n b dX12_day_25 rfl rfl ?_
  refine z_calli b (z_runV (q0 := 0) (As := []) (st := []) b (c_X12_told_7 (si S 0 p0) h_a_0_0 h_a_2_0 h_a_3_1 h_a_1_1 h_a_4_1 h_a_1_2 h_a_4_2 h_a_0_1 h_a_2_1 h_a_3_5 h_a_1_5 h_a_4_5 h_a_1_3 h_a_4_3 h_a_0_2 h_a_2_2 h_a_3_6 h_a_1_6 h_a_4_6 h_a_1_7 h_a_4_7) cf_X12_told (mw_0 cy a (si S 0 p0)) rfl wm_X12_178 wi_X12_told ws_X12_told dX12_day_26 rfl (Nat.le_of_ble_eq_true rfl) ⟨by decide, by decide, by decide, by decide⟩) (fun r760 u761 h759 => ?_)
  obtain ⟨rfl, rfl⟩ := h759
  exact z_zret (u := (sl (si S 0 p0) 0 ((((((((((((((((((((((((((((((((((((((((((((fi (si S 0 p0) 0) : Int32).toInt64 <<< ((4 : Int32).toInt64 &&& 63)) ||| 0) <<< ((2 : Int32).toInt64 &&& 63)) ||| 3) <<< ((1 : Int32).toInt64 &&& 63)) ||| 0) <<< ((3 : Int32).toInt64 &&& 63)) ||| 0) <<< ((1 : Int32).toInt64 &&& 63)) ||| 0) <<< ((3 : Int32).toInt64 &&& 63)) ||| 0) <<< ((1 : Int32).toInt64 &&& 63)) ||| 0) <<< ((4 : Int32).toInt64 &&& 63)) ||| 0) <<< ((2 : Int32).toInt64 &&& 63)) ||| 3) <<< ((1 : Int32).toInt64 &&& 63)) ||| 0) <<< ((3 : Int32).toInt64 &&& 63)) ||| 0) <<< ((1 : Int32).toInt64 &&& 63)) ||| 0) <<< ((3 : Int32).toInt64 &&& 63)) ||| 0) <<< ((1 : Int32).toInt64 &&& 63)) ||| 0) <<< ((4 : Int32).toInt64 &&& 63)) ||| 0) <<< ((2 : Int32).toInt64 &&& 63)) ||| 3) <<< ((1 : Int32).toInt64 &&& 63)) ||| 0) <<< ((3 : Int32).toInt64 &&& 63)) ||| 0) <<< ((1 : Int32).toInt64 &&& 63)) ||| 0) <<< ((3 : Int32).toInt64 &&& 63)) ||| 0) <<< ((1 : Int32).toInt64 &&& 63)) ||| 0))) b rfl (by decide) dX12_day_29 ⟨rfl, rfl⟩ rfl (by decide) (by decide)

set_option maxHeartbeats 4000000 in
set_option maxRecDepth 100000 in
theorem c_X11_day_3 {l : Launch} {D : va_G} {cy : Nat → ClassId} {T0 tB tE : Nat} {a : Nat → Nat} {rw : Nat → Option Nat} (S : GS) (p0 : Int32)  (hr_p0 : 16 ≤ p0.toInt ∧ p0.toInt ≤ 2147483647) : Ct l D cy T0 tB tE yX11_day cX11_day 2 (some .boolean) 1 21 0 0 (cw cy tE a rw S) [.ref (a 0), .int p0] (QI D (U := GS) (fun r u => 0 = r ∧ S = u) (cw cy tE a rw)) := by
  refine Ct.ofZ RX11 "day" [(0, .ref (a 0)), (1, .int p0)] rfl rfl rfl rfl (Nat.le_of_ble_eq_true rfl) ?_
  intro p e R s m args below meth c A b
  refine z_iload_n b dX11_day_0 rfl rfl ?_
  refine z_bipush (v := 15) b dX11_day_1 (by decide) ?_
  refine z_calli b (z_runS (As := [.int p0, .int 15]) (st := []) b (c_X11_isWithin_3 S p0 ⟨by omega, by omega⟩) cf_X11_isWithin wm_X11_73 ws_X11_isWithin dX11_day_3 rfl (Nat.le_of_ble_eq_true rfl) ⟨by decide, by decide, by decide, by decide⟩) (fun r763 u764 h762 => ?_)
  obtain ⟨rfl, rfl⟩ := h762
  refine z_if_ne_f (tgt := 11) b dX11_day_6 (by decide) (by decide) ?_
  refine z_iconst (v := 0) b dX11_day_9 (by decide) ?_
  exact z_zret (u := S) b rfl (by decide) dX11_day_10 ⟨rfl, rfl⟩ rfl (by decide) (by decide)

set_option maxHeartbeats 4000000 in
set_option maxRecDepth 100000 in
theorem c_X12_day_3 {l : Launch} {D : va_G} {cy : Nat → ClassId} {T0 tB tE : Nat} {a : Nat → Nat} (S : GS) (p0 : Int32)  (hr_p0 : 16 ≤ p0.toInt ∧ p0.toInt ≤ 2147483647) : Ct l D cy T0 tB tE yX12_day cX12_day 2 (some .boolean) 1 22 0 0 (mw cy a S) [.ref (a 0), .int p0] (QI D (U := GS) (fun r u => 0 = r ∧ S = u) (mw cy a)) := by
  refine Ct.ofZ RX12 "day" [(0, .ref (a 0)), (1, .int p0)] rfl rfl rfl rfl (Nat.le_of_ble_eq_true rfl) ?_
  intro p e R s m args below meth c A b
  refine z_iload_n b dX12_day_0 rfl rfl ?_
  refine z_iconst (v := 0) b dX12_day_1 (by decide) ?_
  refine z_bipush (v := 15) b dX12_day_2 (by decide) ?_
  refine z_calli b (z_runS (As := [.int p0, .int 0, .int 15]) (st := []) b (c_X12_isIn_6 S p0 ⟨by omega, by omega⟩) cf_X12_isIn wm_X12_1 ws_X12_isIn dX12_day_4 rfl (Nat.le_of_ble_eq_true rfl) ⟨by decide, by decide, by decide, by decide⟩) (fun r766 u767 h765 => ?_)
  obtain ⟨rfl, rfl⟩ := h765
  refine z_if_ne_f (tgt := 12) b dX12_day_7 (by decide) (by decide) ?_
  refine z_iconst (v := 0) b dX12_day_10 (by decide) ?_
  exact z_zret (u := S) b rfl (by decide) dX12_day_11 ⟨rfl, rfl⟩ rfl (by decide) (by decide)

