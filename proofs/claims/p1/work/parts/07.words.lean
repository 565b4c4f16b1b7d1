theorem wm_X11_69 : Cond.methodLink RX11 69 yX11_isPerson ∈ gT := gT_of 477 (by decide +kernel) (by decide +kernel)
theorem cf_X11_isPerson : Cf yX11_isPerson cX11_isPerson 1 (some .boolean) 1 := ⟨gT_of 479 (by decide +kernel) (by decide +kernel), gT_of 84 (by decide +kernel) (by decide +kernel), by decide +kernel, by decide +kernel, by decide +kernel⟩
theorem ws_X11_isPerson : Cond.static yX11_isPerson ∈ gT := gT_of 478 (by decide +kernel) (by decide +kernel)
theorem wm_X11_73 : Cond.methodLink RX11 73 yX11_isWithin ∈ gT := gT_of 480 (by decide +kernel) (by decide +kernel)
theorem cf_X11_isWithin : Cf yX11_isWithin cX11_isWithin 2 (some .boolean) 2 := ⟨gT_of 482 (by decide +kernel) (by decide +kernel), gT_of 84 (by decide +kernel) (by decide +kernel), by decide +kernel, by decide +kernel, by decide +kernel⟩
theorem ws_X11_isWithin : Cond.static yX11_isWithin ∈ gT := gT_of 481 (by decide +kernel) (by decide +kernel)
theorem wf_X11_34 : Cond.fieldLink RX11 34 "LawHoles" "beginning" "LLawHoles$State;" ∈ gT := gT_of 449 (by decide +kernel) (by decide +kernel)
theorem wm_X11_77 : Cond.methodLink RX11 77 yX9_set ∈ gT := gT_of 483 (by decide +kernel) (by decide +kernel)
theorem wf_X9_11 : Cond.fieldLink RX9 11 "LawHoles$State" "at" "[I" ∈ gT := gT_of 298 (by decide +kernel) (by decide +kernel)
theorem cf_X9_set : Cf yX9_set cX9_set 3 none 2 := ⟨gT_of 486 (by decide +kernel) (by decide +kernel), gT_of 95 (by decide +kernel) (by decide +kernel), by decide +kernel, by decide +kernel, by decide +kernel⟩
theorem wi_X9_set : Cond.instanceMethod yX9_set ∈ gT := gT_of 484 (by decide +kernel) (by decide +kernel)
theorem ws_X9_set : Cond.selects yX9_set.cls yX9_set yX9_set ∈ gT := gT_of 485 (by decide +kernel) (by decide +kernel)
theorem wf_X11_52 : Cond.fieldLink RX11 52 "LawHoles" "search" "LLawHoles$Search;" ∈ gT := gT_of 451 (by decide +kernel) (by decide +kernel)
theorem wm_X11_81 : Cond.methodLink RX11 81 yX8_forget ∈ gT := gT_of 487 (by decide +kernel) (by decide +kernel)
theorem wf_X8_60 : Cond.fieldLink RX8 60 "LawHoles$Search" "isKnown" "Z" ∈ gT := gT_of 378 (by decide +kernel) (by decide +kernel)
theorem cf_X8_forget : Cf yX8_forget cX8_forget 1 none 0 := ⟨gT_of 490 (by decide +kernel) (by decide +kernel), gT_of 98 (by decide +kernel) (by decide +kernel), by decide +kernel, by decide +kernel, by decide +kernel⟩
theorem wi_X8_forget : Cond.instanceMethod yX8_forget ∈ gT := gT_of 488 (by decide +kernel) (by decide +kernel)
theorem ws_X8_forget : Cond.selects yX8_forget.cls yX8_forget yX8_forget ∈ gT := gT_of 489 (by decide +kernel) (by decide +kernel)
theorem wm_X11_87 : Cond.methodLink RX11 87 yX11_isThing ∈ gT := gT_of 506 (by decide +kernel) (by decide +kernel)
theorem cf_X11_isThing : Cf yX11_isThing cX11_isThing 1 (some .boolean) 1 := ⟨gT_of 508 (by decide +kernel) (by decide +kernel), gT_of 84 (by decide +kernel) (by decide +kernel), by decide +kernel, by decide +kernel, by decide +kernel⟩
theorem ws_X11_isThing : Cond.static yX11_isThing ∈ gT := gT_of 507 (by decide +kernel) (by decide +kernel)
theorem dX11_coin_0 : decode cX11_coin 0 = .ok (.iload_n 1, 1) := by decide +kernel
theorem dX11_coin_1 : decode cX11_coin 1 = .ok (.invokestatic 69, 3) := by decide +kernel
theorem dX11_coin_4 : decode cX11_coin 4 = .ok (.ifCond .eq 12, 3) := by decide +kernel
theorem dX11_coin_7 : decode cX11_coin 7 = .ok (.iload_n 2, 1) := by decide +kernel
theorem dX11_coin_8 : decode cX11_coin 8 = .ok (.bipush 15, 2) := by decide +kernel
theorem dX11_coin_10 : decode cX11_coin 10 = .ok (.invokestatic 73, 3) := by decide +kernel
theorem dX11_coin_13 : decode cX11_coin 13 = .ok (.ifCond .ne 5, 3) := by decide +kernel
theorem dX11_coin_16 : decode cX11_coin 16 = .ok (.iconst 0, 1) := by decide +kernel
theorem dX11_coin_17 : decode cX11_coin 17 = .ok (.ireturn, 1) := by decide +kernel
theorem dX11_coin_18 : decode cX11_coin 18 = .ok (.aload_n 0, 1) := by decide +kernel
theorem dX11_coin_19 : decode cX11_coin 19 = .ok (.getfield 34, 3) := by decide +kernel
theorem dX11_coin_22 : decode cX11_coin 22 = .ok (.iload_n 1, 1) := by decide +kernel
theorem dX11_coin_23 : decode cX11_coin 23 = .ok (.iload_n 2, 1) := by decide +kernel
theorem dX11_coin_24 : decode cX11_coin 24 = .ok (.invokevirtual 77, 3) := by decide +kernel
theorem dX11_coin_27 : decode cX11_coin 27 = .ok (.aload_n 0, 1) := by decide +kernel
theorem dX11_coin_28 : decode cX11_coin 28 = .ok (.getfield 52, 3) := by decide +kernel
theorem dX11_coin_31 : decode cX11_coin 31 = .ok (.invokevirtual 81, 3) := by decide +kernel
theorem dX11_coin_34 : decode cX11_coin 34 = .ok (.iconst 1, 1) := by decide +kernel
theorem dX11_coin_35 : decode cX11_coin 35 = .ok (.ireturn, 1) := by decide +kernel
theorem dX11_day_0 : decode cX11_day 0 = .ok (.iload_n 1, 1) := by decide +kernel
theorem dX11_day_1 : decode cX11_day 1 = .ok (.bipush 15, 2) := by decide +kernel
theorem dX11_day_3 : decode cX11_day 3 = .ok (.invokestatic 73, 3) := by decide +kernel
theorem dX11_day_6 : decode cX11_day 6 = .ok (.ifCond .ne 5, 3) := by decide +kernel
theorem dX11_day_9 : decode cX11_day 9 = .ok (.iconst 0, 1) := by decide +kernel
theorem dX11_day_10 : decode cX11_day 10 = .ok (.ireturn, 1) := by decide +kernel
theorem dX11_day_11 : decode cX11_day 11 = .ok (.aload_n 0, 1) := by decide +kernel
theorem dX11_day_12 : decode cX11_day 12 = .ok (.getfield 34, 3) := by decide +kernel
theorem dX11_day_15 : decode cX11_day 15 = .ok (.bipush 50, 2) := by decide +kernel
theorem dX11_day_17 : decode cX11_day 17 = .ok (.iload_n 1, 1) := by decide +kernel
theorem dX11_day_18 : decode cX11_day 18 = .ok (.invokevirtual 77, 3) := by decide +kernel
theorem dX11_day_21 : decode cX11_day 21 = .ok (.aload_n 0, 1) := by decide +kernel
theorem dX11_day_22 : decode cX11_day 22 = .ok (.getfield 52, 3) := by decide +kernel
theorem dX11_day_25 : decode cX11_day 25 = .ok (.invokevirtual 81, 3) := by decide +kernel
theorem dX11_day_28 : decode cX11_day 28 = .ok (.iconst 1, 1) := by decide +kernel
theorem dX11_day_29 : decode cX11_day 29 = .ok (.ireturn, 1) := by decide +kernel
theorem dX11_isPerson_0 : decode cX11_isPerson 0 = .ok (.iload_n 0, 1) := by decide +kernel
theorem dX11_isPerson_1 : decode cX11_isPerson 1 = .ok (.ifCond .lt 12, 3) := by decide +kernel
theorem dX11_isPerson_4 : decode cX11_isPerson 4 = .ok (.iload_n 0, 1) := by decide +kernel
theorem dX11_isPerson_5 : decode cX11_isPerson 5 = .ok (.iconst 3, 1) := by decide +kernel
theorem dX11_isPerson_6 : decode cX11_isPerson 6 = .ok (.if_icmp .ge 7, 3) := by decide +kernel
theorem dX11_isPerson_9 : decode cX11_isPerson 9 = .ok (.iconst 1, 1) := by decide +kernel
theorem dX11_isPerson_10 : decode cX11_isPerson 10 = .ok (.goto 4, 3) := by decide +kernel
theorem dX11_isPerson_13 : decode cX11_isPerson 13 = .ok (.iconst 0, 1) := by decide +kernel
theorem dX11_isPerson_14 : decode cX11_isPerson 14 = .ok (.ireturn, 1) := by decide +kernel
theorem dX11_isThing_0 : decode cX11_isThing 0 = .ok (.iload_n 0, 1) := by decide +kernel
theorem dX11_isThing_1 : decode cX11_isThing 1 = .ok (.ifCond .lt 12, 3) := by decide +kernel
theorem dX11_isThing_4 : decode cX11_isThing 4 = .ok (.iload_n 0, 1) := by decide +kernel
theorem dX11_isThing_5 : decode cX11_isThing 5 = .ok (.iconst 3, 1) := by decide +kernel
theorem dX11_isThing_6 : decode cX11_isThing 6 = .ok (.if_icmp .ge 7, 3) := by decide +kernel
theorem dX11_isThing_9 : decode cX11_isThing 9 = .ok (.iconst 1, 1) := by decide +kernel
theorem dX11_isThing_10 : decode cX11_isThing 10 = .ok (.goto 4, 3) := by decide +kernel
theorem dX11_isThing_13 : decode cX11_isThing 13 = .ok (.iconst 0, 1) := by decide +kernel
theorem dX11_isThing_14 : decode cX11_isThing 14 = .ok (.ireturn, 1) := by decide +kernel
theorem dX11_isWithin_0 : decode cX11_isWithin 0 = .ok (.iload_n 0, 1) := by decide +kernel
theorem dX11_isWithin_1 : decode cX11_isWithin 1 = .ok (.ifCond .lt 12, 3) := by decide +kernel
theorem dX11_isWithin_4 : decode cX11_isWithin 4 = .ok (.iload_n 0, 1) := by decide +kernel
theorem dX11_isWithin_5 : decode cX11_isWithin 5 = .ok (.iload_n 1, 1) := by decide +kernel
theorem dX11_isWithin_6 : decode cX11_isWithin 6 = .ok (.if_icmp .gt 7, 3) := by decide +kernel
theorem dX11_isWithin_9 : decode cX11_isWithin 9 = .ok (.iconst 1, 1) := by decide +kernel
theorem dX11_isWithin_10 : decode cX11_isWithin 10 = .ok (.goto 4, 3) := by decide +kernel
theorem dX11_isWithin_13 : decode cX11_isWithin 13 = .ok (.iconst 0, 1) := by decide +kernel
theorem dX11_isWithin_14 : decode cX11_isWithin 14 = .ok (.ireturn, 1) := by decide +kernel
theorem dX11_owner_0 : decode cX11_owner 0 = .ok (.iload_n 1, 1) := by decide +kernel
theorem dX11_owner_1 : decode cX11_owner 1 = .ok (.invokestatic 87, 3) := by decide +kernel
theorem dX11_owner_4 : decode cX11_owner 4 = .ok (.ifCond .eq 11, 3) := by decide +kernel
theorem dX11_owner_7 : decode cX11_owner 7 = .ok (.iload_n 2, 1) := by decide +kernel
theorem dX11_owner_8 : decode cX11_owner 8 = .ok (.iconst 3, 1) := by decide +kernel
theorem dX11_owner_9 : decode cX11_owner 9 = .ok (.invokestatic 73, 3) := by decide +kernel
theorem dX11_owner_12 : decode cX11_owner 12 = .ok (.ifCond .ne 5, 3) := by decide +kernel
theorem dX11_owner_15 : decode cX11_owner 15 = .ok (.iconst 0, 1) := by decide +kernel
theorem dX11_owner_16 : decode cX11_owner 16 = .ok (.ireturn, 1) := by decide +kernel
theorem dX11_owner_17 : decode cX11_owner 17 = .ok (.aload_n 0, 1) := by decide +kernel
theorem dX11_owner_18 : decode cX11_owner 18 = .ok (.getfield 34, 3) := by decide +kernel
theorem dX11_owner_21 : decode cX11_owner 21 = .ok (.bipush 40, 2) := by decide +kernel
theorem dX11_owner_23 : decode cX11_owner 23 = .ok (.iload_n 1, 1) := by decide +kernel
theorem dX11_owner_24 : decode cX11_owner 24 = .ok (.iadd, 1) := by decide +kernel
theorem dX11_owner_25 : decode cX11_owner 25 = .ok (.iload_n 2, 1) := by decide +kernel
theorem dX11_owner_26 : decode cX11_owner 26 = .ok (.invokevirtual 77, 3) := by decide +kernel
theorem dX11_owner_29 : decode cX11_owner 29 = .ok (.aload_n 0, 1) := by decide +kernel
theorem dX11_owner_30 : decode cX11_owner 30 = .ok (.getfield 52, 3) := by decide +kernel
theorem dX11_owner_33 : decode cX11_owner 33 = .ok (.invokevirtual 81, 3) := by decide +kernel
theorem dX11_owner_36 : decode cX11_owner 36 = .ok (.iconst 1, 1) := by decide +kernel
theorem dX11_owner_37 : decode cX11_owner 37 = .ok (.ireturn, 1) := by decide +kernel
theorem dX8_forget_0 : decode cX8_forget 0 = .ok (.aload_n 0, 1) := by decide +kernel
theorem dX8_forget_1 : decode cX8_forget 1 = .ok (.iconst 0, 1) := by decide +kernel
theorem dX8_forget_2 : decode cX8_forget 2 = .ok (.putfield 60, 3) := by decide +kernel
theorem dX8_forget_5 : decode cX8_forget 5 = .ok (.return_, 1) := by decide +kernel
theorem dX9_set_0 : decode cX9_set 0 = .ok (.iload_n 1, 1) := by decide +kernel
theorem dX9_set_1 : decode cX9_set 1 = .ok (.ifCond .lt 19, 3) := by decide +kernel
theorem dX9_set_4 : decode cX9_set 4 = .ok (.iload_n 1, 1) := by decide +kernel
theorem dX9_set_5 : decode cX9_set 5 = .ok (.aload_n 0, 1) := by decide +kernel
theorem dX9_set_6 : decode cX9_set 6 = .ok (.getfield 11, 3) := by decide +kernel
theorem dX9_set_9 : decode cX9_set 9 = .ok (.arraylength, 1) := by decide +kernel
theorem dX9_set_10 : decode cX9_set 10 = .ok (.if_icmp .ge 10, 3) := by decide +kernel
theorem dX9_set_13 : decode cX9_set 13 = .ok (.aload_n 0, 1) := by decide +kernel
theorem dX9_set_14 : decode cX9_set 14 = .ok (.getfield 11, 3) := by decide +kernel
theorem dX9_set_17 : decode cX9_set 17 = .ok (.iload_n 1, 1) := by decide +kernel
theorem dX9_set_18 : decode cX9_set 18 = .ok (.iload_n 2, 1) := by decide +kernel
theorem dX9_set_19 : decode cX9_set 19 = .ok (.iastore, 1) := by decide +kernel
theorem dX9_set_20 : decode cX9_set 20 = .ok (.return_, 1) := by decide +kernel
theorem nw_X11_19 : Cond.methodLinkNest RX11 19 yX5_init "LawHoles" ∈ nW := by decide +kernel
theorem nw_X11_26 : Cond.methodLinkNest RX11 26 yX4_init "LawHoles" ∈ nW := by decide +kernel
theorem nw_X2_11 : Cond.methodLinkNest RX2 11 yX6_init "LawHoles" ∈ nW := by decide +kernel
theorem nw_X4_39 : Cond.methodLinkNest RX4 39 yX11_doerOf "LawHoles" ∈ nW := by decide +kernel
theorem nw_X4_43 : Cond.methodLinkNest RX4 43 yX11_otherOf "LawHoles" ∈ nW := by decide +kernel
theorem nw_X4_46 : Cond.methodLinkNest RX4 46 yX11_isPerson "LawHoles" ∈ nW := by decide +kernel
theorem nw_X4_57 : Cond.methodLinkNest RX4 57 yX11_thingOf "LawHoles" ∈ nW := by decide +kernel
theorem nw_X4_60 : Cond.methodLinkNest RX4 60 yX11_isThing "LawHoles" ∈ nW := by decide +kernel
theorem nw_X6_32 : Cond.methodLinkNest RX6 32 yX11_doerOf "LawHoles" ∈ nW := by decide +kernel
theorem nw_X6_36 : Cond.methodLinkNest RX6 36 yX11_otherOf "LawHoles" ∈ nW := by decide +kernel
theorem nw_X6_39 : Cond.methodLinkNest RX6 39 yX11_thingOf "LawHoles" ∈ nW := by decide +kernel
theorem nw_X2_97 : Cond.methodLinkNest RX2 97 yX11_thingOf "LawHoles" ∈ nW := by decide +kernel
theorem nw_X9_42 : Cond.methodLinkNest RX9 42 yX11_isWithin "LawHoles" ∈ nW := by decide +kernel
theorem nw_X9_15 : Cond.methodLinkNest RX9 15 yX11_isPerson "LawHoles" ∈ nW := by decide +kernel
theorem nw_X9_19 : Cond.methodLinkNest RX9 19 yX11_isThing "LawHoles" ∈ nW := by decide +kernel
theorem nw_X9_22 : Cond.methodLinkNest RX9 22 yX11_arePair "LawHoles" ∈ nW := by decide +kernel
theorem nw_X8_94 : Cond.methodLinkNest RX8 94 yX11_otherOf "LawHoles" ∈ nW := by decide +kernel
theorem nw_X8_98 : Cond.methodLinkNest RX8 98 yX11_doerOf "LawHoles" ∈ nW := by decide +kernel
theorem nw_X9_45 : Cond.methodLinkNest RX9 45 yX11_become "LawHoles" ∈ nW := by decide +kernel
theorem nw_X7_37 : Cond.methodLinkNest RX7 37 yX11_doerOf "LawHoles" ∈ nW := by decide +kernel
theorem nw_X7_40 : Cond.methodLinkNest RX7 40 yX11_become "LawHoles" ∈ nW := by decide +kernel
theorem nw_X7_43 : Cond.methodLinkNest RX7 43 yX11_otherOf "LawHoles" ∈ nW := by decide +kernel
theorem nw_X7_46 : Cond.methodLinkNest RX7 46 yX11_thingOf "LawHoles" ∈ nW := by decide +kernel
