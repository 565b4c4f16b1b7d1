theorem wm_X11_181 : Cond.methodLink RX11 181 yX11_areLaws ∈ gT := gT_of 903 (by decide +kernel) (by decide +kernel)
theorem cf_X11_areLaws : Cf yX11_areLaws cX11_areLaws 1 (some .boolean) 1 := ⟨gT_of 905 (by decide +kernel) (by decide +kernel), gT_of 84 (by decide +kernel) (by decide +kernel), by decide +kernel, by decide +kernel, by decide +kernel⟩
theorem ws_X11_areLaws : Cond.static yX11_areLaws ∈ gT := gT_of 904 (by decide +kernel) (by decide +kernel)
theorem wf_X11_43 : Cond.fieldLink RX11 43 "LawHoles" "court" "LLawHoles$Court;" ∈ gT := gT_of 450 (by decide +kernel) (by decide +kernel)
theorem wm_X11_184 : Cond.methodLink RX11 184 yX2_follow ∈ gT := gT_of 906 (by decide +kernel) (by decide +kernel)
theorem wf_X2_25 : Cond.fieldLink RX2 25 "LawHoles$Court" "here" "LLawHoles$State;" ∈ gT := gT_of 339 (by decide +kernel) (by decide +kernel)
theorem wm_X2_80 : Cond.methodLink RX2 80 yX9_copy ∈ gT := gT_of 910 (by decide +kernel) (by decide +kernel)
theorem wm_X9_26 : Cond.methodLink RX9 26 arraycopyName ∈ gT := gT_of 914 (by decide +kernel) (by decide +kernel)
theorem wn_arraycopy : Cond.native arraycopyName ∈ gT := gT_of 744 (by decide +kernel) (by decide +kernel)
theorem ws_arraycopy : Cond.static arraycopyName ∈ gT := gT_of 743 (by decide +kernel) (by decide +kernel)
theorem wi_System : Cond.initialized "java/lang/System" ∈ gT := gT_of 107 (by decide +kernel) (by decide +kernel)
theorem cf_X9_copy : Cf yX9_copy cX9_copy 2 none 1 := ⟨gT_of 913 (by decide +kernel) (by decide +kernel), gT_of 95 (by decide +kernel) (by decide +kernel), by decide +kernel, by decide +kernel, by decide +kernel⟩
theorem wi_X9_copy : Cond.instanceMethod yX9_copy ∈ gT := gT_of 911 (by decide +kernel) (by decide +kernel)
theorem ws_X9_copy : Cond.selects yX9_copy.cls yX9_copy yX9_copy ∈ gT := gT_of 912 (by decide +kernel) (by decide +kernel)
theorem wf_X2_28 : Cond.fieldLink RX2 28 "LawHoles$Court" "reason" "I" ∈ gT := gT_of 341 (by decide +kernel) (by decide +kernel)
theorem wf_X2_108 : Cond.fieldLink RX2 108 "LawHoles$Row" "count" "I" ∈ gT := gT_of 434 (by decide +kernel) (by decide +kernel)
theorem cf_X2_follow : Cf yX2_follow cX2_follow 6 (some .int) 4 := ⟨gT_of 909 (by decide +kernel) (by decide +kernel), gT_of 96 (by decide +kernel) (by decide +kernel), by decide +kernel, by decide +kernel, by decide +kernel⟩
theorem wi_X2_follow : Cond.instanceMethod yX2_follow ∈ gT := gT_of 907 (by decide +kernel) (by decide +kernel)
theorem ws_X2_follow : Cond.selects yX2_follow.cls yX2_follow yX2_follow ∈ gT := gT_of 908 (by decide +kernel) (by decide +kernel)
theorem wm_X12_464 : Cond.methodLink RX12 464 yX12_goes ∈ gT := gT_of 1718 (by decide +kernel) (by decide +kernel)
theorem wf_X12_458 : Cond.fieldLink RX12 458 "LawHolesModel" "stands" "J" ∈ gT := gT_of 1251 (by decide +kernel) (by decide +kernel)
theorem wf_X12_461 : Cond.fieldLink RX12 461 "LawHolesModel" "stops" "I" ∈ gT := gT_of 1252 (by decide +kernel) (by decide +kernel)
theorem cf_X12_goes : Cf yX12_goes cX12_goes 5 (some .int) 3 := ⟨gT_of 1721 (by decide +kernel) (by decide +kernel), gT_of 101 (by decide +kernel) (by decide +kernel), by decide +kernel, by decide +kernel, by decide +kernel⟩
theorem wi_X12_goes : Cond.instanceMethod yX12_goes ∈ gT := gT_of 1720 (by decide +kernel) (by decide +kernel)
theorem ws_X12_goes : Cond.selects yX12_goes.cls yX12_goes yX12_goes ∈ gT := gT_of 79 (by decide +kernel) (by decide +kernel)
theorem wf_X11_188 : Cond.fieldLink RX11 188 "LawHoles$Court" "reason" "I" ∈ gT := gT_of 342 (by decide +kernel) (by decide +kernel)
theorem dX11_areLaws_0 : decode cX11_areLaws 0 = .ok (.iload_n 0, 1) := by decide +kernel
theorem dX11_areLaws_1 : decode cX11_areLaws 1 = .ok (.iconst 1, 1) := by decide +kernel
theorem dX11_areLaws_2 : decode cX11_areLaws 2 = .ok (.if_icmp .lt 12, 3) := by decide +kernel
theorem dX11_areLaws_5 : decode cX11_areLaws 5 = .ok (.iload_n 0, 1) := by decide +kernel
theorem dX11_areLaws_6 : decode cX11_areLaws 6 = .ok (.iconst 3, 1) := by decide +kernel
theorem dX11_areLaws_7 : decode cX11_areLaws 7 = .ok (.if_icmp .gt 7, 3) := by decide +kernel
theorem dX11_areLaws_10 : decode cX11_areLaws 10 = .ok (.iconst 1, 1) := by decide +kernel
theorem dX11_areLaws_11 : decode cX11_areLaws 11 = .ok (.goto 4, 3) := by decide +kernel
theorem dX11_areLaws_14 : decode cX11_areLaws 14 = .ok (.iconst 0, 1) := by decide +kernel
theorem dX11_areLaws_15 : decode cX11_areLaws 15 = .ok (.ireturn, 1) := by decide +kernel
theorem dX11_lawful_0 : decode cX11_lawful 0 = .ok (.iload_n 1, 1) := by decide +kernel
theorem dX11_lawful_1 : decode cX11_lawful 1 = .ok (.invokestatic 169, 3) := by decide +kernel
theorem dX11_lawful_4 : decode cX11_lawful 4 = .ok (.ifCond .eq 28, 3) := by decide +kernel
theorem dX11_lawful_7 : decode cX11_lawful 7 = .ok (.iload_n 2, 1) := by decide +kernel
theorem dX11_lawful_8 : decode cX11_lawful 8 = .ok (.invokestatic 181, 3) := by decide +kernel
theorem dX11_lawful_11 : decode cX11_lawful 11 = .ok (.ifCond .eq 21, 3) := by decide +kernel
theorem dX11_lawful_14 : decode cX11_lawful 14 = .ok (.iload_n 3, 1) := by decide +kernel
theorem dX11_lawful_15 : decode cX11_lawful 15 = .ok (.bipush 31, 2) := by decide +kernel
theorem dX11_lawful_17 : decode cX11_lawful 17 = .ok (.invokestatic 73, 3) := by decide +kernel
theorem dX11_lawful_20 : decode cX11_lawful 20 = .ok (.ifCond .eq 12, 3) := by decide +kernel
theorem dX11_lawful_23 : decode cX11_lawful 23 = .ok (.iload 4, 2) := by decide +kernel
theorem dX11_lawful_25 : decode cX11_lawful 25 = .ok (.iconst 1, 1) := by decide +kernel
theorem dX11_lawful_26 : decode cX11_lawful 26 = .ok (.invokestatic 73, 3) := by decide +kernel
theorem dX11_lawful_29 : decode cX11_lawful 29 = .ok (.ifCond .ne 5, 3) := by decide +kernel
theorem dX11_lawful_32 : decode cX11_lawful 32 = .ok (.iconst (-1), 1) := by decide +kernel
theorem dX11_lawful_33 : decode cX11_lawful 33 = .ok (.ireturn, 1) := by decide +kernel
theorem dX11_lawful_34 : decode cX11_lawful 34 = .ok (.aload_n 0, 1) := by decide +kernel
theorem dX11_lawful_35 : decode cX11_lawful 35 = .ok (.getfield 43, 3) := by decide +kernel
theorem dX11_lawful_38 : decode cX11_lawful 38 = .ok (.aload_n 0, 1) := by decide +kernel
theorem dX11_lawful_39 : decode cX11_lawful 39 = .ok (.getfield 58, 3) := by decide +kernel
theorem dX11_lawful_42 : decode cX11_lawful 42 = .ok (.iload_n 1, 1) := by decide +kernel
theorem dX11_lawful_43 : decode cX11_lawful 43 = .ok (.aaload, 1) := by decide +kernel
theorem dX11_lawful_44 : decode cX11_lawful 44 = .ok (.aload_n 0, 1) := by decide +kernel
theorem dX11_lawful_45 : decode cX11_lawful 45 = .ok (.getfield 34, 3) := by decide +kernel
theorem dX11_lawful_48 : decode cX11_lawful 48 = .ok (.iload_n 2, 1) := by decide +kernel
theorem dX11_lawful_49 : decode cX11_lawful 49 = .ok (.iload_n 3, 1) := by decide +kernel
theorem dX11_lawful_50 : decode cX11_lawful 50 = .ok (.invokevirtual 184, 3) := by decide +kernel
theorem dX11_lawful_53 : decode cX11_lawful 53 = .ok (.istore 5, 2) := by decide +kernel
theorem dX11_lawful_55 : decode cX11_lawful 55 = .ok (.iload 4, 2) := by decide +kernel
theorem dX11_lawful_57 : decode cX11_lawful 57 = .ok (.ifCond .ne 8, 3) := by decide +kernel
theorem dX11_lawful_60 : decode cX11_lawful 60 = .ok (.iload 5, 2) := by decide +kernel
theorem dX11_lawful_62 : decode cX11_lawful 62 = .ok (.goto 10, 3) := by decide +kernel
theorem dX11_lawful_65 : decode cX11_lawful 65 = .ok (.aload_n 0, 1) := by decide +kernel
theorem dX11_lawful_66 : decode cX11_lawful 66 = .ok (.getfield 43, 3) := by decide +kernel
theorem dX11_lawful_69 : decode cX11_lawful 69 = .ok (.getfield 188, 3) := by decide +kernel
theorem dX11_lawful_72 : decode cX11_lawful 72 = .ok (.ireturn, 1) := by decide +kernel
theorem dX12_goes_0 : decode cX12_goes 0 = .ok (.aload_n 0, 1) := by decide +kernel
theorem dX12_goes_1 : decode cX12_goes 1 = .ok (.aload_n 0, 1) := by decide +kernel
theorem dX12_goes_2 : decode cX12_goes 2 = .ok (.getfield 153, 3) := by decide +kernel
theorem dX12_goes_5 : decode cX12_goes 5 = .ok (.putfield 458, 3) := by decide +kernel
theorem dX12_goes_8 : decode cX12_goes 8 = .ok (.aload_n 0, 1) := by decide +kernel
theorem dX12_goes_9 : decode cX12_goes 9 = .ok (.iconst (-1), 1) := by decide +kernel
theorem dX12_goes_10 : decode cX12_goes 10 = .ok (.putfield 461, 3) := by decide +kernel
theorem dX12_goes_13 : decode cX12_goes 13 = .ok (.iconst 0, 1) := by decide +kernel
theorem dX12_goes_14 : decode cX12_goes 14 = .ok (.istore 4, 2) := by decide +kernel
theorem dX12_goes_16 : decode cX12_goes 16 = .ok (.iload 4, 2) := by decide +kernel
theorem dX12_goes_18 : decode cX12_goes 18 = .ok (.aload_n 0, 1) := by decide +kernel
theorem dX12_goes_19 : decode cX12_goes 19 = .ok (.getfield 140, 3) := by decide +kernel
theorem dX12_goes_22 : decode cX12_goes 22 = .ok (.iload_n 1, 1) := by decide +kernel
theorem dX12_goes_23 : decode cX12_goes 23 = .ok (.iaload, 1) := by decide +kernel
theorem dX12_goes_24 : decode cX12_goes 24 = .ok (.if_icmp .ge 54, 3) := by decide +kernel
theorem dX12_goes_27 : decode cX12_goes 27 = .ok (.aload_n 0, 1) := by decide +kernel
theorem dX12_goes_28 : decode cX12_goes 28 = .ok (.aload_n 0, 1) := by decide +kernel
theorem dX12_goes_29 : decode cX12_goes 29 = .ok (.aload_n 0, 1) := by decide +kernel
theorem dX12_goes_30 : decode cX12_goes 30 = .ok (.getfield 458, 3) := by decide +kernel
theorem dX12_goes_33 : decode cX12_goes 33 = .ok (.aload_n 0, 1) := by decide +kernel
theorem dX12_goes_34 : decode cX12_goes 34 = .ok (.getfield 137, 3) := by decide +kernel
theorem dX12_goes_37 : decode cX12_goes 37 = .ok (.bipush 12, 2) := by decide +kernel
theorem dX12_goes_39 : decode cX12_goes 39 = .ok (.iload_n 1, 1) := by decide +kernel
theorem dX12_goes_40 : decode cX12_goes 40 = .ok (.imul, 1) := by decide +kernel
theorem dX12_goes_41 : decode cX12_goes 41 = .ok (.iload 4, 2) := by decide +kernel
theorem dX12_goes_43 : decode cX12_goes 43 = .ok (.iadd, 1) := by decide +kernel
theorem dX12_goes_44 : decode cX12_goes 44 = .ok (.iaload, 1) := by decide +kernel
theorem dX12_goes_45 : decode cX12_goes 45 = .ok (.iload_n 2, 1) := by decide +kernel
theorem dX12_goes_46 : decode cX12_goes 46 = .ok (.iload_n 3, 1) := by decide +kernel
theorem dX12_goes_47 : decode cX12_goes 47 = .ok (.invokevirtual 426, 3) := by decide +kernel
theorem dX12_goes_50 : decode cX12_goes 50 = .ok (.putfield 461, 3) := by decide +kernel
theorem dX12_goes_53 : decode cX12_goes 53 = .ok (.aload_n 0, 1) := by decide +kernel
theorem dX12_goes_54 : decode cX12_goes 54 = .ok (.getfield 461, 3) := by decide +kernel
theorem dX12_goes_57 : decode cX12_goes 57 = .ok (.iconst (-1), 1) := by decide +kernel
theorem dX12_goes_58 : decode cX12_goes 58 = .ok (.if_icmp .eq 6, 3) := by decide +kernel
theorem dX12_goes_61 : decode cX12_goes 61 = .ok (.iload 4, 2) := by decide +kernel
theorem dX12_goes_63 : decode cX12_goes 63 = .ok (.ireturn, 1) := by decide +kernel
theorem dX12_goes_64 : decode cX12_goes 64 = .ok (.aload_n 0, 1) := by decide +kernel
theorem dX12_goes_65 : decode cX12_goes 65 = .ok (.aload_n 0, 1) := by decide +kernel
theorem dX12_goes_66 : decode cX12_goes 66 = .ok (.getfield 396, 3) := by decide +kernel
theorem dX12_goes_69 : decode cX12_goes 69 = .ok (.putfield 458, 3) := by decide +kernel
theorem dX12_goes_72 : decode cX12_goes 72 = .ok (.iinc 4 1, 3) := by decide +kernel
theorem dX12_goes_75 : decode cX12_goes 75 = .ok (.goto (-59), 3) := by decide +kernel
theorem dX12_goes_78 : decode cX12_goes 78 = .ok (.aload_n 0, 1) := by decide +kernel
theorem dX12_goes_79 : decode cX12_goes 79 = .ok (.getfield 140, 3) := by decide +kernel
theorem dX12_goes_82 : decode cX12_goes 82 = .ok (.iload_n 1, 1) := by decide +kernel
theorem dX12_goes_83 : decode cX12_goes 83 = .ok (.iaload, 1) := by decide +kernel
theorem dX12_goes_84 : decode cX12_goes 84 = .ok (.ireturn, 1) := by decide +kernel
theorem dX12_lawful_0 : decode cX12_lawful 0 = .ok (.iload_n 1, 1) := by decide +kernel
theorem dX12_lawful_1 : decode cX12_lawful 1 = .ok (.invokestatic 452, 3) := by decide +kernel
theorem dX12_lawful_4 : decode cX12_lawful 4 = .ok (.ifCond .eq 32, 3) := by decide +kernel
theorem dX12_lawful_7 : decode cX12_lawful 7 = .ok (.iload_n 2, 1) := by decide +kernel
theorem dX12_lawful_8 : decode cX12_lawful 8 = .ok (.iconst 1, 1) := by decide +kernel
theorem dX12_lawful_9 : decode cX12_lawful 9 = .ok (.iconst 3, 1) := by decide +kernel
theorem dX12_lawful_10 : decode cX12_lawful 10 = .ok (.invokestatic 1, 3) := by decide +kernel
theorem dX12_lawful_13 : decode cX12_lawful 13 = .ok (.ifCond .eq 23, 3) := by decide +kernel
theorem dX12_lawful_16 : decode cX12_lawful 16 = .ok (.iload_n 3, 1) := by decide +kernel
theorem dX12_lawful_17 : decode cX12_lawful 17 = .ok (.iconst 0, 1) := by decide +kernel
theorem dX12_lawful_18 : decode cX12_lawful 18 = .ok (.bipush 31, 2) := by decide +kernel
theorem dX12_lawful_20 : decode cX12_lawful 20 = .ok (.invokestatic 1, 3) := by decide +kernel
theorem dX12_lawful_23 : decode cX12_lawful 23 = .ok (.ifCond .eq 13, 3) := by decide +kernel
theorem dX12_lawful_26 : decode cX12_lawful 26 = .ok (.iload 4, 2) := by decide +kernel
theorem dX12_lawful_28 : decode cX12_lawful 28 = .ok (.iconst 0, 1) := by decide +kernel
theorem dX12_lawful_29 : decode cX12_lawful 29 = .ok (.iconst 1, 1) := by decide +kernel
theorem dX12_lawful_30 : decode cX12_lawful 30 = .ok (.invokestatic 1, 3) := by decide +kernel
theorem dX12_lawful_33 : decode cX12_lawful 33 = .ok (.ifCond .ne 5, 3) := by decide +kernel
theorem dX12_lawful_36 : decode cX12_lawful 36 = .ok (.iconst (-1), 1) := by decide +kernel
theorem dX12_lawful_37 : decode cX12_lawful 37 = .ok (.ireturn, 1) := by decide +kernel
theorem dX12_lawful_38 : decode cX12_lawful 38 = .ok (.aload_n 0, 1) := by decide +kernel
theorem dX12_lawful_39 : decode cX12_lawful 39 = .ok (.iload_n 1, 1) := by decide +kernel
theorem dX12_lawful_40 : decode cX12_lawful 40 = .ok (.iload_n 2, 1) := by decide +kernel
theorem dX12_lawful_41 : decode cX12_lawful 41 = .ok (.iload_n 3, 1) := by decide +kernel
theorem dX12_lawful_42 : decode cX12_lawful 42 = .ok (.invokevirtual 464, 3) := by decide +kernel
theorem dX12_lawful_45 : decode cX12_lawful 45 = .ok (.istore 5, 2) := by decide +kernel
theorem dX12_lawful_47 : decode cX12_lawful 47 = .ok (.iload 4, 2) := by decide +kernel
theorem dX12_lawful_49 : decode cX12_lawful 49 = .ok (.ifCond .ne 8, 3) := by decide +kernel
theorem dX12_lawful_52 : decode cX12_lawful 52 = .ok (.iload 5, 2) := by decide +kernel
theorem dX12_lawful_54 : decode cX12_lawful 54 = .ok (.goto 7, 3) := by decide +kernel
theorem dX12_lawful_57 : decode cX12_lawful 57 = .ok (.aload_n 0, 1) := by decide +kernel
theorem dX12_lawful_58 : decode cX12_lawful 58 = .ok (.getfield 461, 3) := by decide +kernel
theorem dX12_lawful_61 : decode cX12_lawful 61 = .ok (.ireturn, 1) := by decide +kernel
theorem dX2_follow_0 : decode cX2_follow 0 = .ok (.aload_n 0, 1) := by decide +kernel
theorem dX2_follow_1 : decode cX2_follow 1 = .ok (.getfield 25, 3) := by decide +kernel
theorem dX2_follow_4 : decode cX2_follow 4 = .ok (.aload_n 2, 1) := by decide +kernel
theorem dX2_follow_5 : decode cX2_follow 5 = .ok (.invokevirtual 80, 3) := by decide +kernel
theorem dX2_follow_8 : decode cX2_follow 8 = .ok (.aload_n 0, 1) := by decide +kernel
theorem dX2_follow_9 : decode cX2_follow 9 = .ok (.iconst (-1), 1) := by decide +kernel
theorem dX2_follow_10 : decode cX2_follow 10 = .ok (.putfield 28, 3) := by decide +kernel
theorem dX2_follow_13 : decode cX2_follow 13 = .ok (.iconst 0, 1) := by decide +kernel
theorem dX2_follow_14 : decode cX2_follow 14 = .ok (.istore 5, 2) := by decide +kernel
theorem dX2_follow_16 : decode cX2_follow 16 = .ok (.iload 5, 2) := by decide +kernel
theorem dX2_follow_18 : decode cX2_follow 18 = .ok (.aload_n 1, 1) := by decide +kernel
theorem dX2_follow_19 : decode cX2_follow 19 = .ok (.getfield 108, 3) := by decide +kernel
theorem dX2_follow_22 : decode cX2_follow 22 = .ok (.if_icmp .ge 52, 3) := by decide +kernel
theorem dX2_follow_25 : decode cX2_follow 25 = .ok (.aload_n 0, 1) := by decide +kernel
theorem dX2_follow_26 : decode cX2_follow 26 = .ok (.aload_n 0, 1) := by decide +kernel
theorem dX2_follow_27 : decode cX2_follow 27 = .ok (.aload_n 0, 1) := by decide +kernel
theorem dX2_follow_28 : decode cX2_follow 28 = .ok (.getfield 25, 3) := by decide +kernel
theorem dX2_follow_31 : decode cX2_follow 31 = .ok (.aload_n 1, 1) := by decide +kernel
theorem dX2_follow_32 : decode cX2_follow 32 = .ok (.iload 5, 2) := by decide +kernel
theorem dX2_follow_34 : decode cX2_follow 34 = .ok (.invokevirtual 113, 3) := by decide +kernel
theorem dX2_follow_37 : decode cX2_follow 37 = .ok (.iload_n 3, 1) := by decide +kernel
theorem dX2_follow_38 : decode cX2_follow 38 = .ok (.iload 4, 2) := by decide +kernel
theorem dX2_follow_40 : decode cX2_follow 40 = .ok (.invokevirtual 115, 3) := by decide +kernel
theorem dX2_follow_43 : decode cX2_follow 43 = .ok (.putfield 28, 3) := by decide +kernel
theorem dX2_follow_46 : decode cX2_follow 46 = .ok (.aload_n 0, 1) := by decide +kernel
theorem dX2_follow_47 : decode cX2_follow 47 = .ok (.getfield 28, 3) := by decide +kernel
theorem dX2_follow_50 : decode cX2_follow 50 = .ok (.iconst (-1), 1) := by decide +kernel
theorem dX2_follow_51 : decode cX2_follow 51 = .ok (.if_icmp .eq 6, 3) := by decide +kernel
theorem dX2_follow_54 : decode cX2_follow 54 = .ok (.iload 5, 2) := by decide +kernel
theorem dX2_follow_56 : decode cX2_follow 56 = .ok (.ireturn, 1) := by decide +kernel
theorem dX2_follow_57 : decode cX2_follow 57 = .ok (.aload_n 0, 1) := by decide +kernel
theorem dX2_follow_58 : decode cX2_follow 58 = .ok (.getfield 25, 3) := by decide +kernel
theorem dX2_follow_61 : decode cX2_follow 61 = .ok (.aload_n 0, 1) := by decide +kernel
theorem dX2_follow_62 : decode cX2_follow 62 = .ok (.getfield 21, 3) := by decide +kernel
theorem dX2_follow_65 : decode cX2_follow 65 = .ok (.invokevirtual 80, 3) := by decide +kernel
theorem dX2_follow_68 : decode cX2_follow 68 = .ok (.iinc 5 1, 3) := by decide +kernel
theorem dX2_follow_71 : decode cX2_follow 71 = .ok (.goto (-55), 3) := by decide +kernel
theorem dX2_follow_74 : decode cX2_follow 74 = .ok (.aload_n 1, 1) := by decide +kernel
theorem dX2_follow_75 : decode cX2_follow 75 = .ok (.getfield 108, 3) := by decide +kernel
theorem dX2_follow_78 : decode cX2_follow 78 = .ok (.ireturn, 1) := by decide +kernel
theorem dX9_copy_0 : decode cX9_copy 0 = .ok (.aload_n 1, 1) := by decide +kernel
theorem dX9_copy_1 : decode cX9_copy 1 = .ok (.getfield 11, 3) := by decide +kernel
theorem dX9_copy_4 : decode cX9_copy 4 = .ok (.iconst 0, 1) := by decide +kernel
theorem dX9_copy_5 : decode cX9_copy 5 = .ok (.aload_n 0, 1) := by decide +kernel
theorem dX9_copy_6 : decode cX9_copy 6 = .ok (.getfield 11, 3) := by decide +kernel
theorem dX9_copy_9 : decode cX9_copy 9 = .ok (.iconst 0, 1) := by decide +kernel
theorem dX9_copy_10 : decode cX9_copy 10 = .ok (.aload_n 0, 1) := by decide +kernel
theorem dX9_copy_11 : decode cX9_copy 11 = .ok (.getfield 11, 3) := by decide +kernel
theorem dX9_copy_14 : decode cX9_copy 14 = .ok (.arraylength, 1) := by decide +kernel
theorem dX9_copy_15 : decode cX9_copy 15 = .ok (.invokestatic 26, 3) := by decide +kernel
theorem dX9_copy_18 : decode cX9_copy 18 = .ok (.return_, 1) := by decide +kernel
set_option maxHeartbeats 4000000 in
set_option maxRecDepth 100000 in
theorem c_X11_lawful {l : Launch} {D : va_G} {cy : Nat → ClassId} {T0 tB tE : Nat} {a : Nat → Nat} {rw : Nat → Option Nat} (S : GS) (p0 : Int32) (p1 : Int32) (p2 : Int32) (p3 : Int32)  (hr_p0 : (-2147483648) ≤ p0.toInt ∧ p0.toInt ≤ (-1)) : Ct l D cy T0 tB tE yX11_lawful cX11_lawful 6 (some .int) 1 20 0 0 (cw cy tE a rw S) [.ref (a 0), .int p0, .int p1, .int p2, .int p3] (QI D (U := GS) (fun r u => (-1) = r ∧ S = u) (cw cy tE a rw)) := by
  refine Ct.ofZ RX11 "lawful" [(0, .ref (a 0)), (1, .int p0), (2, .int p1), (3, .int p2), (4, .int p3)] rfl rfl rfl rfl (Nat.le_of_ble_eq_true rfl) ?_
  intro p e R s m args below meth c A b
  refine z_iload_n b dX11_lawful_0 rfl rfl ?_
  refine z_calli b (z_runS (As := [.int p0]) (st := []) b (c_X11_isRow S p0 ) cf_X11_isRow wm_X11_169 ws_X11_isRow dX11_lawful_1 rfl (Nat.le_of_ble_eq_true rfl) ⟨by decide, by decide, by decide, by decide⟩) (fun r4782 u4783 h4781 => ?_)
  rcases h4781 with ⟨c4784, rfl, rfl⟩ | ⟨c4785, rfl, rfl⟩
  · refine z_if_eq_t (tgt := 32) b dX11_lawful_4 (by decide) (by decide) ?_
    refine z_iconst (v := (-1)) b dX11_lawful_32 (by decide) ?_
    exact z_iret (u := S) b rfl dX11_lawful_33 ⟨rfl, rfl⟩ rfl (by decide) (by decide)
  · exfalso; omega

set_option maxHeartbeats 4000000 in
set_option maxRecDepth 100000 in
theorem c_X12_lawful {l : Launch} {D : va_G} {cy : Nat → ClassId} {T0 tB tE : Nat} {a : Nat → Nat} (S : GS) (p0 : Int32) (p1 : Int32) (p2 : Int32) (p3 : Int32)  (hr_p0 : (-2147483648) ≤ p0.toInt ∧ p0.toInt ≤ (-1)) : Ct l D cy T0 tB tE yX12_lawful cX12_lawful 6 (some .int) 2 42 0 0 (mw cy a S) [.ref (a 0), .int p0, .int p1, .int p2, .int p3] (QI D (U := GS) (fun r u => (-1) = r ∧ S = u) (mw cy a)) := by
  refine Ct.ofZ RX12 "lawful" [(0, .ref (a 0)), (1, .int p0), (2, .int p1), (3, .int p2), (4, .int p3)] rfl rfl rfl rfl (Nat.le_of_ble_eq_true rfl) ?_
  intro p e R s m args below meth c A b
  refine z_iload_n b dX12_lawful_0 rfl rfl ?_
  refine z_calli b (z_runS (As := [.int p0]) (st := []) b (c_X12_isRow S p0 ) cf_X12_isRow wm_X12_452 ws_X12_isRow dX12_lawful_1 rfl (Nat.le_of_ble_eq_true rfl) ⟨by decide, by decide, by decide, by decide⟩) (fun r4787 u4788 h4786 => ?_)
  rcases h4786 with ⟨c4789, rfl, rfl⟩ | ⟨c4790, rfl, rfl⟩
  · refine z_if_eq_t (tgt := 36) b dX12_lawful_4 (by decide) (by decide) ?_
    refine z_iconst (v := (-1)) b dX12_lawful_36 (by decide) ?_
    exact z_iret (u := S) b rfl dX12_lawful_37 ⟨rfl, rfl⟩ rfl (by decide) (by decide)
  · exfalso; omega

set_option maxHeartbeats 4000000 in
set_option maxRecDepth 100000 in
theorem c_X11_lawful_2 {l : Launch} {D : va_G} {cy : Nat → ClassId} {T0 tB tE : Nat} {a : Nat → Nat} {rw : Nat → Option Nat} (S : GS) (p0 : Int32) (p1 : Int32) (p2 : Int32) (p3 : Int32)  (hr_p0 : 6 ≤ p0.toInt ∧ p0.toInt ≤ 2147483647) : Ct l D cy T0 tB tE yX11_lawful cX11_lawful 6 (some .int) 1 20 0 0 (cw cy tE a rw S) [.ref (a 0), .int p0, .int p1, .int p2, .int p3] (QI D (U := GS) (fun r u => (-1) = r ∧ S = u) (cw cy tE a rw)) := by
  refine Ct.ofZ RX11 "lawful" [(0, .ref (a 0)), (1, .int p0), (2, .int p1), (3, .int p2), (4, .int p3)] rfl rfl rfl rfl (Nat.le_of_ble_eq_true rfl) ?_
  intro p e R s m args below meth c A b
  refine z_iload_n b dX11_lawful_0 rfl rfl ?_
  refine z_calli b (z_runS (As := [.int p0]) (st := []) b (c_X11_isRow S p0 ) cf_X11_isRow wm_X11_169 ws_X11_isRow dX11_lawful_1 rfl (Nat.le_of_ble_eq_true rfl) ⟨by decide, by decide, by decide, by decide⟩) (fun r4792 u4793 h4791 => ?_)
  rcases h4791 with ⟨c4794, rfl, rfl⟩ | ⟨c4795, rfl, rfl⟩
  · refine z_if_eq_t (tgt := 32) b dX11_lawful_4 (by decide) (by decide) ?_
    refine z_iconst (v := (-1)) b dX11_lawful_32 (by decide) ?_
    exact z_iret (u := S) b rfl dX11_lawful_33 ⟨rfl, rfl⟩ rfl (by decide) (by decide)
  · exfalso; omega

set_option maxHeartbeats 4000000 in
set_option maxRecDepth 100000 in
theorem c_X12_lawful_2 {l : Launch} {D : va_G} {cy : Nat → ClassId} {T0 tB tE : Nat} {a : Nat → Nat} (S : GS) (p0 : Int32) (p1 : Int32) (p2 : Int32) (p3 : Int32)  (hr_p0 : 6 ≤ p0.toInt ∧ p0.toInt ≤ 2147483647) : Ct l D cy T0 tB tE yX12_lawful cX12_lawful 6 (some .int) 2 42 0 0 (mw cy a S) [.ref (a 0), .int p0, .int p1, .int p2, .int p3] (QI D (U := GS) (fun r u => (-1) = r ∧ S = u) (mw cy a)) := by
  refine Ct.ofZ RX12 "lawful" [(0, .ref (a 0)), (1, .int p0), (2, .int p1), (3, .int p2), (4, .int p3)] rfl rfl rfl rfl (Nat.le_of_ble_eq_true rfl) ?_
  intro p e R s m args below meth c A b
  refine z_iload_n b dX12_lawful_0 rfl rfl ?_
  refine z_calli b (z_runS (As := [.int p0]) (st := []) b (c_X12_isRow S p0 ) cf_X12_isRow wm_X12_452 ws_X12_isRow dX12_lawful_1 rfl (Nat.le_of_ble_eq_true rfl) ⟨by decide, by decide, by decide, by decide⟩) (fun r4797 u4798 h4796 => ?_)
  rcases h4796 with ⟨c4799, rfl, rfl⟩ | ⟨c4800, rfl, rfl⟩
  · refine z_if_eq_t (tgt := 36) b dX12_lawful_4 (by decide) (by decide) ?_
    refine z_iconst (v := (-1)) b dX12_lawful_36 (by decide) ?_
    exact z_iret (u := S) b rfl dX12_lawful_37 ⟨rfl, rfl⟩ rfl (by decide) (by decide)
  · exfalso; omega

set_option maxHeartbeats 4000000 in
set_option maxRecDepth 100000 in
theorem c_X11_areLaws {l : Launch} {D : va_G} {cy : Nat → ClassId} {T0 tB tE : Nat} {a : Nat → Nat} {rw : Nat → Option Nat} (S : GS) (p0 : Int32)  : Ct l D cy T0 tB tE yX11_areLaws cX11_areLaws 1 (some .boolean) 0 0 0 0 (cw cy tE a rw S) [.int p0] (QI D (U := GS) (fun r u => ((((p0.toInt < 1)) ∨ ((1 ≤ p0.toInt) ∧ (3 < p0.toInt))) ∧ 0 = r ∧ S = u) ∨ (((1 ≤ p0.toInt) ∧ (p0.toInt ≤ 3)) ∧ 1 = r ∧ S = u)) (cw cy tE a rw)) := by
  refine Ct.ofZ RX11 "areLaws" [(0, .int p0)] rfl rfl rfl rfl (Nat.le_of_ble_eq_true rfl) ?_
  intro p e R s m args below meth c A b
  refine z_iload_n b dX11_areLaws_0 rfl rfl ?_
  refine z_iconst (v := 1) b dX11_areLaws_1 (by decide) ?_
  refine y_icmp_lt (tgt := 14) (xl := p0.toInt) (yl := 1) b rfl (by decide) dX11_areLaws_2 (by decide) (fun c4804 => ?_) (fun c4804 => ?_)
  · refine z_iconst (v := 0) b dX11_areLaws_14 (by decide) ?_
    exact z_zret (u := S) b rfl (by decide) dX11_areLaws_15 (Or.inl ⟨(Or.inl c4804), rfl, rfl⟩) rfl (by decide) (by decide)
  · refine z_iload_n b dX11_areLaws_5 rfl rfl ?_
    refine z_iconst (v := 3) b dX11_areLaws_6 (by decide) ?_
    refine y_icmp_gt (tgt := 14) (xl := p0.toInt) (yl := 3) b rfl (by decide) dX11_areLaws_7 (by decide) (fun c4805 => ?_) (fun c4805 => ?_)
    · refine z_iconst (v := 0) b dX11_areLaws_14 (by decide) ?_
      exact z_zret (u := S) b rfl (by decide) dX11_areLaws_15 (Or.inl ⟨(Or.inr ⟨c4804, c4805⟩), rfl, rfl⟩) rfl (by decide) (by decide)
    · refine z_iconst (v := 1) b dX11_areLaws_10 (by decide) ?_
      refine z_goto (tgt := 15) b dX11_areLaws_11 (by decide) ?_
      exact z_zret (u := S) b rfl (by decide) dX11_areLaws_15 (Or.inr ⟨⟨c4804, c4805⟩, rfl, rfl⟩) rfl (by decide) (by decide)

set_option maxHeartbeats 4000000 in
set_option maxRecDepth 100000 in
theorem c_X11_lawful_3 {l : Launch} {D : va_G} {cy : Nat → ClassId} {T0 tB tE : Nat} {a : Nat → Nat} {rw : Nat → Option Nat} (S : GS) (p0 : Int32) (p1 : Int32) (p2 : Int32)  (hr_p0 : (-2147483648) ≤ p0.toInt ∧ p0.toInt ≤ 0) : Ct l D cy T0 tB tE yX11_lawful cX11_lawful 6 (some .int) 1 20 0 0 (cw cy tE a rw S) [.ref (a 0), .int 0, .int p0, .int p1, .int p2] (QI D (U := GS) (fun r u => (-1) = r ∧ S = u) (cw cy tE a rw)) := by
  refine Ct.ofZ RX11 "lawful" [(0, .ref (a 0)), (1, .int 0), (2, .int p0), (3, .int p1), (4, .int p2)] rfl rfl rfl rfl (Nat.le_of_ble_eq_true rfl) ?_
  intro p e R s m args below meth c A b
  refine z_iload_n b dX11_lawful_0 rfl rfl ?_
  refine z_calli b (z_runS (As := [.int 0]) (st := []) b (c_X11_isRow_2 S ) cf_X11_isRow wm_X11_169 ws_X11_isRow dX11_lawful_1 rfl (Nat.le_of_ble_eq_true rfl) ⟨by decide, by decide, by decide, by decide⟩) (fun r4802 u4803 h4801 => ?_)
  obtain ⟨rfl, rfl⟩ := h4801
  refine z_if_eq_f (tgt := 32) b dX11_lawful_4 (by decide) (by decide) ?_
  refine z_iload_n b dX11_lawful_7 rfl rfl ?_
  refine z_calli b (z_runS (As := [.int p0]) (st := []) b (c_X11_areLaws S p0 ) cf_X11_areLaws wm_X11_181 ws_X11_areLaws dX11_lawful_8 rfl (Nat.le_of_ble_eq_true rfl) ⟨by decide, by decide, by decide, by decide⟩) (fun r4807 u4808 h4806 => ?_)
  rcases h4806 with ⟨c4809, rfl, rfl⟩ | ⟨c4810, rfl, rfl⟩
  · refine z_if_eq_t (tgt := 32) b dX11_lawful_11 (by decide) (by decide) ?_
    refine z_iconst (v := (-1)) b dX11_lawful_32 (by decide) ?_
    exact z_iret (u := S) b rfl dX11_lawful_33 ⟨rfl, rfl⟩ rfl (by decide) (by decide)
  · exfalso; omega

set_option maxHeartbeats 4000000 in
set_option maxRecDepth 100000 in
theorem c_X12_isIn_35 {l : Launch} {D : va_G} {cy : Nat → ClassId} {T0 tB tE : Nat} {a : Nat → Nat} (S : GS) (p0 : Int32)  : Ct l D cy T0 tB tE yX12_isIn cX12_isIn 3 (some .boolean) 0 0 0 0 (mw cy a S) [.int p0, .int 1, .int 3] (QI D (U := GS) (fun r u => ((((p0.toInt < 1)) ∨ ((1 ≤ p0.toInt) ∧ (3 < p0.toInt))) ∧ 0 = r ∧ S = u) ∨ (((1 ≤ p0.toInt) ∧ (p0.toInt ≤ 3)) ∧ 1 = r ∧ S = u)) (mw cy a)) := by
  refine Ct.ofZ RX12 "isIn" [(0, .int p0), (1, .int 1), (2, .int 3)] rfl rfl rfl rfl (Nat.le_of_ble_eq_true rfl) ?_
  intro p e R s m args below meth c A b
  refine z_iload_n b dX12_isIn_0 rfl rfl ?_
  refine z_iload_n b dX12_isIn_1 rfl rfl ?_
  refine y_icmp_lt (tgt := 14) (xl := p0.toInt) (yl := 1) b rfl (by decide) dX12_isIn_2 (by decide) (fun c4814 => ?_) (fun c4814 => ?_)
  · refine z_iconst (v := 0) b dX12_isIn_14 (by decide) ?_
    exact z_zret (u := S) b rfl (by decide) dX12_isIn_15 (Or.inl ⟨(Or.inl c4814), rfl, rfl⟩) rfl (by decide) (by decide)
  · refine z_iload_n b dX12_isIn_5 rfl rfl ?_
    refine z_iload_n b dX12_isIn_6 rfl rfl ?_
    refine y_icmp_gt (tgt := 14) (xl := p0.toInt) (yl := 3) b rfl (by decide) dX12_isIn_7 (by decide) (fun c4815 => ?_) (fun c4815 => ?_)
    · refine z_iconst (v := 0) b dX12_isIn_14 (by decide) ?_
      exact z_zret (u := S) b rfl (by decide) dX12_isIn_15 (Or.inl ⟨(Or.inr ⟨c4814, c4815⟩), rfl, rfl⟩) rfl (by decide) (by decide)
    · refine z_iconst (v := 1) b dX12_isIn_10 (by decide) ?_
      refine z_goto (tgt := 15) b dX12_isIn_11 (by decide) ?_
      exact z_zret (u := S) b rfl (by decide) dX12_isIn_15 (Or.inr ⟨⟨c4814, c4815⟩, rfl, rfl⟩) rfl (by decide) (by decide)

set_option maxHeartbeats 4000000 in
set_option maxRecDepth 100000 in
theorem c_X12_lawful_3 {l : Launch} {D : va_G} {cy : Nat → ClassId} {T0 tB tE : Nat} {a : Nat → Nat} (S : GS) (p0 : Int32) (p1 : Int32) (p2 : Int32)  (hr_p0 : (-2147483648) ≤ p0.toInt ∧ p0.toInt ≤ 0) : Ct l D cy T0 tB tE yX12_lawful cX12_lawful 6 (some .int) 2 42 0 0 (mw cy a S) [.ref (a 0), .int 0, .int p0, .int p1, .int p2] (QI D (U := GS) (fun r u => (-1) = r ∧ S = u) (mw cy a)) := by
  refine Ct.ofZ RX12 "lawful" [(0, .ref (a 0)), (1, .int 0), (2, .int p0), (3, .int p1), (4, .int p2)] rfl rfl rfl rfl (Nat.le_of_ble_eq_true rfl) ?_
  intro p e R s m args below meth c A b
  refine z_iload_n b dX12_lawful_0 rfl rfl ?_
  refine z_calli b (z_runS (As := [.int 0]) (st := []) b (c_X12_isRow_2 S ) cf_X12_isRow wm_X12_452 ws_X12_isRow dX12_lawful_1 rfl (Nat.le_of_ble_eq_true rfl) ⟨by decide, by decide, by decide, by decide⟩) (fun r4812 u4813 h4811 => ?_)
  obtain ⟨rfl, rfl⟩ := h4811
  refine z_if_eq_f (tgt := 36) b dX12_lawful_4 (by decide) (by decide) ?_
  refine z_iload_n b dX12_lawful_7 rfl rfl ?_
  refine z_iconst (v := 1) b dX12_lawful_8 (by decide) ?_
  refine z_iconst (v := 3) b dX12_lawful_9 (by decide) ?_
  refine z_calli b (z_runS (As := [.int p0, .int 1, .int 3]) (st := []) b (c_X12_isIn_35 S p0 ) cf_X12_isIn wm_X12_1 ws_X12_isIn dX12_lawful_10 rfl (Nat.le_of_ble_eq_true rfl) ⟨by decide, by decide, by decide, by decide⟩) (fun r4817 u4818 h4816 => ?_)
  rcases h4816 with ⟨c4819, rfl, rfl⟩ | ⟨c4820, rfl, rfl⟩
  · refine z_if_eq_t (tgt := 36) b dX12_lawful_13 (by decide) (by decide) ?_
    refine z_iconst (v := (-1)) b dX12_lawful_36 (by decide) ?_
    exact z_iret (u := S) b rfl dX12_lawful_37 ⟨rfl, rfl⟩ rfl (by decide) (by decide)
  · exfalso; omega

set_option maxHeartbeats 4000000 in
set_option maxRecDepth 100000 in
theorem c_X11_lawful_4 {l : Launch} {D : va_G} {cy : Nat → ClassId} {T0 tB tE : Nat} {a : Nat → Nat} {rw : Nat → Option Nat} (S : GS) (p0 : Int32) (p1 : Int32) (p2 : Int32)  (hr_p0 : 4 ≤ p0.toInt ∧ p0.toInt ≤ 2147483647) : Ct l D cy T0 tB tE yX11_lawful cX11_lawful 6 (some .int) 1 20 0 0 (cw cy tE a rw S) [.ref (a 0), .int 0, .int p0, .int p1, .int p2] (QI D (U := GS) (fun r u => (-1) = r ∧ S = u) (cw cy tE a rw)) := by
  refine Ct.ofZ RX11 "lawful" [(0, .ref (a 0)), (1, .int 0), (2, .int p0), (3, .int p1), (4, .int p2)] rfl rfl rfl rfl (Nat.le_of_ble_eq_true rfl) ?_
  intro p e R s m args below meth c A b
  refine z_iload_n b dX11_lawful_0 rfl rfl ?_
  refine z_calli b (z_runS (As := [.int 0]) (st := []) b (c_X11_isRow_2 S ) cf_X11_isRow wm_X11_169 ws_X11_isRow dX11_lawful_1 rfl (Nat.le_of_ble_eq_true rfl) ⟨by decide, by decide, by decide, by decide⟩) (fun r4822 u4823 h4821 => ?_)
  obtain ⟨rfl, rfl⟩ := h4821
  refine z_if_eq_f (tgt := 32) b dX11_lawful_4 (by decide) (by decide) ?_
  refine z_iload_n b dX11_lawful_7 rfl rfl ?_
  refine z_calli b (z_runS (As := [.int p0]) (st := []) b (c_X11_areLaws S p0 ) cf_X11_areLaws wm_X11_181 ws_X11_areLaws dX11_lawful_8 rfl (Nat.le_of_ble_eq_true rfl) ⟨by decide, by decide, by decide, by decide⟩) (fun r4825 u4826 h4824 => ?_)
  rcases h4824 with ⟨c4827, rfl, rfl⟩ | ⟨c4828, rfl, rfl⟩
  · refine z_if_eq_t (tgt := 32) b dX11_lawful_11 (by decide) (by decide) ?_
    refine z_iconst (v := (-1)) b dX11_lawful_32 (by decide) ?_
    exact z_iret (u := S) b rfl dX11_lawful_33 ⟨rfl, rfl⟩ rfl (by decide) (by decide)
  · exfalso; omega

set_option maxHeartbeats 4000000 in
set_option maxRecDepth 100000 in
theorem c_X12_lawful_4 {l : Launch} {D : va_G} {cy : Nat → ClassId} {T0 tB tE : Nat} {a : Nat → Nat} (S : GS) (p0 : Int32) (p1 : Int32) (p2 : Int32)  (hr_p0 : 4 ≤ p0.toInt ∧ p0.toInt ≤ 2147483647) : Ct l D cy T0 tB tE yX12_lawful cX12_lawful 6 (some .int) 2 42 0 0 (mw cy a S) [.ref (a 0), .int 0, .int p0, .int p1, .int p2] (QI D (U := GS) (fun r u => (-1) = r ∧ S = u) (mw cy a)) := by
  refine Ct.ofZ RX12 "lawful" [(0, .ref (a 0)), (1, .int 0), (2, .int p0), (3, .int p1), (4, .int p2)] rfl rfl rfl rfl (Nat.le_of_ble_eq_true rfl) ?_
  intro p e R s m args below meth c A b
  refine z_iload_n b dX12_lawful_0 rfl rfl ?_
  refine z_calli b (z_runS (As := [.int 0]) (st := []) b (c_X12_isRow_2 S ) cf_X12_isRow wm_X12_452 ws_X12_isRow dX12_lawful_1 rfl (Nat.le_of_ble_eq_true rfl) ⟨by decide, by decide, by decide, by decide⟩) (fun r4830 u4831 h4829 => ?_)
  obtain ⟨rfl, rfl⟩ := h4829
  refine z_if_eq_f (tgt := 36) b dX12_lawful_4 (by decide) (by decide) ?_
  refine z_iload_n b dX12_lawful_7 rfl rfl ?_
  refine z_iconst (v := 1) b dX12_lawful_8 (by decide) ?_
  refine z_iconst (v := 3) b dX12_lawful_9 (by decide) ?_
  refine z_calli b (z_runS (As := [.int p0, .int 1, .int 3]) (st := []) b (c_X12_isIn_35 S p0 ) cf_X12_isIn wm_X12_1 ws_X12_isIn dX12_lawful_10 rfl (Nat.le_of_ble_eq_true rfl) ⟨by decide, by decide, by decide, by decide⟩) (fun r4833 u4834 h4832 => ?_)
  rcases h4832 with ⟨c4835, rfl, rfl⟩ | ⟨c4836, rfl, rfl⟩
  · refine z_if_eq_t (tgt := 36) b dX12_lawful_13 (by decide) (by decide) ?_
    refine z_iconst (v := (-1)) b dX12_lawful_36 (by decide) ?_
    exact z_iret (u := S) b rfl dX12_lawful_37 ⟨rfl, rfl⟩ rfl (by decide) (by decide)
  · exfalso; omega

set_option maxHeartbeats 4000000 in
set_option maxRecDepth 100000 in
theorem c_X11_lawful_5 {l : Launch} {D : va_G} {cy : Nat → ClassId} {T0 tB tE : Nat} {a : Nat → Nat} {rw : Nat → Option Nat} (S : GS) (p0 : Int32) (p1 : Int32) (p2 : Int32)  (hr_p0 : (-2147483648) ≤ p0.toInt ∧ p0.toInt ≤ 0) : Ct l D cy T0 tB tE yX11_lawful cX11_lawful 6 (some .int) 1 20 0 0 (cw cy tE a rw S) [.ref (a 0), .int 1, .int p0, .int p1, .int p2] (QI D (U := GS) (fun r u => (-1) = r ∧ S = u) (cw cy tE a rw)) := by
  refine Ct.ofZ RX11 "lawful" [(0, .ref (a 0)), (1, .int 1), (2, .int p0), (3, .int p1), (4, .int p2)] rfl rfl rfl rfl (Nat.le_of_ble_eq_true rfl) ?_
  intro p e R s m args below meth c A b
  refine z_iload_n b dX11_lawful_0 rfl rfl ?_
  refine z_calli b (z_runS (As := [.int 1]) (st := []) b (c_X11_isRow_3 S ) cf_X11_isRow wm_X11_169 ws_X11_isRow dX11_lawful_1 rfl (Nat.le_of_ble_eq_true rfl) ⟨by decide, by decide, by decide, by decide⟩) (fun r4838 u4839 h4837 => ?_)
  obtain ⟨rfl, rfl⟩ := h4837
  refine z_if_eq_f (tgt := 32) b dX11_lawful_4 (by decide) (by decide) ?_
  refine z_iload_n b dX11_lawful_7 rfl rfl ?_
  refine z_calli b (z_runS (As := [.int p0]) (st := []) b (c_X11_areLaws S p0 ) cf_X11_areLaws wm_X11_181 ws_X11_areLaws dX11_lawful_8 rfl (Nat.le_of_ble_eq_true rfl) ⟨by decide, by decide, by decide, by decide⟩) (fun r4841 u4842 h4840 => ?_)
  rcases h4840 with ⟨c4843, rfl, rfl⟩ | ⟨c4844, rfl, rfl⟩
  · refine z_if_eq_t (tgt := 32) b dX11_lawful_11 (by decide) (by decide) ?_
    refine z_iconst (v := (-1)) b dX11_lawful_32 (by decide) ?_
    exact z_iret (u := S) b rfl dX11_lawful_33 ⟨rfl, rfl⟩ rfl (by decide) (by decide)
  · exfalso; omega

set_option maxHeartbeats 4000000 in
set_option maxRecDepth 100000 in
theorem c_X12_lawful_5 {l : Launch} {D : va_G} {cy : Nat → ClassId} {T0 tB tE : Nat} {a : Nat → Nat} (S : GS) (p0 : Int32) (p1 : Int32) (p2 : Int32)  (hr_p0 : (-2147483648) ≤ p0.toInt ∧ p0.toInt ≤ 0) : Ct l D cy T0 tB tE yX12_lawful cX12_lawful 6 (some .int) 2 42 0 0 (mw cy a S) [.ref (a 0), .int 1, .int p0, .int p1, .int p2] (QI D (U := GS) (fun r u => (-1) = r ∧ S = u) (mw cy a)) := by
  refine Ct.ofZ RX12 "lawful" [(0, .ref (a 0)), (1, .int 1), (2, .int p0), (3, .int p1), (4, .int p2)] rfl rfl rfl rfl (Nat.le_of_ble_eq_true rfl) ?_
  intro p e R s m args below meth c A b
  refine z_iload_n b dX12_lawful_0 rfl rfl ?_
  refine z_calli b (z_runS (As := [.int 1]) (st := []) b (c_X12_isRow_3 S ) cf_X12_isRow wm_X12_452 ws_X12_isRow dX12_lawful_1 rfl (Nat.le_of_ble_eq_true rfl) ⟨by decide, by decide, by decide, by decide⟩) (fun r4846 u4847 h4845 => ?_)
  obtain ⟨rfl, rfl⟩ := h4845
  refine z_if_eq_f (tgt := 36) b dX12_lawful_4 (by decide) (by decide) ?_
  refine z_iload_n b dX12_lawful_7 rfl rfl ?_
  refine z_iconst (v := 1) b dX12_lawful_8 (by decide) ?_
  refine z_iconst (v := 3) b dX12_lawful_9 (by decide) ?_
  refine z_calli b (z_runS (As := [.int p0, .int 1, .int 3]) (st := []) b (c_X12_isIn_35 S p0 ) cf_X12_isIn wm_X12_1 ws_X12_isIn dX12_lawful_10 rfl (Nat.le_of_ble_eq_true rfl) ⟨by decide, by decide, by decide, by decide⟩) (fun r4849 u4850 h4848 => ?_)
  rcases h4848 with ⟨c4851, rfl, rfl⟩ | ⟨c4852, rfl, rfl⟩
  · refine z_if_eq_t (tgt := 36) b dX12_lawful_13 (by decide) (by decide) ?_
    refine z_iconst (v := (-1)) b dX12_lawful_36 (by decide) ?_
    exact z_iret (u := S) b rfl dX12_lawful_37 ⟨rfl, rfl⟩ rfl (by decide) (by decide)
  · exfalso; omega

set_option maxHeartbeats 4000000 in
set_option maxRecDepth 100000 in
theorem c_X11_lawful_6 {l : Launch} {D : va_G} {cy : Nat → ClassId} {T0 tB tE : Nat} {a : Nat → Nat} {rw : Nat → Option Nat} (S : GS) (p0 : Int32) (p1 : Int32) (p2 : Int32)  (hr_p0 : 4 ≤ p0.toInt ∧ p0.toInt ≤ 2147483647) : Ct l D cy T0 tB tE yX11_lawful cX11_lawful 6 (some .int) 1 20 0 0 (cw cy tE a rw S) [.ref (a 0), .int 1, .int p0, .int p1, .int p2] (QI D (U := GS) (fun r u => (-1) = r ∧ S = u) (cw cy tE a rw)) := by
  refine Ct.ofZ RX11 "lawful" [(0, .ref (a 0)), (1, .int 1), (2, .int p0), (3, .int p1), (4, .int p2)] rfl rfl rfl rfl (Nat.le_of_ble_eq_true rfl) ?_
  intro p e R s m args below meth c A b
  refine z_iload_n b dX11_lawful_0 rfl rfl ?_
  refine z_calli b (z_runS (As := [.int 1]) (st := []) b (c_X11_isRow_3 S ) cf_X11_isRow wm_X11_169 ws_X11_isRow dX11_lawful_1 rfl (Nat.le_of_ble_eq_true rfl) ⟨by decide, by decide, by decide, by decide⟩) (fun r4854 u4855 h4853 => ?_)
  obtain ⟨rfl, rfl⟩ := h4853
  refine z_if_eq_f (tgt := 32) b dX11_lawful_4 (by decide) (by decide) ?_
  refine z_iload_n b dX11_lawful_7 rfl rfl ?_
  refine z_calli b (z_runS (As := [.int p0]) (st := []) b (c_X11_areLaws S p0 ) cf_X11_areLaws wm_X11_181 ws_X11_areLaws dX11_lawful_8 rfl (Nat.le_of_ble_eq_true rfl) ⟨by decide, by decide, by decide, by decide⟩) (fun r4857 u4858 h4856 => ?_)
  rcases h4856 with ⟨c4859, rfl, rfl⟩ | ⟨c4860, rfl, rfl⟩
  · refine z_if_eq_t (tgt := 32) b dX11_lawful_11 (by decide) (by decide) ?_
    refine z_iconst (v := (-1)) b dX11_lawful_32 (by decide) ?_
    exact z_iret (u := S) b rfl dX11_lawful_33 ⟨rfl, rfl⟩ rfl (by decide) (by decide)
  · exfalso; omega

set_option maxHeartbeats 4000000 in
set_option maxRecDepth 100000 in
theorem c_X12_lawful_6 {l : Launch} {D : va_G} {cy : Nat → ClassId} {T0 tB tE : Nat} {a : Nat → Nat} (S : GS) (p0 : Int32) (p1 : Int32) (p2 : Int32)  (hr_p0 : 4 ≤ p0.toInt ∧ p0.toInt ≤ 2147483647) : Ct l D cy T0 tB tE yX12_lawful cX12_lawful 6 (some .int) 2 42 0 0 (mw cy a S) [.ref (a 0), .int 1, .int p0, .int p1, .int p2] (QI D (U := GS) (fun r u => (-1) = r ∧ S = u) (mw cy a)) := by
  refine Ct.ofZ RX12 "lawful" [(0, .ref (a 0)), (1, .int 1), (2, .int p0), (3, .int p1), (4, .int p2)] rfl rfl rfl rfl (Nat.le_of_ble_eq_true rfl) ?_
  intro p e R s m args below meth c A b
  refine z_iload_n b dX12_lawful_0 rfl rfl ?_
  refine z_calli b (z_runS (As := [.int 1]) (st := []) b (c_X12_isRow_3 S ) cf_X12_isRow wm_X12_452 ws_X12_isRow dX12_lawful_1 rfl (Nat.le_of_ble_eq_true rfl) ⟨by decide, by decide, by decide, by decide⟩) (fun r4862 u4863 h4861 => ?_)
  obtain ⟨rfl, rfl⟩ := h4861
  refine z_if_eq_f (tgt := 36) b dX12_lawful_4 (by decide) (by decide) ?_
  refine z_iload_n b dX12_lawful_7 rfl rfl ?_
  refine z_iconst (v := 1) b dX12_lawful_8 (by decide) ?_
  refine z_iconst (v := 3) b dX12_lawful_9 (by decide) ?_
  refine z_calli b (z_runS (As := [.int p0, .int 1, .int 3]) (st := []) b (c_X12_isIn_35 S p0 ) cf_X12_isIn wm_X12_1 ws_X12_isIn dX12_lawful_10 rfl (Nat.le_of_ble_eq_true rfl) ⟨by decide, by decide, by decide, by decide⟩) (fun r4865 u4866 h4864 => ?_)
  rcases h4864 with ⟨c4867, rfl, rfl⟩ | ⟨c4868, rfl, rfl⟩
  · refine z_if_eq_t (tgt := 36) b dX12_lawful_13 (by decide) (by decide) ?_
    refine z_iconst (v := (-1)) b dX12_lawful_36 (by decide) ?_
    exact z_iret (u := S) b rfl dX12_lawful_37 ⟨rfl, rfl⟩ rfl (by decide) (by decide)
  · exfalso; omega

set_option maxHeartbeats 4000000 in
set_option maxRecDepth 100000 in
theorem c_X11_lawful_7 {l : Launch} {D : va_G} {cy : Nat → ClassId} {T0 tB tE : Nat} {a : Nat → Nat} {rw : Nat → Option Nat} (S : GS) (p0 : Int32) (p1 : Int32) (p2 : Int32)  (hr_p0 : (-2147483648) ≤ p0.toInt ∧ p0.toInt ≤ 0) : Ct l D cy T0 tB tE yX11_lawful cX11_lawful 6 (some .int) 1 20 0 0 (cw cy tE a rw S) [.ref (a 0), .int 2, .int p0, .int p1, .int p2] (QI D (U := GS) (fun r u => (-1) = r ∧ S = u) (cw cy tE a rw)) := by
  refine Ct.ofZ RX11 "lawful" [(0, .ref (a 0)), (1, .int 2), (2, .int p0), (3, .int p1), (4, .int p2)] rfl rfl rfl rfl (Nat.le_of_ble_eq_true rfl) ?_
  intro p e R s m args below meth c A b
  refine z_iload_n b dX11_lawful_0 rfl rfl ?_
  refine z_calli b (z_runS (As := [.int 2]) (st := []) b (c_X11_isRow_4 S ) cf_X11_isRow wm_X11_169 ws_X11_isRow dX11_lawful_1 rfl (Nat.le_of_ble_eq_true rfl) ⟨by decide, by decide, by decide, by decide⟩) (fun r4870 u4871 h4869 => ?_)
  obtain ⟨rfl, rfl⟩ := h4869
  refine z_if_eq_f (tgt := 32) b dX11_lawful_4 (by decide) (by decide) ?_
  refine z_iload_n b dX11_lawful_7 rfl rfl ?_
  refine z_calli b (z_runS (As := [.int p0]) (st := []) b (c_X11_areLaws S p0 ) cf_X11_areLaws wm_X11_181 ws_X11_areLaws dX11_lawful_8 rfl (Nat.le_of_ble_eq_true rfl) ⟨by decide, by decide, by decide, by decide⟩) (fun r4873 u4874 h4872 => ?_)
  rcases h4872 with ⟨c4875, rfl, rfl⟩ | ⟨c4876, rfl, rfl⟩
  · refine z_if_eq_t (tgt := 32) b dX11_lawful_11 (by decide) (by decide) ?_
    refine z_iconst (v := (-1)) b dX11_lawful_32 (by decide) ?_
    exact z_iret (u := S) b rfl dX11_lawful_33 ⟨rfl, rfl⟩ rfl (by decide) (by decide)
  · exfalso; omega

set_option maxHeartbeats 4000000 in
set_option maxRecDepth 100000 in
theorem c_X12_lawful_7 {l : Launch} {D : va_G} {cy : Nat → ClassId} {T0 tB tE : Nat} {a : Nat → Nat} (S : GS) (p0 : Int32) (p1 : Int32) (p2 : Int32)  (hr_p0 : (-2147483648) ≤ p0.toInt ∧ p0.toInt ≤ 0) : Ct l D cy T0 tB tE yX12_lawful cX12_lawful 6 (some .int) 2 42 0 0 (mw cy a S) [.ref (a 0), .int 2, .int p0, .int p1, .int p2] (QI D (U := GS) (fun r u => (-1) = r ∧ S = u) (mw cy a)) := by
  refine Ct.ofZ RX12 "lawful" [(0, .ref (a 0)), (1, .int 2), (2, .int p0), (3, .int p1), (4, .int p2)] rfl rfl rfl rfl (Nat.le_of_ble_eq_true rfl) ?_
  intro p e R s m args below meth c A b
  refine z_iload_n b dX12_lawful_0 rfl rfl ?_
  refine z_calli b (z_runS (As := [.int 2]) (st := []) b (c_X12_isRow_4 S ) cf_X12_isRow wm_X12_452 ws_X12_isRow dX12_lawful_1 rfl (Nat.le_of_ble_eq_true rfl) ⟨by decide, by decide, by decide, by decide⟩) (fun r4878 u4879 h4877 => ?_)
  obtain ⟨rfl, rfl⟩ := h4877
  refine z_if_eq_f (tgt := 36) b dX12_lawful_4 (by decide) (by decide) ?_
  refine z_iload_n b dX12_lawful_7 rfl rfl ?_
  refine z_iconst (v := 1) b dX12_lawful_8 (by decide) ?_
  refine z_iconst (v := 3) b dX12_lawful_9 (by decide) ?_
  refine z_calli b (z_runS (As := [.int p0, .int 1, .int 3]) (st := []) b (c_X12_isIn_35 S p0 ) cf_X12_isIn wm_X12_1 ws_X12_isIn dX12_lawful_10 rfl (Nat.le_of_ble_eq_true rfl) ⟨by decide, by decide, by decide, by decide⟩) (fun r4881 u4882 h4880 => ?_)
  rcases h4880 with ⟨c4883, rfl, rfl⟩ | ⟨c4884, rfl, rfl⟩
  · refine z_if_eq_t (tgt := 36) b dX12_lawful_13 (by decide) (by decide) ?_
    refine z_iconst (v := (-1)) b dX12_lawful_36 (by decide) ?_
    exact z_iret (u := S) b rfl dX12_lawful_37 ⟨rfl, rfl⟩ rfl (by decide) (by decide)
  · exfalso; omega

set_option maxHeartbeats 4000000 in
set_option maxRecDepth 100000 in
theorem c_X11_lawful_8 {l : Launch} {D : va_G} {cy : Nat → ClassId} {T0 tB tE : Nat} {a : Nat → Nat} {rw : Nat → Option Nat} (S : GS) (p0 : Int32) (p1 : Int32) (p2 : Int32)  (hr_p0 : 4 ≤ p0.toInt ∧ p0.toInt ≤ 2147483647) : Ct l D cy T0 tB tE yX11_lawful cX11_lawful 6 (some .int) 1 20 0 0 (cw cy tE a rw S) [.ref (a 0), .int 2, .int p0, .int p1, .int p2] (QI D (U := GS) (fun r u => (-1) = r ∧ S = u) (cw cy tE a rw)) := by
  refine Ct.ofZ RX11 "lawful" [(0, .ref (a 0)), (1, .int 2), (2, .int p0), (3, .int p1), (4, .int p2)] rfl rfl rfl rfl (Nat.le_of_ble_eq_true rfl) ?_
  intro p e R s m args below meth c A b
  refine z_iload_n b dX11_lawful_0 rfl rfl ?_
  refine z_calli b (z_runS (As := [.int 2]) (st := []) b (c_X11_isRow_4 S ) cf_X11_isRow wm_X11_169 ws_X11_isRow dX11_lawful_1 rfl (Nat.le_of_ble_eq_true rfl) ⟨by decide, by decide, by decide, by decide⟩) (fun r4886 u4887 h4885 => ?_)
  obtain ⟨rfl, rfl⟩ := h4885
  refine z_if_eq_f (tgt := 32) b dX11_lawful_4 (by decide) (by decide) ?_
  refine z_iload_n b dX11_lawful_7 rfl rfl ?_
  refine z_calli b (z_runS (As := [.int p0]) (st := []) b (c_X11_areLaws S p0 ) cf_X11_areLaws wm_X11_181 ws_X11_areLaws dX11_lawful_8 rfl (Nat.le_of_ble_eq_true rfl) ⟨by decide, by decide, by decide, by decide⟩) (fun r4889 u4890 h4888 => ?_)
  rcases h4888 with ⟨c4891, rfl, rfl⟩ | ⟨c4892, rfl, rfl⟩
  · refine z_if_eq_t (tgt := 32) b dX11_lawful_11 (by decide) (by decide) ?_
    refine z_iconst (v := (-1)) b dX11_lawful_32 (by decide) ?_
    exact z_iret (u := S) b rfl dX11_lawful_33 ⟨rfl, rfl⟩ rfl (by decide) (by decide)
  · exfalso; omega

set_option maxHeartbeats 4000000 in
set_option maxRecDepth 100000 in
theorem c_X12_lawful_8 {l : Launch} {D : va_G} {cy : Nat → ClassId} {T0 tB tE : Nat} {a : Nat → Nat} (S : GS) (p0 : Int32) (p1 : Int32) (p2 : Int32)  (hr_p0 : 4 ≤ p0.toInt ∧ p0.toInt ≤ 2147483647) : Ct l D cy T0 tB tE yX12_lawful cX12_lawful 6 (some .int) 2 42 0 0 (mw cy a S) [.ref (a 0), .int 2, .int p0, .int p1, .int p2] (QI D (U := GS) (fun r u => (-1) = r ∧ S = u) (mw cy a)) := by
  refine Ct.ofZ RX12 "lawful" [(0, .ref (a 0)), (1, .int 2), (2, .int p0), (3, .int p1), (4, .int p2)] rfl rfl rfl rfl (Nat.le_of_ble_eq_true rfl) ?_
  intro p e R s m args below meth c A b
  refine z_iload_n b dX12_lawful_0 rfl rfl ?_
  refine z_calli b (z_runS (As := [.int 2]) (st := []) b (c_X12_isRow_4 S ) cf_X12_isRow wm_X12_452 ws_X12_isRow dX12_lawful_1 rfl (Nat.le_of_ble_eq_true rfl) ⟨by decide, by decide, by decide, by decide⟩) (fun r4894 u4895 h4893 => ?_)
  obtain ⟨rfl, rfl⟩ := h4893
  refine z_if_eq_f (tgt := 36) b dX12_lawful_4 (by decide) (by decide) ?_
  refine z_iload_n b dX12_lawful_7 rfl rfl ?_
  refine z_iconst (v := 1) b dX12_lawful_8 (by decide) ?_
  refine z_iconst (v := 3) b dX12_lawful_9 (by decide) ?_
  refine z_calli b (z_runS (As := [.int p0, .int 1, .int 3]) (st := []) b (c_X12_isIn_35 S p0 ) cf_X12_isIn wm_X12_1 ws_X12_isIn dX12_lawful_10 rfl (Nat.le_of_ble_eq_true rfl) ⟨by decide, by decide, by decide, by decide⟩) (fun r4897 u4898 h4896 => ?_)
  rcases h4896 with ⟨c4899, rfl, rfl⟩ | ⟨c4900, rfl, rfl⟩
  · refine z_if_eq_t (tgt := 36) b dX12_lawful_13 (by decide) (by decide) ?_
    refine z_iconst (v := (-1)) b dX12_lawful_36 (by decide) ?_
    exact z_iret (u := S) b rfl dX12_lawful_37 ⟨rfl, rfl⟩ rfl (by decide) (by decide)
  · exfalso; omega

set_option maxHeartbeats 4000000 in
set_option maxRecDepth 100000 in
theorem c_X11_lawful_9 {l : Launch} {D : va_G} {cy : Nat → ClassId} {T0 tB tE : Nat} {a : Nat → Nat} {rw : Nat → Option Nat} (S : GS) (p0 : Int32) (p1 : Int32) (p2 : Int32)  (hr_p0 : (-2147483648) ≤ p0.toInt ∧ p0.toInt ≤ 0) : Ct l D cy T0 tB tE yX11_lawful cX11_lawful 6 (some .int) 1 20 0 0 (cw cy tE a rw S) [.ref (a 0), .int 3, .int p0, .int p1, .int p2] (QI D (U := GS) (fun r u => (-1) = r ∧ S = u) (cw cy tE a rw)) := by
  refine Ct.ofZ RX11 "lawful" [(0, .ref (a 0)), (1, .int 3), (2, .int p0), (3, .int p1), (4, .int p2)] rfl rfl rfl rfl (Nat.le_of_ble_eq_true rfl) ?_
  intro p e R s m args below meth c A b
  refine z_iload_n b dX11_lawful_0 rfl rfl ?_
  refine z_calli b (z_runS (As := [.int 3]) (st := []) b (c_X11_isRow_5 S ) cf_X11_isRow wm_X11_169 ws_X11_isRow dX11_lawful_1 rfl (Nat.le_of_ble_eq_true rfl) ⟨by decide, by decide, by decide, by decide⟩) (fun r4902 u4903 h4901 => ?_)
  obtain ⟨rfl, rfl⟩ := h4901
  refine z_if_eq_f (tgt := 32) b dX11_lawful_4 (by decide) (by decide) ?_
  refine z_iload_n b dX11_lawful_7 rfl rfl ?_
  refine z_calli b (z_runS (As := [.int p0]) (st := []) b (c_X11_areLaws S p0 ) cf_X11_areLaws wm_X11_181 ws_X11_areLaws dX11_lawful_8 rfl (Nat.le_of_ble_eq_true rfl) ⟨by decide, by decide, by decide, by decide⟩) (fun r4905 u4906 h4904 => ?_)
  rcases h4904 with ⟨c4907, rfl, rfl⟩ | ⟨c4908, rfl, rfl⟩
  · refine z_if_eq_t (tgt := 32) b dX11_lawful_11 (by decide) (by decide) ?_
    refine z_iconst (v := (-1)) b dX11_lawful_32 (by decide) ?_
    exact z_iret (u := S) b rfl dX11_lawful_33 ⟨rfl, rfl⟩ rfl (by decide) (by decide)
  · exfalso; omega

set_option maxHeartbeats 4000000 in
set_option maxRecDepth 100000 in
theorem c_X12_lawful_9 {l : Launch} {D : va_G} {cy : Nat → ClassId} {T0 tB tE : Nat} {a : Nat → Nat} (S : GS) (p0 : Int32) (p1 : Int32) (p2 : Int32)  (hr_p0 : (-2147483648) ≤ p0.toInt ∧ p0.toInt ≤ 0) : Ct l D cy T0 tB tE yX12_lawful cX12_lawful 6 (some .int) 2 42 0 0 (mw cy a S) [.ref (a 0), .int 3, .int p0, .int p1, .int p2] (QI D (U := GS) (fun r u => (-1) = r ∧ S = u) (mw cy a)) := by
  refine Ct.ofZ RX12 "lawful" [(0, .ref (a 0)), (1, .int 3), (2, .int p0), (3, .int p1), (4, .int p2)] rfl rfl rfl rfl (Nat.le_of_ble_eq_true rfl) ?_
  intro p e R s m args below meth c A b
  refine z_iload_n b dX12_lawful_0 rfl rfl ?_
  refine z_calli b (z_runS (As := [.int 3]) (st := []) b (c_X12_isRow_5 S ) cf_X12_isRow wm_X12_452 ws_X12_isRow dX12_lawful_1 rfl (Nat.le_of_ble_eq_true rfl) ⟨by decide, by decide, by decide, by decide⟩) (fun r4910 u4911 h4909 => ?_)
  obtain ⟨rfl, rfl⟩ := h4909
  refine z_if_eq_f (tgt := 36) b dX12_lawful_4 (by decide) (by decide) ?_
  refine z_iload_n b dX12_lawful_7 rfl rfl ?_
  refine z_iconst (v := 1) b dX12_lawful_8 (by decide) ?_
  refine z_iconst (v := 3) b dX12_lawful_9 (by decide) ?_
  refine z_calli b (z_runS (As := [.int p0, .int 1, .int 3]) (st := []) b (c_X12_isIn_35 S p0 ) cf_X12_isIn wm_X12_1 ws_X12_isIn dX12_lawful_10 rfl (Nat.le_of_ble_eq_true rfl) ⟨by decide, by decide, by decide, by decide⟩) (fun r4913 u4914 h4912 => ?_)
  rcases h4912 with ⟨c4915, rfl, rfl⟩ | ⟨c4916, rfl, rfl⟩
  · refine z_if_eq_t (tgt := 36) b dX12_lawful_13 (by decide) (by decide) ?_
    refine z_iconst (v := (-1)) b dX12_lawful_36 (by decide) ?_
    exact z_iret (u := S) b rfl dX12_lawful_37 ⟨rfl, rfl⟩ rfl (by decide) (by decide)
  · exfalso; omega

set_option maxHeartbeats 4000000 in
set_option maxRecDepth 100000 in
theorem c_X11_lawful_10 {l : Launch} {D : va_G} {cy : Nat → ClassId} {T0 tB tE : Nat} {a : Nat → Nat} {rw : Nat → Option Nat} (S : GS) (p0 : Int32) (p1 : Int32) (p2 : Int32)  (hr_p0 : 4 ≤ p0.toInt ∧ p0.toInt ≤ 2147483647) : Ct l D cy T0 tB tE yX11_lawful cX11_lawful 6 (some .int) 1 20 0 0 (cw cy tE a rw S) [.ref (a 0), .int 3, .int p0, .int p1, .int p2] (QI D (U := GS) (fun r u => (-1) = r ∧ S = u) (cw cy tE a rw)) := by
  refine Ct.ofZ RX11 "lawful" [(0, .ref (a 0)), (1, .int 3), (2, .int p0), (3, .int p1), (4, .int p2)] rfl rfl rfl rfl (Nat.le_of_ble_eq_true rfl) ?_
  intro p e R s m args below meth c A b
  refine z_iload_n b dX11_lawful_0 rfl rfl ?_
  refine z_calli b (z_runS (As := [.int 3]) (st := []) b (c_X11_isRow_5 S ) cf_X11_isRow wm_X11_169 ws_X11_isRow dX11_lawful_1 rfl (Nat.le_of_ble_eq_true rfl) ⟨by decide, by decide, by decide, by decide⟩) (fun r4918 u4919 h4917 => ?_)
  obtain ⟨rfl, rfl⟩ := h4917
  refine z_if_eq_f (tgt := 32) b dX11_lawful_4 (by decide) (by decide) ?_
  refine z_iload_n b dX11_lawful_7 rfl rfl ?_
  refine z_calli b (z_runS (As := [.int p0]) (st := []) b (c_X11_areLaws S p0 ) cf_X11_areLaws wm_X11_181 ws_X11_areLaws dX11_lawful_8 rfl (Nat.le_of_ble_eq_true rfl) ⟨by decide, by decide, by decide, by decide⟩) (fun r4921 u4922 h4920 => ?_)
  rcases h4920 with ⟨c4923, rfl, rfl⟩ | ⟨c4924, rfl, rfl⟩
  · refine z_if_eq_t (tgt := 32) b dX11_lawful_11 (by decide) (by decide) ?_
    refine z_iconst (v := (-1)) b dX11_lawful_32 (by decide) ?_
    exact z_iret (u := S) b rfl dX11_lawful_33 ⟨rfl, rfl⟩ rfl (by decide) (by decide)
  · exfalso; omega

set_option maxHeartbeats 4000000 in
set_option maxRecDepth 100000 in
theorem c_X12_lawful_10 {l : Launch} {D : va_G} {cy : Nat → ClassId} {T0 tB tE : Nat} {a : Nat → Nat} (S : GS) (p0 : Int32) (p1 : Int32) (p2 : Int32)  (hr_p0 : 4 ≤ p0.toInt ∧ p0.toInt ≤ 2147483647) : Ct l D cy T0 tB tE yX12_lawful cX12_lawful 6 (some .int) 2 42 0 0 (mw cy a S) [.ref (a 0), .int 3, .int p0, .int p1, .int p2] (QI D (U := GS) (fun r u => (-1) = r ∧ S = u) (mw cy a)) := by
  refine Ct.ofZ RX12 "lawful" [(0, .ref (a 0)), (1, .int 3), (2, .int p0), (3, .int p1), (4, .int p2)] rfl rfl rfl rfl (Nat.le_of_ble_eq_true rfl) ?_
  intro p e R s m args below meth c A b
  refine z_iload_n b dX12_lawful_0 rfl rfl ?_
  refine z_calli b (z_runS (As := [.int 3]) (st := []) b (c_X12_isRow_5 S ) cf_X12_isRow wm_X12_452 ws_X12_isRow dX12_lawful_1 rfl (Nat.le_of_ble_eq_true rfl) ⟨by decide, by decide, by decide, by decide⟩) (fun r4926 u4927 h4925 => ?_)
  obtain ⟨rfl, rfl⟩ := h4925
  refine z_if_eq_f (tgt := 36) b dX12_lawful_4 (by decide) (by decide) ?_
  refine z_iload_n b dX12_lawful_7 rfl rfl ?_
  refine z_iconst (v := 1) b dX12_lawful_8 (by decide) ?_
  refine z_iconst (v := 3) b dX12_lawful_9 (by decide) ?_
  refine z_calli b (z_runS (As := [.int p0, .int 1, .int 3]) (st := []) b (c_X12_isIn_35 S p0 ) cf_X12_isIn wm_X12_1 ws_X12_isIn dX12_lawful_10 rfl (Nat.le_of_ble_eq_true rfl) ⟨by decide, by decide, by decide, by decide⟩) (fun r4929 u4930 h4928 => ?_)
  rcases h4928 with ⟨c4931, rfl, rfl⟩ | ⟨c4932, rfl, rfl⟩
  · refine z_if_eq_t (tgt := 36) b dX12_lawful_13 (by decide) (by decide) ?_
    refine z_iconst (v := (-1)) b dX12_lawful_36 (by decide) ?_
    exact z_iret (u := S) b rfl dX12_lawful_37 ⟨rfl, rfl⟩ rfl (by decide) (by decide)
  · exfalso; omega

set_option maxHeartbeats 4000000 in
set_option maxRecDepth 100000 in
theorem c_X11_lawful_11 {l : Launch} {D : va_G} {cy : Nat → ClassId} {T0 tB tE : Nat} {a : Nat → Nat} {rw : Nat → Option Nat} (S : GS) (p0 : Int32) (p1 : Int32) (p2 : Int32)  (hr_p0 : (-2147483648) ≤ p0.toInt ∧ p0.toInt ≤ 0) : Ct l D cy T0 tB tE yX11_lawful cX11_lawful 6 (some .int) 1 20 0 0 (cw cy tE a rw S) [.ref (a 0), .int 4, .int p0, .int p1, .int p2] (QI D (U := GS) (fun r u => (-1) = r ∧ S = u) (cw cy tE a rw)) := by
  refine Ct.ofZ RX11 "lawful" [(0, .ref (a 0)), (1, .int 4), (2, .int p0), (3, .int p1), (4, .int p2)] rfl rfl rfl rfl (Nat.le_of_ble_eq_true rfl) ?_
  intro p e R s m args below meth c A b
  refine z_iload_n b dX11_lawful_0 rfl rfl ?_
  refine z_calli b (z_runS (As := [.int 4]) (st := []) b (c_X11_isRow_6 S ) cf_X11_isRow wm_X11_169 ws_X11_isRow dX11_lawful_1 rfl (Nat.le_of_ble_eq_true rfl) ⟨by decide, by decide, by decide, by decide⟩) (fun r4934 u4935 h4933 => ?_)
  obtain ⟨rfl, rfl⟩ := h4933
  refine z_if_eq_f (tgt := 32) b dX11_lawful_4 (by decide) (by decide) ?_
  refine z_iload_n b dX11_lawful_7 rfl rfl ?_
  refine z_calli b (z_runS (As := [.int p0]) (st := []) b (c_X11_areLaws S p0 ) cf_X11_areLaws wm_X11_181 ws_X11_areLaws dX11_lawful_8 rfl (Nat.le_of_ble_eq_true rfl) ⟨by decide, by decide, by decide, by decide⟩) (fun r4937 u4938 h4936 => ?_)
  rcases h4936 with ⟨c4939, rfl, rfl⟩ | ⟨c4940, rfl, rfl⟩
  · refine z_if_eq_t (tgt := 32) b dX11_lawful_11 (by decide) (by decide) ?_
    refine z_iconst (v := (-1)) b dX11_lawful_32 (by decide) ?_
    exact z_iret (u := S) b rfl dX11_lawful_33 ⟨rfl, rfl⟩ rfl (by decide) (by decide)
  · exfalso; omega

set_option maxHeartbeats 4000000 in
set_option maxRecDepth 100000 in
theorem c_X12_lawful_11 {l : Launch} {D : va_G} {cy : Nat → ClassId} {T0 tB tE : Nat} {a : Nat → Nat} (S : GS) (p0 : Int32) (p1 : Int32) (p2 : Int32)  (hr_p0 : (-2147483648) ≤ p0.toInt ∧ p0.toInt ≤ 0) : Ct l D cy T0 tB tE yX12_lawful cX12_lawful 6 (some .int) 2 42 0 0 (mw cy a S) [.ref (a 0), .int 4, .int p0, .int p1, .int p2] (QI D (U := GS) (fun r u => (-1) = r ∧ S = u) (mw cy a)) := by
  refine Ct.ofZ RX12 "lawful" [(0, .ref (a 0)), (1, .int 4), (2, .int p0), (3, .int p1), (4, .int p2)] rfl rfl rfl rfl (Nat.le_of_ble_eq_true rfl) ?_
  intro p e R s m args below meth c A b
  refine z_iload_n b dX12_lawful_0 rfl rfl ?_
  refine z_calli b (z_runS (As := [.int 4]) (st := []) b (c_X12_isRow_6 S ) cf_X12_isRow wm_X12_452 ws_X12_isRow dX12_lawful_1 rfl (Nat.le_of_ble_eq_true rfl) ⟨by decide, by decide, by decide, by decide⟩) (fun r4942 u4943 h4941 => ?_)
  obtain ⟨rfl, rfl⟩ := h4941
  refine z_if_eq_f (tgt := 36) b dX12_lawful_4 (by decide) (by decide) ?_
  refine z_iload_n b dX12_lawful_7 rfl rfl ?_
  refine z_iconst (v := 1) b dX12_lawful_8 (by decide) ?_
  refine z_iconst (v := 3) b dX12_lawful_9 (by decide) ?_
  refine z_calli b (z_runS (As := [.int p0, .int 1, .int 3]) (st := []) b (c_X12_isIn_35 S p0 ) cf_X12_isIn wm_X12_1 ws_X12_isIn dX12_lawful_10 rfl (Nat.le_of_ble_eq_true rfl) ⟨by decide, by decide, by decide, by decide⟩) (fun r4945 u4946 h4944 => ?_)
  rcases h4944 with ⟨c4947, rfl, rfl⟩ | ⟨c4948, rfl, rfl⟩
  · refine z_if_eq_t (tgt := 36) b dX12_lawful_13 (by decide) (by decide) ?_
    refine z_iconst (v := (-1)) b dX12_lawful_36 (by decide) ?_
    exact z_iret (u := S) b rfl dX12_lawful_37 ⟨rfl, rfl⟩ rfl (by decide) (by decide)
  · exfalso; omega

set_option maxHeartbeats 4000000 in
set_option maxRecDepth 100000 in
theorem c_X11_lawful_12 {l : Launch} {D : va_G} {cy : Nat → ClassId} {T0 tB tE : Nat} {a : Nat → Nat} {rw : Nat → Option Nat} (S : GS) (p0 : Int32) (p1 : Int32) (p2 : Int32)  (hr_p0 : 4 ≤ p0.toInt ∧ p0.toInt ≤ 2147483647) : Ct l D cy T0 tB tE yX11_lawful cX11_lawful 6 (some .int) 1 20 0 0 (cw cy tE a rw S) [.ref (a 0), .int 4, .int p0, .int p1, .int p2] (QI D (U := GS) (fun r u => (-1) = r ∧ S = u) (cw cy tE a rw)) := by
  refine Ct.ofZ RX11 "lawful" [(0, .ref (a 0)), (1, .int 4), (2, .int p0), (3, .int p1), (4, .int p2)] rfl rfl rfl rfl (Nat.le_of_ble_eq_true rfl) ?_
  intro p e R s m args below meth c A b
  refine z_iload_n b dX11_lawful_0 rfl rfl ?_
  refine z_calli b (z_runS (As := [.int 4]) (st := []) b (c_X11_isRow_6 S ) cf_X11_isRow wm_X11_169 ws_X11_isRow dX11_lawful_1 rfl (Nat.le_of_ble_eq_true rfl) ⟨by decide, by decide, by decide, by decide⟩) (fun r4950 u4951 h4949 => ?_)
  obtain ⟨rfl, rfl⟩ := h4949
  refine z_if_eq_f (tgt := 32) b dX11_lawful_4 (by decide) (by decide) ?_
  refine z_iload_n b dX11_lawful_7 rfl rfl ?_
  refine z_calli b (z_runS (As := [.int p0]) (st := []) b (c_X11_areLaws S p0 ) cf_X11_areLaws wm_X11_181 ws_X11_areLaws dX11_lawful_8 rfl (Nat.le_of_ble_eq_true rfl) ⟨by decide, by decide, by decide, by decide⟩) (fun r4953 u4954 h4952 => ?_)
  rcases h4952 with ⟨c4955, rfl, rfl⟩ | ⟨c4956, rfl, rfl⟩
  · refine z_if_eq_t (tgt := 32) b dX11_lawful_11 (by decide) (by decide) ?_
    refine z_iconst (v := (-1)) b dX11_lawful_32 (by decide) ?_
    exact z_iret (u := S) b rfl dX11_lawful_33 ⟨rfl, rfl⟩ rfl (by decide) (by decide)
  · exfalso; omega

set_option maxHeartbeats 4000000 in
set_option maxRecDepth 100000 in
theorem c_X12_lawful_12 {l : Launch} {D : va_G} {cy : Nat → ClassId} {T0 tB tE : Nat} {a : Nat → Nat} (S : GS) (p0 : Int32) (p1 : Int32) (p2 : Int32)  (hr_p0 : 4 ≤ p0.toInt ∧ p0.toInt ≤ 2147483647) : Ct l D cy T0 tB tE yX12_lawful cX12_lawful 6 (some .int) 2 42 0 0 (mw cy a S) [.ref (a 0), .int 4, .int p0, .int p1, .int p2] (QI D (U := GS) (fun r u => (-1) = r ∧ S = u) (mw cy a)) := by
  refine Ct.ofZ RX12 "lawful" [(0, .ref (a 0)), (1, .int 4), (2, .int p0), (3, .int p1), (4, .int p2)] rfl rfl rfl rfl (Nat.le_of_ble_eq_true rfl) ?_
  intro p e R s m args below meth c A b
  refine z_iload_n b dX12_lawful_0 rfl rfl ?_
  refine z_calli b (z_runS (As := [.int 4]) (st := []) b (c_X12_isRow_6 S ) cf_X12_isRow wm_X12_452 ws_X12_isRow dX12_lawful_1 rfl (Nat.le_of_ble_eq_true rfl) ⟨by decide, by decide, by decide, by decide⟩) (fun r4958 u4959 h4957 => ?_)
  obtain ⟨rfl, rfl⟩ := h4957
  refine z_if_eq_f (tgt := 36) b dX12_lawful_4 (by decide) (by decide) ?_
  refine z_iload_n b dX12_lawful_7 rfl rfl ?_
  refine z_iconst (v := 1) b dX12_lawful_8 (by decide) ?_
  refine z_iconst (v := 3) b dX12_lawful_9 (by decide) ?_
  refine z_calli b (z_runS (As := [.int p0, .int 1, .int 3]) (st := []) b (c_X12_isIn_35 S p0 ) cf_X12_isIn wm_X12_1 ws_X12_isIn dX12_lawful_10 rfl (Nat.le_of_ble_eq_true rfl) ⟨by decide, by decide, by decide, by decide⟩) (fun r4961 u4962 h4960 => ?_)
  rcases h4960 with ⟨c4963, rfl, rfl⟩ | ⟨c4964, rfl, rfl⟩
  · refine z_if_eq_t (tgt := 36) b dX12_lawful_13 (by decide) (by decide) ?_
    refine z_iconst (v := (-1)) b dX12_lawful_36 (by decide) ?_
    exact z_iret (u := S) b rfl dX12_lawful_37 ⟨rfl, rfl⟩ rfl (by decide) (by decide)
  · exfalso; omega

set_option maxHeartbeats 4000000 in
set_option maxRecDepth 100000 in
theorem c_X11_lawful_13 {l : Launch} {D : va_G} {cy : Nat → ClassId} {T0 tB tE : Nat} {a : Nat → Nat} {rw : Nat → Option Nat} (S : GS) (p0 : Int32) (p1 : Int32) (p2 : Int32)  (hr_p0 : (-2147483648) ≤ p0.toInt ∧ p0.toInt ≤ 0) : Ct l D cy T0 tB tE yX11_lawful cX11_lawful 6 (some .int) 1 20 0 0 (cw cy tE a rw S) [.ref (a 0), .int 5, .int p0, .int p1, .int p2] (QI D (U := GS) (fun r u => (-1) = r ∧ S = u) (cw cy tE a rw)) := by
  refine Ct.ofZ RX11 "lawful" [(0, .ref (a 0)), (1, .int 5), (2, .int p0), (3, .int p1), (4, .int p2)] rfl rfl rfl rfl (Nat.le_of_ble_eq_true rfl) ?_
  intro p e R s m args below meth c A b
  refine z_iload_n b dX11_lawful_0 rfl rfl ?_
  refine z_calli b (z_runS (As := [.int 5]) (st := []) b (c_X11_isRow_7 S ) cf_X11_isRow wm_X11_169 ws_X11_isRow dX11_lawful_1 rfl (Nat.le_of_ble_eq_true rfl) ⟨by decide, by decide, by decide, by decide⟩) (fun r4966 u4967 h4965 => ?_)
  obtain ⟨rfl, rfl⟩ := h4965
  refine z_if_eq_f (tgt := 32) b dX11_lawful_4 (by decide) (by decide) ?_
  refine z_iload_n b dX11_lawful_7 rfl rfl ?_
  refine z_calli b (z_runS (As := [.int p0]) (st := []) b (c_X11_areLaws S p0 ) cf_X11_areLaws wm_X11_181 ws_X11_areLaws dX11_lawful_8 rfl (Nat.le_of_ble_eq_true rfl) ⟨by decide, by decide, by decide, by decide⟩) (fun r4969 u4970 h4968 => ?_)
  rcases h4968 with ⟨c4971, rfl, rfl⟩ | ⟨c4972, rfl, rfl⟩
  · refine z_if_eq_t (tgt := 32) b dX11_lawful_11 (by decide) (by decide) ?_
    refine z_iconst (v := (-1)) b dX11_lawful_32 (by decide) ?_
    exact z_iret (u := S) b rfl dX11_lawful_33 ⟨rfl, rfl⟩ rfl (by decide) (by decide)
  · exfalso; omega

set_option maxHeartbeats 4000000 in
set_option maxRecDepth 100000 in
theorem c_X12_lawful_13 {l : Launch} {D : va_G} {cy : Nat → ClassId} {T0 tB tE : Nat} {a : Nat → Nat} (S : GS) (p0 : Int32) (p1 : Int32) (p2 : Int32)  (hr_p0 : (-2147483648) ≤ p0.toInt ∧ p0.toInt ≤ 0) : Ct l D cy T0 tB tE yX12_lawful cX12_lawful 6 (some .int) 2 42 0 0 (mw cy a S) [.ref (a 0), .int 5, .int p0, .int p1, .int p2] (QI D (U := GS) (fun r u => (-1) = r ∧ S = u) (mw cy a)) := by
  refine Ct.ofZ RX12 "lawful" [(0, .ref (a 0)), (1, .int 5), (2, .int p0), (3, .int p1), (4, .int p2)] rfl rfl rfl rfl (Nat.le_of_ble_eq_true rfl) ?_
  intro p e R s m args below meth c A b
  refine z_iload_n b dX12_lawful_0 rfl rfl ?_
  refine z_calli b (z_runS (As := [.int 5]) (st := []) b (c_X12_isRow_7 S ) cf_X12_isRow wm_X12_452 ws_X12_isRow dX12_lawful_1 rfl (Nat.le_of_ble_eq_true rfl) ⟨by decide, by decide, by decide, by decide⟩) (fun r4974 u4975 h4973 => ?_)
  obtain ⟨rfl, rfl⟩ := h4973
  refine z_if_eq_f (tgt := 36) b dX12_lawful_4 (by decide) (by decide) ?_
  refine z_iload_n b dX12_lawful_7 rfl rfl ?_
  refine z_iconst (v := 1) b dX12_lawful_8 (by decide) ?_
  refine z_iconst (v := 3) b dX12_lawful_9 (by decide) ?_
  refine z_calli b (z_runS (As := [.int p0, .int 1, .int 3]) (st := []) b (c_X12_isIn_35 S p0 ) cf_X12_isIn wm_X12_1 ws_X12_isIn dX12_lawful_10 rfl (Nat.le_of_ble_eq_true rfl) ⟨by decide, by decide, by decide, by decide⟩) (fun r4977 u4978 h4976 => ?_)
  rcases h4976 with ⟨c4979, rfl, rfl⟩ | ⟨c4980, rfl, rfl⟩
  · refine z_if_eq_t (tgt := 36) b dX12_lawful_13 (by decide) (by decide) ?_
    refine z_iconst (v := (-1)) b dX12_lawful_36 (by decide) ?_
    exact z_iret (u := S) b rfl dX12_lawful_37 ⟨rfl, rfl⟩ rfl (by decide) (by decide)
  · exfalso; omega

set_option maxHeartbeats 4000000 in
set_option maxRecDepth 100000 in
theorem c_X11_lawful_14 {l : Launch} {D : va_G} {cy : Nat → ClassId} {T0 tB tE : Nat} {a : Nat → Nat} {rw : Nat → Option Nat} (S : GS) (p0 : Int32) (p1 : Int32) (p2 : Int32)  (hr_p0 : 4 ≤ p0.toInt ∧ p0.toInt ≤ 2147483647) : Ct l D cy T0 tB tE yX11_lawful cX11_lawful 6 (some .int) 1 20 0 0 (cw cy tE a rw S) [.ref (a 0), .int 5, .int p0, .int p1, .int p2] (QI D (U := GS) (fun r u => (-1) = r ∧ S = u) (cw cy tE a rw)) := by
  refine Ct.ofZ RX11 "lawful" [(0, .ref (a 0)), (1, .int 5), (2, .int p0), (3, .int p1), (4, .int p2)] rfl rfl rfl rfl (Nat.le_of_ble_eq_true rfl) ?_
  intro p e R s m args below meth c A b
  refine z_iload_n b dX11_lawful_0 rfl rfl ?_
  refine z_calli b (z_runS (As := [.int 5]) (st := []) b (c_X11_isRow_7 S ) cf_X11_isRow wm_X11_169 ws_X11_isRow dX11_lawful_1 rfl (Nat.le_of_ble_eq_true rfl) ⟨by decide, by decide, by decide, by decide⟩) (fun r4982 u4983 h4981 => ?_)
  obtain ⟨rfl, rfl⟩ := h4981
  refine z_if_eq_f (tgt := 32) b dX11_lawful_4 (by decide) (by decide) ?_
  refine z_iload_n b dX11_lawful_7 rfl rfl ?_
  refine z_calli b (z_runS (As := [.int p0]) (st := []) b (c_X11_areLaws S p0 ) cf_X11_areLaws wm_X11_181 ws_X11_areLaws dX11_lawful_8 rfl (Nat.le_of_ble_eq_true rfl) ⟨by decide, by decide, by decide, by decide⟩) (fun r4985 u4986 h4984 => ?_)
  rcases h4984 with ⟨c4987, rfl, rfl⟩ | ⟨c4988, rfl, rfl⟩
  · refine z_if_eq_t (tgt := 32) b dX11_lawful_11 (by decide) (by decide) ?_
    refine z_iconst (v := (-1)) b dX11_lawful_32 (by decide) ?_
    exact z_iret (u := S) b rfl dX11_lawful_33 ⟨rfl, rfl⟩ rfl (by decide) (by decide)
  · exfalso; omega

set_option maxHeartbeats 4000000 in
set_option maxRecDepth 100000 in
theorem c_X12_lawful_14 {l : Launch} {D : va_G} {cy : Nat → ClassId} {T0 tB tE : Nat} {a : Nat → Nat} (S : GS) (p0 : Int32) (p1 : Int32) (p2 : Int32)  (hr_p0 : 4 ≤ p0.toInt ∧ p0.toInt ≤ 2147483647) : Ct l D cy T0 tB tE yX12_lawful cX12_lawful 6 (some .int) 2 42 0 0 (mw cy a S) [.ref (a 0), .int 5, .int p0, .int p1, .int p2] (QI D (U := GS) (fun r u => (-1) = r ∧ S = u) (mw cy a)) := by
  refine Ct.ofZ RX12 "lawful" [(0, .ref (a 0)), (1, .int 5), (2, .int p0), (3, .int p1), (4, .int p2)] rfl rfl rfl rfl (Nat.le_of_ble_eq_true rfl) ?_
  intro p e R s m args below meth c A b
  refine z_iload_n b dX12_lawful_0 rfl rfl ?_
  refine z_calli b (z_runS (As := [.int 5]) (st := []) b (c_X12_isRow_7 S ) cf_X12_isRow wm_X12_452 ws_X12_isRow dX12_lawful_1 rfl (Nat.le_of_ble_eq_true rfl) ⟨by decide, by decide, by decide, by decide⟩) (fun r4990 u4991 h4989 => ?_)
  obtain ⟨rfl, rfl⟩ := h4989
  refine z_if_eq_f (tgt := 36) b dX12_lawful_4 (by decide) (by decide) ?_
  refine z_iload_n b dX12_lawful_7 rfl rfl ?_
  refine z_iconst (v := 1) b dX12_lawful_8 (by decide) ?_
  refine z_iconst (v := 3) b dX12_lawful_9 (by decide) ?_
  refine z_calli b (z_runS (As := [.int p0, .int 1, .int 3]) (st := []) b (c_X12_isIn_35 S p0 ) cf_X12_isIn wm_X12_1 ws_X12_isIn dX12_lawful_10 rfl (Nat.le_of_ble_eq_true rfl) ⟨by decide, by decide, by decide, by decide⟩) (fun r4993 u4994 h4992 => ?_)
  rcases h4992 with ⟨c4995, rfl, rfl⟩ | ⟨c4996, rfl, rfl⟩
  · refine z_if_eq_t (tgt := 36) b dX12_lawful_13 (by decide) (by decide) ?_
    refine z_iconst (v := (-1)) b dX12_lawful_36 (by decide) ?_
    exact z_iret (u := S) b rfl dX12_lawful_37 ⟨rfl, rfl⟩ rfl (by decide) (by decide)
  · exfalso; omega

set_option maxHeartbeats 4000000 in
set_option maxRecDepth 100000 in
theorem c_X11_isWithin_11 {l : Launch} {D : va_G} {cy : Nat → ClassId} {T0 tB tE : Nat} {a : Nat → Nat} {rw : Nat → Option Nat} (S : GS) (p0 : Int32)  : Ct l D cy T0 tB tE yX11_isWithin cX11_isWithin 2 (some .boolean) 0 0 0 0 (cw cy tE a rw S) [.int p0, .int 31] (QI D (U := GS) (fun r u => ((((p0.toInt < 0)) ∨ ((0 ≤ p0.toInt) ∧ (31 < p0.toInt))) ∧ 0 = r ∧ S = u) ∨ (((0 ≤ p0.toInt) ∧ (p0.toInt ≤ 31)) ∧ 1 = r ∧ S = u)) (cw cy tE a rw)) := by
  refine Ct.ofZ RX11 "isWithin" [(0, .int p0), (1, .int 31)] rfl rfl rfl rfl (Nat.le_of_ble_eq_true rfl) ?_
  intro p e R s m args below meth c A b
  refine z_iload_n b dX11_isWithin_0 rfl rfl ?_
  refine y_if_lt (tgt := 13) (xl := p0.toInt) b rfl dX11_isWithin_1 (by decide) (fun c5005 => ?_) (fun c5005 => ?_)
  · refine z_iconst (v := 0) b dX11_isWithin_13 (by decide) ?_
    exact z_zret (u := S) b rfl (by decide) dX11_isWithin_14 (Or.inl ⟨(Or.inl c5005), rfl, rfl⟩) rfl (by decide) (by decide)
  · refine z_iload_n b dX11_isWithin_4 rfl rfl ?_
    refine z_iload_n b dX11_isWithin_5 rfl rfl ?_
    refine y_icmp_gt (tgt := 13) (xl := p0.toInt) (yl := 31) b rfl (by decide) dX11_isWithin_6 (by decide) (fun c5006 => ?_) (fun c5006 => ?_)
    · refine z_iconst (v := 0) b dX11_isWithin_13 (by decide) ?_
      exact z_zret (u := S) b rfl (by decide) dX11_isWithin_14 (Or.inl ⟨(Or.inr ⟨c5005, c5006⟩), rfl, rfl⟩) rfl (by decide) (by decide)
    · refine z_iconst (v := 1) b dX11_isWithin_9 (by decide) ?_
      refine z_goto (tgt := 14) b dX11_isWithin_10 (by decide) ?_
      exact z_zret (u := S) b rfl (by decide) dX11_isWithin_14 (Or.inr ⟨⟨c5005, c5006⟩, rfl, rfl⟩) rfl (by decide) (by decide)

set_option maxHeartbeats 4000000 in
set_option maxRecDepth 100000 in
theorem c_X11_lawful_15 {l : Launch} {D : va_G} {cy : Nat → ClassId} {T0 tB tE : Nat} {a : Nat → Nat} {rw : Nat → Option Nat} (S : GS) (p0 : Int32) (p1 : Int32) (p2 : Int32)  (hr_p0 : 1 ≤ p0.toInt ∧ p0.toInt ≤ 3) (hr_p1 : (-2147483648) ≤ p1.toInt ∧ p1.toInt ≤ (-1)) : Ct l D cy T0 tB tE yX11_lawful cX11_lawful 6 (some .int) 1 21 0 0 (cw cy tE a rw S) [.ref (a 0), .int 0, .int p0, .int p1, .int p2] (QI D (U := GS) (fun r u => (-1) = r ∧ S = u) (cw cy tE a rw)) := by
  refine Ct.ofZ RX11 "lawful" [(0, .ref (a 0)), (1, .int 0), (2, .int p0), (3, .int p1), (4, .int p2)] rfl rfl rfl rfl (Nat.le_of_ble_eq_true rfl) ?_
  intro p e R s m args below meth c A b
  refine z_iload_n b dX11_lawful_0 rfl rfl ?_
  refine z_calli b (z_runS (As := [.int 0]) (st := []) b (c_X11_isRow_2 S ) cf_X11_isRow wm_X11_169 ws_X11_isRow dX11_lawful_1 rfl (Nat.le_of_ble_eq_true rfl) ⟨by decide, by decide, by decide, by decide⟩) (fun r4998 u4999 h4997 => ?_)
  obtain ⟨rfl, rfl⟩ := h4997
  refine z_if_eq_f (tgt := 32) b dX11_lawful_4 (by decide) (by decide) ?_
  refine z_iload_n b dX11_lawful_7 rfl rfl ?_
  refine z_calli b (z_runS (As := [.int p0]) (st := []) b (c_X11_areLaws S p0 ) cf_X11_areLaws wm_X11_181 ws_X11_areLaws dX11_lawful_8 rfl (Nat.le_of_ble_eq_true rfl) ⟨by decide, by decide, by decide, by decide⟩) (fun r5001 u5002 h5000 => ?_)
  rcases h5000 with ⟨c5003, rfl, rfl⟩ | ⟨c5004, rfl, rfl⟩
  · refine z_if_eq_t (tgt := 32) b dX11_lawful_11 (by decide) (by decide) ?_
    refine z_iconst (v := (-1)) b dX11_lawful_32 (by decide) ?_
    exact z_iret (u := S) b rfl dX11_lawful_33 ⟨rfl, rfl⟩ rfl (by decide) (by decide)
  · refine z_if_eq_f (tgt := 32) b dX11_lawful_11 (by decide) (by decide) ?_
    refine z_iload_n b dX11_lawful_14 rfl rfl ?_
    refine z_bipush (v := 31) b dX11_lawful_15 (by decide) ?_
    refine z_calli b (z_runS (As := [.int p1, .int 31]) (st := []) b (c_X11_isWithin_11 S p1 ) cf_X11_isWithin wm_X11_73 ws_X11_isWithin dX11_lawful_17 rfl (Nat.le_of_ble_eq_true rfl) ⟨by decide, by decide, by decide, by decide⟩) (fun r5008 u5009 h5007 => ?_)
    rcases h5007 with ⟨c5010, rfl, rfl⟩ | ⟨c5011, rfl, rfl⟩
    · refine z_if_eq_t (tgt := 32) b dX11_lawful_20 (by decide) (by decide) ?_
      refine z_iconst (v := (-1)) b dX11_lawful_32 (by decide) ?_
      exact z_iret (u := S) b rfl dX11_lawful_33 ⟨rfl, rfl⟩ rfl (by decide) (by decide)
    · exfalso; omega

set_option maxHeartbeats 4000000 in
set_option maxRecDepth 100000 in
theorem c_X12_isIn_36 {l : Launch} {D : va_G} {cy : Nat → ClassId} {T0 tB tE : Nat} {a : Nat → Nat} (S : GS) (p0 : Int32)  : Ct l D cy T0 tB tE yX12_isIn cX12_isIn 3 (some .boolean) 0 0 0 0 (mw cy a S) [.int p0, .int 0, .int 31] (QI D (U := GS) (fun r u => ((((p0.toInt < 0)) ∨ ((0 ≤ p0.toInt) ∧ (31 < p0.toInt))) ∧ 0 = r ∧ S = u) ∨ (((0 ≤ p0.toInt) ∧ (p0.toInt ≤ 31)) ∧ 1 = r ∧ S = u)) (mw cy a)) := by
  refine Ct.ofZ RX12 "isIn" [(0, .int p0), (1, .int 0), (2, .int 31)] rfl rfl rfl rfl (Nat.le_of_ble_eq_true rfl) ?_
  intro p e R s m args below meth c A b
  refine z_iload_n b dX12_isIn_0 rfl rfl ?_
  refine z_iload_n b dX12_isIn_1 rfl rfl ?_
  refine y_icmp_lt (tgt := 14) (xl := p0.toInt) (yl := 0) b rfl (by decide) dX12_isIn_2 (by decide) (fun c5020 => ?_) (fun c5020 => ?_)
  · refine z_iconst (v := 0) b dX12_isIn_14 (by decide) ?_
    exact z_zret (u := S) b rfl (by decide) dX12_isIn_15 (Or.inl ⟨(Or.inl c5020), rfl, rfl⟩) rfl (by decide) (by decide)
  · refine z_iload_n b dX12_isIn_5 rfl rfl ?_
    refine z_iload_n b dX12_isIn_6 rfl rfl ?_
    refine y_icmp_gt (tgt := 14) (xl := p0.toInt) (yl := 31) b rfl (by decide) dX12_isIn_7 (by decide) (fun c5021 => ?_) (fun c5021 => ?_)
    · refine z_iconst (v := 0) b dX12_isIn_14 (by decide) ?_
      exact z_zret (u := S) b rfl (by decide) dX12_isIn_15 (Or.inl ⟨(Or.inr ⟨c5020, c5021⟩), rfl, rfl⟩) rfl (by decide) (by decide)
    · refine z_iconst (v := 1) b dX12_isIn_10 (by decide) ?_
      refine z_goto (tgt := 15) b dX12_isIn_11 (by decide) ?_
      exact z_zret (u := S) b rfl (by decide) dX12_isIn_15 (Or.inr ⟨⟨c5020, c5021⟩, rfl, rfl⟩) rfl (by decide) (by decide)

set_option maxHeartbeats 4000000 in
set_option maxRecDepth 100000 in
theorem c_X12_lawful_15 {l : Launch} {D : va_G} {cy : Nat → ClassId} {T0 tB tE : Nat} {a : Nat → Nat} (S : GS) (p0 : Int32) (p1 : Int32) (p2 : Int32)  (hr_p0 : 1 ≤ p0.toInt ∧ p0.toInt ≤ 3) (hr_p1 : (-2147483648) ≤ p1.toInt ∧ p1.toInt ≤ (-1)) : Ct l D cy T0 tB tE yX12_lawful cX12_lawful 6 (some .int) 2 42 0 0 (mw cy a S) [.ref (a 0), .int 0, .int p0, .int p1, .int p2] (QI D (U := GS) (fun r u => (-1) = r ∧ S = u) (mw cy a)) := by
  refine Ct.ofZ RX12 "lawful" [(0, .ref (a 0)), (1, .int 0), (2, .int p0), (3, .int p1), (4, .int p2)] rfl rfl rfl rfl (Nat.le_of_ble_eq_true rfl) ?_
  intro p e R s m args below meth c A b
  refine z_iload_n b dX12_lawful_0 rfl rfl ?_
  refine z_calli b (z_runS (As := [.int 0]) (st := []) b (c_X12_isRow_2 S ) cf_X12_isRow wm_X12_452 ws_X12_isRow dX12_lawful_1 rfl (Nat.le_of_ble_eq_true rfl) ⟨by decide, by decide, by decide, by decide⟩) (fun r5013 u5014 h5012 => ?_)
  obtain ⟨rfl, rfl⟩ := h5012
  refine z_if_eq_f (tgt := 36) b dX12_lawful_4 (by decide) (by decide) ?_
  refine z_iload_n b dX12_lawful_7 rfl rfl ?_
  refine z_iconst (v := 1) b dX12_lawful_8 (by decide) ?_
  refine z_iconst (v := 3) b dX12_lawful_9 (by decide) ?_
  refine z_calli b (z_runS (As := [.int p0, .int 1, .int 3]) (st := []) b (c_X12_isIn_35 S p0 ) cf_X12_isIn wm_X12_1 ws_X12_isIn dX12_lawful_10 rfl (Nat.le_of_ble_eq_true rfl) ⟨by decide, by decide, by decide, by decide⟩) (fun r5016 u5017 h5015 => ?_)
  rcases h5015 with ⟨c5018, rfl, rfl⟩ | ⟨c5019, rfl, rfl⟩
  · refine z_if_eq_t (tgt := 36) b dX12_lawful_13 (by decide) (by decide) ?_
    refine z_iconst (v := (-1)) b dX12_lawful_36 (by decide) ?_
    exact z_iret (u := S) b rfl dX12_lawful_37 ⟨rfl, rfl⟩ rfl (by decide) (by decide)
  · refine z_if_eq_f (tgt := 36) b dX12_lawful_13 (by decide) (by decide) ?_
    refine z_iload_n b dX12_lawful_16 rfl rfl ?_
    refine z_iconst (v := 0) b dX12_lawful_17 (by decide) ?_
    refine z_bipush (v := 31) b dX12_lawful_18 (by decide) ?_
    refine z_calli b (z_runS (As := [.int p1, .int 0, .int 31]) (st := []) b (c_X12_isIn_36 S p1 ) cf_X12_isIn wm_X12_1 ws_X12_isIn dX12_lawful_20 rfl (Nat.le_of_ble_eq_true rfl) ⟨by decide, by decide, by decide, by decide⟩) (fun r5023 u5024 h5022 => ?_)
    rcases h5022 with ⟨c5025, rfl, rfl⟩ | ⟨c5026, rfl, rfl⟩
    · refine z_if_eq_t (tgt := 36) b dX12_lawful_23 (by decide) (by decide) ?_
      refine z_iconst (v := (-1)) b dX12_lawful_36 (by decide) ?_
      exact z_iret (u := S) b rfl dX12_lawful_37 ⟨rfl, rfl⟩ rfl (by decide) (by decide)
    · exfalso; omega

set_option maxHeartbeats 4000000 in
set_option maxRecDepth 100000 in
theorem c_X11_lawful_16 {l : Launch} {D : va_G} {cy : Nat → ClassId} {T0 tB tE : Nat} {a : Nat → Nat} {rw : Nat → Option Nat} (S : GS) (p0 : Int32) (p1 : Int32) (p2 : Int32)  (hr_p0 : 1 ≤ p0.toInt ∧ p0.toInt ≤ 3) (hr_p1 : 32 ≤ p1.toInt ∧ p1.toInt ≤ 2147483647) : Ct l D cy T0 tB tE yX11_lawful cX11_lawful 6 (some .int) 1 21 0 0 (cw cy tE a rw S) [.ref (a 0), .int 0, .int p0, .int p1, .int p2] (QI D (U := GS) (fun r u => (-1) = r ∧ S = u) (cw cy tE a rw)) := by
  refine Ct.ofZ RX11 "lawful" [(0, .ref (a 0)), (1, .int 0), (2, .int p0), (3, .int p1), (4, .int p2)] rfl rfl rfl rfl (Nat.le_of_ble_eq_true rfl) ?_
  intro p e R s m args below meth c A b
  refine z_iload_n b dX11_lawful_0 rfl rfl ?_
  refine z_calli b (z_runS (As := [.int 0]) (st := []) b (c_X11_isRow_2 S ) cf_X11_isRow wm_X11_169 ws_X11_isRow dX11_lawful_1 rfl (Nat.le_of_ble_eq_true rfl) ⟨by decide, by decide, by decide, by decide⟩) (fun r5028 u5029 h5027 => ?_)
  obtain ⟨rfl, rfl⟩ := h5027
  refine z_if_eq_f (tgt := 32) b dX11_lawful_4 (by decide) (by decide) ?_
  refine z_iload_n b dX11_lawful_7 rfl rfl ?_
  refine z_calli b (z_runS (As := [.int p0]) (st := []) b (c_X11_areLaws S p0 ) cf_X11_areLaws wm_X11_181 ws_X11_areLaws dX11_lawful_8 rfl (Nat.le_of_ble_eq_true rfl) ⟨by decide, by decide, by decide, by decide⟩) (fun r5031 u5032 h5030 => ?_)
  rcases h5030 with ⟨c5033, rfl, rfl⟩ | ⟨c5034, rfl, rfl⟩
  · refine z_if_eq_t (tgt := 32) b dX11_lawful_11 (by decide) (by decide) ?_
    refine z_iconst (v := (-1)) b dX11_lawful_32 (by decide) ?_
    exact z_iret (u := S) b rfl dX11_lawful_33 ⟨rfl, rfl⟩ rfl (by decide) (by decide)
  · refine z_if_eq_f (tgt := 32) b dX11_lawful_11 (by decide) (by decide) ?_
    refine z_iload_n b dX11_lawful_14 rfl rfl ?_
    refine z_bipush (v := 31) b dX11_lawful_15 (by decide) ?_
    refine z_calli b (z_runS (As := [.int p1, .int 31]) (st := []) b (c_X11_isWithin_11 S p1 ) cf_X11_isWithin wm_X11_73 ws_X11_isWithin dX11_lawful_17 rfl (Nat.le_of_ble_eq_true rfl) ⟨by decide, by decide, by decide, by decide⟩) (fun r5036 u5037 h5035 => ?_)
    rcases h5035 with ⟨c5038, rfl, rfl⟩ | ⟨c5039, rfl, rfl⟩
    · refine z_if_eq_t (tgt := 32) b dX11_lawful_20 (by decide) (by decide) ?_
      refine z_iconst (v := (-1)) b dX11_lawful_32 (by decide) ?_
      exact z_iret (u := S) b rfl dX11_lawful_33 ⟨rfl, rfl⟩ rfl (by decide) (by decide)
    · exfalso; omega

set_option maxHeartbeats 4000000 in
set_option maxRecDepth 100000 in
theorem c_X12_lawful_16 {l : Launch} {D : va_G} {cy : Nat → ClassId} {T0 tB tE : Nat} {a : Nat → Nat} (S : GS) (p0 : Int32) (p1 : Int32) (p2 : Int32)  (hr_p0 : 1 ≤ p0.toInt ∧ p0.toInt ≤ 3) (hr_p1 : 32 ≤ p1.toInt ∧ p1.toInt ≤ 2147483647) : Ct l D cy T0 tB tE yX12_lawful cX12_lawful 6 (some .int) 2 42 0 0 (mw cy a S) [.ref (a 0), .int 0, .int p0, .int p1, .int p2] (QI D (U := GS) (fun r u => (-1) = r ∧ S = u) (mw cy a)) := by
  refine Ct.ofZ RX12 "lawful" [(0, .ref (a 0)), (1, .int 0), (2, .int p0), (3, .int p1), (4, .int p2)] rfl rfl rfl rfl (Nat.le_of_ble_eq_true rfl) ?_
  intro p e R s m args below meth c A b
  refine z_iload_n b dX12_lawful_0 rfl rfl ?_
  refine z_calli b (z_runS (As := [.int 0]) (st := []) b (c_X12_isRow_2 S ) cf_X12_isRow wm_X12_452 ws_X12_isRow dX12_lawful_1 rfl (Nat.le_of_ble_eq_true rfl) ⟨by decide, by decide, by decide, by decide⟩) (fun r5041 u5042 h5040 => ?_)
  obtain ⟨rfl, rfl⟩ := h5040
  refine z_if_eq_f (tgt := 36) b dX12_lawful_4 (by decide) (by decide) ?_
  refine z_iload_n b dX12_lawful_7 rfl rfl ?_
  refine z_iconst (v := 1) b dX12_lawful_8 (by decide) ?_
  refine z_iconst (v := 3) b dX12_lawful_9 (by decide) ?_
  refine z_calli b (z_runS (As := [.int p0, .int 1, .int 3]) (st := []) b (c_X12_isIn_35 S p0 ) cf_X12_isIn wm_X12_1 ws_X12_isIn dX12_lawful_10 rfl (Nat.le_of_ble_eq_true rfl) ⟨by decide, by decide, by decide, by decide⟩) (fun r5044 u5045 h5043 => ?_)
  rcases h5043 with ⟨c5046, rfl, rfl⟩ | ⟨c5047, rfl, rfl⟩
  · refine z_if_eq_t (tgt := 36) b dX12_lawful_13 (by decide) (by decide) ?_
    refine z_iconst (v := (-1)) b dX12_lawful_36 (by decide) ?_
    exact z_iret (u := S) b rfl dX12_lawful_37 ⟨rfl, rfl⟩ rfl (by decide) (by decide)
  · refine z_if_eq_f (tgt := 36) b dX12_lawful_13 (by decide) (by decide) ?_
    refine z_iload_n b dX12_lawful_16 rfl rfl ?_
    refine z_iconst (v := 0) b dX12_lawful_17 (by decide) ?_
    refine z_bipush (v := 31) b dX12_lawful_18 (by decide) ?_
    refine z_calli b (z_runS (As := [.int p1, .int 0, .int 31]) (st := []) b (c_X12_isIn_36 S p1 ) cf_X12_isIn wm_X12_1 ws_X12_isIn dX12_lawful_20 rfl (Nat.le_of_ble_eq_true rfl) ⟨by decide, by decide, by decide, by decide⟩) (fun r5049 u5050 h5048 => ?_)
    rcases h5048 with ⟨c5051, rfl, rfl⟩ | ⟨c5052, rfl, rfl⟩
    · refine z_if_eq_t (tgt := 36) b dX12_lawful_23 (by decide) (by decide) ?_
      refine z_iconst (v := (-1)) b dX12_lawful_36 (by decide) ?_
      exact z_iret (u := S) b rfl dX12_lawful_37 ⟨rfl, rfl⟩ rfl (by decide) (by decide)
    · exfalso; omega

set_option maxHeartbeats 4000000 in
set_option maxRecDepth 100000 in
theorem c_X11_lawful_17 {l : Launch} {D : va_G} {cy : Nat → ClassId} {T0 tB tE : Nat} {a : Nat → Nat} {rw : Nat → Option Nat} (S : GS) (p0 : Int32) (p1 : Int32) (p2 : Int32)  (hr_p0 : 1 ≤ p0.toInt ∧ p0.toInt ≤ 3) (hr_p1 : (-2147483648) ≤ p1.toInt ∧ p1.toInt ≤ (-1)) : Ct l D cy T0 tB tE yX11_lawful cX11_lawful 6 (some .int) 1 21 0 0 (cw cy tE a rw S) [.ref (a 0), .int 1, .int p0, .int p1, .int p2] (QI D (U := GS) (fun r u => (-1) = r ∧ S = u) (cw cy tE a rw)) := by
  refine Ct.ofZ RX11 "lawful" [(0, .ref (a 0)), (1, .int 1), (2, .int p0), (3, .int p1), (4, .int p2)] rfl rfl rfl rfl (Nat.le_of_ble_eq_true rfl) ?_
  intro p e R s m args below meth c A b
  refine z_iload_n b dX11_lawful_0 rfl rfl ?_
  refine z_calli b (z_runS (As := [.int 1]) (st := []) b (c_X11_isRow_3 S ) cf_X11_isRow wm_X11_169 ws_X11_isRow dX11_lawful_1 rfl (Nat.le_of_ble_eq_true rfl) ⟨by decide, by decide, by decide, by decide⟩) (fun r5054 u5055 h5053 => ?_)
  obtain ⟨rfl, rfl⟩ := h5053
  refine z_if_eq_f (tgt := 32) b dX11_lawful_4 (by decide) (by decide) ?_
  refine z_iload_n b dX11_lawful_7 rfl rfl ?_
  refine z_calli b (z_runS (As := [.int p0]) (st := []) b (c_X11_areLaws S p0 ) cf_X11_areLaws wm_X11_181 ws_X11_areLaws dX11_lawful_8 rfl (Nat.le_of_ble_eq_true rfl) ⟨by decide, by decide, by decide, by decide⟩) (fun r5057 u5058 h5056 => ?_)
  rcases h5056 with ⟨c5059, rfl, rfl⟩ | ⟨c5060, rfl, rfl⟩
  · refine z_if_eq_t (tgt := 32) b dX11_lawful_11 (by decide) (by decide) ?_
    refine z_iconst (v := (-1)) b dX11_lawful_32 (by decide) ?_
    exact z_iret (u := S) b rfl dX11_lawful_33 ⟨rfl, rfl⟩ rfl (by decide) (by decide)
  · refine z_if_eq_f (tgt := 32) b dX11_lawful_11 (by decide) (by decide) ?_
    refine z_iload_n b dX11_lawful_14 rfl rfl ?_
    refine z_bipush (v := 31) b dX11_lawful_15 (by decide) ?_
    refine z_calli b (z_runS (As := [.int p1, .int 31]) (st := []) b (c_X11_isWithin_11 S p1 ) cf_X11_isWithin wm_X11_73 ws_X11_isWithin dX11_lawful_17 rfl (Nat.le_of_ble_eq_true rfl) ⟨by decide, by decide, by decide, by decide⟩) (fun r5062 u5063 h5061 => ?_)
    rcases h5061 with ⟨c5064, rfl, rfl⟩ | ⟨c5065, rfl, rfl⟩
    · refine z_if_eq_t (tgt := 32) b dX11_lawful_20 (by decide) (by decide) ?_
      refine z_iconst (v := (-1)) b dX11_lawful_32 (by decide) ?_
      exact z_iret (u := S) b rfl dX11_lawful_33 ⟨rfl, rfl⟩ rfl (by decide) (by decide)
    · exfalso; omega

set_option maxHeartbeats 4000000 in
set_option maxRecDepth 100000 in
theorem c_X12_lawful_17 {l : Launch} {D : va_G} {cy : Nat → ClassId} {T0 tB tE : Nat} {a : Nat → Nat} (S : GS) (p0 : Int32) (p1 : Int32) (p2 : Int32)  (hr_p0 : 1 ≤ p0.toInt ∧ p0.toInt ≤ 3) (hr_p1 : (-2147483648) ≤ p1.toInt ∧ p1.toInt ≤ (-1)) : Ct l D cy T0 tB tE yX12_lawful cX12_lawful 6 (some .int) 2 42 0 0 (mw cy a S) [.ref (a 0), .int 1, .int p0, .int p1, .int p2] (QI D (U := GS) (fun r u => (-1) = r ∧ S = u) (mw cy a)) := by
  refine Ct.ofZ RX12 "lawful" [(0, .ref (a 0)), (1, .int 1), (2, .int p0), (3, .int p1), (4, .int p2)] rfl rfl rfl rfl (Nat.le_of_ble_eq_true rfl) ?_
  intro p e R s m args below meth c A b
  refine z_iload_n b dX12_lawful_0 rfl rfl ?_
  refine z_calli b (z_runS (As := [.int 1]) (st := []) b (c_X12_isRow_3 S ) cf_X12_isRow wm_X12_452 ws_X12_isRow dX12_lawful_1 rfl (Nat.le_of_ble_eq_true rfl) ⟨by decide, by decide, by decide, by decide⟩) (fun r5067 u5068 h5066 => ?_)
  obtain ⟨rfl, rfl⟩ := h5066
  refine z_if_eq_f (tgt := 36) b dX12_lawful_4 (by decide) (by decide) ?_
  refine z_iload_n b dX12_lawful_7 rfl rfl ?_
  refine z_iconst (v := 1) b dX12_lawful_8 (by decide) ?_
  refine z_iconst (v := 3) b dX12_lawful_9 (by decide) ?_
  refine z_calli b (z_runS (As := [.int p0, .int 1, .int 3]) (st := []) b (c_X12_isIn_35 S p0 ) cf_X12_isIn wm_X12_1 ws_X12_isIn dX12_lawful_10 rfl (Nat.le_of_ble_eq_true rfl) ⟨by decide, by decide, by decide, by decide⟩) (fun r5070 u5071 h5069 => ?_)
  rcases h5069 with ⟨c5072, rfl, rfl⟩ | ⟨c5073, rfl, rfl⟩
  · refine z_if_eq_t (tgt := 36) b dX12_lawful_13 (by decide) (by decide) ?_
    refine z_iconst (v := (-1)) b dX12_lawful_36 (by decide) ?_
    exact z_iret (u := S) b rfl dX12_lawful_37 ⟨rfl, rfl⟩ rfl (by decide) (by decide)
  · refine z_if_eq_f (tgt := 36) b dX12_lawful_13 (by decide) (by decide) ?_
    refine z_iload_n b dX12_lawful_16 rfl rfl ?_
    refine z_iconst (v := 0) b dX12_lawful_17 (by decide) ?_
    refine z_bipush (v := 31) b dX12_lawful_18 (by decide) ?_
    refine z_calli b (z_runS (As := [.int p1, .int 0, .int 31]) (st := []) b (c_X12_isIn_36 S p1 ) cf_X12_isIn wm_X12_1 ws_X12_isIn dX12_lawful_20 rfl (Nat.le_of_ble_eq_true rfl) ⟨by decide, by decide, by decide, by decide⟩) (fun r5075 u5076 h5074 => ?_)
    rcases h5074 with ⟨c5077, rfl, rfl⟩ | ⟨c5078, rfl, rfl⟩
    · refine z_if_eq_t (tgt := 36) b dX12_lawful_23 (by decide) (by decide) ?_
      refine z_iconst (v := (-1)) b dX12_lawful_36 (by decide) ?_
      exact z_iret (u := S) b rfl dX12_lawful_37 ⟨rfl, rfl⟩ rfl (by decide) (by decide)
    · exfalso; omega

set_option maxHeartbeats 4000000 in
set_option maxRecDepth 100000 in
theorem c_X11_lawful_18 {l : Launch} {D : va_G} {cy : Nat → ClassId} {T0 tB tE : Nat} {a : Nat → Nat} {rw : Nat → Option Nat} (S : GS) (p0 : Int32) (p1 : Int32) (p2 : Int32)  (hr_p0 : 1 ≤ p0.toInt ∧ p0.toInt ≤ 3) (hr_p1 : 32 ≤ p1.toInt ∧ p1.toInt ≤ 2147483647) : Ct l D cy T0 tB tE yX11_lawful cX11_lawful 6 (some .int) 1 21 0 0 (cw cy tE a rw S) [.ref (a 0), .int 1, .int p0, .int p1, .int p2] (QI D (U := GS) (fun r u => (-1) = r ∧ S = u) (cw cy tE a rw)) := by
  refine Ct.ofZ RX11 "lawful" [(0, .ref (a 0)), (1, .int 1), (2, .int p0), (3, .int p1), (4, .int p2)] rfl rfl rfl rfl (Nat.le_of_ble_eq_true rfl) ?_
  intro p e R s m args below meth c A b
  refine z_iload_n b dX11_lawful_0 rfl rfl ?_
  refine z_calli b (z_runS (As := [.int 1]) (st := []) b (c_X11_isRow_3 S ) cf_X11_isRow wm_X11_169 ws_X11_isRow dX11_lawful_1 rfl (Nat.le_of_ble_eq_true rfl) ⟨by decide, by decide, by decide, by decide⟩) (fun r5080 u5081 h5079 => ?_)
  obtain ⟨rfl, rfl⟩ := h5079
  refine z_if_eq_f (tgt := 32) b dX11_lawful_4 (by decide) (by decide) ?_
  refine z_iload_n b dX11_lawful_7 rfl rfl ?_
  refine z_calli b (z_runS (As := [.int p0]) (st := []) b (c_X11_areLaws S p0 ) cf_X11_areLaws wm_X11_181 ws_X11_areLaws dX11_lawful_8 rfl (Nat.le_of_ble_eq_true rfl) ⟨by decide, by decide, by decide, by decide⟩) (fun r5083 u5084 h5082 => ?_)
  rcases h5082 with ⟨c5085, rfl, rfl⟩ | ⟨c5086, rfl, rfl⟩
  · refine z_if_eq_t (tgt := 32) b dX11_lawful_11 (by decide) (by decide) ?_
    refine z_iconst (v := (-1)) b dX11_lawful_32 (by decide) ?_
    exact z_iret (u := S) b rfl dX11_lawful_33 ⟨rfl, rfl⟩ rfl (by decide) (by decide)
  · refine z_if_eq_f (tgt := 32) b dX11_lawful_11 (by decide) (by decide) ?_
    refine z_iload_n b dX11_lawful_14 rfl rfl ?_
    refine z_bipush (v := 31) b dX11_lawful_15 (by decide) ?_
    refine z_calli b (z_runS (As := [.int p1, .int 31]) (st := []) b (c_X11_isWithin_11 S p1 ) cf_X11_isWithin wm_X11_73 ws_X11_isWithin dX11_lawful_17 rfl (Nat.le_of_ble_eq_true rfl) ⟨by decide, by decide, by decide, by decide⟩) (fun r5088 u5089 h5087 => ?_)
    rcases h5087 with ⟨c5090, rfl, rfl⟩ | ⟨c5091, rfl, rfl⟩
    · refine z_if_eq_t (tgt := 32) b dX11_lawful_20 (by decide) (by decide) ?_
      refine z_iconst (v := (-1)) b dX11_lawful_32 (by decide) ?_
      exact z_iret (u := S) b rfl dX11_lawful_33 ⟨rfl, rfl⟩ rfl (by decide) (by decide)
    · exfalso; omega

set_option maxHeartbeats 4000000 in
set_option maxRecDepth 100000 in
theorem c_X12_lawful_18 {l : Launch} {D : va_G} {cy : Nat → ClassId} {T0 tB tE : Nat} {a : Nat → Nat} (S : GS) (p0 : Int32) (p1 : Int32) (p2 : Int32)  (hr_p0 : 1 ≤ p0.toInt ∧ p0.toInt ≤ 3) (hr_p1 : 32 ≤ p1.toInt ∧ p1.toInt ≤ 2147483647) : Ct l D cy T0 tB tE yX12_lawful cX12_lawful 6 (some .int) 2 42 0 0 (mw cy a S) [.ref (a 0), .int 1, .int p0, .int p1, .int p2] (QI D (U := GS) (fun r u => (-1) = r ∧ S = u) (mw cy a)) := by
  refine Ct.ofZ RX12 "lawful" [(0, .ref (a 0)), (1, .int 1), (2, .int p0), (3, .int p1), (4, .int p2)] rfl rfl rfl rfl (Nat.le_of_ble_eq_true rfl) ?_
  intro p e R s m args below meth c A b
  refine z_iload_n b dX12_lawful_0 rfl rfl ?_
  refine z_calli b (z_runS (As := [.int 1]) (st := []) b (c_X12_isRow_3 S ) cf_X12_isRow wm_X12_452 ws_X12_isRow dX12_lawful_1 rfl (Nat.le_of_ble_eq_true rfl) ⟨by decide, by decide, by decide, by decide⟩) (fun r5093 u5094 h5092 => ?_)
  obtain ⟨rfl, rfl⟩ := h5092
  refine z_if_eq_f (tgt := 36) b dX12_lawful_4 (by decide) (by decide) ?_
  refine z_iload_n b dX12_lawful_7 rfl rfl ?_
  refine z_iconst (v := 1) b dX12_lawful_8 (by decide) ?_
  refine z_iconst (v := 3) b dX12_lawful_9 (by decide) ?_
  refine z_calli b (z_runS (As := [.int p0, .int 1, .int 3]) (st := []) b (c_X12_isIn_35 S p0 ) cf_X12_isIn wm_X12_1 ws_X12_isIn dX12_lawful_10 rfl (Nat.le_of_ble_eq_true rfl) ⟨by decide, by decide, by decide, by decide⟩) (fun r5096 u5097 h5095 => ?_)
  rcases h5095 with ⟨c5098, rfl, rfl⟩ | ⟨c5099, rfl, rfl⟩
  · refine z_if_eq_t (tgt := 36) b dX12_lawful_13 (by decide) (by decide) ?_
    refine z_iconst (v := (-1)) b dX12_lawful_36 (by decide) ?_
    exact z_iret (u := S) b rfl dX12_lawful_37 ⟨rfl, rfl⟩ rfl (by decide) (by decide)
  · refine z_if_eq_f (tgt := 36) b dX12_lawful_13 (by decide) (by decide) ?_
    refine z_iload_n b dX12_lawful_16 rfl rfl ?_
    refine z_iconst (v := 0) b dX12_lawful_17 (by decide) ?_
    refine z_bipush (v := 31) b dX12_lawful_18 (by decide) ?_
    refine z_calli b (z_runS (As := [.int p1, .int 0, .int 31]) (st := []) b (c_X12_isIn_36 S p1 ) cf_X12_isIn wm_X12_1 ws_X12_isIn dX12_lawful_20 rfl (Nat.le_of_ble_eq_true rfl) ⟨by decide, by decide, by decide, by decide⟩) (fun r5101 u5102 h5100 => ?_)
    rcases h5100 with ⟨c5103, rfl, rfl⟩ | ⟨c5104, rfl, rfl⟩
    · refine z_if_eq_t (tgt := 36) b dX12_lawful_23 (by decide) (by decide) ?_
      refine z_iconst (v := (-1)) b dX12_lawful_36 (by decide) ?_
      exact z_iret (u := S) b rfl dX12_lawful_37 ⟨rfl, rfl⟩ rfl (by decide) (by decide)
    · exfalso; omega

set_option maxHeartbeats 4000000 in
set_option maxRecDepth 100000 in
theorem c_X11_lawful_19 {l : Launch} {D : va_G} {cy : Nat → ClassId} {T0 tB tE : Nat} {a : Nat → Nat} {rw : Nat → Option Nat} (S : GS) (p0 : Int32) (p1 : Int32) (p2 : Int32)  (hr_p0 : 1 ≤ p0.toInt ∧ p0.toInt ≤ 3) (hr_p1 : (-2147483648) ≤ p1.toInt ∧ p1.toInt ≤ (-1)) : Ct l D cy T0 tB tE yX11_lawful cX11_lawful 6 (some .int) 1 21 0 0 (cw cy tE a rw S) [.ref (a 0), .int 2, .int p0, .int p1, .int p2] (QI D (U := GS) (fun r u => (-1) = r ∧ S = u) (cw cy tE a rw)) := by
  refine Ct.ofZ RX11 "lawful" [(0, .ref (a 0)), (1, .int 2), (2, .int p0), (3, .int p1), (4, .int p2)] rfl rfl rfl rfl (Nat.le_of_ble_eq_true rfl) ?_
  intro p e R s m args below meth c A b
  refine z_iload_n b dX11_lawful_0 rfl rfl ?_
  refine z_calli b (z_runS (As := [.int 2]) (st := []) b (c_X11_isRow_4 S ) cf_X11_isRow wm_X11_169 ws_X11_isRow dX11_lawful_1 rfl (Nat.le_of_ble_eq_true rfl) ⟨by decide, by decide, by decide, by decide⟩) (fun r5106 u5107 h5105 => ?_)
  obtain ⟨rfl, rfl⟩ := h5105
  refine z_if_eq_f (tgt := 32) b dX11_lawful_4 (by decide) (by decide) ?_
  refine z_iload_n b dX11_lawful_7 rfl rfl ?_
  refine z_calli b (z_runS (As := [.int p0]) (st := []) b (c_X11_areLaws S p0 ) cf_X11_areLaws wm_X11_181 ws_X11_areLaws dX11_lawful_8 rfl (Nat.le_of_ble_eq_true rfl) ⟨by decide, by decide, by decide, by decide⟩) (fun r5109 u5110 h5108 => ?_)
  rcases h5108 with ⟨c5111, rfl, rfl⟩ | ⟨c5112, rfl, rfl⟩
  · refine z_if_eq_t (tgt := 32) b dX11_lawful_11 (by decide) (by decide) ?_
    refine z_iconst (v := (-1)) b dX11_lawful_32 (by decide) ?_
    exact z_iret (u := S) b rfl dX11_lawful_33 ⟨rfl, rfl⟩ rfl (by decide) (by decide)
  · refine z_if_eq_f (tgt := 32) b dX11_lawful_11 (by decide) (by decide) ?_
    refine z_iload_n b dX11_lawful_14 rfl rfl ?_
    refine z_bipush (v := 31) b dX11_lawful_15 (by decide) ?_
    refine z_calli b (z_runS (As := [.int p1, .int 31]) (st := []) b (c_X11_isWithin_11 S p1 ) cf_X11_isWithin wm_X11_73 ws_X11_isWithin dX11_lawful_17 rfl (Nat.le_of_ble_eq_true rfl) ⟨by decide, by decide, by decide, by decide⟩) (fun r5114 u5115 h5113 => ?_)
    rcases h5113 with ⟨c5116, rfl, rfl⟩ | ⟨c5117, rfl, rfl⟩
    · refine z_if_eq_t (tgt := 32) b dX11_lawful_20 (by decide) (by decide) ?_
      refine z_iconst (v := (-1)) b dX11_lawful_32 (by decide) ?_
      exact z_iret (u := S) b rfl dX11_lawful_33 ⟨rfl, rfl⟩ rfl (by decide) (by decide)
    · exfalso; omega

set_option maxHeartbeats 4000000 in
set_option maxRecDepth 100000 in
theorem c_X12_lawful_19 {l : Launch} {D : va_G} {cy : Nat → ClassId} {T0 tB tE : Nat} {a : Nat → Nat} (S : GS) (p0 : Int32) (p1 : Int32) (p2 : Int32)  (hr_p0 : 1 ≤ p0.toInt ∧ p0.toInt ≤ 3) (hr_p1 : (-2147483648) ≤ p1.toInt ∧ p1.toInt ≤ (-1)) : Ct l D cy T0 tB tE yX12_lawful cX12_lawful 6 (some .int) 2 42 0 0 (mw cy a S) [.ref (a 0), .int 2, .int p0, .int p1, .int p2] (QI D (U := GS) (fun r u => (-1) = r ∧ S = u) (mw cy a)) := by
  refine Ct.ofZ RX12 "lawful" [(0, .ref (a 0)), (1, .int 2), (2, .int p0), (3, .int p1), (4, .int p2)] rfl rfl rfl rfl (Nat.le_of_ble_eq_true rfl) ?_
  intro p e R s m args below meth c A b
  refine z_iload_n b dX12_lawful_0 rfl rfl ?_
  refine z_calli b (z_runS (As := [.int 2]) (st := []) b (c_X12_isRow_4 S ) cf_X12_isRow wm_X12_452 ws_X12_isRow dX12_lawful_1 rfl (Nat.le_of_ble_eq_true rfl) ⟨by decide, by decide, by decide, by decide⟩) (fun r5119 u5120 h5118 => ?_)
  obtain ⟨rfl, rfl⟩ := h5118
  refine z_if_eq_f (tgt := 36) b dX12_lawful_4 (by decide) (by decide) ?_
  refine z_iload_n b dX12_lawful_7 rfl rfl ?_
  refine z_iconst (v := 1) b dX12_lawful_8 (by decide) ?_
  refine z_iconst (v := 3) b dX12_lawful_9 (by decide) ?_
  refine z_calli b (z_runS (As := [.int p0, .int 1, .int 3]) (st := []) b (c_X12_isIn_35 S p0 ) cf_X12_isIn wm_X12_1 ws_X12_isIn dX12_lawful_10 rfl (Nat.le_of_ble_eq_true rfl) ⟨by decide, by decide, by decide, by decide⟩) (fun r5122 u5123 h5121 => ?_)
  rcases h5121 with ⟨c5124, rfl, rfl⟩ | ⟨c5125, rfl, rfl⟩
  · refine z_if_eq_t (tgt := 36) b dX12_lawful_13 (by decide) (by decide) ?_
    refine z_iconst (v := (-1)) b dX12_lawful_36 (by decide) ?_
    exact z_iret (u := S) b rfl dX12_lawful_37 ⟨rfl, rfl⟩ rfl (by decide) (by decide)
  · refine z_if_eq_f (tgt := 36) b dX12_lawful_13 (by decide) (by decide) ?_
    refine z_iload_n b dX12_lawful_16 rfl rfl ?_
    refine z_iconst (v := 0) b dX12_lawful_17 (by decide) ?_
    refine z_bipush (v := 31) b dX12_lawful_18 (by decide) ?_
    refine z_calli b (z_runS (As := [.int p1, .int 0, .int 31]) (st := []) b (c_X12_isIn_36 S p1 ) cf_X12_isIn wm_X12_1 ws_X12_isIn dX12_lawful_20 rfl (Nat.le_of_ble_eq_true rfl) ⟨by decide, by decide, by decide, by decide⟩) (fun r5127 u5128 h5126 => ?_)
    rcases h5126 with ⟨c5129, rfl, rfl⟩ | ⟨c5130, rfl, rfl⟩
    · refine z_if_eq_t (tgt := 36) b dX12_lawful_23 (by decide) (by decide) ?_
      refine z_iconst (v := (-1)) b dX12_lawful_36 (by decide) ?_
      exact z_iret (u := S) b rfl dX12_lawful_37 ⟨rfl, rfl⟩ rfl (by decide) (by decide)
    · exfalso; omega

set_option maxHeartbeats 4000000 in
set_option maxRecDepth 100000 in
theorem c_X11_lawful_20 {l : Launch} {D : va_G} {cy : Nat → ClassId} {T0 tB tE : Nat} {a : Nat → Nat} {rw : Nat → Option Nat} (S : GS) (p0 : Int32) (p1 : Int32) (p2 : Int32)  (hr_p0 : 1 ≤ p0.toInt ∧ p0.toInt ≤ 3) (hr_p1 : 32 ≤ p1.toInt ∧ p1.toInt ≤ 2147483647) : Ct l D cy T0 tB tE yX11_lawful cX11_lawful 6 (some .int) 1 21 0 0 (cw cy tE a rw S) [.ref (a 0), .int 2, .int p0, .int p1, .int p2] (QI D (U := GS) (fun r u => (-1) = r ∧ S = u) (cw cy tE a rw)) := by
  refine Ct.ofZ RX11 "lawful" [(0, .ref (a 0)), (1, .int 2), (2, .int p0), (3, .int p1), (4, .int p2)] rfl rfl rfl rfl (Nat.le_of_ble_eq_true rfl) ?_
  intro p e R s m args below meth c A b
  refine z_iload_n b dX11_lawful_0 rfl rfl ?_
  refine z_calli b (z_runS (As := [.int 2]) (st := []) b (c_X11_isRow_4 S ) cf_X11_isRow wm_X11_169 ws_X11_isRow dX11_lawful_1 rfl (Nat.le_of_ble_eq_true rfl) ⟨by decide, by decide, by decide, by decide⟩) (fun r5132 u5133 h5131 => ?_)
  obtain ⟨rfl, rfl⟩ := h5131
  refine z_if_eq_f (tgt := 32) b dX11_lawful_4 (by decide) (by decide) ?_
  refine z_iload_n b dX11_lawful_7 rfl rfl ?_
  refine z_calli b (z_runS (As := [.int p0]) (st := []) b (c_X11_areLaws S p0 ) cf_X11_areLaws wm_X11_181 ws_X11_areLaws dX11_lawful_8 rfl (Nat.le_of_ble_eq_true rfl) ⟨by decide, by decide, by decide, by decide⟩) (fun r5135 u5136 h5134 => ?_)
  rcases h5134 with ⟨c5137, rfl, rfl⟩ | ⟨c5138, rfl, rfl⟩
  · refine z_if_eq_t (tgt := 32) b dX11_lawful_11 (by decide) (by decide) ?_
    refine z_iconst (v := (-1)) b dX11_lawful_32 (by decide) ?_
    exact z_iret (u := S) b rfl dX11_lawful_33 ⟨rfl, rfl⟩ rfl (by decide) (by decide)
  · refine z_if_eq_f (tgt := 32) b dX11_lawful_11 (by decide) (by decide) ?_
    refine z_iload_n b dX11_lawful_14 rfl rfl ?_
    refine z_bipush (v := 31) b dX11_lawful_15 (by decide) ?_
    refine z_calli b (z_runS (As := [.int p1, .int 31]) (st := []) b (c_X11_isWithin_11 S p1 ) cf_X11_isWithin wm_X11_73 ws_X11_isWithin dX11_lawful_17 rfl (Nat.le_of_ble_eq_true rfl) ⟨by decide, by decide, by decide, by decide⟩) (fun r5140 u5141 h5139 => ?_)
    rcases h5139 with ⟨c5142, rfl, rfl⟩ | ⟨c5143, rfl, rfl⟩
    · refine z_if_eq_t (tgt := 32) b dX11_lawful_20 (by decide) (by decide) ?_
      refine z_iconst (v := (-1)) b dX11_lawful_32 (by decide) ?_
      exact z_iret (u := S) b rfl dX11_lawful_33 ⟨rfl, rfl⟩ rfl (by decide) (by decide)
    · exfalso; omega

set_option maxHeartbeats 4000000 in
set_option maxRecDepth 100000 in
theorem c_X12_lawful_20 {l : Launch} {D : va_G} {cy : Nat → ClassId} {T0 tB tE : Nat} {a : Nat → Nat} (S : GS) (p0 : Int32) (p1 : Int32) (p2 : Int32)  (hr_p0 : 1 ≤ p0.toInt ∧ p0.toInt ≤ 3) (hr_p1 : 32 ≤ p1.toInt ∧ p1.toInt ≤ 2147483647) : Ct l D cy T0 tB tE yX12_lawful cX12_lawful 6 (some .int) 2 42 0 0 (mw cy a S) [.ref (a 0), .int 2, .int p0, .int p1, .int p2] (QI D (U := GS) (fun r u => (-1) = r ∧ S = u) (mw cy a)) := by
  refine Ct.ofZ RX12 "lawful" [(0, .ref (a 0)), (1, .int 2), (2, .int p0), (3, .int p1), (4, .int p2)] rfl rfl rfl rfl (Nat.le_of_ble_eq_true rfl) ?_
  intro p e R s m args below meth c A b
  refine z_iload_n b dX12_lawful_0 rfl rfl ?_
  refine z_calli b (z_runS (As := [.int 2]) (st := []) b (c_X12_isRow_4 S ) cf_X12_isRow wm_X12_452 ws_X12_isRow dX12_lawful_1 rfl (Nat.le_of_ble_eq_true rfl) ⟨by decide, by decide, by decide, by decide⟩) (fun r5145 u5146 h5144 => ?_)
  obtain ⟨rfl, rfl⟩ := h5144
  refine z_if_eq_f (tgt := 36) b dX12_lawful_4 (by decide) (by decide) ?_
  refine z_iload_n b dX12_lawful_7 rfl rfl ?_
  refine z_iconst (v := 1) b dX12_lawful_8 (by decide) ?_
  refine z_iconst (v := 3) b dX12_lawful_9 (by decide) ?_
  refine z_calli b (z_runS (As := [.int p0, .int 1, .int 3]) (st := []) b (c_X12_isIn_35 S p0 ) cf_X12_isIn wm_X12_1 ws_X12_isIn dX12_lawful_10 rfl (Nat.le_of_ble_eq_true rfl) ⟨by decide, by decide, by decide, by decide⟩) (fun r5148 u5149 h5147 => ?_)
  rcases h5147 with ⟨c5150, rfl, rfl⟩ | ⟨c5151, rfl, rfl⟩
  · refine z_if_eq_t (tgt := 36) b dX12_lawful_13 (by decide) (by decide) ?_
    refine z_iconst (v := (-1)) b dX12_lawful_36 (by decide) ?_
    exact z_iret (u := S) b rfl dX12_lawful_37 ⟨rfl, rfl⟩ rfl (by decide) (by decide)
  · refine z_if_eq_f (tgt := 36) b dX12_lawful_13 (by decide) (by decide) ?_
    refine z_iload_n b dX12_lawful_16 rfl rfl ?_
    refine z_iconst (v := 0) b dX12_lawful_17 (by decide) ?_
    refine z_bipush (v := 31) b dX12_lawful_18 (by decide) ?_
    refine z_calli b (z_runS (As := [.int p1, .int 0, .int 31]) (st := []) b (c_X12_isIn_36 S p1 ) cf_X12_isIn wm_X12_1 ws_X12_isIn dX12_lawful_20 rfl (Nat.le_of_ble_eq_true rfl) ⟨by decide, by decide, by decide, by decide⟩) (fun r5153 u5154 h5152 => ?_)
    rcases h5152 with ⟨c5155, rfl, rfl⟩ | ⟨c5156, rfl, rfl⟩
    · refine z_if_eq_t (tgt := 36) b dX12_lawful_23 (by decide) (by decide) ?_
      refine z_iconst (v := (-1)) b dX12_lawful_36 (by decide) ?_
      exact z_iret (u := S) b rfl dX12_lawful_37 ⟨rfl, rfl⟩ rfl (by decide) (by decide)
    · exfalso; omega

set_option maxHeartbeats 4000000 in
set_option maxRecDepth 100000 in
theorem c_X11_lawful_21 {l : Launch} {D : va_G} {cy : Nat → ClassId} {T0 tB tE : Nat} {a : Nat → Nat} {rw : Nat → Option Nat} (S : GS) (p0 : Int32) (p1 : Int32) (p2 : Int32)  (hr_p0 : 1 ≤ p0.toInt ∧ p0.toInt ≤ 3) (hr_p1 : (-2147483648) ≤ p1.toInt ∧ p1.toInt ≤ (-1)) : Ct l D cy T0 tB tE yX11_lawful cX11_lawful 6 (some .int) 1 21 0 0 (cw cy tE a rw S) [.ref (a 0), .int 3, .int p0, .int p1, .int p2] (QI D (U := GS) (fun r u => (-1) = r ∧ S = u) (cw cy tE a rw)) := by
  refine Ct.ofZ RX11 "lawful" [(0, .ref (a 0)), (1, .int 3), (2, .int p0), (3, .int p1), (4, .int p2)] rfl rfl rfl rfl (Nat.le_of_ble_eq_true rfl) ?_
  intro p e R s m args below meth c A b
  refine z_iload_n b dX11_lawful_0 rfl rfl ?_
  refine z_calli b (z_runS (As := [.int 3]) (st := []) b (c_X11_isRow_5 S ) cf_X11_isRow wm_X11_169 ws_X11_isRow dX11_lawful_1 rfl (Nat.le_of_ble_eq_true rfl) ⟨by decide, by decide, by decide, by decide⟩) (fun r5158 u5159 h5157 => ?_)
  obtain ⟨rfl, rfl⟩ := h5157
  refine z_if_eq_f (tgt := 32) b dX11_lawful_4 (by decide) (by decide) ?_
  refine z_iload_n b dX11_lawful_7 rfl rfl ?_
  refine z_calli b (z_runS (As := [.int p0]) (st := []) b (c_X11_areLaws S p0 ) cf_X11_areLaws wm_X11_181 ws_X11_areLaws dX11_lawful_8 rfl (Nat.le_of_ble_eq_true rfl) ⟨by decide, by decide, by decide, by decide⟩) (fun r5161 u5162 h5160 => ?_)
  rcases h5160 with ⟨c5163, rfl, rfl⟩ | ⟨c5164, rfl, rfl⟩
  · refine z_if_eq_t (tgt := 32) b dX11_lawful_11 (by decide) (by decide) ?_
    refine z_iconst (v := (-1)) b dX11_lawful_32 (by decide) ?_
    exact z_iret (u := S) b rfl dX11_lawful_33 ⟨rfl, rfl⟩ rfl (by decide) (by decide)
  · refine z_if_eq_f (tgt := 32) b dX11_lawful_11 (by decide) (by decide) ?_
    refine z_iload_n b dX11_lawful_14 rfl rfl ?_
    refine z_bipush (v := 31) b dX11_lawful_15 (by decide) ?_
    refine z_calli b (z_runS (As := [.int p1, .int 31]) (st := []) b (c_X11_isWithin_11 S p1 ) cf_X11_isWithin wm_X11_73 ws_X11_isWithin dX11_lawful_17 rfl (Nat.le_of_ble_eq_true rfl) ⟨by decide, by decide, by decide, by decide⟩) (fun r5166 u5167 h5165 => ?_)
    rcases h5165 with ⟨c5168, rfl, rfl⟩ | ⟨c5169, rfl, rfl⟩
    · refine z_if_eq_t (tgt := 32) b dX11_lawful_20 (by decide) (by decide) ?_
      refine z_iconst (v := (-1)) b dX11_lawful_32 (by decide) ?_
      exact z_iret (u := S) b rfl dX11_lawful_33 ⟨rfl, rfl⟩ rfl (by decide) (by decide)
    · exfalso; omega

set_option maxHeartbeats 4000000 in
set_option maxRecDepth 100000 in
theorem c_X12_lawful_21 {l : Launch} {D : va_G} {cy : Nat → ClassId} {T0 tB tE : Nat} {a : Nat → Nat} (S : GS) (p0 : Int32) (p1 : Int32) (p2 : Int32)  (hr_p0 : 1 ≤ p0.toInt ∧ p0.toInt ≤ 3) (hr_p1 : (-2147483648) ≤ p1.toInt ∧ p1.toInt ≤ (-1)) : Ct l D cy T0 tB tE yX12_lawful cX12_lawful 6 (some .int) 2 42 0 0 (mw cy a S) [.ref (a 0), .int 3, .int p0, .int p1, .int p2] (QI D (U := GS) (fun r u => (-1) = r ∧ S = u) (mw cy a)) := by
  refine Ct.ofZ RX12 "lawful" [(0, .ref (a 0)), (1, .int 3), (2, .int p0), (3, .int p1), (4, .int p2)] rfl rfl rfl rfl (Nat.le_of_ble_eq_true rfl) ?_
  intro p e R s m args below meth c A b
  refine z_iload_n b dX12_lawful_0 rfl rfl ?_
  refine z_calli b (z_runS (As := [.int 3]) (st := []) b (c_X12_isRow_5 S ) cf_X12_isRow wm_X12_452 ws_X12_isRow dX12_lawful_1 rfl (Nat.le_of_ble_eq_true rfl) ⟨by decide, by decide, by decide, by decide⟩) (fun r5171 u5172 h5170 => ?_)
  obtain ⟨rfl, rfl⟩ := h5170
  refine z_if_eq_f (tgt := 36) b dX12_lawful_4 (by decide) (by decide) ?_
  refine z_iload_n b dX12_lawful_7 rfl rfl ?_
  refine z_iconst (v := 1) b dX12_lawful_8 (by decide) ?_
  refine z_iconst (v := 3) b dX12_lawful_9 (by decide) ?_
  refine z_calli b (z_runS (As := [.int p0, .int 1, .int 3]) (st := []) b (c_X12_isIn_35 S p0 ) cf_X12_isIn wm_X12_1 ws_X12_isIn dX12_lawful_10 rfl (Nat.le_of_ble_eq_true rfl) ⟨by decide, by decide, by decide, by decide⟩) (fun r5174 u5175 h5173 => ?_)
  rcases h5173 with ⟨c5176, rfl, rfl⟩ | ⟨c5177, rfl, rfl⟩
  · refine z_if_eq_t (tgt := 36) b dX12_lawful_13 (by decide) (by decide) ?_
    refine z_iconst (v := (-1)) b dX12_lawful_36 (by decide) ?_
    exact z_iret (u := S) b rfl dX12_lawful_37 ⟨rfl, rfl⟩ rfl (by decide) (by decide)
  · refine z_if_eq_f (tgt := 36) b dX12_lawful_13 (by decide) (by decide) ?_
    refine z_iload_n b dX12_lawful_16 rfl rfl ?_
    refine z_iconst (v := 0) b dX12_lawful_17 (by decide) ?_
    refine z_bipush (v := 31) b dX12_lawful_18 (by decide) ?_
    refine z_calli b (z_runS (As := [.int p1, .int 0, .int 31]) (st := []) b (c_X12_isIn_36 S p1 ) cf_X12_isIn wm_X12_1 ws_X12_isIn dX12_lawful_20 rfl (Nat.le_of_ble_eq_true rfl) ⟨by decide, by decide, by decide, by decide⟩) (fun r5179 u5180 h5178 => ?_)
    rcases h5178 with ⟨c5181, rfl, rfl⟩ | ⟨c5182, rfl, rfl⟩
    · refine z_if_eq_t (tgt := 36) b dX12_lawful_23 (by decide) (by decide) ?_
      refine z_iconst (v := (-1)) b dX12_lawful_36 (by decide) ?_
      exact z_iret (u := S) b rfl dX12_lawful_37 ⟨rfl, rfl⟩ rfl (by decide) (by decide)
    · exfalso; omega

set_option maxHeartbeats 4000000 in
set_option maxRecDepth 100000 in
theorem c_X11_lawful_22 {l : Launch} {D : va_G} {cy : Nat → ClassId} {T0 tB tE : Nat} {a : Nat → Nat} {rw : Nat → Option Nat} (S : GS) (p0 : Int32) (p1 : Int32) (p2 : Int32)  (hr_p0 : 1 ≤ p0.toInt ∧ p0.toInt ≤ 3) (hr_p1 : 32 ≤ p1.toInt ∧ p1.toInt ≤ 2147483647) : Ct l D cy T0 tB tE yX11_lawful cX11_lawful 6 (some .int) 1 21 0 0 (cw cy tE a rw S) [.ref (a 0), .int 3, .int p0, .int p1, .int p2] (QI D (U := GS) (fun r u => (-1) = r ∧ S = u) (cw cy tE a rw)) := by
  refine Ct.ofZ RX11 "lawful" [(0, .ref (a 0)), (1, .int 3), (2, .int p0), (3, .int p1), (4, .int p2)] rfl rfl rfl rfl (Nat.le_of_ble_eq_true rfl) ?_
  intro p e R s m args below meth c A b
  refine z_iload_n b dX11_lawful_0 rfl rfl ?_
  refine z_calli b (z_runS (As := [.int 3]) (st := []) b (c_X11_isRow_5 S ) cf_X11_isRow wm_X11_169 ws_X11_isRow dX11_lawful_1 rfl (Nat.le_of_ble_eq_true rfl) ⟨by decide, by decide, by decide, by decide⟩) (fun r5184 u5185 h5183 => ?_)
  obtain ⟨rfl, rfl⟩ := h5183
  refine z_if_eq_f (tgt := 32) b dX11_lawful_4 (by decide) (by decide) ?_
  refine z_iload_n b dX11_lawful_7 rfl rfl ?_
  refine z_calli b (z_runS (As := [.int p0]) (st := []) b (c_X11_areLaws S p0 ) cf_X11_areLaws wm_X11_181 ws_X11_areLaws dX11_lawful_8 rfl (Nat.le_of_ble_eq_true rfl) ⟨by decide, by decide, by decide, by decide⟩) (fun r5187 u5188 h5186 => ?_)
  rcases h5186 with ⟨c5189, rfl, rfl⟩ | ⟨c5190, rfl, rfl⟩
  · refine z_if_eq_t (tgt := 32) b dX11_lawful_11 (by decide) (by decide) ?_
    refine z_iconst (v := (-1)) b dX11_lawful_32 (by decide) ?_
    exact z_iret (u := S) b rfl dX11_lawful_33 ⟨rfl, rfl⟩ rfl (by decide) (by decide)
  · refine z_if_eq_f (tgt := 32) b dX11_lawful_11 (by decide) (by decide) ?_
    refine z_iload_n b dX11_lawful_14 rfl rfl ?_
    refine z_bipush (v := 31) b dX11_lawful_15 (by decide) ?_
    refine z_calli b (z_runS (As := [.int p1, .int 31]) (st := []) b (c_X11_isWithin_11 S p1 ) cf_X11_isWithin wm_X11_73 ws_X11_isWithin dX11_lawful_17 rfl (Nat.le_of_ble_eq_true rfl) ⟨by decide, by decide, by decide, by decide⟩) (fun r5192 u5193 h5191 => ?_)
    rcases h5191 with ⟨c5194, rfl, rfl⟩ | ⟨c5195, rfl, rfl⟩
    · refine z_if_eq_t (tgt := 32) b dX11_lawful_20 (by decide) (by decide) ?_
      refine z_iconst (v := (-1)) b dX11_lawful_32 (by decide) ?_
      exact z_iret (u := S) b rfl dX11_lawful_33 ⟨rfl, rfl⟩ rfl (by decide) (by decide)
    · exfalso; omega

set_option maxHeartbeats 4000000 in
set_option maxRecDepth 100000 in
theorem c_X12_lawful_22 {l : Launch} {D : va_G} {cy : Nat → ClassId} {T0 tB tE : Nat} {a : Nat → Nat} (S : GS) (p0 : Int32) (p1 : Int32) (p2 : Int32)  (hr_p0 : 1 ≤ p0.toInt ∧ p0.toInt ≤ 3) (hr_p1 : 32 ≤ p1.toInt ∧ p1.toInt ≤ 2147483647) : Ct l D cy T0 tB tE yX12_lawful cX12_lawful 6 (some .int) 2 42 0 0 (mw cy a S) [.ref (a 0), .int 3, .int p0, .int p1, .int p2] (QI D (U := GS) (fun r u => (-1) = r ∧ S = u) (mw cy a)) := by
  refine Ct.ofZ RX12 "lawful" [(0, .ref (a 0)), (1, .int 3), (2, .int p0), (3, .int p1), (4, .int p2)] rfl rfl rfl rfl (Nat.le_of_ble_eq_true rfl) ?_
  intro p e R s m args below meth c A b
  refine z_iload_n b dX12_lawful_0 rfl rfl ?_
  refine z_calli b (z_runS (As := [.int 3]) (st := []) b (c_X12_isRow_5 S ) cf_X12_isRow wm_X12_452 ws_X12_isRow dX12_lawful_1 rfl (Nat.le_of_ble_eq_true rfl) ⟨by decide, by decide, by decide, by decide⟩) (fun r5197 u5198 h5196 => ?_)
  obtain ⟨rfl, rfl⟩ := h5196
  refine z_if_eq_f (tgt := 36) b dX12_lawful_4 (by decide) (by decide) ?_
  refine z_iload_n b dX12_lawful_7 rfl rfl ?_
  refine z_iconst (v := 1) b dX12_lawful_8 (by decide) ?_
  refine z_iconst (v := 3) b dX12_lawful_9 (by decide) ?_
  refine z_calli b (z_runS (As := [.int p0, .int 1, .int 3]) (st := []) b (c_X12_isIn_35 S p0 ) cf_X12_isIn wm_X12_1 ws_X12_isIn dX12_lawful_10 rfl (Nat.le_of_ble_eq_true rfl) ⟨by decide, by decide, by decide, by decide⟩) (fun r5200 u5201 h5199 => ?_)
  rcases h5199 with ⟨c5202, rfl, rfl⟩ | ⟨c5203, rfl, rfl⟩
  · refine z_if_eq_t (tgt := 36) b dX12_lawful_13 (by decide) (by decide) ?_
    refine z_iconst (v := (-1)) b dX12_lawful_36 (by decide) ?_
    exact z_iret (u := S) b rfl dX12_lawful_37 ⟨rfl, rfl⟩ rfl (by decide) (by decide)
  · refine z_if_eq_f (tgt := 36) b dX12_lawful_13 (by decide) (by decide) ?_
    refine z_iload_n b dX12_lawful_16 rfl rfl ?_
    refine z_iconst (v := 0) b dX12_lawful_17 (by decide) ?_
    refine z_bipush (v := 31) b dX12_lawful_18 (by decide) ?_
    refine z_calli b (z_runS (As := [.int p1, .int 0, .int 31]) (st := []) b (c_X12_isIn_36 S p1 ) cf_X12_isIn wm_X12_1 ws_X12_isIn dX12_lawful_20 rfl (Nat.le_of_ble_eq_true rfl) ⟨by decide, by decide, by decide, by decide⟩) (fun r5205 u5206 h5204 => ?_)
    rcases h5204 with ⟨c5207, rfl, rfl⟩ | ⟨c5208, rfl, rfl⟩
    · refine z_if_eq_t (tgt := 36) b dX12_lawful_23 (by decide) (by decide) ?_
      refine z_iconst (v := (-1)) b dX12_lawful_36 (by decide) ?_
      exact z_iret (u := S) b rfl dX12_lawful_37 ⟨rfl, rfl⟩ rfl (by decide) (by decide)
    · exfalso; omega

set_option maxHeartbeats 4000000 in
set_option maxRecDepth 100000 in
theorem c_X11_lawful_23 {l : Launch} {D : va_G} {cy : Nat → ClassId} {T0 tB tE : Nat} {a : Nat → Nat} {rw : Nat → Option Nat} (S : GS) (p0 : Int32) (p1 : Int32) (p2 : Int32)  (hr_p0 : 1 ≤ p0.toInt ∧ p0.toInt ≤ 3) (hr_p1 : (-2147483648) ≤ p1.toInt ∧ p1.toInt ≤ (-1)) : Ct l D cy T0 tB tE yX11_lawful cX11_lawful 6 (some .int) 1 21 0 0 (cw cy tE a rw S) [.ref (a 0), .int 4, .int p0, .int p1, .int p2] (QI D (U := GS) (fun r u => (-1) = r ∧ S = u) (cw cy tE a rw)) := by
  refine Ct.ofZ RX11 "lawful" [(0, .ref (a 0)), (1, .int 4), (2, .int p0), (3, .int p1), (4, .int p2)] rfl rfl rfl rfl (Nat.le_of_ble_eq_true rfl) ?_
  intro p e R s m args below meth c A b
  refine z_iload_n b dX11_lawful_0 rfl rfl ?_
  refine z_calli b (z_runS (As := [.int 4]) (st := []) b (c_X11_isRow_6 S ) cf_X11_isRow wm_X11_169 ws_X11_isRow dX11_lawful_1 rfl (Nat.le_of_ble_eq_true rfl) ⟨by decide, by decide, by decide, by decide⟩) (fun r5210 u5211 h5209 => ?_)
  obtain ⟨rfl, rfl⟩ := h5209
  refine z_if_eq_f (tgt := 32) b dX11_lawful_4 (by decide) (by decide) ?_
  refine z_iload_n b dX11_lawful_7 rfl rfl ?_
  refine z_calli b (z_runS (As := [.int p0]) (st := []) b (c_X11_areLaws S p0 ) cf_X11_areLaws wm_X11_181 ws_X11_areLaws dX11_lawful_8 rfl (Nat.le_of_ble_eq_true rfl) ⟨by decide, by decide, by decide, by decide⟩) (fun r5213 u5214 h5212 => ?_)
  rcases h5212 with ⟨c5215, rfl, rfl⟩ | ⟨c5216, rfl, rfl⟩
  · refine z_if_eq_t (tgt := 32) b dX11_lawful_11 (by decide) (by decide) ?_
    refine z_iconst (v := (-1)) b dX11_lawful_32 (by decide) ?_
    exact z_iret (u := S) b rfl dX11_lawful_33 ⟨rfl, rfl⟩ rfl (by decide) (by decide)
  · refine z_if_eq_f (tgt := 32) b dX11_lawful_11 (by decide) (by decide) ?_
    refine z_iload_n b dX11_lawful_14 rfl rfl ?_
    refine z_bipush (v := 31) b dX11_lawful_15 (by decide) ?_
    refine z_calli b (z_runS (As := [.int p1, .int 31]) (st := []) b (c_X11_isWithin_11 S p1 ) cf_X11_isWithin wm_X11_73 ws_X11_isWithin dX11_lawful_17 rfl (Nat.le_of_ble_eq_true rfl) ⟨by decide, by decide, by decide, by decide⟩) (fun r5218 u5219 h5217 => ?_)
    rcases h5217 with ⟨c5220, rfl, rfl⟩ | ⟨c5221, rfl, rfl⟩
    · refine z_if_eq_t (tgt := 32) b dX11_lawful_20 (by decide) (by decide) ?_
      refine z_iconst (v := (-1)) b dX11_lawful_32 (by decide) ?_
      exact z_iret (u := S) b rfl dX11_lawful_33 ⟨rfl, rfl⟩ rfl (by decide) (by decide)
    · exfalso; omega

set_option maxHeartbeats 4000000 in
set_option maxRecDepth 100000 in
theorem c_X12_lawful_23 {l : Launch} {D : va_G} {cy : Nat → ClassId} {T0 tB tE : Nat} {a : Nat → Nat} (S : GS) (p0 : Int32) (p1 : Int32) (p2 : Int32)  (hr_p0 : 1 ≤ p0.toInt ∧ p0.toInt ≤ 3) (hr_p1 : (-2147483648) ≤ p1.toInt ∧ p1.toInt ≤ (-1)) : Ct l D cy T0 tB tE yX12_lawful cX12_lawful 6 (some .int) 2 42 0 0 (mw cy a S) [.ref (a 0), .int 4, .int p0, .int p1, .int p2] (QI D (U := GS) (fun r u => (-1) = r ∧ S = u) (mw cy a)) := by
  refine Ct.ofZ RX12 "lawful" [(0, .ref (a 0)), (1, .int 4), (2, .int p0), (3, .int p1), (4, .int p2)] rfl rfl rfl rfl (Nat.le_of_ble_eq_true rfl) ?_
  intro p e R s m args below meth c A b
  refine z_iload_n b dX12_lawful_0 rfl rfl ?_
  refine z_calli b (z_runS (As := [.int 4]) (st := []) b (c_X12_isRow_6 S ) cf_X12_isRow wm_X12_452 ws_X12_isRow dX12_lawful_1 rfl (Nat.le_of_ble_eq_true rfl) ⟨by decide, by decide, by decide, by decide⟩) (fun r5223 u5224 h5222 => ?_)
  obtain ⟨rfl, rfl⟩ := h5222
  refine z_if_eq_f (tgt := 36) b dX12_lawful_4 (by decide) (by decide) ?_
  refine z_iload_n b dX12_lawful_7 rfl rfl ?_
  refine z_iconst (v := 1) b dX12_lawful_8 (by decide) ?_
  refine z_iconst (v := 3) b dX12_lawful_9 (by decide) ?_
  refine z_calli b (z_runS (As := [.int p0, .int 1, .int 3]) (st := []) b (c_X12_isIn_35 S p0 ) cf_X12_isIn wm_X12_1 ws_X12_isIn dX12_lawful_10 rfl (Nat.le_of_ble_eq_true rfl) ⟨by decide, by decide, by decide, by decide⟩) (fun r5226 u5227 h5225 => ?_)
  rcases h5225 with ⟨c5228, rfl, rfl⟩ | ⟨c5229, rfl, rfl⟩
  · refine z_if_eq_t (tgt := 36) b dX12_lawful_13 (by decide) (by decide) ?_
    refine z_iconst (v := (-1)) b dX12_lawful_36 (by decide) ?_
    exact z_iret (u := S) b rfl dX12_lawful_37 ⟨rfl, rfl⟩ rfl (by decide) (by decide)
  · refine z_if_eq_f (tgt := 36) b dX12_lawful_13 (by decide) (by decide) ?_
    refine z_iload_n b dX12_lawful_16 rfl rfl ?_
    refine z_iconst (v := 0) b dX12_lawful_17 (by decide) ?_
    refine z_bipush (v := 31) b dX12_lawful_18 (by decide) ?_
    refine z_calli b (z_runS (As := [.int p1, .int 0, .int 31]) (st := []) b (c_X12_isIn_36 S p1 ) cf_X12_isIn wm_X12_1 ws_X12_isIn dX12_lawful_20 rfl (Nat.le_of_ble_eq_true rfl) ⟨by decide, by decide, by decide, by decide⟩) (fun r5231 u5232 h5230 => ?_)
    rcases h5230 with ⟨c5233, rfl, rfl⟩ | ⟨c5234, rfl, rfl⟩
    · refine z_if_eq_t (tgt := 36) b dX12_lawful_23 (by decide) (by decide) ?_
      refine z_iconst (v := (-1)) b dX12_lawful_36 (by decide) ?_
      exact z_iret (u := S) b rfl dX12_lawful_37 ⟨rfl, rfl⟩ rfl (by decide) (by decide)
    · exfalso; omega

set_option maxHeartbeats 4000000 in
set_option maxRecDepth 100000 in
theorem c_X11_lawful_24 {l : Launch} {D : va_G} {cy : Nat → ClassId} {T0 tB tE : Nat} {a : Nat → Nat} {rw : Nat → Option Nat} (S : GS) (p0 : Int32) (p1 : Int32) (p2 : Int32)  (hr_p0 : 1 ≤ p0.toInt ∧ p0.toInt ≤ 3) (hr_p1 : 32 ≤ p1.toInt ∧ p1.toInt ≤ 2147483647) : Ct l D cy T0 tB tE yX11_lawful cX11_lawful 6 (some .int) 1 21 0 0 (cw cy tE a rw S) [.ref (a 0), .int 4, .int p0, .int p1, .int p2] (QI D (U := GS) (fun r u => (-1) = r ∧ S = u) (cw cy tE a rw)) := by
  refine Ct.ofZ RX11 "lawful" [(0, .ref (a 0)), (1, .int 4), (2, .int p0), (3, .int p1), (4, .int p2)] rfl rfl rfl rfl (Nat.le_of_ble_eq_true rfl) ?_
  intro p e R s m args below meth c A b
  refine z_iload_n b dX11_lawful_0 rfl rfl ?_
  refine z_calli b (z_runS (As := [.int 4]) (st := []) b (c_X11_isRow_6 S ) cf_X11_isRow wm_X11_169 ws_X11_isRow dX11_lawful_1 rfl (Nat.le_of_ble_eq_true rfl) ⟨by decide, by decide, by decide, by decide⟩) (fun r5236 u5237 h5235 => ?_)
  obtain ⟨rfl, rfl⟩ := h5235
  refine z_if_eq_f (tgt := 32) b dX11_lawful_4 (by decide) (by decide) ?_
  refine z_iload_n b dX11_lawful_7 rfl rfl ?_
  refine z_calli b (z_runS (As := [.int p0]) (st := []) b (c_X11_areLaws S p0 ) cf_X11_areLaws wm_X11_181 ws_X11_areLaws dX11_lawful_8 rfl (Nat.le_of_ble_eq_true rfl) ⟨by decide, by decide, by decide, by decide⟩) (fun r5239 u5240 h5238 => ?_)
  rcases h5238 with ⟨c5241, rfl, rfl⟩ | ⟨c5242, rfl, rfl⟩
  · refine z_if_eq_t (tgt := 32) b dX11_lawful_11 (by decide) (by decide) ?_
    refine z_iconst (v := (-1)) b dX11_lawful_32 (by decide) ?_
    exact z_iret (u := S) b rfl dX11_lawful_33 ⟨rfl, rfl⟩ rfl (by decide) (by decide)
  · refine z_if_eq_f (tgt := 32) b dX11_lawful_11 (by decide) (by decide) ?_
    refine z_iload_n b dX11_lawful_14 rfl rfl ?_
    refine z_bipush (v := 31) b dX11_lawful_15 (by decide) ?_
    refine z_calli b (z_runS (As := [.int p1, .int 31]) (st := []) b (c_X11_isWithin_11 S p1 ) cf_X11_isWithin wm_X11_73 ws_X11_isWithin dX11_lawful_17 rfl (Nat.le_of_ble_eq_true rfl) ⟨by decide, by decide, by decide, by decide⟩) (fun r5244 u5245 h5243 => ?_)
    rcases h5243 with ⟨c5246, rfl, rfl⟩ | ⟨c5247, rfl, rfl⟩
    · refine z_if_eq_t (tgt := 32) b dX11_lawful_20 (by decide) (by decide) ?_
      refine z_iconst (v := (-1)) b dX11_lawful_32 (by decide) ?_
      exact z_iret (u := S) b rfl dX11_lawful_33 ⟨rfl, rfl⟩ rfl (by decide) (by decide)
    · exfalso; omega

set_option maxHeartbeats 4000000 in
set_option maxRecDepth 100000 in
theorem c_X12_lawful_24 {l : Launch} {D : va_G} {cy : Nat → ClassId} {T0 tB tE : Nat} {a : Nat → Nat} (S : GS) (p0 : Int32) (p1 : Int32) (p2 : Int32)  (hr_p0 : 1 ≤ p0.toInt ∧ p0.toInt ≤ 3) (hr_p1 : 32 ≤ p1.toInt ∧ p1.toInt ≤ 2147483647) : Ct l D cy T0 tB tE yX12_lawful cX12_lawful 6 (some .int) 2 42 0 0 (mw cy a S) [.ref (a 0), .int 4, .int p0, .int p1, .int p2] (QI D (U := GS) (fun r u => (-1) = r ∧ S = u) (mw cy a)) := by
  refine Ct.ofZ RX12 "lawful" [(0, .ref (a 0)), (1, .int 4), (2, .int p0), (3, .int p1), (4, .int p2)] rfl rfl rfl rfl (Nat.le_of_ble_eq_true rfl) ?_
  intro p e R s m args below meth c A b
  refine z_iload_n b dX12_lawful_0 rfl rfl ?_
  refine z_calli b (z_runS (As := [.int 4]) (st := []) b (c_X12_isRow_6 S ) cf_X12_isRow wm_X12_452 ws_X12_isRow dX12_lawful_1 rfl (Nat.le_of_ble_eq_true rfl) ⟨by decide, by decide, by decide, by decide⟩) (fun r5249 u5250 h5248 => ?_)
  obtain ⟨rfl, rfl⟩ := h5248
  refine z_if_eq_f (tgt := 36) b dX12_lawful_4 (by decide) (by decide) ?_
  refine z_iload_n b dX12_lawful_7 rfl rfl ?_
  refine z_iconst (v := 1) b dX12_lawful_8 (by decide) ?_
  refine z_iconst (v := 3) b dX12_lawful_9 (by decide) ?_
  refine z_calli b (z_runS (As := [.int p0, .int 1, .int 3]) (st := []) b (c_X12_isIn_35 S p0 ) cf_X12_isIn wm_X12_1 ws_X12_isIn dX12_lawful_10 rfl (Nat.le_of_ble_eq_true rfl) ⟨by decide, by decide, by decide, by decide⟩) (fun r5252 u5253 h5251 => ?_)
  rcases h5251 with ⟨c5254, rfl, rfl⟩ | ⟨c5255, rfl, rfl⟩
  · refine z_if_eq_t (tgt := 36) b dX12_lawful_13 (by decide) (by decide) ?_
    refine z_iconst (v := (-1)) b dX12_lawful_36 (by decide) ?_
    exact z_iret (u := S) b rfl dX12_lawful_37 ⟨rfl, rfl⟩ rfl (by decide) (by decide)
  · refine z_if_eq_f (tgt := 36) b dX12_lawful_13 (by decide) (by decide) ?_
    refine z_iload_n b dX12_lawful_16 rfl rfl ?_
    refine z_iconst (v := 0) b dX12_lawful_17 (by decide) ?_
    refine z_bipush (v := 31) b dX12_lawful_18 (by decide) ?_
    refine z_calli b (z_runS (As := [.int p1, .int 0, .int 31]) (st := []) b (c_X12_isIn_36 S p1 ) cf_X12_isIn wm_X12_1 ws_X12_isIn dX12_lawful_20 rfl (Nat.le_of_ble_eq_true rfl) ⟨by decide, by decide, by decide, by decide⟩) (fun r5257 u5258 h5256 => ?_)
    rcases h5256 with ⟨c5259, rfl, rfl⟩ | ⟨c5260, rfl, rfl⟩
    · refine z_if_eq_t (tgt := 36) b dX12_lawful_23 (by decide) (by decide) ?_
      refine z_iconst (v := (-1)) b dX12_lawful_36 (by decide) ?_
      exact z_iret (u := S) b rfl dX12_lawful_37 ⟨rfl, rfl⟩ rfl (by decide) (by decide)
    · exfalso; omega

set_option maxHeartbeats 4000000 in
set_option maxRecDepth 100000 in
theorem c_X11_lawful_25 {l : Launch} {D : va_G} {cy : Nat → ClassId} {T0 tB tE : Nat} {a : Nat → Nat} {rw : Nat → Option Nat} (S : GS) (p0 : Int32) (p1 : Int32) (p2 : Int32)  (hr_p0 : 1 ≤ p0.toInt ∧ p0.toInt ≤ 3) (hr_p1 : (-2147483648) ≤ p1.toInt ∧ p1.toInt ≤ (-1)) : Ct l D cy T0 tB tE yX11_lawful cX11_lawful 6 (some .int) 1 21 0 0 (cw cy tE a rw S) [.ref (a 0), .int 5, .int p0, .int p1, .int p2] (QI D (U := GS) (fun r u => (-1) = r ∧ S = u) (cw cy tE a rw)) := by
  refine Ct.ofZ RX11 "lawful" [(0, .ref (a 0)), (1, .int 5), (2, .int p0), (3, .int p1), (4, .int p2)] rfl rfl rfl rfl (Nat.le_of_ble_eq_true rfl) ?_
  intro p e R s m args below meth c A b
  refine z_iload_n b dX11_lawful_0 rfl rfl ?_
  refine z_calli b (z_runS (As := [.int 5]) (st := []) b (c_X11_isRow_7 S ) cf_X11_isRow wm_X11_169 ws_X11_isRow dX11_lawful_1 rfl (Nat.le_of_ble_eq_true rfl) ⟨by decide, by decide, by decide, by decide⟩) (fun r5262 u5263 h5261 => ?_)
  obtain ⟨rfl, rfl⟩ := h5261
  refine z_if_eq_f (tgt := 32) b dX11_lawful_4 (by decide) (by decide) ?_
  refine z_iload_n b dX11_lawful_7 rfl rfl ?_
  refine z_calli b (z_runS (As := [.int p0]) (st := []) b (c_X11_areLaws S p0 ) cf_X11_areLaws wm_X11_181 ws_X11_areLaws dX11_lawful_8 rfl (Nat.le_of_ble_eq_true rfl) ⟨by decide, by decide, by decide, by decide⟩) (fun r5265 u5266 h5264 => ?_)
  rcases h5264 with ⟨c5267, rfl, rfl⟩ | ⟨c5268, rfl, rfl⟩
  · refine z_if_eq_t (tgt := 32) b dX11_lawful_11 (by decide) (by decide) ?_
    refine z_iconst (v := (-1)) b dX11_lawful_32 (by decide) ?_
    exact z_iret (u := S) b rfl dX11_lawful_33 ⟨rfl, rfl⟩ rfl (by decide) (by decide)
  · refine z_if_eq_f (tgt := 32) b dX11_lawful_11 (by decide) (by decide) ?_
    refine z_iload_n b dX11_lawful_14 rfl rfl ?_
    refine z_bipush (v := 31) b dX11_lawful_15 (by decide) ?_
    refine z_calli b (z_runS (As := [.int p1, .int 31]) (st := []) b (c_X11_isWithin_11 S p1 ) cf_X11_isWithin wm_X11_73 ws_X11_isWithin dX11_lawful_17 rfl (Nat.le_of_ble_eq_true rfl) ⟨by decide, by decide, by decide, by decide⟩) (fun r5270 u5271 h5269 => ?_)
    rcases h5269 with ⟨c5272, rfl, rfl⟩ | ⟨c5273, rfl, rfl⟩
    · refine z_if_eq_t (tgt := 32) b dX11_lawful_20 (by decide) (by decide) ?_
      refine z_iconst (v := (-1)) b dX11_lawful_32 (by decide) ?_
      exact z_iret (u := S) b rfl dX11_lawful_33 ⟨rfl, rfl⟩ rfl (by decide) (by decide)
    · exfalso; omega

set_option maxHeartbeats 4000000 in
set_option maxRecDepth 100000 in
theorem c_X12_lawful_25 {l : Launch} {D : va_G} {cy : Nat → ClassId} {T0 tB tE : Nat} {a : Nat → Nat} (S : GS) (p0 : Int32) (p1 : Int32) (p2 : Int32)  (hr_p0 : 1 ≤ p0.toInt ∧ p0.toInt ≤ 3) (hr_p1 : (-2147483648) ≤ p1.toInt ∧ p1.toInt ≤ (-1)) : Ct l D cy T0 tB tE yX12_lawful cX12_lawful 6 (some .int) 2 42 0 0 (mw cy a S) [.ref (a 0), .int 5, .int p0, .int p1, .int p2] (QI D (U := GS) (fun r u => (-1) = r ∧ S = u) (mw cy a)) := by
  refine Ct.ofZ RX12 "lawful" [(0, .ref (a 0)), (1, .int 5), (2, .int p0), (3, .int p1), (4, .int p2)] rfl rfl rfl rfl (Nat.le_of_ble_eq_true rfl) ?_
  intro p e R s m args below meth c A b
  refine z_iload_n b dX12_lawful_0 rfl rfl ?_
  refine z_calli b (z_runS (As := [.int 5]) (st := []) b (c_X12_isRow_7 S ) cf_X12_isRow wm_X12_452 ws_X12_isRow dX12_lawful_1 rfl (Nat.le_of_ble_eq_true rfl) ⟨by decide, by decide, by decide, by decide⟩) (fun r5275 u5276 h5274 => ?_)
  obtain ⟨rfl, rfl⟩ := h5274
  refine z_if_eq_f (tgt := 36) b dX12_lawful_4 (by decide) (by decide) ?_
  refine z_iload_n b dX12_lawful_7 rfl rfl ?_
  refine z_iconst (v := 1) b dX12_lawful_8 (by decide) ?_
  refine z_iconst (v := 3) b dX12_lawful_9 (by decide) ?_
  refine z_calli b (z_runS (As := [.int p0, .int 1, .int 3]) (st := []) b (c_X12_isIn_35 S p0 ) cf_X12_isIn wm_X12_1 ws_X12_isIn dX12_lawful_10 rfl (Nat.le_of_ble_eq_true rfl) ⟨by decide, by decide, by decide, by decide⟩) (fun r5278 u5279 h5277 => ?_)
  rcases h5277 with ⟨c5280, rfl, rfl⟩ | ⟨c5281, rfl, rfl⟩
  · refine z_if_eq_t (tgt := 36) b dX12_lawful_13 (by decide) (by decide) ?_
    refine z_iconst (v := (-1)) b dX12_lawful_36 (by decide) ?_
    exact z_iret (u := S) b rfl dX12_lawful_37 ⟨rfl, rfl⟩ rfl (by decide) (by decide)
  · refine z_if_eq_f (tgt := 36) b dX12_lawful_13 (by decide) (by decide) ?_
    refine z_iload_n b dX12_lawful_16 rfl rfl ?_
    refine z_iconst (v := 0) b dX12_lawful_17 (by decide) ?_
    refine z_bipush (v := 31) b dX12_lawful_18 (by decide) ?_
    refine z_calli b (z_runS (As := [.int p1, .int 0, .int 31]) (st := []) b (c_X12_isIn_36 S p1 ) cf_X12_isIn wm_X12_1 ws_X12_isIn dX12_lawful_20 rfl (Nat.le_of_ble_eq_true rfl) ⟨by decide, by decide, by decide, by decide⟩) (fun r5283 u5284 h5282 => ?_)
    rcases h5282 with ⟨c5285, rfl, rfl⟩ | ⟨c5286, rfl, rfl⟩
    · refine z_if_eq_t (tgt := 36) b dX12_lawful_23 (by decide) (by decide) ?_
      refine z_iconst (v := (-1)) b dX12_lawful_36 (by decide) ?_
      exact z_iret (u := S) b rfl dX12_lawful_37 ⟨rfl, rfl⟩ rfl (by decide) (by decide)
    · exfalso; omega

set_option maxHeartbeats 4000000 in
set_option maxRecDepth 100000 in
theorem c_X11_lawful_26 {l : Launch} {D : va_G} {cy : Nat → ClassId} {T0 tB tE : Nat} {a : Nat → Nat} {rw : Nat → Option Nat} (S : GS) (p0 : Int32) (p1 : Int32) (p2 : Int32)  (hr_p0 : 1 ≤ p0.toInt ∧ p0.toInt ≤ 3) (hr_p1 : 32 ≤ p1.toInt ∧ p1.toInt ≤ 2147483647) : Ct l D cy T0 tB tE yX11_lawful cX11_lawful 6 (some .int) 1 21 0 0 (cw cy tE a rw S) [.ref (a 0), .int 5, .int p0, .int p1, .int p2] (QI D (U := GS) (fun r u => (-1) = r ∧ S = u) (cw cy tE a rw)) := by
  refine Ct.ofZ RX11 "lawful" [(0, .ref (a 0)), (1, .int 5), (2, .int p0), (3, .int p1), (4, .int p2)] rfl rfl rfl rfl (Nat.le_of_ble_eq_true rfl) ?_
  intro p e R s m args below meth c A b
  refine z_iload_n b dX11_lawful_0 rfl rfl ?_
  refine z_calli b (z_runS (As := [.int 5]) (st := []) b (c_X11_isRow_7 S ) cf_X11_isRow wm_X11_169 ws_X11_isRow dX11_lawful_1 rfl (Nat.le_of_ble_eq_true rfl) ⟨by decide, by decide, by decide, by decide⟩) (fun r5288 u5289 h5287 => ?_)
  obtain ⟨rfl, rfl⟩ := h5287
  refine z_if_eq_f (tgt := 32) b dX11_lawful_4 (by decide) (by decide) ?_
  refine z_iload_n b dX11_lawful_7 rfl rfl ?_
  refine z_calli b (z_runS (As := [.int p0]) (st := []) b (c_X11_areLaws S p0 ) cf_X11_areLaws wm_X11_181 ws_X11_areLaws dX11_lawful_8 rfl (Nat.le_of_ble_eq_true rfl) ⟨by decide, by decide, by decide, by decide⟩) (fun r5291 u5292 h5290 => ?_)
  rcases h5290 with ⟨c5293, rfl, rfl⟩ | ⟨c5294, rfl, rfl⟩
  · refine z_if_eq_t (tgt := 32) b dX11_lawful_11 (by decide) (by decide) ?_
    refine z_iconst (v := (-1)) b dX11_lawful_32 (by decide) ?_
    exact z_iret (u := S) b rfl dX11_lawful_33 ⟨rfl, rfl⟩ rfl (by decide) (by decide)
  · refine z_if_eq_f (tgt := 32) b dX11_lawful_11 (by decide) (by decide) ?_
    refine z_iload_n b dX11_lawful_14 rfl rfl ?_
    refine z_bipush (v := 31) b dX11_lawful_15 (by decide) ?_
    refine z_calli b (z_runS (As := [.int p1, .int 31]) (st := []) b (c_X11_isWithin_11 S p1 ) cf_X11_isWithin wm_X11_73 ws_X11_isWithin dX11_lawful_17 rfl (Nat.le_of_ble_eq_true rfl) ⟨by decide, by decide, by decide, by decide⟩) (fun r5296 u5297 h5295 => ?_)
    rcases h5295 with ⟨c5298, rfl, rfl⟩ | ⟨c5299, rfl, rfl⟩
    · refine z_if_eq_t (tgt := 32) b dX11_lawful_20 (by decide) (by decide) ?_
      refine z_iconst (v := (-1)) b dX11_lawful_32 (by decide) ?_
      exact z_iret (u := S) b rfl dX11_lawful_33 ⟨rfl, rfl⟩ rfl (by decide) (by decide)
    · exfalso; omega

set_option maxHeartbeats 4000000 in
set_option maxRecDepth 100000 in
theorem c_X12_lawful_26 {l : Launch} {D : va_G} {cy : Nat → ClassId} {T0 tB tE : Nat} {a : Nat → Nat} (S : GS) (p0 : Int32) (p1 : Int32) (p2 : Int32)  (hr_p0 : 1 ≤ p0.toInt ∧ p0.toInt ≤ 3) (hr_p1 : 32 ≤ p1.toInt ∧ p1.toInt ≤ 2147483647) : Ct l D cy T0 tB tE yX12_lawful cX12_lawful 6 (some .int) 2 42 0 0 (mw cy a S) [.ref (a 0), .int 5, .int p0, .int p1, .int p2] (QI D (U := GS) (fun r u => (-1) = r ∧ S = u) (mw cy a)) := by
  refine Ct.ofZ RX12 "lawful" [(0, .ref (a 0)), (1, .int 5), (2, .int p0), (3, .int p1), (4, .int p2)] rfl rfl rfl rfl (Nat.le_of_ble_eq_true rfl) ?_
  intro p e R s m args below meth c A b
  refine z_iload_n b dX12_lawful_0 rfl rfl ?_
  refine z_calli b (z_runS (As := [.int 5]) (st := []) b (c_X12_isRow_7 S ) cf_X12_isRow wm_X12_452 ws_X12_isRow dX12_lawful_1 rfl (Nat.le_of_ble_eq_true rfl) ⟨by decide, by decide, by decide, by decide⟩) (fun r5301 u5302 h5300 => ?_)
  obtain ⟨rfl, rfl⟩ := h5300
  refine z_if_eq_f (tgt := 36) b dX12_lawful_4 (by decide) (by decide) ?_
  refine z_iload_n b dX12_lawful_7 rfl rfl ?_
  refine z_iconst (v := 1) b dX12_lawful_8 (by decide) ?_
  refine z_iconst (v := 3) b dX12_lawful_9 (by decide) ?_
  refine z_calli b (z_runS (As := [.int p0, .int 1, .int 3]) (st := []) b (c_X12_isIn_35 S p0 ) cf_X12_isIn wm_X12_1 ws_X12_isIn dX12_lawful_10 rfl (Nat.le_of_ble_eq_true rfl) ⟨by decide, by decide, by decide, by decide⟩) (fun r5304 u5305 h5303 => ?_)
  rcases h5303 with ⟨c5306, rfl, rfl⟩ | ⟨c5307, rfl, rfl⟩
  · refine z_if_eq_t (tgt := 36) b dX12_lawful_13 (by decide) (by decide) ?_
    refine z_iconst (v := (-1)) b dX12_lawful_36 (by decide) ?_
    exact z_iret (u := S) b rfl dX12_lawful_37 ⟨rfl, rfl⟩ rfl (by decide) (by decide)
  · refine z_if_eq_f (tgt := 36) b dX12_lawful_13 (by decide) (by decide) ?_
    refine z_iload_n b dX12_lawful_16 rfl rfl ?_
    refine z_iconst (v := 0) b dX12_lawful_17 (by decide) ?_
    refine z_bipush (v := 31) b dX12_lawful_18 (by decide) ?_
    refine z_calli b (z_runS (As := [.int p1, .int 0, .int 31]) (st := []) b (c_X12_isIn_36 S p1 ) cf_X12_isIn wm_X12_1 ws_X12_isIn dX12_lawful_20 rfl (Nat.le_of_ble_eq_true rfl) ⟨by decide, by decide, by decide, by decide⟩) (fun r5309 u5310 h5308 => ?_)
    rcases h5308 with ⟨c5311, rfl, rfl⟩ | ⟨c5312, rfl, rfl⟩
    · refine z_if_eq_t (tgt := 36) b dX12_lawful_23 (by decide) (by decide) ?_
      refine z_iconst (v := (-1)) b dX12_lawful_36 (by decide) ?_
      exact z_iret (u := S) b rfl dX12_lawful_37 ⟨rfl, rfl⟩ rfl (by decide) (by decide)
    · exfalso; omega

set_option maxHeartbeats 4000000 in
set_option maxRecDepth 100000 in
theorem c_X11_lawful_27 {l : Launch} {D : va_G} {cy : Nat → ClassId} {T0 tB tE : Nat} {a : Nat → Nat} {rw : Nat → Option Nat} (S : GS) (p0 : Int32) (p1 : Int32) (p2 : Int32)  (hr_p0 : 1 ≤ p0.toInt ∧ p0.toInt ≤ 3) (hr_p1 : 0 ≤ p1.toInt ∧ p1.toInt ≤ 31) (hr_p2 : (-2147483648) ≤ p2.toInt ∧ p2.toInt ≤ (-1)) : Ct l D cy T0 tB tE yX11_lawful cX11_lawful 6 (some .int) 1 21 0 0 (cw cy tE a rw S) [.ref (a 0), .int 0, .int p0, .int p1, .int p2] (QI D (U := GS) (fun r u => (-1) = r ∧ S = u) (cw cy tE a rw)) := by
  refine Ct.ofZ RX11 "lawful" [(0, .ref (a 0)), (1, .int 0), (2, .int p0), (3, .int p1), (4, .int p2)] rfl rfl rfl rfl (Nat.le_of_ble_eq_true rfl) ?_
  intro p e R s m args below meth c A b
  refine z_iload_n b dX11_lawful_0 rfl rfl ?_
  refine z_calli b (z_runS (As := [.int 0]) (st := []) b (c_X11_isRow_2 S ) cf_X11_isRow wm_X11_169 ws_X11_isRow dX11_lawful_1 rfl (Nat.le_of_ble_eq_true rfl) ⟨by decide, by decide, by decide, by decide⟩) (fun r5314 u5315 h5313 => ?_)
  obtain ⟨rfl, rfl⟩ := h5313
  refine z_if_eq_f (tgt := 32) b dX11_lawful_4 (by decide) (by decide) ?_
  refine z_iload_n b dX11_lawful_7 rfl rfl ?_
  refine z_calli b (z_runS (As := [.int p0]) (st := []) b (c_X11_areLaws S p0 ) cf_X11_areLaws wm_X11_181 ws_X11_areLaws dX11_lawful_8 rfl (Nat.le_of_ble_eq_true rfl) ⟨by decide, by decide, by decide, by decide⟩) (fun r5317 u5318 h5316 => ?_)
  rcases h5316 with ⟨c5319, rfl, rfl⟩ | ⟨c5320, rfl, rfl⟩
  · refine z_if_eq_t (tgt := 32) b dX11_lawful_11 (by decide) (by decide) ?_
    refine z_iconst (v := (-1)) b dX11_lawful_32 (by decide) ?_
    exact z_iret (u := S) b rfl dX11_lawful_33 ⟨rfl, rfl⟩ rfl (by decide) (by decide)
  · refine z_if_eq_f (tgt := 32) b dX11_lawful_11 (by decide) (by decide) ?_
    refine z_iload_n b dX11_lawful_14 rfl rfl ?_
    refine z_bipush (v := 31) b dX11_lawful_15 (by decide) ?_
    refine z_calli b (z_runS (As := [.int p1, .int 31]) (st := []) b (c_X11_isWithin_11 S p1 ) cf_X11_isWithin wm_X11_73 ws_X11_isWithin dX11_lawful_17 rfl (Nat.le_of_ble_eq_true rfl) ⟨by decide, by decide, by decide, by decide⟩) (fun r5322 u5323 h5321 => ?_)
    rcases h5321 with ⟨c5324, rfl, rfl⟩ | ⟨c5325, rfl, rfl⟩
    · refine z_if_eq_t (tgt := 32) b dX11_lawful_20 (by decide) (by decide) ?_
      refine z_iconst (v := (-1)) b dX11_lawful_32 (by decide) ?_
      exact z_iret (u := S) b rfl dX11_lawful_33 ⟨rfl, rfl⟩ rfl (by decide) (by decide)
    · refine z_if_eq_f (tgt := 32) b dX11_lawful_20 (by decide) (by decide) ?_
      refine z_iload b dX11_lawful_23 rfl ?_
      refine z_iconst (v := 1) b dX11_lawful_25 (by decide) ?_
      refine z_calli b (z_runS (As := [.int p2, .int 1]) (st := []) b (c_X11_isWithin_4 S p2 ) cf_X11_isWithin wm_X11_73 ws_X11_isWithin dX11_lawful_26 rfl (Nat.le_of_ble_eq_true rfl) ⟨by decide, by decide, by decide, by decide⟩) (fun r5327 u5328 h5326 => ?_)
      rcases h5326 with ⟨c5329, rfl, rfl⟩ | ⟨c5330, rfl, rfl⟩
      · refine z_if_ne_f (tgt := 34) b dX11_lawful_29 (by decide) (by decide) ?_
        refine z_iconst (v := (-1)) b dX11_lawful_32 (by decide) ?_
        exact z_iret (u := S) b rfl dX11_lawful_33 ⟨rfl, rfl⟩ rfl (by decide) (by decide)
      · exfalso; omega

set_option maxHeartbeats 4000000 in
set_option maxRecDepth 100000 in
theorem c_X12_lawful_27 {l : Launch} {D : va_G} {cy : Nat → ClassId} {T0 tB tE : Nat} {a : Nat → Nat} (S : GS) (p0 : Int32) (p1 : Int32) (p2 : Int32)  (hr_p0 : 1 ≤ p0.toInt ∧ p0.toInt ≤ 3) (hr_p1 : 0 ≤ p1.toInt ∧ p1.toInt ≤ 31) (hr_p2 : (-2147483648) ≤ p2.toInt ∧ p2.toInt ≤ (-1)) : Ct l D cy T0 tB tE yX12_lawful cX12_lawful 6 (some .int) 2 42 0 0 (mw cy a S) [.ref (a 0), .int 0, .int p0, .int p1, .int p2] (QI D (U := GS) (fun r u => (-1) = r ∧ S = u) (mw cy a)) := by
  refine Ct.ofZ RX12 "lawful" [(0, .ref (a 0)), (1, .int 0), (2, .int p0), (3, .int p1), (4, .int p2)] rfl rfl rfl rfl (Nat.le_of_ble_eq_true rfl) ?_
  intro p e R s m args below meth c A b
  refine z_iload_n b dX12_lawful_0 rfl rfl ?_
  refine z_calli b (z_runS (As := [.int 0]) (st := []) b (c_X12_isRow_2 S ) cf_X12_isRow wm_X12_452 ws_X12_isRow dX12_lawful_1 rfl (Nat.le_of_ble_eq_true rfl) ⟨by decide, by decide, by decide, by decide⟩) (fun r5332 u5333 h5331 => ?_)
  obtain ⟨rfl, rfl⟩ := h5331
  refine z_if_eq_f (tgt := 36) b dX12_lawful_4 (by decide) (by decide) ?_
  refine z_iload_n b dX12_lawful_7 rfl rfl ?_
  refine z_iconst (v := 1) b dX12_lawful_8 (by decide) ?_
  refine z_iconst (v := 3) b dX12_lawful_9 (by decide) ?_
  refine z_calli b (z_runS (As := [.int p0, .int 1, .int 3]) (st := []) b (c_X12_isIn_35 S p0 ) cf_X12_isIn wm_X12_1 ws_X12_isIn dX12_lawful_10 rfl (Nat.le_of_ble_eq_true rfl) ⟨by decide, by decide, by decide, by decide⟩) (fun r5335 u5336 h5334 => ?_)
  rcases h5334 with ⟨c5337, rfl, rfl⟩ | ⟨c5338, rfl, rfl⟩
  · refine z_if_eq_t (tgt := 36) b dX12_lawful_13 (by decide) (by decide) ?_
    refine z_iconst (v := (-1)) b dX12_lawful_36 (by decide) ?_
    exact z_iret (u := S) b rfl dX12_lawful_37 ⟨rfl, rfl⟩ rfl (by decide) (by decide)
  · refine z_if_eq_f (tgt := 36) b dX12_lawful_13 (by decide) (by decide) ?_
    refine z_iload_n b dX12_lawful_16 rfl rfl ?_
    refine z_iconst (v := 0) b dX12_lawful_17 (by decide) ?_
    refine z_bipush (v := 31) b dX12_lawful_18 (by decide) ?_
    refine z_calli b (z_runS (As := [.int p1, .int 0, .int 31]) (st := []) b (c_X12_isIn_36 S p1 ) cf_X12_isIn wm_X12_1 ws_X12_isIn dX12_lawful_20 rfl (Nat.le_of_ble_eq_true rfl) ⟨by decide, by decide, by decide, by decide⟩) (fun r5340 u5341 h5339 => ?_)
    rcases h5339 with ⟨c5342, rfl, rfl⟩ | ⟨c5343, rfl, rfl⟩
    · refine z_if_eq_t (tgt := 36) b dX12_lawful_23 (by decide) (by decide) ?_
      refine z_iconst (v := (-1)) b dX12_lawful_36 (by decide) ?_
      exact z_iret (u := S) b rfl dX12_lawful_37 ⟨rfl, rfl⟩ rfl (by decide) (by decide)
    · refine z_if_eq_f (tgt := 36) b dX12_lawful_23 (by decide) (by decide) ?_
      refine z_iload b dX12_lawful_26 rfl ?_
      refine z_iconst (v := 0) b dX12_lawful_28 (by decide) ?_
      refine z_iconst (v := 1) b dX12_lawful_29 (by decide) ?_
      refine z_calli b (z_runS (As := [.int p2, .int 0, .int 1]) (st := []) b (c_X12_isIn_8 S p2 ) cf_X12_isIn wm_X12_1 ws_X12_isIn dX12_lawful_30 rfl (Nat.le_of_ble_eq_true rfl) ⟨by decide, by decide, by decide, by decide⟩) (fun r5345 u5346 h5344 => ?_)
      rcases h5344 with ⟨c5347, rfl, rfl⟩ | ⟨c5348, rfl, rfl⟩
      · refine z_if_ne_f (tgt := 38) b dX12_lawful_33 (by decide) (by decide) ?_
        refine z_iconst (v := (-1)) b dX12_lawful_36 (by decide) ?_
        exact z_iret (u := S) b rfl dX12_lawful_37 ⟨rfl, rfl⟩ rfl (by decide) (by decide)
      · exfalso; omega

set_option maxHeartbeats 4000000 in
set_option maxRecDepth 100000 in
theorem c_X9_copy {l : Launch} {D : va_G} {cy : Nat → ClassId} {T0 tB tE : Nat} {a : Nat → Nat} {rw : Nat → Option Nat} (S : GS)   : Ct l D cy T0 tB tE yX9_copy cX9_copy 2 none 1 40 0 0 (cw cy tE a rw S) [.ref (a 23), .ref (a 14)] (QV D (U := GS) (fun u => sa S 8 (va_cpy (ar S 4) (ar S 8) 0 0 51) = u) (cw cy tE a rw)) := by
  refine Ct.ofZ RX9 "copy" [(0, .ref (a 23)), (1, .ref (a 14))] rfl rfl rfl rfl (Nat.le_of_ble_eq_true rfl) ?_
  intro p e R s m args below meth c A b
  refine z_aload_n b dX9_copy_0 rfl rfl ?_
  refine z_get (q0 := 14) (k9 := 0) (v := .ref (a 15)) b (cw_14 cy tE a rw S) rfl in_X9 (by decide) wf_X9_11 rfl dX9_copy_1 ?_
  refine z_iconst (v := 0) b dX9_copy_4 (by decide) ?_
  refine z_aload_n b dX9_copy_5 rfl rfl ?_
  refine z_get (q0 := 23) (k9 := 0) (v := .ref (a 24)) b (cw_23 cy tE a rw S) rfl in_X9 (by decide) wf_X9_11 rfl dX9_copy_6 ?_
  refine z_iconst (v := 0) b dX9_copy_9 (by decide) ?_
  refine z_aload_n b dX9_copy_10 rfl rfl ?_
  refine z_get (q0 := 23) (k9 := 0) (v := .ref (a 24)) b (cw_23 cy tE a rw S) rfl in_X9 (by decide) wf_X9_11 rfl dX9_copy_11 ?_
  refine z_alen (q0 := 24) (t0 := 0) (v := 51) b (cw_24 cy tE a rw S) rfl rfl dX9_copy_14 ?_
  refine z_copyi (q0 := 15) (q1 := 24) (j0 := 0) (j1 := 0) (jn := 51) b wm_X9_26 wn_arraycopy ws_arraycopy wi_System (cw_15 cy tE a rw S) (cw_24 cy tE a rw S) (by decide) (by decide) (by decide) (by decide) (by decide) (by decide) (by decide +kernel) dX9_copy_15 (cwf_24 cy tE a rw S _) ?_
  exact z_vret (u := (sa S 8 (va_cpy (ar S 4) (ar S 8) 0 0 51))) b rfl dX9_copy_18 rfl rfl (by decide) (by decide)

set_option maxHeartbeats 4000000 in
set_option maxRecDepth 100000 in
theorem c_X2_follow {l : Launch} {D : va_G} {cy : Nat → ClassId} {T0 tB tE : Nat} {a : Nat → Nat} {rw : Nat → Option Nat} (S : GS) (p0 : Int32) (p1 : Int32) (h_i_14 : fi S 14 = (-1)) (h_i_27 : fi S 27 = 0) : Ct l D cy T0 tB tE yX2_follow cX2_follow 6 (some .int) 2 61 0 0 (cw cy tE a rw S) [.ref (a 16), .ref (a 36), .ref (a 14), .int p0, .int p1] (QI D (U := GS) (fun r u => 0 = r ∧ sa S 8 (va_cpy (ar S 4) (ar S 8) 0 0 51) = u) (cw cy tE a rw)) := by
  refine Ct.ofZ RX2 "follow" [(0, .ref (a 16)), (1, .ref (a 36)), (2, .ref (a 14)), (3, .int p0), (4, .int p1)] rfl rfl rfl rfl (Nat.le_of_ble_eq_true rfl) ?_
  intro p e R s m args below meth c A b
  refine z_aload_n b dX2_follow_0 rfl rfl ?_
  refine z_get (q0 := 16) (k9 := 3) (v := .ref (a 23)) b (cw_16 cy tE a rw S) rfl in_X2 (by decide) wf_X2_25 rfl dX2_follow_1 ?_
  refine z_aload_n b dX2_follow_4 rfl rfl ?_
  refine z_callv b (z_runV (q0 := 23) (As := [.ref (a 14)]) (st := []) b (c_X9_copy S ) cf_X9_copy (cw_23 cy tE a rw S) rfl wm_X2_80 wi_X9_copy ws_X9_copy dX2_follow_5 rfl (Nat.le_of_ble_eq_true rfl) ⟨by decide, by decide, by decide, by decide⟩) (fun u5367 h5365 => ?_)
  obtain rfl := h5365
  refine z_aload_n b dX2_follow_8 rfl rfl ?_
  refine z_iconst (v := (-1)) b dX2_follow_9 (by decide) ?_
  refine z_put (q0 := 16) (k9 := 4) tyX2 b (cw_16 cy tE a rw (sa S 8 (va_cpy (ar S 4) (ar S 8) 0 0 51))) rfl in_X2 tyX2_ok nmX2 (by decide) wf_X2_28 rfl rfl rfl rfl (Nat.le_of_ble_eq_true rfl) dX2_follow_10 ((cwp_16_4 cy tE a rw (sa S 8 (va_cpy (ar S 4) (ar S 8) 0 0 51)) (-1)).trans (congrArg (cw cy tE a rw) (si_same h_i_14))) ?_
  refine z_iconst (v := 0) b dX2_follow_13 (by decide) ?_
  refine z_istore (lv' := [(5, .int 0), (0, .ref (a 16)), (1, .ref (a 36)), (2, .ref (a 14)), (3, .int p0), (4, .int p1)]) b dX2_follow_14 (by decide) rfl ?_
  refine z_iload b dX2_follow_16 rfl ?_
  refine z_aload_n b dX2_follow_18 rfl rfl ?_
  refine z_get (q0 := 36) (k9 := 1) (v := .int (fi (sa S 8 (va_cpy (ar S 4) (ar S 8) 0 0 51)) 27)) b (cw_36 cy tE a rw (sa S 8 (va_cpy (ar S 4) (ar S 8) 0 0 51))) rfl in_X7 (by decide) wf_X2_108 rfl dX2_follow_19 ?_
  refine z_eqi h_i_27 ?_
  refine z_icmp_ge_t (tgt := 74) b dX2_follow_22 (by decide) (by decide) ?_
  refine z_aload_n b dX2_follow_74 rfl rfl ?_
  refine z_get (q0 := 36) (k9 := 1) (v := .int (fi (sa S 8 (va_cpy (ar S 4) (ar S 8) 0 0 51)) 27)) b (cw_36 cy tE a rw (sa S 8 (va_cpy (ar S 4) (ar S 8) 0 0 51))) rfl in_X7 (by decide) wf_X2_108 rfl dX2_follow_75 ?_
  refine z_eqi h_i_27 ?_
  exact z_iret (u := (sa S 8 (va_cpy (ar S 4) (ar S 8) 0 0 51))) b rfl dX2_follow_78 ⟨rfl, rfl⟩ rfl (by decide) (by decide)

set_option maxHeartbeats 4000000 in
set_option maxRecDepth 100000 in
theorem c_X11_lawful_28 {l : Launch} {D : va_G} {cy : Nat → ClassId} {T0 tB tE : Nat} {a : Nat → Nat} {rw : Nat → Option Nat} (S : GS) (p0 : Int32) (p1 : Int32) (h_i_14 : fi S 14 = (-1)) (h_i_27 : fi S 27 = 0) (hrw : ∀ i, i < 6 → rw i = some (a (36 + 2 * i))) (hr_p0 : 1 ≤ p0.toInt ∧ p0.toInt ≤ 3) (hr_p1 : 0 ≤ p1.toInt ∧ p1.toInt ≤ 31) : Ct l D cy T0 tB tE yX11_lawful cX11_lawful 6 (some .int) 3 86 0 0 (cw cy tE a rw S) [.ref (a 0), .int 0, .int p0, .int p1, .int 0] (QI D (U := GS) (fun r u => ((((((p0.toInt < 1)) ∨ ((1 ≤ p0.toInt) ∧ (3 < p0.toInt)))) ∨ (((1 ≤ p0.toInt) ∧ (p0.toInt ≤ 3)) ∧ (((p1.toInt < 0)) ∨ ((0 ≤ p1.toInt) ∧ (31 < p1.toInt))))) ∧ (-1) = r ∧ S = u) ∨ ((((1 ≤ p0.toInt) ∧ (p0.toInt ≤ 3)) ∧ ((0 ≤ p1.toInt) ∧ (p1.toInt ≤ 31))) ∧ 0 = r ∧ sa S 8 (va_cpy (ar S 4) (ar S 8) 0 0 51) = u)) (cw cy tE a rw)) := by
  refine Ct.ofZ RX11 "lawful" [(0, .ref (a 0)), (1, .int 0), (2, .int p0), (3, .int p1), (4, .int 0)] rfl rfl rfl rfl (Nat.le_of_ble_eq_true rfl) ?_
  intro p e R s m args below meth c A b
  refine z_iload_n b dX11_lawful_0 rfl rfl ?_
  refine z_calli b (z_runS (As := [.int 0]) (st := []) b (c_X11_isRow_2 S ) cf_X11_isRow wm_X11_169 ws_X11_isRow dX11_lawful_1 rfl (Nat.le_of_ble_eq_true rfl) ⟨by decide, by decide, by decide, by decide⟩) (fun r5350 u5351 h5349 => ?_)
  obtain ⟨rfl, rfl⟩ := h5349
  refine z_if_eq_f (tgt := 32) b dX11_lawful_4 (by decide) (by decide) ?_
  refine z_iload_n b dX11_lawful_7 rfl rfl ?_
  refine z_calli b (z_runS (As := [.int p0]) (st := []) b (c_X11_areLaws S p0 ) cf_X11_areLaws wm_X11_181 ws_X11_areLaws dX11_lawful_8 rfl (Nat.le_of_ble_eq_true rfl) ⟨by decide, by decide, by decide, by decide⟩) (fun r5353 u5354 h5352 => ?_)
  rcases h5352 with ⟨c5355, rfl, rfl⟩ | ⟨c5356, rfl, rfl⟩
  · refine z_if_eq_t (tgt := 32) b dX11_lawful_11 (by decide) (by decide) ?_
    refine z_iconst (v := (-1)) b dX11_lawful_32 (by decide) ?_
    exact z_iret (u := S) b rfl dX11_lawful_33 (Or.inl ⟨(Or.inl c5355), rfl, rfl⟩) rfl (by decide) (by decide)
  · refine z_if_eq_f (tgt := 32) b dX11_lawful_11 (by decide) (by decide) ?_
    refine z_iload_n b dX11_lawful_14 rfl rfl ?_
    refine z_bipush (v := 31) b dX11_lawful_15 (by decide) ?_
    refine z_calli b (z_runS (As := [.int p1, .int 31]) (st := []) b (c_X11_isWithin_11 S p1 ) cf_X11_isWithin wm_X11_73 ws_X11_isWithin dX11_lawful_17 rfl (Nat.le_of_ble_eq_true rfl) ⟨by decide, by decide, by decide, by decide⟩) (fun r5358 u5359 h5357 => ?_)
    rcases h5357 with ⟨c5360, rfl, rfl⟩ | ⟨c5361, rfl, rfl⟩
    · refine z_if_eq_t (tgt := 32) b dX11_lawful_20 (by decide) (by decide) ?_
      refine z_iconst (v := (-1)) b dX11_lawful_32 (by decide) ?_
      exact z_iret (u := S) b rfl dX11_lawful_33 (Or.inl ⟨(Or.inr ⟨c5356, c5360⟩), rfl, rfl⟩) rfl (by decide) (by decide)
    · refine z_if_eq_f (tgt := 32) b dX11_lawful_20 (by decide) (by decide) ?_
      refine z_iload b dX11_lawful_23 rfl ?_
      refine z_iconst (v := 1) b dX11_lawful_25 (by decide) ?_
      refine z_calli b (z_runS (As := [.int 0, .int 1]) (st := []) b (c_X11_isWithin_5 S ) cf_X11_isWithin wm_X11_73 ws_X11_isWithin dX11_lawful_26 rfl (Nat.le_of_ble_eq_true rfl) ⟨by decide, by decide, by decide, by decide⟩) (fun r5363 u5364 h5362 => ?_)
      obtain ⟨rfl, rfl⟩ := h5362
      refine z_if_ne_t (tgt := 34) b dX11_lawful_29 (by decide) (by decide) ?_
      refine z_aload_n b dX11_lawful_34 rfl rfl ?_
      refine z_get (q0 := 0) (k9 := 5) (v := .ref (a 16)) b (cw_0 cy tE a rw S) rfl in_X11 (by decide) wf_X11_43 rfl dX11_lawful_35 ?_
      refine z_aload_n b dX11_lawful_38 rfl rfl ?_
      refine z_get (q0 := 0) (k9 := 7) (v := .ref (a 35)) b (cw_0 cy tE a rw S) rfl in_X11 (by decide) wf_X11_58 rfl dX11_lawful_39 ?_
      refine z_iload_n b dX11_lawful_42 rfl rfl ?_
      refine y_aald (q0 := 35) (t0 := 4) (j := 0) (v := .ref (a 36)) b (cw_35 cy tE a rw S) rfl (by decide) (by rw [hrw 0 (by decide)]; rfl) dX11_lawful_43 ?_
      refine z_aload_n b dX11_lawful_44 rfl rfl ?_
      refine z_get (q0 := 0) (k9 := 4) (v := .ref (a 14)) b (cw_0 cy tE a rw S) rfl in_X11 (by decide) wf_X11_34 rfl dX11_lawful_45 ?_
      refine z_iload_n b dX11_lawful_48 rfl rfl ?_
      refine z_iload_n b dX11_lawful_49 rfl rfl ?_
      refine z_calli b (z_runV (q0 := 16) (As := [.ref (a 36), .ref (a 14), .int p0, .int p1]) (st := []) b (c_X2_follow S p0 p1 h_i_14 h_i_27) cf_X2_follow (cw_16 cy tE a rw S) rfl wm_X11_184 wi_X2_follow ws_X2_follow dX11_lawful_50 rfl (Nat.le_of_ble_eq_true rfl) ⟨by decide, by decide, by decide, by decide⟩) (fun r5369 u5370 h5368 => ?_)
      obtain ⟨rfl, rfl⟩ := h5368
      refine z_istore (lv' := [(5, .int 0), (0, .ref (a 0)), (1, .int 0), (2, .int p0), (3, .int p1), (4, .int 0)]) b dX11_lawful_53 (by decide) rfl ?_
      refine z_iload b dX11_lawful_55 rfl ?_
      refine z_if_ne_f (tgt := 65) b dX11_lawful_57 (by decide) (by decide) ?_
      refine z_iload b dX11_lawful_60 rfl ?_
      refine z_goto (tgt := 72) b dX11_lawful_62 (by decide) ?_
      exact z_iret (u := (sa S 8 (va_cpy (ar S 4) (ar S 8) 0 0 51))) b rfl dX11_lawful_72 (Or.inr ⟨⟨c5356, c5361⟩, rfl, rfl⟩) rfl (by decide) (by decide)

set_option maxHeartbeats 4000000 in
set_option maxRecDepth 100000 in
theorem c_X12_goes {l : Launch} {D : va_G} {cy : Nat → ClassId} {T0 tB tE : Nat} {a : Nat → Nat} (S : GS) (p0 : Int32) (p1 : Int32) (h_l_0 : fl S 0 = 1649317774848) (h_a_38_0 : ar S 38 0 = 0) : Ct l D cy T0 tB tE yX12_goes cX12_goes 5 (some .int) 0 0 0 0 (mw cy a S) [.ref (a 0), .int 0, .int p0, .int p1] (QI D (U := GS) (fun r u => 0 = r ∧ si (sl S 2 1649317774848) 24 (-1) = u) (mw cy a)) := by
  refine Ct.ofZ RX12 "goes" [(0, .ref (a 0)), (1, .int 0), (2, .int p0), (3, .int p1)] rfl rfl rfl rfl (Nat.le_of_ble_eq_true rfl) ?_
  intro p e R s m args below meth c A b
  refine z_aload_n b dX12_goes_0 rfl rfl ?_
  refine z_aload_n b dX12_goes_1 rfl rfl ?_
  refine z_get (q0 := 0) (k9 := 6) (v := .long (fl S 0)) b (mw_0 cy a S) rfl in_X12 (by decide) wf_X12_153 rfl dX12_goes_2 ?_
  refine z_eql h_l_0 ?_
  refine z_put (q0 := 0) (k9 := 68) tyX12 b (mw_0 cy a S) rfl in_X12 tyX12_ok nmX12 (by decide) wf_X12_458 rfl rfl rfl rfl (Nat.le_of_ble_eq_true rfl) dX12_goes_5 (mwp_0_68 cy a S 1649317774848) ?_
  refine z_aload_n b dX12_goes_8 rfl rfl ?_
  refine z_iconst (v := (-1)) b dX12_goes_9 (by decide) ?_
  refine z_put (q0 := 0) (k9 := 69) tyX12 b (mw_0 cy a (sl S 2 1649317774848)) rfl in_X12 tyX12_ok nmX12 (by decide) wf_X12_461 rfl rfl rfl rfl (Nat.le_of_ble_eq_true rfl) dX12_goes_10 (mwp_0_69 cy a (sl S 2 1649317774848) (-1)) ?_
  refine z_iconst (v := 0) b dX12_goes_13 (by decide) ?_
  refine z_istore (lv' := [(4, .int 0), (0, .ref (a 0)), (1, .int 0), (2, .int p0), (3, .int p1)]) b dX12_goes_14 (by decide) rfl ?_
  refine z_iload b dX12_goes_16 rfl ?_
  refine z_aload_n b dX12_goes_18 rfl rfl ?_
  refine z_get (q0 := 0) (k9 := 66) (v := .ref (a 41)) b (mw_0 cy a (si (sl S 2 1649317774848) 24 (-1))) rfl in_X12 (by decide) wf_X12_140 rfl dX12_goes_19 ?_
  refine z_iload_n b dX12_goes_22 rfl rfl ?_
  refine y_iald (q0 := 41) (j := 0) (v := (ar (si (sl S 2 1649317774848) 24 (-1)) 38 0)) b (mw_41 cy a (si (sl S 2 1649317774848) 24 (-1))) (by decide) rfl dX12_goes_23 ?_
  refine z_eqi h_a_38_0 ?_
  refine z_icmp_ge_t (tgt := 78) b dX12_goes_24 (by decide) (by decide) ?_
  refine z_aload_n b dX12_goes_78 rfl rfl ?_
  refine z_get (q0 := 0) (k9 := 66) (v := .ref (a 41)) b (mw_0 cy a (si (sl S 2 1649317774848) 24 (-1))) rfl in_X12 (by decide) wf_X12_140 rfl dX12_goes_79 ?_
  refine z_iload_n b dX12_goes_82 rfl rfl ?_
  refine y_iald (q0 := 41) (j := 0) (v := (ar (si (sl S 2 1649317774848) 24 (-1)) 38 0)) b (mw_41 cy a (si (sl S 2 1649317774848) 24 (-1))) (by decide) rfl dX12_goes_83 ?_
  refine z_eqi h_a_38_0 ?_
  exact z_iret (u := (si (sl S 2 1649317774848) 24 (-1))) b rfl dX12_goes_84 ⟨rfl, rfl⟩ rfl (by decide) (by decide)

set_option maxHeartbeats 4000000 in
set_option maxRecDepth 100000 in
theorem c_X12_lawful_28 {l : Launch} {D : va_G} {cy : Nat → ClassId} {T0 tB tE : Nat} {a : Nat → Nat} (S : GS) (p0 : Int32) (p1 : Int32) (h_l_0 : fl S 0 = 1649317774848) (h_a_38_0 : ar S 38 0 = 0) (hr_p0 : 1 ≤ p0.toInt ∧ p0.toInt ≤ 3) (hr_p1 : 0 ≤ p1.toInt ∧ p1.toInt ≤ 31) : Ct l D cy T0 tB tE yX12_lawful cX12_lawful 6 (some .int) 2 42 0 0 (mw cy a S) [.ref (a 0), .int 0, .int p0, .int p1, .int 0] (QI D (U := GS) (fun r u => ((((((p0.toInt < 1)) ∨ ((1 ≤ p0.toInt) ∧ (3 < p0.toInt)))) ∨ (((1 ≤ p0.toInt) ∧ (p0.toInt ≤ 3)) ∧ (((p1.toInt < 0)) ∨ ((0 ≤ p1.toInt) ∧ (31 < p1.toInt))))) ∧ (-1) = r ∧ S = u) ∨ ((((1 ≤ p0.toInt) ∧ (p0.toInt ≤ 3)) ∧ ((0 ≤ p1.toInt) ∧ (p1.toInt ≤ 31))) ∧ 0 = r ∧ si (sl S 2 1649317774848) 24 (-1) = u)) (mw cy a)) := by
  refine Ct.ofZ RX12 "lawful" [(0, .ref (a 0)), (1, .int 0), (2, .int p0), (3, .int p1), (4, .int 0)] rfl rfl rfl rfl (Nat.le_of_ble_eq_true rfl) ?_
  intro p e R s m args below meth c A b
  refine z_iload_n b dX12_lawful_0 rfl rfl ?_
  refine z_calli b (z_runS (As := [.int 0]) (st := []) b (c_X12_isRow_2 S ) cf_X12_isRow wm_X12_452 ws_X12_isRow dX12_lawful_1 rfl (Nat.le_of_ble_eq_true rfl) ⟨by decide, by decide, by decide, by decide⟩) (fun r5372 u5373 h5371 => ?_)
  obtain ⟨rfl, rfl⟩ := h5371
  refine z_if_eq_f (tgt := 36) b dX12_lawful_4 (by decide) (by decide) ?_
  refine z_iload_n b dX12_lawful_7 rfl rfl ?_
  refine z_iconst (v := 1) b dX12_lawful_8 (by decide) ?_
  refine z_iconst (v := 3) b dX12_lawful_9 (by decide) ?_
  refine z_calli b (z_runS (As := [.int p0, .int 1, .int 3]) (st := []) b (c_X12_isIn_35 S p0 ) cf_X12_isIn wm_X12_1 ws_X12_isIn dX12_lawful_10 rfl (Nat.le_of_ble_eq_true rfl) ⟨by decide, by decide, by decide, by decide⟩) (fun r5375 u5376 h5374 => ?_)
  rcases h5374 with ⟨c5377, rfl, rfl⟩ | ⟨c5378, rfl, rfl⟩
  · refine z_if_eq_t (tgt := 36) b dX12_lawful_13 (by decide) (by decide) ?_
    refine z_iconst (v := (-1)) b dX12_lawful_36 (by decide) ?_
    exact z_iret (u := S) b rfl dX12_lawful_37 (Or.inl ⟨(Or.inl c5377), rfl, rfl⟩) rfl (by decide) (by decide)
  · refine z_if_eq_f (tgt := 36) b dX12_lawful_13 (by decide) (by decide) ?_
    refine z_iload_n b dX12_lawful_16 rfl rfl ?_
    refine z_iconst (v := 0) b dX12_lawful_17 (by decide) ?_
    refine z_bipush (v := 31) b dX12_lawful_18 (by decide) ?_
    refine z_calli b (z_runS (As := [.int p1, .int 0, .int 31]) (st := []) b (c_X12_isIn_36 S p1 ) cf_X12_isIn wm_X12_1 ws_X12_isIn dX12_lawful_20 rfl (Nat.le_of_ble_eq_true rfl) ⟨by decide, by decide, by decide, by decide⟩) (fun r5380 u5381 h5379 => ?_)
    rcases h5379 with ⟨c5382, rfl, rfl⟩ | ⟨c5383, rfl, rfl⟩
    · refine z_if_eq_t (tgt := 36) b dX12_lawful_23 (by decide) (by decide) ?_
      refine z_iconst (v := (-1)) b dX12_lawful_36 (by decide) ?_
      exact z_iret (u := S) b rfl dX12_lawful_37 (Or.inl ⟨(Or.inr ⟨c5378, c5382⟩), rfl, rfl⟩) rfl (by decide) (by decide)
    · refine z_if_eq_f (tgt := 36) b dX12_lawful_23 (by decide) (by decide) ?_
      refine z_iload b dX12_lawful_26 rfl ?_
      refine z_iconst (v := 0) b dX12_lawful_28 (by decide) ?_
      refine z_iconst (v := 1) b dX12_lawful_29 (by decide) ?_
      refine z_calli b (z_runS (As := [.int 0, .int 0, .int 1]) (st := []) b (c_X12_isIn_9 S ) cf_X12_isIn wm_X12_1 ws_X12_isIn dX12_lawful_30 rfl (Nat.le_of_ble_eq_true rfl) ⟨by decide, by decide, by decide, by decide⟩) (fun r5385 u5386 h5384 => ?_)
      obtain ⟨rfl, rfl⟩ := h5384
      refine z_if_ne_t (tgt := 38) b dX12_lawful_33 (by decide) (by decide) ?_
      refine z_aload_n b dX12_lawful_38 rfl rfl ?_
      refine z_iload_n b dX12_lawful_39 rfl rfl ?_
      refine z_iload_n b dX12_lawful_40 rfl rfl ?_
      refine z_iload_n b dX12_lawful_41 rfl rfl ?_
      refine z_calli b (z_runV (q0 := 0) (As := [.int 0, .int p0, .int p1]) (st := []) b (c_X12_goes S p0 p1 h_l_0 h_a_38_0) cf_X12_goes (mw_0 cy a S) rfl wm_X12_464 wi_X12_goes ws_X12_goes dX12_lawful_42 rfl (Nat.le_of_ble_eq_true rfl) ⟨by decide, by decide, by decide, by decide⟩) (fun r5388 u5389 h5387 => ?_)
      obtain ⟨rfl, rfl⟩ := h5387
      refine z_istore (lv' := [(5, .int 0), (0, .ref (a 0)), (1, .int 0), (2, .int p0), (3, .int p1), (4, .int 0)]) b dX12_lawful_45 (by decide) rfl ?_
      refine z_iload b dX12_lawful_47 rfl ?_
      refine z_if_ne_f (tgt := 57) b dX12_lawful_49 (by decide) (by decide) ?_
      refine z_iload b dX12_lawful_52 rfl ?_
      refine z_goto (tgt := 61) b dX12_lawful_54 (by decide) ?_
      exact z_iret (u := (si (sl S 2 1649317774848) 24 (-1))) b rfl dX12_lawful_61 (Or.inr ⟨⟨c5378, c5383⟩, rfl, rfl⟩) rfl (by decide) (by decide)

set_option maxHeartbeats 4000000 in
set_option maxRecDepth 100000 in
theorem c_X11_lawful_29 {l : Launch} {D : va_G} {cy : Nat → ClassId} {T0 tB tE : Nat} {a : Nat → Nat} {rw : Nat → Option Nat} (S : GS) (p0 : Int32) (p1 : Int32) (h_i_14 : fi S 14 = (-1)) (h_i_27 : fi S 27 = 0) (hrw : ∀ i, i < 6 → rw i = some (a (36 + 2 * i))) (hr_p0 : 1 ≤ p0.toInt ∧ p0.toInt ≤ 3) (hr_p1 : 0 ≤ p1.toInt ∧ p1.toInt ≤ 31) : Ct l D cy T0 tB tE yX11_lawful cX11_lawful 6 (some .int) 3 86 0 0 (cw cy tE a rw S) [.ref (a 0), .int 0, .int p0, .int p1, .int 1] (QI D (U := GS) (fun r u => ((((((p0.toInt < 1)) ∨ ((1 ≤ p0.toInt) ∧ (3 < p0.toInt)))) ∨ (((1 ≤ p0.toInt) ∧ (p0.toInt ≤ 3)) ∧ (((p1.toInt < 0)) ∨ ((0 ≤ p1.toInt) ∧ (31 < p1.toInt))))) ∧ (-1) = r ∧ S = u) ∨ ((((1 ≤ p0.toInt) ∧ (p0.toInt ≤ 3)) ∧ ((0 ≤ p1.toInt) ∧ (p1.toInt ≤ 31))) ∧ (-1) = r ∧ sa S 8 (va_cpy (ar S 4) (ar S 8) 0 0 51) = u)) (cw cy tE a rw)) := by
  refine Ct.ofZ RX11 "lawful" [(0, .ref (a 0)), (1, .int 0), (2, .int p0), (3, .int p1), (4, .int 1)] rfl rfl rfl rfl (Nat.le_of_ble_eq_true rfl) ?_
  intro p e R s m args below meth c A b
  refine z_iload_n b dX11_lawful_0 rfl rfl ?_
  refine z_calli b (z_runS (As := [.int 0]) (st := []) b (c_X11_isRow_2 S ) cf_X11_isRow wm_X11_169 ws_X11_isRow dX11_lawful_1 rfl (Nat.le_of_ble_eq_true rfl) ⟨by decide, by decide, by decide, by decide⟩) (fun r5391 u5392 h5390 => ?_)
  obtain ⟨rfl, rfl⟩ := h5390
  refine z_if_eq_f (tgt := 32) b dX11_lawful_4 (by decide) (by decide) ?_
  refine z_iload_n b dX11_lawful_7 rfl rfl ?_
  refine z_calli b (z_runS (As := [.int p0]) (st := []) b (c_X11_areLaws S p0 ) cf_X11_areLaws wm_X11_181 ws_X11_areLaws dX11_lawful_8 rfl (Nat.le_of_ble_eq_true rfl) ⟨by decide, by decide, by decide, by decide⟩) (fun r5394 u5395 h5393 => ?_)
  rcases h5393 with ⟨c5396, rfl, rfl⟩ | ⟨c5397, rfl, rfl⟩
  · refine z_if_eq_t (tgt := 32) b dX11_lawful_11 (by decide) (by decide) ?_
    refine z_iconst (v := (-1)) b dX11_lawful_32 (by decide) ?_
    exact z_iret (u := S) b rfl dX11_lawful_33 (Or.inl ⟨(Or.inl c5396), rfl, rfl⟩) rfl (by decide) (by decide)
  · refine z_if_eq_f (tgt := 32) b dX11_lawful_11 (by decide) (by decide) ?_
    refine z_iload_n b dX11_lawful_14 rfl rfl ?_
    refine z_bipush (v := 31) b dX11_lawful_15 (by decide) ?_
    refine z_calli b (z_runS (As := [.int p1, .int 31]) (st := []) b (c_X11_isWithin_11 S p1 ) cf_X11_isWithin wm_X11_73 ws_X11_isWithin dX11_lawful_17 rfl (Nat.le_of_ble_eq_true rfl) ⟨by decide, by decide, by decide, by decide⟩) (fun r5399 u5400 h5398 => ?_)
    rcases h5398 with ⟨c5401, rfl, rfl⟩ | ⟨c5402, rfl, rfl⟩
    · refine z_if_eq_t (tgt := 32) b dX11_lawful_20 (by decide) (by decide) ?_
      refine z_iconst (v := (-1)) b dX11_lawful_32 (by decide) ?_
      exact z_iret (u := S) b rfl dX11_lawful_33 (Or.inl ⟨(Or.inr ⟨c5397, c5401⟩), rfl, rfl⟩) rfl (by decide) (by decide)
    · refine z_if_eq_f (tgt := 32) b dX11_lawful_20 (by decide) (by decide) ?_
      refine z_iload b dX11_lawful_23 rfl ?_
      refine z_iconst (v := 1) b dX11_lawful_25 (by decide) ?_
      refine z_calli b (z_runS (As := [.int 1, .int 1]) (st := []) b (c_X11_isWithin_6 S ) cf_X11_isWithin wm_X11_73 ws_X11_isWithin dX11_lawful_26 rfl (Nat.le_of_ble_eq_true rfl) ⟨by decide, by decide, by decide, by decide⟩) (fun r5404 u5405 h5403 => ?_)
      obtain ⟨rfl, rfl⟩ := h5403
      refine z_if_ne_t (tgt := 34) b dX11_lawful_29 (by decide) (by decide) ?_
      refine z_aload_n b dX11_lawful_34 rfl rfl ?_
      refine z_get (q0 := 0) (k9 := 5) (v := .ref (a 16)) b (cw_0 cy tE a rw S) rfl in_X11 (by decide) wf_X11_43 rfl dX11_lawful_35 ?_
      refine z_aload_n b dX11_lawful_38 rfl rfl ?_
      refine z_get (q0 := 0) (k9 := 7) (v := .ref (a 35)) b (cw_0 cy tE a rw S) rfl in_X11 (by decide) wf_X11_58 rfl dX11_lawful_39 ?_
      refine z_iload_n b dX11_lawful_42 rfl rfl ?_
      refine y_aald (q0 := 35) (t0 := 4) (j := 0) (v := .ref (a 36)) b (cw_35 cy tE a rw S) rfl (by decide) (by rw [hrw 0 (by decide)]; rfl) dX11_lawful_43 ?_
      refine z_aload_n b dX11_lawful_44 rfl rfl ?_
      refine z_get (q0 := 0) (k9 := 4) (v := .ref (a 14)) b (cw_0 cy tE a rw S) rfl in_X11 (by decide) wf_X11_34 rfl dX11_lawful_45 ?_
      refine z_iload_n b dX11_lawful_48 rfl rfl ?_
      refine z_iload_n b dX11_lawful_49 rfl rfl ?_
      refine z_calli b (z_runV (q0 := 16) (As := [.ref (a 36), .ref (a 14), .int p0, .int p1]) (st := []) b (c_X2_follow S p0 p1 h_i_14 h_i_27) cf_X2_follow (cw_16 cy tE a rw S) rfl wm_X11_184 wi_X2_follow ws_X2_follow dX11_lawful_50 rfl (Nat.le_of_ble_eq_true rfl) ⟨by decide, by decide, by decide, by decide⟩) (fun r5407 u5408 h5406 => ?_)
      obtain ⟨rfl, rfl⟩ := h5406
      refine z_istore (lv' := [(5, .int 0), (0, .ref (a 0)), (1, .int 0), (2, .int p0), (3, .int p1), (4, .int 1)]) b dX11_lawful_53 (by decide) rfl ?_
      refine z_iload b dX11_lawful_55 rfl ?_
      refine z_if_ne_t (tgt := 65) b dX11_lawful_57 (by decide) (by decide) ?_
      refine z_aload_n b dX11_lawful_65 rfl rfl ?_
      refine z_get (q0 := 0) (k9 := 5) (v := .ref (a 16)) b (cw_0 cy tE a rw (sa S 8 (va_cpy (ar S 4) (ar S 8) 0 0 51))) rfl in_X11 (by decide) wf_X11_43 rfl dX11_lawful_66 ?_
      refine z_get (q0 := 16) (k9 := 4) (v := .int (fi (sa S 8 (va_cpy (ar S 4) (ar S 8) 0 0 51)) 14)) b (cw_16 cy tE a rw (sa S 8 (va_cpy (ar S 4) (ar S 8) 0 0 51))) rfl in_X2 (by decide) wf_X11_188 rfl dX11_lawful_69 ?_
      refine z_eqi h_i_14 ?_
      exact z_iret (u := (sa S 8 (va_cpy (ar S 4) (ar S 8) 0 0 51))) b rfl dX11_lawful_72 (Or.inr ⟨⟨c5397, c5402⟩, rfl, rfl⟩) rfl (by decide) (by decide)

set_option maxHeartbeats 4000000 in
set_option maxRecDepth 100000 in
theorem c_X12_lawful_29 {l : Launch} {D : va_G} {cy : Nat → ClassId} {T0 tB tE : Nat} {a : Nat → Nat} (S : GS) (p0 : Int32) (p1 : Int32) (h_l_0 : fl S 0 = 1649317774848) (h_a_38_0 : ar S 38 0 = 0) (hr_p0 : 1 ≤ p0.toInt ∧ p0.toInt ≤ 3) (hr_p1 : 0 ≤ p1.toInt ∧ p1.toInt ≤ 31) : Ct l D cy T0 tB tE yX12_lawful cX12_lawful 6 (some .int) 2 42 0 0 (mw cy a S) [.ref (a 0), .int 0, .int p0, .int p1, .int 1] (QI D (U := GS) (fun r u => ((((((p0.toInt < 1)) ∨ ((1 ≤ p0.toInt) ∧ (3 < p0.toInt)))) ∨ (((1 ≤ p0.toInt) ∧ (p0.toInt ≤ 3)) ∧ (((p1.toInt < 0)) ∨ ((0 ≤ p1.toInt) ∧ (31 < p1.toInt))))) ∧ (-1) = r ∧ S = u) ∨ ((((1 ≤ p0.toInt) ∧ (p0.toInt ≤ 3)) ∧ ((0 ≤ p1.toInt) ∧ (p1.toInt ≤ 31))) ∧ (-1) = r ∧ si (sl S 2 1649317774848) 24 (-1) = u)) (mw cy a)) := by
  refine Ct.ofZ RX12 "lawful" [(0, .ref (a 0)), (1, .int 0), (2, .int p0), (3, .int p1), (4, .int 1)] rfl rfl rfl rfl (Nat.le_of_ble_eq_true rfl) ?_
  intro p e R s m args below meth c A b
  refine z_iload_n b dX12_lawful_0 rfl rfl ?_
  refine z_calli b (z_runS (As := [.int 0]) (st := []) b (c_X12_isRow_2 S ) cf_X12_isRow wm_X12_452 ws_X12_isRow dX12_lawful_1 rfl (Nat.le_of_ble_eq_true rfl) ⟨by decide, by decide, by decide, by decide⟩) (fun r5410 u5411 h5409 => ?_)
  obtain ⟨rfl, rfl⟩ := h5409
  refine z_if_eq_f (tgt := 36) b dX12_lawful_4 (by decide) (by decide) ?_
  refine z_iload_n b dX12_lawful_7 rfl rfl ?_
  refine z_iconst (v := 1) b dX12_lawful_8 (by decide) ?_
  refine z_iconst (v := 3) b dX12_lawful_9 (by decide) ?_
  refine z_calli b (z_runS (As := [.int p0, .int 1, .int 3]) (st := []) b (c_X12_isIn_35 S p0 ) cf_X12_isIn wm_X12_1 ws_X12_isIn dX12_lawful_10 rfl (Nat.le_of_ble_eq_true rfl) ⟨by decide, by decide, by decide, by decide⟩) (fun r5413 u5414 h5412 => ?_)
  rcases h5412 with ⟨c5415, rfl, rfl⟩ | ⟨c5416, rfl, rfl⟩
  · refine z_if_eq_t (tgt := 36) b dX12_lawful_13 (by decide) (by decide) ?_
    refine z_iconst (v := (-1)) b dX12_lawful_36 (by decide) ?_
    exact z_iret (u := S) b rfl dX12_lawful_37 (Or.inl ⟨(Or.inl c5415), rfl, rfl⟩) rfl (by decide) (by decide)
  · refine z_if_eq_f (tgt := 36) b dX12_lawful_13 (by decide) (by decide) ?_
    refine z_iload_n b dX12_lawful_16 rfl rfl ?_
    refine z_iconst (v := 0) b dX12_lawful_17 (by decide) ?_
    refine z_bipush (v := 31) b dX12_lawful_18 (by decide) ?_
    refine z_calli b (z_runS (As := [.int p1, .int 0, .int 31]) (st := []) b (c_X12_isIn_36 S p1 ) cf_X12_isIn wm_X12_1 ws_X12_isIn dX12_lawful_20 rfl (Nat.le_of_ble_eq_true rfl) ⟨by decide, by decide, by decide, by decide⟩) (fun r5418 u5419 h5417 => ?_)
    rcases h5417 with ⟨c5420, rfl, rfl⟩ | ⟨c5421, rfl, rfl⟩
    · refine z_if_eq_t (tgt := 36) b dX12_lawful_23 (by decide) (by decide) ?_
      refine z_iconst (v := (-1)) b dX12_lawful_36 (by decide) ?_
      exact z_iret (u := S) b rfl dX12_lawful_37 (Or.inl ⟨(Or.inr ⟨c5416, c5420⟩), rfl, rfl⟩) rfl (by decide) (by decide)
    · refine z_if_eq_f (tgt := 36) b dX12_lawful_23 (by decide) (by decide) ?_
      refine z_iload b dX12_lawful_26 rfl ?_
      refine z_iconst (v := 0) b dX12_lawful_28 (by decide) ?_
      refine z_iconst (v := 1) b dX12_lawful_29 (by decide) ?_
      refine z_calli b (z_runS (As := [.int 1, .int 0, .int 1]) (st := []) b (c_X12_isIn_10 S ) cf_X12_isIn wm_X12_1 ws_X12_isIn dX12_lawful_30 rfl (Nat.le_of_ble_eq_true rfl) ⟨by decide, by decide, by decide, by decide⟩) (fun r5423 u5424 h5422 => ?_)
      obtain ⟨rfl, rfl⟩ := h5422
      refine z_if_ne_t (tgt := 38) b dX12_lawful_33 (by decide) (by decide) ?_
      refine z_aload_n b dX12_lawful_38 rfl rfl ?_
      refine z_iload_n b dX12_lawful_39 rfl rfl ?_
      refine z_iload_n b dX12_lawful_40 rfl rfl ?_
      refine z_iload_n b dX12_lawful_41 rfl rfl ?_
      refine z_calli b (z_runV (q0 := 0) (As := [.int 0, .int p0, .int p1]) (st := []) b (c_X12_goes S p0 p1 h_l_0 h_a_38_0) cf_X12_goes (mw_0 cy a S) rfl wm_X12_464 wi_X12_goes ws_X12_goes dX12_lawful_42 rfl (Nat.le_of_ble_eq_true rfl) ⟨by decide, by decide, by decide, by decide⟩) (fun r5426 u5427 h5425 => ?_)
      obtain ⟨rfl, rfl⟩ := h5425
      refine z_istore (lv' := [(5, .int 0), (0, .ref (a 0)), (1, .int 0), (2, .int p0), (3, .int p1), (4, .int 1)]) b dX12_lawful_45 (by decide) rfl ?_
      refine z_iload b dX12_lawful_47 rfl ?_
      refine z_if_ne_t (tgt := 57) b dX12_lawful_49 (by decide) (by decide) ?_
      refine z_aload_n b dX12_lawful_57 rfl rfl ?_
      refine z_get (q0 := 0) (k9 := 69) (v := .int (-1)) b (mw_0 cy a (si (sl S 2 1649317774848) 24 (-1))) rfl in_X12 (by decide) wf_X12_461 rfl dX12_lawful_58 ?_
      exact z_iret (u := (si (sl S 2 1649317774848) 24 (-1))) b rfl dX12_lawful_61 (Or.inr ⟨⟨c5416, c5421⟩, rfl, rfl⟩) rfl (by decide) (by decide)

set_option maxHeartbeats 4000000 in
set_option maxRecDepth 100000 in
theorem c_X11_lawful_30 {l : Launch} {D : va_G} {cy : Nat → ClassId} {T0 tB tE : Nat} {a : Nat → Nat} {rw : Nat → Option Nat} (S : GS) (p0 : Int32) (p1 : Int32) (p2 : Int32)  (hr_p0 : 1 ≤ p0.toInt ∧ p0.toInt ≤ 3) (hr_p1 : 0 ≤ p1.toInt ∧ p1.toInt ≤ 31) (hr_p2 : 2 ≤ p2.toInt ∧ p2.toInt ≤ 2147483647) : Ct l D cy T0 tB tE yX11_lawful cX11_lawful 6 (some .int) 1 21 0 0 (cw cy tE a rw S) [.ref (a 0), .int 0, .int p0, .int p1, .int p2] (QI D (U := GS) (fun r u => (-1) = r ∧ S = u) (cw cy tE a rw)) := by
  refine Ct.ofZ RX11 "lawful" [(0, .ref (a 0)), (1, .int 0), (2, .int p0), (3, .int p1), (4, .int p2)] rfl rfl rfl rfl (Nat.le_of_ble_eq_true rfl) ?_
  intro p e R s m args below meth c A b
  refine z_iload_n b dX11_lawful_0 rfl rfl ?_
  refine z_calli b (z_runS (As := [.int 0]) (st := []) b (c_X11_isRow_2 S ) cf_X11_isRow wm_X11_169 ws_X11_isRow dX11_lawful_1 rfl (Nat.le_of_ble_eq_true rfl) ⟨by decide, by decide, by decide, by decide⟩) (fun r5429 u5430 h5428 => ?_)
  obtain ⟨rfl, rfl⟩ := h5428
  refine z_if_eq_f (tgt := 32) b dX11_lawful_4 (by decide) (by decide) ?_
  refine z_iload_n b dX11_lawful_7 rfl rfl ?_
  refine z_calli b (z_runS (As := [.int p0]) (st := []) b (c_X11_areLaws S p0 ) cf_X11_areLaws wm_X11_181 ws_X11_areLaws dX11_lawful_8 rfl (Nat.le_of_ble_eq_true rfl) ⟨by decide, by decide, by decide, by decide⟩) (fun r5432 u5433 h5431 => ?_)
  rcases h5431 with ⟨c5434, rfl, rfl⟩ | ⟨c5435, rfl, rfl⟩
  · refine z_if_eq_t (tgt := 32) b dX11_lawful_11 (by decide) (by decide) ?_
    refine z_iconst (v := (-1)) b dX11_lawful_32 (by decide) ?_
    exact z_iret (u := S) b rfl dX11_lawful_33 ⟨rfl, rfl⟩ rfl (by decide) (by decide)
  · refine z_if_eq_f (tgt := 32) b dX11_lawful_11 (by decide) (by decide) ?_
    refine z_iload_n b dX11_lawful_14 rfl rfl ?_
    refine z_bipush (v := 31) b dX11_lawful_15 (by decide) ?_
    refine z_calli b (z_runS (As := [.int p1, .int 31]) (st := []) b (c_X11_isWithin_11 S p1 ) cf_X11_isWithin wm_X11_73 ws_X11_isWithin dX11_lawful_17 rfl (Nat.le_of_ble_eq_true rfl) ⟨by decide, by decide, by decide, by decide⟩) (fun r5437 u5438 h5436 => ?_)
    rcases h5436 with ⟨c5439, rfl, rfl⟩ | ⟨c5440, rfl, rfl⟩
    · refine z_if_eq_t (tgt := 32) b dX11_lawful_20 (by decide) (by decide) ?_
      refine z_iconst (v := (-1)) b dX11_lawful_32 (by decide) ?_
      exact z_iret (u := S) b rfl dX11_lawful_33 ⟨rfl, rfl⟩ rfl (by decide) (by decide)
    · refine z_if_eq_f (tgt := 32) b dX11_lawful_20 (by decide) (by decide) ?_
      refine z_iload b dX11_lawful_23 rfl ?_
      refine z_iconst (v := 1) b dX11_lawful_25 (by decide) ?_
      refine z_calli b (z_runS (As := [.int p2, .int 1]) (st := []) b (c_X11_isWithin_4 S p2 ) cf_X11_isWithin wm_X11_73 ws_X11_isWithin dX11_lawful_26 rfl (Nat.le_of_ble_eq_true rfl) ⟨by decide, by decide, by decide, by decide⟩) (fun r5442 u5443 h5441 => ?_)
      rcases h5441 with ⟨c5444, rfl, rfl⟩ | ⟨c5445, rfl, rfl⟩
      · refine z_if_ne_f (tgt := 34) b dX11_lawful_29 (by decide) (by decide) ?_
        refine z_iconst (v := (-1)) b dX11_lawful_32 (by decide) ?_
        exact z_iret (u := S) b rfl dX11_lawful_33 ⟨rfl, rfl⟩ rfl (by decide) (by decide)
      · exfalso; omega

set_option maxHeartbeats 4000000 in
set_option maxRecDepth 100000 in
theorem c_X12_lawful_30 {l : Launch} {D : va_G} {cy : Nat → ClassId} {T0 tB tE : Nat} {a : Nat → Nat} (S : GS) (p0 : Int32) (p1 : Int32) (p2 : Int32)  (hr_p0 : 1 ≤ p0.toInt ∧ p0.toInt ≤ 3) (hr_p1 : 0 ≤ p1.toInt ∧ p1.toInt ≤ 31) (hr_p2 : 2 ≤ p2.toInt ∧ p2.toInt ≤ 2147483647) : Ct l D cy T0 tB tE yX12_lawful cX12_lawful 6 (some .int) 2 42 0 0 (mw cy a S) [.ref (a 0), .int 0, .int p0, .int p1, .int p2] (QI D (U := GS) (fun r u => (-1) = r ∧ S = u) (mw cy a)) := by
  refine Ct.ofZ RX12 "lawful" [(0, .ref (a 0)), (1, .int 0), (2, .int p0), (3, .int p1), (4, .int p2)] rfl rfl rfl rfl (Nat.le_of_ble_eq_true rfl) ?_
  intro p e R s m args below meth c A b
  refine z_iload_n b dX12_lawful_0 rfl rfl ?_
  refine z_calli b (z_runS (As := [.int 0]) (st := []) b (c_X12_isRow_2 S ) cf_X12_isRow wm_X12_452 ws_X12_isRow dX12_lawful_1 rfl (Nat.le_of_ble_eq_true rfl) ⟨by decide, by decide, by decide, by decide⟩) (fun r5447 u5448 h5446 => ?_)
  obtain ⟨rfl, rfl⟩ := h5446
  refine z_if_eq_f (tgt := 36) b dX12_lawful_4 (by decide) (by decide) ?_
  refine z_iload_n b dX12_lawful_7 rfl rfl ?_
  refine z_iconst (v := 1) b dX12_lawful_8 (by decide) ?_
  refine z_iconst (v := 3) b dX12_lawful_9 (by decide) ?_
  refine z_calli b (z_runS (As := [.int p0, .int 1, .int 3]) (st := []) b (c_X12_isIn_35 S p0 ) cf_X12_isIn wm_X12_1 ws_X12_isIn dX12_lawful_10 rfl (Nat.le_of_ble_eq_true rfl) ⟨by decide, by decide, by decide, by decide⟩) (fun r5450 u5451 h5449 => ?_)
  rcases h5449 with ⟨c5452, rfl, rfl⟩ | ⟨c5453, rfl, rfl⟩
  · refine z_if_eq_t (tgt := 36) b dX12_lawful_13 (by decide) (by decide) ?_
    refine z_iconst (v := (-1)) b dX12_lawful_36 (by decide) ?_
    exact z_iret (u := S) b rfl dX12_lawful_37 ⟨rfl, rfl⟩ rfl (by decide) (by decide)
  · refine z_if_eq_f (tgt := 36) b dX12_lawful_13 (by decide) (by decide) ?_
    refine z_iload_n b dX12_lawful_16 rfl rfl ?_
    refine z_iconst (v := 0) b dX12_lawful_17 (by decide) ?_
    refine z_bipush (v := 31) b dX12_lawful_18 (by decide) ?_
    refine z_calli b (z_runS (As := [.int p1, .int 0, .int 31]) (st := []) b (c_X12_isIn_36 S p1 ) cf_X12_isIn wm_X12_1 ws_X12_isIn dX12_lawful_20 rfl (Nat.le_of_ble_eq_true rfl) ⟨by decide, by decide, by decide, by decide⟩) (fun r5455 u5456 h5454 => ?_)
    rcases h5454 with ⟨c5457, rfl, rfl⟩ | ⟨c5458, rfl, rfl⟩
    · refine z_if_eq_t (tgt := 36) b dX12_lawful_23 (by decide) (by decide) ?_
      refine z_iconst (v := (-1)) b dX12_lawful_36 (by decide) ?_
      exact z_iret (u := S) b rfl dX12_lawful_37 ⟨rfl, rfl⟩ rfl (by decide) (by decide)
    · refine z_if_eq_f (tgt := 36) b dX12_lawful_23 (by decide) (by decide) ?_
      refine z_iload b dX12_lawful_26 rfl ?_
      refine z_iconst (v := 0) b dX12_lawful_28 (by decide) ?_
      refine z_iconst (v := 1) b dX12_lawful_29 (by decide) ?_
      refine z_calli b (z_runS (As := [.int p2, .int 0, .int 1]) (st := []) b (c_X12_isIn_8 S p2 ) cf_X12_isIn wm_X12_1 ws_X12_isIn dX12_lawful_30 rfl (Nat.le_of_ble_eq_true rfl) ⟨by decide, by decide, by decide, by decide⟩) (fun r5460 u5461 h5459 => ?_)
      rcases h5459 with ⟨c5462, rfl, rfl⟩ | ⟨c5463, rfl, rfl⟩
      · refine z_if_ne_f (tgt := 38) b dX12_lawful_33 (by decide) (by decide) ?_
        refine z_iconst (v := (-1)) b dX12_lawful_36 (by decide) ?_
        exact z_iret (u := S) b rfl dX12_lawful_37 ⟨rfl, rfl⟩ rfl (by decide) (by decide)
      · exfalso; omega

set_option maxHeartbeats 4000000 in
set_option maxRecDepth 100000 in
theorem c_X11_lawful_31 {l : Launch} {D : va_G} {cy : Nat → ClassId} {T0 tB tE : Nat} {a : Nat → Nat} {rw : Nat → Option Nat} (S : GS) (p0 : Int32) (p1 : Int32) (p2 : Int32)  (hr_p0 : 1 ≤ p0.toInt ∧ p0.toInt ≤ 3) (hr_p1 : 0 ≤ p1.toInt ∧ p1.toInt ≤ 31) (hr_p2 : (-2147483648) ≤ p2.toInt ∧ p2.toInt ≤ (-1)) : Ct l D cy T0 tB tE yX11_lawful cX11_lawful 6 (some .int) 1 21 0 0 (cw cy tE a rw S) [.ref (a 0), .int 1, .int p0, .int p1, .int p2] (QI D (U := GS) (fun r u => (-1) = r ∧ S = u) (cw cy tE a rw)) := by
  refine Ct.ofZ RX11 "lawful" [(0, .ref (a 0)), (1, .int 1), (2, .int p0), (3, .int p1), (4, .int p2)] rfl rfl rfl rfl (Nat.le_of_ble_eq_true rfl) ?_
  intro p e R s m args below meth c A b
  refine z_iload_n b dX11_lawful_0 rfl rfl ?_
  refine z_calli b (z_runS (As := [.int 1]) (st := []) b (c_X11_isRow_3 S ) cf_X11_isRow wm_X11_169 ws_X11_isRow dX11_lawful_1 rfl (Nat.le_of_ble_eq_true rfl) ⟨by decide, by decide, by decide, by decide⟩) (fun r5465 u5466 h5464 => ?_)
  obtain ⟨rfl, rfl⟩ := h5464
  refine z_if_eq_f (tgt := 32) b dX11_lawful_4 (by decide) (by decide) ?_
  refine z_iload_n b dX11_lawful_7 rfl rfl ?_
  refine z_calli b (z_runS (As := [.int p0]) (st := []) b (c_X11_areLaws S p0 ) cf_X11_areLaws wm_X11_181 ws_X11_areLaws dX11_lawful_8 rfl (Nat.le_of_ble_eq_true rfl) ⟨by decide, by decide, by decide, by decide⟩) (fun r5468 u5469 h5467 => ?_)
  rcases h5467 with ⟨c5470, rfl, rfl⟩ | ⟨c5471, rfl, rfl⟩
  · refine z_if_eq_t (tgt := 32) b dX11_lawful_11 (by decide) (by decide) ?_
    refine z_iconst (v := (-1)) b dX11_lawful_32 (by decide) ?_
    exact z_iret (u := S) b rfl dX11_lawful_33 ⟨rfl, rfl⟩ rfl (by decide) (by decide)
  · refine z_if_eq_f (tgt := 32) b dX11_lawful_11 (by decide) (by decide) ?_
    refine z_iload_n b dX11_lawful_14 rfl rfl ?_
    refine z_bipush (v := 31) b dX11_lawful_15 (by decide) ?_
    refine z_calli b (z_runS (As := [.int p1, .int 31]) (st := []) b (c_X11_isWithin_11 S p1 ) cf_X11_isWithin wm_X11_73 ws_X11_isWithin dX11_lawful_17 rfl (Nat.le_of_ble_eq_true rfl) ⟨by decide, by decide, by decide, by decide⟩) (fun r5473 u5474 h5472 => ?_)
    rcases h5472 with ⟨c5475, rfl, rfl⟩ | ⟨c5476, rfl, rfl⟩
    · refine z_if_eq_t (tgt := 32) b dX11_lawful_20 (by decide) (by decide) ?_
      refine z_iconst (v := (-1)) b dX11_lawful_32 (by decide) ?_
      exact z_iret (u := S) b rfl dX11_lawful_33 ⟨rfl, rfl⟩ rfl (by decide) (by decide)
    · refine z_if_eq_f (tgt := 32) b dX11_lawful_20 (by decide) (by decide) ?_
      refine z_iload b dX11_lawful_23 rfl ?_
      refine z_iconst (v := 1) b dX11_lawful_25 (by decide) ?_
      refine z_calli b (z_runS (As := [.int p2, .int 1]) (st := []) b (c_X11_isWithin_4 S p2 ) cf_X11_isWithin wm_X11_73 ws_X11_isWithin dX11_lawful_26 rfl (Nat.le_of_ble_eq_true rfl) ⟨by decide, by decide, by decide, by decide⟩) (fun r5478 u5479 h5477 => ?_)
      rcases h5477 with ⟨c5480, rfl, rfl⟩ | ⟨c5481, rfl, rfl⟩
      · refine z_if_ne_f (tgt := 34) b dX11_lawful_29 (by decide) (by decide) ?_
        refine z_iconst (v := (-1)) b dX11_lawful_32 (by decide) ?_
        exact z_iret (u := S) b rfl dX11_lawful_33 ⟨rfl, rfl⟩ rfl (by decide) (by decide)
      · exfalso; omega

set_option maxHeartbeats 4000000 in
set_option maxRecDepth 100000 in
theorem c_X12_lawful_31 {l : Launch} {D : va_G} {cy : Nat → ClassId} {T0 tB tE : Nat} {a : Nat → Nat} (S : GS) (p0 : Int32) (p1 : Int32) (p2 : Int32)  (hr_p0 : 1 ≤ p0.toInt ∧ p0.toInt ≤ 3) (hr_p1 : 0 ≤ p1.toInt ∧ p1.toInt ≤ 31) (hr_p2 : (-2147483648) ≤ p2.toInt ∧ p2.toInt ≤ (-1)) : Ct l D cy T0 tB tE yX12_lawful cX12_lawful 6 (some .int) 2 42 0 0 (mw cy a S) [.ref (a 0), .int 1, .int p0, .int p1, .int p2] (QI D (U := GS) (fun r u => (-1) = r ∧ S = u) (mw cy a)) := by
  refine Ct.ofZ RX12 "lawful" [(0, .ref (a 0)), (1, .int 1), (2, .int p0), (3, .int p1), (4, .int p2)] rfl rfl rfl rfl (Nat.le_of_ble_eq_true rfl) ?_
  intro p e R s m args below meth c A b
  refine z_iload_n b dX12_lawful_0 rfl rfl ?_
  refine z_calli b (z_runS (As := [.int 1]) (st := []) b (c_X12_isRow_3 S ) cf_X12_isRow wm_X12_452 ws_X12_isRow dX12_lawful_1 rfl (Nat.le_of_ble_eq_true rfl) ⟨by decide, by decide, by decide, by decide⟩) (fun r5483 u5484 h5482 => ?_)
  obtain ⟨rfl, rfl⟩ := h5482
  refine z_if_eq_f (tgt := 36) b dX12_lawful_4 (by decide) (by decide) ?_
  refine z_iload_n b dX12_lawful_7 rfl rfl ?_
  refine z_iconst (v := 1) b dX12_lawful_8 (by decide) ?_
  refine z_iconst (v := 3) b dX12_lawful_9 (by decide) ?_
  refine z_calli b (z_runS (As := [.int p0, .int 1, .int 3]) (st := []) b (c_X12_isIn_35 S p0 ) cf_X12_isIn wm_X12_1 ws_X12_isIn dX12_lawful_10 rfl (Nat.le_of_ble_eq_true rfl) ⟨by decide, by decide, by decide, by decide⟩) (fun r5486 u5487 h5485 => ?_)
  rcases h5485 with ⟨c5488, rfl, rfl⟩ | ⟨c5489, rfl, rfl⟩
  · refine z_if_eq_t (tgt := 36) b dX12_lawful_13 (by decide) (by decide) ?_
    refine z_iconst (v := (-1)) b dX12_lawful_36 (by decide) ?_
    exact z_iret (u := S) b rfl dX12_lawful_37 ⟨rfl, rfl⟩ rfl (by decide) (by decide)
  · refine z_if_eq_f (tgt := 36) b dX12_lawful_13 (by decide) (by decide) ?_
    refine z_iload_n b dX12_lawful_16 rfl rfl ?_
    refine z_iconst (v := 0) b dX12_lawful_17 (by decide) ?_
    refine z_bipush (v := 31) b dX12_lawful_18 (by decide) ?_
    refine z_calli b (z_runS (As := [.int p1, .int 0, .int 31]) (st := []) b (c_X12_isIn_36 S p1 ) cf_X12_isIn wm_X12_1 ws_X12_isIn dX12_lawful_20 rfl (Nat.le_of_ble_eq_true rfl) ⟨by decide, by decide, by decide, by decide⟩) (fun r5491 u5492 h5490 => ?_)
    rcases h5490 with ⟨c5493, rfl, rfl⟩ | ⟨c5494, rfl, rfl⟩
    · refine z_if_eq_t (tgt := 36) b dX12_lawful_23 (by decide) (by decide) ?_
      refine z_iconst (v := (-1)) b dX12_lawful_36 (by decide) ?_
      exact z_iret (u := S) b rfl dX12_lawful_37 ⟨rfl, rfl⟩ rfl (by decide) (by decide)
    · refine z_if_eq_f (tgt := 36) b dX12_lawful_23 (by decide) (by decide) ?_
      refine z_iload b dX12_lawful_26 rfl ?_
      refine z_iconst (v := 0) b dX12_lawful_28 (by decide) ?_
      refine z_iconst (v := 1) b dX12_lawful_29 (by decide) ?_
      refine z_calli b (z_runS (As := [.int p2, .int 0, .int 1]) (st := []) b (c_X12_isIn_8 S p2 ) cf_X12_isIn wm_X12_1 ws_X12_isIn dX12_lawful_30 rfl (Nat.le_of_ble_eq_true rfl) ⟨by decide, by decide, by decide, by decide⟩) (fun r5496 u5497 h5495 => ?_)
      rcases h5495 with ⟨c5498, rfl, rfl⟩ | ⟨c5499, rfl, rfl⟩
      · refine z_if_ne_f (tgt := 38) b dX12_lawful_33 (by decide) (by decide) ?_
        refine z_iconst (v := (-1)) b dX12_lawful_36 (by decide) ?_
        exact z_iret (u := S) b rfl dX12_lawful_37 ⟨rfl, rfl⟩ rfl (by decide) (by decide)
      · exfalso; omega

set_option maxHeartbeats 4000000 in
set_option maxRecDepth 100000 in
theorem c_X2_follow_2 {l : Launch} {D : va_G} {cy : Nat → ClassId} {T0 tB tE : Nat} {a : Nat → Nat} {rw : Nat → Option Nat} (S : GS) (p0 : Int32) (p1 : Int32) (h_i_14 : fi S 14 = (-1)) (h_i_29 : fi S 29 = 0) : Ct l D cy T0 tB tE yX2_follow cX2_follow 6 (some .int) 2 61 0 0 (cw cy tE a rw S) [.ref (a 16), .ref (a 38), .ref (a 14), .int p0, .int p1] (QI D (U := GS) (fun r u => 0 = r ∧ sa S 8 (va_cpy (ar S 4) (ar S 8) 0 0 51) = u) (cw cy tE a rw)) := by
  refine Ct.ofZ RX2 "follow" [(0, .ref (a 16)), (1, .ref (a 38)), (2, .ref (a 14)), (3, .int p0), (4, .int p1)] rfl rfl rfl rfl (Nat.le_of_ble_eq_true rfl) ?_
  intro p e R s m args below meth c A b
  refine z_aload_n b dX2_follow_0 rfl rfl ?_
  refine z_get (q0 := 16) (k9 := 3) (v := .ref (a 23)) b (cw_16 cy tE a rw S) rfl in_X2 (by decide) wf_X2_25 rfl dX2_follow_1 ?_
  refine z_aload_n b dX2_follow_4 rfl rfl ?_
  refine z_callv b (z_runV (q0 := 23) (As := [.ref (a 14)]) (st := []) b (c_X9_copy S ) cf_X9_copy (cw_23 cy tE a rw S) rfl wm_X2_80 wi_X9_copy ws_X9_copy dX2_follow_5 rfl (Nat.le_of_ble_eq_true rfl) ⟨by decide, by decide, by decide, by decide⟩) (fun u5518 h5516 => ?_)
  obtain rfl := h5516
  refine z_aload_n b dX2_follow_8 rfl rfl ?_
  refine z_iconst (v := (-1)) b dX2_follow_9 (by decide) ?_
  refine z_put (q0 := 16) (k9 := 4) tyX2 b (cw_16 cy tE a rw (sa S 8 (va_cpy (ar S 4) (ar S 8) 0 0 51))) rfl in_X2 tyX2_ok nmX2 (by decide) wf_X2_28 rfl rfl rfl rfl (Nat.le_of_ble_eq_true rfl) dX2_follow_10 ((cwp_16_4 cy tE a rw (sa S 8 (va_cpy (ar S 4) (ar S 8) 0 0 51)) (-1)).trans (congrArg (cw cy tE a rw) (si_same h_i_14))) ?_
  refine z_iconst (v := 0) b dX2_follow_13 (by decide) ?_
  refine z_istore (lv' := [(5, .int 0), (0, .ref (a 16)), (1, .ref (a 38)), (2, .ref (a 14)), (3, .int p0), (4, .int p1)]) b dX2_follow_14 (by decide) rfl ?_
  refine z_iload b dX2_follow_16 rfl ?_
  refine z_aload_n b dX2_follow_18 rfl rfl ?_
  refine z_get (q0 := 38) (k9 := 1) (v := .int (fi (sa S 8 (va_cpy (ar S 4) (ar S 8) 0 0 51)) 29)) b (cw_38 cy tE a rw (sa S 8 (va_cpy (ar S 4) (ar S 8) 0 0 51))) rfl in_X7 (by decide) wf_X2_108 rfl dX2_follow_19 ?_
  refine z_eqi h_i_29 ?_
  refine z_icmp_ge_t (tgt := 74) b dX2_follow_22 (by decide) (by decide) ?_
  refine z_aload_n b dX2_follow_74 rfl rfl ?_
  refine z_get (q0 := 38) (k9 := 1) (v := .int (fi (sa S 8 (va_cpy (ar S 4) (ar S 8) 0 0 51)) 29)) b (cw_38 cy tE a rw (sa S 8 (va_cpy (ar S 4) (ar S 8) 0 0 51))) rfl in_X7 (by decide) wf_X2_108 rfl dX2_follow_75 ?_
  refine z_eqi h_i_29 ?_
  exact z_iret (u := (sa S 8 (va_cpy (ar S 4) (ar S 8) 0 0 51))) b rfl dX2_follow_78 ⟨rfl, rfl⟩ rfl (by decide) (by decide)

set_option maxHeartbeats 4000000 in
set_option maxRecDepth 100000 in
theorem c_X11_lawful_32 {l : Launch} {D : va_G} {cy : Nat → ClassId} {T0 tB tE : Nat} {a : Nat → Nat} {rw : Nat → Option Nat} (S : GS) (p0 : Int32) (p1 : Int32) (h_i_14 : fi S 14 = (-1)) (h_i_29 : fi S 29 = 0) (hrw : ∀ i, i < 6 → rw i = some (a (36 + 2 * i))) (hr_p0 : 1 ≤ p0.toInt ∧ p0.toInt ≤ 3) (hr_p1 : 0 ≤ p1.toInt ∧ p1.toInt ≤ 31) : Ct l D cy T0 tB tE yX11_lawful cX11_lawful 6 (some .int) 3 86 0 0 (cw cy tE a rw S) [.ref (a 0), .int 1, .int p0, .int p1, .int 0] (QI D (U := GS) (fun r u => ((((((p0.toInt < 1)) ∨ ((1 ≤ p0.toInt) ∧ (3 < p0.toInt)))) ∨ (((1 ≤ p0.toInt) ∧ (p0.toInt ≤ 3)) ∧ (((p1.toInt < 0)) ∨ ((0 ≤ p1.toInt) ∧ (31 < p1.toInt))))) ∧ (-1) = r ∧ S = u) ∨ ((((1 ≤ p0.toInt) ∧ (p0.toInt ≤ 3)) ∧ ((0 ≤ p1.toInt) ∧ (p1.toInt ≤ 31))) ∧ 0 = r ∧ sa S 8 (va_cpy (ar S 4) (ar S 8) 0 0 51) = u)) (cw cy tE a rw)) := by
  refine Ct.ofZ RX11 "lawful" [(0, .ref (a 0)), (1, .int 1), (2, .int p0), (3, .int p1), (4, .int 0)] rfl rfl rfl rfl (Nat.le_of_ble_eq_true rfl) ?_
  intro p e R s m args below meth c A b
  refine z_iload_n b dX11_lawful_0 rfl rfl ?_
  refine z_calli b (z_runS (As := [.int 1]) (st := []) b (c_X11_isRow_3 S ) cf_X11_isRow wm_X11_169 ws_X11_isRow dX11_lawful_1 rfl (Nat.le_of_ble_eq_true rfl) ⟨by decide, by decide, by decide, by decide⟩) (fun r5501 u5502 h5500 => ?_)
  obtain ⟨rfl, rfl⟩ := h5500
  refine z_if_eq_f (tgt := 32) b dX11_lawful_4 (by decide) (by decide) ?_
  refine z_iload_n b dX11_lawful_7 rfl rfl ?_
  refine z_calli b (z_runS (As := [.int p0]) (st := []) b (c_X11_areLaws S p0 ) cf_X11_areLaws wm_X11_181 ws_X11_areLaws dX11_lawful_8 rfl (Nat.le_of_ble_eq_true rfl) ⟨by decide, by decide, by decide, by decide⟩) (fun r5504 u5505 h5503 => ?_)
  rcases h5503 with ⟨c5506, rfl, rfl⟩ | ⟨c5507, rfl, rfl⟩
  · refine z_if_eq_t (tgt := 32) b dX11_lawful_11 (by decide) (by decide) ?_
    refine z_iconst (v := (-1)) b dX11_lawful_32 (by decide) ?_
    exact z_iret (u := S) b rfl dX11_lawful_33 (Or.inl ⟨(Or.inl c5506), rfl, rfl⟩) rfl (by decide) (by decide)
  · refine z_if_eq_f (tgt := 32) b dX11_lawful_11 (by decide) (by decide) ?_
    refine z_iload_n b dX11_lawful_14 rfl rfl ?_
    refine z_bipush (v := 31) b dX11_lawful_15 (by decide) ?_
    refine z_calli b (z_runS (As := [.int p1, .int 31]) (st := []) b (c_X11_isWithin_11 S p1 ) cf_X11_isWithin wm_X11_73 ws_X11_isWithin dX11_lawful_17 rfl (Nat.le_of_ble_eq_true rfl) ⟨by decide, by decide, by decide, by decide⟩) (fun r5509 u5510 h5508 => ?_)
    rcases h5508 with ⟨c5511, rfl, rfl⟩ | ⟨c5512, rfl, rfl⟩
    · refine z_if_eq_t (tgt := 32) b dX11_lawful_20 (by decide) (by decide) ?_
      refine z_iconst (v := (-1)) b dX11_lawful_32 (by decide) ?_
      exact z_iret (u := S) b rfl dX11_lawful_33 (Or.inl ⟨(Or.inr ⟨c5507, c5511⟩), rfl, rfl⟩) rfl (by decide) (by decide)
    · refine z_if_eq_f (tgt := 32) b dX11_lawful_20 (by decide) (by decide) ?_
      refine z_iload b dX11_lawful_23 rfl ?_
      refine z_iconst (v := 1) b dX11_lawful_25 (by decide) ?_
      refine z_calli b (z_runS (As := [.int 0, .int 1]) (st := []) b (c_X11_isWithin_5 S ) cf_X11_isWithin wm_X11_73 ws_X11_isWithin dX11_lawful_26 rfl (Nat.le_of_ble_eq_true rfl) ⟨by decide, by decide, by decide, by decide⟩) (fun r5514 u5515 h5513 => ?_)
      obtain ⟨rfl, rfl⟩ := h5513
      refine z_if_ne_t (tgt := 34) b dX11_lawful_29 (by decide) (by decide) ?_
      refine z_aload_n b dX11_lawful_34 rfl rfl ?_
      refine z_get (q0 := 0) (k9 := 5) (v := .ref (a 16)) b (cw_0 cy tE a rw S) rfl in_X11 (by decide) wf_X11_43 rfl dX11_lawful_35 ?_
      refine z_aload_n b dX11_lawful_38 rfl rfl ?_
      refine z_get (q0 := 0) (k9 := 7) (v := .ref (a 35)) b (cw_0 cy tE a rw S) rfl in_X11 (by decide) wf_X11_58 rfl dX11_lawful_39 ?_
      refine z_iload_n b dX11_lawful_42 rfl rfl ?_
      refine y_aald (q0 := 35) (t0 := 4) (j := 1) (v := .ref (a 38)) b (cw_35 cy tE a rw S) rfl (by decide) (by rw [hrw 1 (by decide)]; rfl) dX11_lawful_43 ?_
      refine z_aload_n b dX11_lawful_44 rfl rfl ?_
      refine z_get (q0 := 0) (k9 := 4) (v := .ref (a 14)) b (cw_0 cy tE a rw S) rfl in_X11 (by decide) wf_X11_34 rfl dX11_lawful_45 ?_
      refine z_iload_n b dX11_lawful_48 rfl rfl ?_
      refine z_iload_n b dX11_lawful_49 rfl rfl ?_
      refine z_calli b (z_runV (q0 := 16) (As := [.ref (a 38), .ref (a 14), .int p0, .int p1]) (st := []) b (c_X2_follow_2 S p0 p1 h_i_14 h_i_29) cf_X2_follow (cw_16 cy tE a rw S) rfl wm_X11_184 wi_X2_follow ws_X2_follow dX11_lawful_50 rfl (Nat.le_of_ble_eq_true rfl) ⟨by decide, by decide, by decide, by decide⟩) (fun r5520 u5521 h5519 => ?_)
      obtain ⟨rfl, rfl⟩ := h5519
      refine z_istore (lv' := [(5, .int 0), (0, .ref (a 0)), (1, .int 1), (2, .int p0), (3, .int p1), (4, .int 0)]) b dX11_lawful_53 (by decide) rfl ?_
      refine z_iload b dX11_lawful_55 rfl ?_
      refine z_if_ne_f (tgt := 65) b dX11_lawful_57 (by decide) (by decide) ?_
      refine z_iload b dX11_lawful_60 rfl ?_
      refine z_goto (tgt := 72) b dX11_lawful_62 (by decide) ?_
      exact z_iret (u := (sa S 8 (va_cpy (ar S 4) (ar S 8) 0 0 51))) b rfl dX11_lawful_72 (Or.inr ⟨⟨c5507, c5512⟩, rfl, rfl⟩) rfl (by decide) (by decide)

set_option maxHeartbeats 4000000 in
set_option maxRecDepth 100000 in
theorem c_X12_goes_2 {l : Launch} {D : va_G} {cy : Nat → ClassId} {T0 tB tE : Nat} {a : Nat → Nat} (S : GS) (p0 : Int32) (p1 : Int32) (h_l_0 : fl S 0 = 1649317774848) (h_a_38_1 : ar S 38 1 = 0) : Ct l D cy T0 tB tE yX12_goes cX12_goes 5 (some .int) 0 0 0 0 (mw cy a S) [.ref (a 0), .int 1, .int p0, .int p1] (QI D (U := GS) (fun r u => 0 = r ∧ si (sl S 2 1649317774848) 24 (-1) = u) (mw cy a)) := by
  refine Ct.ofZ RX12 "goes" [(0, .ref (a 0)), (1, .int 1), (2, .int p0), (3, .int p1)] rfl rfl rfl rfl (Nat.le_of_ble_eq_true rfl) ?_
  intro p e R s m args below meth c A b
  refine z_aload_n b dX12_goes_0 rfl rfl ?_
  refine z_aload_n b dX12_goes_1 rfl rfl ?_
  refine z_get (q0 := 0) (k9 := 6) (v := .long (fl S 0)) b (mw_0 cy a S) rfl in_X12 (by decide) wf_X12_153 rfl dX12_goes_2 ?_
  refine z_eql h_l_0 ?_
  refine z_put (q0 := 0) (k9 := 68) tyX12 b (mw_0 cy a S) rfl in_X12 tyX12_ok nmX12 (by decide) wf_X12_458 rfl rfl rfl rfl (Nat.le_of_ble_eq_true rfl) dX12_goes_5 (mwp_0_68 cy a S 1649317774848) ?_
  refine z_aload_n b dX12_goes_8 rfl rfl ?_
  refine z_iconst (v := (-1)) b dX12_goes_9 (by decide) ?_
  refine z_put (q0 := 0) (k9 := 69) tyX12 b (mw_0 cy a (sl S 2 1649317774848)) rfl in_X12 tyX12_ok nmX12 (by decide) wf_X12_461 rfl rfl rfl rfl (Nat.le_of_ble_eq_true rfl) dX12_goes_10 (mwp_0_69 cy a (sl S 2 1649317774848) (-1)) ?_
  refine z_iconst (v := 0) b dX12_goes_13 (by decide) ?_
  refine z_istore (lv' := [(4, .int 0), (0, .ref (a 0)), (1, .int 1), (2, .int p0), (3, .int p1)]) b dX12_goes_14 (by decide) rfl ?_
  refine z_iload b dX12_goes_16 rfl ?_
  refine z_aload_n b dX12_goes_18 rfl rfl ?_
  refine z_get (q0 := 0) (k9 := 66) (v := .ref (a 41)) b (mw_0 cy a (si (sl S 2 1649317774848) 24 (-1))) rfl in_X12 (by decide) wf_X12_140 rfl dX12_goes_19 ?_
  refine z_iload_n b dX12_goes_22 rfl rfl ?_
  refine y_iald (q0 := 41) (j := 1) (v := (ar (si (sl S 2 1649317774848) 24 (-1)) 38 1)) b (mw_41 cy a (si (sl S 2 1649317774848) 24 (-1))) (by decide) rfl dX12_goes_23 ?_
  refine z_eqi h_a_38_1 ?_
  refine z_icmp_ge_t (tgt := 78) b dX12_goes_24 (by decide) (by decide) ?_
  refine z_aload_n b dX12_goes_78 rfl rfl ?_
  refine z_get (q0 := 0) (k9 := 66) (v := .ref (a 41)) b (mw_0 cy a (si (sl S 2 1649317774848) 24 (-1))) rfl in_X12 (by decide) wf_X12_140 rfl dX12_goes_79 ?_
  refine z_iload_n b dX12_goes_82 rfl rfl ?_
  refine y_iald (q0 := 41) (j := 1) (v := (ar (si (sl S 2 1649317774848) 24 (-1)) 38 1)) b (mw_41 cy a (si (sl S 2 1649317774848) 24 (-1))) (by decide) rfl dX12_goes_83 ?_
  refine z_eqi h_a_38_1 ?_
  exact z_iret (u := (si (sl S 2 1649317774848) 24 (-1))) b rfl dX12_goes_84 ⟨rfl, rfl⟩ rfl (by decide) (by decide)

set_option maxHeartbeats 4000000 in
set_option maxRecDepth 100000 in
theorem c_X12_lawful_32 {l : Launch} {D : va_G} {cy : Nat → ClassId} {T0 tB tE : Nat} {a : Nat → Nat} (S : GS) (p0 : Int32) (p1 : Int32) (h_l_0 : fl S 0 = 1649317774848) (h_a_38_1 : ar S 38 1 = 0) (hr_p0 : 1 ≤ p0.toInt ∧ p0.toInt ≤ 3) (hr_p1 : 0 ≤ p1.toInt ∧ p1.toInt ≤ 31) : Ct l D cy T0 tB tE yX12_lawful cX12_lawful 6 (some .int) 2 42 0 0 (mw cy a S) [.ref (a 0), .int 1, .int p0, .int p1, .int 0] (QI D (U := GS) (fun r u => ((((((p0.toInt < 1)) ∨ ((1 ≤ p0.toInt) ∧ (3 < p0.toInt)))) ∨ (((1 ≤ p0.toInt) ∧ (p0.toInt ≤ 3)) ∧ (((p1.toInt < 0)) ∨ ((0 ≤ p1.toInt) ∧ (31 < p1.toInt))))) ∧ (-1) = r ∧ S = u) ∨ ((((1 ≤ p0.toInt) ∧ (p0.toInt ≤ 3)) ∧ ((0 ≤ p1.toInt) ∧ (p1.toInt ≤ 31))) ∧ 0 = r ∧ si (sl S 2 1649317774848) 24 (-1) = u)) (mw cy a)) := by
  refine Ct.ofZ RX12 "lawful" [(0, .ref (a 0)), (1, .int 1), (2, .int p0), (3, .int p1), (4, .int 0)] rfl rfl rfl rfl (Nat.le_of_ble_eq_true rfl) ?_
  intro p e R s m args below meth c A b
  refine z_iload_n b dX12_lawful_0 rfl rfl ?_
  refine z_calli b (z_runS (As := [.int 1]) (st := []) b (c_X12_isRow_3 S ) cf_X12_isRow wm_X12_452 ws_X12_isRow dX12_lawful_1 rfl (Nat.le_of_ble_eq_true rfl) ⟨by decide, by decide, by decide, by decide⟩) (fun r5523 u5524 h5522 => ?_)
  obtain ⟨rfl, rfl⟩ := h5522
  refine z_if_eq_f (tgt := 36) b dX12_lawful_4 (by decide) (by decide) ?_
  refine z_iload_n b dX12_lawful_7 rfl rfl ?_
  refine z_iconst (v := 1) b dX12_lawful_8 (by decide) ?_
  refine z_iconst (v := 3) b dX12_lawful_9 (by decide) ?_
  refine z_calli b (z_runS (As := [.int p0, .int 1, .int 3]) (st := []) b (c_X12_isIn_35 S p0 ) cf_X12_isIn wm_X12_1 ws_X12_isIn dX12_lawful_10 rfl (Nat.le_of_ble_eq_true rfl) ⟨by decide, by decide, by decide, by decide⟩) (fun r5526 u5527 h5525 => ?_)
  rcases h5525 with ⟨c5528, rfl, rfl⟩ | ⟨c5529, rfl, rfl⟩
  · refine z_if_eq_t (tgt := 36) b dX12_lawful_13 (by decide) (by decide) ?_
    refine z_iconst (v := (-1)) b dX12_lawful_36 (by decide) ?_
    exact z_iret (u := S) b rfl dX12_lawful_37 (Or.inl ⟨(Or.inl c5528), rfl, rfl⟩) rfl (by decide) (by decide)
  · refine z_if_eq_f (tgt := 36) b dX12_lawful_13 (by decide) (by decide) ?_
    refine z_iload_n b dX12_lawful_16 rfl rfl ?_
    refine z_iconst (v := 0) b dX12_lawful_17 (by decide) ?_
    refine z_bipush (v := 31) b dX12_lawful_18 (by decide) ?_
    refine z_calli b (z_runS (As := [.int p1, .int 0, .int 31]) (st := []) b (c_X12_isIn_36 S p1 ) cf_X12_isIn wm_X12_1 ws_X12_isIn dX12_lawful_20 rfl (Nat.le_of_ble_eq_true rfl) ⟨by decide, by decide, by decide, by decide⟩) (fun r5531 u5532 h5530 => ?_)
    rcases h5530 with ⟨c5533, rfl, rfl⟩ | ⟨c5534, rfl, rfl⟩
    · refine z_if_eq_t (tgt := 36) b dX12_lawful_23 (by decide) (by decide) ?_
      refine z_iconst (v := (-1)) b dX12_lawful_36 (by decide) ?_
      exact z_iret (u := S) b rfl dX12_lawful_37 (Or.inl ⟨(Or.inr ⟨c5529, c5533⟩), rfl, rfl⟩) rfl (by decide) (by decide)
    · refine z_if_eq_f (tgt := 36) b dX12_lawful_23 (by decide) (by decide) ?_
      refine z_iload b dX12_lawful_26 rfl ?_
      refine z_iconst (v := 0) b dX12_lawful_28 (by decide) ?_
      refine z_iconst (v := 1) b dX12_lawful_29 (by decide) ?_
      refine z_calli b (z_runS (As := [.int 0, .int 0, .int 1]) (st := []) b (c_X12_isIn_9 S ) cf_X12_isIn wm_X12_1 ws_X12_isIn dX12_lawful_30 rfl (Nat.le_of_ble_eq_true rfl) ⟨by decide, by decide, by decide, by decide⟩) (fun r5536 u5537 h5535 => ?_)
      obtain ⟨rfl, rfl⟩ := h5535
      refine z_if_ne_t (tgt := 38) b dX12_lawful_33 (by decide) (by decide) ?_
      refine z_aload_n b dX12_lawful_38 rfl rfl ?_
      refine z_iload_n b dX12_lawful_39 rfl rfl ?_
      refine z_iload_n b dX12_lawful_40 rfl rfl ?_
      refine z_iload_n b dX12_lawful_41 rfl rfl ?_
      refine z_calli b (z_runV (q0 := 0) (As := [.int 1, .int p0, .int p1]) (st := []) b (c_X12_goes_2 S p0 p1 h_l_0 h_a_38_1) cf_X12_goes (mw_0 cy a S) rfl wm_X12_464 wi_X12_goes ws_X12_goes dX12_lawful_42 rfl (Nat.le_of_ble_eq_true rfl) ⟨by decide, by decide, by decide, by decide⟩) (fun r5539 u5540 h5538 => ?_)
      obtain ⟨rfl, rfl⟩ := h5538
      refine z_istore (lv' := [(5, .int 0), (0, .ref (a 0)), (1, .int 1), (2, .int p0), (3, .int p1), (4, .int 0)]) b dX12_lawful_45 (by decide) rfl ?_
      refine z_iload b dX12_lawful_47 rfl ?_
      refine z_if_ne_f (tgt := 57) b dX12_lawful_49 (by decide) (by decide) ?_
      refine z_iload b dX12_lawful_52 rfl ?_
      refine z_goto (tgt := 61) b dX12_lawful_54 (by decide) ?_
      exact z_iret (u := (si (sl S 2 1649317774848) 24 (-1))) b rfl dX12_lawful_61 (Or.inr ⟨⟨c5529, c5534⟩, rfl, rfl⟩) rfl (by decide) (by decide)

set_option maxHeartbeats 4000000 in
set_option maxRecDepth 100000 in
theorem c_X11_lawful_33 {l : Launch} {D : va_G} {cy : Nat → ClassId} {T0 tB tE : Nat} {a : Nat → Nat} {rw : Nat → Option Nat} (S : GS) (p0 : Int32) (p1 : Int32) (h_i_14 : fi S 14 = (-1)) (h_i_29 : fi S 29 = 0) (hrw : ∀ i, i < 6 → rw i = some (a (36 + 2 * i))) (hr_p0 : 1 ≤ p0.toInt ∧ p0.toInt ≤ 3) (hr_p1 : 0 ≤ p1.toInt ∧ p1.toInt ≤ 31) : Ct l D cy T0 tB tE yX11_lawful cX11_lawful 6 (some .int) 3 86 0 0 (cw cy tE a rw S) [.ref (a 0), .int 1, .int p0, .int p1, .int 1] (QI D (U := GS) (fun r u => ((((((p0.toInt < 1)) ∨ ((1 ≤ p0.toInt) ∧ (3 < p0.toInt)))) ∨ (((1 ≤ p0.toInt) ∧ (p0.toInt ≤ 3)) ∧ (((p1.toInt < 0)) ∨ ((0 ≤ p1.toInt) ∧ (31 < p1.toInt))))) ∧ (-1) = r ∧ S = u) ∨ ((((1 ≤ p0.toInt) ∧ (p0.toInt ≤ 3)) ∧ ((0 ≤ p1.toInt) ∧ (p1.toInt ≤ 31))) ∧ (-1) = r ∧ sa S 8 (va_cpy (ar S 4) (ar S 8) 0 0 51) = u)) (cw cy tE a rw)) := by
  refine Ct.ofZ RX11 "lawful" [(0, .ref (a 0)), (1, .int 1), (2, .int p0), (3, .int p1), (4, .int 1)] rfl rfl rfl rfl (Nat.le_of_ble_eq_true rfl) ?_
  intro p e R s m args below meth c A b
  refine z_iload_n b dX11_lawful_0 rfl rfl ?_
  refine z_calli b (z_runS (As := [.int 1]) (st := []) b (c_X11_isRow_3 S ) cf_X11_isRow wm_X11_169 ws_X11_isRow dX11_lawful_1 rfl (Nat.le_of_ble_eq_true rfl) ⟨by decide, by decide, by decide, by decide⟩) (fun r5542 u5543 h5541 => ?_)
  obtain ⟨rfl, rfl⟩ := h5541
  refine z_if_eq_f (tgt := 32) b dX11_lawful_4 (by decide) (by decide) ?_
  refine z_iload_n b dX11_lawful_7 rfl rfl ?_
  refine z_calli b (z_runS (As := [.int p0]) (st := []) b (c_X11_areLaws S p0 ) cf_X11_areLaws wm_X11_181 ws_X11_areLaws dX11_lawful_8 rfl (Nat.le_of_ble_eq_true rfl) ⟨by decide, by decide, by decide, by decide⟩) (fun r5545 u5546 h5544 => ?_)
  rcases h5544 with ⟨c5547, rfl, rfl⟩ | ⟨c5548, rfl, rfl⟩
  · refine z_if_eq_t (tgt := 32) b dX11_lawful_11 (by decide) (by decide) ?_
    refine z_iconst (v := (-1)) b dX11_lawful_32 (by decide) ?_
    exact z_iret (u := S) b rfl dX11_lawful_33 (Or.inl ⟨(Or.inl c5547), rfl, rfl⟩) rfl (by decide) (by decide)
  · refine z_if_eq_f (tgt := 32) b dX11_lawful_11 (by decide) (by decide) ?_
    refine z_iload_n b dX11_lawful_14 rfl rfl ?_
    refine z_bipush (v := 31) b dX11_lawful_15 (by decide) ?_
    refine z_calli b (z_runS (As := [.int p1, .int 31]) (st := []) b (c_X11_isWithin_11 S p1 ) cf_X11_isWithin wm_X11_73 ws_X11_isWithin dX11_lawful_17 rfl (Nat.le_of_ble_eq_true rfl) ⟨by decide, by decide, by decide, by decide⟩) (fun r5550 u5551 h5549 => ?_)
    rcases h5549 with ⟨c5552, rfl, rfl⟩ | ⟨c5553, rfl, rfl⟩
    · refine z_if_eq_t (tgt := 32) b dX11_lawful_20 (by decide) (by decide) ?_
      refine z_iconst (v := (-1)) b dX11_lawful_32 (by decide) ?_
      exact z_iret (u := S) b rfl dX11_lawful_33 (Or.inl ⟨(Or.inr ⟨c5548, c5552⟩), rfl, rfl⟩) rfl (by decide) (by decide)
    · refine z_if_eq_f (tgt := 32) b dX11_lawful_20 (by decide) (by decide) ?_
      refine z_iload b dX11_lawful_23 rfl ?_
      refine z_iconst (v := 1) b dX11_lawful_25 (by decide) ?_
      refine z_calli b (z_runS (As := [.int 1, .int 1]) (st := []) b (c_X11_isWithin_6 S ) cf_X11_isWithin wm_X11_73 ws_X11_isWithin dX11_lawful_26 rfl (Nat.le_of_ble_eq_true rfl) ⟨by decide, by decide, by decide, by decide⟩) (fun r5555 u5556 h5554 => ?_)
      obtain ⟨rfl, rfl⟩ := h5554
      refine z_if_ne_t (tgt := 34) b dX11_lawful_29 (by decide) (by decide) ?_
      refine z_aload_n b dX11_lawful_34 rfl rfl ?_
      refine z_get (q0 := 0) (k9 := 5) (v := .ref (a 16)) b (cw_0 cy tE a rw S) rfl in_X11 (by decide) wf_X11_43 rfl dX11_lawful_35 ?_
      refine z_aload_n b dX11_lawful_38 rfl rfl ?_
      refine z_get (q0 := 0) (k9 := 7) (v := .ref (a 35)) b (cw_0 cy tE a rw S) rfl in_X11 (by decide) wf_X11_58 rfl dX11_lawful_39 ?_
      refine z_iload_n b dX11_lawful_42 rfl rfl ?_
      refine y_aald (q0 := 35) (t0 := 4) (j := 1) (v := .ref (a 38)) b (cw_35 cy tE a rw S) rfl (by decide) (by rw [hrw 1 (by decide)]; rfl) dX11_lawful_43 ?_
      refine z_aload_n b dX11_lawful_44 rfl rfl ?_
      refine z_get (q0 := 0) (k9 := 4) (v := .ref (a 14)) b (cw_0 cy tE a rw S) rfl in_X11 (by decide) wf_X11_34 rfl dX11_lawful_45 ?_
      refine z_iload_n b dX11_lawful_48 rfl rfl ?_
      refine z_iload_n b dX11_lawful_49 rfl rfl ?_
      refine z_calli b (z_runV (q0 := 16) (As := [.ref (a 38), .ref (a 14), .int p0, .int p1]) (st := []) b (c_X2_follow_2 S p0 p1 h_i_14 h_i_29) cf_X2_follow (cw_16 cy tE a rw S) rfl wm_X11_184 wi_X2_follow ws_X2_follow dX11_lawful_50 rfl (Nat.le_of_ble_eq_true rfl) ⟨by decide, by decide, by decide, by decide⟩) (fun r5558 u5559 h5557 => ?_)
      obtain ⟨rfl, rfl⟩ := h5557
      refine z_istore (lv' := [(5, .int 0), (0, .ref (a 0)), (1, .int 1), (2, .int p0), (3, .int p1), (4, .int 1)]) b dX11_lawful_53 (by decide) rfl ?_
      refine z_iload b dX11_lawful_55 rfl ?_
      refine z_if_ne_t (tgt := 65) b dX11_lawful_57 (by decide) (by decide) ?_
      refine z_aload_n b dX11_lawful_65 rfl rfl ?_
      refine z_get (q0 := 0) (k9 := 5) (v := .ref (a 16)) b (cw_0 cy tE a rw (sa S 8 (va_cpy (ar S 4) (ar S 8) 0 0 51))) rfl in_X11 (by decide) wf_X11_43 rfl dX11_lawful_66 ?_
      refine z_get (q0 := 16) (k9 := 4) (v := .int (fi (sa S 8 (va_cpy (ar S 4) (ar S 8) 0 0 51)) 14)) b (cw_16 cy tE a rw (sa S 8 (va_cpy (ar S 4) (ar S 8) 0 0 51))) rfl in_X2 (by decide) wf_X11_188 rfl dX11_lawful_69 ?_
      refine z_eqi h_i_14 ?_
      exact z_iret (u := (sa S 8 (va_cpy (ar S 4) (ar S 8) 0 0 51))) b rfl dX11_lawful_72 (Or.inr ⟨⟨c5548, c5553⟩, rfl, rfl⟩) rfl (by decide) (by decide)

set_option maxHeartbeats 4000000 in
set_option maxRecDepth 100000 in
theorem c_X12_lawful_33 {l : Launch} {D : va_G} {cy : Nat → ClassId} {T0 tB tE : Nat} {a : Nat → Nat} (S : GS) (p0 : Int32) (p1 : Int32) (h_l_0 : fl S 0 = 1649317774848) (h_a_38_1 : ar S 38 1 = 0) (hr_p0 : 1 ≤ p0.toInt ∧ p0.toInt ≤ 3) (hr_p1 : 0 ≤ p1.toInt ∧ p1.toInt ≤ 31) : Ct l D cy T0 tB tE yX12_lawful cX12_lawful 6 (some .int) 2 42 0 0 (mw cy a S) [.ref (a 0), .int 1, .int p0, .int p1, .int 1] (QI D (U := GS) (fun r u => ((((((p0.toInt < 1)) ∨ ((1 ≤ p0.toInt) ∧ (3 < p0.toInt)))) ∨ (((1 ≤ p0.toInt) ∧ (p0.toInt ≤ 3)) ∧ (((p1.toInt < 0)) ∨ ((0 ≤ p1.toInt) ∧ (31 < p1.toInt))))) ∧ (-1) = r ∧ S = u) ∨ ((((1 ≤ p0.toInt) ∧ (p0.toInt ≤ 3)) ∧ ((0 ≤ p1.toInt) ∧ (p1.toInt ≤ 31))) ∧ (-1) = r ∧ si (sl S 2 1649317774848) 24 (-1) = u)) (mw cy a)) := by
  refine Ct.ofZ RX12 "lawful" [(0, .ref (a 0)), (1, .int 1), (2, .int p0), (3, .int p1), (4, .int 1)] rfl rfl rfl rfl (Nat.le_of_ble_eq_true rfl) ?_
  intro p e R s m args below meth c A b
  refine z_iload_n b dX12_lawful_0 rfl rfl ?_
  refine z_calli b (z_runS (As := [.int 1]) (st := []) b (c_X12_isRow_3 S ) cf_X12_isRow wm_X12_452 ws_X12_isRow dX12_lawful_1 rfl (Nat.le_of_ble_eq_true rfl) ⟨by decide, by decide, by decide, by decide⟩) (fun r5561 u5562 h5560 => ?_)
  obtain ⟨rfl, rfl⟩ := h5560
  refine z_if_eq_f (tgt := 36) b dX12_lawful_4 (by decide) (by decide) ?_
  refine z_iload_n b dX12_lawful_7 rfl rfl ?_
  refine z_iconst (v := 1) b dX12_lawful_8 (by decide) ?_
  refine z_iconst (v := 3) b dX12_lawful_9 (by decide) ?_
  refine z_calli b (z_runS (As := [.int p0, .int 1, .int 3]) (st := []) b (c_X12_isIn_35 S p0 ) cf_X12_isIn wm_X12_1 ws_X12_isIn dX12_lawful_10 rfl (Nat.le_of_ble_eq_true rfl) ⟨by decide, by decide, by decide, by decide⟩) (fun r5564 u5565 h5563 => ?_)
  rcases h5563 with ⟨c5566, rfl, rfl⟩ | ⟨c5567, rfl, rfl⟩
  · refine z_if_eq_t (tgt := 36) b dX12_lawful_13 (by decide) (by decide) ?_
    refine z_iconst (v := (-1)) b dX12_lawful_36 (by decide) ?_
    exact z_iret (u := S) b rfl dX12_lawful_37 (Or.inl ⟨(Or.inl c5566), rfl, rfl⟩) rfl (by decide) (by decide)
  · refine z_if_eq_f (tgt := 36) b dX12_lawful_13 (by decide) (by decide) ?_
    refine z_iload_n b dX12_lawful_16 rfl rfl ?_
    refine z_iconst (v := 0) b dX12_lawful_17 (by decide) ?_
    refine z_bipush (v := 31) b dX12_lawful_18 (by decide) ?_
    refine z_calli b (z_runS (As := [.int p1, .int 0, .int 31]) (st := []) b (c_X12_isIn_36 S p1 ) cf_X12_isIn wm_X12_1 ws_X12_isIn dX12_lawful_20 rfl (Nat.le_of_ble_eq_true rfl) ⟨by decide, by decide, by decide, by decide⟩) (fun r5569 u5570 h5568 => ?_)
    rcases h5568 with ⟨c5571, rfl, rfl⟩ | ⟨c5572, rfl, rfl⟩
    · refine z_if_eq_t (tgt := 36) b dX12_lawful_23 (by decide) (by decide) ?_
      refine z_iconst (v := (-1)) b dX12_lawful_36 (by decide) ?_
      exact z_iret (u := S) b rfl dX12_lawful_37 (Or.inl ⟨(Or.inr ⟨c5567, c5571⟩), rfl, rfl⟩) rfl (by decide) (by decide)
    · refine z_if_eq_f (tgt := 36) b dX12_lawful_23 (by decide) (by decide) ?_
      refine z_iload b dX12_lawful_26 rfl ?_
      refine z_iconst (v := 0) b dX12_lawful_28 (by decide) ?_
      refine z_iconst (v := 1) b dX12_lawful_29 (by decide) ?_
      refine z_calli b (z_runS (As := [.int 1, .int 0, .int 1]) (st := []) b (c_X12_isIn_10 S ) cf_X12_isIn wm_X12_1 ws_X12_isIn dX12_lawful_30 rfl (Nat.le_of_ble_eq_true rfl) ⟨by decide, by decide, by decide, by decide⟩) (fun r5574 u5575 h5573 => ?_)
      obtain ⟨rfl, rfl⟩ := h5573
      refine z_if_ne_t (tgt := 38) b dX12_lawful_33 (by decide) (by decide) ?_
      refine z_aload_n b dX12_lawful_38 rfl rfl ?_
      refine z_iload_n b dX12_lawful_39 rfl rfl ?_
      refine z_iload_n b dX12_lawful_40 rfl rfl ?_
      refine z_iload_n b dX12_lawful_41 rfl rfl ?_
      refine z_calli b (z_runV (q0 := 0) (As := [.int 1, .int p0, .int p1]) (st := []) b (c_X12_goes_2 S p0 p1 h_l_0 h_a_38_1) cf_X12_goes (mw_0 cy a S) rfl wm_X12_464 wi_X12_goes ws_X12_goes dX12_lawful_42 rfl (Nat.le_of_ble_eq_true rfl) ⟨by decide, by decide, by decide, by decide⟩) (fun r5577 u5578 h5576 => ?_)
      obtain ⟨rfl, rfl⟩ := h5576
      refine z_istore (lv' := [(5, .int 0), (0, .ref (a 0)), (1, .int 1), (2, .int p0), (3, .int p1), (4, .int 1)]) b dX12_lawful_45 (by decide) rfl ?_
      refine z_iload b dX12_lawful_47 rfl ?_
      refine z_if_ne_t (tgt := 57) b dX12_lawful_49 (by decide) (by decide) ?_
      refine z_aload_n b dX12_lawful_57 rfl rfl ?_
      refine z_get (q0 := 0) (k9 := 69) (v := .int (-1)) b (mw_0 cy a (si (sl S 2 1649317774848) 24 (-1))) rfl in_X12 (by decide) wf_X12_461 rfl dX12_lawful_58 ?_
      exact z_iret (u := (si (sl S 2 1649317774848) 24 (-1))) b rfl dX12_lawful_61 (Or.inr ⟨⟨c5567, c5572⟩, rfl, rfl⟩) rfl (by decide) (by decide)

set_option maxHeartbeats 4000000 in
set_option maxRecDepth 100000 in
theorem c_X11_lawful_34 {l : Launch} {D : va_G} {cy : Nat → ClassId} {T0 tB tE : Nat} {a : Nat → Nat} {rw : Nat → Option Nat} (S : GS) (p0 : Int32) (p1 : Int32) (p2 : Int32)  (hr_p0 : 1 ≤ p0.toInt ∧ p0.toInt ≤ 3) (hr_p1 : 0 ≤ p1.toInt ∧ p1.toInt ≤ 31) (hr_p2 : 2 ≤ p2.toInt ∧ p2.toInt ≤ 2147483647) : Ct l D cy T0 tB tE yX11_lawful cX11_lawful 6 (some .int) 1 21 0 0 (cw cy tE a rw S) [.ref (a 0), .int 1, .int p0, .int p1, .int p2] (QI D (U := GS) (fun r u => (-1) = r ∧ S = u) (cw cy tE a rw)) := by
  refine Ct.ofZ RX11 "lawful" [(0, .ref (a 0)), (1, .int 1), (2, .int p0), (3, .int p1), (4, .int p2)] rfl rfl rfl rfl (Nat.le_of_ble_eq_true rfl) ?_
  intro p e R s m args below meth c A b
  refine z_iload_n b dX11_lawful_0 rfl rfl ?_
  refine z_calli b (z_runS (As := [.int 1]) (st := []) b (c_X11_isRow_3 S ) cf_X11_isRow wm_X11_169 ws_X11_isRow dX11_lawful_1 rfl (Nat.le_of_ble_eq_true rfl) ⟨by decide, by decide, by decide, by decide⟩) (fun r5580 u5581 h5579 => ?_)
  obtain ⟨rfl, rfl⟩ := h5579
  refine z_if_eq_f (tgt := 32) b dX11_lawful_4 (by decide) (by decide) ?_
  refine z_iload_n b dX11_lawful_7 rfl rfl ?_
  refine z_calli b (z_runS (As := [.int p0]) (st := []) b (c_X11_areLaws S p0 ) cf_X11_areLaws wm_X11_181 ws_X11_areLaws dX11_lawful_8 rfl (Nat.le_of_ble_eq_true rfl) ⟨by decide, by decide, by decide, by decide⟩) (fun r5583 u5584 h5582 => ?_)
  rcases h5582 with ⟨c5585, rfl, rfl⟩ | ⟨c5586, rfl, rfl⟩
  · refine z_if_eq_t (tgt := 32) b dX11_lawful_11 (by decide) (by decide) ?_
    refine z_iconst (v := (-1)) b dX11_lawful_32 (by decide) ?_
    exact z_iret (u := S) b rfl dX11_lawful_33 ⟨rfl, rfl⟩ rfl (by decide) (by decide)
  · refine z_if_eq_f (tgt := 32) b dX11_lawful_11 (by decide) (by decide) ?_
    refine z_iload_n b dX11_lawful_14 rfl rfl ?_
    refine z_bipush (v := 31) b dX11_lawful_15 (by decide) ?_
    refine z_calli b (z_runS (As := [.int p1, .int 31]) (st := []) b (c_X11_isWithin_11 S p1 ) cf_X11_isWithin wm_X11_73 ws_X11_isWithin dX11_lawful_17 rfl (Nat.le_of_ble_eq_true rfl) ⟨by decide, by decide, by decide, by decide⟩) (fun r5588 u5589 h5587 => ?_)
    rcases h5587 with ⟨c5590, rfl, rfl⟩ | ⟨c5591, rfl, rfl⟩
    · refine z_if_eq_t (tgt := 32) b dX11_lawful_20 (by decide) (by decide) ?_
      refine z_iconst (v := (-1)) b dX11_lawful_32 (by decide) ?_
      exact z_iret (u := S) b rfl dX11_lawful_33 ⟨rfl, rfl⟩ rfl (by decide) (by decide)
    · refine z_if_eq_f (tgt := 32) b dX11_lawful_20 (by decide) (by decide) ?_
      refine z_iload b dX11_lawful_23 rfl ?_
      refine z_iconst (v := 1) b dX11_lawful_25 (by decide) ?_
      refine z_calli b (z_runS (As := [.int p2, .int 1]) (st := []) b (c_X11_isWithin_4 S p2 ) cf_X11_isWithin wm_X11_73 ws_X11_isWithin dX11_lawful_26 rfl (Nat.le_of_ble_eq_true rfl) ⟨by decide, by decide, by decide, by decide⟩) (fun r5593 u5594 h5592 => ?_)
      rcases h5592 with ⟨c5595, rfl, rfl⟩ | ⟨c5596, rfl, rfl⟩
      · refine z_if_ne_f (tgt := 34) b dX11_lawful_29 (by decide) (by decide) ?_
        refine z_iconst (v := (-1)) b dX11_lawful_32 (by decide) ?_
        exact z_iret (u := S) b rfl dX11_lawful_33 ⟨rfl, rfl⟩ rfl (by decide) (by decide)
      · exfalso; omega

set_option maxHeartbeats 4000000 in
set_option maxRecDepth 100000 in
theorem c_X12_lawful_34 {l : Launch} {D : va_G} {cy : Nat → ClassId} {T0 tB tE : Nat} {a : Nat → Nat} (S : GS) (p0 : Int32) (p1 : Int32) (p2 : Int32)  (hr_p0 : 1 ≤ p0.toInt ∧ p0.toInt ≤ 3) (hr_p1 : 0 ≤ p1.toInt ∧ p1.toInt ≤ 31) (hr_p2 : 2 ≤ p2.toInt ∧ p2.toInt ≤ 2147483647) : Ct l D cy T0 tB tE yX12_lawful cX12_lawful 6 (some .int) 2 42 0 0 (mw cy a S) [.ref (a 0), .int 1, .int p0, .int p1, .int p2] (QI D (U := GS) (fun r u => (-1) = r ∧ S = u) (mw cy a)) := by
  refine Ct.ofZ RX12 "lawful" [(0, .ref (a 0)), (1, .int 1), (2, .int p0), (3, .int p1), (4, .int p2)] rfl rfl rfl rfl (Nat.le_of_ble_eq_true rfl) ?_
  intro p e R s m args below meth c A b
  refine z_iload_n b dX12_lawful_0 rfl rfl ?_
  refine z_calli b (z_runS (As := [.int 1]) (st := []) b (c_X12_isRow_3 S ) cf_X12_isRow wm_X12_452 ws_X12_isRow dX12_lawful_1 rfl (Nat.le_of_ble_eq_true rfl) ⟨by decide, by decide, by decide, by decide⟩) (fun r5598 u5599 h5597 => ?_)
  obtain ⟨rfl, rfl⟩ := h5597
  refine z_if_eq_f (tgt := 36) b dX12_lawful_4 (by decide) (by decide) ?_
  refine z_iload_n b dX12_lawful_7 rfl rfl ?_
  refine z_iconst (v := 1) b dX12_lawful_8 (by decide) ?_
  refine z_iconst (v := 3) b dX12_lawful_9 (by decide) ?_
  refine z_calli b (z_runS (As := [.int p0, .int 1, .int 3]) (st := []) b (c_X12_isIn_35 S p0 ) cf_X12_isIn wm_X12_1 ws_X12_isIn dX12_lawful_10 rfl (Nat.le_of_ble_eq_true rfl) ⟨by decide, by decide, by decide, by decide⟩) (fun r5601 u5602 h5600 => ?_)
  rcases h5600 with ⟨c5603, rfl, rfl⟩ | ⟨c5604, rfl, rfl⟩
  · refine z_if_eq_t (tgt := 36) b dX12_lawful_13 (by decide) (by decide) ?_
    refine z_iconst (v := (-1)) b dX12_lawful_36 (by decide) ?_
    exact z_iret (u := S) b rfl dX12_lawful_37 ⟨rfl, rfl⟩ rfl (by decide) (by decide)
  · refine z_if_eq_f (tgt := 36) b dX12_lawful_13 (by decide) (by decide) ?_
    refine z_iload_n b dX12_lawful_16 rfl rfl ?_
    refine z_iconst (v := 0) b dX12_lawful_17 (by decide) ?_
    refine z_bipush (v := 31) b dX12_lawful_18 (by decide) ?_
    refine z_calli b (z_runS (As := [.int p1, .int 0, .int 31]) (st := []) b (c_X12_isIn_36 S p1 ) cf_X12_isIn wm_X12_1 ws_X12_isIn dX12_lawful_20 rfl (Nat.le_of_ble_eq_true rfl) ⟨by decide, by decide, by decide, by decide⟩) (fun r5606 u5607 h5605 => ?_)
    rcases h5605 with ⟨c5608, rfl, rfl⟩ | ⟨c5609, rfl, rfl⟩
    · refine z_if_eq_t (tgt := 36) b dX12_lawful_23 (by decide) (by decide) ?_
      refine z_iconst (v := (-1)) b dX12_lawful_36 (by decide) ?_
      exact z_iret (u := S) b rfl dX12_lawful_37 ⟨rfl, rfl⟩ rfl (by decide) (by decide)
    · refine z_if_eq_f (tgt := 36) b dX12_lawful_23 (by decide) (by decide) ?_
      refine z_iload b dX12_lawful_26 rfl ?_
      refine z_iconst (v := 0) b dX12_lawful_28 (by decide) ?_
      refine z_iconst (v := 1) b dX12_lawful_29 (by decide) ?_
      refine z_calli b (z_runS (As := [.int p2, .int 0, .int 1]) (st := []) b (c_X12_isIn_8 S p2 ) cf_X12_isIn wm_X12_1 ws_X12_isIn dX12_lawful_30 rfl (Nat.le_of_ble_eq_true rfl) ⟨by decide, by decide, by decide, by decide⟩) (fun r5611 u5612 h5610 => ?_)
      rcases h5610 with ⟨c5613, rfl, rfl⟩ | ⟨c5614, rfl, rfl⟩
      · refine z_if_ne_f (tgt := 38) b dX12_lawful_33 (by decide) (by decide) ?_
        refine z_iconst (v := (-1)) b dX12_lawful_36 (by decide) ?_
        exact z_iret (u := S) b rfl dX12_lawful_37 ⟨rfl, rfl⟩ rfl (by decide) (by decide)
      · exfalso; omega

set_option maxHeartbeats 4000000 in
set_option maxRecDepth 100000 in
theorem c_X11_lawful_35 {l : Launch} {D : va_G} {cy : Nat → ClassId} {T0 tB tE : Nat} {a : Nat → Nat} {rw : Nat → Option Nat} (S : GS) (p0 : Int32) (p1 : Int32) (p2 : Int32)  (hr_p0 : 1 ≤ p0.toInt ∧ p0.toInt ≤ 3) (hr_p1 : 0 ≤ p1.toInt ∧ p1.toInt ≤ 31) (hr_p2 : (-2147483648) ≤ p2.toInt ∧ p2.toInt ≤ (-1)) : Ct l D cy T0 tB tE yX11_lawful cX11_lawful 6 (some .int) 1 21 0 0 (cw cy tE a rw S) [.ref (a 0), .int 2, .int p0, .int p1, .int p2] (QI D (U := GS) (fun r u => (-1) = r ∧ S = u) (cw cy tE a rw)) := by
  refine Ct.ofZ RX11 "lawful" [(0, .ref (a 0)), (1, .int 2), (2, .int p0), (3, .int p1), (4, .int p2)] rfl rfl rfl rfl (Nat.le_of_ble_eq_true rfl) ?_
  intro p e R s m args below meth c A b
  refine z_iload_n b dX11_lawful_0 rfl rfl ?_
  refine z_calli b (z_runS (As := [.int 2]) (st := []) b (c_X11_isRow_4 S ) cf_X11_isRow wm_X11_169 ws_X11_isRow dX11_lawful_1 rfl (Nat.le_of_ble_eq_true rfl) ⟨by decide, by decide, by decide, by decide⟩) (fun r5616 u5617 h5615 => ?_)
  obtain ⟨rfl, rfl⟩ := h5615
  refine z_if_eq_f (tgt := 32) b dX11_lawful_4 (by decide) (by decide) ?_
  refine z_iload_n b dX11_lawful_7 rfl rfl ?_
  refine z_calli b (z_runS (As := [.int p0]) (st := []) b (c_X11_areLaws S p0 ) cf_X11_areLaws wm_X11_181 ws_X11_areLaws dX11_lawful_8 rfl (Nat.le_of_ble_eq_true rfl) ⟨by decide, by decide, by decide, by decide⟩) (fun r5619 u5620 h5618 => ?_)
  rcases h5618 with ⟨c5621, rfl, rfl⟩ | ⟨c5622, rfl, rfl⟩
  · refine z_if_eq_t (tgt := 32) b dX11_lawful_11 (by decide) (by decide) ?_
    refine z_iconst (v := (-1)) b dX11_lawful_32 (by decide) ?_
    exact z_iret (u := S) b rfl dX11_lawful_33 ⟨rfl, rfl⟩ rfl (by decide) (by decide)
  · refine z_if_eq_f (tgt := 32) b dX11_lawful_11 (by decide) (by decide) ?_
    refine z_iload_n b dX11_lawful_14 rfl rfl ?_
    refine z_bipush (v := 31) b dX11_lawful_15 (by decide) ?_
    refine z_calli b (z_runS (As := [.int p1, .int 31]) (st := []) b (c_X11_isWithin_11 S p1 ) cf_X11_isWithin wm_X11_73 ws_X11_isWithin dX11_lawful_17 rfl (Nat.le_of_ble_eq_true rfl) ⟨by decide, by decide, by decide, by decide⟩) (fun r5624 u5625 h5623 => ?_)
    rcases h5623 with ⟨c5626, rfl, rfl⟩ | ⟨c5627, rfl, rfl⟩
    · refine z_if_eq_t (tgt := 32) b dX11_lawful_20 (by decide) (by decide) ?_
      refine z_iconst (v := (-1)) b dX11_lawful_32 (by decide) ?_
      exact z_iret (u := S) b rfl dX11_lawful_33 ⟨rfl, rfl⟩ rfl (by decide) (by decide)
    · refine z_if_eq_f (tgt := 32) b dX11_lawful_20 (by decide) (by decide) ?_
      refine z_iload b dX11_lawful_23 rfl ?_
      refine z_iconst (v := 1) b dX11_lawful_25 (by decide) ?_
      refine z_calli b (z_runS (As := [.int p2, .int 1]) (st := []) b (c_X11_isWithin_4 S p2 ) cf_X11_isWithin wm_X11_73 ws_X11_isWithin dX11_lawful_26 rfl (Nat.le_of_ble_eq_true rfl) ⟨by decide, by decide, by decide, by decide⟩) (fun r5629 u5630 h5628 => ?_)
      rcases h5628 with ⟨c5631, rfl, rfl⟩ | ⟨c5632, rfl, rfl⟩
      · refine z_if_ne_f (tgt := 34) b dX11_lawful_29 (by decide) (by decide) ?_
        refine z_iconst (v := (-1)) b dX11_lawful_32 (by decide) ?_
        exact z_iret (u := S) b rfl dX11_lawful_33 ⟨rfl, rfl⟩ rfl (by decide) (by decide)
      · exfalso; omega

set_option maxHeartbeats 4000000 in
set_option maxRecDepth 100000 in
theorem c_X12_lawful_35 {l : Launch} {D : va_G} {cy : Nat → ClassId} {T0 tB tE : Nat} {a : Nat → Nat} (S : GS) (p0 : Int32) (p1 : Int32) (p2 : Int32)  (hr_p0 : 1 ≤ p0.toInt ∧ p0.toInt ≤ 3) (hr_p1 : 0 ≤ p1.toInt ∧ p1.toInt ≤ 31) (hr_p2 : (-2147483648) ≤ p2.toInt ∧ p2.toInt ≤ (-1)) : Ct l D cy T0 tB tE yX12_lawful cX12_lawful 6 (some .int) 2 42 0 0 (mw cy a S) [.ref (a 0), .int 2, .int p0, .int p1, .int p2] (QI D (U := GS) (fun r u => (-1) = r ∧ S = u) (mw cy a)) := by
  refine Ct.ofZ RX12 "lawful" [(0, .ref (a 0)), (1, .int 2), (2, .int p0), (3, .int p1), (4, .int p2)] rfl rfl rfl rfl (Nat.le_of_ble_eq_true rfl) ?_
  intro p e R s m args below meth c A b
  refine z_iload_n b dX12_lawful_0 rfl rfl ?_
  refine z_calli b (z_runS (As := [.int 2]) (st := []) b (c_X12_isRow_4 S ) cf_X12_isRow wm_X12_452 ws_X12_isRow dX12_lawful_1 rfl (Nat.le_of_ble_eq_true rfl) ⟨by decide, by decide, by decide, by decide⟩) (fun r5634 u5635 h5633 => ?_)
  obtain ⟨rfl, rfl⟩ := h5633
  refine z_if_eq_f (tgt := 36) b dX12_lawful_4 (by decide) (by decide) ?_
  refine z_iload_n b dX12_lawful_7 rfl rfl ?_
  refine z_iconst (v := 1) b dX12_lawful_8 (by decide) ?_
  refine z_iconst (v := 3) b dX12_lawful_9 (by decide) ?_
  refine z_calli b (z_runS (As := [.int p0, .int 1, .int 3]) (st := []) b (c_X12_isIn_35 S p0 ) cf_X12_isIn wm_X12_1 ws_X12_isIn dX12_lawful_10 rfl (Nat.le_of_ble_eq_true rfl) ⟨by decide, by decide, by decide, by decide⟩) (fun r5637 u5638 h5636 => ?_)
  rcases h5636 with ⟨c5639, rfl, rfl⟩ | ⟨c5640, rfl, rfl⟩
  · refine z_if_eq_t (tgt := 36) b dX12_lawful_13 (by decide) (by decide) ?_
    refine z_iconst (v := (-1)) b dX12_lawful_36 (by decide) ?_
    exact z_iret (u := S) b rfl dX12_lawful_37 ⟨rfl, rfl⟩ rfl (by decide) (by decide)
  · refine z_if_eq_f (tgt := 36) b dX12_lawful_13 (by decide) (by decide) ?_
    refine z_iload_n b dX12_lawful_16 rfl rfl ?_
    refine z_iconst (v := 0) b dX12_lawful_17 (by decide) ?_
    refine z_bipush (v := 31) b dX12_lawful_18 (by decide) ?_
    refine z_calli b (z_runS (As := [.int p1, .int 0, .int 31]) (st := []) b (c_X12_isIn_36 S p1 ) cf_X12_isIn wm_X12_1 ws_X12_isIn dX12_lawful_20 rfl (Nat.le_of_ble_eq_true rfl) ⟨by decide, by decide, by decide, by decide⟩) (fun r5642 u5643 h5641 => ?_)
    rcases h5641 with ⟨c5644, rfl, rfl⟩ | ⟨c5645, rfl, rfl⟩
    · refine z_if_eq_t (tgt := 36) b dX12_lawful_23 (by decide) (by decide) ?_
      refine z_iconst (v := (-1)) b dX12_lawful_36 (by decide) ?_
      exact z_iret (u := S) b rfl dX12_lawful_37 ⟨rfl, rfl⟩ rfl (by decide) (by decide)
    · refine z_if_eq_f (tgt := 36) b dX12_lawful_23 (by decide) (by decide) ?_
      refine z_iload b dX12_lawful_26 rfl ?_
      refine z_iconst (v := 0) b dX12_lawful_28 (by decide) ?_
      refine z_iconst (v := 1) b dX12_lawful_29 (by decide) ?_
      refine z_calli b (z_runS (As := [.int p2, .int 0, .int 1]) (st := []) b (c_X12_isIn_8 S p2 ) cf_X12_isIn wm_X12_1 ws_X12_isIn dX12_lawful_30 rfl (Nat.le_of_ble_eq_true rfl) ⟨by decide, by decide, by decide, by decide⟩) (fun r5647 u5648 h5646 => ?_)
      rcases h5646 with ⟨c5649, rfl, rfl⟩ | ⟨c5650, rfl, rfl⟩
      · refine z_if_ne_f (tgt := 38) b dX12_lawful_33 (by decide) (by decide) ?_
        refine z_iconst (v := (-1)) b dX12_lawful_36 (by decide) ?_
        exact z_iret (u := S) b rfl dX12_lawful_37 ⟨rfl, rfl⟩ rfl (by decide) (by decide)
      · exfalso; omega

set_option maxHeartbeats 4000000 in
set_option maxRecDepth 100000 in
theorem c_X2_follow_3 {l : Launch} {D : va_G} {cy : Nat → ClassId} {T0 tB tE : Nat} {a : Nat → Nat} {rw : Nat → Option Nat} (S : GS) (p0 : Int32) (p1 : Int32) (h_i_14 : fi S 14 = (-1)) (h_i_31 : fi S 31 = 0) : Ct l D cy T0 tB tE yX2_follow cX2_follow 6 (some .int) 2 61 0 0 (cw cy tE a rw S) [.ref (a 16), .ref (a 40), .ref (a 14), .int p0, .int p1] (QI D (U := GS) (fun r u => 0 = r ∧ sa S 8 (va_cpy (ar S 4) (ar S 8) 0 0 51) = u) (cw cy tE a rw)) := by
  refine Ct.ofZ RX2 "follow" [(0, .ref (a 16)), (1, .ref (a 40)), (2, .ref (a 14)), (3, .int p0), (4, .int p1)] rfl rfl rfl rfl (Nat.le_of_ble_eq_true rfl) ?_
  intro p e R s m args below meth c A b
  refine z_aload_n b dX2_follow_0 rfl rfl ?_
  refine z_get (q0 := 16) (k9 := 3) (v := .ref (a 23)) b (cw_16 cy tE a rw S) rfl in_X2 (by decide) wf_X2_25 rfl dX2_follow_1 ?_
  refine z_aload_n b dX2_follow_4 rfl rfl ?_
  refine z_callv b (z_runV (q0 := 23) (As := [.ref (a 14)]) (st := []) b (c_X9_copy S ) cf_X9_copy (cw_23 cy tE a rw S) rfl wm_X2_80 wi_X9_copy ws_X9_copy dX2_follow_5 rfl (Nat.le_of_ble_eq_true rfl) ⟨by decide, by decide, by decide, by decide⟩) (fun u5669 h5667 => ?_)
  obtain rfl := h5667
  refine z_aload_n b dX2_follow_8 rfl rfl ?_
  refine z_iconst (v := (-1)) b dX2_follow_9 (by decide) ?_
  refine z_put (q0 := 16) (k9 := 4) tyX2 b (cw_16 cy tE a rw (sa S 8 (va_cpy (ar S 4) (ar S 8) 0 0 51))) rfl in_X2 tyX2_ok nmX2 (by decide) wf_X2_28 rfl rfl rfl rfl (Nat.le_of_ble_eq_true rfl) dX2_follow_10 ((cwp_16_4 cy tE a rw (sa S 8 (va_cpy (ar S 4) (ar S 8) 0 0 51)) (-1)).trans (congrArg (cw cy tE a rw) (si_same h_i_14))) ?_
  refine z_iconst (v := 0) b dX2_follow_13 (by decide) ?_
  refine z_istore (lv' := [(5, .int 0), (0, .ref (a 16)), (1, .ref (a 40)), (2, .ref (a 14)), (3, .int p0), (4, .int p1)]) b dX2_follow_14 (by decide) rfl ?_
  refine z_iload b dX2_follow_16 rfl ?_
  refine z_aload_n b dX2_follow_18 rfl rfl ?_
  refine z_get (q0 := 40) (k9 := 1) (v := .int (fi (sa S 8 (va_cpy (ar S 4) (ar S 8) 0 0 51)) 31)) b (cw_40 cy tE a rw (sa S 8 (va_cpy (ar S 4) (ar S 8) 0 0 51))) rfl in_X7 (by decide) wf_X2_108 rfl dX2_follow_19 ?_
  refine z_eqi h_i_31 ?_
  refine z_icmp_ge_t (tgt := 74) b dX2_follow_22 (by decide) (by decide) ?_
  refine z_aload_n b dX2_follow_74 rfl rfl ?_
  refine z_get (q0 := 40) (k9 := 1) (v := .int (fi (sa S 8 (va_cpy (ar S 4) (ar S 8) 0 0 51)) 31)) b (cw_40 cy tE a rw (sa S 8 (va_cpy (ar S 4) (ar S 8) 0 0 51))) rfl in_X7 (by decide) wf_X2_108 rfl dX2_follow_75 ?_
  refine z_eqi h_i_31 ?_
  exact z_iret (u := (sa S 8 (va_cpy (ar S 4) (ar S 8) 0 0 51))) b rfl dX2_follow_78 ⟨rfl, rfl⟩ rfl (by decide) (by decide)

set_option maxHeartbeats 4000000 in
set_option maxRecDepth 100000 in
theorem c_X11_lawful_36 {l : Launch} {D : va_G} {cy : Nat → ClassId} {T0 tB tE : Nat} {a : Nat → Nat} {rw : Nat → Option Nat} (S : GS) (p0 : Int32) (p1 : Int32) (h_i_14 : fi S 14 = (-1)) (h_i_31 : fi S 31 = 0) (hrw : ∀ i, i < 6 → rw i = some (a (36 + 2 * i))) (hr_p0 : 1 ≤ p0.toInt ∧ p0.toInt ≤ 3) (hr_p1 : 0 ≤ p1.toInt ∧ p1.toInt ≤ 31) : Ct l D cy T0 tB tE yX11_lawful cX11_lawful 6 (some .int) 3 86 0 0 (cw cy tE a rw S) [.ref (a 0), .int 2, .int p0, .int p1, .int 0] (QI D (U := GS) (fun r u => ((((((p0.toInt < 1)) ∨ ((1 ≤ p0.toInt) ∧ (3 < p0.toInt)))) ∨ (((1 ≤ p0.toInt) ∧ (p0.toInt ≤ 3)) ∧ (((p1.toInt < 0)) ∨ ((0 ≤ p1.toInt) ∧ (31 < p1.toInt))))) ∧ (-1) = r ∧ S = u) ∨ ((((1 ≤ p0.toInt) ∧ (p0.toInt ≤ 3)) ∧ ((0 ≤ p1.toInt) ∧ (p1.toInt ≤ 31))) ∧ 0 = r ∧ sa S 8 (va_cpy (ar S 4) (ar S 8) 0 0 51) = u)) (cw cy tE a rw)) := by
  refine Ct.ofZ RX11 "lawful" [(0, .ref (a 0)), (1, .int 2), (2, .int p0), (3, .int p1), (4, .int 0)] rfl rfl rfl rfl (Nat.le_of_ble_eq_true rfl) ?_
  intro p e R s m args below meth c A b
  refine z_iload_n b dX11_lawful_0 rfl rfl ?_
  refine z_calli b (z_runS (As := [.int 2]) (st := []) b (c_X11_isRow_4 S ) cf_X11_isRow wm_X11_169 ws_X11_isRow dX11_lawful_1 rfl (Nat.le_of_ble_eq_true rfl) ⟨by decide, by decide, by decide, by decide⟩) (fun r5652 u5653 h5651 => ?_)
  obtain ⟨rfl, rfl⟩ := h5651
  refine z_if_eq_f (tgt := 32) b dX11_lawful_4 (by decide) (by decide) ?_
  refine z_iload_n b dX11_lawful_7 rfl rfl ?_
  refine z_calli b (z_runS (As := [.int p0]) (st := []) b (c_X11_areLaws S p0 ) cf_X11_areLaws wm_X11_181 ws_X11_areLaws dX11_lawful_8 rfl (Nat.le_of_ble_eq_true rfl) ⟨by decide, by decide, by decide, by decide⟩) (fun r5655 u5656 h5654 => ?_)
  rcases h5654 with ⟨c5657, rfl, rfl⟩ | ⟨c5658, rfl, rfl⟩
  · refine z_if_eq_t (tgt := 32) b dX11_lawful_11 (by decide) (by decide) ?_
    refine z_iconst (v := (-1)) b dX11_lawful_32 (by decide) ?_
    exact z_iret (u := S) b rfl dX11_lawful_33 (Or.inl ⟨(Or.inl c5657), rfl, rfl⟩) rfl (by decide) (by decide)
  · refine z_if_eq_f (tgt := 32) b dX11_lawful_11 (by decide) (by decide) ?_
    refine z_iload_n b dX11_lawful_14 rfl rfl ?_
    refine z_bipush (v := 31) b dX11_lawful_15 (by decide) ?_
    refine z_calli b (z_runS (As := [.int p1, .int 31]) (st := []) b (c_X11_isWithin_11 S p1 ) cf_X11_isWithin wm_X11_73 ws_X11_isWithin dX11_lawful_17 rfl (Nat.le_of_ble_eq_true rfl) ⟨by decide, by decide, by decide, by decide⟩) (fun r5660 u5661 h5659 => ?_)
    rcases h5659 with ⟨c5662, rfl, rfl⟩ | ⟨c5663, rfl, rfl⟩
    · refine z_if_eq_t (tgt := 32) b dX11_lawful_20 (by decide) (by decide) ?_
      refine z_iconst (v := (-1)) b dX11_lawful_32 (by decide) ?_
      exact z_iret (u := S) b rfl dX11_lawful_33 (Or.inl ⟨(Or.inr ⟨c5658, c5662⟩), rfl, rfl⟩) rfl (by decide) (by decide)
    · refine z_if_eq_f (tgt := 32) b dX11_lawful_20 (by decide) (by decide) ?_
      refine z_iload b dX11_lawful_23 rfl ?_
      refine z_iconst (v := 1) b dX11_lawful_25 (by decide) ?_
      refine z_calli b (z_runS (As := [.int 0, .int 1]) (st := []) b (c_X11_isWithin_5 S ) cf_X11_isWithin wm_X11_73 ws_X11_isWithin dX11_lawful_26 rfl (Nat.le_of_ble_eq_true rfl) ⟨by decide, by decide, by decide, by decide⟩) (fun r5665 u5666 h5664 => ?_)
      obtain ⟨rfl, rfl⟩ := h5664
      refine z_if_ne_t (tgt := 34) b dX11_lawful_29 (by decide) (by decide) ?_
      refine z_aload_n b dX11_lawful_34 rfl rfl ?_
      refine z_get (q0 := 0) (k9 := 5) (v := .ref (a 16)) b (cw_0 cy tE a rw S) rfl in_X11 (by decide) wf_X11_43 rfl dX11_lawful_35 ?_
      refine z_aload_n b dX11_lawful_38 rfl rfl ?_
      refine z_get (q0 := 0) (k9 := 7) (v := .ref (a 35)) b (cw_0 cy tE a rw S) rfl in_X11 (by decide) wf_X11_58 rfl dX11_lawful_39 ?_
      refine z_iload_n b dX11_lawful_42 rfl rfl ?_
      refine y_aald (q0 := 35) (t0 := 4) (j := 2) (v := .ref (a 40)) b (cw_35 cy tE a rw S) rfl (by decide) (by rw [hrw 2 (by decide)]; rfl) dX11_lawful_43 ?_
      refine z_aload_n b dX11_lawful_44 rfl rfl ?_
      refine z_get (q0 := 0) (k9 := 4) (v := .ref (a 14)) b (cw_0 cy tE a rw S) rfl in_X11 (by decide) wf_X11_34 rfl dX11_lawful_45 ?_
      refine z_iload_n b dX11_lawful_48 rfl rfl ?_
      refine z_iload_n b dX11_lawful_49 rfl rfl ?_
      refine z_calli b (z_runV (q0 := 16) (As := [.ref (a 40), .ref (a 14), .int p0, .int p1]) (st := []) b (c_X2_follow_3 S p0 p1 h_i_14 h_i_31) cf_X2_follow (cw_16 cy tE a rw S) rfl wm_X11_184 wi_X2_follow ws_X2_follow dX11_lawful_50 rfl (Nat.le_of_ble_eq_true rfl) ⟨by decide, by decide, by decide, by decide⟩) (fun r5671 u5672 h5670 => ?_)
      obtain ⟨rfl, rfl⟩ := h5670
      refine z_istore (lv' := [(5, .int 0), (0, .ref (a 0)), (1, .int 2), (2, .int p0), (3, .int p1), (4, .int 0)]) b dX11_lawful_53 (by decide) rfl ?_
      refine z_iload b dX11_lawful_55 rfl ?_
      refine z_if_ne_f (tgt := 65) b dX11_lawful_57 (by decide) (by decide) ?_
      refine z_iload b dX11_lawful_60 rfl ?_
      refine z_goto (tgt := 72) b dX11_lawful_62 (by decide) ?_
      exact z_iret (u := (sa S 8 (va_cpy (ar S 4) (ar S 8) 0 0 51))) b rfl dX11_lawful_72 (Or.inr ⟨⟨c5658, c5663⟩, rfl, rfl⟩) rfl (by decide) (by decide)

set_option maxHeartbeats 4000000 in
set_option maxRecDepth 100000 in
theorem c_X12_goes_3 {l : Launch} {D : va_G} {cy : Nat → ClassId} {T0 tB tE : Nat} {a : Nat → Nat} (S : GS) (p0 : Int32) (p1 : Int32) (h_l_0 : fl S 0 = 1649317774848) (h_a_38_2 : ar S 38 2 = 0) : Ct l D cy T0 tB tE yX12_goes cX12_goes 5 (some .int) 0 0 0 0 (mw cy a S) [.ref (a 0), .int 2, .int p0, .int p1] (QI D (U := GS) (fun r u => 0 = r ∧ si (sl S 2 1649317774848) 24 (-1) = u) (mw cy a)) := by
  refine Ct.ofZ RX12 "goes" [(0, .ref (a 0)), (1, .int 2), (2, .int p0), (3, .int p1)] rfl rfl rfl rfl (Nat.le_of_ble_eq_true rfl) ?_
  intro p e R s m args below meth c A b
  refine z_aload_n b dX12_goes_0 rfl rfl ?_
  refine z_aload_n b dX12_goes_1 rfl rfl ?_
  refine z_get (q0 := 0) (k9 := 6) (v := .long (fl S 0)) b (mw_0 cy a S) rfl in_X12 (by decide) wf_X12_153 rfl dX12_goes_2 ?_
  refine z_eql h_l_0 ?_
  refine z_put (q0 := 0) (k9 := 68) tyX12 b (mw_0 cy a S) rfl in_X12 tyX12_ok nmX12 (by decide) wf_X12_458 rfl rfl rfl rfl (Nat.le_of_ble_eq_true rfl) dX12_goes_5 (mwp_0_68 cy a S 1649317774848) ?_
  refine z_aload_n b dX12_goes_8 rfl rfl ?_
  refine z_iconst (v := (-1)) b dX12_goes_9 (by decide) ?_
  refine z_put (q0 := 0) (k9 := 69) tyX12 b (mw_0 cy a (sl S 2 1649317774848)) rfl in_X12 tyX12_ok nmX12 (by decide) wf_X12_461 rfl rfl rfl rfl (Nat.le_of_ble_eq_true rfl) dX12_goes_10 (mwp_0_69 cy a (sl S 2 1649317774848) (-1)) ?_
  refine z_iconst (v := 0) b dX12_goes_13 (by decide) ?_
  refine z_istore (lv' := [(4, .int 0), (0, .ref (a 0)), (1, .int 2), (2, .int p0), (3, .int p1)]) b dX12_goes_14 (by decide) rfl ?_
  refine z_iload b dX12_goes_16 rfl ?_
  refine z_aload_n b dX12_goes_18 rfl rfl ?_
  refine z_get (q0 := 0) (k9 := 66) (v := .ref (a 41)) b (mw_0 cy a (si (sl S 2 1649317774848) 24 (-1))) rfl in_X12 (by decide) wf_X12_140 rfl dX12_goes_19 ?_
  refine z_iload_n b dX12_goes_22 rfl rfl ?_
  refine y_iald (q0 := 41) (j := 2) (v := (ar (si (sl S 2 1649317774848) 24 (-1)) 38 2)) b (mw_41 cy a (si (sl S 2 1649317774848) 24 (-1))) (by decide) rfl dX12_goes_23 ?_
  refine z_eqi h_a_38_2 ?_
  refine z_icmp_ge_t (tgt := 78) b dX12_goes_24 (by decide) (by decide) ?_
  refine z_aload_n b dX12_goes_78 rfl rfl ?_
  refine z_get (q0 := 0) (k9 := 66) (v := .ref (a 41)) b (mw_0 cy a (si (sl S 2 1649317774848) 24 (-1))) rfl in_X12 (by decide) wf_X12_140 rfl dX12_goes_79 ?_
  refine z_iload_n b dX12_goes_82 rfl rfl ?_
  refine y_iald (q0 := 41) (j := 2) (v := (ar (si (sl S 2 1649317774848) 24 (-1)) 38 2)) b (mw_41 cy a (si (sl S 2 1649317774848) 24 (-1))) (by decide) rfl dX12_goes_83 ?_
  refine z_eqi h_a_38_2 ?_
  exact z_iret (u := (si (sl S 2 1649317774848) 24 (-1))) b rfl dX12_goes_84 ⟨rfl, rfl⟩ rfl (by decide) (by decide)

set_option maxHeartbeats 4000000 in
set_option maxRecDepth 100000 in
theorem c_X12_lawful_36 {l : Launch} {D : va_G} {cy : Nat → ClassId} {T0 tB tE : Nat} {a : Nat → Nat} (S : GS) (p0 : Int32) (p1 : Int32) (h_l_0 : fl S 0 = 1649317774848) (h_a_38_2 : ar S 38 2 = 0) (hr_p0 : 1 ≤ p0.toInt ∧ p0.toInt ≤ 3) (hr_p1 : 0 ≤ p1.toInt ∧ p1.toInt ≤ 31) : Ct l D cy T0 tB tE yX12_lawful cX12_lawful 6 (some .int) 2 42 0 0 (mw cy a S) [.ref (a 0), .int 2, .int p0, .int p1, .int 0] (QI D (U := GS) (fun r u => ((((((p0.toInt < 1)) ∨ ((1 ≤ p0.toInt) ∧ (3 < p0.toInt)))) ∨ (((1 ≤ p0.toInt) ∧ (p0.toInt ≤ 3)) ∧ (((p1.toInt < 0)) ∨ ((0 ≤ p1.toInt) ∧ (31 < p1.toInt))))) ∧ (-1) = r ∧ S = u) ∨ ((((1 ≤ p0.toInt) ∧ (p0.toInt ≤ 3)) ∧ ((0 ≤ p1.toInt) ∧ (p1.toInt ≤ 31))) ∧ 0 = r ∧ si (sl S 2 1649317774848) 24 (-1) = u)) (mw cy a)) := by
  refine Ct.ofZ RX12 "lawful" [(0, .ref (a 0)), (1, .int 2), (2, .int p0), (3, .int p1), (4, .int 0)] rfl rfl rfl rfl (Nat.le_of_ble_eq_true rfl) ?_
  intro p e R s m args below meth c A b
  refine z_iload_n b dX12_lawful_0 rfl rfl ?_
  refine z_calli b (z_runS (As := [.int 2]) (st := []) b (c_X12_isRow_4 S ) cf_X12_isRow wm_X12_452 ws_X12_isRow dX12_lawful_1 rfl (Nat.le_of_ble_eq_true rfl) ⟨by decide, by decide, by decide, by decide⟩) (fun r5674 u5675 h5673 => ?_)
  obtain ⟨rfl, rfl⟩ := h5673
  refine z_if_eq_f (tgt := 36) b dX12_lawful_4 (by decide) (by decide) ?_
  refine z_iload_n b dX12_lawful_7 rfl rfl ?_
  refine z_iconst (v := 1) b dX12_lawful_8 (by decide) ?_
  refine z_iconst (v := 3) b dX12_lawful_9 (by decide) ?_
  refine z_calli b (z_runS (As := [.int p0, .int 1, .int 3]) (st := []) b (c_X12_isIn_35 S p0 ) cf_X12_isIn wm_X12_1 ws_X12_isIn dX12_lawful_10 rfl (Nat.le_of_ble_eq_true rfl) ⟨by decide, by decide, by decide, by decide⟩) (fun r5677 u5678 h5676 => ?_)
  rcases h5676 with ⟨c5679, rfl, rfl⟩ | ⟨c5680, rfl, rfl⟩
  · refine z_if_eq_t (tgt := 36) b dX12_lawful_13 (by decide) (by decide) ?_
    refine z_iconst (v := (-1)) b dX12_lawful_36 (by decide) ?_
    exact z_iret (u := S) b rfl dX12_lawful_37 (Or.inl ⟨(Or.inl c5679), rfl, rfl⟩) rfl (by decide) (by decide)
  · refine z_if_eq_f (tgt := 36) b dX12_lawful_13 (by decide) (by decide) ?_
    refine z_iload_n b dX12_lawful_16 rfl rfl ?_
    refine z_iconst (v := 0) b dX12_lawful_17 (by decide) ?_
    refine z_bipush (v := 31) b dX12_lawful_18 (by decide) ?_
    refine z_calli b (z_runS (As := [.int p1, .int 0, .int 31]) (st := []) b (c_X12_isIn_36 S p1 ) cf_X12_isIn wm_X12_1 ws_X12_isIn dX12_lawful_20 rfl (Nat.le_of_ble_eq_true rfl) ⟨by decide, by decide, by decide, by decide⟩) (fun r5682 u5683 h5681 => ?_)
    rcases h5681 with ⟨c5684, rfl, rfl⟩ | ⟨c5685, rfl, rfl⟩
    · refine z_if_eq_t (tgt := 36) b dX12_lawful_23 (by decide) (by decide) ?_
      refine z_iconst (v := (-1)) b dX12_lawful_36 (by decide) ?_
      exact z_iret (u := S) b rfl dX12_lawful_37 (Or.inl ⟨(Or.inr ⟨c5680, c5684⟩), rfl, rfl⟩) rfl (by decide) (by decide)
    · refine z_if_eq_f (tgt := 36) b dX12_lawful_23 (by decide) (by decide) ?_
      refine z_iload b dX12_lawful_26 rfl ?_
      refine z_iconst (v := 0) b dX12_lawful_28 (by decide) ?_
      refine z_iconst (v := 1) b dX12_lawful_29 (by decide) ?_
      refine z_calli b (z_runS (As := [.int 0, .int 0, .int 1]) (st := []) b (c_X12_isIn_9 S ) cf_X12_isIn wm_X12_1 ws_X12_isIn dX12_lawful_30 rfl (Nat.le_of_ble_eq_true rfl) ⟨by decide, by decide, by decide, by decide⟩) (fun r5687 u5688 h5686 => ?_)
      obtain ⟨rfl, rfl⟩ := h5686
      refine z_if_ne_t (tgt := 38) b dX12_lawful_33 (by decide) (by decide) ?_
      refine z_aload_n b dX12_lawful_38 rfl rfl ?_
      refine z_iload_n b dX12_lawful_39 rfl rfl ?_
      refine z_iload_n b dX12_lawful_40 rfl rfl ?_
      refine z_iload_n b dX12_lawful_41 rfl rfl ?_
      refine z_calli b (z_runV (q0 := 0) (As := [.int 2, .int p0, .int p1]) (st := []) b (c_X12_goes_3 S p0 p1 h_l_0 h_a_38_2) cf_X12_goes (mw_0 cy a S) rfl wm_X12_464 wi_X12_goes ws_X12_goes dX12_lawful_42 rfl (Nat.le_of_ble_eq_true rfl) ⟨by decide, by decide, by decide, by decide⟩) (fun r5690 u5691 h5689 => ?_)
      obtain ⟨rfl, rfl⟩ := h5689
      refine z_istore (lv' := [(5, .int 0), (0, .ref (a 0)), (1, .int 2), (2, .int p0), (3, .int p1), (4, .int 0)]) b dX12_lawful_45 (by decide) rfl ?_
      refine z_iload b dX12_lawful_47 rfl ?_
      refine z_if_ne_f (tgt := 57) b dX12_lawful_49 (by decide) (by decide) ?_
      refine z_iload b dX12_lawful_52 rfl ?_
      refine z_goto (tgt := 61) b dX12_lawful_54 (by decide) ?_
      exact z_iret (u := (si (sl S 2 1649317774848) 24 (-1))) b rfl dX12_lawful_61 (Or.inr ⟨⟨c5680, c5685⟩, rfl, rfl⟩) rfl (by decide) (by decide)

set_option maxHeartbeats 4000000 in
set_option maxRecDepth 100000 in
theorem c_X11_lawful_37 {l : Launch} {D : va_G} {cy : Nat → ClassId} {T0 tB tE : Nat} {a : Nat → Nat} {rw : Nat → Option Nat} (S : GS) (p0 : Int32) (p1 : Int32) (h_i_14 : fi S 14 = (-1)) (h_i_31 : fi S 31 = 0) (hrw : ∀ i, i < 6 → rw i = some (a (36 + 2 * i))) (hr_p0 : 1 ≤ p0.toInt ∧ p0.toInt ≤ 3) (hr_p1 : 0 ≤ p1.toInt ∧ p1.toInt ≤ 31) : Ct l D cy T0 tB tE yX11_lawful cX11_lawful 6 (some .int) 3 86 0 0 (cw cy tE a rw S) [.ref (a 0), .int 2, .int p0, .int p1, .int 1] (QI D (U := GS) (fun r u => ((((((p0.toInt < 1)) ∨ ((1 ≤ p0.toInt) ∧ (3 < p0.toInt)))) ∨ (((1 ≤ p0.toInt) ∧ (p0.toInt ≤ 3)) ∧ (((p1.toInt < 0)) ∨ ((0 ≤ p1.toInt) ∧ (31 < p1.toInt))))) ∧ (-1) = r ∧ S = u) ∨ ((((1 ≤ p0.toInt) ∧ (p0.toInt ≤ 3)) ∧ ((0 ≤ p1.toInt) ∧ (p1.toInt ≤ 31))) ∧ (-1) = r ∧ sa S 8 (va_cpy (ar S 4) (ar S 8) 0 0 51) = u)) (cw cy tE a rw)) := by
  refine Ct.ofZ RX11 "lawful" [(0, .ref (a 0)), (1, .int 2), (2, .int p0), (3, .int p1), (4, .int 1)] rfl rfl rfl rfl (Nat.le_of_ble_eq_true rfl) ?_
  intro p e R s m args below meth c A b
  refine z_iload_n b dX11_lawful_0 rfl rfl ?_
  refine z_calli b (z_runS (As := [.int 2]) (st := []) b (c_X11_isRow_4 S ) cf_X11_isRow wm_X11_169 ws_X11_isRow dX11_lawful_1 rfl (Nat.le_of_ble_eq_true rfl) ⟨by decide, by decide, by decide, by decide⟩) (fun r5693 u5694 h5692 => ?_)
  obtain ⟨rfl, rfl⟩ := h5692
  refine z_if_eq_f (tgt := 32) b dX11_lawful_4 (by decide) (by decide) ?_
  refine z_iload_n b dX11_lawful_7 rfl rfl ?_
  refine z_calli b (z_runS (As := [.int p0]) (st := []) b (c_X11_areLaws S p0 ) cf_X11_areLaws wm_X11_181 ws_X11_areLaws dX11_lawful_8 rfl (Nat.le_of_ble_eq_true rfl) ⟨by decide, by decide, by decide, by decide⟩) (fun r5696 u5697 h5695 => ?_)
  rcases h5695 with ⟨c5698, rfl, rfl⟩ | ⟨c5699, rfl, rfl⟩
  · refine z_if_eq_t (tgt := 32) b dX11_lawful_11 (by decide) (by decide) ?_
    refine z_iconst (v := (-1)) b dX11_lawful_32 (by decide) ?_
    exact z_iret (u := S) b rfl dX11_lawful_33 (Or.inl ⟨(Or.inl c5698), rfl, rfl⟩) rfl (by decide) (by decide)
  · refine z_if_eq_f (tgt := 32) b dX11_lawful_11 (by decide) (by decide) ?_
    refine z_iload_n b dX11_lawful_14 rfl rfl ?_
    refine z_bipush (v := 31) b dX11_lawful_15 (by decide) ?_
    refine z_calli b (z_runS (As := [.int p1, .int 31]) (st := []) b (c_X11_isWithin_11 S p1 ) cf_X11_isWithin wm_X11_73 ws_X11_isWithin dX11_lawful_17 rfl (Nat.le_of_ble_eq_true rfl) ⟨by decide, by decide, by decide, by decide⟩) (fun r5701 u5702 h5700 => ?_)
    rcases h5700 with ⟨c5703, rfl, rfl⟩ | ⟨c5704, rfl, rfl⟩
    · refine z_if_eq_t (tgt := 32) b dX11_lawful_20 (by decide) (by decide) ?_
      refine z_iconst (v := (-1)) b dX11_lawful_32 (by decide) ?_
      exact z_iret (u := S) b rfl dX11_lawful_33 (Or.inl ⟨(Or.inr ⟨c5699, c5703⟩), rfl, rfl⟩) rfl (by decide) (by decide)
    · refine z_if_eq_f (tgt := 32) b dX11_lawful_20 (by decide) (by decide) ?_
      refine z_iload b dX11_lawful_23 rfl ?_
      refine z_iconst (v := 1) b dX11_lawful_25 (by decide) ?_
      refine z_calli b (z_runS (As := [.int 1, .int 1]) (st := []) b (c_X11_isWithin_6 S ) cf_X11_isWithin wm_X11_73 ws_X11_isWithin dX11_lawful_26 rfl (Nat.le_of_ble_eq_true rfl) ⟨by decide, by decide, by decide, by decide⟩) (fun r5706 u5707 h5705 => ?_)
      obtain ⟨rfl, rfl⟩ := h5705
      refine z_if_ne_t (tgt := 34) b dX11_lawful_29 (by decide) (by decide) ?_
      refine z_aload_n b dX11_lawful_34 rfl rfl ?_
      refine z_get (q0 := 0) (k9 := 5) (v := .ref (a 16)) b (cw_0 cy tE a rw S) rfl in_X11 (by decide) wf_X11_43 rfl dX11_lawful_35 ?_
      refine z_aload_n b dX11_lawful_38 rfl rfl ?_
      refine z_get (q0 := 0) (k9 := 7) (v := .ref (a 35)) b (cw_0 cy tE a rw S) rfl in_X11 (by decide) wf_X11_58 rfl dX11_lawful_39 ?_
      refine z_iload_n b dX11_lawful_42 rfl rfl ?_
      refine y_aald (q0 := 35) (t0 := 4) (j := 2) (v := .ref (a 40)) b (cw_35 cy tE a rw S) rfl (by decide) (by rw [hrw 2 (by decide)]; rfl) dX11_lawful_43 ?_
      refine z_aload_n b dX11_lawful_44 rfl rfl ?_
      refine z_get (q0 := 0) (k9 := 4) (v := .ref (a 14)) b (cw_0 cy tE a rw S) rfl in_X11 (by decide) wf_X11_34 rfl dX11_lawful_45 ?_
      refine z_iload_n b dX11_lawful_48 rfl rfl ?_
      refine z_iload_n b dX11_lawful_49 rfl rfl ?_
      refine z_calli b (z_runV (q0 := 16) (As := [.ref (a 40), .ref (a 14), .int p0, .int p1]) (st := []) b (c_X2_follow_3 S p0 p1 h_i_14 h_i_31) cf_X2_follow (cw_16 cy tE a rw S) rfl wm_X11_184 wi_X2_follow ws_X2_follow dX11_lawful_50 rfl (Nat.le_of_ble_eq_true rfl) ⟨by decide, by decide, by decide, by decide⟩) (fun r5709 u5710 h5708 => ?_)
      obtain ⟨rfl, rfl⟩ := h5708
      refine z_istore (lv' := [(5, .int 0), (0, .ref (a 0)), (1, .int 2), (2, .int p0), (3, .int p1), (4, .int 1)]) b dX11_lawful_53 (by decide) rfl ?_
      refine z_iload b dX11_lawful_55 rfl ?_
      refine z_if_ne_t (tgt := 65) b dX11_lawful_57 (by decide) (by decide) ?_
      refine z_aload_n b dX11_lawful_65 rfl rfl ?_
      refine z_get (q0 := 0) (k9 := 5) (v := .ref (a 16)) b (cw_0 cy tE a rw (sa S 8 (va_cpy (ar S 4) (ar S 8) 0 0 51))) rfl in_X11 (by decide) wf_X11_43 rfl dX11_lawful_66 ?_
      refine z_get (q0 := 16) (k9 := 4) (v := .int (fi (sa S 8 (va_cpy (ar S 4) (ar S 8) 0 0 51)) 14)) b (cw_16 cy tE a rw (sa S 8 (va_cpy (ar S 4) (ar S 8) 0 0 51))) rfl in_X2 (by decide) wf_X11_188 rfl dX11_lawful_69 ?_
      refine z_eqi h_i_14 ?_
      exact z_iret (u := (sa S 8 (va_cpy (ar S 4) (ar S 8) 0 0 51))) b rfl dX11_lawful_72 (Or.inr ⟨⟨c5699, c5704⟩, rfl, rfl⟩) rfl (by decide) (by decide)

set_option maxHeartbeats 4000000 in
set_option maxRecDepth 100000 in
theorem c_X12_lawful_37 {l : Launch} {D : va_G} {cy : Nat → ClassId} {T0 tB tE : Nat} {a : Nat → Nat} (S : GS) (p0 : Int32) (p1 : Int32) (h_l_0 : fl S 0 = 1649317774848) (h_a_38_2 : ar S 38 2 = 0) (hr_p0 : 1 ≤ p0.toInt ∧ p0.toInt ≤ 3) (hr_p1 : 0 ≤ p1.toInt ∧ p1.toInt ≤ 31) : Ct l D cy T0 tB tE yX12_lawful cX12_lawful 6 (some .int) 2 42 0 0 (mw cy a S) [.ref (a 0), .int 2, .int p0, .int p1, .int 1] (QI D (U := GS) (fun r u => ((((((p0.toInt < 1)) ∨ ((1 ≤ p0.toInt) ∧ (3 < p0.toInt)))) ∨ (((1 ≤ p0.toInt) ∧ (p0.toInt ≤ 3)) ∧ (((p1.toInt < 0)) ∨ ((0 ≤ p1.toInt) ∧ (31 < p1.toInt))))) ∧ (-1) = r ∧ S = u) ∨ ((((1 ≤ p0.toInt) ∧ (p0.toInt ≤ 3)) ∧ ((0 ≤ p1.toInt) ∧ (p1.toInt ≤ 31))) ∧ (-1) = r ∧ si (sl S 2 1649317774848) 24 (-1) = u)) (mw cy a)) := by
  refine Ct.ofZ RX12 "lawful" [(0, .ref (a 0)), (1, .int 2), (2, .int p0), (3, .int p1), (4, .int 1)] rfl rfl rfl rfl (Nat.le_of_ble_eq_true rfl) ?_
  intro p e R s m args below meth c A b
  refine z_iload_n b dX12_lawful_0 rfl rfl ?_
  refine z_calli b (z_runS (As := [.int 2]) (st := []) b (c_X12_isRow_4 S ) cf_X12_isRow wm_X12_452 ws_X12_isRow dX12_lawful_1 rfl (Nat.le_of_ble_eq_true rfl) ⟨by decide, by decide, by decide, by decide⟩) (fun r5712 u5713 h5711 => ?_)
  obtain ⟨rfl, rfl⟩ := h5711
  refine z_if_eq_f (tgt := 36) b dX12_lawful_4 (by decide) (by decide) ?_
  refine z_iload_n b dX12_lawful_7 rfl rfl ?_
  refine z_iconst (v := 1) b dX12_lawful_8 (by decide) ?_
  refine z_iconst (v := 3) b dX12_lawful_9 (by decide) ?_
  refine z_calli b (z_runS (As := [.int p0, .int 1, .int 3]) (st := []) b (c_X12_isIn_35 S p0 ) cf_X12_isIn wm_X12_1 ws_X12_isIn dX12_lawful_10 rfl (Nat.le_of_ble_eq_true rfl) ⟨by decide, by decide, by decide, by decide⟩) (fun r5715 u5716 h5714 => ?_)
  rcases h5714 with ⟨c5717, rfl, rfl⟩ | ⟨c5718, rfl, rfl⟩
  · refine z_if_eq_t (tgt := 36) b dX12_lawful_13 (by decide) (by decide) ?_
    refine z_iconst (v := (-1)) b dX12_lawful_36 (by decide) ?_
    exact z_iret (u := S) b rfl dX12_lawful_37 (Or.inl ⟨(Or.inl c5717), rfl, rfl⟩) rfl (by decide) (by decide)
  · refine z_if_eq_f (tgt := 36) b dX12_lawful_13 (by decide) (by decide) ?_
    refine z_iload_n b dX12_lawful_16 rfl rfl ?_
    refine z_iconst (v := 0) b dX12_lawful_17 (by decide) ?_
    refine z_bipush (v := 31) b dX12_lawful_18 (by decide) ?_
    refine z_calli b (z_runS (As := [.int p1, .int 0, .int 31]) (st := []) b (c_X12_isIn_36 S p1 ) cf_X12_isIn wm_X12_1 ws_X12_isIn dX12_lawful_20 rfl (Nat.le_of_ble_eq_true rfl) ⟨by decide, by decide, by decide, by decide⟩) (fun r5720 u5721 h5719 => ?_)
    rcases h5719 with ⟨c5722, rfl, rfl⟩ | ⟨c5723, rfl, rfl⟩
    · refine z_if_eq_t (tgt := 36) b dX12_lawful_23 (by decide) (by decide) ?_
      refine z_iconst (v := (-1)) b dX12_lawful_36 (by decide) ?_
      exact z_iret (u := S) b rfl dX12_lawful_37 (Or.inl ⟨(Or.inr ⟨c5718, c5722⟩), rfl, rfl⟩) rfl (by decide) (by decide)
    · refine z_if_eq_f (tgt := 36) b dX12_lawful_23 (by decide) (by decide) ?_
      refine z_iload b dX12_lawful_26 rfl ?_
      refine z_iconst (v := 0) b dX12_lawful_28 (by decide) ?_
      refine z_iconst (v := 1) b dX12_lawful_29 (by decide) ?_
      refine z_calli b (z_runS (As := [.int 1, .int 0, .int 1]) (st := []) b (c_X12_isIn_10 S ) cf_X12_isIn wm_X12_1 ws_X12_isIn dX12_lawful_30 rfl (Nat.le_of_ble_eq_true rfl) ⟨by decide, by decide, by decide, by decide⟩) (fun r5725 u5726 h5724 => ?_)
      obtain ⟨rfl, rfl⟩ := h5724
      refine z_if_ne_t (tgt := 38) b dX12_lawful_33 (by decide) (by decide) ?_
      refine z_aload_n b dX12_lawful_38 rfl rfl ?_
      refine z_iload_n b dX12_lawful_39 rfl rfl ?_
      refine z_iload_n b dX12_lawful_40 rfl rfl ?_
      refine z_iload_n b dX12_lawful_41 rfl rfl ?_
      refine z_calli b (z_runV (q0 := 0) (As := [.int 2, .int p0, .int p1]) (st := []) b (c_X12_goes_3 S p0 p1 h_l_0 h_a_38_2) cf_X12_goes (mw_0 cy a S) rfl wm_X12_464 wi_X12_goes ws_X12_goes dX12_lawful_42 rfl (Nat.le_of_ble_eq_true rfl) ⟨by decide, by decide, by decide, by decide⟩) (fun r5728 u5729 h5727 => ?_)
      obtain ⟨rfl, rfl⟩ := h5727
      refine z_istore (lv' := [(5, .int 0), (0, .ref (a 0)), (1, .int 2), (2, .int p0), (3, .int p1), (4, .int 1)]) b dX12_lawful_45 (by decide) rfl ?_
      refine z_iload b dX12_lawful_47 rfl ?_
      refine z_if_ne_t (tgt := 57) b dX12_lawful_49 (by decide) (by decide) ?_
      refine z_aload_n b dX12_lawful_57 rfl rfl ?_
      refine z_get (q0 := 0) (k9 := 69) (v := .int (-1)) b (mw_0 cy a (si (sl S 2 1649317774848) 24 (-1))) rfl in_X12 (by decide) wf_X12_461 rfl dX12_lawful_58 ?_
      exact z_iret (u := (si (sl S 2 1649317774848) 24 (-1))) b rfl dX12_lawful_61 (Or.inr ⟨⟨c5718, c5723⟩, rfl, rfl⟩) rfl (by decide) (by decide)

set_option maxHeartbeats 4000000 in
set_option maxRecDepth 100000 in
theorem c_X11_lawful_38 {l : Launch} {D : va_G} {cy : Nat → ClassId} {T0 tB tE : Nat} {a : Nat → Nat} {rw : Nat → Option Nat} (S : GS) (p0 : Int32) (p1 : Int32) (p2 : Int32)  (hr_p0 : 1 ≤ p0.toInt ∧ p0.toInt ≤ 3) (hr_p1 : 0 ≤ p1.toInt ∧ p1.toInt ≤ 31) (hr_p2 : 2 ≤ p2.toInt ∧ p2.toInt ≤ 2147483647) : Ct l D cy T0 tB tE yX11_lawful cX11_lawful 6 (some .int) 1 21 0 0 (cw cy tE a rw S) [.ref (a 0), .int 2, .int p0, .int p1, .int p2] (QI D (U := GS) (fun r u => (-1) = r ∧ S = u) (cw cy tE a rw)) := by
  refine Ct.ofZ RX11 "lawful" [(0, .ref (a 0)), (1, .int 2), (2, .int p0), (3, .int p1), (4, .int p2)] rfl rfl rfl rfl (Nat.le_of_ble_eq_true rfl) ?_
  intro p e R s m args below meth c A b
  refine z_iload_n b dX11_lawful_0 rfl rfl ?_
  refine z_calli b (z_runS (As := [.int 2]) (st := []) b (c_X11_isRow_4 S ) cf_X11_isRow wm_X11_169 ws_X11_isRow dX11_lawful_1 rfl (Nat.le_of_ble_eq_true rfl) ⟨by decide, by decide, by decide, by decide⟩) (fun r5731 u5732 h5730 => ?_)
  obtain ⟨rfl, rfl⟩ := h5730
  refine z_if_eq_f (tgt := 32) b dX11_lawful_4 (by decide) (by decide) ?_
  refine z_iload_n b dX11_lawful_7 rfl rfl ?_
  refine z_calli b (z_runS (As := [.int p0]) (st := []) b (c_X11_areLaws S p0 ) cf_X11_areLaws wm_X11_181 ws_X11_areLaws dX11_lawful_8 rfl (Nat.le_of_ble_eq_true rfl) ⟨by decide, by decide, by decide, by decide⟩) (fun r5734 u5735 h5733 => ?_)
  rcases h5733 with ⟨c5736, rfl, rfl⟩ | ⟨c5737, rfl, rfl⟩
  · refine z_if_eq_t (tgt := 32) b dX11_lawful_11 (by decide) (by decide) ?_
    refine z_iconst (v := (-1)) b dX11_lawful_32 (by decide) ?_
    exact z_iret (u := S) b rfl dX11_lawful_33 ⟨rfl, rfl⟩ rfl (by decide) (by decide)
  · refine z_if_eq_f (tgt := 32) b dX11_lawful_11 (by decide) (by decide) ?_
    refine z_iload_n b dX11_lawful_14 rfl rfl ?_
    refine z_bipush (v := 31) b dX11_lawful_15 (by decide) ?_
    refine z_calli b (z_runS (As := [.int p1, .int 31]) (st := []) b (c_X11_isWithin_11 S p1 ) cf_X11_isWithin wm_X11_73 ws_X11_isWithin dX11_lawful_17 rfl (Nat.le_of_ble_eq_true rfl) ⟨by decide, by decide, by decide, by decide⟩) (fun r5739 u5740 h5738 => ?_)
    rcases h5738 with ⟨c5741, rfl, rfl⟩ | ⟨c5742, rfl, rfl⟩
    · refine z_if_eq_t (tgt := 32) b dX11_lawful_20 (by decide) (by decide) ?_
      refine z_iconst (v := (-1)) b dX11_lawful_32 (by decide) ?_
      exact z_iret (u := S) b rfl dX11_lawful_33 ⟨rfl, rfl⟩ rfl (by decide) (by decide)
    · refine z_if_eq_f (tgt := 32) b dX11_lawful_20 (by decide) (by decide) ?_
      refine z_iload b dX11_lawful_23 rfl ?_
      refine z_iconst (v := 1) b dX11_lawful_25 (by decide) ?_
      refine z_calli b (z_runS (As := [.int p2, .int 1]) (st := []) b (c_X11_isWithin_4 S p2 ) cf_X11_isWithin wm_X11_73 ws_X11_isWithin dX11_lawful_26 rfl (Nat.le_of_ble_eq_true rfl) ⟨by decide, by decide, by decide, by decide⟩) (fun r5744 u5745 h5743 => ?_)
      rcases h5743 with ⟨c5746, rfl, rfl⟩ | ⟨c5747, rfl, rfl⟩
      · refine z_if_ne_f (tgt := 34) b dX11_lawful_29 (by decide) (by decide) ?_
        refine z_iconst (v := (-1)) b dX11_lawful_32 (by decide) ?_
        exact z_iret (u := S) b rfl dX11_lawful_33 ⟨rfl, rfl⟩ rfl (by decide) (by decide)
      · exfalso; omega

set_option maxHeartbeats 4000000 in
set_option maxRecDepth 100000 in
theorem c_X12_lawful_38 {l : Launch} {D : va_G} {cy : Nat → ClassId} {T0 tB tE : Nat} {a : Nat → Nat} (S : GS) (p0 : Int32) (p1 : Int32) (p2 : Int32)  (hr_p0 : 1 ≤ p0.toInt ∧ p0.toInt ≤ 3) (hr_p1 : 0 ≤ p1.toInt ∧ p1.toInt ≤ 31) (hr_p2 : 2 ≤ p2.toInt ∧ p2.toInt ≤ 2147483647) : Ct l D cy T0 tB tE yX12_lawful cX12_lawful 6 (some .int) 2 42 0 0 (mw cy a S) [.ref (a 0), .int 2, .int p0, .int p1, .int p2] (QI D (U := GS) (fun r u => (-1) = r ∧ S = u) (mw cy a)) := by
  refine Ct.ofZ RX12 "lawful" [(0, .ref (a 0)), (1, .int 2), (2, .int p0), (3, .int p1), (4, .int p2)] rfl rfl rfl rfl (Nat.le_of_ble_eq_true rfl) ?_
  intro p e R s m args below meth c A b
  refine z_iload_n b dX12_lawful_0 rfl rfl ?_
  refine z_calli b (z_runS (As := [.int 2]) (st := []) b (c_X12_isRow_4 S ) cf_X12_isRow wm_X12_452 ws_X12_isRow dX12_lawful_1 rfl (Nat.le_of_ble_eq_true rfl) ⟨by decide, by decide, by decide, by decide⟩) (fun r5749 u5750 h5748 => ?_)
  obtain ⟨rfl, rfl⟩ := h5748
  refine z_if_eq_f (tgt := 36) b dX12_lawful_4 (by decide) (by decide) ?_
  refine z_iload_n b dX12_lawful_7 rfl rfl ?_
  refine z_iconst (v := 1) b dX12_lawful_8 (by decide) ?_
  refine z_iconst (v := 3) b dX12_lawful_9 (by decide) ?_
  refine z_calli b (z_runS (As := [.int p0, .int 1, .int 3]) (st := []) b (c_X12_isIn_35 S p0 ) cf_X12_isIn wm_X12_1 ws_X12_isIn dX12_lawful_10 rfl (Nat.le_of_ble_eq_true rfl) ⟨by decide, by decide, by decide, by decide⟩) (fun r5752 u5753 h5751 => ?_)
  rcases h5751 with ⟨c5754, rfl, rfl⟩ | ⟨c5755, rfl, rfl⟩
  · refine z_if_eq_t (tgt := 36) b dX12_lawful_13 (by decide) (by decide) ?_
    refine z_iconst (v := (-1)) b dX12_lawful_36 (by decide) ?_
    exact z_iret (u := S) b rfl dX12_lawful_37 ⟨rfl, rfl⟩ rfl (by decide) (by decide)
  · refine z_if_eq_f (tgt := 36) b dX12_lawful_13 (by decide) (by decide) ?_
    refine z_iload_n b dX12_lawful_16 rfl rfl ?_
    refine z_iconst (v := 0) b dX12_lawful_17 (by decide) ?_
    refine z_bipush (v := 31) b dX12_lawful_18 (by decide) ?_
    refine z_calli b (z_runS (As := [.int p1, .int 0, .int 31]) (st := []) b (c_X12_isIn_36 S p1 ) cf_X12_isIn wm_X12_1 ws_X12_isIn dX12_lawful_20 rfl (Nat.le_of_ble_eq_true rfl) ⟨by decide, by decide, by decide, by decide⟩) (fun r5757 u5758 h5756 => ?_)
    rcases h5756 with ⟨c5759, rfl, rfl⟩ | ⟨c5760, rfl, rfl⟩
    · refine z_if_eq_t (tgt := 36) b dX12_lawful_23 (by decide) (by decide) ?_
      refine z_iconst (v := (-1)) b dX12_lawful_36 (by decide) ?_
      exact z_iret (u := S) b rfl dX12_lawful_37 ⟨rfl, rfl⟩ rfl (by decide) (by decide)
    · refine z_if_eq_f (tgt := 36) b dX12_lawful_23 (by decide) (by decide) ?_
      refine z_iload b dX12_lawful_26 rfl ?_
      refine z_iconst (v := 0) b dX12_lawful_28 (by decide) ?_
      refine z_iconst (v := 1) b dX12_lawful_29 (by decide) ?_
      refine z_calli b (z_runS (As := [.int p2, .int 0, .int 1]) (st := []) b (c_X12_isIn_8 S p2 ) cf_X12_isIn wm_X12_1 ws_X12_isIn dX12_lawful_30 rfl (Nat.le_of_ble_eq_true rfl) ⟨by decide, by decide, by decide, by decide⟩) (fun r5762 u5763 h5761 => ?_)
      rcases h5761 with ⟨c5764, rfl, rfl⟩ | ⟨c5765, rfl, rfl⟩
      · refine z_if_ne_f (tgt := 38) b dX12_lawful_33 (by decide) (by decide) ?_
        refine z_iconst (v := (-1)) b dX12_lawful_36 (by decide) ?_
        exact z_iret (u := S) b rfl dX12_lawful_37 ⟨rfl, rfl⟩ rfl (by decide) (by decide)
      · exfalso; omega

set_option maxHeartbeats 4000000 in
set_option maxRecDepth 100000 in
theorem c_X11_lawful_39 {l : Launch} {D : va_G} {cy : Nat → ClassId} {T0 tB tE : Nat} {a : Nat → Nat} {rw : Nat → Option Nat} (S : GS) (p0 : Int32) (p1 : Int32) (p2 : Int32)  (hr_p0 : 1 ≤ p0.toInt ∧ p0.toInt ≤ 3) (hr_p1 : 0 ≤ p1.toInt ∧ p1.toInt ≤ 31) (hr_p2 : (-2147483648) ≤ p2.toInt ∧ p2.toInt ≤ (-1)) : Ct l D cy T0 tB tE yX11_lawful cX11_lawful 6 (some .int) 1 21 0 0 (cw cy tE a rw S) [.ref (a 0), .int 3, .int p0, .int p1, .int p2] (QI D (U := GS) (fun r u => (-1) = r ∧ S = u) (cw cy tE a rw)) := by
  refine Ct.ofZ RX11 "lawful" [(0, .ref (a 0)), (1, .int 3), (2, .int p0), (3, .int p1), (4, .int p2)] rfl rfl rfl rfl (Nat.le_of_ble_eq_true rfl) ?_
  intro p e R s m args below meth c A b
  refine z_iload_n b dX11_lawful_0 rfl rfl ?_
  refine z_calli b (z_runS (As := [.int 3]) (st := []) b (c_X11_isRow_5 S ) cf_X11_isRow wm_X11_169 ws_X11_isRow dX11_lawful_1 rfl (Nat.le_of_ble_eq_true rfl) ⟨by decide, by decide, by decide, by decide⟩) (fun r5767 u5768 h5766 => ?_)
  obtain ⟨rfl, rfl⟩ := h5766
  refine z_if_eq_f (tgt := 32) b dX11_lawful_4 (by decide) (by decide) ?_
  refine z_iload_n b dX11_lawful_7 rfl rfl ?_
  refine z_calli b (z_runS (As := [.int p0]) (st := []) b (c_X11_areLaws S p0 ) cf_X11_areLaws wm_X11_181 ws_X11_areLaws dX11_lawful_8 rfl (Nat.le_of_ble_eq_true rfl) ⟨by decide, by decide, by decide, by decide⟩) (fun r5770 u5771 h5769 => ?_)
  rcases h5769 with ⟨c5772, rfl, rfl⟩ | ⟨c5773, rfl, rfl⟩
  · refine z_if_eq_t (tgt := 32) b dX11_lawful_11 (by decide) (by decide) ?_
    refine z_iconst (v := (-1)) b dX11_lawful_32 (by decide) ?_
    exact z_iret (u := S) b rfl dX11_lawful_33 ⟨rfl, rfl⟩ rfl (by decide) (by decide)
  · refine z_if_eq_f (tgt := 32) b dX11_lawful_11 (by decide) (by decide) ?_
    refine z_iload_n b dX11_lawful_14 rfl rfl ?_
    refine z_bipush (v := 31) b dX11_lawful_15 (by decide) ?_
    refine z_calli b (z_runS (As := [.int p1, .int 31]) (st := []) b (c_X11_isWithin_11 S p1 ) cf_X11_isWithin wm_X11_73 ws_X11_isWithin dX11_lawful_17 rfl (Nat.le_of_ble_eq_true rfl) ⟨by decide, by decide, by decide, by decide⟩) (fun r5775 u5776 h5774 => ?_)
    rcases h5774 with ⟨c5777, rfl, rfl⟩ | ⟨c5778, rfl, rfl⟩
    · refine z_if_eq_t (tgt := 32) b dX11_lawful_20 (by decide) (by decide) ?_
      refine z_iconst (v := (-1)) b dX11_lawful_32 (by decide) ?_
      exact z_iret (u := S) b rfl dX11_lawful_33 ⟨rfl, rfl⟩ rfl (by decide) (by decide)
    · refine z_if_eq_f (tgt := 32) b dX11_lawful_20 (by decide) (by decide) ?_
      refine z_iload b dX11_lawful_23 rfl ?_
      refine z_iconst (v := 1) b dX11_lawful_25 (by decide) ?_
      refine z_calli b (z_runS (As := [.int p2, .int 1]) (st := []) b (c_X11_isWithin_4 S p2 ) cf_X11_isWithin wm_X11_73 ws_X11_isWithin dX11_lawful_26 rfl (Nat.le_of_ble_eq_true rfl) ⟨by decide, by decide, by decide, by decide⟩) (fun r5780 u5781 h5779 => ?_)
      rcases h5779 with ⟨c5782, rfl, rfl⟩ | ⟨c5783, rfl, rfl⟩
      · refine z_if_ne_f (tgt := 34) b dX11_lawful_29 (by decide) (by decide) ?_
        refine z_iconst (v := (-1)) b dX11_lawful_32 (by decide) ?_
        exact z_iret (u := S) b rfl dX11_lawful_33 ⟨rfl, rfl⟩ rfl (by decide) (by decide)
      · exfalso; omega

set_option maxHeartbeats 4000000 in
set_option maxRecDepth 100000 in
theorem c_X12_lawful_39 {l : Launch} {D : va_G} {cy : Nat → ClassId} {T0 tB tE : Nat} {a : Nat → Nat} (S : GS) (p0 : Int32) (p1 : Int32) (p2 : Int32)  (hr_p0 : 1 ≤ p0.toInt ∧ p0.toInt ≤ 3) (hr_p1 : 0 ≤ p1.toInt ∧ p1.toInt ≤ 31) (hr_p2 : (-2147483648) ≤ p2.toInt ∧ p2.toInt ≤ (-1)) : Ct l D cy T0 tB tE yX12_lawful cX12_lawful 6 (some .int) 2 42 0 0 (mw cy a S) [.ref (a 0), .int 3, .int p0, .int p1, .int p2] (QI D (U := GS) (fun r u => (-1) = r ∧ S = u) (mw cy a)) := by
  refine Ct.ofZ RX12 "lawful" [(0, .ref (a 0)), (1, .int 3), (2, .int p0), (3, .int p1), (4, .int p2)] rfl rfl rfl rfl (Nat.le_of_ble_eq_true rfl) ?_
  intro p e R s m args below meth c A b
  refine z_iload_n b dX12_lawful_0 rfl rfl ?_
  refine z_calli b (z_runS (As := [.int 3]) (st := []) b (c_X12_isRow_5 S ) cf_X12_isRow wm_X12_452 ws_X12_isRow dX12_lawful_1 rfl (Nat.le_of_ble_eq_true rfl) ⟨by decide, by decide, by decide, by decide⟩) (fun r5785 u5786 h5784 => ?_)
  obtain ⟨rfl, rfl⟩ := h5784
  refine z_if_eq_f (tgt := 36) b dX12_lawful_4 (by decide) (by decide) ?_
  refine z_iload_n b dX12_lawful_7 rfl rfl ?_
  refine z_iconst (v := 1) b dX12_lawful_8 (by decide) ?_
  refine z_iconst (v := 3) b dX12_lawful_9 (by decide) ?_
  refine z_calli b (z_runS (As := [.int p0, .int 1, .int 3]) (st := []) b (c_X12_isIn_35 S p0 ) cf_X12_isIn wm_X12_1 ws_X12_isIn dX12_lawful_10 rfl (Nat.le_of_ble_eq_true rfl) ⟨by decide, by decide, by decide, by decide⟩) (fun r5788 u5789 h5787 => ?_)
  rcases h5787 with ⟨c5790, rfl, rfl⟩ | ⟨c5791, rfl, rfl⟩
  · refine z_if_eq_t (tgt := 36) b dX12_lawful_13 (by decide) (by decide) ?_
    refine z_iconst (v := (-1)) b dX12_lawful_36 (by decide) ?_
    exact z_iret (u := S) b rfl dX12_lawful_37 ⟨rfl, rfl⟩ rfl (by decide) (by decide)
  · refine z_if_eq_f (tgt := 36) b dX12_lawful_13 (by decide) (by decide) ?_
    refine z_iload_n b dX12_lawful_16 rfl rfl ?_
    refine z_iconst (v := 0) b dX12_lawful_17 (by decide) ?_
    refine z_bipush (v := 31) b dX12_lawful_18 (by decide) ?_
    refine z_calli b (z_runS (As := [.int p1, .int 0, .int 31]) (st := []) b (c_X12_isIn_36 S p1 ) cf_X12_isIn wm_X12_1 ws_X12_isIn dX12_lawful_20 rfl (Nat.le_of_ble_eq_true rfl) ⟨by decide, by decide, by decide, by decide⟩) (fun r5793 u5794 h5792 => ?_)
    rcases h5792 with ⟨c5795, rfl, rfl⟩ | ⟨c5796, rfl, rfl⟩
    · refine z_if_eq_t (tgt := 36) b dX12_lawful_23 (by decide) (by decide) ?_
      refine z_iconst (v := (-1)) b dX12_lawful_36 (by decide) ?_
      exact z_iret (u := S) b rfl dX12_lawful_37 ⟨rfl, rfl⟩ rfl (by decide) (by decide)
    · refine z_if_eq_f (tgt := 36) b dX12_lawful_23 (by decide) (by decide) ?_
      refine z_iload b dX12_lawful_26 rfl ?_
      refine z_iconst (v := 0) b dX12_lawful_28 (by decide) ?_
      refine z_iconst (v := 1) b dX12_lawful_29 (by decide) ?_
      refine z_calli b (z_runS (As := [.int p2, .int 0, .int 1]) (st := []) b (c_X12_isIn_8 S p2 ) cf_X12_isIn wm_X12_1 ws_X12_isIn dX12_lawful_30 rfl (Nat.le_of_ble_eq_true rfl) ⟨by decide, by decide, by decide, by decide⟩) (fun r5798 u5799 h5797 => ?_)
      rcases h5797 with ⟨c5800, rfl, rfl⟩ | ⟨c5801, rfl, rfl⟩
      · refine z_if_ne_f (tgt := 38) b dX12_lawful_33 (by decide) (by decide) ?_
        refine z_iconst (v := (-1)) b dX12_lawful_36 (by decide) ?_
        exact z_iret (u := S) b rfl dX12_lawful_37 ⟨rfl, rfl⟩ rfl (by decide) (by decide)
      · exfalso; omega

set_option maxHeartbeats 4000000 in
set_option maxRecDepth 100000 in
theorem c_X2_follow_4 {l : Launch} {D : va_G} {cy : Nat → ClassId} {T0 tB tE : Nat} {a : Nat → Nat} {rw : Nat → Option Nat} (S : GS) (p0 : Int32) (p1 : Int32) (h_i_14 : fi S 14 = (-1)) (h_i_33 : fi S 33 = 0) : Ct l D cy T0 tB tE yX2_follow cX2_follow 6 (some .int) 2 61 0 0 (cw cy tE a rw S) [.ref (a 16), .ref (a 42), .ref (a 14), .int p0, .int p1] (QI D (U := GS) (fun r u => 0 = r ∧ sa S 8 (va_cpy (ar S 4) (ar S 8) 0 0 51) = u) (cw cy tE a rw)) := by
  refine Ct.ofZ RX2 "follow" [(0, .ref (a 16)), (1, .ref (a 42)), (2, .ref (a 14)), (3, .int p0), (4, .int p1)] rfl rfl rfl rfl (Nat.le_of_ble_eq_true rfl) ?_
  intro p e R s m args below meth c A b
  refine z_aload_n b dX2_follow_0 rfl rfl ?_
  refine z_get (q0 := 16) (k9 := 3) (v := .ref (a 23)) b (cw_16 cy tE a rw S) rfl in_X2 (by decide) wf_X2_25 rfl dX2_follow_1 ?_
  refine z_aload_n b dX2_follow_4 rfl rfl ?_
  refine z_callv b (z_runV (q0 := 23) (As := [.ref (a 14)]) (st := []) b (c_X9_copy S ) cf_X9_copy (cw_23 cy tE a rw S) rfl wm_X2_80 wi_X9_copy ws_X9_copy dX2_follow_5 rfl (Nat.le_of_ble_eq_true rfl) ⟨by decide, by decide, by decide, by decide⟩) (fun u5820 h5818 => ?_)
  obtain rfl := h5818
  refine z_aload_n b dX2_follow_8 rfl rfl ?_
  refine z_iconst (v := (-1)) b dX2_follow_9 (by decide) ?_
  refine z_put (q0 := 16) (k9 := 4) tyX2 b (cw_16 cy tE a rw (sa S 8 (va_cpy (ar S 4) (ar S 8) 0 0 51))) rfl in_X2 tyX2_ok nmX2 (by decide) wf_X2_28 rfl rfl rfl rfl (Nat.le_of_ble_eq_true rfl) dX2_follow_10 ((cwp_16_4 cy tE a rw (sa S 8 (va_cpy (ar S 4) (ar S 8) 0 0 51)) (-1)).trans (congrArg (cw cy tE a rw) (si_same h_i_14))) ?_
  refine z_iconst (v := 0) b dX2_follow_13 (by decide) ?_
  refine z_istore (lv' := [(5, .int 0), (0, .ref (a 16)), (1, .ref (a 42)), (2, .ref (a 14)), (3, .int p0), (4, .int p1)]) b dX2_follow_14 (by decide) rfl ?_
  refine z_iload b dX2_follow_16 rfl ?_
  refine z_aload_n b dX2_follow_18 rfl rfl ?_
  refine z_get (q0 := 42) (k9 := 1) (v := .int (fi (sa S 8 (va_cpy (ar S 4) (ar S 8) 0 0 51)) 33)) b (cw_42 cy tE a rw (sa S 8 (va_cpy (ar S 4) (ar S 8) 0 0 51))) rfl in_X7 (by decide) wf_X2_108 rfl dX2_follow_19 ?_
  refine z_eqi h_i_33 ?_
  refine z_icmp_ge_t (tgt := 74) b dX2_follow_22 (by decide) (by decide) ?_
  refine z_aload_n b dX2_follow_74 rfl rfl ?_
  refine z_get (q0 := 42) (k9 := 1) (v := .int (fi (sa S 8 (va_cpy (ar S 4) (ar S 8) 0 0 51)) 33)) b (cw_42 cy tE a rw (sa S 8 (va_cpy (ar S 4) (ar S 8) 0 0 51))) rfl in_X7 (by decide) wf_X2_108 rfl dX2_follow_75 ?_
  refine z_eqi h_i_33 ?_
  exact z_iret (u := (sa S 8 (va_cpy (ar S 4) (ar S 8) 0 0 51))) b rfl dX2_follow_78 ⟨rfl, rfl⟩ rfl (by decide) (by decide)

set_option maxHeartbeats 4000000 in
set_option maxRecDepth 100000 in
theorem c_X11_lawful_40 {l : Launch} {D : va_G} {cy : Nat → ClassId} {T0 tB tE : Nat} {a : Nat → Nat} {rw : Nat → Option Nat} (S : GS) (p0 : Int32) (p1 : Int32) (h_i_14 : fi S 14 = (-1)) (h_i_33 : fi S 33 = 0) (hrw : ∀ i, i < 6 → rw i = some (a (36 + 2 * i))) (hr_p0 : 1 ≤ p0.toInt ∧ p0.toInt ≤ 3) (hr_p1 : 0 ≤ p1.toInt ∧ p1.toInt ≤ 31) : Ct l D cy T0 tB tE yX11_lawful cX11_lawful 6 (some .int) 3 86 0 0 (cw cy tE a rw S) [.ref (a 0), .int 3, .int p0, .int p1, .int 0] (QI D (U := GS) (fun r u => ((((((p0.toInt < 1)) ∨ ((1 ≤ p0.toInt) ∧ (3 < p0.toInt)))) ∨ (((1 ≤ p0.toInt) ∧ (p0.toInt ≤ 3)) ∧ (((p1.toInt < 0)) ∨ ((0 ≤ p1.toInt) ∧ (31 < p1.toInt))))) ∧ (-1) = r ∧ S = u) ∨ ((((1 ≤ p0.toInt) ∧ (p0.toInt ≤ 3)) ∧ ((0 ≤ p1.toInt) ∧ (p1.toInt ≤ 31))) ∧ 0 = r ∧ sa S 8 (va_cpy (ar S 4) (ar S 8) 0 0 51) = u)) (cw cy tE a rw)) := by
  refine Ct.ofZ RX11 "lawful" [(0, .ref (a 0)), (1, .int 3), (2, .int p0), (3, .int p1), (4, .int 0)] rfl rfl rfl rfl (Nat.le_of_ble_eq_true rfl) ?_
  intro p e R s m args below meth c A b
  refine z_iload_n b dX11_lawful_0 rfl rfl ?_
  refine z_calli b (z_runS (As := [.int 3]) (st := []) b (c_X11_isRow_5 S ) cf_X11_isRow wm_X11_169 ws_X11_isRow dX11_lawful_1 rfl (Nat.le_of_ble_eq_true rfl) ⟨by decide, by decide, by decide, by decide⟩) (fun r5803 u5804 h5802 => ?_)
  obtain ⟨rfl, rfl⟩ := h5802
  refine z_if_eq_f (tgt := 32) b dX11_lawful_4 (by decide) (by decide) ?_
  refine z_iload_n b dX11_lawful_7 rfl rfl ?_
  refine z_calli b (z_runS (As := [.int p0]) (st := []) b (c_X11_areLaws S p0 ) cf_X11_areLaws wm_X11_181 ws_X11_areLaws dX11_lawful_8 rfl (Nat.le_of_ble_eq_true rfl) ⟨by decide, by decide, by decide, by decide⟩) (fun r5806 u5807 h5805 => ?_)
  rcases h5805 with ⟨c5808, rfl, rfl⟩ | ⟨c5809, rfl, rfl⟩
  · refine z_if_eq_t (tgt := 32) b dX11_lawful_11 (by decide) (by decide) ?_
    refine z_iconst (v := (-1)) b dX11_lawful_32 (by decide) ?_
    exact z_iret (u := S) b rfl dX11_lawful_33 (Or.inl ⟨(Or.inl c5808), rfl, rfl⟩) rfl (by decide) (by decide)
  · refine z_if_eq_f (tgt := 32) b dX11_lawful_11 (by decide) (by decide) ?_
    refine z_iload_n b dX11_lawful_14 rfl rfl ?_
    refine z_bipush (v := 31) b dX11_lawful_15 (by decide) ?_
    refine z_calli b (z_runS (As := [.int p1, .int 31]) (st := []) b (c_X11_isWithin_11 S p1 ) cf_X11_isWithin wm_X11_73 ws_X11_isWithin dX11_lawful_17 rfl (Nat.le_of_ble_eq_true rfl) ⟨by decide, by decide, by decide, by decide⟩) (fun r5811 u5812 h5810 => ?_)
    rcases h5810 with ⟨c5813, rfl, rfl⟩ | ⟨c5814, rfl, rfl⟩
    · refine z_if_eq_t (tgt := 32) b dX11_lawful_20 (by decide) (by decide) ?_
      refine z_iconst (v := (-1)) b dX11_lawful_32 (by decide) ?_
      exact z_iret (u := S) b rfl dX11_lawful_33 (Or.inl ⟨(Or.inr ⟨c5809, c5813⟩), rfl, rfl⟩) rfl (by decide) (by decide)
    · refine z_if_eq_f (tgt := 32) b dX11_lawful_20 (by decide) (by decide) ?_
      refine z_iload b dX11_lawful_23 rfl ?_
      refine z_iconst (v := 1) b dX11_lawful_25 (by decide) ?_
      refine z_calli b (z_runS (As := [.int 0, .int 1]) (st := []) b (c_X11_isWithin_5 S ) cf_X11_isWithin wm_X11_73 ws_X11_isWithin dX11_lawful_26 rfl (Nat.le_of_ble_eq_true rfl) ⟨by decide, by decide, by decide, by decide⟩) (fun r5816 u5817 h5815 => ?_)
      obtain ⟨rfl, rfl⟩ := h5815
      refine z_if_ne_t (tgt := 34) b dX11_lawful_29 (by decide) (by decide) ?_
      refine z_aload_n b dX11_lawful_34 rfl rfl ?_
      refine z_get (q0 := 0) (k9 := 5) (v := .ref (a 16)) b (cw_0 cy tE a rw S) rfl in_X11 (by decide) wf_X11_43 rfl dX11_lawful_35 ?_
      refine z_aload_n b dX11_lawful_38 rfl rfl ?_
      refine z_get (q0 := 0) (k9 := 7) (v := .ref (a 35)) b (cw_0 cy tE a rw S) rfl in_X11 (by decide) wf_X11_58 rfl dX11_lawful_39 ?_
      refine z_iload_n b dX11_lawful_42 rfl rfl ?_
      refine y_aald (q0 := 35) (t0 := 4) (j := 3) (v := .ref (a 42)) b (cw_35 cy tE a rw S) rfl (by decide) (by rw [hrw 3 (by decide)]; rfl) dX11_lawful_43 ?_
      refine z_aload_n b dX11_lawful_44 rfl rfl ?_
      refine z_get (q0 := 0) (k9 := 4) (v := .ref (a 14)) b (cw_0 cy tE a rw S) rfl in_X11 (by decide) wf_X11_34 rfl dX11_lawful_45 ?_
      refine z_iload_n b dX11_lawful_48 rfl rfl ?_
      refine z_iload_n b dX11_lawful_49 rfl rfl ?_
      refine z_calli b (z_runV (q0 := 16) (As := [.ref (a 42), .ref (a 14), .int p0, .int p1]) (st := []) b (c_X2_follow_4 S p0 p1 h_i_14 h_i_33) cf_X2_follow (cw_16 cy tE a rw S) rfl wm_X11_184 wi_X2_follow ws_X2_follow dX11_lawful_50 rfl (Nat.le_of_ble_eq_true rfl) ⟨by decide, by decide, by decide, by decide⟩) (fun r5822 u5823 h5821 => ?_)
      obtain ⟨rfl, rfl⟩ := h5821
      refine z_istore (lv' := [(5, .int 0), (0, .ref (a 0)), (1, .int 3), (2, .int p0), (3, .int p1), (4, .int 0)]) b dX11_lawful_53 (by decide) rfl ?_
      refine z_iload b dX11_lawful_55 rfl ?_
      refine z_if_ne_f (tgt := 65) b dX11_lawful_57 (by decide) (by decide) ?_
      refine z_iload b dX11_lawful_60 rfl ?_
      refine z_goto (tgt := 72) b dX11_lawful_62 (by decide) ?_
      exact z_iret (u := (sa S 8 (va_cpy (ar S 4) (ar S 8) 0 0 51))) b rfl dX11_lawful_72 (Or.inr ⟨⟨c5809, c5814⟩, rfl, rfl⟩) rfl (by decide) (by decide)

set_option maxHeartbeats 4000000 in
set_option maxRecDepth 100000 in
theorem c_X12_goes_4 {l : Launch} {D : va_G} {cy : Nat → ClassId} {T0 tB tE : Nat} {a : Nat → Nat} (S : GS) (p0 : Int32) (p1 : Int32) (h_l_0 : fl S 0 = 1649317774848) (h_a_38_3 : ar S 38 3 = 0) : Ct l D cy T0 tB tE yX12_goes cX12_goes 5 (some .int) 0 0 0 0 (mw cy a S) [.ref (a 0), .int 3, .int p0, .int p1] (QI D (U := GS) (fun r u => 0 = r ∧ si (sl S 2 1649317774848) 24 (-1) = u) (mw cy a)) := by
  refine Ct.ofZ RX12 "goes" [(0, .ref (a 0)), (1, .int 3), (2, .int p0), (3, .int p1)] rfl rfl rfl rfl (Nat.le_of_ble_eq_true rfl) ?_
  intro p e R s m args below meth c A b
  refine z_aload_n b dX12_goes_0 rfl rfl ?_
  refine z_aload_n b dX12_goes_1 rfl rfl ?_
  refine z_get (q0 := 0) (k9 := 6) (v := .long (fl S 0)) b (mw_0 cy a S) rfl in_X12 (by decide) wf_X12_153 rfl dX12_goes_2 ?_
  refine z_eql h_l_0 ?_
  refine z_put (q0 := 0) (k9 := 68) tyX12 b (mw_0 cy a S) rfl in_X12 tyX12_ok nmX12 (by decide) wf_X12_458 rfl rfl rfl rfl (Nat.le_of_ble_eq_true rfl) dX12_goes_5 (mwp_0_68 cy a S 1649317774848) ?_
  refine z_aload_n b dX12_goes_8 rfl rfl ?_
  refine z_iconst (v := (-1)) b dX12_goes_9 (by decide) ?_
  refine z_put (q0 := 0) (k9 := 69) tyX12 b (mw_0 cy a (sl S 2 1649317774848)) rfl in_X12 tyX12_ok nmX12 (by decide) wf_X12_461 rfl rfl rfl rfl (Nat.le_of_ble_eq_true rfl) dX12_goes_10 (mwp_0_69 cy a (sl S 2 1649317774848) (-1)) ?_
  refine z_iconst (v := 0) b dX12_goes_13 (by decide) ?_
  refine z_istore (lv' := [(4, .int 0), (0, .ref (a 0)), (1, .int 3), (2, .int p0), (3, .int p1)]) b dX12_goes_14 (by decide) rfl ?_
  refine z_iload b dX12_goes_16 rfl ?_
  refine z_aload_n b dX12_goes_18 rfl rfl ?_
  refine z_get (q0 := 0) (k9 := 66) (v := .ref (a 41)) b (mw_0 cy a (si (sl S 2 1649317774848) 24 (-1))) rfl in_X12 (by decide) wf_X12_140 rfl dX12_goes_19 ?_
  refine z_iload_n b dX12_goes_22 rfl rfl ?_
  refine y_iald (q0 := 41) (j := 3) (v := (ar (si (sl S 2 1649317774848) 24 (-1)) 38 3)) b (mw_41 cy a (si (sl S 2 1649317774848) 24 (-1))) (by decide) rfl dX12_goes_23 ?_
  refine z_eqi h_a_38_3 ?_
  refine z_icmp_ge_t (tgt := 78) b dX12_goes_24 (by decide) (by decide) ?_
  refine z_aload_n b dX12_goes_78 rfl rfl ?_
  refine z_get (q0 := 0) (k9 := 66) (v := .ref (a 41)) b (mw_0 cy a (si (sl S 2 1649317774848) 24 (-1))) rfl in_X12 (by decide) wf_X12_140 rfl dX12_goes_79 ?_
  refine z_iload_n b dX12_goes_82 rfl rfl ?_
  refine y_iald (q0 := 41) (j := 3) (v := (ar (si (sl S 2 1649317774848) 24 (-1)) 38 3)) b (mw_41 cy a (si (sl S 2 1649317774848) 24 (-1))) (by decide) rfl dX12_goes_83 ?_
  refine z_eqi h_a_38_3 ?_
  exact z_iret (u := (si (sl S 2 1649317774848) 24 (-1))) b rfl dX12_goes_84 ⟨rfl, rfl⟩ rfl (by decide) (by decide)

set_option maxHeartbeats 4000000 in
set_option maxRecDepth 100000 in
theorem c_X12_lawful_40 {l : Launch} {D : va_G} {cy : Nat → ClassId} {T0 tB tE : Nat} {a : Nat → Nat} (S : GS) (p0 : Int32) (p1 : Int32) (h_l_0 : fl S 0 = 1649317774848) (h_a_38_3 : ar S 38 3 = 0) (hr_p0 : 1 ≤ p0.toInt ∧ p0.toInt ≤ 3) (hr_p1 : 0 ≤ p1.toInt ∧ p1.toInt ≤ 31) : Ct l D cy T0 tB tE yX12_lawful cX12_lawful 6 (some .int) 2 42 0 0 (mw cy a S) [.ref (a 0), .int 3, .int p0, .int p1, .int 0] (QI D (U := GS) (fun r u => ((((((p0.toInt < 1)) ∨ ((1 ≤ p0.toInt) ∧ (3 < p0.toInt)))) ∨ (((1 ≤ p0.toInt) ∧ (p0.toInt ≤ 3)) ∧ (((p1.toInt < 0)) ∨ ((0 ≤ p1.toInt) ∧ (31 < p1.toInt))))) ∧ (-1) = r ∧ S = u) ∨ ((((1 ≤ p0.toInt) ∧ (p0.toInt ≤ 3)) ∧ ((0 ≤ p1.toInt) ∧ (p1.toInt ≤ 31))) ∧ 0 = r ∧ si (sl S 2 1649317774848) 24 (-1) = u)) (mw cy a)) := by
  refine Ct.ofZ RX12 "lawful" [(0, .ref (a 0)), (1, .int 3), (2, .int p0), (3, .int p1), (4, .int 0)] rfl rfl rfl rfl (Nat.le_of_ble_eq_true rfl) ?_
  intro p e R s m args below meth c A b
  refine z_iload_n b dX12_lawful_0 rfl rfl ?_
  refine z_calli b (z_runS (As := [.int 3]) (st := []) b (c_X12_isRow_5 S ) cf_X12_isRow wm_X12_452 ws_X12_isRow dX12_lawful_1 rfl (Nat.le_of_ble_eq_true rfl) ⟨by decide, by decide, by decide, by decide⟩) (fun r5825 u5826 h5824 => ?_)
  obtain ⟨rfl, rfl⟩ := h5824
  refine z_if_eq_f (tgt := 36) b dX12_lawful_4 (by decide) (by decide) ?_
  refine z_iload_n b dX12_lawful_7 rfl rfl ?_
  refine z_iconst (v := 1) b dX12_lawful_8 (by decide) ?_
  refine z_iconst (v := 3) b dX12_lawful_9 (by decide) ?_
  refine z_calli b (z_runS (As := [.int p0, .int 1, .int 3]) (st := []) b (c_X12_isIn_35 S p0 ) cf_X12_isIn wm_X12_1 ws_X12_isIn dX12_lawful_10 rfl (Nat.le_of_ble_eq_true rfl) ⟨by decide, by decide, by decide, by decide⟩) (fun r5828 u5829 h5827 => ?_)
  rcases h5827 with ⟨c5830, rfl, rfl⟩ | ⟨c5831, rfl, rfl⟩
  · refine z_if_eq_t (tgt := 36) b dX12_lawful_13 (by decide) (by decide) ?_
    refine z_iconst (v := (-1)) b dX12_lawful_36 (by decide) ?_
    exact z_iret (u := S) b rfl dX12_lawful_37 (Or.inl ⟨(Or.inl c5830), rfl, rfl⟩) rfl (by decide) (by decide)
  · refine z_if_eq_f (tgt := 36) b dX12_lawful_13 (by decide) (by decide) ?_
    refine z_iload_n b dX12_lawful_16 rfl rfl ?_
    refine z_iconst (v := 0) b dX12_lawful_17 (by decide) ?_
    refine z_bipush (v := 31) b dX12_lawful_18 (by decide) ?_
    refine z_calli b (z_runS (As := [.int p1, .int 0, .int 31]) (st := []) b (c_X12_isIn_36 S p1 ) cf_X12_isIn wm_X12_1 ws_X12_isIn dX12_lawful_20 rfl (Nat.le_of_ble_eq_true rfl) ⟨by decide, by decide, by decide, by decide⟩) (fun r5833 u5834 h5832 => ?_)
    rcases h5832 with ⟨c5835, rfl, rfl⟩ | ⟨c5836, rfl, rfl⟩
    · refine z_if_eq_t (tgt := 36) b dX12_lawful_23 (by decide) (by decide) ?_
      refine z_iconst (v := (-1)) b dX12_lawful_36 (by decide) ?_
      exact z_iret (u := S) b rfl dX12_lawful_37 (Or.inl ⟨(Or.inr ⟨c5831, c5835⟩), rfl, rfl⟩) rfl (by decide) (by decide)
    · refine z_if_eq_f (tgt := 36) b dX12_lawful_23 (by decide) (by decide) ?_
      refine z_iload b dX12_lawful_26 rfl ?_
      refine z_iconst (v := 0) b dX12_lawful_28 (by decide) ?_
      refine z_iconst (v := 1) b dX12_lawful_29 (by decide) ?_
      refine z_calli b (z_runS (As := [.int 0, .int 0, .int 1]) (st := []) b (c_X12_isIn_9 S ) cf_X12_isIn wm_X12_1 ws_X12_isIn dX12_lawful_30 rfl (Nat.le_of_ble_eq_true rfl) ⟨by decide, by decide, by decide, by decide⟩) (fun r5838 u5839 h5837 => ?_)
      obtain ⟨rfl, rfl⟩ := h5837
      refine z_if_ne_t (tgt := 38) b dX12_lawful_33 (by decide) (by decide) ?_
      refine z_aload_n b dX12_lawful_38 rfl rfl ?_
      refine z_iload_n b dX12_lawful_39 rfl rfl ?_
      refine z_iload_n b dX12_lawful_40 rfl rfl ?_
      refine z_iload_n b dX12_lawful_41 rfl rfl ?_
      refine z_calli b (z_runV (q0 := 0) (As := [.int 3, .int p0, .int p1]) (st := []) b (c_X12_goes_4 S p0 p1 h_l_0 h_a_38_3) cf_X12_goes (mw_0 cy a S) rfl wm_X12_464 wi_X12_goes ws_X12_goes dX12_lawful_42 rfl (Nat.le_of_ble_eq_true rfl) ⟨by decide, by decide, by decide, by decide⟩) (fun r5841 u5842 h5840 => ?_)
      obtain ⟨rfl, rfl⟩ := h5840
      refine z_istore (lv' := [(5, .int 0), (0, .ref (a 0)), (1, .int 3), (2, .int p0), (3, .int p1), (4, .int 0)]) b dX12_lawful_45 (by decide) rfl ?_
      refine z_iload b dX12_lawful_47 rfl ?_
      refine z_if_ne_f (tgt := 57) b dX12_lawful_49 (by decide) (by decide) ?_
      refine z_iload b dX12_lawful_52 rfl ?_
      refine z_goto (tgt := 61) b dX12_lawful_54 (by decide) ?_
      exact z_iret (u := (si (sl S 2 1649317774848) 24 (-1))) b rfl dX12_lawful_61 (Or.inr ⟨⟨c5831, c5836⟩, rfl, rfl⟩) rfl (by decide) (by decide)

set_option maxHeartbeats 4000000 in
set_option maxRecDepth 100000 in
theorem c_X11_lawful_41 {l : Launch} {D : va_G} {cy : Nat → ClassId} {T0 tB tE : Nat} {a : Nat → Nat} {rw : Nat → Option Nat} (S : GS) (p0 : Int32) (p1 : Int32) (h_i_14 : fi S 14 = (-1)) (h_i_33 : fi S 33 = 0) (hrw : ∀ i, i < 6 → rw i = some (a (36 + 2 * i))) (hr_p0 : 1 ≤ p0.toInt ∧ p0.toInt ≤ 3) (hr_p1 : 0 ≤ p1.toInt ∧ p1.toInt ≤ 31) : Ct l D cy T0 tB tE yX11_lawful cX11_lawful 6 (some .int) 3 86 0 0 (cw cy tE a rw S) [.ref (a 0), .int 3, .int p0, .int p1, .int 1] (QI D (U := GS) (fun r u => ((((((p0.toInt < 1)) ∨ ((1 ≤ p0.toInt) ∧ (3 < p0.toInt)))) ∨ (((1 ≤ p0.toInt) ∧ (p0.toInt ≤ 3)) ∧ (((p1.toInt < 0)) ∨ ((0 ≤ p1.toInt) ∧ (31 < p1.toInt))))) ∧ (-1) = r ∧ S = u) ∨ ((((1 ≤ p0.toInt) ∧ (p0.toInt ≤ 3)) ∧ ((0 ≤ p1.toInt) ∧ (p1.toInt ≤ 31))) ∧ (-1) = r ∧ sa S 8 (va_cpy (ar S 4) (ar S 8) 0 0 51) = u)) (cw cy tE a rw)) := by
  refine Ct.ofZ RX11 "lawful" [(0, .ref (a 0)), (1, .int 3), (2, .int p0), (3, .int p1), (4, .int 1)] rfl rfl rfl rfl (Nat.le_of_ble_eq_true rfl) ?_
  intro p e R s m args below meth c A b
  refine z_iload_n b dX11_lawful_0 rfl rfl ?_
  refine z_calli b (z_runS (As := [.int 3]) (st := []) b (c_X11_isRow_5 S ) cf_X11_isRow wm_X11_169 ws_X11_isRow dX11_lawful_1 rfl (Nat.le_of_ble_eq_true rfl) ⟨by decide, by decide, by decide, by decide⟩) (fun r5844 u5845 h5843 => ?_)
  obtain ⟨rfl, rfl⟩ := h5843
  refine z_if_eq_f (tgt := 32) b dX11_lawful_4 (by decide) (by decide) ?_
  refine z_iload_n b dX11_lawful_7 rfl rfl ?_
  refine z_calli b (z_runS (As := [.int p0]) (st := []) b (c_X11_areLaws S p0 ) cf_X11_areLaws wm_X11_181 ws_X11_areLaws dX11_lawful_8 rfl (Nat.le_of_ble_eq_true rfl) ⟨by decide, by decide, by decide, by decide⟩) (fun r5847 u5848 h5846 => ?_)
  rcases h5846 with ⟨c5849, rfl, rfl⟩ | ⟨c5850, rfl, rfl⟩
  · refine z_if_eq_t (tgt := 32) b dX11_lawful_11 (by decide) (by decide) ?_
    refine z_iconst (v := (-1)) b dX11_lawful_32 (by decide) ?_
    exact z_iret (u := S) b rfl dX11_lawful_33 (Or.inl ⟨(Or.inl c5849), rfl, rfl⟩) rfl (by decide) (by decide)
  · refine z_if_eq_f (tgt := 32) b dX11_lawful_11 (by decide) (by decide) ?_
    refine z_iload_n b dX11_lawful_14 rfl rfl ?_
    refine z_bipush (v := 31) b dX11_lawful_15 (by decide) ?_
    refine z_calli b (z_runS (As := [.int p1, .int 31]) (st := []) b (c_X11_isWithin_11 S p1 ) cf_X11_isWithin wm_X11_73 ws_X11_isWithin dX11_lawful_17 rfl (Nat.le_of_ble_eq_true rfl) ⟨by decide, by decide, by decide, by decide⟩) (fun r5852 u5853 h5851 => ?_)
    rcases h5851 with ⟨c5854, rfl, rfl⟩ | ⟨c5855, rfl, rfl⟩
    · refine z_if_eq_t (tgt := 32) b dX11_lawful_20 (by decide) (by decide) ?_
      refine z_iconst (v := (-1)) b dX11_lawful_32 (by decide) ?_
      exact z_iret (u := S) b rfl dX11_lawful_33 (Or.inl ⟨(Or.inr ⟨c5850, c5854⟩), rfl, rfl⟩) rfl (by decide) (by decide)
    · refine z_if_eq_f (tgt := 32) b dX11_lawful_20 (by decide) (by decide) ?_
      refine z_iload b dX11_lawful_23 rfl ?_
      refine z_iconst (v := 1) b dX11_lawful_25 (by decide) ?_
      refine z_calli b (z_runS (As := [.int 1, .int 1]) (st := []) b (c_X11_isWithin_6 S ) cf_X11_isWithin wm_X11_73 ws_X11_isWithin dX11_lawful_26 rfl (Nat.le_of_ble_eq_true rfl) ⟨by decide, by decide, by decide, by decide⟩) (fun r5857 u5858 h5856 => ?_)
      obtain ⟨rfl, rfl⟩ := h5856
      refine z_if_ne_t (tgt := 34) b dX11_lawful_29 (by decide) (by decide) ?_
      refine z_aload_n b dX11_lawful_34 rfl rfl ?_
      refine z_get (q0 := 0) (k9 := 5) (v := .ref (a 16)) b (cw_0 cy tE a rw S) rfl in_X11 (by decide) wf_X11_43 rfl dX11_lawful_35 ?_
      refine z_aload_n b dX11_lawful_38 rfl rfl ?_
      refine z_get (q0 := 0) (k9 := 7) (v := .ref (a 35)) b (cw_0 cy tE a rw S) rfl in_X11 (by decide) wf_X11_58 rfl dX11_lawful_39 ?_
      refine z_iload_n b dX11_lawful_42 rfl rfl ?_
      refine y_aald (q0 := 35) (t0 := 4) (j := 3) (v := .ref (a 42)) b (cw_35 cy tE a rw S) rfl (by decide) (by rw [hrw 3 (by decide)]; rfl) dX11_lawful_43 ?_
      refine z_aload_n b dX11_lawful_44 rfl rfl ?_
      refine z_get (q0 := 0) (k9 := 4) (v := .ref (a 14)) b (cw_0 cy tE a rw S) rfl in_X11 (by decide) wf_X11_34 rfl dX11_lawful_45 ?_
      refine z_iload_n b dX11_lawful_48 rfl rfl ?_
      refine z_iload_n b dX11_lawful_49 rfl rfl ?_
      refine z_calli b (z_runV (q0 := 16) (As := [.ref (a 42), .ref (a 14), .int p0, .int p1]) (st := []) b (c_X2_follow_4 S p0 p1 h_i_14 h_i_33) cf_X2_follow (cw_16 cy tE a rw S) rfl wm_X11_184 wi_X2_follow ws_X2_follow dX11_lawful_50 rfl (Nat.le_of_ble_eq_true rfl) ⟨by decide, by decide, by decide, by decide⟩) (fun r5860 u5861 h5859 => ?_)
      obtain ⟨rfl, rfl⟩ := h5859
      refine z_istore (lv' := [(5, .int 0), (0, .ref (a 0)), (1, .int 3), (2, .int p0), (3, .int p1), (4, .int 1)]) b dX11_lawful_53 (by decide) rfl ?_
      refine z_iload b dX11_lawful_55 rfl ?_
      refine z_if_ne_t (tgt := 65) b dX11_lawful_57 (by decide) (by decide) ?_
      refine z_aload_n b dX11_lawful_65 rfl rfl ?_
      refine z_get (q0 := 0) (k9 := 5) (v := .ref (a 16)) b (cw_0 cy tE a rw (sa S 8 (va_cpy (ar S 4) (ar S 8) 0 0 51))) rfl in_X11 (by decide) wf_X11_43 rfl dX11_lawful_66 ?_
      refine z_get (q0 := 16) (k9 := 4) (v := .int (fi (sa S 8 (va_cpy (ar S 4) (ar S 8) 0 0 51)) 14)) b (cw_16 cy tE a rw (sa S 8 (va_cpy (ar S 4) (ar S 8) 0 0 51))) rfl in_X2 (by decide) wf_X11_188 rfl dX11_lawful_69 ?_
      refine z_eqi h_i_14 ?_
      exact z_iret (u := (sa S 8 (va_cpy (ar S 4) (ar S 8) 0 0 51))) b rfl dX11_lawful_72 (Or.inr ⟨⟨c5850, c5855⟩, rfl, rfl⟩) rfl (by decide) (by decide)

set_option maxHeartbeats 4000000 in
set_option maxRecDepth 100000 in
theorem c_X12_lawful_41 {l : Launch} {D : va_G} {cy : Nat → ClassId} {T0 tB tE : Nat} {a : Nat → Nat} (S : GS) (p0 : Int32) (p1 : Int32) (h_l_0 : fl S 0 = 1649317774848) (h_a_38_3 : ar S 38 3 = 0) (hr_p0 : 1 ≤ p0.toInt ∧ p0.toInt ≤ 3) (hr_p1 : 0 ≤ p1.toInt ∧ p1.toInt ≤ 31) : Ct l D cy T0 tB tE yX12_lawful cX12_lawful 6 (some .int) 2 42 0 0 (mw cy a S) [.ref (a 0), .int 3, .int p0, .int p1, .int 1] (QI D (U := GS) (fun r u => ((((((p0.toInt < 1)) ∨ ((1 ≤ p0.toInt) ∧ (3 < p0.toInt)))) ∨ (((1 ≤ p0.toInt) ∧ (p0.toInt ≤ 3)) ∧ (((p1.toInt < 0)) ∨ ((0 ≤ p1.toInt) ∧ (31 < p1.toInt))))) ∧ (-1) = r ∧ S = u) ∨ ((((1 ≤ p0.toInt) ∧ (p0.toInt ≤ 3)) ∧ ((0 ≤ p1.toInt) ∧ (p1.toInt ≤ 31))) ∧ (-1) = r ∧ si (sl S 2 1649317774848) 24 (-1) = u)) (mw cy a)) := by
  refine Ct.ofZ RX12 "lawful" [(0, .ref (a 0)), (1, .int 3), (2, .int p0), (3, .int p1), (4, .int 1)] rfl rfl rfl rfl (Nat.le_of_ble_eq_true rfl) ?_
  intro p e R s m args below meth c A b
  refine z_iload_n b dX12_lawful_0 rfl rfl ?_
  refine z_calli b (z_runS (As := [.int 3]) (st := []) b (c_X12_isRow_5 S ) cf_X12_isRow wm_X12_452 ws_X12_isRow dX12_lawful_1 rfl (Nat.le_of_ble_eq_true rfl) ⟨by decide, by decide, by decide, by decide⟩) (fun r5863 u5864 h5862 => ?_)
  obtain ⟨rfl, rfl⟩ := h5862
  refine z_if_eq_f (tgt := 36) b dX12_lawful_4 (by decide) (by decide) ?_
  refine z_iload_n b dX12_lawful_7 rfl rfl ?_
  refine z_iconst (v := 1) b dX12_lawful_8 (by decide) ?_
  refine z_iconst (v := 3) b dX12_lawful_9 (by decide) ?_
  refine z_calli b (z_runS (As := [.int p0, .int 1, .int 3]) (st := []) b (c_X12_isIn_35 S p0 ) cf_X12_isIn wm_X12_1 ws_X12_isIn dX12_lawful_10 rfl (Nat.le_of_ble_eq_true rfl) ⟨by decide, by decide, by decide, by decide⟩) (fun r5866 u5867 h5865 => ?_)
  rcases h5865 with ⟨c5868, rfl, rfl⟩ | ⟨c5869, rfl, rfl⟩
  · refine z_if_eq_t (tgt := 36) b dX12_lawful_13 (by decide) (by decide) ?_
    refine z_iconst (v := (-1)) b dX12_lawful_36 (by decide) ?_
    exact z_iret (u := S) b rfl dX12_lawful_37 (Or.inl ⟨(Or.inl c5868), rfl, rfl⟩) rfl (by decide) (by decide)
  · refine z_if_eq_f (tgt := 36) b dX12_lawful_13 (by decide) (by decide) ?_
    refine z_iload_n b dX12_lawful_16 rfl rfl ?_
    refine z_iconst (v := 0) b dX12_lawful_17 (by decide) ?_
    refine z_bipush (v := 31) b dX12_lawful_18 (by decide) ?_
    refine z_calli b (z_runS (As := [.int p1, .int 0, .int 31]) (st := []) b (c_X12_isIn_36 S p1 ) cf_X12_isIn wm_X12_1 ws_X12_isIn dX12_lawful_20 rfl (Nat.le_of_ble_eq_true rfl) ⟨by decide, by decide, by decide, by decide⟩) (fun r5871 u5872 h5870 => ?_)
    rcases h5870 with ⟨c5873, rfl, rfl⟩ | ⟨c5874, rfl, rfl⟩
    · refine z_if_eq_t (tgt := 36) b dX12_lawful_23 (by decide) (by decide) ?_
      refine z_iconst (v := (-1)) b dX12_lawful_36 (by decide) ?_
      exact z_iret (u := S) b rfl dX12_lawful_37 (Or.inl ⟨(Or.inr ⟨c5869, c5873⟩), rfl, rfl⟩) rfl (by decide) (by decide)
    · refine z_if_eq_f (tgt := 36) b dX12_lawful_23 (by decide) (by decide) ?_
      refine z_iload b dX12_lawful_26 rfl ?_
      refine z_iconst (v := 0) b dX12_lawful_28 (by decide) ?_
      refine z_iconst (v := 1) b dX12_lawful_29 (by decide) ?_
      refine z_calli b (z_runS (As := [.int 1, .int 0, .int 1]) (st := []) b (c_X12_isIn_10 S ) cf_X12_isIn wm_X12_1 ws_X12_isIn dX12_lawful_30 rfl (Nat.le_of_ble_eq_true rfl) ⟨by decide, by decide, by decide, by decide⟩) (fun r5876 u5877 h5875 => ?_)
      obtain ⟨rfl, rfl⟩ := h5875
      refine z_if_ne_t (tgt := 38) b dX12_lawful_33 (by decide) (by decide) ?_
      refine z_aload_n b dX12_lawful_38 rfl rfl ?_
      refine z_iload_n b dX12_lawful_39 rfl rfl ?_
      refine z_iload_n b dX12_lawful_40 rfl rfl ?_
      refine z_iload_n b dX12_lawful_41 rfl rfl ?_
      refine z_calli b (z_runV (q0 := 0) (As := [.int 3, .int p0, .int p1]) (st := []) b (c_X12_goes_4 S p0 p1 h_l_0 h_a_38_3) cf_X12_goes (mw_0 cy a S) rfl wm_X12_464 wi_X12_goes ws_X12_goes dX12_lawful_42 rfl (Nat.le_of_ble_eq_true rfl) ⟨by decide, by decide, by decide, by decide⟩) (fun r5879 u5880 h5878 => ?_)
      obtain ⟨rfl, rfl⟩ := h5878
      refine z_istore (lv' := [(5, .int 0), (0, .ref (a 0)), (1, .int 3), (2, .int p0), (3, .int p1), (4, .int 1)]) b dX12_lawful_45 (by decide) rfl ?_
      refine z_iload b dX12_lawful_47 rfl ?_
      refine z_if_ne_t (tgt := 57) b dX12_lawful_49 (by decide) (by decide) ?_
      refine z_aload_n b dX12_lawful_57 rfl rfl ?_
      refine z_get (q0 := 0) (k9 := 69) (v := .int (-1)) b (mw_0 cy a (si (sl S 2 1649317774848) 24 (-1))) rfl in_X12 (by decide) wf_X12_461 rfl dX12_lawful_58 ?_
      exact z_iret (u := (si (sl S 2 1649317774848) 24 (-1))) b rfl dX12_lawful_61 (Or.inr ⟨⟨c5869, c5874⟩, rfl, rfl⟩) rfl (by decide) (by decide)

set_option maxHeartbeats 4000000 in
set_option maxRecDepth 100000 in
theorem c_X11_lawful_42 {l : Launch} {D : va_G} {cy : Nat → ClassId} {T0 tB tE : Nat} {a : Nat → Nat} {rw : Nat → Option Nat} (S : GS) (p0 : Int32) (p1 : Int32) (p2 : Int32)  (hr_p0 : 1 ≤ p0.toInt ∧ p0.toInt ≤ 3) (hr_p1 : 0 ≤ p1.toInt ∧ p1.toInt ≤ 31) (hr_p2 : 2 ≤ p2.toInt ∧ p2.toInt ≤ 2147483647) : Ct l D cy T0 tB tE yX11_lawful cX11_lawful 6 (some .int) 1 21 0 0 (cw cy tE a rw S) [.ref (a 0), .int 3, .int p0, .int p1, .int p2] (QI D (U := GS) (fun r u => (-1) = r ∧ S = u) (cw cy tE a rw)) := by
  refine Ct.ofZ RX11 "lawful" [(0, .ref (a 0)), (1, .int 3), (2, .int p0), (3, .int p1), (4, .int p2)] rfl rfl rfl rfl (Nat.le_of_ble_eq_true rfl) ?_
  intro p e R s m args below meth c A b
  refine z_iload_n b dX11_lawful_0 rfl rfl ?_
  refine z_calli b (z_runS (As := [.int 3]) (st := []) b (c_X11_isRow_5 S ) cf_X11_isRow wm_X11_169 ws_X11_isRow dX11_lawful_1 rfl (Nat.le_of_ble_eq_true rfl) ⟨by decide, by decide, by decide, by decide⟩) (fun r5882 u5883 h5881 => ?_)
  obtain ⟨rfl, rfl⟩ := h5881
  refine z_if_eq_f (tgt := 32) b dX11_lawful_4 (by decide) (by decide) ?_
  refine z_iload_n b dX11_lawful_7 rfl rfl ?_
  refine z_calli b (z_runS (As := [.int p0]) (st := []) b (c_X11_areLaws S p0 ) cf_X11_areLaws wm_X11_181 ws_X11_areLaws dX11_lawful_8 rfl (Nat.le_of_ble_eq_true rfl) ⟨by decide, by decide, by decide, by decide⟩) (fun r5885 u5886 h5884 => ?_)
  rcases h5884 with ⟨c5887, rfl, rfl⟩ | ⟨c5888, rfl, rfl⟩
  · refine z_if_eq_t (tgt := 32) b dX11_lawful_11 (by decide) (by decide) ?_
    refine z_iconst (v := (-1)) b dX11_lawful_32 (by decide) ?_
    exact z_iret (u := S) b rfl dX11_lawful_33 ⟨rfl, rfl⟩ rfl (by decide) (by decide)
  · refine z_if_eq_f (tgt := 32) b dX11_lawful_11 (by decide) (by decide) ?_
    refine z_iload_n b dX11_lawful_14 rfl rfl ?_
    refine z_bipush (v := 31) b dX11_lawful_15 (by decide) ?_
    refine z_calli b (z_runS (As := [.int p1, .int 31]) (st := []) b (c_X11_isWithin_11 S p1 ) cf_X11_isWithin wm_X11_73 ws_X11_isWithin dX11_lawful_17 rfl (Nat.le_of_ble_eq_true rfl) ⟨by decide, by decide, by decide, by decide⟩) (fun r5890 u5891 h5889 => ?_)
    rcases h5889 with ⟨c5892, rfl, rfl⟩ | ⟨c5893, rfl, rfl⟩
    · refine z_if_eq_t (tgt := 32) b dX11_lawful_20 (by decide) (by decide) ?_
      refine z_iconst (v := (-1)) b dX11_lawful_32 (by decide) ?_
      exact z_iret (u := S) b rfl dX11_lawful_33 ⟨rfl, rfl⟩ rfl (by decide) (by decide)
    · refine z_if_eq_f (tgt := 32) b dX11_lawful_20 (by decide) (by decide) ?_
      refine z_iload b dX11_lawful_23 rfl ?_
      refine z_iconst (v := 1) b dX11_lawful_25 (by decide) ?_
      refine z_calli b (z_runS (As := [.int p2, .int 1]) (st := []) b (c_X11_isWithin_4 S p2 ) cf_X11_isWithin wm_X11_73 ws_X11_isWithin dX11_lawful_26 rfl (Nat.le_of_ble_eq_true rfl) ⟨by decide, by decide, by decide, by decide⟩) (fun r5895 u5896 h5894 => ?_)
      rcases h5894 with ⟨c5897, rfl, rfl⟩ | ⟨c5898, rfl, rfl⟩
      · refine z_if_ne_f (tgt := 34) b dX11_lawful_29 (by decide) (by decide) ?_
        refine z_iconst (v := (-1)) b dX11_lawful_32 (by decide) ?_
        exact z_iret (u := S) b rfl dX11_lawful_33 ⟨rfl, rfl⟩ rfl (by decide) (by decide)
      · exfalso; omega

set_option maxHeartbeats 4000000 in
set_option maxRecDepth 100000 in
theorem c_X12_lawful_42 {l : Launch} {D : va_G} {cy : Nat → ClassId} {T0 tB tE : Nat} {a : Nat → Nat} (S : GS) (p0 : Int32) (p1 : Int32) (p2 : Int32)  (hr_p0 : 1 ≤ p0.toInt ∧ p0.toInt ≤ 3) (hr_p1 : 0 ≤ p1.toInt ∧ p1.toInt ≤ 31) (hr_p2 : 2 ≤ p2.toInt ∧ p2.toInt ≤ 2147483647) : Ct l D cy T0 tB tE yX12_lawful cX12_lawful 6 (some .int) 2 42 0 0 (mw cy a S) [.ref (a 0), .int 3, .int p0, .int p1, .int p2] (QI D (U := GS) (fun r u => (-1) = r ∧ S = u) (mw cy a)) := by
  refine Ct.ofZ RX12 "lawful" [(0, .ref (a 0)), (1, .int 3), (2, .int p0), (3, .int p1), (4, .int p2)] rfl rfl rfl rfl (Nat.le_of_ble_eq_true rfl) ?_
  intro p e R s m args below meth c A b
  refine z_iload_n b dX12_lawful_0 rfl rfl ?_
  refine z_calli b (z_runS (As := [.int 3]) (st := []) b (c_X12_isRow_5 S ) cf_X12_isRow wm_X12_452 ws_X12_isRow dX12_lawful_1 rfl (Nat.le_of_ble_eq_true rfl) ⟨by decide, by decide, by decide, by decide⟩) (fun r5900 u5901 h5899 => ?_)
  obtain ⟨rfl, rfl⟩ := h5899
  refine z_if_eq_f (tgt := 36) b dX12_lawful_4 (by decide) (by decide) ?_
  refine z_iload_n b dX12_lawful_7 rfl rfl ?_
  refine z_iconst (v := 1) b dX12_lawful_8 (by decide) ?_
  refine z_iconst (v := 3) b dX12_lawful_9 (by decide) ?_
  refine z_calli b (z_runS (As := [.int p0, .int 1, .int 3]) (st := []) b (c_X12_isIn_35 S p0 ) cf_X12_isIn wm_X12_1 ws_X12_isIn dX12_lawful_10 rfl (Nat.le_of_ble_eq_true rfl) ⟨by decide, by decide, by decide, by decide⟩) (fun r5903 u5904 h5902 => ?_)
  rcases h5902 with ⟨c5905, rfl, rfl⟩ | ⟨c5906, rfl, rfl⟩
  · refine z_if_eq_t (tgt := 36) b dX12_lawful_13 (by decide) (by decide) ?_
    refine z_iconst (v := (-1)) b dX12_lawful_36 (by decide) ?_
    exact z_iret (u := S) b rfl dX12_lawful_37 ⟨rfl, rfl⟩ rfl (by decide) (by decide)
  · refine z_if_eq_f (tgt := 36) b dX12_lawful_13 (by decide) (by decide) ?_
    refine z_iload_n b dX12_lawful_16 rfl rfl ?_
    refine z_iconst (v := 0) b dX12_lawful_17 (by decide) ?_
    refine z_bipush (v := 31) b dX12_lawful_18 (by decide) ?_
    refine z_calli b (z_runS (As := [.int p1, .int 0, .int 31]) (st := []) b (c_X12_isIn_36 S p1 ) cf_X12_isIn wm_X12_1 ws_X12_isIn dX12_lawful_20 rfl (Nat.le_of_ble_eq_true rfl) ⟨by decide, by decide, by decide, by decide⟩) (fun r5908 u5909 h5907 => ?_)
    rcases h5907 with ⟨c5910, rfl, rfl⟩ | ⟨c5911, rfl, rfl⟩
    · refine z_if_eq_t (tgt := 36) b dX12_lawful_23 (by decide) (by decide) ?_
      refine z_iconst (v := (-1)) b dX12_lawful_36 (by decide) ?_
      exact z_iret (u := S) b rfl dX12_lawful_37 ⟨rfl, rfl⟩ rfl (by decide) (by decide)
    · refine z_if_eq_f (tgt := 36) b dX12_lawful_23 (by decide) (by decide) ?_
      refine z_iload b dX12_lawful_26 rfl ?_
      refine z_iconst (v := 0) b dX12_lawful_28 (by decide) ?_
      refine z_iconst (v := 1) b dX12_lawful_29 (by decide) ?_
      refine z_calli b (z_runS (As := [.int p2, .int 0, .int 1]) (st := []) b (c_X12_isIn_8 S p2 ) cf_X12_isIn wm_X12_1 ws_X12_isIn dX12_lawful_30 rfl (Nat.le_of_ble_eq_true rfl) ⟨by decide, by decide, by decide, by decide⟩) (fun r5913 u5914 h5912 => ?_)
      rcases h5912 with ⟨c5915, rfl, rfl⟩ | ⟨c5916, rfl, rfl⟩
      · refine z_if_ne_f (tgt := 38) b dX12_lawful_33 (by decide) (by decide) ?_
        refine z_iconst (v := (-1)) b dX12_lawful_36 (by decide) ?_
        exact z_iret (u := S) b rfl dX12_lawful_37 ⟨rfl, rfl⟩ rfl (by decide) (by decide)
      · exfalso; omega

set_option maxHeartbeats 4000000 in
set_option maxRecDepth 100000 in
theorem c_X11_lawful_43 {l : Launch} {D : va_G} {cy : Nat → ClassId} {T0 tB tE : Nat} {a : Nat → Nat} {rw : Nat → Option Nat} (S : GS) (p0 : Int32) (p1 : Int32) (p2 : Int32)  (hr_p0 : 1 ≤ p0.toInt ∧ p0.toInt ≤ 3) (hr_p1 : 0 ≤ p1.toInt ∧ p1.toInt ≤ 31) (hr_p2 : (-2147483648) ≤ p2.toInt ∧ p2.toInt ≤ (-1)) : Ct l D cy T0 tB tE yX11_lawful cX11_lawful 6 (some .int) 1 21 0 0 (cw cy tE a rw S) [.ref (a 0), .int 4, .int p0, .int p1, .int p2] (QI D (U := GS) (fun r u => (-1) = r ∧ S = u) (cw cy tE a rw)) := by
  refine Ct.ofZ RX11 "lawful" [(0, .ref (a 0)), (1, .int 4), (2, .int p0), (3, .int p1), (4, .int p2)] rfl rfl rfl rfl (Nat.le_of_ble_eq_true rfl) ?_
  intro p e R s m args below meth c A b
  refine z_iload_n b dX11_lawful_0 rfl rfl ?_
  refine z_calli b (z_runS (As := [.int 4]) (st := []) b (c_X11_isRow_6 S ) cf_X11_isRow wm_X11_169 ws_X11_isRow dX11_lawful_1 rfl (Nat.le_of_ble_eq_true rfl) ⟨by decide, by decide, by decide, by decide⟩) (fun r5918 u5919 h5917 => ?_)
  obtain ⟨rfl, rfl⟩ := h5917
  refine z_if_eq_f (tgt := 32) b dX11_lawful_4 (by decide) (by decide) ?_
  refine z_iload_n b dX11_lawful_7 rfl rfl ?_
  refine z_calli b (z_runS (As := [.int p0]) (st := []) b (c_X11_areLaws S p0 ) cf_X11_areLaws wm_X11_181 ws_X11_areLaws dX11_lawful_8 rfl (Nat.le_of_ble_eq_true rfl) ⟨by decide, by decide, by decide, by decide⟩) (fun r5921 u5922 h5920 => ?_)
  rcases h5920 with ⟨c5923, rfl, rfl⟩ | ⟨c5924, rfl, rfl⟩
  · refine z_if_eq_t (tgt := 32) b dX11_lawful_11 (by decide) (by decide) ?_
    refine z_iconst (v := (-1)) b dX11_lawful_32 (by decide) ?_
    exact z_iret (u := S) b rfl dX11_lawful_33 ⟨rfl, rfl⟩ rfl (by decide) (by decide)
  · refine z_if_eq_f (tgt := 32) b dX11_lawful_11 (by decide) (by decide) ?_
    refine z_iload_n b dX11_lawful_14 rfl rfl ?_
    refine z_bipush (v := 31) b dX11_lawful_15 (by decide) ?_
    refine z_calli b (z_runS (As := [.int p1, .int 31]) (st := []) b (c_X11_isWithin_11 S p1 ) cf_X11_isWithin wm_X11_73 ws_X11_isWithin dX11_lawful_17 rfl (Nat.le_of_ble_eq_true rfl) ⟨by decide, by decide, by decide, by decide⟩) (fun r5926 u5927 h5925 => ?_)
    rcases h5925 with ⟨c5928, rfl, rfl⟩ | ⟨c5929, rfl, rfl⟩
    · refine z_if_eq_t (tgt := 32) b dX11_lawful_20 (by decide) (by decide) ?_
      refine z_iconst (v := (-1)) b dX11_lawful_32 (by decide) ?_
      exact z_iret (u := S) b rfl dX11_lawful_33 ⟨rfl, rfl⟩ rfl (by decide) (by decide)
    · refine z_if_eq_f (tgt := 32) b dX11_lawful_20 (by decide) (by decide) ?_
      refine z_iload b dX11_lawful_23 rfl ?_
      refine z_iconst (v := 1) b dX11_lawful_25 (by decide) ?_
      refine z_calli b (z_runS (As := [.int p2, .int 1]) (st := []) b (c_X11_isWithin_4 S p2 ) cf_X11_isWithin wm_X11_73 ws_X11_isWithin dX11_lawful_26 rfl (Nat.le_of_ble_eq_true rfl) ⟨by decide, by decide, by decide, by decide⟩) (fun r5931 u5932 h5930 => ?_)
      rcases h5930 with ⟨c5933, rfl, rfl⟩ | ⟨c5934, rfl, rfl⟩
      · refine z_if_ne_f (tgt := 34) b dX11_lawful_29 (by decide) (by decide) ?_
        refine z_iconst (v := (-1)) b dX11_lawful_32 (by decide) ?_
        exact z_iret (u := S) b rfl dX11_lawful_33 ⟨rfl, rfl⟩ rfl (by decide) (by decide)
      · exfalso; omega

set_option maxHeartbeats 4000000 in
set_option maxRecDepth 100000 in
theorem c_X12_lawful_43 {l : Launch} {D : va_G} {cy : Nat → ClassId} {T0 tB tE : Nat} {a : Nat → Nat} (S : GS) (p0 : Int32) (p1 : Int32) (p2 : Int32)  (hr_p0 : 1 ≤ p0.toInt ∧ p0.toInt ≤ 3) (hr_p1 : 0 ≤ p1.toInt ∧ p1.toInt ≤ 31) (hr_p2 : (-2147483648) ≤ p2.toInt ∧ p2.toInt ≤ (-1)) : Ct l D cy T0 tB tE yX12_lawful cX12_lawful 6 (some .int) 2 42 0 0 (mw cy a S) [.ref (a 0), .int 4, .int p0, .int p1, .int p2] (QI D (U := GS) (fun r u => (-1) = r ∧ S = u) (mw cy a)) := by
  refine Ct.ofZ RX12 "lawful" [(0, .ref (a 0)), (1, .int 4), (2, .int p0), (3, .int p1), (4, .int p2)] rfl rfl rfl rfl (Nat.le_of_ble_eq_true rfl) ?_
  intro p e R s m args below meth c A b
  refine z_iload_n b dX12_lawful_0 rfl rfl ?_
  refine z_calli b (z_runS (As := [.int 4]) (st := []) b (c_X12_isRow_6 S ) cf_X12_isRow wm_X12_452 ws_X12_isRow dX12_lawful_1 rfl (Nat.le_of_ble_eq_true rfl) ⟨by decide, by decide, by decide, by decide⟩) (fun r5936 u5937 h5935 => ?_)
  obtain ⟨rfl, rfl⟩ := h5935
  refine z_if_eq_f (tgt := 36) b dX12_lawful_4 (by decide) (by decide) ?_
  refine z_iload_n b dX12_lawful_7 rfl rfl ?_
  refine z_iconst (v := 1) b dX12_lawful_8 (by decide) ?_
  refine z_iconst (v := 3) b dX12_lawful_9 (by decide) ?_
  refine z_calli b (z_runS (As := [.int p0, .int 1, .int 3]) (st := []) b (c_X12_isIn_35 S p0 ) cf_X12_isIn wm_X12_1 ws_X12_isIn dX12_lawful_10 rfl (Nat.le_of_ble_eq_true rfl) ⟨by decide, by decide, by decide, by decide⟩) (fun r5939 u5940 h5938 => ?_)
  rcases h5938 with ⟨c5941, rfl, rfl⟩ | ⟨c5942, rfl, rfl⟩
  · refine z_if_eq_t (tgt := 36) b dX12_lawful_13 (by decide) (by decide) ?_
    refine z_iconst (v := (-1)) b dX12_lawful_36 (by decide) ?_
    exact z_iret (u := S) b rfl dX12_lawful_37 ⟨rfl, rfl⟩ rfl (by decide) (by decide)
  · refine z_if_eq_f (tgt := 36) b dX12_lawful_13 (by decide) (by decide) ?_
    refine z_iload_n b dX12_lawful_16 rfl rfl ?_
    refine z_iconst (v := 0) b dX12_lawful_17 (by decide) ?_
    refine z_bipush (v := 31) b dX12_lawful_18 (by decide) ?_
    refine z_calli b (z_runS (As := [.int p1, .int 0, .int 31]) (st := []) b (c_X12_isIn_36 S p1 ) cf_X12_isIn wm_X12_1 ws_X12_isIn dX12_lawful_20 rfl (Nat.le_of_ble_eq_true rfl) ⟨by decide, by decide, by decide, by decide⟩) (fun r5944 u5945 h5943 => ?_)
    rcases h5943 with ⟨c5946, rfl, rfl⟩ | ⟨c5947, rfl, rfl⟩
    · refine z_if_eq_t (tgt := 36) b dX12_lawful_23 (by decide) (by decide) ?_
      refine z_iconst (v := (-1)) b dX12_lawful_36 (by decide) ?_
      exact z_iret (u := S) b rfl dX12_lawful_37 ⟨rfl, rfl⟩ rfl (by decide) (by decide)
    · refine z_if_eq_f (tgt := 36) b dX12_lawful_23 (by decide) (by decide) ?_
      refine z_iload b dX12_lawful_26 rfl ?_
      refine z_iconst (v := 0) b dX12_lawful_28 (by decide) ?_
      refine z_iconst (v := 1) b dX12_lawful_29 (by decide) ?_
      refine z_calli b (z_runS (As := [.int p2, .int 0, .int 1]) (st := []) b (c_X12_isIn_8 S p2 ) cf_X12_isIn wm_X12_1 ws_X12_isIn dX12_lawful_30 rfl (Nat.le_of_ble_eq_true rfl) ⟨by decide, by decide, by decide, by decide⟩) (fun r5949 u5950 h5948 => ?_)
      rcases h5948 with ⟨c5951, rfl, rfl⟩ | ⟨c5952, rfl, rfl⟩
      · refine z_if_ne_f (tgt := 38) b dX12_lawful_33 (by decide) (by decide) ?_
        refine z_iconst (v := (-1)) b dX12_lawful_36 (by decide) ?_
        exact z_iret (u := S) b rfl dX12_lawful_37 ⟨rfl, rfl⟩ rfl (by decide) (by decide)
      · exfalso; omega

set_option maxHeartbeats 4000000 in
set_option maxRecDepth 100000 in
theorem c_X2_follow_5 {l : Launch} {D : va_G} {cy : Nat → ClassId} {T0 tB tE : Nat} {a : Nat → Nat} {rw : Nat → Option Nat} (S : GS) (p0 : Int32) (p1 : Int32) (h_i_14 : fi S 14 = (-1)) (h_i_35 : fi S 35 = 0) : Ct l D cy T0 tB tE yX2_follow cX2_follow 6 (some .int) 2 61 0 0 (cw cy tE a rw S) [.ref (a 16), .ref (a 44), .ref (a 14), .int p0, .int p1] (QI D (U := GS) (fun r u => 0 = r ∧ sa S 8 (va_cpy (ar S 4) (ar S 8) 0 0 51) = u) (cw cy tE a rw)) := by
  refine Ct.ofZ RX2 "follow" [(0, .ref (a 16)), (1, .ref (a 44)), (2, .ref (a 14)), (3, .int p0), (4, .int p1)] rfl rfl rfl rfl (Nat.le_of_ble_eq_true rfl) ?_
  intro p e R s m args below meth c A b
  refine z_aload_n b dX2_follow_0 rfl rfl ?_
  refine z_get (q0 := 16) (k9 := 3) (v := .ref (a 23)) b (cw_16 cy tE a rw S) rfl in_X2 (by decide) wf_X2_25 rfl dX2_follow_1 ?_
  refine z_aload_n b dX2_follow_4 rfl rfl ?_
  refine z_callv b (z_runV (q0 := 23) (As := [.ref (a 14)]) (st := []) b (c_X9_copy S ) cf_X9_copy (cw_23 cy tE a rw S) rfl wm_X2_80 wi_X9_copy ws_X9_copy dX2_follow_5 rfl (Nat.le_of_ble_eq_true rfl) ⟨by decide, by decide, by decide, by decide⟩) (fun u5971 h5969 => ?_)
  obtain rfl := h5969
  refine z_aload_n b dX2_follow_8 rfl rfl ?_
  refine z_iconst (v := (-1)) b dX2_follow_9 (by decide) ?_
  refine z_put (q0 := 16) (k9 := 4) tyX2 b (cw_16 cy tE a rw (sa S 8 (va_cpy (ar S 4) (ar S 8) 0 0 51))) rfl in_X2 tyX2_ok nmX2 (by decide) wf_X2_28 rfl rfl rfl rfl (Nat.le_of_ble_eq_true rfl) dX2_follow_10 ((cwp_16_4 cy tE a rw (sa S 8 (va_cpy (ar S 4) (ar S 8) 0 0 51)) (-1)).trans (congrArg (cw cy tE a rw) (si_same h_i_14))) ?_
  refine z_iconst (v := 0) b dX2_follow_13 (by decide) ?_
  refine z_istore (lv' := [(5, .int 0), (0, .ref (a 16)), (1, .ref (a 44)), (2, .ref (a 14)), (3, .int p0), (4, .int p1)]) b dX2_follow_14 (by decide) rfl ?_
  refine z_iload b dX2_follow_16 rfl ?_
  refine z_aload_n b dX2_follow_18 rfl rfl ?_
  refine z_get (q0 := 44) (k9 := 1) (v := .int (fi (sa S 8 (va_cpy (ar S 4) (ar S 8) 0 0 51)) 35)) b (cw_44 cy tE a rw (sa S 8 (va_cpy (ar S 4) (ar S 8) 0 0 51))) rfl in_X7 (by decide) wf_X2_108 rfl dX2_follow_19 ?_
  refine z_eqi h_i_35 ?_
  refine z_icmp_ge_t (tgt := 74) b dX2_follow_22 (by decide) (by decide) ?_
  refine z_aload_n b dX2_follow_74 rfl rfl ?_
  refine z_get (q0 := 44) (k9 := 1) (v := .int (fi (sa S 8 (va_cpy (ar S 4) (ar S 8) 0 0 51)) 35)) b (cw_44 cy tE a rw (sa S 8 (va_cpy (ar S 4) (ar S 8) 0 0 51))) rfl in_X7 (by decide) wf_X2_108 rfl dX2_follow_75 ?_
  refine z_eqi h_i_35 ?_
  exact z_iret (u := (sa S 8 (va_cpy (ar S 4) (ar S 8) 0 0 51))) b rfl dX2_follow_78 ⟨rfl, rfl⟩ rfl (by decide) (by decide)

set_option maxHeartbeats 4000000 in
set_option maxRecDepth 100000 in
theorem c_X11_lawful_44 {l : Launch} {D : va_G} {cy : Nat → ClassId} {T0 tB tE : Nat} {a : Nat → Nat} {rw : Nat → Option Nat} (S : GS) (p0 : Int32) (p1 : Int32) (h_i_14 : fi S 14 = (-1)) (h_i_35 : fi S 35 = 0) (hrw : ∀ i, i < 6 → rw i = some (a (36 + 2 * i))) (hr_p0 : 1 ≤ p0.toInt ∧ p0.toInt ≤ 3) (hr_p1 : 0 ≤ p1.toInt ∧ p1.toInt ≤ 31) : Ct l D cy T0 tB tE yX11_lawful cX11_lawful 6 (some .int) 3 86 0 0 (cw cy tE a rw S) [.ref (a 0), .int 4, .int p0, .int p1, .int 0] (QI D (U := GS) (fun r u => ((((((p0.toInt < 1)) ∨ ((1 ≤ p0.toInt) ∧ (3 < p0.toInt)))) ∨ (((1 ≤ p0.toInt) ∧ (p0.toInt ≤ 3)) ∧ (((p1.toInt < 0)) ∨ ((0 ≤ p1.toInt) ∧ (31 < p1.toInt))))) ∧ (-1) = r ∧ S = u) ∨ ((((1 ≤ p0.toInt) ∧ (p0.toInt ≤ 3)) ∧ ((0 ≤ p1.toInt) ∧ (p1.toInt ≤ 31))) ∧ 0 = r ∧ sa S 8 (va_cpy (ar S 4) (ar S 8) 0 0 51) = u)) (cw cy tE a rw)) := by
  refine Ct.ofZ RX11 "lawful" [(0, .ref (a 0)), (1, .int 4), (2, .int p0), (3, .int p1), (4, .int 0)] rfl rfl rfl rfl (Nat.le_of_ble_eq_true rfl) ?_
  intro p e R s m args below meth c A b
  refine z_iload_n b dX11_lawful_0 rfl rfl ?_
  refine z_calli b (z_runS (As := [.int 4]) (st := []) b (c_X11_isRow_6 S ) cf_X11_isRow wm_X11_169 ws_X11_isRow dX11_lawful_1 rfl (Nat.le_of_ble_eq_true rfl) ⟨by decide, by decide, by decide, by decide⟩) (fun r5954 u5955 h5953 => ?_)
  obtain ⟨rfl, rfl⟩ := h5953
  refine z_if_eq_f (tgt := 32) b dX11_lawful_4 (by decide) (by decide) ?_
  refine z_iload_n b dX11_lawful_7 rfl rfl ?_
  refine z_calli b (z_runS (As := [.int p0]) (st := []) b (c_X11_areLaws S p0 ) cf_X11_areLaws wm_X11_181 ws_X11_areLaws dX11_lawful_8 rfl (Nat.le_of_ble_eq_true rfl) ⟨by decide, by decide, by decide, by decide⟩) (fun r5957 u5958 h5956 => ?_)
  rcases h5956 with ⟨c5959, rfl, rfl⟩ | ⟨c5960, rfl, rfl⟩
  · refine z_if_eq_t (tgt := 32) b dX11_lawful_11 (by decide) (by decide) ?_
    refine z_iconst (v := (-1)) b dX11_lawful_32 (by decide) ?_
    exact z_iret (u := S) b rfl dX11_lawful_33 (Or.inl ⟨(Or.inl c5959), rfl, rfl⟩) rfl (by decide) (by decide)
  · refine z_if_eq_f (tgt := 32) b dX11_lawful_11 (by decide) (by decide) ?_
    refine z_iload_n b dX11_lawful_14 rfl rfl ?_
    refine z_bipush (v := 31) b dX11_lawful_15 (by decide) ?_
    refine z_calli b (z_runS (As := [.int p1, .int 31]) (st := []) b (c_X11_isWithin_11 S p1 ) cf_X11_isWithin wm_X11_73 ws_X11_isWithin dX11_lawful_17 rfl (Nat.le_of_ble_eq_true rfl) ⟨by decide, by decide, by decide, by decide⟩) (fun r5962 u5963 h5961 => ?_)
    rcases h5961 with ⟨c5964, rfl, rfl⟩ | ⟨c5965, rfl, rfl⟩
    · refine z_if_eq_t (tgt := 32) b dX11_lawful_20 (by decide) (by decide) ?_
      refine z_iconst (v := (-1)) b dX11_lawful_32 (by decide) ?_
      exact z_iret (u := S) b rfl dX11_lawful_33 (Or.inl ⟨(Or.inr ⟨c5960, c5964⟩), rfl, rfl⟩) rfl (by decide) (by decide)
    · refine z_if_eq_f (tgt := 32) b dX11_lawful_20 (by decide) (by decide) ?_
      refine z_iload b dX11_lawful_23 rfl ?_
      refine z_iconst (v := 1) b dX11_lawful_25 (by decide) ?_
      refine z_calli b (z_runS (As := [.int 0, .int 1]) (st := []) b (c_X11_isWithin_5 S ) cf_X11_isWithin wm_X11_73 ws_X11_isWithin dX11_lawful_26 rfl (Nat.le_of_ble_eq_true rfl) ⟨by decide, by decide, by decide, by decide⟩) (fun r5967 u5968 h5966 => ?_)
      obtain ⟨rfl, rfl⟩ := h5966
      refine z_if_ne_t (tgt := 34) b dX11_lawful_29 (by decide) (by decide) ?_
      refine z_aload_n b dX11_lawful_34 rfl rfl ?_
      refine z_get (q0 := 0) (k9 := 5) (v := .ref (a 16)) b (cw_0 cy tE a rw S) rfl in_X11 (by decide) wf_X11_43 rfl dX11_lawful_35 ?_
      refine z_aload_n b dX11_lawful_38 rfl rfl ?_
      refine z_get (q0 := 0) (k9 := 7) (v := .ref (a 35)) b (cw_0 cy tE a rw S) rfl in_X11 (by decide) wf_X11_58 rfl dX11_lawful_39 ?_
      refine z_iload_n b dX11_lawful_42 rfl rfl ?_
      refine y_aald (q0 := 35) (t0 := 4) (j := 4) (v := .ref (a 44)) b (cw_35 cy tE a rw S) rfl (by decide) (by rw [hrw 4 (by decide)]; rfl) dX11_lawful_43 ?_
      refine z_aload_n b dX11_lawful_44 rfl rfl ?_
      refine z_get (q0 := 0) (k9 := 4) (v := .ref (a 14)) b (cw_0 cy tE a rw S) rfl in_X11 (by decide) wf_X11_34 rfl dX11_lawful_45 ?_
      refine z_iload_n b dX11_lawful_48 rfl rfl ?_
      refine z_iload_n b dX11_lawful_49 rfl rfl ?_
      refine z_calli b (z_runV (q0 := 16) (As := [.ref (a 44), .ref (a 14), .int p0, .int p1]) (st := []) b (c_X2_follow_5 S p0 p1 h_i_14 h_i_35) cf_X2_follow (cw_16 cy tE a rw S) rfl wm_X11_184 wi_X2_follow ws_X2_follow dX11_lawful_50 rfl (Nat.le_of_ble_eq_true rfl) ⟨by decide, by decide, by decide, by decide⟩) (fun r5973 u5974 h5972 => ?_)
      obtain ⟨rfl, rfl⟩ := h5972
      refine z_istore (lv' := [(5, .int 0), (0, .ref (a 0)), (1, .int 4), (2, .int p0), (3, .int p1), (4, .int 0)]) b dX11_lawful_53 (by decide) rfl ?_
      refine z_iload b dX11_lawful_55 rfl ?_
      refine z_if_ne_f (tgt := 65) b dX11_lawful_57 (by decide) (by decide) ?_
      refine z_iload b dX11_lawful_60 rfl ?_
      refine z_goto (tgt := 72) b dX11_lawful_62 (by decide) ?_
      exact z_iret (u := (sa S 8 (va_cpy (ar S 4) (ar S 8) 0 0 51))) b rfl dX11_lawful_72 (Or.inr ⟨⟨c5960, c5965⟩, rfl, rfl⟩) rfl (by decide) (by decide)

set_option maxHeartbeats 4000000 in
set_option maxRecDepth 100000 in
theorem c_X12_goes_5 {l : Launch} {D : va_G} {cy : Nat → ClassId} {T0 tB tE : Nat} {a : Nat → Nat} (S : GS) (p0 : Int32) (p1 : Int32) (h_l_0 : fl S 0 = 1649317774848) (h_a_38_4 : ar S 38 4 = 0) : Ct l D cy T0 tB tE yX12_goes cX12_goes 5 (some .int) 0 0 0 0 (mw cy a S) [.ref (a 0), .int 4, .int p0, .int p1] (QI D (U := GS) (fun r u => 0 = r ∧ si (sl S 2 1649317774848) 24 (-1) = u) (mw cy a)) := by
  refine Ct.ofZ RX12 "goes" [(0, .ref (a 0)), (1, .int 4), (2, .int p0), (3, .int p1)] rfl rfl rfl rfl (Nat.le_of_ble_eq_true rfl) ?_
  intro p e R s m args below meth c A b
  refine z_aload_n b dX12_goes_0 rfl rfl ?_
  refine z_aload_n b dX12_goes_1 rfl rfl ?_
  refine z_get (q0 := 0) (k9 := 6) (v := .long (fl S 0)) b (mw_0 cy a S) rfl in_X12 (by decide) wf_X12_153 rfl dX12_goes_2 ?_
  refine z_eql h_l_0 ?_
  refine z_put (q0 := 0) (k9 := 68) tyX12 b (mw_0 cy a S) rfl in_X12 tyX12_ok nmX12 (by decide) wf_X12_458 rfl rfl rfl rfl (Nat.le_of_ble_eq_true rfl) dX12_goes_5 (mwp_0_68 cy a S 1649317774848) ?_
  refine z_aload_n b dX12_goes_8 rfl rfl ?_
  refine z_iconst (v := (-1)) b dX12_goes_9 (by decide) ?_
  refine z_put (q0 := 0) (k9 := 69) tyX12 b (mw_0 cy a (sl S 2 1649317774848)) rfl in_X12 tyX12_ok nmX12 (by decide) wf_X12_461 rfl rfl rfl rfl (Nat.le_of_ble_eq_true rfl) dX12_goes_10 (mwp_0_69 cy a (sl S 2 1649317774848) (-1)) ?_
  refine z_iconst (v := 0) b dX12_goes_13 (by decide) ?_
  refine z_istore (lv' := [(4, .int 0), (0, .ref (a 0)), (1, .int 4), (2, .int p0), (3, .int p1)]) b dX12_goes_14 (by decide) rfl ?_
  refine z_iload b dX12_goes_16 rfl ?_
  refine z_aload_n b dX12_goes_18 rfl rfl ?_
  refine z_get (q0 := 0) (k9 := 66) (v := .ref (a 41)) b (mw_0 cy a (si (sl S 2 1649317774848) 24 (-1))) rfl in_X12 (by decide) wf_X12_140 rfl dX12_goes_19 ?_
  refine z_iload_n b dX12_goes_22 rfl rfl ?_
  refine y_iald (q0 := 41) (j := 4) (v := (ar (si (sl S 2 1649317774848) 24 (-1)) 38 4)) b (mw_41 cy a (si (sl S 2 1649317774848) 24 (-1))) (by decide) rfl dX12_goes_23 ?_
  refine z_eqi h_a_38_4 ?_
  refine z_icmp_ge_t (tgt := 78) b dX12_goes_24 (by decide) (by decide) ?_
  refine z_aload_n b dX12_goes_78 rfl rfl ?_
  refine z_get (q0 := 0) (k9 := 66) (v := .ref (a 41)) b (mw_0 cy a (si (sl S 2 1649317774848) 24 (-1))) rfl in_X12 (by decide) wf_X12_140 rfl dX12_goes_79 ?_
  refine z_iload_n b dX12_goes_82 rfl rfl ?_
  refine y_iald (q0 := 41) (j := 4) (v := (ar (si (sl S 2 1649317774848) 24 (-1)) 38 4)) b (mw_41 cy a (si (sl S 2 1649317774848) 24 (-1))) (by decide) rfl dX12_goes_83 ?_
  refine z_eqi h_a_38_4 ?_
  exact z_iret (u := (si (sl S 2 1649317774848) 24 (-1))) b rfl dX12_goes_84 ⟨rfl, rfl⟩ rfl (by decide) (by decide)

set_option maxHeartbeats 4000000 in
set_option maxRecDepth 100000 in
theorem c_X12_lawful_44 {l : Launch} {D : va_G} {cy : Nat → ClassId} {T0 tB tE : Nat} {a : Nat → Nat} (S : GS) (p0 : Int32) (p1 : Int32) (h_l_0 : fl S 0 = 1649317774848) (h_a_38_4 : ar S 38 4 = 0) (hr_p0 : 1 ≤ p0.toInt ∧ p0.toInt ≤ 3) (hr_p1 : 0 ≤ p1.toInt ∧ p1.toInt ≤ 31) : Ct l D cy T0 tB tE yX12_lawful cX12_lawful 6 (some .int) 2 42 0 0 (mw cy a S) [.ref (a 0), .int 4, .int p0, .int p1, .int 0] (QI D (U := GS) (fun r u => ((((((p0.toInt < 1)) ∨ ((1 ≤ p0.toInt) ∧ (3 < p0.toInt)))) ∨ (((1 ≤ p0.toInt) ∧ (p0.toInt ≤ 3)) ∧ (((p1.toInt < 0)) ∨ ((0 ≤ p1.toInt) ∧ (31 < p1.toInt))))) ∧ (-1) = r ∧ S = u) ∨ ((((1 ≤ p0.toInt) ∧ (p0.toInt ≤ 3)) ∧ ((0 ≤ p1.toInt) ∧ (p1.toInt ≤ 31))) ∧ 0 = r ∧ si (sl S 2 1649317774848) 24 (-1) = u)) (mw cy a)) := by
  refine Ct.ofZ RX12 "lawful" [(0, .ref (a 0)), (1, .int 4), (2, .int p0), (3, .int p1), (4, .int 0)] rfl rfl rfl rfl (Nat.le_of_ble_eq_true rfl) ?_
  intro p e R s m args below meth c A b
  refine z_iload_n b dX12_lawful_0 rfl rfl ?_
  refine z_calli b (z_runS (As := [.int 4]) (st := []) b (c_X12_isRow_6 S ) cf_X12_isRow wm_X12_452 ws_X12_isRow dX12_lawful_1 rfl (Nat.le_of_ble_eq_true rfl) ⟨by decide, by decide, by decide, by decide⟩) (fun r5976 u5977 h5975 => ?_)
  obtain ⟨rfl, rfl⟩ := h5975
  refine z_if_eq_f (tgt := 36) b dX12_lawful_4 (by decide) (by decide) ?_
  refine z_iload_n b dX12_lawful_7 rfl rfl ?_
  refine z_iconst (v := 1) b dX12_lawful_8 (by decide) ?_
  refine z_iconst (v := 3) b dX12_lawful_9 (by decide) ?_
  refine z_calli b (z_runS (As := [.int p0, .int 1, .int 3]) (st := []) b (c_X12_isIn_35 S p0 ) cf_X12_isIn wm_X12_1 ws_X12_isIn dX12_lawful_10 rfl (Nat.le_of_ble_eq_true rfl) ⟨by decide, by decide, by decide, by decide⟩) (fun r5979 u5980 h5978 => ?_)
  rcases h5978 with ⟨c5981, rfl, rfl⟩ | ⟨c5982, rfl, rfl⟩
  · refine z_if_eq_t (tgt := 36) b dX12_lawful_13 (by decide) (by decide) ?_
    refine z_iconst (v := (-1)) b dX12_lawful_36 (by decide) ?_
    exact z_iret (u := S) b rfl dX12_lawful_37 (Or.inl ⟨(Or.inl c5981), rfl, rfl⟩) rfl (by decide) (by decide)
  · refine z_if_eq_f (tgt := 36) b dX12_lawful_13 (by decide) (by decide) ?_
    refine z_iload_n b dX12_lawful_16 rfl rfl ?_
    refine z_iconst (v := 0) b dX12_lawful_17 (by decide) ?_
    refine z_bipush (v := 31) b dX12_lawful_18 (by decide) ?_
    refine z_calli b (z_runS (As := [.int p1, .int 0, .int 31]) (st := []) b (c_X12_isIn_36 S p1 ) cf_X12_isIn wm_X12_1 ws_X12_isIn dX12_lawful_20 rfl (Nat.le_of_ble_eq_true rfl) ⟨by decide, by decide, by decide, by decide⟩) (fun r5984 u5985 h5983 => ?_)
    rcases h5983 with ⟨c5986, rfl, rfl⟩ | ⟨c5987, rfl, rfl⟩
    · refine z_if_eq_t (tgt := 36) b dX12_lawful_23 (by decide) (by decide) ?_
      refine z_iconst (v := (-1)) b dX12_lawful_36 (by decide) ?_
      exact z_iret (u := S) b rfl dX12_lawful_37 (Or.inl ⟨(Or.inr ⟨c5982, c5986⟩), rfl, rfl⟩) rfl (by decide) (by decide)
    · refine z_if_eq_f (tgt := 36) b dX12_lawful_23 (by decide) (by decide) ?_
      refine z_iload b dX12_lawful_26 rfl ?_
      refine z_iconst (v := 0) b dX12_lawful_28 (by decide) ?_
      refine z_iconst (v := 1) b dX12_lawful_29 (by decide) ?_
      refine z_calli b (z_runS (As := [.int 0, .int 0, .int 1]) (st := []) b (c_X12_isIn_9 S ) cf_X12_isIn wm_X12_1 ws_X12_isIn dX12_lawful_30 rfl (Nat.le_of_ble_eq_true rfl) ⟨by decide, by decide, by decide, by decide⟩) (fun r5989 u5990 h5988 => ?_)
      obtain ⟨rfl, rfl⟩ := h5988
      refine z_if_ne_t (tgt := 38) b dX12_lawful_33 (by decide) (by decide) ?_
      refine z_aload_n b dX12_lawful_38 rfl rfl ?_
      refine z_iload_n b dX12_lawful_39 rfl rfl ?_
      refine z_iload_n b dX12_lawful_40 rfl rfl ?_
      refine z_iload_n b dX12_lawful_41 rfl rfl ?_
      refine z_calli b (z_runV (q0 := 0) (As := [.int 4, .int p0, .int p1]) (st := []) b (c_X12_goes_5 S p0 p1 h_l_0 h_a_38_4) cf_X12_goes (mw_0 cy a S) rfl wm_X12_464 wi_X12_goes ws_X12_goes dX12_lawful_42 rfl (Nat.le_of_ble_eq_true rfl) ⟨by decide, by decide, by decide, by decide⟩) (fun r5992 u5993 h5991 => ?_)
      obtain ⟨rfl, rfl⟩ := h5991
      refine z_istore (lv' := [(5, .int 0), (0, .ref (a 0)), (1, .int 4), (2, .int p0), (3, .int p1), (4, .int 0)]) b dX12_lawful_45 (by decide) rfl ?_
      refine z_iload b dX12_lawful_47 rfl ?_
      refine z_if_ne_f (tgt := 57) b dX12_lawful_49 (by decide) (by decide) ?_
      refine z_iload b dX12_lawful_52 rfl ?_
      refine z_goto (tgt := 61) b dX12_lawful_54 (by decide) ?_
      exact z_iret (u := (si (sl S 2 1649317774848) 24 (-1))) b rfl dX12_lawful_61 (Or.inr ⟨⟨c5982, c5987⟩, rfl, rfl⟩) rfl (by decide) (by decide)

set_option maxHeartbeats 4000000 in
set_option maxRecDepth 100000 in
theorem c_X11_lawful_45 {l : Launch} {D : va_G} {cy : Nat → ClassId} {T0 tB tE : Nat} {a : Nat → Nat} {rw : Nat → Option Nat} (S : GS) (p0 : Int32) (p1 : Int32) (h_i_14 : fi S 14 = (-1)) (h_i_35 : fi S 35 = 0) (hrw : ∀ i, i < 6 → rw i = some (a (36 + 2 * i))) (hr_p0 : 1 ≤ p0.toInt ∧ p0.toInt ≤ 3) (hr_p1 : 0 ≤ p1.toInt ∧ p1.toInt ≤ 31) : Ct l D cy T0 tB tE yX11_lawful cX11_lawful 6 (some .int) 3 86 0 0 (cw cy tE a rw S) [.ref (a 0), .int 4, .int p0, .int p1, .int 1] (QI D (U := GS) (fun r u => ((((((p0.toInt < 1)) ∨ ((1 ≤ p0.toInt) ∧ (3 < p0.toInt)))) ∨ (((1 ≤ p0.toInt) ∧ (p0.toInt ≤ 3)) ∧ (((p1.toInt < 0)) ∨ ((0 ≤ p1.toInt) ∧ (31 < p1.toInt))))) ∧ (-1) = r ∧ S = u) ∨ ((((1 ≤ p0.toInt) ∧ (p0.toInt ≤ 3)) ∧ ((0 ≤ p1.toInt) ∧ (p1.toInt ≤ 31))) ∧ (-1) = r ∧ sa S 8 (va_cpy (ar S 4) (ar S 8) 0 0 51) = u)) (cw cy tE a rw)) := by
  refine Ct.ofZ RX11 "lawful" [(0, .ref (a 0)), (1, .int 4), (2, .int p0), (3, .int p1), (4, .int 1)] rfl rfl rfl rfl (Nat.le_of_ble_eq_true rfl) ?_
  intro p e R s m args below meth c A b
  refine z_iload_n b dX11_lawful_0 rfl rfl ?_
  refine z_calli b (z_runS (As := [.int 4]) (st := []) b (c_X11_isRow_6 S ) cf_X11_isRow wm_X11_169 ws_X11_isRow dX11_lawful_1 rfl (Nat.le_of_ble_eq_true rfl) ⟨by decide, by decide, by decide, by decide⟩) (fun r5995 u5996 h5994 => ?_)
  obtain ⟨rfl, rfl⟩ := h5994
  refine z_if_eq_f (tgt := 32) b dX11_lawful_4 (by decide) (by decide) ?_
  refine z_iload_n b dX11_lawful_7 rfl rfl ?_
  refine z_calli b (z_runS (As := [.int p0]) (st := []) b (c_X11_areLaws S p0 ) cf_X11_areLaws wm_X11_181 ws_X11_areLaws dX11_lawful_8 rfl (Nat.le_of_ble_eq_true rfl) ⟨by decide, by decide, by decide, by decide⟩) (fun r5998 u5999 h5997 => ?_)
  rcases h5997 with ⟨c6000, rfl, rfl⟩ | ⟨c6001, rfl, rfl⟩
  · refine z_if_eq_t (tgt := 32) b dX11_lawful_11 (by decide) (by decide) ?_
    refine z_iconst (v := (-1)) b dX11_lawful_32 (by decide) ?_
    exact z_iret (u := S) b rfl dX11_lawful_33 (Or.inl ⟨(Or.inl c6000), rfl, rfl⟩) rfl (by decide) (by decide)
  · refine z_if_eq_f (tgt := 32) b dX11_lawful_11 (by decide) (by decide) ?_
    refine z_iload_n b dX11_lawful_14 rfl rfl ?_
    refine z_bipush (v := 31) b dX11_lawful_15 (by decide) ?_
    refine z_calli b (z_runS (As := [.int p1, .int 31]) (st := []) b (c_X11_isWithin_11 S p1 ) cf_X11_isWithin wm_X11_73 ws_X11_isWithin dX11_lawful_17 rfl (Nat.le_of_ble_eq_true rfl) ⟨by decide, by decide, by decide, by decide⟩) (fun r6003 u6004 h6002 => ?_)
    rcases h6002 with ⟨c6005, rfl, rfl⟩ | ⟨c6006, rfl, rfl⟩
    · refine z_if_eq_t (tgt := 32) b dX11_lawful_20 (by decide) (by decide) ?_
      refine z_iconst (v := (-1)) b dX11_lawful_32 (by decide) ?_
      exact z_iret (u := S) b rfl dX11_lawful_33 (Or.inl ⟨(Or.inr ⟨c6001, c6005⟩), rfl, rfl⟩) rfl (by decide) (by decide)
    · refine z_if_eq_f (tgt := 32) b dX11_lawful_20 (by decide) (by decide) ?_
      refine z_iload b dX11_lawful_23 rfl ?_
      refine z_iconst (v := 1) b dX11_lawful_25 (by decide) ?_
      refine z_calli b (z_runS (As := [.int 1, .int 1]) (st := []) b (c_X11_isWithin_6 S ) cf_X11_isWithin wm_X11_73 ws_X11_isWithin dX11_lawful_26 rfl (Nat.le_of_ble_eq_true rfl) ⟨by decide, by decide, by decide, by decide⟩) (fun r6008 u6009 h6007 => ?_)
      obtain ⟨rfl, rfl⟩ := h6007
      refine z_if_ne_t (tgt := 34) b dX11_lawful_29 (by decide) (by decide) ?_
      refine z_aload_n b dX11_lawful_34 rfl rfl ?_
      refine z_get (q0 := 0) (k9 := 5) (v := .ref (a 16)) b (cw_0 cy tE a rw S) rfl in_X11 (by decide) wf_X11_43 rfl dX11_lawful_35 ?_
      refine z_aload_n b dX11_lawful_38 rfl rfl ?_
      refine z_get (q0 := 0) (k9 := 7) (v := .ref (a 35)) b (cw_0 cy tE a rw S) rfl in_X11 (by decide) wf_X11_58 rfl dX11_lawful_39 ?_
      refine z_iload_n b dX11_lawful_42 rfl rfl ?_
      refine y_aald (q0 := 35) (t0 := 4) (j := 4) (v := .ref (a 44)) b (cw_35 cy tE a rw S) rfl (by decide) (by rw [hrw 4 (by decide)]; rfl) dX11_lawful_43 ?_
      refine z_aload_n b dX11_lawful_44 rfl rfl ?_
      refine z_get (q0 := 0) (k9 := 4) (v := .ref (a 14)) b (cw_0 cy tE a rw S) rfl in_X11 (by decide) wf_X11_34 rfl dX11_lawful_45 ?_
      refine z_iload_n b dX11_lawful_48 rfl rfl ?_
      refine z_iload_n b dX11_lawful_49 rfl rfl ?_
      refine z_calli b (z_runV (q0 := 16) (As := [.ref (a 44), .ref (a 14), .int p0, .int p1]) (st := []) b (c_X2_follow_5 S p0 p1 h_i_14 h_i_35) cf_X2_follow (cw_16 cy tE a rw S) rfl wm_X11_184 wi_X2_follow ws_X2_follow dX11_lawful_50 rfl (Nat.le_of_ble_eq_true rfl) ⟨by decide, by decide, by decide, by decide⟩) (fun r6011 u6012 h6010 => ?_)
      obtain ⟨rfl, rfl⟩ := h6010
      refine z_istore (lv' := [(5, .int 0), (0, .ref (a 0)), (1, .int 4), (2, .int p0), (3, .int p1), (4, .int 1)]) b dX11_lawful_53 (by decide) rfl ?_
      refine z_iload b dX11_lawful_55 rfl ?_
      refine z_if_ne_t (tgt := 65) b dX11_lawful_57 (by decide) (by decide) ?_
      refine z_aload_n b dX11_lawful_65 rfl rfl ?_
      refine z_get (q0 := 0) (k9 := 5) (v := .ref (a 16)) b (cw_0 cy tE a rw (sa S 8 (va_cpy (ar S 4) (ar S 8) 0 0 51))) rfl in_X11 (by decide) wf_X11_43 rfl dX11_lawful_66 ?_
      refine z_get (q0 := 16) (k9 := 4) (v := .int (fi (sa S 8 (va_cpy (ar S 4) (ar S 8) 0 0 51)) 14)) b (cw_16 cy tE a rw (sa S 8 (va_cpy (ar S 4) (ar S 8) 0 0 51))) rfl in_X2 (by decide) wf_X11_188 rfl dX11_lawful_69 ?_
      refine z_eqi h_i_14 ?_
      exact z_iret (u := (sa S 8 (va_cpy (ar S 4) (ar S 8) 0 0 51))) b rfl dX11_lawful_72 (Or.inr ⟨⟨c6001, c6006⟩, rfl, rfl⟩) rfl (by decide) (by decide)

set_option maxHeartbeats 4000000 in
set_option maxRecDepth 100000 in
theorem c_X12_lawful_45 {l : Launch} {D : va_G} {cy : Nat → ClassId} {T0 tB tE : Nat} {a : Nat → Nat} (S : GS) (p0 : Int32) (p1 : Int32) (h_l_0 : fl S 0 = 1649317774848) (h_a_38_4 : ar S 38 4 = 0) (hr_p0 : 1 ≤ p0.toInt ∧ p0.toInt ≤ 3) (hr_p1 : 0 ≤ p1.toInt ∧ p1.toInt ≤ 31) : Ct l D cy T0 tB tE yX12_lawful cX12_lawful 6 (some .int) 2 42 0 0 (mw cy a S) [.ref (a 0), .int 4, .int p0, .int p1, .int 1] (QI D (U := GS) (fun r u => ((((((p0.toInt < 1)) ∨ ((1 ≤ p0.toInt) ∧ (3 < p0.toInt)))) ∨ (((1 ≤ p0.toInt) ∧ (p0.toInt ≤ 3)) ∧ (((p1.toInt < 0)) ∨ ((0 ≤ p1.toInt) ∧ (31 < p1.toInt))))) ∧ (-1) = r ∧ S = u) ∨ ((((1 ≤ p0.toInt) ∧ (p0.toInt ≤ 3)) ∧ ((0 ≤ p1.toInt) ∧ (p1.toInt ≤ 31))) ∧ (-1) = r ∧ si (sl S 2 1649317774848) 24 (-1) = u)) (mw cy a)) := by
  refine Ct.ofZ RX12 "lawful" [(0, .ref (a 0)), (1, .int 4), (2, .int p0), (3, .int p1), (4, .int 1)] rfl rfl rfl rfl (Nat.le_of_ble_eq_true rfl) ?_
  intro p e R s m args below meth c A b
  refine z_iload_n b dX12_lawful_0 rfl rfl ?_
  refine z_calli b (z_runS (As := [.int 4]) (st := []) b (c_X12_isRow_6 S ) cf_X12_isRow wm_X12_452 ws_X12_isRow dX12_lawful_1 rfl (Nat.le_of_ble_eq_true rfl) ⟨by decide, by decide, by decide, by decide⟩) (fun r6014 u6015 h6013 => ?_)
  obtain ⟨rfl, rfl⟩ := h6013
  refine z_if_eq_f (tgt := 36) b dX12_lawful_4 (by decide) (by decide) ?_
  refine z_iload_n b dX12_lawful_7 rfl rfl ?_
  refine z_iconst (v := 1) b dX12_lawful_8 (by decide) ?_
  refine z_iconst (v := 3) b dX12_lawful_9 (by decide) ?_
  refine z_calli b (z_runS (As := [.int p0, .int 1, .int 3]) (st := []) b (c_X12_isIn_35 S p0 ) cf_X12_isIn wm_X12_1 ws_X12_isIn dX12_lawful_10 rfl (Nat.le_of_ble_eq_true rfl) ⟨by decide, by decide, by decide, by decide⟩) (fun r6017 u6018 h6016 => ?_)
  rcases h6016 with ⟨c6019, rfl, rfl⟩ | ⟨c6020, rfl, rfl⟩
  · refine z_if_eq_t (tgt := 36) b dX12_lawful_13 (by decide) (by decide) ?_
    refine z_iconst (v := (-1)) b dX12_lawful_36 (by decide) ?_
    exact z_iret (u := S) b rfl dX12_lawful_37 (Or.inl ⟨(Or.inl c6019), rfl, rfl⟩) rfl (by decide) (by decide)
  · refine z_if_eq_f (tgt := 36) b dX12_lawful_13 (by decide) (by decide) ?_
    refine z_iload_n b dX12_lawful_16 rfl rfl ?_
    refine z_iconst (v := 0) b dX12_lawful_17 (by decide) ?_
    refine z_bipush (v := 31) b dX12_lawful_18 (by decide) ?_
    refine z_calli b (z_runS (As := [.int p1, .int 0, .int 31]) (st := []) b (c_X12_isIn_36 S p1 ) cf_X12_isIn wm_X12_1 ws_X12_isIn dX12_lawful_20 rfl (Nat.le_of_ble_eq_true rfl) ⟨by decide, by decide, by decide, by decide⟩) (fun r6022 u6023 h6021 => ?_)
    rcases h6021 with ⟨c6024, rfl, rfl⟩ | ⟨c6025, rfl, rfl⟩
    · refine z_if_eq_t (tgt := 36) b dX12_lawful_23 (by decide) (by decide) ?_
      refine z_iconst (v := (-1)) b dX12_lawful_36 (by decide) ?_
      exact z_iret (u := S) b rfl dX12_lawful_37 (Or.inl ⟨(Or.inr ⟨c6020, c6024⟩), rfl, rfl⟩) rfl (by decide) (by decide)
    · refine z_if_eq_f (tgt := 36) b dX12_lawful_23 (by decide) (by decide) ?_
      refine z_iload b dX12_lawful_26 rfl ?_
      refine z_iconst (v := 0) b dX12_lawful_28 (by decide) ?_
      refine z_iconst (v := 1) b dX12_lawful_29 (by decide) ?_
      refine z_calli b (z_runS (As := [.int 1, .int 0, .int 1]) (st := []) b (c_X12_isIn_10 S ) cf_X12_isIn wm_X12_1 ws_X12_isIn dX12_lawful_30 rfl (Nat.le_of_ble_eq_true rfl) ⟨by decide, by decide, by decide, by decide⟩) (fun r6027 u6028 h6026 => ?_)
      obtain ⟨rfl, rfl⟩ := h6026
      refine z_if_ne_t (tgt := 38) b dX12_lawful_33 (by decide) (by decide) ?_
      refine z_aload_n b dX12_lawful_38 rfl rfl ?_
      refine z_iload_n b dX12_lawful_39 rfl rfl ?_
      refine z_iload_n b dX12_lawful_40 rfl rfl ?_
      refine z_iload_n b dX12_lawful_41 rfl rfl ?_
      refine z_calli b (z_runV (q0 := 0) (As := [.int 4, .int p0, .int p1]) (st := []) b (c_X12_goes_5 S p0 p1 h_l_0 h_a_38_4) cf_X12_goes (mw_0 cy a S) rfl wm_X12_464 wi_X12_goes ws_X12_goes dX12_lawful_42 rfl (Nat.le_of_ble_eq_true rfl) ⟨by decide, by decide, by decide, by decide⟩) (fun r6030 u6031 h6029 => ?_)
      obtain ⟨rfl, rfl⟩ := h6029
      refine z_istore (lv' := [(5, .int 0), (0, .ref (a 0)), (1, .int 4), (2, .int p0), (3, .int p1), (4, .int 1)]) b dX12_lawful_45 (by decide) rfl ?_
      refine z_iload b dX12_lawful_47 rfl ?_
      refine z_if_ne_t (tgt := 57) b dX12_lawful_49 (by decide) (by decide) ?_
      refine z_aload_n b dX12_lawful_57 rfl rfl ?_
      refine z_get (q0 := 0) (k9 := 69) (v := .int (-1)) b (mw_0 cy a (si (sl S 2 1649317774848) 24 (-1))) rfl in_X12 (by decide) wf_X12_461 rfl dX12_lawful_58 ?_
      exact z_iret (u := (si (sl S 2 1649317774848) 24 (-1))) b rfl dX12_lawful_61 (Or.inr ⟨⟨c6020, c6025⟩, rfl, rfl⟩) rfl (by decide) (by decide)

set_option maxHeartbeats 4000000 in
set_option maxRecDepth 100000 in
theorem c_X11_lawful_46 {l : Launch} {D : va_G} {cy : Nat → ClassId} {T0 tB tE : Nat} {a : Nat → Nat} {rw : Nat → Option Nat} (S : GS) (p0 : Int32) (p1 : Int32) (p2 : Int32)  (hr_p0 : 1 ≤ p0.toInt ∧ p0.toInt ≤ 3) (hr_p1 : 0 ≤ p1.toInt ∧ p1.toInt ≤ 31) (hr_p2 : 2 ≤ p2.toInt ∧ p2.toInt ≤ 2147483647) : Ct l D cy T0 tB tE yX11_lawful cX11_lawful 6 (some .int) 1 21 0 0 (cw cy tE a rw S) [.ref (a 0), .int 4, .int p0, .int p1, .int p2] (QI D (U := GS) (fun r u => (-1) = r ∧ S = u) (cw cy tE a rw)) := by
  refine Ct.ofZ RX11 "lawful" [(0, .ref (a 0)), (1, .int 4), (2, .int p0), (3, .int p1), (4, .int p2)] rfl rfl rfl rfl (Nat.le_of_ble_eq_true rfl) ?_
  intro p e R s m args below meth c A b
  refine z_iload_n b dX11_lawful_0 rfl rfl ?_
  refine z_calli b (z_runS (As := [.int 4]) (st := []) b (c_X11_isRow_6 S ) cf_X11_isRow wm_X11_169 ws_X11_isRow dX11_lawful_1 rfl (Nat.le_of_ble_eq_true rfl) ⟨by decide, by decide, by decide, by decide⟩) (fun r6033 u6034 h6032 => ?_)
  obtain ⟨rfl, rfl⟩ := h6032
  refine z_if_eq_f (tgt := 32) b dX11_lawful_4 (by decide) (by decide) ?_
  refine z_iload_n b dX11_lawful_7 rfl rfl ?_
  refine z_calli b (z_runS (As := [.int p0]) (st := []) b (c_X11_areLaws S p0 ) cf_X11_areLaws wm_X11_181 ws_X11_areLaws dX11_lawful_8 rfl (Nat.le_of_ble_eq_true rfl) ⟨by decide, by decide, by decide, by decide⟩) (fun r6036 u6037 h6035 => ?_)
  rcases h6035 with ⟨c6038, rfl, rfl⟩ | ⟨c6039, rfl, rfl⟩
  · refine z_if_eq_t (tgt := 32) b dX11_lawful_11 (by decide) (by decide) ?_
    refine z_iconst (v := (-1)) b dX11_lawful_32 (by decide) ?_
    exact z_iret (u := S) b rfl dX11_lawful_33 ⟨rfl, rfl⟩ rfl (by decide) (by decide)
  · refine z_if_eq_f (tgt := 32) b dX11_lawful_11 (by decide) (by decide) ?_
    refine z_iload_n b dX11_lawful_14 rfl rfl ?_
    refine z_bipush (v := 31) b dX11_lawful_15 (by decide) ?_
    refine z_calli b (z_runS (As := [.int p1, .int 31]) (st := []) b (c_X11_isWithin_11 S p1 ) cf_X11_isWithin wm_X11_73 ws_X11_isWithin dX11_lawful_17 rfl (Nat.le_of_ble_eq_true rfl) ⟨by decide, by decide, by decide, by decide⟩) (fun r6041 u6042 h6040 => ?_)
    rcases h6040 with ⟨c6043, rfl, rfl⟩ | ⟨c6044, rfl, rfl⟩
    · refine z_if_eq_t (tgt := 32) b dX11_lawful_20 (by decide) (by decide) ?_
      refine z_iconst (v := (-1)) b dX11_lawful_32 (by decide) ?_
      exact z_iret (u := S) b rfl dX11_lawful_33 ⟨rfl, rfl⟩ rfl (by decide) (by decide)
    · refine z_if_eq_f (tgt := 32) b dX11_lawful_20 (by decide) (by decide) ?_
      refine z_iload b dX11_lawful_23 rfl ?_
      refine z_iconst (v := 1) b dX11_lawful_25 (by decide) ?_
      refine z_calli b (z_runS (As := [.int p2, .int 1]) (st := []) b (c_X11_isWithin_4 S p2 ) cf_X11_isWithin wm_X11_73 ws_X11_isWithin dX11_lawful_26 rfl (Nat.le_of_ble_eq_true rfl) ⟨by decide, by decide, by decide, by decide⟩) (fun r6046 u6047 h6045 => ?_)
      rcases h6045 with ⟨c6048, rfl, rfl⟩ | ⟨c6049, rfl, rfl⟩
      · refine z_if_ne_f (tgt := 34) b dX11_lawful_29 (by decide) (by decide) ?_
        refine z_iconst (v := (-1)) b dX11_lawful_32 (by decide) ?_
        exact z_iret (u := S) b rfl dX11_lawful_33 ⟨rfl, rfl⟩ rfl (by decide) (by decide)
      · exfalso; omega

set_option maxHeartbeats 4000000 in
set_option maxRecDepth 100000 in
theorem c_X12_lawful_46 {l : Launch} {D : va_G} {cy : Nat → ClassId} {T0 tB tE : Nat} {a : Nat → Nat} (S : GS) (p0 : Int32) (p1 : Int32) (p2 : Int32)  (hr_p0 : 1 ≤ p0.toInt ∧ p0.toInt ≤ 3) (hr_p1 : 0 ≤ p1.toInt ∧ p1.toInt ≤ 31) (hr_p2 : 2 ≤ p2.toInt ∧ p2.toInt ≤ 2147483647) : Ct l D cy T0 tB tE yX12_lawful cX12_lawful 6 (some .int) 2 42 0 0 (mw cy a S) [.ref (a 0), .int 4, .int p0, .int p1, .int p2] (QI D (U := GS) (fun r u => (-1) = r ∧ S = u) (mw cy a)) := by
  refine Ct.ofZ RX12 "lawful" [(0, .ref (a 0)), (1, .int 4), (2, .int p0), (3, .int p1), (4, .int p2)] rfl rfl rfl rfl (Nat.le_of_ble_eq_true rfl) ?_
  intro p e R s m args below meth c A b
  refine z_iload_n b dX12_lawful_0 rfl rfl ?_
  refine z_calli b (z_runS (As := [.int 4]) (st := []) b (c_X12_isRow_6 S ) cf_X12_isRow wm_X12_452 ws_X12_isRow dX12_lawful_1 rfl (Nat.le_of_ble_eq_true rfl) ⟨by decide, by decide, by decide, by decide⟩) (fun r6051 u6052 h6050 => ?_)
  obtain ⟨rfl, rfl⟩ := h6050
  refine z_if_eq_f (tgt := 36) b dX12_lawful_4 (by decide) (by decide) ?_
  refine z_iload_n b dX12_lawful_7 rfl rfl ?_
  refine z_iconst (v := 1) b dX12_lawful_8 (by decide) ?_
  refine z_iconst (v := 3) b dX12_lawful_9 (by decide) ?_
  refine z_calli b (z_runS (As := [.int p0, .int 1, .int 3]) (st := []) b (c_X12_isIn_35 S p0 ) cf_X12_isIn wm_X12_1 ws_X12_isIn dX12_lawful_10 rfl (Nat.le_of_ble_eq_true rfl) ⟨by decide, by decide, by decide, by decide⟩) (fun r6054 u6055 h6053 => ?_)
  rcases h6053 with ⟨c6056, rfl, rfl⟩ | ⟨c6057, rfl, rfl⟩
  · refine z_if_eq_t (tgt := 36) b dX12_lawful_13 (by decide) (by decide) ?_
    refine z_iconst (v := (-1)) b dX12_lawful_36 (by decide) ?_
    exact z_iret (u := S) b rfl dX12_lawful_37 ⟨rfl, rfl⟩ rfl (by decide) (by decide)
  · refine z_if_eq_f (tgt := 36) b dX12_lawful_13 (by decide) (by decide) ?_
    refine z_iload_n b dX12_lawful_16 rfl rfl ?_
    refine z_iconst (v := 0) b dX12_lawful_17 (by decide) ?_
    refine z_bipush (v := 31) b dX12_lawful_18 (by decide) ?_
    refine z_calli b (z_runS (As := [.int p1, .int 0, .int 31]) (st := []) b (c_X12_isIn_36 S p1 ) cf_X12_isIn wm_X12_1 ws_X12_isIn dX12_lawful_20 rfl (Nat.le_of_ble_eq_true rfl) ⟨by decide, by decide, by decide, by decide⟩) (fun r6059 u6060 h6058 => ?_)
    rcases h6058 with ⟨c6061, rfl, rfl⟩ | ⟨c6062, rfl, rfl⟩
    · refine z_if_eq_t (tgt := 36) b dX12_lawful_23 (by decide) (by decide) ?_
      refine z_iconst (v := (-1)) b dX12_lawful_36 (by decide) ?_
      exact z_iret (u := S) b rfl dX12_lawful_37 ⟨rfl, rfl⟩ rfl (by decide) (by decide)
    · refine z_if_eq_f (tgt := 36) b dX12_lawful_23 (by decide) (by decide) ?_
      refine z_iload b dX12_lawful_26 rfl ?_
      refine z_iconst (v := 0) b dX12_lawful_28 (by decide) ?_
      refine z_iconst (v := 1) b dX12_lawful_29 (by decide) ?_
      refine z_calli b (z_runS (As := [.int p2, .int 0, .int 1]) (st := []) b (c_X12_isIn_8 S p2 ) cf_X12_isIn wm_X12_1 ws_X12_isIn dX12_lawful_30 rfl (Nat.le_of_ble_eq_true rfl) ⟨by decide, by decide, by decide, by decide⟩) (fun r6064 u6065 h6063 => ?_)
      rcases h6063 with ⟨c6066, rfl, rfl⟩ | ⟨c6067, rfl, rfl⟩
      · refine z_if_ne_f (tgt := 38) b dX12_lawful_33 (by decide) (by decide) ?_
        refine z_iconst (v := (-1)) b dX12_lawful_36 (by decide) ?_
        exact z_iret (u := S) b rfl dX12_lawful_37 ⟨rfl, rfl⟩ rfl (by decide) (by decide)
      · exfalso; omega

set_option maxHeartbeats 4000000 in
set_option maxRecDepth 100000 in
theorem c_X11_lawful_47 {l : Launch} {D : va_G} {cy : Nat → ClassId} {T0 tB tE : Nat} {a : Nat → Nat} {rw : Nat → Option Nat} (S : GS) (p0 : Int32) (p1 : Int32) (p2 : Int32)  (hr_p0 : 1 ≤ p0.toInt ∧ p0.toInt ≤ 3) (hr_p1 : 0 ≤ p1.toInt ∧ p1.toInt ≤ 31) (hr_p2 : (-2147483648) ≤ p2.toInt ∧ p2.toInt ≤ (-1)) : Ct l D cy T0 tB tE yX11_lawful cX11_lawful 6 (some .int) 1 21 0 0 (cw cy tE a rw S) [.ref (a 0), .int 5, .int p0, .int p1, .int p2] (QI D (U := GS) (fun r u => (-1) = r ∧ S = u) (cw cy tE a rw)) := by
  refine Ct.ofZ RX11 "lawful" [(0, .ref (a 0)), (1, .int 5), (2, .int p0), (3, .int p1), (4, .int p2)] rfl rfl rfl rfl (Nat.le_of_ble_eq_true rfl) ?_
  intro p e R s m args below meth c A b
  refine z_iload_n b dX11_lawful_0 rfl rfl ?_
  refine z_calli b (z_runS (As := [.int 5]) (st := []) b (c_X11_isRow_7 S ) cf_X11_isRow wm_X11_169 ws_X11_isRow dX11_lawful_1 rfl (Nat.le_of_ble_eq_true rfl) ⟨by decide, by decide, by decide, by decide⟩) (fun r6069 u6070 h6068 => ?_)
  obtain ⟨rfl, rfl⟩ := h6068
  refine z_if_eq_f (tgt := 32) b dX11_lawful_4 (by decide) (by decide) ?_
  refine z_iload_n b dX11_lawful_7 rfl rfl ?_
  refine z_calli b (z_runS (As := [.int p0]) (st := []) b (c_X11_areLaws S p0 ) cf_X11_areLaws wm_X11_181 ws_X11_areLaws dX11_lawful_8 rfl (Nat.le_of_ble_eq_true rfl) ⟨by decide, by decide, by decide, by decide⟩) (fun r6072 u6073 h6071 => ?_)
  rcases h6071 with ⟨c6074, rfl, rfl⟩ | ⟨c6075, rfl, rfl⟩
  · refine z_if_eq_t (tgt := 32) b dX11_lawful_11 (by decide) (by decide) ?_
    refine z_iconst (v := (-1)) b dX11_lawful_32 (by decide) ?_
    exact z_iret (u := S) b rfl dX11_lawful_33 ⟨rfl, rfl⟩ rfl (by decide) (by decide)
  · refine z_if_eq_f (tgt := 32) b dX11_lawful_11 (by decide) (by decide) ?_
    refine z_iload_n b dX11_lawful_14 rfl rfl ?_
    refine z_bipush (v := 31) b dX11_lawful_15 (by decide) ?_
    refine z_calli b (z_runS (As := [.int p1, .int 31]) (st := []) b (c_X11_isWithin_11 S p1 ) cf_X11_isWithin wm_X11_73 ws_X11_isWithin dX11_lawful_17 rfl (Nat.le_of_ble_eq_true rfl) ⟨by decide, by decide, by decide, by decide⟩) (fun r6077 u6078 h6076 => ?_)
    rcases h6076 with ⟨c6079, rfl, rfl⟩ | ⟨c6080, rfl, rfl⟩
    · refine z_if_eq_t (tgt := 32) b dX11_lawful_20 (by decide) (by decide) ?_
      refine z_iconst (v := (-1)) b dX11_lawful_32 (by decide) ?_
      exact z_iret (u := S) b rfl dX11_lawful_33 ⟨rfl, rfl⟩ rfl (by decide) (by decide)
    · refine z_if_eq_f (tgt := 32) b dX11_lawful_20 (by decide) (by decide) ?_
      refine z_iload b dX11_lawful_23 rfl ?_
      refine z_iconst (v := 1) b dX11_lawful_25 (by decide) ?_
      refine z_calli b (z_runS (As := [.int p2, .int 1]) (st := []) b (c_X11_isWithin_4 S p2 ) cf_X11_isWithin wm_X11_73 ws_X11_isWithin dX11_lawful_26 rfl (Nat.le_of_ble_eq_true rfl) ⟨by decide, by decide, by decide, by decide⟩) (fun r6082 u6083 h6081 => ?_)
      rcases h6081 with ⟨c6084, rfl, rfl⟩ | ⟨c6085, rfl, rfl⟩
      · refine z_if_ne_f (tgt := 34) b dX11_lawful_29 (by decide) (by decide) ?_
        refine z_iconst (v := (-1)) b dX11_lawful_32 (by decide) ?_
        exact z_iret (u := S) b rfl dX11_lawful_33 ⟨rfl, rfl⟩ rfl (by decide) (by decide)
      · exfalso; omega

set_option maxHeartbeats 4000000 in
set_option maxRecDepth 100000 in
theorem c_X12_lawful_47 {l : Launch} {D : va_G} {cy : Nat → ClassId} {T0 tB tE : Nat} {a : Nat → Nat} (S : GS) (p0 : Int32) (p1 : Int32) (p2 : Int32)  (hr_p0 : 1 ≤ p0.toInt ∧ p0.toInt ≤ 3) (hr_p1 : 0 ≤ p1.toInt ∧ p1.toInt ≤ 31) (hr_p2 : (-2147483648) ≤ p2.toInt ∧ p2.toInt ≤ (-1)) : Ct l D cy T0 tB tE yX12_lawful cX12_lawful 6 (some .int) 2 42 0 0 (mw cy a S) [.ref (a 0), .int 5, .int p0, .int p1, .int p2] (QI D (U := GS) (fun r u => (-1) = r ∧ S = u) (mw cy a)) := by
  refine Ct.ofZ RX12 "lawful" [(0, .ref (a 0)), (1, .int 5), (2, .int p0), (3, .int p1), (4, .int p2)] rfl rfl rfl rfl (Nat.le_of_ble_eq_true rfl) ?_
  intro p e R s m args below meth c A b
  refine z_iload_n b dX12_lawful_0 rfl rfl ?_
  refine z_calli b (z_runS (As := [.int 5]) (st := []) b (c_X12_isRow_7 S ) cf_X12_isRow wm_X12_452 ws_X12_isRow dX12_lawful_1 rfl (Nat.le_of_ble_eq_true rfl) ⟨by decide, by decide, by decide, by decide⟩) (fun r6087 u6088 h6086 => ?_)
  obtain ⟨rfl, rfl⟩ := h6086
  refine z_if_eq_f (tgt := 36) b dX12_lawful_4 (by decide) (by decide) ?_
  refine z_iload_n b dX12_lawful_7 rfl rfl ?_
  refine z_iconst (v := 1) b dX12_lawful_8 (by decide) ?_
  refine z_iconst (v := 3) b dX12_lawful_9 (by decide) ?_
  refine z_calli b (z_runS (As := [.int p0, .int 1, .int 3]) (st := []) b (c_X12_isIn_35 S p0 ) cf_X12_isIn wm_X12_1 ws_X12_isIn dX12_lawful_10 rfl (Nat.le_of_ble_eq_true rfl) ⟨by decide, by decide, by decide, by decide⟩) (fun r6090 u6091 h6089 => ?_)
  rcases h6089 with ⟨c6092, rfl, rfl⟩ | ⟨c6093, rfl, rfl⟩
  · refine z_if_eq_t (tgt := 36) b dX12_lawful_13 (by decide) (by decide) ?_
    refine z_iconst (v := (-1)) b dX12_lawful_36 (by decide) ?_
    exact z_iret (u := S) b rfl dX12_lawful_37 ⟨rfl, rfl⟩ rfl (by decide) (by decide)
  · refine z_if_eq_f (tgt := 36) b dX12_lawful_13 (by decide) (by decide) ?_
    refine z_iload_n b dX12_lawful_16 rfl rfl ?_
    refine z_iconst (v := 0) b dX12_lawful_17 (by decide) ?_
    refine z_bipush (v := 31) b dX12_lawful_18 (by decide) ?_
    refine z_calli b (z_runS (As := [.int p1, .int 0, .int 31]) (st := []) b (c_X12_isIn_36 S p1 ) cf_X12_isIn wm_X12_1 ws_X12_isIn dX12_lawful_20 rfl (Nat.le_of_ble_eq_true rfl) ⟨by decide, by decide, by decide, by decide⟩) (fun r6095 u6096 h6094 => ?_)
    rcases h6094 with ⟨c6097, rfl, rfl⟩ | ⟨c6098, rfl, rfl⟩
    · refine z_if_eq_t (tgt := 36) b dX12_lawful_23 (by decide) (by decide) ?_
      refine z_iconst (v := (-1)) b dX12_lawful_36 (by decide) ?_
      exact z_iret (u := S) b rfl dX12_lawful_37 ⟨rfl, rfl⟩ rfl (by decide) (by decide)
    · refine z_if_eq_f (tgt := 36) b dX12_lawful_23 (by decide) (by decide) ?_
      refine z_iload b dX12_lawful_26 rfl ?_
      refine z_iconst (v := 0) b dX12_lawful_28 (by decide) ?_
      refine z_iconst (v := 1) b dX12_lawful_29 (by decide) ?_
      refine z_calli b (z_runS (As := [.int p2, .int 0, .int 1]) (st := []) b (c_X12_isIn_8 S p2 ) cf_X12_isIn wm_X12_1 ws_X12_isIn dX12_lawful_30 rfl (Nat.le_of_ble_eq_true rfl) ⟨by decide, by decide, by decide, by decide⟩) (fun r6100 u6101 h6099 => ?_)
      rcases h6099 with ⟨c6102, rfl, rfl⟩ | ⟨c6103, rfl, rfl⟩
      · refine z_if_ne_f (tgt := 38) b dX12_lawful_33 (by decide) (by decide) ?_
        refine z_iconst (v := (-1)) b dX12_lawful_36 (by decide) ?_
        exact z_iret (u := S) b rfl dX12_lawful_37 ⟨rfl, rfl⟩ rfl (by decide) (by decide)
      · exfalso; omega

set_option maxHeartbeats 4000000 in
set_option maxRecDepth 100000 in
theorem c_X2_follow_6 {l : Launch} {D : va_G} {cy : Nat → ClassId} {T0 tB tE : Nat} {a : Nat → Nat} {rw : Nat → Option Nat} (S : GS) (p0 : Int32) (p1 : Int32) (h_i_14 : fi S 14 = (-1)) (h_i_37 : fi S 37 = 0) : Ct l D cy T0 tB tE yX2_follow cX2_follow 6 (some .int) 2 61 0 0 (cw cy tE a rw S) [.ref (a 16), .ref (a 46), .ref (a 14), .int p0, .int p1] (QI D (U := GS) (fun r u => 0 = r ∧ sa S 8 (va_cpy (ar S 4) (ar S 8) 0 0 51) = u) (cw cy tE a rw)) := by
  refine Ct.ofZ RX2 "follow" [(0, .ref (a 16)), (1, .ref (a 46)), (2, .ref (a 14)), (3, .int p0), (4, .int p1)] rfl rfl rfl rfl (Nat.le_of_ble_eq_true rfl) ?_
  intro p e R s m args below meth c A b
  refine z_aload_n b dX2_follow_0 rfl rfl ?_
  refine z_get (q0 := 16) (k9 := 3) (v := .ref (a 23)) b (cw_16 cy tE a rw S) rfl in_X2 (by decide) wf_X2_25 rfl dX2_follow_1 ?_
  refine z_aload_n b dX2_follow_4 rfl rfl ?_
  refine z_callv b (z_runV (q0 := 23) (As := [.ref (a 14)]) (st := []) b (c_X9_copy S ) cf_X9_copy (cw_23 cy tE a rw S) rfl wm_X2_80 wi_X9_copy ws_X9_copy dX2_follow_5 rfl (Nat.le_of_ble_eq_true rfl) ⟨by decide, by decide, by decide, by decide⟩) (fun u6122 h6120 => ?_)
  obtain rfl := h6120
  refine z_aload_n b dX2_follow_8 rfl rfl ?_
  refine z_iconst (v := (-1)) b dX2_follow_9 (by decide) ?_
  refine z_put (q0 := 16) (k9 := 4) tyX2 b (cw_16 cy tE a rw (sa S 8 (va_cpy (ar S 4) (ar S 8) 0 0 51))) rfl in_X2 tyX2_ok nmX2 (by decide) wf_X2_28 rfl rfl rfl rfl (Nat.le_of_ble_eq_true rfl) dX2_follow_10 ((cwp_16_4 cy tE a rw (sa S 8 (va_cpy (ar S 4) (ar S 8) 0 0 51)) (-1)).trans (congrArg (cw cy tE a rw) (si_same h_i_14))) ?_
  refine z_iconst (v := 0) b dX2_follow_13 (by decide) ?_
  refine z_istore (lv' := [(5, .int 0), (0, .ref (a 16)), (1, .ref (a 46)), (2, .ref (a 14)), (3, .int p0), (4, .int p1)]) b dX2_follow_14 (by decide) rfl ?_
  refine z_iload b dX2_follow_16 rfl ?_
  refine z_aload_n b dX2_follow_18 rfl rfl ?_
  refine z_get (q0 := 46) (k9 := 1) (v := .int (fi (sa S 8 (va_cpy (ar S 4) (ar S 8) 0 0 51)) 37)) b (cw_46 cy tE a rw (sa S 8 (va_cpy (ar S 4) (ar S 8) 0 0 51))) rfl in_X7 (by decide) wf_X2_108 rfl dX2_follow_19 ?_
  refine z_eqi h_i_37 ?_
  refine z_icmp_ge_t (tgt := 74) b dX2_follow_22 (by decide) (by decide) ?_
  refine z_aload_n b dX2_follow_74 rfl rfl ?_
  refine z_get (q0 := 46) (k9 := 1) (v := .int (fi (sa S 8 (va_cpy (ar S 4) (ar S 8) 0 0 51)) 37)) b (cw_46 cy tE a rw (sa S 8 (va_cpy (ar S 4) (ar S 8) 0 0 51))) rfl in_X7 (by decide) wf_X2_108 rfl dX2_follow_75 ?_
  refine z_eqi h_i_37 ?_
  exact z_iret (u := (sa S 8 (va_cpy (ar S 4) (ar S 8) 0 0 51))) b rfl dX2_follow_78 ⟨rfl, rfl⟩ rfl (by decide) (by decide)

set_option maxHeartbeats 4000000 in
set_option maxRecDepth 100000 in
theorem c_X11_lawful_48 {l : Launch} {D : va_G} {cy : Nat → ClassId} {T0 tB tE : Nat} {a : Nat → Nat} {rw : Nat → Option Nat} (S : GS) (p0 : Int32) (p1 : Int32) (h_i_14 : fi S 14 = (-1)) (h_i_37 : fi S 37 = 0) (hrw : ∀ i, i < 6 → rw i = some (a (36 + 2 * i))) (hr_p0 : 1 ≤ p0.toInt ∧ p0.toInt ≤ 3) (hr_p1 : 0 ≤ p1.toInt ∧ p1.toInt ≤ 31) : Ct l D cy T0 tB tE yX11_lawful cX11_lawful 6 (some .int) 3 86 0 0 (cw cy tE a rw S) [.ref (a 0), .int 5, .int p0, .int p1, .int 0] (QI D (U := GS) (fun r u => ((((((p0.toInt < 1)) ∨ ((1 ≤ p0.toInt) ∧ (3 < p0.toInt)))) ∨ (((1 ≤ p0.toInt) ∧ (p0.toInt ≤ 3)) ∧ (((p1.toInt < 0)) ∨ ((0 ≤ p1.toInt) ∧ (31 < p1.toInt))))) ∧ (-1) = r ∧ S = u) ∨ ((((1 ≤ p0.toInt) ∧ (p0.toInt ≤ 3)) ∧ ((0 ≤ p1.toInt) ∧ (p1.toInt ≤ 31))) ∧ 0 = r ∧ sa S 8 (va_cpy (ar S 4) (ar S 8) 0 0 51) = u)) (cw cy tE a rw)) := by
  refine Ct.ofZ RX11 "lawful" [(0, .ref (a 0)), (1, .int 5), (2, .int p0), (3, .int p1), (4, .int 0)] rfl rfl rfl rfl (Nat.le_of_ble_eq_true rfl) ?_
  intro p e R s m args below meth c A b
  refine z_iload_n b dX11_lawful_0 rfl rfl ?_
  refine z_calli b (z_runS (As := [.int 5]) (st := []) b (c_X11_isRow_7 S ) cf_X11_isRow wm_X11_169 ws_X11_isRow dX11_lawful_1 rfl (Nat.le_of_ble_eq_true rfl) ⟨by decide, by decide, by decide, by decide⟩) (fun r6105 u6106 h6104 => ?_)
  obtain ⟨rfl, rfl⟩ := h6104
  refine z_if_eq_f (tgt := 32) b dX11_lawful_4 (by decide) (by decide) ?_
  refine z_iload_n b dX11_lawful_7 rfl rfl ?_
  refine z_calli b (z_runS (As := [.int p0]) (st := []) b (c_X11_areLaws S p0 ) cf_X11_areLaws wm_X11_181 ws_X11_areLaws dX11_lawful_8 rfl (Nat.le_of_ble_eq_true rfl) ⟨by decide, by decide, by decide, by decide⟩) (fun r6108 u6109 h6107 => ?_)
  rcases h6107 with ⟨c6110, rfl, rfl⟩ | ⟨c6111, rfl, rfl⟩
  · refine z_if_eq_t (tgt := 32) b dX11_lawful_11 (by decide) (by decide) ?_
    refine z_iconst (v := (-1)) b dX11_lawful_32 (by decide) ?_
    exact z_iret (u := S) b rfl dX11_lawful_33 (Or.inl ⟨(Or.inl c6110), rfl, rfl⟩) rfl (by decide) (by decide)
  · refine z_if_eq_f (tgt := 32) b dX11_lawful_11 (by decide) (by decide) ?_
    refine z_iload_n b dX11_lawful_14 rfl rfl ?_
    refine z_bipush (v := 31) b dX11_lawful_15 (by decide) ?_
    refine z_calli b (z_runS (As := [.int p1, .int 31]) (st := []) b (c_X11_isWithin_11 S p1 ) cf_X11_isWithin wm_X11_73 ws_X11_isWithin dX11_lawful_17 rfl (Nat.le_of_ble_eq_true rfl) ⟨by decide, by decide, by decide, by decide⟩) (fun r6113 u6114 h6112 => ?_)
    rcases h6112 with ⟨c6115, rfl, rfl⟩ | ⟨c6116, rfl, rfl⟩
    · refine z_if_eq_t (tgt := 32) b dX11_lawful_20 (by decide) (by decide) ?_
      refine z_iconst (v := (-1)) b dX11_lawful_32 (by decide) ?_
      exact z_iret (u := S) b rfl dX11_lawful_33 (Or.inl ⟨(Or.inr ⟨c6111, c6115⟩), rfl, rfl⟩) rfl (by decide) (by decide)
    · refine z_if_eq_f (tgt := 32) b dX11_lawful_20 (by decide) (by decide) ?_
      refine z_iload b dX11_lawful_23 rfl ?_
      refine z_iconst (v := 1) b dX11_lawful_25 (by decide) ?_
      refine z_calli b (z_runS (As := [.int 0, .int 1]) (st := []) b (c_X11_isWithin_5 S ) cf_X11_isWithin wm_X11_73 ws_X11_isWithin dX11_lawful_26 rfl (Nat.le_of_ble_eq_true rfl) ⟨by decide, by decide, by decide, by decide⟩) (fun r6118 u6119 h6117 => ?_)
      obtain ⟨rfl, rfl⟩ := h6117
      refine z_if_ne_t (tgt := 34) b dX11_lawful_29 (by decide) (by decide) ?_
      refine z_aload_n b dX11_lawful_34 rfl rfl ?_
      refine z_get (q0 := 0) (k9 := 5) (v := .ref (a 16)) b (cw_0 cy tE a rw S) rfl in_X11 (by decide) wf_X11_43 rfl dX11_lawful_35 ?_
      refine z_aload_n b dX11_lawful_38 rfl rfl ?_
      refine z_get (q0 := 0) (k9 := 7) (v := .ref (a 35)) b (cw_0 cy tE a rw S) rfl in_X11 (by decide) wf_X11_58 rfl dX11_lawful_39 ?_
      refine z_iload_n b dX11_lawful_42 rfl rfl ?_
      refine y_aald (q0 := 35) (t0 := 4) (j := 5) (v := .ref (a 46)) b (cw_35 cy tE a rw S) rfl (by decide) (by rw [hrw 5 (by decide)]; rfl) dX11_lawful_43 ?_
      refine z_aload_n b dX11_lawful_44 rfl rfl ?_
      refine z_get (q0 := 0) (k9 := 4) (v := .ref (a 14)) b (cw_0 cy tE a rw S) rfl in_X11 (by decide) wf_X11_34 rfl dX11_lawful_45 ?_
      refine z_iload_n b dX11_lawful_48 rfl rfl ?_
      refine z_iload_n b dX11_lawful_49 rfl rfl ?_
      refine z_calli b (z_runV (q0 := 16) (As := [.ref (a 46), .ref (a 14), .int p0, .int p1]) (st := []) b (c_X2_follow_6 S p0 p1 h_i_14 h_i_37) cf_X2_follow (cw_16 cy tE a rw S) rfl wm_X11_184 wi_X2_follow ws_X2_follow dX11_lawful_50 rfl (Nat.le_of_ble_eq_true rfl) ⟨by decide, by decide, by decide, by decide⟩) (fun r6124 u6125 h6123 => ?_)
      obtain ⟨rfl, rfl⟩ := h6123
      refine z_istore (lv' := [(5, .int 0), (0, .ref (a 0)), (1, .int 5), (2, .int p0), (3, .int p1), (4, .int 0)]) b dX11_lawful_53 (by decide) rfl ?_
      refine z_iload b dX11_lawful_55 rfl ?_
      refine z_if_ne_f (tgt := 65) b dX11_lawful_57 (by decide) (by decide) ?_
      refine z_iload b dX11_lawful_60 rfl ?_
      refine z_goto (tgt := 72) b dX11_lawful_62 (by decide) ?_
      exact z_iret (u := (sa S 8 (va_cpy (ar S 4) (ar S 8) 0 0 51))) b rfl dX11_lawful_72 (Or.inr ⟨⟨c6111, c6116⟩, rfl, rfl⟩) rfl (by decide) (by decide)

set_option maxHeartbeats 4000000 in
set_option maxRecDepth 100000 in
theorem c_X12_goes_6 {l : Launch} {D : va_G} {cy : Nat → ClassId} {T0 tB tE : Nat} {a : Nat → Nat} (S : GS) (p0 : Int32) (p1 : Int32) (h_l_0 : fl S 0 = 1649317774848) (h_a_38_5 : ar S 38 5 = 0) : Ct l D cy T0 tB tE yX12_goes cX12_goes 5 (some .int) 0 0 0 0 (mw cy a S) [.ref (a 0), .int 5, .int p0, .int p1] (QI D (U := GS) (fun r u => 0 = r ∧ si (sl S 2 1649317774848) 24 (-1) = u) (mw cy a)) := by
  refine Ct.ofZ RX12 "goes" [(0, .ref (a 0)), (1, .int 5), (2, .int p0), (3, .int p1)] rfl rfl rfl rfl (Nat.le_of_ble_eq_true rfl) ?_
  intro p e R s m args below meth c A b
  refine z_aload_n b dX12_goes_0 rfl rfl ?_
  refine z_aload_n b dX12_goes_1 rfl rfl ?_
  refine z_get (q0 := 0) (k9 := 6) (v := .long (fl S 0)) b (mw_0 cy a S) rfl in_X12 (by decide) wf_X12_153 rfl dX12_goes_2 ?_
  refine z_eql h_l_0 ?_
  refine z_put (q0 := 0) (k9 := 68) tyX12 b (mw_0 cy a S) rfl in_X12 tyX12_ok nmX12 (by decide) wf_X12_458 rfl rfl rfl rfl (Nat.le_of_ble_eq_true rfl) dX12_goes_5 (mwp_0_68 cy a S 1649317774848) ?_
  refine z_aload_n b dX12_goes_8 rfl rfl ?_
  refine z_iconst (v := (-1)) b dX12_goes_9 (by decide) ?_
  refine z_put (q0 := 0) (k9 := 69) tyX12 b (mw_0 cy a (sl S 2 1649317774848)) rfl in_X12 tyX12_ok nmX12 (by decide) wf_X12_461 rfl rfl rfl rfl (Nat.le_of_ble_eq_true rfl) dX12_goes_10 (mwp_0_69 cy a (sl S 2 1649317774848) (-1)) ?_
  refine z_iconst (v := 0) b dX12_goes_13 (by decide) ?_
  refine z_istore (lv' := [(4, .int 0), (0, .ref (a 0)), (1, .int 5), (2, .int p0), (3, .int p1)]) b dX12_goes_14 (by decide) rfl ?_
  refine z_iload b dX12_goes_16 rfl ?_
  refine z_aload_n b dX12_goes_18 rfl rfl ?_
  refine z_get (q0 := 0) (k9 := 66) (v := .ref (a 41)) b (mw_0 cy a (si (sl S 2 1649317774848) 24 (-1))) rfl in_X12 (by decide) wf_X12_140 rfl dX12_goes_19 ?_
  refine z_iload_n b dX12_goes_22 rfl rfl ?_
  refine y_iald (q0 := 41) (j := 5) (v := (ar (si (sl S 2 1649317774848) 24 (-1)) 38 5)) b (mw_41 cy a (si (sl S 2 1649317774848) 24 (-1))) (by decide) rfl dX12_goes_23 ?_
  refine z_eqi h_a_38_5 ?_
  refine z_icmp_ge_t (tgt := 78) b dX12_goes_24 (by decide) (by decide) ?_
  refine z_aload_n b dX12_goes_78 rfl rfl ?_
  refine z_get (q0 := 0) (k9 := 66) (v := .ref (a 41)) b (mw_0 cy a (si (sl S 2 1649317774848) 24 (-1))) rfl in_X12 (by decide) wf_X12_140 rfl dX12_goes_79 ?_
  refine z_iload_n b dX12_goes_82 rfl rfl ?_
  refine y_iald (q0 := 41) (j := 5) (v := (ar (si (sl S 2 1649317774848) 24 (-1)) 38 5)) b (mw_41 cy a (si (sl S 2 1649317774848) 24 (-1))) (by decide) rfl dX12_goes_83 ?_
  refine z_eqi h_a_38_5 ?_
  exact z_iret (u := (si (sl S 2 1649317774848) 24 (-1))) b rfl dX12_goes_84 ⟨rfl, rfl⟩ rfl (by decide) (by decide)

set_option maxHeartbeats 4000000 in
set_option maxRecDepth 100000 in
theorem c_X12_lawful_48 {l : Launch} {D : va_G} {cy : Nat → ClassId} {T0 tB tE : Nat} {a : Nat → Nat} (S : GS) (p0 : Int32) (p1 : Int32) (h_l_0 : fl S 0 = 1649317774848) (h_a_38_5 : ar S 38 5 = 0) (hr_p0 : 1 ≤ p0.toInt ∧ p0.toInt ≤ 3) (hr_p1 : 0 ≤ p1.toInt ∧ p1.toInt ≤ 31) : Ct l D cy T0 tB tE yX12_lawful cX12_lawful 6 (some .int) 2 42 0 0 (mw cy a S) [.ref (a 0), .int 5, .int p0, .int p1, .int 0] (QI D (U := GS) (fun r u => ((((((p0.toInt < 1)) ∨ ((1 ≤ p0.toInt) ∧ (3 < p0.toInt)))) ∨ (((1 ≤ p0.toInt) ∧ (p0.toInt ≤ 3)) ∧ (((p1.toInt < 0)) ∨ ((0 ≤ p1.toInt) ∧ (31 < p1.toInt))))) ∧ (-1) = r ∧ S = u) ∨ ((((1 ≤ p0.toInt) ∧ (p0.toInt ≤ 3)) ∧ ((0 ≤ p1.toInt) ∧ (p1.toInt ≤ 31))) ∧ 0 = r ∧ si (sl S 2 1649317774848) 24 (-1) = u)) (mw cy a)) := by
  refine Ct.ofZ RX12 "lawful" [(0, .ref (a 0)), (1, .int 5), (2, .int p0), (3, .int p1), (4, .int 0)] rfl rfl rfl rfl (Nat.le_of_ble_eq_true rfl) ?_
  intro p e R s m args below meth c A b
  refine z_iload_n b dX12_lawful_0 rfl rfl ?_
  refine z_calli b (z_runS (As := [.int 5]) (st := []) b (c_X12_isRow_7 S ) cf_X12_isRow wm_X12_452 ws_X12_isRow dX12_lawful_1 rfl (Nat.le_of_ble_eq_true rfl) ⟨by decide, by decide, by decide, by decide⟩) (fun r6127 u6128 h6126 => ?_)
  obtain ⟨rfl, rfl⟩ := h6126
  refine z_if_eq_f (tgt := 36) b dX12_lawful_4 (by decide) (by decide) ?_
  refine z_iload_n b dX12_lawful_7 rfl rfl ?_
  refine z_iconst (v := 1) b dX12_lawful_8 (by decide) ?_
  refine z_iconst (v := 3) b dX12_lawful_9 (by decide) ?_
  refine z_calli b (z_runS (As := [.int p0, .int 1, .int 3]) (st := []) b (c_X12_isIn_35 S p0 ) cf_X12_isIn wm_X12_1 ws_X12_isIn dX12_lawful_10 rfl (Nat.le_of_ble_eq_true rfl) ⟨by decide, by decide, by decide, by decide⟩) (fun r6130 u6131 h6129 => ?_)
  rcases h6129 with ⟨c6132, rfl, rfl⟩ | ⟨c6133, rfl, rfl⟩
  · refine z_if_eq_t (tgt := 36) b dX12_lawful_13 (by decide) (by decide) ?_
    refine z_iconst (v := (-1)) b dX12_lawful_36 (by decide) ?_
    exact z_iret (u := S) b rfl dX12_lawful_37 (Or.inl ⟨(Or.inl c6132), rfl, rfl⟩) rfl (by decide) (by decide)
  · refine z_if_eq_f (tgt := 36) b dX12_lawful_13 (by decide) (by decide) ?_
    refine z_iload_n b dX12_lawful_16 rfl rfl ?_
    refine z_iconst (v := 0) b dX12_lawful_17 (by decide) ?_
    refine z_bipush (v := 31) b dX12_lawful_18 (by decide) ?_
    refine z_calli b (z_runS (As := [.int p1, .int 0, .int 31]) (st := []) b (c_X12_isIn_36 S p1 ) cf_X12_isIn wm_X12_1 ws_X12_isIn dX12_lawful_20 rfl (Nat.le_of_ble_eq_true rfl) ⟨by decide, by decide, by decide, by decide⟩) (fun r6135 u6136 h6134 => ?_)
    rcases h6134 with ⟨c6137, rfl, rfl⟩ | ⟨c6138, rfl, rfl⟩
    · refine z_if_eq_t (tgt := 36) b dX12_lawful_23 (by decide) (by decide) ?_
      refine z_iconst (v := (-1)) b dX12_lawful_36 (by decide) ?_
      exact z_iret (u := S) b rfl dX12_lawful_37 (Or.inl ⟨(Or.inr ⟨c6133, c6137⟩), rfl, rfl⟩) rfl (by decide) (by decide)
    · refine z_if_eq_f (tgt := 36) b dX12_lawful_23 (by decide) (by decide) ?_
      refine z_iload b dX12_lawful_26 rfl ?_
      refine z_iconst (v := 0) b dX12_lawful_28 (by decide) ?_
      refine z_iconst (v := 1) b dX12_lawful_29 (by decide) ?_
      refine z_calli b (z_runS (As := [.int 0, .int 0, .int 1]) (st := []) b (c_X12_isIn_9 S ) cf_X12_isIn wm_X12_1 ws_X12_isIn dX12_lawful_30 rfl (Nat.le_of_ble_eq_true rfl) ⟨by decide, by decide, by decide, by decide⟩) (fun r6140 u6141 h6139 => ?_)
      obtain ⟨rfl, rfl⟩ := h6139
      refine z_if_ne_t (tgt := 38) b dX12_lawful_33 (by decide) (by decide) ?_
      refine z_aload_n b dX12_lawful_38 rfl rfl ?_
      refine z_iload_n b dX12_lawful_39 rfl rfl ?_
      refine z_iload_n b dX12_lawful_40 rfl rfl ?_
      refine z_iload_n b dX12_lawful_41 rfl rfl ?_
      refine z_calli b (z_runV (q0 := 0) (As := [.int 5, .int p0, .int p1]) (st := []) b (c_X12_goes_6 S p0 p1 h_l_0 h_a_38_5) cf_X12_goes (mw_0 cy a S) rfl wm_X12_464 wi_X12_goes ws_X12_goes dX12_lawful_42 rfl (Nat.le_of_ble_eq_true rfl) ⟨by decide, by decide, by decide, by decide⟩) (fun r6143 u6144 h6142 => ?_)
      obtain ⟨rfl, rfl⟩ := h6142
      refine z_istore (lv' := [(5, .int 0), (0, .ref (a 0)), (1, .int 5), (2, .int p0), (3, .int p1), (4, .int 0)]) b dX12_lawful_45 (by decide) rfl ?_
      refine z_iload b dX12_lawful_47 rfl ?_
      refine z_if_ne_f (tgt := 57) b dX12_lawful_49 (by decide) (by decide) ?_
      refine z_iload b dX12_lawful_52 rfl ?_
      refine z_goto (tgt := 61) b dX12_lawful_54 (by decide) ?_
      exact z_iret (u := (si (sl S 2 1649317774848) 24 (-1))) b rfl dX12_lawful_61 (Or.inr ⟨⟨c6133, c6138⟩, rfl, rfl⟩) rfl (by decide) (by decide)

set_option maxHeartbeats 4000000 in
set_option maxRecDepth 100000 in
theorem c_X11_lawful_49 {l : Launch} {D : va_G} {cy : Nat → ClassId} {T0 tB tE : Nat} {a : Nat → Nat} {rw : Nat → Option Nat} (S : GS) (p0 : Int32) (p1 : Int32) (h_i_14 : fi S 14 = (-1)) (h_i_37 : fi S 37 = 0) (hrw : ∀ i, i < 6 → rw i = some (a (36 + 2 * i))) (hr_p0 : 1 ≤ p0.toInt ∧ p0.toInt ≤ 3) (hr_p1 : 0 ≤ p1.toInt ∧ p1.toInt ≤ 31) : Ct l D cy T0 tB tE yX11_lawful cX11_lawful 6 (some .int) 3 86 0 0 (cw cy tE a rw S) [.ref (a 0), .int 5, .int p0, .int p1, .int 1] (QI D (U := GS) (fun r u => ((((((p0.toInt < 1)) ∨ ((1 ≤ p0.toInt) ∧ (3 < p0.toInt)))) ∨ (((1 ≤ p0.toInt) ∧ (p0.toInt ≤ 3)) ∧ (((p1.toInt < 0)) ∨ ((0 ≤ p1.toInt) ∧ (31 < p1.toInt))))) ∧ (-1) = r ∧ S = u) ∨ ((((1 ≤ p0.toInt) ∧ (p0.toInt ≤ 3)) ∧ ((0 ≤ p1.toInt) ∧ (p1.toInt ≤ 31))) ∧ (-1) = r ∧ sa S 8 (va_cpy (ar S 4) (ar S 8) 0 0 51) = u)) (cw cy tE a rw)) := by
  refine Ct.ofZ RX11 "lawful" [(0, .ref (a 0)), (1, .int 5), (2, .int p0), (3, .int p1), (4, .int 1)] rfl rfl rfl rfl (Nat.le_of_ble_eq_true rfl) ?_
  intro p e R s m args below meth c A b
  refine z_iload_n b dX11_lawful_0 rfl rfl ?_
  refine z_calli b (z_runS (As := [.int 5]) (st := []) b (c_X11_isRow_7 S ) cf_X11_isRow wm_X11_169 ws_X11_isRow dX11_lawful_1 rfl (Nat.le_of_ble_eq_true rfl) ⟨by decide, by decide, by decide, by decide⟩) (fun r6146 u6147 h6145 => ?_)
  obtain ⟨rfl, rfl⟩ := h6145
  refine z_if_eq_f (tgt := 32) b dX11_lawful_4 (by decide) (by decide) ?_
  refine z_iload_n b dX11_lawful_7 rfl rfl ?_
  refine z_calli b (z_runS (As := [.int p0]) (st := []) b (c_X11_areLaws S p0 ) cf_X11_areLaws wm_X11_181 ws_X11_areLaws dX11_lawful_8 rfl (Nat.le_of_ble_eq_true rfl) ⟨by decide, by decide, by decide, by decide⟩) (fun r6149 u6150 h6148 => ?_)
  rcases h6148 with ⟨c6151, rfl, rfl⟩ | ⟨c6152, rfl, rfl⟩
  · refine z_if_eq_t (tgt := 32) b dX11_lawful_11 (by decide) (by decide) ?_
    refine z_iconst (v := (-1)) b dX11_lawful_32 (by decide) ?_
    exact z_iret (u := S) b rfl dX11_lawful_33 (Or.inl ⟨(Or.inl c6151), rfl, rfl⟩) rfl (by decide) (by decide)
  · refine z_if_eq_f (tgt := 32) b dX11_lawful_11 (by decide) (by decide) ?_
    refine z_iload_n b dX11_lawful_14 rfl rfl ?_
    refine z_bipush (v := 31) b dX11_lawful_15 (by decide) ?_
    refine z_calli b (z_runS (As := [.int p1, .int 31]) (st := []) b (c_X11_isWithin_11 S p1 ) cf_X11_isWithin wm_X11_73 ws_X11_isWithin dX11_lawful_17 rfl (Nat.le_of_ble_eq_true rfl) ⟨by decide, by decide, by decide, by decide⟩) (fun r6154 u6155 h6153 => ?_)
    rcases h6153 with ⟨c6156, rfl, rfl⟩ | ⟨c6157, rfl, rfl⟩
    · refine z_if_eq_t (tgt := 32) b dX11_lawful_20 (by decide) (by decide) ?_
      refine z_iconst (v := (-1)) b dX11_lawful_32 (by decide) ?_
      exact z_iret (u := S) b rfl dX11_lawful_33 (Or.inl ⟨(Or.inr ⟨c6152, c6156⟩), rfl, rfl⟩) rfl (by decide) (by decide)
    · refine z_if_eq_f (tgt := 32) b dX11_lawful_20 (by decide) (by decide) ?_
      refine z_iload b dX11_lawful_23 rfl ?_
      refine z_iconst (v := 1) b dX11_lawful_25 (by decide) ?_
      refine z_calli b (z_runS (As := [.int 1, .int 1]) (st := []) b (c_X11_isWithin_6 S ) cf_X11_isWithin wm_X11_73 ws_X11_isWithin dX11_lawful_26 rfl (Nat.le_of_ble_eq_true rfl) ⟨by decide, by decide, by decide, by decide⟩) (fun r6159 u6160 h6158 => ?_)
      obtain ⟨rfl, rfl⟩ := h6158
      refine z_if_ne_t (tgt := 34) b dX11_lawful_29 (by decide) (by decide) ?_
      refine z_aload_n b dX11_lawful_34 rfl rfl ?_
      refine z_get (q0 := 0) (k9 := 5) (v := .ref (a 16)) b (cw_0 cy tE a rw S) rfl in_X11 (by decide) wf_X11_43 rfl dX11_lawful_35 ?_
      refine z_aload_n b dX11_lawful_38 rfl rfl ?_
      refine z_get (q0 := 0) (k9 := 7) (v := .ref (a 35)) b (cw_0 cy tE a rw S) rfl in_X11 (by decide) wf_X11_58 rfl dX11_lawful_39 ?_
      refine z_iload_n b dX11_lawful_42 rfl rfl ?_
      refine y_aald (q0 := 35) (t0 := 4) (j := 5) (v := .ref (a 46)) b (cw_35 cy tE a rw S) rfl (by decide) (by rw [hrw 5 (by decide)]; rfl) dX11_lawful_43 ?_
      refine z_aload_n b dX11_lawful_44 rfl rfl ?_
      refine z_get (q0 := 0) (k9 := 4) (v := .ref (a 14)) b (cw_0 cy tE a rw S) rfl in_X11 (by decide) wf_X11_34 rfl dX11_lawful_45 ?_
      refine z_iload_n b dX11_lawful_48 rfl rfl ?_
      refine z_iload_n b dX11_lawful_49 rfl rfl ?_
      refine z_calli b (z_runV (q0 := 16) (As := [.ref (a 46), .ref (a 14), .int p0, .int p1]) (st := []) b (c_X2_follow_6 S p0 p1 h_i_14 h_i_37) cf_X2_follow (cw_16 cy tE a rw S) rfl wm_X11_184 wi_X2_follow ws_X2_follow dX11_lawful_50 rfl (Nat.le_of_ble_eq_true rfl) ⟨by decide, by decide, by decide, by decide⟩) (fun r6162 u6163 h6161 => ?_)
      obtain ⟨rfl, rfl⟩ := h6161
      refine z_istore (lv' := [(5, .int 0), (0, .ref (a 0)), (1, .int 5), (2, .int p0), (3, .int p1), (4, .int 1)]) b dX11_lawful_53 (by decide) rfl ?_
      refine z_iload b dX11_lawful_55 rfl ?_
      refine z_if_ne_t (tgt := 65) b dX11_lawful_57 (by decide) (by decide) ?_
      refine z_aload_n b dX11_lawful_65 rfl rfl ?_
      refine z_get (q0 := 0) (k9 := 5) (v := .ref (a 16)) b (cw_0 cy tE a rw (sa S 8 (va_cpy (ar S 4) (ar S 8) 0 0 51))) rfl in_X11 (by decide) wf_X11_43 rfl dX11_lawful_66 ?_
      refine z_get (q0 := 16) (k9 := 4) (v := .int (fi (sa S 8 (va_cpy (ar S 4) (ar S 8) 0 0 51)) 14)) b (cw_16 cy tE a rw (sa S 8 (va_cpy (ar S 4) (ar S 8) 0 0 51))) rfl in_X2 (by decide) wf_X11_188 rfl dX11_lawful_69 ?_
      refine z_eqi h_i_14 ?_
      exact z_iret (u := (sa S 8 (va_cpy (ar S 4) (ar S 8) 0 0 51))) b rfl dX11_lawful_72 (Or.inr ⟨⟨c6152, c6157⟩, rfl, rfl⟩) rfl (by decide) (by decide)

set_option maxHeartbeats 4000000 in
set_option maxRecDepth 100000 in
theorem c_X12_lawful_49 {l : Launch} {D : va_G} {cy : Nat → ClassId} {T0 tB tE : Nat} {a : Nat → Nat} (S : GS) (p0 : Int32) (p1 : Int32) (h_l_0 : fl S 0 = 1649317774848) (h_a_38_5 : ar S 38 5 = 0) (hr_p0 : 1 ≤ p0.toInt ∧ p0.toInt ≤ 3) (hr_p1 : 0 ≤ p1.toInt ∧ p1.toInt ≤ 31) : Ct l D cy T0 tB tE yX12_lawful cX12_lawful 6 (some .int) 2 42 0 0 (mw cy a S) [.ref (a 0), .int 5, .int p0, .int p1, .int 1] (QI D (U := GS) (fun r u => ((((((p0.toInt < 1)) ∨ ((1 ≤ p0.toInt) ∧ (3 < p0.toInt)))) ∨ (((1 ≤ p0.toInt) ∧ (p0.toInt ≤ 3)) ∧ (((p1.toInt < 0)) ∨ ((0 ≤ p1.toInt) ∧ (31 < p1.toInt))))) ∧ (-1) = r ∧ S = u) ∨ ((((1 ≤ p0.toInt) ∧ (p0.toInt ≤ 3)) ∧ ((0 ≤ p1.toInt) ∧ (p1.toInt ≤ 31))) ∧ (-1) = r ∧ si (sl S 2 1649317774848) 24 (-1) = u)) (mw cy a)) := by
  refine Ct.ofZ RX12 "lawful" [(0, .ref (a 0)), (1, .int 5), (2, .int p0), (3, .int p1), (4, .int 1)] rfl rfl rfl rfl (Nat.le_of_ble_eq_true rfl) ?_
  intro p e R s m args below meth c A b
  refine z_iload_n b dX12_lawful_0 rfl rfl ?_
  refine z_calli b (z_runS (As := [.int 5]) (st := []) b (c_X12_isRow_7 S ) cf_X12_isRow wm_X12_452 ws_X12_isRow dX12_lawful_1 rfl (Nat.le_of_ble_eq_true rfl) ⟨by decide, by decide, by decide, by decide⟩) (fun r6165 u6166 h6164 => ?_)
  obtain ⟨rfl, rfl⟩ := h6164
  refine z_if_eq_f (tgt := 36) b dX12_lawful_4 (by decide) (by decide) ?_
  refine z_iload_n b dX12_lawful_7 rfl rfl ?_
  refine z_iconst (v := 1) b dX12_lawful_8 (by decide) ?_
  refine z_iconst (v := 3) b dX12_lawful_9 (by decide) ?_
  refine z_calli b (z_runS (As := [.int p0, .int 1, .int 3]) (st := []) b (c_X12_isIn_35 S p0 ) cf_X12_isIn wm_X12_1 ws_X12_isIn dX12_lawful_10 rfl (Nat.le_of_ble_eq_true rfl) ⟨by decide, by decide, by decide, by decide⟩) (fun r6168 u6169 h6167 => ?_)
  rcases h6167 with ⟨c6170, rfl, rfl⟩ | ⟨c6171, rfl, rfl⟩
  · refine z_if_eq_t (tgt := 36) b dX12_lawful_13 (by decide) (by decide) ?_
    refine z_iconst (v := (-1)) b dX12_lawful_36 (by decide) ?_
    exact z_iret (u := S) b rfl dX12_lawful_37 (Or.inl ⟨(Or.inl c6170), rfl, rfl⟩) rfl (by decide) (by decide)
  · refine z_if_eq_f (tgt := 36) b dX12_lawful_13 (by decide) (by decide) ?_
    refine z_iload_n b dX12_lawful_16 rfl rfl ?_
    refine z_iconst (v := 0) b dX12_lawful_17 (by decide) ?_
    refine z_bipush (v := 31) b dX12_lawful_18 (by decide) ?_
    refine z_calli b (z_runS (As := [.int p1, .int 0, .int 31]) (st := []) b (c_X12_isIn_36 S p1 ) cf_X12_isIn wm_X12_1 ws_X12_isIn dX12_lawful_20 rfl (Nat.le_of_ble_eq_true rfl) ⟨by decide, by decide, by decide, by decide⟩) (fun r6173 u6174 h6172 => ?_)
    rcases h6172 with ⟨c6175, rfl, rfl⟩ | ⟨c6176, rfl, rfl⟩
    · refine z_if_eq_t (tgt := 36) b dX12_lawful_23 (by decide) (by decide) ?_
      refine z_iconst (v := (-1)) b dX12_lawful_36 (by decide) ?_
      exact z_iret (u := S) b rfl dX12_lawful_37 (Or.inl ⟨(Or.inr ⟨c6171, c6175⟩), rfl, rfl⟩) rfl (by decide) (by decide)
    · refine z_if_eq_f (tgt := 36) b dX12_lawful_23 (by decide) (by decide) ?_
      refine z_iload b dX12_lawful_26 rfl ?_
      refine z_iconst (v := 0) b dX12_lawful_28 (by decide) ?_
      refine z_iconst (v := 1) b dX12_lawful_29 (by decide) ?_
      refine z_calli b (z_runS (As := [.int 1, .int 0, .int 1]) (st := []) b (c_X12_isIn_10 S ) cf_X12_isIn wm_X12_1 ws_X12_isIn dX12_lawful_30 rfl (Nat.le_of_ble_eq_true rfl) ⟨by decide, by decide, by decide, by decide⟩) (fun r6178 u6179 h6177 => ?_)
      obtain ⟨rfl, rfl⟩ := h6177
      refine z_if_ne_t (tgt := 38) b dX12_lawful_33 (by decide) (by decide) ?_
      refine z_aload_n b dX12_lawful_38 rfl rfl ?_
      refine z_iload_n b dX12_lawful_39 rfl rfl ?_
      refine z_iload_n b dX12_lawful_40 rfl rfl ?_
      refine z_iload_n b dX12_lawful_41 rfl rfl ?_
      refine z_calli b (z_runV (q0 := 0) (As := [.int 5, .int p0, .int p1]) (st := []) b (c_X12_goes_6 S p0 p1 h_l_0 h_a_38_5) cf_X12_goes (mw_0 cy a S) rfl wm_X12_464 wi_X12_goes ws_X12_goes dX12_lawful_42 rfl (Nat.le_of_ble_eq_true rfl) ⟨by decide, by decide, by decide, by decide⟩) (fun r6181 u6182 h6180 => ?_)
      obtain ⟨rfl, rfl⟩ := h6180
      refine z_istore (lv' := [(5, .int 0), (0, .ref (a 0)), (1, .int 5), (2, .int p0), (3, .int p1), (4, .int 1)]) b dX12_lawful_45 (by decide) rfl ?_
      refine z_iload b dX12_lawful_47 rfl ?_
      refine z_if_ne_t (tgt := 57) b dX12_lawful_49 (by decide) (by decide) ?_
      refine z_aload_n b dX12_lawful_57 rfl rfl ?_
      refine z_get (q0 := 0) (k9 := 69) (v := .int (-1)) b (mw_0 cy a (si (sl S 2 1649317774848) 24 (-1))) rfl in_X12 (by decide) wf_X12_461 rfl dX12_lawful_58 ?_
      exact z_iret (u := (si (sl S 2 1649317774848) 24 (-1))) b rfl dX12_lawful_61 (Or.inr ⟨⟨c6171, c6176⟩, rfl, rfl⟩) rfl (by decide) (by decide)

set_option maxHeartbeats 4000000 in
set_option maxRecDepth 100000 in
theorem c_X11_lawful_50 {l : Launch} {D : va_G} {cy : Nat → ClassId} {T0 tB tE : Nat} {a : Nat → Nat} {rw : Nat → Option Nat} (S : GS) (p0 : Int32) (p1 : Int32) (p2 : Int32)  (hr_p0 : 1 ≤ p0.toInt ∧ p0.toInt ≤ 3) (hr_p1 : 0 ≤ p1.toInt ∧ p1.toInt ≤ 31) (hr_p2 : 2 ≤ p2.toInt ∧ p2.toInt ≤ 2147483647) : Ct l D cy T0 tB tE yX11_lawful cX11_lawful 6 (some .int) 1 21 0 0 (cw cy tE a rw S) [.ref (a 0), .int 5, .int p0, .int p1, .int p2] (QI D (U := GS) (fun r u => (-1) = r ∧ S = u) (cw cy tE a rw)) := by
  refine Ct.ofZ RX11 "lawful" [(0, .ref (a 0)), (1, .int 5), (2, .int p0), (3, .int p1), (4, .int p2)] rfl rfl rfl rfl (Nat.le_of_ble_eq_true rfl) ?_
  intro p e R s m args below meth c A b
  refine z_iload_n b dX11_lawful_0 rfl rfl ?_
  refine z_calli b (z_runS (As := [.int 5]) (st := []) b (c_X11_isRow_7 S ) cf_X11_isRow wm_X11_169 ws_X11_isRow dX11_lawful_1 rfl (Nat.le_of_ble_eq_true rfl) ⟨by decide, by decide, by decide, by decide⟩) (fun r6184 u6185 h6183 => ?_)
  obtain ⟨rfl, rfl⟩ := h6183
  refine z_if_eq_f (tgt := 32) b dX11_lawful_4 (by decide) (by decide) ?_
  refine z_iload_n b dX11_lawful_7 rfl rfl ?_
  refine z_calli b (z_runS (As := [.int p0]) (st := []) b (c_X11_areLaws S p0 ) cf_X11_areLaws wm_X11_181 ws_X11_areLaws dX11_lawful_8 rfl (Nat.le_of_ble_eq_true rfl) ⟨by decide, by decide, by decide, by decide⟩) (fun r6187 u6188 h6186 => ?_)
  rcases h6186 with ⟨c6189, rfl, rfl⟩ | ⟨c6190, rfl, rfl⟩
  · refine z_if_eq_t (tgt := 32) b dX11_lawful_11 (by decide) (by decide) ?_
    refine z_iconst (v := (-1)) b dX11_lawful_32 (by decide) ?_
    exact z_iret (u := S) b rfl dX11_lawful_33 ⟨rfl, rfl⟩ rfl (by decide) (by decide)
  · refine z_if_eq_f (tgt := 32) b dX11_lawful_11 (by decide) (by decide) ?_
    refine z_iload_n b dX11_lawful_14 rfl rfl ?_
    refine z_bipush (v := 31) b dX11_lawful_15 (by decide) ?_
    refine z_calli b (z_runS (As := [.int p1, .int 31]) (st := []) b (c_X11_isWithin_11 S p1 ) cf_X11_isWithin wm_X11_73 ws_X11_isWithin dX11_lawful_17 rfl (Nat.le_of_ble_eq_true rfl) ⟨by decide, by decide, by decide, by decide⟩) (fun r6192 u6193 h6191 => ?_)
    rcases h6191 with ⟨c6194, rfl, rfl⟩ | ⟨c6195, rfl, rfl⟩
    · refine z_if_eq_t (tgt := 32) b dX11_lawful_20 (by decide) (by decide) ?_
      refine z_iconst (v := (-1)) b dX11_lawful_32 (by decide) ?_
      exact z_iret (u := S) b rfl dX11_lawful_33 ⟨rfl, rfl⟩ rfl (by decide) (by decide)
    · refine z_if_eq_f (tgt := 32) b dX11_lawful_20 (by decide) (by decide) ?_
      refine z_iload b dX11_lawful_23 rfl ?_
      refine z_iconst (v := 1) b dX11_lawful_25 (by decide) ?_
      refine z_calli b (z_runS (As := [.int p2, .int 1]) (st := []) b (c_X11_isWithin_4 S p2 ) cf_X11_isWithin wm_X11_73 ws_X11_isWithin dX11_lawful_26 rfl (Nat.le_of_ble_eq_true rfl) ⟨by decide, by decide, by decide, by decide⟩) (fun r6197 u6198 h6196 => ?_)
      rcases h6196 with ⟨c6199, rfl, rfl⟩ | ⟨c6200, rfl, rfl⟩
      · refine z_if_ne_f (tgt := 34) b dX11_lawful_29 (by decide) (by decide) ?_
        refine z_iconst (v := (-1)) b dX11_lawful_32 (by decide) ?_
        exact z_iret (u := S) b rfl dX11_lawful_33 ⟨rfl, rfl⟩ rfl (by decide) (by decide)
      · exfalso; omega

set_option maxHeartbeats 4000000 in
set_option maxRecDepth 100000 in
theorem c_X12_lawful_50 {l : Launch} {D : va_G} {cy : Nat → ClassId} {T0 tB tE : Nat} {a : Nat → Nat} (S : GS) (p0 : Int32) (p1 : Int32) (p2 : Int32)  (hr_p0 : 1 ≤ p0.toInt ∧ p0.toInt ≤ 3) (hr_p1 : 0 ≤ p1.toInt ∧ p1.toInt ≤ 31) (hr_p2 : 2 ≤ p2.toInt ∧ p2.toInt ≤ 2147483647) : Ct l D cy T0 tB tE yX12_lawful cX12_lawful 6 (some .int) 2 42 0 0 (mw cy a S) [.ref (a 0), .int 5, .int p0, .int p1, .int p2] (QI D (U := GS) (fun r u => (-1) = r ∧ S = u) (mw cy a)) := by
  refine Ct.ofZ RX12 "lawful" [(0, .ref (a 0)), (1, .int 5), (2, .int p0), (3, .int p1), (4, .int p2)] rfl rfl rfl rfl (Nat.le_of_ble_eq_true rfl) ?_
  intro p e R s m args below meth c A b
  refine z_iload_n b dX12_lawful_0 rfl rfl ?_
  refine z_calli b (z_runS (As := [.int 5]) (st := []) b (c_X12_isRow_7 S ) cf_X12_isRow wm_X12_452 ws_X12_isRow dX12_lawful_1 rfl (Nat.le_of_ble_eq_true rfl) ⟨by decide, by decide, by decide, by decide⟩) (fun r6202 u6203 h6201 => ?_)
  obtain ⟨rfl, rfl⟩ := h6201
  refine z_if_eq_f (tgt := 36) b dX12_lawful_4 (by decide) (by decide) ?_
  refine z_iload_n b dX12_lawful_7 rfl rfl ?_
  refine z_iconst (v := 1) b dX12_lawful_8 (by decide) ?_
  refine z_iconst (v := 3) b dX12_lawful_9 (by decide) ?_
  refine z_calli b (z_runS (As := [.int p0, .int 1, .int 3]) (st := []) b (c_X12_isIn_35 S p0 ) cf_X12_isIn wm_X12_1 ws_X12_isIn dX12_lawful_10 rfl (Nat.le_of_ble_eq_true rfl) ⟨by decide, by decide, by decide, by decide⟩) (fun r6205 u6206 h6204 => ?_)
  rcases h6204 with ⟨c6207, rfl, rfl⟩ | ⟨c6208, rfl, rfl⟩
  · refine z_if_eq_t (tgt := 36) b dX12_lawful_13 (by decide) (by decide) ?_
    refine z_iconst (v := (-1)) b dX12_lawful_36 (by decide) ?_
    exact z_iret (u := S) b rfl dX12_lawful_37 ⟨rfl, rfl⟩ rfl (by decide) (by decide)
  · refine z_if_eq_f (tgt := 36) b dX12_lawful_13 (by decide) (by decide) ?_
    refine z_iload_n b dX12_lawful_16 rfl rfl ?_
    refine z_iconst (v := 0) b dX12_lawful_17 (by decide) ?_
    refine z_bipush (v := 31) b dX12_lawful_18 (by decide) ?_
    refine z_calli b (z_runS (As := [.int p1, .int 0, .int 31]) (st := []) b (c_X12_isIn_36 S p1 ) cf_X12_isIn wm_X12_1 ws_X12_isIn dX12_lawful_20 rfl (Nat.le_of_ble_eq_true rfl) ⟨by decide, by decide, by decide, by decide⟩) (fun r6210 u6211 h6209 => ?_)
    rcases h6209 with ⟨c6212, rfl, rfl⟩ | ⟨c6213, rfl, rfl⟩
    · refine z_if_eq_t (tgt := 36) b dX12_lawful_23 (by decide) (by decide) ?_
      refine z_iconst (v := (-1)) b dX12_lawful_36 (by decide) ?_
      exact z_iret (u := S) b rfl dX12_lawful_37 ⟨rfl, rfl⟩ rfl (by decide) (by decide)
    · refine z_if_eq_f (tgt := 36) b dX12_lawful_23 (by decide) (by decide) ?_
      refine z_iload b dX12_lawful_26 rfl ?_
      refine z_iconst (v := 0) b dX12_lawful_28 (by decide) ?_
      refine z_iconst (v := 1) b dX12_lawful_29 (by decide) ?_
      refine z_calli b (z_runS (As := [.int p2, .int 0, .int 1]) (st := []) b (c_X12_isIn_8 S p2 ) cf_X12_isIn wm_X12_1 ws_X12_isIn dX12_lawful_30 rfl (Nat.le_of_ble_eq_true rfl) ⟨by decide, by decide, by decide, by decide⟩) (fun r6215 u6216 h6214 => ?_)
      rcases h6214 with ⟨c6217, rfl, rfl⟩ | ⟨c6218, rfl, rfl⟩
      · refine z_if_ne_f (tgt := 38) b dX12_lawful_33 (by decide) (by decide) ?_
        refine z_iconst (v := (-1)) b dX12_lawful_36 (by decide) ?_
        exact z_iret (u := S) b rfl dX12_lawful_37 ⟨rfl, rfl⟩ rfl (by decide) (by decide)
      · exfalso; omega

