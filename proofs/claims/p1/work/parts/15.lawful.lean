theorem wm_X11_181 : Cond.methodLink RX11 181 yX11_areLaws ∈ gT := gT_of 903 (by decide +kernel) (by decide +kernel)
theorem cf_X11_areLaws : Cf yX11_areLaws cX11_areLaws 1 (some .boolean) 1 := ⟨gT_of 905 (by decide +kernel) (by decide +kernel), gT_of 84 (by decide +kernel) (by decide +kernel), by decide +kernel, by decide +kernel, by decide +kernel⟩
theorem ws_X11_areLaws : Cond.static yX11_areLaws ∈ gT := gT_of 904 (by decide +kernel) (by decide +kernel)
theorem wf_X11_43 : Cond.fieldLink RX11 43 "LawHoles" "court" "LLawHoles$Court;" ∈ gT := gT_of 450 (by decide +kernel) (by decide +kernel)
theorem wm_X11_184 : Cond.methodLink RX11 184 yX2_follow ∈ gT := gT_of 906 (by decide +kernel) (by decide +kernel)
theorem wf_X2_25 : Cond.fieldLink RX2 25 "LawHoles$Court" "here" "LLawHoles$State;" ∈ gT := gT_of 339 (by decide +kernel) (by decide +kernel)
theorem wm_X2_80 : Cond.methodLink RX2 80 yX9_copy ∈ gT := gT_of 910 (by decide +kernel) (by decide +kernel)
theorem wm_X9_26 : Cond.methodLink RX9 26 arraycopyName ∈ gT := gT_of 914 (by decide +kernel) (by decide +kernel)
theorem wn_arraycopy : Cond.native arraycopyName ∈ gT := gT_of 744 (by decide +kernel) (by decide +kernel)
theorem ws_arraycopy : Cond.static arraycopyName ∈ gT := gT_of 743 (by decide +kernel) (by decide +kernel)
theorem wi_System : Cond.initialized "java/lang/System" ∈ gT := gT_of 107 (by decide +kernel) (by decide +kernel)
theorem cf_X9_copy : Cf yX9_copy cX9_copy 2 none 1 := ⟨gT_of 913 (by decide +kernel) (by decide +kernel), gT_of 95 (by decide +kernel) (by decide +kernel), by decide +kernel, by decide +kernel, by decide +kernel⟩
theorem wi_X9_copy : Cond.instanceMethod yX9_copy ∈ gT := gT_of 911 (by decide +kernel) (by decide +kernel)
theorem ws_X9_copy : Cond.selects yX9_copy.cls yX9_copy yX9_copy ∈ gT := gT_of 912 (by decide +kernel) (by decide +kernel)
theorem wf_X2_28 : Cond.fieldLink RX2 28 "LawHoles$Court" "reason" "I" ∈ gT := gT_of 341 (by decide +kernel) (by decide +kernel)
theorem wf_X2_108 : Cond.fieldLink RX2 108 "LawHoles$Row" "count" "I" ∈ gT := gT_of 434 (by decide +kernel) (by decide +kernel)
theorem cf_X2_follow : Cf yX2_follow cX2_follow 6 (some .int) 4 := ⟨gT_of 909 (by decide +kernel) (by decide +kernel), gT_of 96 (by decide +kernel) (by decide +kernel), by decide +kernel, by decide +kernel, by decide +kernel⟩
theorem wi_X2_follow : Cond.instanceMethod yX2_follow ∈ gT := gT_of 907 (by decide +kernel) (by decide +kernel)
theorem ws_X2_follow : Cond.selects yX2_follow.cls yX2_follow yX2_follow ∈ gT := gT_of 908 (by decide +kernel) (by decide +kernel)
theorem wm_X12_464 : Cond.methodLink RX12 464 yX12_goes ∈ gT := gT_of 1718 (by decide +kernel) (by decide +kernel)
theorem wf_X12_458 : Cond.fieldLink RX12 458 "LawHolesModel" "stands" "J" ∈ gT := gT_of 1251 (by decide +kernel) (by decide +kernel)
theorem wf_X12_461 : Cond.fieldLink RX12 461 "LawHolesModel" "stops" "I" ∈ gT := gT_of 1252 (by decide +kernel) (by decide +kernel)
theorem cf_X12_goes : Cf yX12_goes cX12_goes 5 (some .int) 3 := ⟨gT_of 1721 (by decide +kernel) (by decide +kernel), gT_of 101 (by decide +kernel) (by decide +kernel), by decide +kernel, by decide +kernel, by decide +kernel⟩
theorem wi_X12_goes : Cond.instanceMethod yX12_goes ∈ gT := gT_of 1720 (by decide +kernel) (by decide +kernel)
theorem ws_X12_goes : Cond.selects yX12_goes.cls yX12_goes yX12_goes ∈ gT := gT_of 79 (by decide +kernel) (by decide +kernel)
theorem wf_X11_188 : Cond.fieldLink RX11 188 "LawHoles$Court" "reason" "I" ∈ gT := gT_of 342 (by decide +kernel) (by decide +kernel)
theorem dX11_areLaws_0 : decode cX11_areLaws 0 = .ok (.iload_n 0, 1) := by decide +kernel
theorem dX11_areLaws_1 : decode cX11_areLaws 1 = .ok (.iconst 1, 1) := by decide +kernel
theorem dX11_areLaws_2 : decode cX11_areLaws 2 = .ok (.if_icmp .lt 12, 3) := by decide +kernel
theorem dX11_areLaws_5 : decode cX11_areLaws 5 = .ok (.iload_n 0, 1) := by decide +kernel
theorem dX11_areLaws_6 : decode cX11_areLaws 6 = .ok (.iconst 3, 1) := by decide +kernel
theorem dX11_areLaws_7 : decode cX11_areLaws 7 = .ok (.if_icmp .gt 7, 3) := by decide +kernel
theorem dX11_areLaws_10 : decode cX11_areLaws 10 = .ok (.iconst 1, 1) := by decide +kernel
theorem dX11_areLaws_11 : decode cX11_areLaws 11 = .ok (.goto 4, 3) := by decide +kernel
theorem dX11_areLaws_14 : decode cX11_areLaws 14 = .ok (.iconst 0, 1) := by decide +kernel
theorem dX11_areLaws_15 : decode cX11_areLaws 15 = .ok (.ireturn, 1) := by decide +kernel
theorem dX11_lawful_0 : decode cX11_lawful 0 = .ok (.iload_n 1, 1) := by decide +kernel
theorem dX11_lawful_1 : decode cX11_lawful 1 = .ok (.invokestatic 169, 3) := by decide +kernel
theorem dX11_lawful_4 : decode cX11_lawful 4 = .ok (.ifCond .eq 28, 3) := by decide +kernel
theorem dX11_lawful_7 : decode cX11_lawful 7 = .ok (.iload_n 2, 1) := by decide +kernel
theorem dX11_lawful_8 : decode cX11_lawful 8 = .ok (.invokestatic 181, 3) := by decide +kernel
theorem dX11_lawful_11 : decode cX11_lawful 11 = .ok (.ifCond .eq 21, 3) := by decide +kernel
theorem dX11_lawful_14 : decode cX11_lawful 14 = .ok (.iload_n 3, 1) := by decide +kernel
theorem dX11_lawful_15 : decode cX11_lawful 15 = .ok (.bipush 31, 2) := by decide +kernel
theorem dX11_lawful_17 : decode cX11_lawful 17 = .ok (.invokestatic 73, 3) := by decide +kernel
theorem dX11_lawful_20 : decode cX11_lawful 20 = .ok (.ifCond .eq 12, 3) := by decide +kernel
theorem dX11_lawful_23 : decode cX11_lawful 23 = .ok (.iload 4, 2) := by decide +kernel
theorem dX11_lawful_25 : decode cX11_lawful 25 = .ok (.iconst 1, 1) := by decide +kernel
theorem dX11_lawful_26 : decode cX11_lawful 26 = .ok (.invokestatic 73, 3) := by decide +kernel
theorem dX11_lawful_29 : decode cX11_lawful 29 = .ok (.ifCond .ne 5, 3) := by decide +kernel
theorem dX11_lawful_32 : decode cX11_lawful 32 = .ok (.iconst (-1), 1) := by decide +kernel
theorem dX11_lawful_33 : decode cX11_lawful 33 = .ok (.ireturn, 1) := by decide +kernel
theorem dX11_lawful_34 : decode cX11_lawful 34 = .ok (.aload_n 0, 1) := by decide +kernel
theorem dX11_lawful_35 : decode cX11_lawful 35 = .ok (.getfield 43, 3) := by decide +kernel
theorem dX11_lawful_38 : decode cX11_lawful 38 = .ok (.aload_n 0, 1) := by decide +kernel
theorem dX11_lawful_39 : decode cX11_lawful 39 = .ok (.getfield 58, 3) := by decide +kernel
theorem dX11_lawful_42 : decode cX11_lawful 42 = .ok (.iload_n 1, 1) := by decide +kernel
theorem dX11_lawful_43 : decode cX11_lawful 43 = .ok (.aaload, 1) := by decide +kernel
theorem dX11_lawful_44 : decode cX11_lawful 44 = .ok (.aload_n 0, 1) := by decide +kernel
theorem dX11_lawful_45 : decode cX11_lawful 45 = .ok (.getfield 34, 3) := by decide +kernel
theorem dX11_lawful_48 : decode cX11_lawful 48 = .ok (.iload_n 2, 1) := by decide +kernel
theorem dX11_lawful_49 : decode cX11_lawful 49 = .ok (.iload_n 3, 1) := by decide +kernel
theorem dX11_lawful_50 : decode cX11_lawful 50 = .ok (.invokevirtual 184, 3) := by decide +kernel
theorem dX11_lawful_53 : decode cX11_lawful 53 = .ok (.istore 5, 2) := by decide +kernel
theorem dX11_lawful_55 : decode cX11_lawful 55 = .ok (.iload 4, 2) := by decide +kernel
theorem dX11_lawful_57 : decode cX11_lawful 57 = .ok (.ifCond .ne 8, 3) := by decide +kernel
theorem dX11_lawful_60 : decode cX11_lawful 60 = .ok (.iload 5, 2) := by decide +kernel
theorem dX11_lawful_62 : decode cX11_lawful 62 = .ok (.goto 10, 3) := by decide +kernel
theorem dX11_lawful_65 : decode cX11_lawful 65 = .ok (.aload_n 0, 1) := by decide +kernel
theorem dX11_lawful_66 : decode cX11_lawful 66 = .ok (.getfield 43, 3) := by decide +kernel
theorem dX11_lawful_69 : decode cX11_lawful 69 = .ok (.getfield 188, 3) := by decide +kernel
theorem dX11_lawful_72 : decode cX11_lawful 72 = .ok (.ireturn, 1) := by decide +kernel
theorem dX12_goes_0 : decode cX12_goes 0 = .ok (.aload_n 0, 1) := by decide +kernel
theorem dX12_goes_1 : decode cX12_goes 1 = .ok (.aload_n 0, 1) := by decide +kernel
theorem dX12_goes_2 : decode cX12_goes 2 = .ok (.getfield 153, 3) := by decide +kernel
theorem dX12_goes_5 : decode cX12_goes 5 = .ok (.putfield 458, 3) := by decide +kernel
theorem dX12_goes_8 : decode cX12_goes 8 = .ok (.aload_n 0, 1) := by decide +kernel
theorem dX12_goes_9 : decode cX12_goes 9 = .ok (.iconst (-1), 1) := by decide +kernel
theorem dX12_goes_10 : decode cX12_goes 10 = .ok (.putfield 461, 3) := by decide +kernel
theorem dX12_goes_13 : decode cX12_goes 13 = .ok (.iconst 0, 1) := by decide +kernel
theorem dX12_goes_14 : decode cX12_goes 14 = .ok (.istore 4, 2) := by decide +kernel
theorem dX12_goes_16 : decode cX12_goes 16 = .ok (.iload 4, 2) := by decide +kernel
theorem dX12_goes_18 : decode cX12_goes 18 = .ok (.aload_n 0, 1) := by decide +kernel
theorem dX12_goes_19 : decode cX12_goes 19 = .ok (.getfield 140, 3) := by decide +kernel
theorem dX12_goes_22 : decode cX12_goes 22 = .ok (.iload_n 1, 1) := by decide +kernel
theorem dX12_goes_23 : decode cX12_goes 23 = .ok (.iaload, 1) := by decide +kernel
theorem dX12_goes_24 : decode cX12_goes 24 = .ok (.if_icmp .ge 54, 3) := by decide +kernel
theorem dX12_goes_27 : decode cX12_goes 27 = .ok (.aload_n 0, 1) := by decide +kernel
theorem dX12_goes_28 : decode cX12_goes 28 = .ok (.aload_n 0, 1) := by decide +kernel
theorem dX12_goes_29 : decode cX12_goes 29 = .ok (.aload_n 0, 1) := by decide +kernel
theorem dX12_goes_30 : decode cX12_goes 30 = .ok (.getfield 458, 3) := by decide +kernel
theorem dX12_goes_33 : decode cX12_goes 33 = .ok (.aload_n 0, 1) := by decide +kernel
theorem dX12_goes_34 : decode cX12_goes 34 = .ok (.getfield 137, 3) := by decide +kernel
theorem dX12_goes_37 : decode cX12_goes 37 = .ok (.bipush 12, 2) := by decide +kernel
theorem dX12_goes_39 : decode cX12_goes 39 = .ok (.iload_n 1, 1) := by decide +kernel
theorem dX12_goes_40 : decode cX12_goes 40 = .ok (.imul, 1) := by decide +kernel
theorem dX12_goes_41 : decode cX12_goes 41 = .ok (.iload 4, 2) := by decide +kernel
theorem dX12_goes_43 : decode cX12_goes 43 = .ok (.iadd, 1) := by decide +kernel
theorem dX12_goes_44 : decode cX12_goes 44 = .ok (.iaload, 1) := by decide +kernel
theorem dX12_goes_45 : decode cX12_goes 45 = .ok (.iload_n 2, 1) := by decide +kernel
theorem dX12_goes_46 : decode cX12_goes 46 = .ok (.iload_n 3, 1) := by decide +kernel
theorem dX12_goes_47 : decode cX12_goes 47 = .ok (.invokevirtual 426, 3) := by decide +kernel
theorem dX12_goes_50 : decode cX12_goes 50 = .ok (.putfield 461, 3) := by decide +kernel
theorem dX12_goes_53 : decode cX12_goes 53 = .ok (.aload_n 0, 1) := by decide +kernel
theorem dX12_goes_54 : decode cX12_goes 54 = .ok (.getfield 461, 3) := by decide +kernel
theorem dX12_goes_57 : decode cX12_goes 57 = .ok (.iconst (-1), 1) := by decide +kernel
theorem dX12_goes_58 : decode cX12_goes 58 = .ok (.if_icmp .eq 6, 3) := by decide +kernel
theorem dX12_goes_61 : decode cX12_goes 61 = .ok (.iload 4, 2) := by decide +kernel
theorem dX12_goes_63 : decode cX12_goes 63 = .ok (.ireturn, 1) := by decide +kernel
theorem dX12_goes_64 : decode cX12_goes 64 = .ok (.aload_n 0, 1) := by decide +kernel
theorem dX12_goes_65 : decode cX12_goes 65 = .ok (.aload_n 0, 1) := by decide +kernel
theorem dX12_goes_66 : decode cX12_goes 66 = .ok (.getfield 396, 3) := by decide +kernel
theorem dX12_goes_69 : decode cX12_goes 69 = .ok (.putfield 458, 3) := by decide +kernel
theorem dX12_goes_72 : decode cX12_goes 72 = .ok (.iinc 4 1, 3) := by decide +kernel
theorem dX12_goes_75 : decode cX12_goes 75 = .ok (.goto (-59), 3) := by decide +kernel
theorem dX12_goes_78 : decode cX12_goes 78 = .ok (.aload_n 0, 1) := by decide +kernel
theorem dX12_goes_79 : decode cX12_goes 79 = .ok (.getfield 140, 3) := by decide +kernel
theorem dX12_goes_82 : decode cX12_goes 82 = .ok (.iload_n 1, 1) := by decide +kernel
theorem dX12_goes_83 : decode cX12_goes 83 = .ok (.iaload, 1) := by decide +kernel
theorem dX12_goes_84 : decode cX12_goes 84 = .ok (.ireturn, 1) := by decide +kernel
theorem dX12_lawful_0 : decode cX12_lawful 0 = .ok (.iload_n 1, 1) := by decide +kernel
theorem dX12_lawful_1 : decode cX12_lawful 1 = .ok (.invokestatic 452, 3) := by decide +kernel
theorem dX12_lawful_4 : decode cX12_lawful 4 = .ok (.ifCond .eq 32, 3) := by decide +kernel
theorem dX12_lawful_7 : decode cX12_lawful 7 = .ok (.iload_n 2, 1) := by decide +kernel
theorem dX12_lawful_8 : decode cX12_lawful 8 = .ok (.iconst 1, 1) := by decide +kernel
theorem dX12_lawful_9 : decode cX12_lawful 9 = .ok (.iconst 3, 1) := by decide +kernel
theorem dX12_lawful_10 : decode cX12_lawful 10 = .ok (.invokestatic 1, 3) := by decide +kernel
theorem dX12_lawful_13 : decode cX12_lawful 13 = .ok (.ifCond .eq 23, 3) := by decide +kernel
theorem dX12_lawful_16 : decode cX12_lawful 16 = .ok (.iload_n 3, 1) := by decide +kernel
theorem dX12_lawful_17 : decode cX12_lawful 17 = .ok (.iconst 0, 1) := by decide +kernel
theorem dX12_lawful_18 : decode cX12_lawful 18 = .ok (.bipush 31, 2) := by decide +kernel
theorem dX12_lawful_20 : decode cX12_lawful 20 = .ok (.invokestatic 1, 3) := by decide +kernel
theorem dX12_lawful_23 : decode cX12_lawful 23 = .ok (.ifCond .eq 13, 3) := by decide +kernel
theorem dX12_lawful_26 : decode cX12_lawful 26 = .ok (.iload 4, 2) := by decide +kernel
theorem dX12_lawful_28 : decode cX12_lawful 28 = .ok (.iconst 0, 1) := by decide +kernel
theorem dX12_lawful_29 : decode cX12_lawful 29 = .ok (.iconst 1, 1) := by decide +kernel
theorem dX12_lawful_30 : decode cX12_lawful 30 = .ok (.invokestatic 1, 3) := by decide +kernel
theorem dX12_lawful_33 : decode cX12_lawful 33 = .ok (.ifCond .ne 5, 3) := by decide +kernel
theorem dX12_lawful_36 : decode cX12_lawful 36 = .ok (.iconst (-1), 1) := by decide +kernel
theorem dX12_lawful_37 : decode cX12_lawful 37 = .ok (.ireturn, 1) := by decide +kernel
theorem dX12_lawful_38 : decode cX12_lawful 38 = .ok (.aload_n 0, 1) := by decide +kernel
theorem dX12_lawful_39 : decode cX12_lawful 39 = .ok (.iload_n 1, 1) := by decide +kernel
theorem dX12_lawful_40 : decode cX12_lawful 40 = .ok (.iload_n 2, 1) := by decide +kernel
theorem dX12_lawful_41 : decode cX12_lawful 41 = .ok (.iload_n 3, 1) := by decide +kernel
theorem dX12_lawful_42 : decode cX12_lawful 42 = .ok (.invokevirtual 464, 3) := by decide +kernel
theorem dX12_lawful_45 : decode cX12_lawful 45 = .ok (.istore 5, 2) := by decide +kernel
theorem dX12_lawful_47 : decode cX12_lawful 47 = .ok (.iload 4, 2) := by decide +kernel
theorem dX12_lawful_49 : decode cX12_lawful 49 = .ok (.ifCond .ne 8, 3) := by decide +kernel
theorem dX12_lawful_52 : decode cX12_lawful 52 = .ok (.iload 5, 2) := by decide +kernel
theorem dX12_lawful_54 : decode cX12_lawful 54 = .ok (.goto 7, 3) := by decide +kernel
theorem dX12_lawful_57 : decode cX12_lawful 57 = .ok (.aload_n 0, 1) := by decide +kernel
theorem dX12_lawful_58 : decode cX12_lawful 58 = .ok (.getfield 461, 3) := by decide +kernel
theorem dX12_lawful_61 : decode cX12_lawful 61 = .ok (.ireturn, 1) := by decide +kernel
theorem dX2_follow_0 : decode cX2_follow 0 = .ok (.aload_n 0, 1) := by decide +kernel
theorem dX2_follow_1 : decode cX2_follow 1 = .ok (.getfield 25, 3) := by decide +kernel
theorem dX2_follow_4 : decode cX2_follow 4 = .ok (.aload_n 2, 1) := by decide +kernel
theorem dX2_follow_5 : decode cX2_follow 5 = .ok (.invokevirtual 80, 3) := by decide +kernel
theorem dX2_follow_8 : decode cX2_follow 8 = .ok (.aload_n 0, 1) := by decide +kernel
theorem dX2_follow_9 : decode cX2_follow 9 = .ok (.iconst (-1), 1) := by decide +kernel
theorem dX2_follow_10 : decode cX2_follow 10 = .ok (.putfield 28, 3) := by decide +kernel
theorem dX2_follow_13 : decode cX2_follow 13 = .ok (.iconst 0, 1) := by decide +kernel
theorem dX2_follow_14 : decode cX2_follow 14 = .ok (.istore 5, 2) := by decide +kernel
theorem dX2_follow_16 : decode cX2_follow 16 = .ok (.iload 5, 2) := by decide +kernel
theorem dX2_follow_18 : decode cX2_follow 18 = .ok (.aload_n 1, 1) := by decide +kernel
theorem dX2_follow_19 : decode cX2_follow 19 = .ok (.getfield 108, 3) := by decide +kernel
theorem dX2_follow_22 : decode cX2_follow 22 = .ok (.if_icmp .ge 52, 3) := by decide +kernel
theorem dX2_follow_25 : decode cX2_follow 25 = .ok (.aload_n 0, 1) := by decide +kernel
theorem dX2_follow_26 : decode cX2_follow 26 = .ok (.aload_n 0, 1) := by decide +kernel
theorem dX2_follow_27 : decode cX2_follow 27 = .ok (.aload_n 0, 1) := by decide +kernel
theorem dX2_follow_28 : decode cX2_follow 28 = .ok (.getfield 25, 3) := by decide +kernel
theorem dX2_follow_31 : decode cX2_follow 31 = .ok (.aload_n 1, 1) := by decide +kernel
theorem dX2_follow_32 : decode cX2_follow 32 = .ok (.iload 5, 2) := by decide +kernel
theorem dX2_follow_34 : decode cX2_follow 34 = .ok (.invokevirtual 113, 3) := by decide +kernel
theorem dX2_follow_37 : decode cX2_follow 37 = .ok (.iload_n 3, 1) := by decide +kernel
theorem dX2_follow_38 : decode cX2_follow 38 = .ok (.iload 4, 2) := by decide +kernel
theorem dX2_follow_40 : decode cX2_follow 40 = .ok (.invokevirtual 115, 3) := by decide +kernel
theorem dX2_follow_43 : decode cX2_follow 43 = .ok (.putfield 28, 3) := by decide +kernel
theorem dX2_follow_46 : decode cX2_follow 46 = .ok (.aload_n 0, 1) := by decide +kernel
theorem dX2_follow_47 : decode cX2_follow 47 = .ok (.getfield 28, 3) := by decide +kernel
theorem dX2_follow_50 : decode cX2_follow 50 = .ok (.iconst (-1), 1) := by decide +kernel
theorem dX2_follow_51 : decode cX2_follow 51 = .ok (.if_icmp .eq 6, 3) := by decide +kernel
theorem dX2_follow_54 : decode cX2_follow 54 = .ok (.iload 5, 2) := by decide +kernel
theorem dX2_follow_56 : decode cX2_follow 56 = .ok (.ireturn, 1) := by decide +kernel
theorem dX2_follow_57 : decode cX2_follow 57 = .ok (.aload_n 0, 1) := by decide +kernel
theorem dX2_follow_58 : decode cX2_follow 58 = .ok (.getfield 25, 3) := by decide +kernel
theorem dX2_follow_61 : decode cX2_follow 61 = .ok (.aload_n 0, 1) := by decide +kernel
theorem dX2_follow_62 : decode cX2_follow 62 = .ok (.getfield 21, 3) := by decide +kernel
theorem dX2_follow_65 : decode cX2_follow 65 = .ok (.invokevirtual 80, 3) := by decide +kernel
theorem dX2_follow_68 : decode cX2_follow 68 = .ok (.iinc 5 1, 3) := by decide +kernel
theorem dX2_follow_71 : decode cX2_follow 71 = .ok (.goto (-55), 3) := by decide +kernel
theorem dX2_follow_74 : decode cX2_follow 74 = .ok (.aload_n 1, 1) := by decide +kernel
theorem dX2_follow_75 : decode cX2_follow 75 = .ok (.getfield 108, 3) := by decide +kernel
theorem dX2_follow_78 : decode cX2_follow 78 = .ok (.ireturn, 1) := by decide +kernel
theorem dX9_copy_0 : decode cX9_copy 0 = .ok (.aload_n 1, 1) := by decide +kernel
theorem dX9_copy_1 : decode cX9_copy 1 = .ok (.getfield 11, 3) := by decide +kernel
theorem dX9_copy_4 : decode cX9_copy 4 = .ok (.iconst 0, 1) := by decide +kernel
theorem dX9_copy_5 : decode cX9_copy 5 = .ok (.aload_n 0, 1) := by decide +kernel
theorem dX9_copy_6 : decode cX9_copy 6 = .ok (.getfield 11, 3) := by decide +kernel
theorem dX9_copy_9 : decode cX9_copy 9 = .ok (.iconst 0, 1) := by decide +kernel
theorem dX9_copy_10 : decode cX9_copy 10 = .ok (.aload_n 0, 1) := by decide +kernel
theorem dX9_copy_11 : decode cX9_copy 11 = .ok (.getfield 11, 3) := by decide +kernel
theorem dX9_copy_14 : decode cX9_copy 14 = .ok (.arraylength, 1) := by decide +kernel
theorem dX9_copy_15 : decode cX9_copy 15 = .ok (.invokestatic 26, 3) := by decide +kernel
theorem dX9_copy_18 : decode cX9_copy 18 = .ok (.return_, 1) := by decide +kernel
set_option maxHeartbeats 4000000 in
set_option maxRecDepth 100000 in
theorem c_X11_lawful {l : Launch} {D : va_G} {cy : Nat → ClassId} {T0 tB tE : Nat} {a : Nat → Nat} {rw : Nat → Option Nat} (S : GS) (p0 : Int32) (p1 : Int32) (p2 : Int32) (p3 : Int32)  (hr_p0 : (-2147483648) ≤ p0.toInt ∧ p0.toInt ≤ (-1)) : Ct l D cy T0 tB tE yX11_lawful cX11_lawful 6 (some .int) 1 20 0 0 (cw cy tE a rw S) [.ref (a 0), .int p0, .int p1, .int p2, .int p3] (QI D (U := GS) (fun r u => (-1) = r ∧ S = u) (cw cy tE a rw)) := by
  refine Ct.ofZ RX11 "lawful" [(0, .ref (a 0)), (1, .int p0), (2, .int p1), (3, .int p2), (4, .int p3)] rfl rfl rfl rfl (Nat.le_of_ble_eq_true rfl) ?_
  intro p e R s m args below meth c A b
  refine z_iload_n b dX11_lawful_0 rfl rfl ?_
  refine z_calli b (z_runS (As := [.int p0]) (st := []) b (c_X11_isRow S p0 ⟨by omega, by omega⟩) cf_X11_isRow wm_X11_169 ws_X11_isRow dX11_lawful_1 rfl (Nat.le_of_ble_eq_true rfl) ⟨by decide, by decide, by decide, by decide⟩) (fun r4306 u4307 h4305 => ?_)
  obtain ⟨rfl, rfl⟩ := h4305
  refine z_if_eq_t (tgt := 32) b dX11_lawful_4 (by decide) (by decide) ?_
  refine z_iconst (v := (-1)) b dX11_lawful_32 (by decide) ?_
  exact z_iret (u := S) b rfl dX11_lawful_33 ⟨rfl, rfl⟩ rfl (by decide) (by decide)

set_option maxHeartbeats 4000000 in
set_option maxRecDepth 100000 in
theorem c_X12_lawful {l : Launch} {D : va_G} {cy : Nat → ClassId} {T0 tB tE : Nat} {a : Nat → Nat} (S : GS) (p0 : Int32) (p1 : Int32) (p2 : Int32) (p3 : Int32)  (hr_p0 : (-2147483648) ≤ p0.toInt ∧ p0.toInt ≤ (-1)) : Ct l D cy T0 tB tE yX12_lawful cX12_lawful 6 (some .int) 2 42 0 0 (mw cy a S) [.ref (a 0), .int p0, .int p1, .int p2, .int p3] (QI D (U := GS) (fun r u => (-1) = r ∧ S = u) (mw cy a)) := by
  refine Ct.ofZ RX12 "lawful" [(0, .ref (a 0)), (1, .int p0), (2, .int p1), (3, .int p2), (4, .int p3)] rfl rfl rfl rfl (Nat.le_of_ble_eq_true rfl) ?_
  intro p e R s m args below meth c A b
  refine z_iload_n b dX12_lawful_0 rfl rfl ?_
  refine z_calli b (z_runS (As := [.int p0]) (st := []) b (c_X12_isRow S p0 ⟨by omega, by omega⟩) cf_X12_isRow wm_X12_452 ws_X12_isRow dX12_lawful_1 rfl (Nat.le_of_ble_eq_true rfl) ⟨by decide, by decide, by decide, by decide⟩) (fun r4309 u4310 h4308 => ?_)
  obtain ⟨rfl, rfl⟩ := h4308
  refine z_if_eq_t (tgt := 36) b dX12_lawful_4 (by decide) (by decide) ?_
  refine z_iconst (v := (-1)) b dX12_lawful_36 (by decide) ?_
  exact z_iret (u := S) b rfl dX12_lawful_37 ⟨rfl, rfl⟩ rfl (by decide) (by decide)

set_option maxHeartbeats 4000000 in
set_option maxRecDepth 100000 in
theorem c_X11_lawful_2 {l : Launch} {D : va_G} {cy : Nat → ClassId} {T0 tB tE : Nat} {a : Nat → Nat} {rw : Nat → Option Nat} (S : GS) (p0 : Int32) (p1 : Int32) (p2 : Int32) (p3 : Int32)  (hr_p0 : 6 ≤ p0.toInt ∧ p0.toInt ≤ 2147483647) : Ct l D cy T0 tB tE yX11_lawful cX11_lawful 6 (some .int) 1 20 0 0 (cw cy tE a rw S) [.ref (a 0), .int p0, .int p1, .int p2, .int p3] (QI D (U := GS) (fun r u => (-1) = r ∧ S = u) (cw cy tE a rw)) := by
  refine Ct.ofZ RX11 "lawful" [(0, .ref (a 0)), (1, .int p0), (2, .int p1), (3, .int p2), (4, .int p3)] rfl rfl rfl rfl (Nat.le_of_ble_eq_true rfl) ?_
  intro p e R s m args below meth c A b
  refine z_iload_n b dX11_lawful_0 rfl rfl ?_
  refine z_calli b (z_runS (As := [.int p0]) (st := []) b (c_X11_isRow_2 S p0 ⟨by omega, by omega⟩) cf_X11_isRow wm_X11_169 ws_X11_isRow dX11_lawful_1 rfl (Nat.le_of_ble_eq_true rfl) ⟨by decide, by decide, by decide, by decide⟩) (fun r4312 u4313 h4311 => ?_)
  obtain ⟨rfl, rfl⟩ := h4311
  refine z_if_eq_t (tgt := 32) b dX11_lawful_4 (by decide) (by decide) ?_
  refine z_iconst (v := (-1)) b dX11_lawful_32 (by decide) ?_
  exact z_iret (u := S) b rfl dX11_lawful_33 ⟨rfl, rfl⟩ rfl (by decide) (by decide)

set_option maxHeartbeats 4000000 in
set_option maxRecDepth 100000 in
theorem c_X12_lawful_2 {l : Launch} {D : va_G} {cy : Nat → ClassId} {T0 tB tE : Nat} {a : Nat → Nat} (S : GS) (p0 : Int32) (p1 : Int32) (p2 : Int32) (p3 : Int32)  (hr_p0 : 6 ≤ p0.toInt ∧ p0.toInt ≤ 2147483647) : Ct l D cy T0 tB tE yX12_lawful cX12_lawful 6 (some .int) 2 42 0 0 (mw cy a S) [.ref (a 0), .int p0, .int p1, .int p2, .int p3] (QI D (U := GS) (fun r u => (-1) = r ∧ S = u) (mw cy a)) := by
  refine Ct.ofZ RX12 "lawful" [(0, .ref (a 0)), (1, .int p0), (2, .int p1), (3, .int p2), (4, .int p3)] rfl rfl rfl rfl (Nat.le_of_ble_eq_true rfl) ?_
  intro p e R s m args below meth c A b
  refine z_iload_n b dX12_lawful_0 rfl rfl ?_
  refine z_calli b (z_runS (As := [.int p0]) (st := []) b (c_X12_isRow_2 S p0 ⟨by omega, by omega⟩) cf_X12_isRow wm_X12_452 ws_X12_isRow dX12_lawful_1 rfl (Nat.le_of_ble_eq_true rfl) ⟨by decide, by decide, by decide, by decide⟩) (fun r4315 u4316 h4314 => ?_)
  obtain ⟨rfl, rfl⟩ := h4314
  refine z_if_eq_t (tgt := 36) b dX12_lawful_4 (by decide) (by decide) ?_
  refine z_iconst (v := (-1)) b dX12_lawful_36 (by decide) ?_
  exact z_iret (u := S) b rfl dX12_lawful_37 ⟨rfl, rfl⟩ rfl (by decide) (by decide)

set_option maxHeartbeats 4000000 in
set_option maxRecDepth 100000 in
theorem c_X11_areLaws {l : Launch} {D : va_G} {cy : Nat → ClassId} {T0 tB tE : Nat} {a : Nat → Nat} {rw : Nat → Option Nat} (S : GS) (p0 : Int32)  (hr_p0 : (-2147483648) ≤ p0.toInt ∧ p0.toInt ≤ 0) : Ct l D cy T0 tB tE yX11_areLaws cX11_areLaws 1 (some .boolean) 0 0 0 0 (cw cy tE a rw S) [.int p0] (QI D (U := GS) (fun r u => 0 = r ∧ S = u) (cw cy tE a rw)) := by
  refine Ct.ofZ RX11 "areLaws" [(0, .int p0)] rfl rfl rfl rfl (Nat.le_of_ble_eq_true rfl) ?_
  intro p e R s m args below meth c A b
  refine z_iload_n b dX11_areLaws_0 rfl rfl ?_
  refine z_iconst (v := 1) b dX11_areLaws_1 (by decide) ?_
  refine y_icmp_lt (tgt := 14) (xl := p0.toInt) (yl := 1) b rfl (by decide) dX11_areLaws_2 (by decide) (fun c4320 => ?_) (fun c4320 => ?_)
  · refine z_iconst (v := 0) b dX11_areLaws_14 (by decide) ?_
    exact z_zret (u := S) b rfl (by decide) dX11_areLaws_15 ⟨rfl, rfl⟩ rfl (by decide) (by decide)
  · exfalso; omega

set_option maxHeartbeats 4000000 in
set_option maxRecDepth 100000 in
theorem c_X11_lawful_3 {l : Launch} {D : va_G} {cy : Nat → ClassId} {T0 tB tE : Nat} {a : Nat → Nat} {rw : Nat → Option Nat} (S : GS) (p0 : Int32) (p1 : Int32) (p2 : Int32)  (hr_p0 : (-2147483648) ≤ p0.toInt ∧ p0.toInt ≤ 0) : Ct l D cy T0 tB tE yX11_lawful cX11_lawful 6 (some .int) 1 20 0 0 (cw cy tE a rw S) [.ref (a 0), .int 0, .int p0, .int p1, .int p2] (QI D (U := GS) (fun r u => (-1) = r ∧ S = u) (cw cy tE a rw)) := by
  refine Ct.ofZ RX11 "lawful" [(0, .ref (a 0)), (1, .int 0), (2, .int p0), (3, .int p1), (4, .int p2)] rfl rfl rfl rfl (Nat.le_of_ble_eq_true rfl) ?_
  intro p e R s m args below meth c A b
  refine z_iload_n b dX11_lawful_0 rfl rfl ?_
  refine z_calli b (z_runS (As := [.int 0]) (st := []) b (c_X11_isRow_3 S ) cf_X11_isRow wm_X11_169 ws_X11_isRow dX11_lawful_1 rfl (Nat.le_of_ble_eq_true rfl) ⟨by decide, by decide, by decide, by decide⟩) (fun r4318 u4319 h4317 => ?_)
  obtain ⟨rfl, rfl⟩ := h4317
  refine z_if_eq_f (tgt := 32) b dX11_lawful_4 (by decide) (by decide) ?_
  refine z_iload_n b dX11_lawful_7 rfl rfl ?_
  refine z_calli b (z_runS (As := [.int p0]) (st := []) b (c_X11_areLaws S p0 ⟨by omega, by omega⟩) cf_X11_areLaws wm_X11_181 ws_X11_areLaws dX11_lawful_8 rfl (Nat.le_of_ble_eq_true rfl) ⟨by decide, by decide, by decide, by decide⟩) (fun r4322 u4323 h4321 => ?_)
  obtain ⟨rfl, rfl⟩ := h4321
  refine z_if_eq_t (tgt := 32) b dX11_lawful_11 (by decide) (by decide) ?_
  refine z_iconst (v := (-1)) b dX11_lawful_32 (by decide) ?_
  exact z_iret (u := S) b rfl dX11_lawful_33 ⟨rfl, rfl⟩ rfl (by decide) (by decide)

set_option maxHeartbeats 4000000 in
set_option maxRecDepth 100000 in
theorem c_X12_isIn_49 {l : Launch} {D : va_G} {cy : Nat → ClassId} {T0 tB tE : Nat} {a : Nat → Nat} (S : GS) (p0 : Int32)  (hr_p0 : (-2147483648) ≤ p0.toInt ∧ p0.toInt ≤ 0) : Ct l D cy T0 tB tE yX12_isIn cX12_isIn 3 (some .boolean) 0 0 0 0 (mw cy a S) [.int p0, .int 1, .int 3] (QI D (U := GS) (fun r u => 0 = r ∧ S = u) (mw cy a)) := by
  refine Ct.ofZ RX12 "isIn" [(0, .int p0), (1, .int 1), (2, .int 3)] rfl rfl rfl rfl (Nat.le_of_ble_eq_true rfl) ?_
  intro p e R s m args below meth c A b
  refine z_iload_n b dX12_isIn_0 rfl rfl ?_
  refine z_iload_n b dX12_isIn_1 rfl rfl ?_
  refine y_icmp_lt (tgt := 14) (xl := p0.toInt) (yl := 1) b rfl (by decide) dX12_isIn_2 (by decide) (fun c4327 => ?_) (fun c4327 => ?_)
  · refine z_iconst (v := 0) b dX12_isIn_14 (by decide) ?_
    exact z_zret (u := S) b rfl (by decide) dX12_isIn_15 ⟨rfl, rfl⟩ rfl (by decide) (by decide)
  · exfalso; omega

set_option maxHeartbeats 4000000 in
set_option maxRecDepth 100000 in
theorem c_X12_lawful_3 {l : Launch} {D : va_G} {cy : Nat → ClassId} {T0 tB tE : Nat} {a : Nat → Nat} (S : GS) (p0 : Int32) (p1 : Int32) (p2 : Int32)  (hr_p0 : (-2147483648) ≤ p0.toInt ∧ p0.toInt ≤ 0) : Ct l D cy T0 tB tE yX12_lawful cX12_lawful 6 (some .int) 2 42 0 0 (mw cy a S) [.ref (a 0), .int 0, .int p0, .int p1, .int p2] (QI D (U := GS) (fun r u => (-1) = r ∧ S = u) (mw cy a)) := by
  refine Ct.ofZ RX12 "lawful" [(0, .ref (a 0)), (1, .int 0), (2, .int p0), (3, .int p1), (4, .int p2)] rfl rfl rfl rfl (Nat.le_of_ble_eq_true rfl) ?_
  intro p e R s m args below meth c A b
  refine z_iload_n b dX12_lawful_0 rfl rfl ?_
  refine z_calli b (z_runS (As := [.int 0]) (st := []) b (c_X12_isRow_3 S ) cf_X12_isRow wm_X12_452 ws_X12_isRow dX12_lawful_1 rfl (Nat.le_of_ble_eq_true rfl) ⟨by decide, by decide, by decide, by decide⟩) (fun r4325 u4326 h4324 => ?_)
  obtain ⟨rfl, rfl⟩ := h4324
  refine z_if_eq_f (tgt := 36) b dX12_lawful_4 (by decide) (by decide) ?_
  refine z_iload_n b dX12_lawful_7 rfl rfl ?_
  refine z_iconst (v := 1) b dX12_lawful_8 (by decide) ?_
  refine z_iconst (v := 3) b dX12_lawful_9 (by decide) ?_
  refine z_calli b (z_runS (As := [.int p0, .int 1, .int 3]) (st := []) b (c_X12_isIn_49 S p0 ⟨by omega, by omega⟩) cf_X12_isIn wm_X12_1 ws_X12_isIn dX12_lawful_10 rfl (Nat.le_of_ble_eq_true rfl) ⟨by decide, by decide, by decide, by decide⟩) (fun r4329 u4330 h4328 => ?_)
  obtain ⟨rfl, rfl⟩ := h4328
  refine z_if_eq_t (tgt := 36) b dX12_lawful_13 (by decide) (by decide) ?_
  refine z_iconst (v := (-1)) b dX12_lawful_36 (by decide) ?_
  exact z_iret (u := S) b rfl dX12_lawful_37 ⟨rfl, rfl⟩ rfl (by decide) (by decide)

set_option maxHeartbeats 4000000 in
set_option maxRecDepth 100000 in
theorem c_X11_areLaws_2 {l : Launch} {D : va_G} {cy : Nat → ClassId} {T0 tB tE : Nat} {a : Nat → Nat} {rw : Nat → Option Nat} (S : GS) (p0 : Int32)  (hr_p0 : 4 ≤ p0.toInt ∧ p0.toInt ≤ 2147483647) : Ct l D cy T0 tB tE yX11_areLaws cX11_areLaws 1 (some .boolean) 0 0 0 0 (cw cy tE a rw S) [.int p0] (QI D (U := GS) (fun r u => 0 = r ∧ S = u) (cw cy tE a rw)) := by
  refine Ct.ofZ RX11 "areLaws" [(0, .int p0)] rfl rfl rfl rfl (Nat.le_of_ble_eq_true rfl) ?_
  intro p e R s m args below meth c A b
  refine z_iload_n b dX11_areLaws_0 rfl rfl ?_
  refine z_iconst (v := 1) b dX11_areLaws_1 (by decide) ?_
  refine y_icmp_lt (tgt := 14) (xl := p0.toInt) (yl := 1) b rfl (by decide) dX11_areLaws_2 (by decide) (fun c4334 => ?_) (fun c4334 => ?_)
  · exfalso; omega
  · refine z_iload_n b dX11_areLaws_5 rfl rfl ?_
    refine z_iconst (v := 3) b dX11_areLaws_6 (by decide) ?_
    refine y_icmp_gt (tgt := 14) (xl := p0.toInt) (yl := 3) b rfl (by decide) dX11_areLaws_7 (by decide) (fun c4335 => ?_) (fun c4335 => ?_)
    · refine z_iconst (v := 0) b dX11_areLaws_14 (by decide) ?_
      exact z_zret (u := S) b rfl (by decide) dX11_areLaws_15 ⟨rfl, rfl⟩ rfl (by decide) (by decide)
    · exfalso; omega

set_option maxHeartbeats 4000000 in
set_option maxRecDepth 100000 in
theorem c_X11_lawful_4 {l : Launch} {D : va_G} {cy : Nat → ClassId} {T0 tB tE : Nat} {a : Nat → Nat} {rw : Nat → Option Nat} (S : GS) (p0 : Int32) (p1 : Int32) (p2 : Int32)  (hr_p0 : 4 ≤ p0.toInt ∧ p0.toInt ≤ 2147483647) : Ct l D cy T0 tB tE yX11_lawful cX11_lawful 6 (some .int) 1 20 0 0 (cw cy tE a rw S) [.ref (a 0), .int 0, .int p0, .int p1, .int p2] (QI D (U := GS) (fun r u => (-1) = r ∧ S = u) (cw cy tE a rw)) := by
  refine Ct.ofZ RX11 "lawful" [(0, .ref (a 0)), (1, .int 0), (2, .int p0), (3, .int p1), (4, .int p2)] rfl rfl rfl rfl (Nat.le_of_ble_eq_true rfl) ?_
  intro p e R s m args below meth c A b
  refine z_iload_n b dX11_lawful_0 rfl rfl ?_
  refine z_calli b (z_runS (As := [.int 0]) (st := []) b (c_X11_isRow_3 S ) cf_X11_isRow wm_X11_169 ws_X11_isRow dX11_lawful_1 rfl (Nat.le_of_ble_eq_true rfl) ⟨by decide, by decide, by decide, by decide⟩) (fun r4332 u4333 h4331 => ?_)
  obtain ⟨rfl, rfl⟩ := h4331
  refine z_if_eq_f (tgt := 32) b dX11_lawful_4 (by decide) (by decide) ?_
  refine z_iload_n b dX11_lawful_7 rfl rfl ?_
  refine z_calli b (z_runS (As := [.int p0]) (st := []) b (c_X11_areLaws_2 S p0 ⟨by omega, by omega⟩) cf_X11_areLaws wm_X11_181 ws_X11_areLaws dX11_lawful_8 rfl (Nat.le_of_ble_eq_true rfl) ⟨by decide, by decide, by decide, by decide⟩) (fun r4337 u4338 h4336 => ?_)
  obtain ⟨rfl, rfl⟩ := h4336
  refine z_if_eq_t (tgt := 32) b dX11_lawful_11 (by decide) (by decide) ?_
  refine z_iconst (v := (-1)) b dX11_lawful_32 (by decide) ?_
  exact z_iret (u := S) b rfl dX11_lawful_33 ⟨rfl, rfl⟩ rfl (by decide) (by decide)

set_option maxHeartbeats 4000000 in
set_option maxRecDepth 100000 in
theorem c_X12_isIn_50 {l : Launch} {D : va_G} {cy : Nat → ClassId} {T0 tB tE : Nat} {a : Nat → Nat} (S : GS) (p0 : Int32)  (hr_p0 : 4 ≤ p0.toInt ∧ p0.toInt ≤ 2147483647) : Ct l D cy T0 tB tE yX12_isIn cX12_isIn 3 (some .boolean) 0 0 0 0 (mw cy a S) [.int p0, .int 1, .int 3] (QI D (U := GS) (fun r u => 0 = r ∧ S = u) (mw cy a)) := by
  refine Ct.ofZ RX12 "isIn" [(0, .int p0), (1, .int 1), (2, .int 3)] rfl rfl rfl rfl (Nat.le_of_ble_eq_true rfl) ?_
  intro p e R s m args below meth c A b
  refine z_iload_n b dX12_isIn_0 rfl rfl ?_
  refine z_iload_n b dX12_isIn_1 rfl rfl ?_
  refine y_icmp_lt (tgt := 14) (xl := p0.toInt) (yl := 1) b rfl (by decide) dX12_isIn_2 (by decide) (fun c4342 => ?_) (fun c4342 => ?_)
  · exfalso; omega
  · refine z_iload_n b dX12_isIn_5 rfl rfl ?_
    refine z_iload_n b dX12_isIn_6 rfl rfl ?_
    refine y_icmp_gt (tgt := 14) (xl := p0.toInt) (yl := 3) b rfl (by decide) dX12_isIn_7 (by decide) (fun c4343 => ?_) (fun c4343 => ?_)
    · refine z_iconst (v := 0) b dX12_isIn_14 (by decide) ?_
      exact z_zret (u := S) b rfl (by decide) dX12_isIn_15 ⟨rfl, rfl⟩ rfl (by decide) (by decide)
    · exfalso; omega

set_option maxHeartbeats 4000000 in
set_option maxRecDepth 100000 in
theorem c_X12_lawful_4 {l : Launch} {D : va_G} {cy : Nat → ClassId} {T0 tB tE : Nat} {a : Nat → Nat} (S : GS) (p0 : Int32) (p1 : Int32) (p2 : Int32)  (hr_p0 : 4 ≤ p0.toInt ∧ p0.toInt ≤ 2147483647) : Ct l D cy T0 tB tE yX12_lawful cX12_lawful 6 (some .int) 2 42 0 0 (mw cy a S) [.ref (a 0), .int 0, .int p0, .int p1, .int p2] (QI D (U := GS) (fun r u => (-1) = r ∧ S = u) (mw cy a)) := by
  refine Ct.ofZ RX12 "lawful" [(0, .ref (a 0)), (1, .int 0), (2, .int p0), (3, .int p1), (4, .int p2)] rfl rfl rfl rfl (Nat.le_of_ble_eq_true rfl) ?_
  intro p e R s m args below meth c A b
  refine z_iload_n b dX12_lawful_0 rfl rfl ?_
  refine z_calli b (z_runS (As := [.int 0]) (st := []) b (c_X12_isRow_3 S ) cf_X12_isRow wm_X12_452 ws_X12_isRow dX12_lawful_1 rfl (Nat.le_of_ble_eq_true rfl) ⟨by decide, by decide, by decide, by decide⟩) (fun r4340 u4341 h4339 => ?_)
  obtain ⟨rfl, rfl⟩ := h4339
  refine z_if_eq_f (tgt := 36) b dX12_lawful_4 (by decide) (by decide) ?_
  refine z_iload_n b dX12_lawful_7 rfl rfl ?_
  refine z_iconst (v := 1) b dX12_lawful_8 (by decide) ?_
  refine z_iconst (v := 3) b dX12_lawful_9 (by decide) ?_
  refine z_calli b (z_runS (As := [.int p0, .int 1, .int 3]) (st := []) b (c_X12_isIn_50 S p0 ⟨by omega, by omega⟩) cf_X12_isIn wm_X12_1 ws_X12_isIn dX12_lawful_10 rfl (Nat.le_of_ble_eq_true rfl) ⟨by decide, by decide, by decide, by decide⟩) (fun r4345 u4346 h4344 => ?_)
  obtain ⟨rfl, rfl⟩ := h4344
  refine z_if_eq_t (tgt := 36) b dX12_lawful_13 (by decide) (by decide) ?_
  refine z_iconst (v := (-1)) b dX12_lawful_36 (by decide) ?_
  exact z_iret (u := S) b rfl dX12_lawful_37 ⟨rfl, rfl⟩ rfl (by decide) (by decide)

set_option maxHeartbeats 4000000 in
set_option maxRecDepth 100000 in
theorem c_X11_lawful_5 {l : Launch} {D : va_G} {cy : Nat → ClassId} {T0 tB tE : Nat} {a : Nat → Nat} {rw : Nat → Option Nat} (S : GS) (p0 : Int32) (p1 : Int32) (p2 : Int32)  (hr_p0 : (-2147483648) ≤ p0.toInt ∧ p0.toInt ≤ 0) : Ct l D cy T0 tB tE yX11_lawful cX11_lawful 6 (some .int) 1 20 0 0 (cw cy tE a rw S) [.ref (a 0), .int 1, .int p0, .int p1, .int p2] (QI D (U := GS) (fun r u => (-1) = r ∧ S = u) (cw cy tE a rw)) := by
  refine Ct.ofZ RX11 "lawful" [(0, .ref (a 0)), (1, .int 1), (2, .int p0), (3, .int p1), (4, .int p2)] rfl rfl rfl rfl (Nat.le_of_ble_eq_true rfl) ?_
  intro p e R s m args below meth c A b
  refine z_iload_n b dX11_lawful_0 rfl rfl ?_
  refine z_calli b (z_runS (As := [.int 1]) (st := []) b (c_X11_isRow_4 S ) cf_X11_isRow wm_X11_169 ws_X11_isRow dX11_lawful_1 rfl (Nat.le_of_ble_eq_true rfl) ⟨by decide, by decide, by decide, by decide⟩) (fun r4348 u4349 h4347 => ?_)
  obtain ⟨rfl, rfl⟩ := h4347
  refine z_if_eq_f (tgt := 32) b dX11_lawful_4 (by decide) (by decide) ?_
  refine z_iload_n b dX11_lawful_7 rfl rfl ?_
  refine z_calli b (z_runS (As := [.int p0]) (st := []) b (c_X11_areLaws S p0 ⟨by omega, by omega⟩) cf_X11_areLaws wm_X11_181 ws_X11_areLaws dX11_lawful_8 rfl (Nat.le_of_ble_eq_true rfl) ⟨by decide, by decide, by decide, by decide⟩) (fun r4351 u4352 h4350 => ?_)
  obtain ⟨rfl, rfl⟩ := h4350
  refine z_if_eq_t (tgt := 32) b dX11_lawful_11 (by decide) (by decide) ?_
  refine z_iconst (v := (-1)) b dX11_lawful_32 (by decide) ?_
  exact z_iret (u := S) b rfl dX11_lawful_33 ⟨rfl, rfl⟩ rfl (by decide) (by decide)

set_option maxHeartbeats 4000000 in
set_option maxRecDepth 100000 in
theorem c_X12_lawful_5 {l : Launch} {D : va_G} {cy : Nat → ClassId} {T0 tB tE : Nat} {a : Nat → Nat} (S : GS) (p0 : Int32) (p1 : Int32) (p2 : Int32)  (hr_p0 : (-2147483648) ≤ p0.toInt ∧ p0.toInt ≤ 0) : Ct l D cy T0 tB tE yX12_lawful cX12_lawful 6 (some .int) 2 42 0 0 (mw cy a S) [.ref (a 0), .int 1, .int p0, .int p1, .int p2] (QI D (U := GS) (fun r u => (-1) = r ∧ S = u) (mw cy a)) := by
  refine Ct.ofZ RX12 "lawful" [(0, .ref (a 0)), (1, .int 1), (2, .int p0), (3, .int p1), (4, .int p2)] rfl rfl rfl rfl (Nat.le_of_ble_eq_true rfl) ?_
  intro p e R s m args below meth c A b
  refine z_iload_n b dX12_lawful_0 rfl rfl ?_
  refine z_calli b (z_runS (As := [.int 1]) (st := []) b (c_X12_isRow_4 S ) cf_X12_isRow wm_X12_452 ws_X12_isRow dX12_lawful_1 rfl (Nat.le_of_ble_eq_true rfl) ⟨by decide, by decide, by decide, by decide⟩) (fun r4354 u4355 h4353 => ?_)
  obtain ⟨rfl, rfl⟩ := h4353
  refine z_if_eq_f (tgt := 36) b dX12_lawful_4 (by decide) (by decide) ?_
  refine z_iload_n b dX12_lawful_7 rfl rfl ?_
  refine z_iconst (v := 1) b dX12_lawful_8 (by decide) ?_
  refine z_iconst (v := 3) b dX12_lawful_9 (by decide) ?_
  refine z_calli b (z_runS (As := [.int p0, .int 1, .int 3]) (st := []) b (c_X12_isIn_49 S p0 ⟨by omega, by omega⟩) cf_X12_isIn wm_X12_1 ws_X12_isIn dX12_lawful_10 rfl (Nat.le_of_ble_eq_true rfl) ⟨by decide, by decide, by decide, by decide⟩) (fun r4357 u4358 h4356 => ?_)
  obtain ⟨rfl, rfl⟩ := h4356
  refine z_if_eq_t (tgt := 36) b dX12_lawful_13 (by decide) (by decide) ?_
  refine z_iconst (v := (-1)) b dX12_lawful_36 (by decide) ?_
  exact z_iret (u := S) b rfl dX12_lawful_37 ⟨rfl, rfl⟩ rfl (by decide) (by decide)

set_option maxHeartbeats 4000000 in
set_option maxRecDepth 100000 in
theorem c_X11_lawful_6 {l : Launch} {D : va_G} {cy : Nat → ClassId} {T0 tB tE : Nat} {a : Nat → Nat} {rw : Nat → Option Nat} (S : GS) (p0 : Int32) (p1 : Int32) (p2 : Int32)  (hr_p0 : 4 ≤ p0.toInt ∧ p0.toInt ≤ 2147483647) : Ct l D cy T0 tB tE yX11_lawful cX11_lawful 6 (some .int) 1 20 0 0 (cw cy tE a rw S) [.ref (a 0), .int 1, .int p0, .int p1, .int p2] (QI D (U := GS) (fun r u => (-1) = r ∧ S = u) (cw cy tE a rw)) := by
  refine Ct.ofZ RX11 "lawful" [(0, .ref (a 0)), (1, .int 1), (2, .int p0), (3, .int p1), (4, .int p2)] rfl rfl rfl rfl (Nat.le_of_ble_eq_true rfl) ?_
  intro p e R s m args below meth c A b
  refine z_iload_n b dX11_lawful_0 rfl rfl ?_
  refine z_calli b (z_runS (As := [.int 1]) (st := []) b (c_X11_isRow_4 S ) cf_X11_isRow wm_X11_169 ws_X11_isRow dX11_lawful_1 rfl (Nat.le_of_ble_eq_true rfl) ⟨by decide, by decide, by decide, by decide⟩) (fun r4360 u4361 h4359 => ?_)
  obtain ⟨rfl, rfl⟩ := h4359
  refine z_if_eq_f (tgt := 32) b dX11_lawful_4 (by decide) (by decide) ?_
  refine z_iload_n b dX11_lawful_7 rfl rfl ?_
  refine z_calli b (z_runS (As := [.int p0]) (st := []) b (c_X11_areLaws_2 S p0 ⟨by omega, by omega⟩) cf_X11_areLaws wm_X11_181 ws_X11_areLaws dX11_lawful_8 rfl (Nat.le_of_ble_eq_true rfl) ⟨by decide, by decide, by decide, by decide⟩) (fun r4363 u4364 h4362 => ?_)
  obtain ⟨rfl, rfl⟩ := h4362
  refine z_if_eq_t (tgt := 32) b dX11_lawful_11 (by decide) (by decide) ?_
  refine z_iconst (v := (-1)) b dX11_lawful_32 (by decide) ?_
  exact z_iret (u := S) b rfl dX11_lawful_33 ⟨rfl, rfl⟩ rfl (by decide) (by decide)

set_option maxHeartbeats 4000000 in
set_option maxRecDepth 100000 in
theorem c_X12_lawful_6 {l : Launch} {D : va_G} {cy : Nat → ClassId} {T0 tB tE : Nat} {a : Nat → Nat} (S : GS) (p0 : Int32) (p1 : Int32) (p2 : Int32)  (hr_p0 : 4 ≤ p0.toInt ∧ p0.toInt ≤ 2147483647) : Ct l D cy T0 tB tE yX12_lawful cX12_lawful 6 (some .int) 2 42 0 0 (mw cy a S) [.ref (a 0), .int 1, .int p0, .int p1, .int p2] (QI D (U := GS) (fun r u => (-1) = r ∧ S = u) (mw cy a)) := by
  refine Ct.ofZ RX12 "lawful" [(0, .ref (a 0)), (1, .int 1), (2, .int p0), (3, .int p1), (4, .int p2)] rfl rfl rfl rfl (Nat.le_of_ble_eq_true rfl) ?_
  intro p e R s m args below meth c A b
  refine z_iload_n b dX12_lawful_0 rfl rfl ?_
  refine z_calli b (z_runS (As := [.int 1]) (st := []) b (c_X12_isRow_4 S ) cf_X12_isRow wm_X12_452 ws_X12_isRow dX12_lawful_1 rfl (Nat.le_of_ble_eq_true rfl) ⟨by decide, by decide, by decide, by decide⟩) (fun r4366 u4367 h4365 => ?_)
  obtain ⟨rfl, rfl⟩ := h4365
  refine z_if_eq_f (tgt := 36) b dX12_lawful_4 (by decide) (by decide) ?_
  refine z_iload_n b dX12_lawful_7 rfl rfl ?_
  refine z_iconst (v := 1) b dX12_lawful_8 (by decide) ?_
  refine z_iconst (v := 3) b dX12_lawful_9 (by decide) ?_
  refine z_calli b (z_runS (As := [.int p0, .int 1, .int 3]) (st := []) b (c_X12_isIn_50 S p0 ⟨by omega, by omega⟩) cf_X12_isIn wm_X12_1 ws_X12_isIn dX12_lawful_10 rfl (Nat.le_of_ble_eq_true rfl) ⟨by decide, by decide, by decide, by decide⟩) (fun r4369 u4370 h4368 => ?_)
  obtain ⟨rfl, rfl⟩ := h4368
  refine z_if_eq_t (tgt := 36) b dX12_lawful_13 (by decide) (by decide) ?_
  refine z_iconst (v := (-1)) b dX12_lawful_36 (by decide) ?_
  exact z_iret (u := S) b rfl dX12_lawful_37 ⟨rfl, rfl⟩ rfl (by decide) (by decide)

set_option maxHeartbeats 4000000 in
set_option maxRecDepth 100000 in
theorem c_X11_lawful_7 {l : Launch} {D : va_G} {cy : Nat → ClassId} {T0 tB tE : Nat} {a : Nat → Nat} {rw : Nat → Option Nat} (S : GS) (p0 : Int32) (p1 : Int32) (p2 : Int32)  (hr_p0 : (-2147483648) ≤ p0.toInt ∧ p0.toInt ≤ 0) : Ct l D cy T0 tB tE yX11_lawful cX11_lawful 6 (some .int) 1 20 0 0 (cw cy tE a rw S) [.ref (a 0), .int 2, .int p0, .int p1, .int p2] (QI D (U := GS) (fun r u => (-1) = r ∧ S = u) (cw cy tE a rw)) := by
  refine Ct.ofZ RX11 "lawful" [(0, .ref (a 0)), (1, .int 2), (2, .int p0), (3, .int p1), (4, .int p2)] rfl rfl rfl rfl (Nat.le_of_ble_eq_true rfl) ?_
  intro p e R s m args below meth c A b
  refine z_iload_n b dX11_lawful_0 rfl rfl ?_
  refine z_calli b (z_runS (As := [.int 2]) (st := []) b (c_X11_isRow_5 S ) cf_X11_isRow wm_X11_169 ws_X11_isRow dX11_lawful_1 rfl (Nat.le_of_ble_eq_true rfl) ⟨by decide, by decide, by decide, by decide⟩) (fun r4372 u4373 h4371 => ?_)
  obtain ⟨rfl, rfl⟩ := h4371
  refine z_if_eq_f (tgt := 32) b dX11_lawful_4 (by decide) (by decide) ?_
  refine z_iload_n b dX11_lawful_7 rfl rfl ?_
  refine z_calli b (z_runS (As := [.int p0]) (st := []) b (c_X11_areLaws S p0 ⟨by omega, by omega⟩) cf_X11_areLaws wm_X11_181 ws_X11_areLaws dX11_lawful_8 rfl (Nat.le_of_ble_eq_true rfl) ⟨by decide, by decide, by decide, by decide⟩) (fun r4375 u4376 h4374 => ?_)
  obtain ⟨rfl, rfl⟩ := h4374
  refine z_if_eq_t (tgt := 32) b dX11_lawful_11 (by decide) (by decide) ?_
  refine z_iconst (v := (-1)) b dX11_lawful_32 (by decide) ?_
  exact z_iret (u := S) b rfl dX11_lawful_33 ⟨rfl, rfl⟩ rfl (by decide) (by decide)

set_option maxHeartbeats 4000000 in
set_option maxRecDepth 100000 in
theorem c_X12_lawful_7 {l : Launch} {D : va_G} {cy : Nat → ClassId} {T0 tB tE : Nat} {a : Nat → Nat} (S : GS) (p0 : Int32) (p1 : Int32) (p2 : Int32)  (hr_p0 : (-2147483648) ≤ p0.toInt ∧ p0.toInt ≤ 0) : Ct l D cy T0 tB tE yX12_lawful cX12_lawful 6 (some .int) 2 42 0 0 (mw cy a S) [.ref (a 0), .int 2, .int p0, .int p1, .int p2] (QI D (U := GS) (fun r u => (-1) = r ∧ S = u) (mw cy a)) := by
  refine Ct.ofZ RX12 "lawful" [(0, .ref (a 0)), (1, .int 2), (2, .int p0), (3, .int p1), (4, .int p2)] rfl rfl rfl rfl (Nat.le_of_ble_eq_true rfl) ?_
  intro p e R s m args below meth c A b
  refine z_iload_n b dX12_lawful_0 rfl rfl ?_
  refine z_calli b (z_runS (As := [.int 2]) (st := []) b (c_X12_isRow_5 S ) cf_X12_isRow wm_X12_452 ws_X12_isRow dX12_lawful_1 rfl (Nat.le_of_ble_eq_true rfl) ⟨by decide, by decide, by decide, by decide⟩) (fun r4378 u4379 h4377 => ?_)
  obtain ⟨rfl, rfl⟩ := h4377
  refine z_if_eq_f (tgt := 36) b dX12_lawful_4 (by decide) (by decide) ?_
  refine z_iload_n b dX12_lawful_7 rfl rfl ?_
  refine z_iconst (v := 1) b dX12_lawful_8 (by decide) ?_
  refine z_iconst (v := 3) b dX12_lawful_9 (by decide) ?_
  refine z_calli b (z_runS (As := [.int p0, .int 1, .int 3]) (st := []) b (c_X12_isIn_49 S p0 ⟨by omega, by omega⟩) cf_X12_isIn wm_X12_1 ws_X12_isIn dX12_lawful_10 rfl (Nat.le_of_ble_eq_true rfl) ⟨by decide, by decide, by decide, by decide⟩) (fun r4381 u4382 h4380 => ?_)
  obtain ⟨rfl, rfl⟩ := h4380
  refine z_if_eq_t (tgt := 36) b dX12_lawful_13 (by decide) (by decide) ?_
  refine z_iconst (v := (-1)) b dX12_lawful_36 (by decide) ?_
  exact z_iret (u := S) b rfl dX12_lawful_37 ⟨rfl, rfl⟩ rfl (by decide) (by decide)

set_option maxHeartbeats 4000000 in
set_option maxRecDepth 100000 in
theorem c_X11_lawful_8 {l : Launch} {D : va_G} {cy : Nat → ClassId} {T0 tB tE : Nat} {a : Nat → Nat} {rw : Nat → Option Nat} (S : GS) (p0 : Int32) (p1 : Int32) (p2 : Int32)  (hr_p0 : 4 ≤ p0.toInt ∧ p0.toInt ≤ 2147483647) : Ct l D cy T0 tB tE yX11_lawful cX11_lawful 6 (some .int) 1 20 0 0 (cw cy tE a rw S) [.ref (a 0), .int 2, .int p0, .int p1, .int p2] (QI D (U := GS) (fun r u => (-1) = r ∧ S = u) (cw cy tE a rw)) := by
  refine Ct.ofZ RX11 "lawful" [(0, .ref (a 0)), (1, .int 2), (2, .int p0), (3, .int p1), (4, .int p2)] rfl rfl rfl rfl (Nat.le_of_ble_eq_true rfl) ?_
  intro p e R s m args below meth c A b
  refine z_iload_n b dX11_lawful_0 rfl rfl ?_
  refine z_calli b (z_runS (As := [.int 2]) (st := []) b (c_X11_isRow_5 S ) cf_X11_isRow wm_X11_169 ws_X11_isRow dX11_lawful_1 rfl (Nat.le_of_ble_eq_true rfl) ⟨by decide, by decide, by decide, by decide⟩) (fun r4384 u4385 h4383 => ?_)
  obtain ⟨rfl, rfl⟩ := h4383
  refine z_if_eq_f (tgt := 32) b dX11_lawful_4 (by decide) (by decide) ?_
  refine z_iload_n b dX11_lawful_7 rfl rfl ?_
  refine z_calli b (z_runS (As := [.int p0]) (st := []) b (c_X11_areLaws_2 S p0 ⟨by omega, by omega⟩) cf_X11_areLaws wm_X11_181 ws_X11_areLaws dX11_lawful_8 rfl (Nat.le_of_ble_eq_true rfl) ⟨by decide, by decide, by decide, by decide⟩) (fun r4387 u4388 h4386 => ?_)
  obtain ⟨rfl, rfl⟩ := h4386
  refine z_if_eq_t (tgt := 32) b dX11_lawful_11 (by decide) (by decide) ?_
  refine z_iconst (v := (-1)) b dX11_lawful_32 (by decide) ?_
  exact z_iret (u := S) b rfl dX11_lawful_33 ⟨rfl, rfl⟩ rfl (by decide) (by decide)

set_option maxHeartbeats 4000000 in
set_option maxRecDepth 100000 in
theorem c_X12_lawful_8 {l : Launch} {D : va_G} {cy : Nat → ClassId} {T0 tB tE : Nat} {a : Nat → Nat} (S : GS) (p0 : Int32) (p1 : Int32) (p2 : Int32)  (hr_p0 : 4 ≤ p0.toInt ∧ p0.toInt ≤ 2147483647) : Ct l D cy T0 tB tE yX12_lawful cX12_lawful 6 (some .int) 2 42 0 0 (mw cy a S) [.ref (a 0), .int 2, .int p0, .int p1, .int p2] (QI D (U := GS) (fun r u => (-1) = r ∧ S = u) (mw cy a)) := by
  refine Ct.ofZ RX12 "lawful" [(0, .ref (a 0)), (1, .int 2), (2, .int p0), (3, .int p1), (4, .int p2)] rfl rfl rfl rfl (Nat.le_of_ble_eq_true rfl) ?_
  intro p e R s m args below meth c A b
  refine z_iload_n b dX12_lawful_0 rfl rfl ?_
  refine z_calli b (z_runS (As := [.int 2]) (st := []) b (c_X12_isRow_5 S ) cf_X12_isRow wm_X12_452 ws_X12_isRow dX12_lawful_1 rfl (Nat.le_of_ble_eq_true rfl) ⟨by decide, by decide, by decide, by decide⟩) (fun r4390 u4391 h4389 => ?_)
  obtain ⟨rfl, rfl⟩ := h4389
  refine z_if_eq_f (tgt := 36) b dX12_lawful_4 (by decide) (by decide) ?_
  refine z_iload_n b dX12_lawful_7 rfl rfl ?_
  refine z_iconst (v := 1) b dX12_lawful_8 (by decide) ?_
  refine z_iconst (v := 3) b dX12_lawful_9 (by decide) ?_
  refine z_calli b (z_runS (As := [.int p0, .int 1, .int 3]) (st := []) b (c_X12_isIn_50 S p0 ⟨by omega, by omega⟩) cf_X12_isIn wm_X12_1 ws_X12_isIn dX12_lawful_10 rfl (Nat.le_of_ble_eq_true rfl) ⟨by decide, by decide, by decide, by decide⟩) (fun r4393 u4394 h4392 => ?_)
  obtain ⟨rfl, rfl⟩ := h4392
  refine z_if_eq_t (tgt := 36) b dX12_lawful_13 (by decide) (by decide) ?_
  refine z_iconst (v := (-1)) b dX12_lawful_36 (by decide) ?_
  exact z_iret (u := S) b rfl dX12_lawful_37 ⟨rfl, rfl⟩ rfl (by decide) (by decide)

set_option maxHeartbeats 4000000 in
set_option maxRecDepth 100000 in
theorem c_X11_lawful_9 {l : Launch} {D : va_G} {cy : Nat → ClassId} {T0 tB tE : Nat} {a : Nat → Nat} {rw : Nat → Option Nat} (S : GS) (p0 : Int32) (p1 : Int32) (p2 : Int32)  (hr_p0 : (-2147483648) ≤ p0.toInt ∧ p0.toInt ≤ 0) : Ct l D cy T0 tB tE yX11_lawful cX11_lawful 6 (some .int) 1 20 0 0 (cw cy tE a rw S) [.ref (a 0), .int 3, .int p0, .int p1, .int p2] (QI D (U := GS) (fun r u => (-1) = r ∧ S = u) (cw cy tE a rw)) := by
  refine Ct.ofZ RX11 "lawful" [(0, .ref (a 0)), (1, .int 3), (2, .int p0), (3, .int p1), (4, .int p2)] rfl rfl rfl rfl (Nat.le_of_ble_eq_true rfl) ?_
  intro p e R s m args below meth c A b
  refine z_iload_n b dX11_lawful_0 rfl rfl ?_
  refine z_calli b (z_runS (As := [.int 3]) (st := []) b (c_X11_isRow_6 S ) cf_X11_isRow wm_X11_169 ws_X11_isRow dX11_lawful_1 rfl (Nat.le_of_ble_eq_true rfl) ⟨by decide, by decide, by decide, by decide⟩) (fun r4396 u4397 h4395 => ?_)
  obtain ⟨rfl, rfl⟩ := h4395
  refine z_if_eq_f (tgt := 32) b dX11_lawful_4 (by decide) (by decide) ?_
  refine z_iload_n b dX11_lawful_7 rfl rfl ?_
  refine z_calli b (z_runS (As := [.int p0]) (st := []) b (c_X11_areLaws S p0 ⟨by omega, by omega⟩) cf_X11_areLaws wm_X11_181 ws_X11_areLaws dX11_lawful_8 rfl (Nat.le_of_ble_eq_true rfl) ⟨by decide, by decide, by decide, by decide⟩) (fun r4399 u4400 h4398 => ?_)
  obtain ⟨rfl, rfl⟩ := h4398
  refine z_if_eq_t (tgt := 32) b dX11_lawful_11 (by decide) (by decide) ?_
  refine z_iconst (v := (-1)) b dX11_lawful_32 (by decide) ?_
  exact z_iret (u := S) b rfl dX11_lawful_33 ⟨rfl, rfl⟩ rfl (by decide) (by decide)

set_option maxHeartbeats 4000000 in
set_option maxRecDepth 100000 in
theorem c_X12_lawful_9 {l : Launch} {D : va_G} {cy : Nat → ClassId} {T0 tB tE : Nat} {a : Nat → Nat} (S : GS) (p0 : Int32) (p1 : Int32) (p2 : Int32)  (hr_p0 : (-2147483648) ≤ p0.toInt ∧ p0.toInt ≤ 0) : Ct l D cy T0 tB tE yX12_lawful cX12_lawful 6 (some .int) 2 42 0 0 (mw cy a S) [.ref (a 0), .int 3, .int p0, .int p1, .int p2] (QI D (U := GS) (fun r u => (-1) = r ∧ S = u) (mw cy a)) := by
  refine Ct.ofZ RX12 "lawful" [(0, .ref (a 0)), (1, .int 3), (2, .int p0), (3, .int p1), (4, .int p2)] rfl rfl rfl rfl (Nat.le_of_ble_eq_true rfl) ?_
  intro p e R s m args below meth c A b
  refine z_iload_n b dX12_lawful_0 rfl rfl ?_
  refine z_calli b (z_runS (As := [.int 3]) (st := []) b (c_X12_isRow_6 S ) cf_X12_isRow wm_X12_452 ws_X12_isRow dX12_lawful_1 rfl (Nat.le_of_ble_eq_true rfl) ⟨by decide, by decide, by decide, by decide⟩) (fun r4402 u4403 h4401 => ?_)
  obtain ⟨rfl, rfl⟩ := h4401
  refine z_if_eq_f (tgt := 36) b dX12_lawful_4 (by decide) (by decide) ?_
  refine z_iload_n b dX12_lawful_7 rfl rfl ?_
  refine z_iconst (v := 1) b dX12_lawful_8 (by decide) ?_
  refine z_iconst (v := 3) b dX12_lawful_9 (by decide) ?_
  refine z_calli b (z_runS (As := [.int p0, .int 1, .int 3]) (st := []) b (c_X12_isIn_49 S p0 ⟨by omega, by omega⟩) cf_X12_isIn wm_X12_1 ws_X12_isIn dX12_lawful_10 rfl (Nat.le_of_ble_eq_true rfl) ⟨by decide, by decide, by decide, by decide⟩) (fun r4405 u4406 h4404 => ?_)
  obtain ⟨rfl, rfl⟩ := h4404
  refine z_if_eq_t (tgt := 36) b dX12_lawful_13 (by decide) (by decide) ?_
  refine z_iconst (v := (-1)) b dX12_lawful_36 (by decide) ?_
  exact z_iret (u := S) b rfl dX12_lawful_37 ⟨rfl, rfl⟩ rfl (by decide) (by decide)

set_option maxHeartbeats 4000000 in
set_option maxRecDepth 100000 in
theorem c_X11_lawful_10 {l : Launch} {D : va_G} {cy : Nat → ClassId} {T0 tB tE : Nat} {a : Nat → Nat} {rw : Nat → Option Nat} (S : GS) (p0 : Int32) (p1 : Int32) (p2 : Int32)  (hr_p0 : 4 ≤ p0.toInt ∧ p0.toInt ≤ 2147483647) : Ct l D cy T0 tB tE yX11_lawful cX11_lawful 6 (some .int) 1 20 0 0 (cw cy tE a rw S) [.ref (a 0), .int 3, .int p0, .int p1, .int p2] (QI D (U := GS) (fun r u => (-1) = r ∧ S = u) (cw cy tE a rw)) := by
  refine Ct.ofZ RX11 "lawful" [(0, .ref (a 0)), (1, .int 3), (2, .int p0), (3, .int p1), (4, .int p2)] rfl rfl rfl rfl (Nat.le_of_ble_eq_true rfl) ?_
  intro p e R s m args below meth c A b
  refine z_iload_n b dX11_lawful_0 rfl rfl ?_
  refine z_calli b (z_runS (As := [.int 3]) (st := []) b (c_X11_isRow_6 S ) cf_X11_isRow wm_X11_169 ws_X11_isRow dX11_lawful_1 rfl (Nat.le_of_ble_eq_true rfl) ⟨by decide, by decide, by decide, by decide⟩) (fun r4408 u4409 h4407 => ?_)
  obtain ⟨rfl, rfl⟩ := h4407
  refine z_if_eq_f (tgt := 32) b dX11_lawful_4 (by decide) (by decide) ?_
  refine z_iload_n b dX11_lawful_7 rfl rfl ?_
  refine z_calli b (z_runS (As := [.int p0]) (st := []) b (c_X11_areLaws_2 S p0 ⟨by omega, by omega⟩) cf_X11_areLaws wm_X11_181 ws_X11_areLaws dX11_lawful_8 rfl (Nat.le_of_ble_eq_true rfl) ⟨by decide, by decide, by decide, by decide⟩) (fun r4411 u4412 h4410 => ?_)
  obtain ⟨rfl, rfl⟩ := h4410
  refine z_if_eq_t (tgt := 32) b dX11_lawful_11 (by decide) (by decide) ?_
  refine z_iconst (v := (-1)) b dX11_lawful_32 (by decide) ?_
  exact z_iret (u := S) b rfl dX11_lawful_33 ⟨rfl, rfl⟩ rfl (by decide) (by decide)

set_option maxHeartbeats 4000000 in
set_option maxRecDepth 100000 in
theorem c_X12_lawful_10 {l : Launch} {D : va_G} {cy : Nat → ClassId} {T0 tB tE : Nat} {a : Nat → Nat} (S : GS) (p0 : Int32) (p1 : Int32) (p2 : Int32)  (hr_p0 : 4 ≤ p0.toInt ∧ p0.toInt ≤ 2147483647) : Ct l D cy T0 tB tE yX12_lawful cX12_lawful 6 (some .int) 2 42 0 0 (mw cy a S) [.ref (a 0), .int 3, .int p0, .int p1, .int p2] (QI D (U := GS) (fun r u => (-1) = r ∧ S = u) (mw cy a)) := by
  refine Ct.ofZ RX12 "lawful" [(0, .ref (a 0)), (1, .int 3), (2, .int p0), (3, .int p1), (4, .int p2)] rfl rfl rfl rfl (Nat.le_of_ble_eq_true rfl) ?_
  intro p e R s m args below meth c A b
  refine z_iload_n b dX12_lawful_0 rfl rfl ?_
  refine z_calli b (z_runS (As := [.int 3]) (st := []) b (c_X12_isRow_6 S ) cf_X12_isRow wm_X12_452 ws_X12_isRow dX12_lawful_1 rfl (Nat.le_of_ble_eq_true rfl) ⟨by decide, by decide, by decide, by decide⟩) (fun r4414 u4415 h4413 => ?_)
  obtain ⟨rfl, rfl⟩ := h4413
  refine z_if_eq_f (tgt := 36) b dX12_lawful_4 (by decide) (by decide) ?_
  refine z_iload_n b dX12_lawful_7 rfl rfl ?_
  refine z_iconst (v := 1) b dX12_lawful_8 (by decide) ?_
  refine z_iconst (v := 3) b dX12_lawful_9 (by decide) ?_
  refine z_calli b (z_runS (As := [.int p0, .int 1, .int 3]) (st := []) b (c_X12_isIn_50 S p0 ⟨by omega, by omega⟩) cf_X12_isIn wm_X12_1 ws_X12_isIn dX12_lawful_10 rfl (Nat.le_of_ble_eq_true rfl) ⟨by decide, by decide, by decide, by decide⟩) (fun r4417 u4418 h4416 => ?_)
  obtain ⟨rfl, rfl⟩ := h4416
  refine z_if_eq_t (tgt := 36) b dX12_lawful_13 (by decide) (by decide) ?_
  refine z_iconst (v := (-1)) b dX12_lawful_36 (by decide) ?_
  exact z_iret (u := S) b rfl dX12_lawful_37 ⟨rfl, rfl⟩ rfl (by decide) (by decide)

set_option maxHeartbeats 4000000 in
set_option maxRecDepth 100000 in
theorem c_X11_lawful_11 {l : Launch} {D : va_G} {cy : Nat → ClassId} {T0 tB tE : Nat} {a : Nat → Nat} {rw : Nat → Option Nat} (S : GS) (p0 : Int32) (p1 : Int32) (p2 : Int32)  (hr_p0 : (-2147483648) ≤ p0.toInt ∧ p0.toInt ≤ 0) : Ct l D cy T0 tB tE yX11_lawful cX11_lawful 6 (some .int) 1 20 0 0 (cw cy tE a rw S) [.ref (a 0), .int 4, .int p0, .int p1, .int p2] (QI D (U := GS) (fun r u => (-1) = r ∧ S = u) (cw cy tE a rw)) := by
  refine Ct.ofZ RX11 "lawful" [(0, .ref (a 0)), (1, .int 4), (2, .int p0), (3, .int p1), (4, .int p2)] rfl rfl rfl rfl (Nat.le_of_ble_eq_true rfl) ?_
  intro p e R s m args below meth c A b
  refine z_iload_n b dX11_lawful_0 rfl rfl ?_
  refine z_calli b (z_runS (As := [.int 4]) (st := []) b (c_X11_isRow_7 S ) cf_X11_isRow wm_X11_169 ws_X11_isRow dX11_lawful_1 rfl (Nat.le_of_ble_eq_true rfl) ⟨by decide, by decide, by decide, by decide⟩) (fun r4420 u4421 h4419 => ?_)
  obtain ⟨rfl, rfl⟩ := h4419
  refine z_if_eq_f (tgt := 32) b dX11_lawful_4 (by decide) (by decide) ?_
  refine z_iload_n b dX11_lawful_7 rfl rfl ?_
  refine z_calli b (z_runS (As := [.int p0]) (st := []) b (c_X11_areLaws S p0 ⟨by omega, by omega⟩) cf_X11_areLaws wm_X11_181 ws_X11_areLaws dX11_lawful_8 rfl (Nat.le_of_ble_eq_true rfl) ⟨by decide, by decide, by decide, by decide⟩) (fun r4423 u4424 h4422 => ?_)
  obtain ⟨rfl, rfl⟩ := h4422
  refine z_if_eq_t (tgt := 32) b dX11_lawful_11 (by decide) (by decide) ?_
  refine z_iconst (v := (-1)) b dX11_lawful_32 (by decide) ?_
  exact z_iret (u := S) b rfl dX11_lawful_33 ⟨rfl, rfl⟩ rfl (by decide) (by decide)

set_option maxHeartbeats 4000000 in
set_option maxRecDepth 100000 in
theorem c_X12_lawful_11 {l : Launch} {D : va_G} {cy : Nat → ClassId} {T0 tB tE : Nat} {a : Nat → Nat} (S : GS) (p0 : Int32) (p1 : Int32) (p2 : Int32)  (hr_p0 : (-2147483648) ≤ p0.toInt ∧ p0.toInt ≤ 0) : Ct l D cy T0 tB tE yX12_lawful cX12_lawful 6 (some .int) 2 42 0 0 (mw cy a S) [.ref (a 0), .int 4, .int p0, .int p1, .int p2] (QI D (U := GS) (fun r u => (-1) = r ∧ S = u) (mw cy a)) := by
  refine Ct.ofZ RX12 "lawful" [(0, .ref (a 0)), (1, .int 4), (2, .int p0), (3, .int p1), (4, .int p2)] rfl rfl rfl rfl (Nat.le_of_ble_eq_true rfl) ?_
  intro p e R s m args below meth c A b
  refine z_iload_n b dX12_lawful_0 rfl rfl ?_
  refine z_calli b (z_runS (As := [.int 4]) (st := []) b (c_X12_isRow_7 S ) cf_X12_isRow wm_X12_452 ws_X12_isRow dX12_lawful_1 rfl (Nat.le_of_ble_eq_true rfl) ⟨by decide, by decide, by decide, by decide⟩) (fun r4426 u4427 h4425 => ?_)
  obtain ⟨rfl, rfl⟩ := h4425
  refine z_if_eq_f (tgt := 36) b dX12_lawful_4 (by decide) (by decide) ?_
  refine z_iload_n b dX12_lawful_7 rfl rfl ?_
  refine z_iconst (v := 1) b dX12_lawful_8 (by decide) ?_
  refine z_iconst (v := 3) b dX12_lawful_9 (by decide) ?_
  refine z_calli b (z_runS (As := [.int p0, .int 1, .int 3]) (st := []) b (c_X12_isIn_49 S p0 ⟨by omega, by omega⟩) cf_X12_isIn wm_X12_1 ws_X12_isIn dX12_lawful_10 rfl (Nat.le_of_ble_eq_true rfl) ⟨by decide, by decide, by decide, by decide⟩) (fun r4429 u4430 h4428 => ?_)
  obtain ⟨rfl, rfl⟩ := h4428
  refine z_if_eq_t (tgt := 36) b dX12_lawful_13 (by decide) (by decide) ?_
  refine z_iconst (v := (-1)) b dX12_lawful_36 (by decide) ?_
  exact z_iret (u := S) b rfl dX12_lawful_37 ⟨rfl, rfl⟩ rfl (by decide) (by decide)

set_option maxHeartbeats 4000000 in
set_option maxRecDepth 100000 in
theorem c_X11_lawful_12 {l : Launch} {D : va_G} {cy : Nat → ClassId} {T0 tB tE : Nat} {a : Nat → Nat} {rw : Nat → Option Nat} (S : GS) (p0 : Int32) (p1 : Int32) (p2 : Int32)  (hr_p0 : 4 ≤ p0.toInt ∧ p0.toInt ≤ 2147483647) : Ct l D cy T0 tB tE yX11_lawful cX11_lawful 6 (some .int) 1 20 0 0 (cw cy tE a rw S) [.ref (a 0), .int 4, .int p0, .int p1, .int p2] (QI D (U := GS) (fun r u => (-1) = r ∧ S = u) (cw cy tE a rw)) := by
  refine Ct.ofZ RX11 "lawful" [(0, .ref (a 0)), (1, .int 4), (2, .int p0), (3, .int p1), (4, .int p2)] rfl rfl rfl rfl (Nat.le_of_ble_eq_true rfl) ?_
  intro p e R s m args below meth c A b
  refine z_iload_n b dX11_lawful_0 rfl rfl ?_
  refine z_calli b (z_runS (As := [.int 4]) (st := []) b (c_X11_isRow_7 S ) cf_X11_isRow wm_X11_169 ws_X11_isRow dX11_lawful_1 rfl (Nat.le_of_ble_eq_true rfl) ⟨by decide, by decide, by decide, by decide⟩) (fun r4432 u4433 h4431 => ?_)
  obtain ⟨rfl, rfl⟩ := h4431
  refine z_if_eq_f (tgt := 32) b dX11_lawful_4 (by decide) (by decide) ?_
  refine z_iload_n b dX11_lawful_7 rfl rfl ?_
  refine z_calli b (z_runS (As := [.int p0]) (st := []) b (c_X11_areLaws_2 S p0 ⟨by omega, by omega⟩) cf_X11_areLaws wm_X11_181 ws_X11_areLaws dX11_lawful_8 rfl (Nat.le_of_ble_eq_true rfl) ⟨by decide, by decide, by decide, by decide⟩) (fun r4435 u4436 h4434 => ?_)
  obtain ⟨rfl, rfl⟩ := h4434
  refine z_if_eq_t (tgt := 32) b dX11_lawful_11 (by decide) (by decide) ?_
  refine z_iconst (v := (-1)) b dX11_lawful_32 (by decide) ?_
  exact z_iret (u := S) b rfl dX11_lawful_33 ⟨rfl, rfl⟩ rfl (by decide) (by decide)

set_option maxHeartbeats 4000000 in
set_option maxRecDepth 100000 in
theorem c_X12_lawful_12 {l : Launch} {D : va_G} {cy : Nat → ClassId} {T0 tB tE : Nat} {a : Nat → Nat} (S : GS) (p0 : Int32) (p1 : Int32) (p2 : Int32)  (hr_p0 : 4 ≤ p0.toInt ∧ p0.toInt ≤ 2147483647) : Ct l D cy T0 tB tE yX12_lawful cX12_lawful 6 (some .int) 2 42 0 0 (mw cy a S) [.ref (a 0), .int 4, .int p0, .int p1, .int p2] (QI D (U := GS) (fun r u => (-1) = r ∧ S = u) (mw cy a)) := by
  refine Ct.ofZ RX12 "lawful" [(0, .ref (a 0)), (1, .int 4), (2, .int p0), (3, .int p1), (4, .int p2)] rfl rfl rfl rfl (Nat.le_of_ble_eq_true rfl) ?_
  intro p e R s m args below meth c A b
  refine z_iload_n b dX12_lawful_0 rfl rfl ?_
  refine z_calli b (z_runS (As := [.int 4]) (st := []) b (c_X12_isRow_7 S ) cf_X12_isRow wm_X12_452 ws_X12_isRow dX12_lawful_1 rfl (Nat.le_of_ble_eq_true rfl) ⟨by decide, by decide, by decide, by decide⟩) (fun r4438 u4439 h4437 => ?_)
  obtain ⟨rfl, rfl⟩ := h4437
  refine z_if_eq_f (tgt := 36) b dX12_lawful_4 (by decide) (by decide) ?_
  refine z_iload_n b dX12_lawful_7 rfl rfl ?_
  refine z_iconst (v := 1) b dX12_lawful_8 (by decide) ?_
  refine z_iconst (v := 3) b dX12_lawful_9 (by decide) ?_
  refine z_calli b (z_runS (As := [.int p0, .int 1, .int 3]) (st := []) b (c_X12_isIn_50 S p0 ⟨by omega, by omega⟩) cf_X12_isIn wm_X12_1 ws_X12_isIn dX12_lawful_10 rfl (Nat.le_of_ble_eq_true rfl) ⟨by decide, by decide, by decide, by decide⟩) (fun r4441 u4442 h4440 => ?_)
  obtain ⟨rfl, rfl⟩ := h4440
  refine z_if_eq_t (tgt := 36) b dX12_lawful_13 (by decide) (by decide) ?_
  refine z_iconst (v := (-1)) b dX12_lawful_36 (by decide) ?_
  exact z_iret (u := S) b rfl dX12_lawful_37 ⟨rfl, rfl⟩ rfl (by decide) (by decide)

set_option maxHeartbeats 4000000 in
set_option maxRecDepth 100000 in
theorem c_X11_lawful_13 {l : Launch} {D : va_G} {cy : Nat → ClassId} {T0 tB tE : Nat} {a : Nat → Nat} {rw : Nat → Option Nat} (S : GS) (p0 : Int32) (p1 : Int32) (p2 : Int32)  (hr_p0 : (-2147483648) ≤ p0.toInt ∧ p0.toInt ≤ 0) : Ct l D cy T0 tB tE yX11_lawful cX11_lawful 6 (some .int) 1 20 0 0 (cw cy tE a rw S) [.ref (a 0), .int 5, .int p0, .int p1, .int p2] (QI D (U := GS) (fun r u => (-1) = r ∧ S = u) (cw cy tE a rw)) := by
  refine Ct.ofZ RX11 "lawful" [(0, .ref (a 0)), (1, .int 5), (2, .int p0), (3, .int p1), (4, .int p2)] rfl rfl rfl rfl (Nat.le_of_ble_eq_true rfl) ?_
  intro p e R s m args below meth c A b
  refine z_iload_n b dX11_lawful_0 rfl rfl ?_
  refine z_calli b (z_runS (As := [.int 5]) (st := []) b (c_X11_isRow_8 S ) cf_X11_isRow wm_X11_169 ws_X11_isRow dX11_lawful_1 rfl (Nat.le_of_ble_eq_true rfl) ⟨by decide, by decide, by decide, by decide⟩) (fun r4444 u4445 h4443 => ?_)
  obtain ⟨rfl, rfl⟩ := h4443
  refine z_if_eq_f (tgt := 32) b dX11_lawful_4 (by decide) (by decide) ?_
  refine z_iload_n b dX11_lawful_7 rfl rfl ?_
  refine z_calli b (z_runS (As := [.int p0]) (st := []) b (c_X11_areLaws S p0 ⟨by omega, by omega⟩) cf_X11_areLaws wm_X11_181 ws_X11_areLaws dX11_lawful_8 rfl (Nat.le_of_ble_eq_true rfl) ⟨by decide, by decide, by decide, by decide⟩) (fun r4447 u4448 h4446 => ?_)
  obtain ⟨rfl, rfl⟩ := h4446
  refine z_if_eq_t (tgt := 32) b dX11_lawful_11 (by decide) (by decide) ?_
  refine z_iconst (v := (-1)) b dX11_lawful_32 (by decide) ?_
  exact z_iret (u := S) b rfl dX11_lawful_33 ⟨rfl, rfl⟩ rfl (by decide) (by decide)

set_option maxHeartbeats 4000000 in
set_option maxRecDepth 100000 in
theorem c_X12_lawful_13 {l : Launch} {D : va_G} {cy : Nat → ClassId} {T0 tB tE : Nat} {a : Nat → Nat} (S : GS) (p0 : Int32) (p1 : Int32) (p2 : Int32)  (hr_p0 : (-2147483648) ≤ p0.toInt ∧ p0.toInt ≤ 0) : Ct l D cy T0 tB tE yX12_lawful cX12_lawful 6 (some .int) 2 42 0 0 (mw cy a S) [.ref (a 0), .int 5, .int p0, .int p1, .int p2] (QI D (U := GS) (fun r u => (-1) = r ∧ S = u) (mw cy a)) := by
  refine Ct.ofZ RX12 "lawful" [(0, .ref (a 0)), (1, .int 5), (2, .int p0), (3, .int p1), (4, .int p2)] rfl rfl rfl rfl (Nat.le_of_ble_eq_true rfl) ?_
  intro p e R s m args below meth c A b
  refine z_iload_n b dX12_lawful_0 rfl rfl ?_
  refine z_calli b (z_runS (As := [.int 5]) (st := []) b (c_X12_isRow_8 S ) cf_X12_isRow wm_X12_452 ws_X12_isRow dX12_lawful_1 rfl (Nat.le_of_ble_eq_true rfl) ⟨by decide, by decide, by decide, by decide⟩) (fun r4450 u4451 h4449 => ?_)
  obtain ⟨rfl, rfl⟩ := h4449
  refine z_if_eq_f (tgt := 36) b dX12_lawful_4 (by decide) (by decide) ?_
  refine z_iload_n b dX12_lawful_7 rfl rfl ?_
  refine z_iconst (v := 1) b dX12_lawful_8 (by decide) ?_
  refine z_iconst (v := 3) b dX12_lawful_9 (by decide) ?_
  refine z_calli b (z_runS (As := [.int p0, .int 1, .int 3]) (st := []) b (c_X12_isIn_49 S p0 ⟨by omega, by omega⟩) cf_X12_isIn wm_X12_1 ws_X12_isIn dX12_lawful_10 rfl (Nat.le_of_ble_eq_true rfl) ⟨by decide, by decide, by decide, by decide⟩) (fun r4453 u4454 h4452 => ?_)
  obtain ⟨rfl, rfl⟩ := h4452
  refine z_if_eq_t (tgt := 36) b dX12_lawful_13 (by decide) (by decide) ?_
  refine z_iconst (v := (-1)) b dX12_lawful_36 (by decide) ?_
  exact z_iret (u := S) b rfl dX12_lawful_37 ⟨rfl, rfl⟩ rfl (by decide) (by decide)

set_option maxHeartbeats 4000000 in
set_option maxRecDepth 100000 in
theorem c_X11_lawful_14 {l : Launch} {D : va_G} {cy : Nat → ClassId} {T0 tB tE : Nat} {a : Nat → Nat} {rw : Nat → Option Nat} (S : GS) (p0 : Int32) (p1 : Int32) (p2 : Int32)  (hr_p0 : 4 ≤ p0.toInt ∧ p0.toInt ≤ 2147483647) : Ct l D cy T0 tB tE yX11_lawful cX11_lawful 6 (some .int) 1 20 0 0 (cw cy tE a rw S) [.ref (a 0), .int 5, .int p0, .int p1, .int p2] (QI D (U := GS) (fun r u => (-1) = r ∧ S = u) (cw cy tE a rw)) := by
  refine Ct.ofZ RX11 "lawful" [(0, .ref (a 0)), (1, .int 5), (2, .int p0), (3, .int p1), (4, .int p2)] rfl rfl rfl rfl (Nat.le_of_ble_eq_true rfl) ?_
  intro p e R s m args below meth c A b
  refine z_iload_n b dX11_lawful_0 rfl rfl ?_
  refine z_calli b (z_runS (As := [.int 5]) (st := []) b (c_X11_isRow_8 S ) cf_X11_isRow wm_X11_169 ws_X11_isRow dX11_lawful_1 rfl (Nat.le_of_ble_eq_true rfl) ⟨by decide, by decide, by decide, by decide⟩) (fun r4456 u4457 h4455 => ?_)
  obtain ⟨rfl, rfl⟩ := h4455
  refine z_if_eq_f (tgt := 32) b dX11_lawful_4 (by decide) (by decide) ?_
  refine z_iload_n b dX11_lawful_7 rfl rfl ?_
  refine z_calli b (z_runS (As := [.int p0]) (st := []) b (c_X11_areLaws_2 S p0 ⟨by omega, by omega⟩) cf_X11_areLaws wm_X11_181 ws_X11_areLaws dX11_lawful_8 rfl (Nat.le_of_ble_eq_true rfl) ⟨by decide, by decide, by decide, by decide⟩) (fun r4459 u4460 h4458 => ?_)
  obtain ⟨rfl, rfl⟩ := h4458
  refine z_if_eq_t (tgt := 32) b dX11_lawful_11 (by decide) (by decide) ?_
  refine z_iconst (v := (-1)) b dX11_lawful_32 (by decide) ?_
  exact z_iret (u := S) b rfl dX11_lawful_33 ⟨rfl, rfl⟩ rfl (by decide) (by decide)

set_option maxHeartbeats 4000000 in
set_option maxRecDepth 100000 in
theorem c_X12_lawful_14 {l : Launch} {D : va_G} {cy : Nat → ClassId} {T0 tB tE : Nat} {a : Nat → Nat} (S : GS) (p0 : Int32) (p1 : Int32) (p2 : Int32)  (hr_p0 : 4 ≤ p0.toInt ∧ p0.toInt ≤ 2147483647) : Ct l D cy T0 tB tE yX12_lawful cX12_lawful 6 (some .int) 2 42 0 0 (mw cy a S) [.ref (a 0), .int 5, .int p0, .int p1, .int p2] (QI D (U := GS) (fun r u => (-1) = r ∧ S = u) (mw cy a)) := by
  refine Ct.ofZ RX12 "lawful" [(0, .ref (a 0)), (1, .int 5), (2, .int p0), (3, .int p1), (4, .int p2)] rfl rfl rfl rfl (Nat.le_of_ble_eq_true rfl) ?_
  intro p e R s m args below meth c A b
  refine z_iload_n b dX12_lawful_0 rfl rfl ?_
  refine z_calli b (z_runS (As := [.int 5]) (st := []) b (c_X12_isRow_8 S ) cf_X12_isRow wm_X12_452 ws_X12_isRow dX12_lawful_1 rfl (Nat.le_of_ble_eq_true rfl) ⟨by decide, by decide, by decide, by decide⟩) (fun r4462 u4463 h4461 => ?_)
  obtain ⟨rfl, rfl⟩ := h4461
  refine z_if_eq_f (tgt := 36) b dX12_lawful_4 (by decide) (by decide) ?_
  refine z_iload_n b dX12_lawful_7 rfl rfl ?_
  refine z_iconst (v := 1) b dX12_lawful_8 (by decide) ?_
  refine z_iconst (v := 3) b dX12_lawful_9 (by decide) ?_
  refine z_calli b (z_runS (As := [.int p0, .int 1, .int 3]) (st := []) b (c_X12_isIn_50 S p0 ⟨by omega, by omega⟩) cf_X12_isIn wm_X12_1 ws_X12_isIn dX12_lawful_10 rfl (Nat.le_of_ble_eq_true rfl) ⟨by decide, by decide, by decide, by decide⟩) (fun r4465 u4466 h4464 => ?_)
  obtain ⟨rfl, rfl⟩ := h4464
  refine z_if_eq_t (tgt := 36) b dX12_lawful_13 (by decide) (by decide) ?_
  refine z_iconst (v := (-1)) b dX12_lawful_36 (by decide) ?_
  exact z_iret (u := S) b rfl dX12_lawful_37 ⟨rfl, rfl⟩ rfl (by decide) (by decide)

set_option maxHeartbeats 4000000 in
set_option maxRecDepth 100000 in
theorem c_X11_areLaws_3 {l : Launch} {D : va_G} {cy : Nat → ClassId} {T0 tB tE : Nat} {a : Nat → Nat} {rw : Nat → Option Nat} (S : GS) (p0 : Int32)  (hr_p0 : 1 ≤ p0.toInt ∧ p0.toInt ≤ 3) : Ct l D cy T0 tB tE yX11_areLaws cX11_areLaws 1 (some .boolean) 0 0 0 0 (cw cy tE a rw S) [.int p0] (QI D (U := GS) (fun r u => 1 = r ∧ S = u) (cw cy tE a rw)) := by
  refine Ct.ofZ RX11 "areLaws" [(0, .int p0)] rfl rfl rfl rfl (Nat.le_of_ble_eq_true rfl) ?_
  intro p e R s m args below meth c A b
  refine z_iload_n b dX11_areLaws_0 rfl rfl ?_
  refine z_iconst (v := 1) b dX11_areLaws_1 (by decide) ?_
  refine y_icmp_lt (tgt := 14) (xl := p0.toInt) (yl := 1) b rfl (by decide) dX11_areLaws_2 (by decide) (fun c4470 => ?_) (fun c4470 => ?_)
  · exfalso; omega
  · refine z_iload_n b dX11_areLaws_5 rfl rfl ?_
    refine z_iconst (v := 3) b dX11_areLaws_6 (by decide) ?_
    refine y_icmp_gt (tgt := 14) (xl := p0.toInt) (yl := 3) b rfl (by decide) dX11_areLaws_7 (by decide) (fun c4471 => ?_) (fun c4471 => ?_)
    · exfalso; omega
    · refine z_iconst (v := 1) b dX11_areLaws_10 (by decide) ?_
      refine z_goto (tgt := 15) b dX11_areLaws_11 (by decide) ?_
      exact z_zret (u := S) b rfl (by decide) dX11_areLaws_15 ⟨rfl, rfl⟩ rfl (by decide) (by decide)

set_option maxHeartbeats 4000000 in
set_option maxRecDepth 100000 in
theorem c_X11_isWithin_23 {l : Launch} {D : va_G} {cy : Nat → ClassId} {T0 tB tE : Nat} {a : Nat → Nat} {rw : Nat → Option Nat} (S : GS) (p0 : Int32)  (hr_p0 : (-2147483648) ≤ p0.toInt ∧ p0.toInt ≤ (-1)) : Ct l D cy T0 tB tE yX11_isWithin cX11_isWithin 2 (some .boolean) 0 0 0 0 (cw cy tE a rw S) [.int p0, .int 31] (QI D (U := GS) (fun r u => 0 = r ∧ S = u) (cw cy tE a rw)) := by
  refine Ct.ofZ RX11 "isWithin" [(0, .int p0), (1, .int 31)] rfl rfl rfl rfl (Nat.le_of_ble_eq_true rfl) ?_
  intro p e R s m args below meth c A b
  refine z_iload_n b dX11_isWithin_0 rfl rfl ?_
  refine y_if_lt (tgt := 13) (xl := p0.toInt) b rfl dX11_isWithin_1 (by decide) (fun c4475 => ?_) (fun c4475 => ?_)
  · refine z_iconst (v := 0) b dX11_isWithin_13 (by decide) ?_
    exact z_zret (u := S) b rfl (by decide) dX11_isWithin_14 ⟨rfl, rfl⟩ rfl (by decide) (by decide)
  · exfalso; omega

set_option maxHeartbeats 4000000 in
set_option maxRecDepth 100000 in
theorem c_X11_lawful_15 {l : Launch} {D : va_G} {cy : Nat → ClassId} {T0 tB tE : Nat} {a : Nat → Nat} {rw : Nat → Option Nat} (S : GS) (p0 : Int32) (p1 : Int32) (p2 : Int32)  (hr_p0 : 1 ≤ p0.toInt ∧ p0.toInt ≤ 3) (hr_p1 : (-2147483648) ≤ p1.toInt ∧ p1.toInt ≤ (-1)) : Ct l D cy T0 tB tE yX11_lawful cX11_lawful 6 (some .int) 1 21 0 0 (cw cy tE a rw S) [.ref (a 0), .int 0, .int p0, .int p1, .int p2] (QI D (U := GS) (fun r u => (-1) = r ∧ S = u) (cw cy tE a rw)) := by
  refine Ct.ofZ RX11 "lawful" [(0, .ref (a 0)), (1, .int 0), (2, .int p0), (3, .int p1), (4, .int p2)] rfl rfl rfl rfl (Nat.le_of_ble_eq_true rfl) ?_
  intro p e R s m args below meth c A b
  refine z_iload_n b dX11_lawful_0 rfl rfl ?_
  refine z_calli b (z_runS (As := [.int 0]) (st := []) b (c_X11_isRow_3 S ) cf_X11_isRow wm_X11_169 ws_X11_isRow dX11_lawful_1 rfl (Nat.le_of_ble_eq_true rfl) ⟨by decide, by decide, by decide, by decide⟩) (fun r4468 u4469 h4467 => ?_)
  obtain ⟨rfl, rfl⟩ := h4467
  refine z_if_eq_f (tgt := 32) b dX11_lawful_4 (by decide) (by decide) ?_
  refine z_iload_n b dX11_lawful_7 rfl rfl ?_
  refine z_calli b (z_runS (As := [.int p0]) (st := []) b (c_X11_areLaws_3 S p0 ⟨by omega, by omega⟩) cf_X11_areLaws wm_X11_181 ws_X11_areLaws dX11_lawful_8 rfl (Nat.le_of_ble_eq_true rfl) ⟨by decide, by decide, by decide, by decide⟩) (fun r4473 u4474 h4472 => ?_)
  obtain ⟨rfl, rfl⟩ := h4472
  refine z_if_eq_f (tgt := 32) b dX11_lawful_11 (by decide) (by decide) ?_
  refine z_iload_n b dX11_lawful_14 rfl rfl ?_
  refine z_bipush (v := 31) b dX11_lawful_15 (by decide) ?_
  refine z_calli b (z_runS (As := [.int p1, .int 31]) (st := []) b (c_X11_isWithin_23 S p1 ⟨by omega, by omega⟩) cf_X11_isWithin wm_X11_73 ws_X11_isWithin dX11_lawful_17 rfl (Nat.le_of_ble_eq_true rfl) ⟨by decide, by decide, by decide, by decide⟩) (fun r4477 u4478 h4476 => ?_)
  obtain ⟨rfl, rfl⟩ := h4476
  refine z_if_eq_t (tgt := 32) b dX11_lawful_20 (by decide) (by decide) ?_
  refine z_iconst (v := (-1)) b dX11_lawful_32 (by decide) ?_
  exact z_iret (u := S) b rfl dX11_lawful_33 ⟨rfl, rfl⟩ rfl (by decide) (by decide)

set_option maxHeartbeats 4000000 in
set_option maxRecDepth 100000 in
theorem c_X12_isIn_51 {l : Launch} {D : va_G} {cy : Nat → ClassId} {T0 tB tE : Nat} {a : Nat → Nat} (S : GS) (p0 : Int32)  (hr_p0 : 1 ≤ p0.toInt ∧ p0.toInt ≤ 3) : Ct l D cy T0 tB tE yX12_isIn cX12_isIn 3 (some .boolean) 0 0 0 0 (mw cy a S) [.int p0, .int 1, .int 3] (QI D (U := GS) (fun r u => 1 = r ∧ S = u) (mw cy a)) := by
  refine Ct.ofZ RX12 "isIn" [(0, .int p0), (1, .int 1), (2, .int 3)] rfl rfl rfl rfl (Nat.le_of_ble_eq_true rfl) ?_
  intro p e R s m args below meth c A b
  refine z_iload_n b dX12_isIn_0 rfl rfl ?_
  refine z_iload_n b dX12_isIn_1 rfl rfl ?_
  refine y_icmp_lt (tgt := 14) (xl := p0.toInt) (yl := 1) b rfl (by decide) dX12_isIn_2 (by decide) (fun c4482 => ?_) (fun c4482 => ?_)
  · exfalso; omega
  · refine z_iload_n b dX12_isIn_5 rfl rfl ?_
    refine z_iload_n b dX12_isIn_6 rfl rfl ?_
    refine y_icmp_gt (tgt := 14) (xl := p0.toInt) (yl := 3) b rfl (by decide) dX12_isIn_7 (by decide) (fun c4483 => ?_) (fun c4483 => ?_)
    · exfalso; omega
    · refine z_iconst (v := 1) b dX12_isIn_10 (by decide) ?_
      refine z_goto (tgt := 15) b dX12_isIn_11 (by decide) ?_
      exact z_zret (u := S) b rfl (by decide) dX12_isIn_15 ⟨rfl, rfl⟩ rfl (by decide) (by decide)

set_option maxHeartbeats 4000000 in
set_option maxRecDepth 100000 in
theorem c_X12_isIn_52 {l : Launch} {D : va_G} {cy : Nat → ClassId} {T0 tB tE : Nat} {a : Nat → Nat} (S : GS) (p0 : Int32)  (hr_p0 : (-2147483648) ≤ p0.toInt ∧ p0.toInt ≤ (-1)) : Ct l D cy T0 tB tE yX12_isIn cX12_isIn 3 (some .boolean) 0 0 0 0 (mw cy a S) [.int p0, .int 0, .int 31] (QI D (U := GS) (fun r u => 0 = r ∧ S = u) (mw cy a)) := by
  refine Ct.ofZ RX12 "isIn" [(0, .int p0), (1, .int 0), (2, .int 31)] rfl rfl rfl rfl (Nat.le_of_ble_eq_true rfl) ?_
  intro p e R s m args below meth c A b
  refine z_iload_n b dX12_isIn_0 rfl rfl ?_
  refine z_iload_n b dX12_isIn_1 rfl rfl ?_
  refine y_icmp_lt (tgt := 14) (xl := p0.toInt) (yl := 0) b rfl (by decide) dX12_isIn_2 (by decide) (fun c4487 => ?_) (fun c4487 => ?_)
  · refine z_iconst (v := 0) b dX12_isIn_14 (by decide) ?_
    exact z_zret (u := S) b rfl (by decide) dX12_isIn_15 ⟨rfl, rfl⟩ rfl (by decide) (by decide)
  · exfalso; omega

set_option maxHeartbeats 4000000 in
set_option maxRecDepth 100000 in
theorem c_X12_lawful_15 {l : Launch} {D : va_G} {cy : Nat → ClassId} {T0 tB tE : Nat} {a : Nat → Nat} (S : GS) (p0 : Int32) (p1 : Int32) (p2 : Int32)  (hr_p0 : 1 ≤ p0.toInt ∧ p0.toInt ≤ 3) (hr_p1 : (-2147483648) ≤ p1.toInt ∧ p1.toInt ≤ (-1)) : Ct l D cy T0 tB tE yX12_lawful cX12_lawful 6 (some .int) 2 42 0 0 (mw cy a S) [.ref (a 0), .int 0, .int p0, .int p1, .int p2] (QI D (U := GS) (fun r u => (-1) = r ∧ S = u) (mw cy a)) := by
  refine Ct.ofZ RX12 "lawful" [(0, .ref (a 0)), (1, .int 0), (2, .int p0), (3, .int p1), (4, .int p2)] rfl rfl rfl rfl (Nat.le_of_ble_eq_true rfl) ?_
  intro p e R s m args below meth c A b
  refine z_iload_n b dX12_lawful_0 rfl rfl ?_
  refine z_calli b (z_runS (As := [.int 0]) (st := []) b (c_X12_isRow_3 S ) cf_X12_isRow wm_X12_452 ws_X12_isRow dX12_lawful_1 rfl (Nat.le_of_ble_eq_true rfl) ⟨by decide, by decide, by decide, by decide⟩) (fun r4480 u4481 h4479 => ?_)
  obtain ⟨rfl, rfl⟩ := h4479
  refine z_if_eq_f (tgt := 36) b dX12_lawful_4 (by decide) (by decide) ?_
  refine z_iload_n b dX12_lawful_7 rfl rfl ?_
  refine z_iconst (v := 1) b dX12_lawful_8 (by decide) ?_
  refine z_iconst (v := 3) b dX12_lawful_9 (by decide) ?_
  refine z_calli b (z_runS (As := [.int p0, .int 1, .int 3]) (st := []) b (c_X12_isIn_51 S p0 ⟨by omega, by omega⟩) cf_X12_isIn wm_X12_1 ws_X12_isIn dX12_lawful_10 rfl (Nat.le_of_ble_eq_true rfl) ⟨by decide, by decide, by decide, by decide⟩) (fun r4485 u4486 h4484 => ?_)
  obtain ⟨rfl, rfl⟩ := h4484
  refine z_if_eq_f (tgt := 36) b dX12_lawful_13 (by decide) (by decide) ?_
  refine z_iload_n b dX12_lawful_16 rfl rfl ?_
  refine z_iconst (v := 0) b dX12_lawful_17 (by decide) ?_
  refine z_bipush (v := 31) b dX12_lawful_18 (by decide) ?_
  refine z_calli b (z_runS (As := [.int p1, .int 0, .int 31]) (st := []) b (c_X12_isIn_52 S p1 ⟨by omega, by omega⟩) cf_X12_isIn wm_X12_1 ws_X12_isIn dX12_lawful_20 rfl (Nat.le_of_ble_eq_true rfl) ⟨by decide, by decide, by decide, by decide⟩) (fun r4489 u4490 h4488 => ?_)
  obtain ⟨rfl, rfl⟩ := h4488
  refine z_if_eq_t (tgt := 36) b dX12_lawful_23 (by decide) (by decide) ?_
  refine z_iconst (v := (-1)) b dX12_lawful_36 (by decide) ?_
  exact z_iret (u := S) b rfl dX12_lawful_37 ⟨rfl, rfl⟩ rfl (by decide) (by decide)

set_option maxHeartbeats 4000000 in
set_option maxRecDepth 100000 in
theorem c_X11_isWithin_24 {l : Launch} {D : va_G} {cy : Nat → ClassId} {T0 tB tE : Nat} {a : Nat → Nat} {rw : Nat → Option Nat} (S : GS) (p0 : Int32)  (hr_p0 : 32 ≤ p0.toInt ∧ p0.toInt ≤ 2147483647) : Ct l D cy T0 tB tE yX11_isWithin cX11_isWithin 2 (some .boolean) 0 0 0 0 (cw cy tE a rw S) [.int p0, .int 31] (QI D (U := GS) (fun r u => 0 = r ∧ S = u) (cw cy tE a rw)) := by
  refine Ct.ofZ RX11 "isWithin" [(0, .int p0), (1, .int 31)] rfl rfl rfl rfl (Nat.le_of_ble_eq_true rfl) ?_
  intro p e R s m args below meth c A b
  refine z_iload_n b dX11_isWithin_0 rfl rfl ?_
  refine y_if_lt (tgt := 13) (xl := p0.toInt) b rfl dX11_isWithin_1 (by decide) (fun c4497 => ?_) (fun c4497 => ?_)
  · exfalso; omega
  · refine z_iload_n b dX11_isWithin_4 rfl rfl ?_
    refine z_iload_n b dX11_isWithin_5 rfl rfl ?_
    refine y_icmp_gt (tgt := 13) (xl := p0.toInt) (yl := 31) b rfl (by decide) dX11_isWithin_6 (by decide) (fun c4498 => ?_) (fun c4498 => ?_)
    · refine z_iconst (v := 0) b dX11_isWithin_13 (by decide) ?_
      exact z_zret (u := S) b rfl (by decide) dX11_isWithin_14 ⟨rfl, rfl⟩ rfl (by decide) (by decide)
    · exfalso; omega

set_option maxHeartbeats 4000000 in
set_option maxRecDepth 100000 in
theorem c_X11_lawful_16 {l : Launch} {D : va_G} {cy : Nat → ClassId} {T0 tB tE : Nat} {a : Nat → Nat} {rw : Nat → Option Nat} (S : GS) (p0 : Int32) (p1 : Int32) (p2 : Int32)  (hr_p0 : 1 ≤ p0.toInt ∧ p0.toInt ≤ 3) (hr_p1 : 32 ≤ p1.toInt ∧ p1.toInt ≤ 2147483647) : Ct l D cy T0 tB tE yX11_lawful cX11_lawful 6 (some .int) 1 21 0 0 (cw cy tE a rw S) [.ref (a 0), .int 0, .int p0, .int p1, .int p2] (QI D (U := GS) (fun r u => (-1) = r ∧ S = u) (cw cy tE a rw)) := by
  refine Ct.ofZ RX11 "lawful" [(0, .ref (a 0)), (1, .int 0), (2, .int p0), (3, .int p1), (4, .int p2)] rfl rfl rfl rfl (Nat.le_of_ble_eq_true rfl) ?_
  intro p e R s m args below meth c A b
  refine z_iload_n b dX11_lawful_0 rfl rfl ?_
  refine z_calli b (z_runS (As := [.int 0]) (st := []) b (c_X11_isRow_3 S ) cf_X11_isRow wm_X11_169 ws_X11_isRow dX11_lawful_1 rfl (Nat.le_of_ble_eq_true rfl) ⟨by decide, by decide, by decide, by decide⟩) (fun r4492 u4493 h4491 => ?_)
  obtain ⟨rfl, rfl⟩ := h4491
  refine z_if_eq_f (tgt := 32) b dX11_lawful_4 (by decide) (by decide) ?_
  refine z_iload_n b dX11_lawful_7 rfl rfl ?_
  refine z_calli b (z_runS (As := [.int p0]) (st := []) b (c_X11_areLaws_3 S p0 ⟨by omega, by omega⟩) cf_X11_areLaws wm_X11_181 ws_X11_areLaws dX11_lawful_8 rfl (Nat.le_of_ble_eq_true rfl) ⟨by decide, by decide, by decide, by decide⟩) (fun r4495 u4496 h4494 => ?_)
  obtain ⟨rfl, rfl⟩ := h4494
  refine z_if_eq_f (tgt := 32) b dX11_lawful_11 (by decide) (by decide) ?_
  refine z_iload_n b dX11_lawful_14 rfl rfl ?_
  refine z_bipush (v := 31) b dX11_lawful_15 (by decide) ?_
  refine z_calli b (z_runS (As := [.int p1, .int 31]) (st := []) b (c_X11_isWithin_24 S p1 ⟨by omega, by omega⟩) cf_X11_isWithin wm_X11_73 ws_X11_isWithin dX11_lawful_17 rfl (Nat.le_of_ble_eq_true rfl) ⟨by decide, by decide, by decide, by decide⟩) (fun r4500 u4501 h4499 => ?_)
  obtain ⟨rfl, rfl⟩ := h4499
  refine z_if_eq_t (tgt := 32) b dX11_lawful_20 (by decide) (by decide) ?_
  refine z_iconst (v := (-1)) b dX11_lawful_32 (by decide) ?_
  exact z_iret (u := S) b rfl dX11_lawful_33 ⟨rfl, rfl⟩ rfl (by decide) (by decide)

set_option maxHeartbeats 4000000 in
set_option maxRecDepth 100000 in
theorem c_X12_isIn_53 {l : Launch} {D : va_G} {cy : Nat → ClassId} {T0 tB tE : Nat} {a : Nat → Nat} (S : GS) (p0 : Int32)  (hr_p0 : 32 ≤ p0.toInt ∧ p0.toInt ≤ 2147483647) : Ct l D cy T0 tB tE yX12_isIn cX12_isIn 3 (some .boolean) 0 0 0 0 (mw cy a S) [.int p0, .int 0, .int 31] (QI D (U := GS) (fun r u => 0 = r ∧ S = u) (mw cy a)) := by
  refine Ct.ofZ RX12 "isIn" [(0, .int p0), (1, .int 0), (2, .int 31)] rfl rfl rfl rfl (Nat.le_of_ble_eq_true rfl) ?_
  intro p e R s m args below meth c A b
  refine z_iload_n b dX12_isIn_0 rfl rfl ?_
  refine z_iload_n b dX12_isIn_1 rfl rfl ?_
  refine y_icmp_lt (tgt := 14) (xl := p0.toInt) (yl := 0) b rfl (by decide) dX12_isIn_2 (by decide) (fun c4508 => ?_) (fun c4508 => ?_)
  · exfalso; omega
  · refine z_iload_n b dX12_isIn_5 rfl rfl ?_
    refine z_iload_n b dX12_isIn_6 rfl rfl ?_
    refine y_icmp_gt (tgt := 14) (xl := p0.toInt) (yl := 31) b rfl (by decide) dX12_isIn_7 (by decide) (fun c4509 => ?_) (fun c4509 => ?_)
    · refine z_iconst (v := 0) b dX12_isIn_14 (by decide) ?_
      exact z_zret (u := S) b rfl (by decide) dX12_isIn_15 ⟨rfl, rfl⟩ rfl (by decide) (by decide)
    · exfalso; omega

set_option maxHeartbeats 4000000 in
set_option maxRecDepth 100000 in
theorem c_X12_lawful_16 {l : Launch} {D : va_G} {cy : Nat → ClassId} {T0 tB tE : Nat} {a : Nat → Nat} (S : GS) (p0 : Int32) (p1 : Int32) (p2 : Int32)  (hr_p0 : 1 ≤ p0.toInt ∧ p0.toInt ≤ 3) (hr_p1 : 32 ≤ p1.toInt ∧ p1.toInt ≤ 2147483647) : Ct l D cy T0 tB tE yX12_lawful cX12_lawful 6 (some .int) 2 42 0 0 (mw cy a S) [.ref (a 0), .int 0, .int p0, .int p1, .int p2] (QI D (U := GS) (fun r u => (-1) = r ∧ S = u) (mw cy a)) := by
  refine Ct.ofZ RX12 "lawful" [(0, .ref (a 0)), (1, .int 0), (2, .int p0), (3, .int p1), (4, .int p2)] rfl rfl rfl rfl (Nat.le_of_ble_eq_true rfl) ?_
  intro p e R s m args below meth c A b
  refine z_iload_n b dX12_lawful_0 rfl rfl ?_
  refine z_calli b (z_runS (As := [.int 0]) (st := []) b (c_X12_isRow_3 S ) cf_X12_isRow wm_X12_452 ws_X12_isRow dX12_lawful_1 rfl (Nat.le_of_ble_eq_true rfl) ⟨by decide, by decide, by decide, by decide⟩) (fun r4503 u4504 h4502 => ?_)
  obtain ⟨rfl, rfl⟩ := h4502
  refine z_if_eq_f (tgt := 36) b dX12_lawful_4 (by decide) (by decide) ?_
  refine z_iload_n b dX12_lawful_7 rfl rfl ?_
  refine z_iconst (v := 1) b dX12_lawful_8 (by decide) ?_
  refine z_iconst (v := 3) b dX12_lawful_9 (by decide) ?_
  refine z_calli b (z_runS (As := [.int p0, .int 1, .int 3]) (st := []) b (c_X12_isIn_51 S p0 ⟨by omega, by omega⟩) cf_X12_isIn wm_X12_1 ws_X12_isIn dX12_lawful_10 rfl (Nat.le_of_ble_eq_true rfl) ⟨by decide, by decide, by decide, by decide⟩) (fun r4506 u4507 h4505 => ?_)
  obtain ⟨rfl, rfl⟩ := h4505
  refine z_if_eq_f (tgt := 36) b dX12_lawful_13 (by decide) (by decide) ?_
  refine z_iload_n b dX12_lawful_16 rfl rfl ?_
  refine z_iconst (v := 0) b dX12_lawful_17 (by decide) ?_
  refine z_bipush (v := 31) b dX12_lawful_18 (by decide) ?_
  refine z_calli b (z_runS (As := [.int p1, .int 0, .int 31]) (st := []) b (c_X12_isIn_53 S p1 ⟨by omega, by omega⟩) cf_X12_isIn wm_X12_1 ws_X12_isIn dX12_lawful_20 rfl (Nat.le_of_ble_eq_true rfl) ⟨by decide, by decide, by decide, by decide⟩) (fun r4511 u4512 h4510 => ?_)
  obtain ⟨rfl, rfl⟩ := h4510
  refine z_if_eq_t (tgt := 36) b dX12_lawful_23 (by decide) (by decide) ?_
  refine z_iconst (v := (-1)) b dX12_lawful_36 (by decide) ?_
  exact z_iret (u := S) b rfl dX12_lawful_37 ⟨rfl, rfl⟩ rfl (by decide) (by decide)

set_option maxHeartbeats 4000000 in
set_option maxRecDepth 100000 in
theorem c_X11_lawful_17 {l : Launch} {D : va_G} {cy : Nat → ClassId} {T0 tB tE : Nat} {a : Nat → Nat} {rw : Nat → Option Nat} (S : GS) (p0 : Int32) (p1 : Int32) (p2 : Int32)  (hr_p0 : 1 ≤ p0.toInt ∧ p0.toInt ≤ 3) (hr_p1 : (-2147483648) ≤ p1.toInt ∧ p1.toInt ≤ (-1)) : Ct l D cy T0 tB tE yX11_lawful cX11_lawful 6 (some .int) 1 21 0 0 (cw cy tE a rw S) [.ref (a 0), .int 1, .int p0, .int p1, .int p2] (QI D (U := GS) (fun r u => (-1) = r ∧ S = u) (cw cy tE a rw)) := by
  refine Ct.ofZ RX11 "lawful" [(0, .ref (a 0)), (1, .int 1), (2, .int p0), (3, .int p1), (4, .int p2)] rfl rfl rfl rfl (Nat.le_of_ble_eq_true rfl) ?_
  intro p e R s m args below meth c A b
  refine z_iload_n b dX11_lawful_0 rfl rfl ?_
  refine z_calli b (z_runS (As := [.int 1]) (st := []) b (c_X11_isRow_4 S ) cf_X11_isRow wm_X11_169 ws_X11_isRow dX11_lawful_1 rfl (Nat.le_of_ble_eq_true rfl) ⟨by decide, by decide, by decide, by decide⟩) (fun r4514 u4515 h4513 => ?_)
  obtain ⟨rfl, rfl⟩ := h4513
  refine z_if_eq_f (tgt := 32) b dX11_lawful_4 (by decide) (by decide) ?_
  refine z_iload_n b dX11_lawful_7 rfl rfl ?_
  refine z_calli b (z_runS (As := [.int p0]) (st := []) b (c_X11_areLaws_3 S p0 ⟨by omega, by omega⟩) cf_X11_areLaws wm_X11_181 ws_X11_areLaws dX11_lawful_8 rfl (Nat.le_of_ble_eq_true rfl) ⟨by decide, by decide, by decide, by decide⟩) (fun r4517 u4518 h4516 => ?_)
  obtain ⟨rfl, rfl⟩ := h4516
  refine z_if_eq_f (tgt := 32) b dX11_lawful_11 (by decide) (by decide) ?_
  refine z_iload_n b dX11_lawful_14 rfl rfl ?_
  refine z_bipush (v := 31) b dX11_lawful_15 (by decide) ?_
  refine z_calli b (z_runS (As := [.int p1, .int 31]) (st := []) b (c_X11_isWithin_23 S p1 ⟨by omega, by omega⟩) cf_X11_isWithin wm_X11_73 ws_X11_isWithin dX11_lawful_17 rfl (Nat.le_of_ble_eq_true rfl) ⟨by decide, by decide, by decide, by decide⟩) (fun r4520 u4521 h4519 => ?_)
  obtain ⟨rfl, rfl⟩ := h4519
  refine z_if_eq_t (tgt := 32) b dX11_lawful_20 (by decide) (by decide) ?_
  refine z_iconst (v := (-1)) b dX11_lawful_32 (by decide) ?_
  exact z_iret (u := S) b rfl dX11_lawful_33 ⟨rfl, rfl⟩ rfl (by decide) (by decide)

set_option maxHeartbeats 4000000 in
set_option maxRecDepth 100000 in
theorem c_X12_lawful_17 {l : Launch} {D : va_G} {cy : Nat → ClassId} {T0 tB tE : Nat} {a : Nat → Nat} (S : GS) (p0 : Int32) (p1 : Int32) (p2 : Int32)  (hr_p0 : 1 ≤ p0.toInt ∧ p0.toInt ≤ 3) (hr_p1 : (-2147483648) ≤ p1.toInt ∧ p1.toInt ≤ (-1)) : Ct l D cy T0 tB tE yX12_lawful cX12_lawful 6 (some .int) 2 42 0 0 (mw cy a S) [.ref (a 0), .int 1, .int p0, .int p1, .int p2] (QI D (U := GS) (fun r u => (-1) = r ∧ S = u) (mw cy a)) := by
  refine Ct.ofZ RX12 "lawful" [(0, .ref (a 0)), (1, .int 1), (2, .int p0), (3, .int p1), (4, .int p2)] rfl rfl rfl rfl (Nat.le_of_ble_eq_true rfl) ?_
  intro p e R s m args below meth c A b
  refine z_iload_n b dX12_lawful_0 rfl rfl ?_
  refine z_calli b (z_runS (As := [.int 1]) (st := []) b (c_X12_isRow_4 S ) cf_X12_isRow wm_X12_452 ws_X12_isRow dX12_lawful_1 rfl (Nat.le_of_ble_eq_true rfl) ⟨by decide, by decide, by decide, by decide⟩) (fun r4523 u4524 h4522 => ?_)
  obtain ⟨rfl, rfl⟩ := h4522
  refine z_if_eq_f (tgt := 36) b dX12_lawful_4 (by decide) (by decide) ?_
  refine z_iload_n b dX12_lawful_7 rfl rfl ?_
  refine z_iconst (v := 1) b dX12_lawful_8 (by decide) ?_
  refine z_iconst (v := 3) b dX12_lawful_9 (by decide) ?_
  refine z_calli b (z_runS (As := [.int p0, .int 1, .int 3]) (st := []) b (c_X12_isIn_51 S p0 ⟨by omega, by omega⟩) cf_X12_isIn wm_X12_1 ws_X12_isIn dX12_lawful_10 rfl (Nat.le_of_ble_eq_true rfl) ⟨by decide, by decide, by decide, by decide⟩) (fun r4526 u4527 h4525 => ?_)
  obtain ⟨rfl, rfl⟩ := h4525
  refine z_if_eq_f (tgt := 36) b dX12_lawful_13 (by decide) (by decide) ?_
  refine z_iload_n b dX12_lawful_16 rfl rfl ?_
  refine z_iconst (v := 0) b dX12_lawful_17 (by decide) ?_
  refine z_bipush (v := 31) b dX12_lawful_18 (by decide) ?_
  refine z_calli b (z_runS (As := [.int p1, .int 0, .int 31]) (st := []) b (c_X12_isIn_52 S p1 ⟨by omega, by omega⟩) cf_X12_isIn wm_X12_1 ws_X12_isIn dX12_lawful_20 rfl (Nat.le_of_ble_eq_true rfl) ⟨by decide, by decide, by decide, by decide⟩) (fun r4529 u4530 h4528 => ?_)
  obtain ⟨rfl, rfl⟩ := h4528
  refine z_if_eq_t (tgt := 36) b dX12_lawful_23 (by decide) (by decide) ?_
  refine z_iconst (v := (-1)) b dX12_lawful_36 (by decide) ?_
  exact z_iret (u := S) b rfl dX12_lawful_37 ⟨rfl, rfl⟩ rfl (by decide) (by decide)

set_option maxHeartbeats 4000000 in
set_option maxRecDepth 100000 in
theorem c_X11_lawful_18 {l : Launch} {D : va_G} {cy : Nat → ClassId} {T0 tB tE : Nat} {a : Nat → Nat} {rw : Nat → Option Nat} (S : GS) (p0 : Int32) (p1 : Int32) (p2 : Int32)  (hr_p0 : 1 ≤ p0.toInt ∧ p0.toInt ≤ 3) (hr_p1 : 32 ≤ p1.toInt ∧ p1.toInt ≤ 2147483647) : Ct l D cy T0 tB tE yX11_lawful cX11_lawful 6 (some .int) 1 21 0 0 (cw cy tE a rw S) [.ref (a 0), .int 1, .int p0, .int p1, .int p2] (QI D (U := GS) (fun r u => (-1) = r ∧ S = u) (cw cy tE a rw)) := by
  refine Ct.ofZ RX11 "lawful" [(0, .ref (a 0)), (1, .int 1), (2, .int p0), (3, .int p1), (4, .int p2)] rfl rfl rfl rfl (Nat.le_of_ble_eq_true rfl) ?_
  intro p e R s m args below meth c A b
  refine z_iload_n b dX11_lawful_0 rfl rfl ?_
  refine z_calli b (z_runS (As := [.int 1]) (st := []) b (c_X11_isRow_4 S ) cf_X11_isRow wm_X11_169 ws_X11_isRow dX11_lawful_1 rfl (Nat.le_of_ble_eq_true rfl) ⟨by decide, by decide, by decide, by decide⟩) (fun r4532 u4533 h4531 => ?_)
  obtain ⟨rfl, rfl⟩ := h4531
  refine z_if_eq_f (tgt := 32) b dX11_lawful_4 (by decide) (by decide) ?_
  refine z_iload_n b dX11_lawful_7 rfl rfl ?_
  refine z_calli b (z_runS (As := [.int p0]) (st := []) b (c_X11_areLaws_3 S p0 ⟨by omega, by omega⟩) cf_X11_areLaws wm_X11_181 ws_X11_areLaws dX11_lawful_8 rfl (Nat.le_of_ble_eq_true rfl) ⟨by decide, by decide, by decide, by decide⟩) (fun r4535 u4536 h4534 => ?_)
  obtain ⟨rfl, rfl⟩ := h4534
  refine z_if_eq_f (tgt := 32) b dX11_lawful_11 (by decide) (by decide) ?_
  refine z_iload_n b dX11_lawful_14 rfl rfl ?_
  refine z_bipush (v := 31) b dX11_lawful_15 (by decide) ?_
  refine z_calli b (z_runS (As := [.int p1, .int 31]) (st := []) b (c_X11_isWithin_24 S p1 ⟨by omega, by omega⟩) cf_X11_isWithin wm_X11_73 ws_X11_isWithin dX11_lawful_17 rfl (Nat.le_of_ble_eq_true rfl) ⟨by decide, by decide, by decide, by decide⟩) (fun r4538 u4539 h4537 => ?_)
  obtain ⟨rfl, rfl⟩ := h4537
  refine z_if_eq_t (tgt := 32) b dX11_lawful_20 (by decide) (by decide) ?_
  refine z_iconst (v := (-1)) b dX11_lawful_32 (by decide) ?_
  exact z_iret (u := S) b rfl dX11_lawful_33 ⟨rfl, rfl⟩ rfl (by decide) (by decide)

set_option maxHeartbeats 4000000 in
set_option maxRecDepth 100000 in
theorem c_X12_lawful_18 {l : Launch} {D : va_G} {cy : Nat → ClassId} {T0 tB tE : Nat} {a : Nat → Nat} (S : GS) (p0 : Int32) (p1 : Int32) (p2 : Int32)  (hr_p0 : 1 ≤ p0.toInt ∧ p0.toInt ≤ 3) (hr_p1 : 32 ≤ p1.toInt ∧ p1.toInt ≤ 2147483647) : Ct l D cy T0 tB tE yX12_lawful cX12_lawful 6 (some .int) 2 42 0 0 (mw cy a S) [.ref (a 0), .int 1, .int p0, .int p1, .int p2] (QI D (U := GS) (fun r u => (-1) = r ∧ S = u) (mw cy a)) := by
  refine Ct.ofZ RX12 "lawful" [(0, .ref (a 0)), (1, .int 1), (2, .int p0), (3, .int p1), (4, .int p2)] rfl rfl rfl rfl (Nat.le_of_ble_eq_true rfl) ?_
  intro p e R s m args below meth c A b
  refine z_iload_n b dX12_lawful_0 rfl rfl ?_
  refine z_calli b (z_runS (As := [.int 1]) (st := []) b (c_X12_isRow_4 S ) cf_X12_isRow wm_X12_452 ws_X12_isRow dX12_lawful_1 rfl (Nat.le_of_ble_eq_true rfl) ⟨by decide, by decide, by decide, by decide⟩) (fun r4541 u4542 h4540 => ?_)
  obtain ⟨rfl, rfl⟩ := h4540
  refine z_if_eq_f (tgt := 36) b dX12_lawful_4 (by decide) (by decide) ?_
  refine z_iload_n b dX12_lawful_7 rfl rfl ?_
  refine z_iconst (v := 1) b dX12_lawful_8 (by decide) ?_
  refine z_iconst (v := 3) b dX12_lawful_9 (by decide) ?_
  refine z_calli b (z_runS (As := [.int p0, .int 1, .int 3]) (st := []) b (c_X12_isIn_51 S p0 ⟨by omega, by omega⟩) cf_X12_isIn wm_X12_1 ws_X12_isIn dX12_lawful_10 rfl (Nat.le_of_ble_eq_true rfl) ⟨by decide, by decide, by decide, by decide⟩) (fun r4544 u4545 h4543 => ?_)
  obtain ⟨rfl, rfl⟩ := h4543
  refine z_if_eq_f (tgt := 36) b dX12_lawful_13 (by decide) (by decide) ?_
  refine z_iload_n b dX12_lawful_16 rfl rfl ?_
  refine z_iconst (v := 0) b dX12_lawful_17 (by decide) ?_
  refine z_bipush (v := 31) b dX12_lawful_18 (by decide) ?_
  refine z_calli b (z_runS (As := [.int p1, .int 0, .int 31]) (st := []) b (c_X12_isIn_53 S p1 ⟨by omega, by omega⟩) cf_X12_isIn wm_X12_1 ws_X12_isIn dX12_lawful_20 rfl (Nat.le_of_ble_eq_true rfl) ⟨by decide, by decide, by decide, by decide⟩) (fun r4547 u4548 h4546 => ?_)
  obtain ⟨rfl, rfl⟩ := h4546
  refine z_if_eq_t (tgt := 36) b dX12_lawful_23 (by decide) (by decide) ?_
  refine z_iconst (v := (-1)) b dX12_lawful_36 (by decide) ?_
  exact z_iret (u := S) b rfl dX12_lawful_37 ⟨rfl, rfl⟩ rfl (by decide) (by decide)

set_option maxHeartbeats 4000000 in
set_option maxRecDepth 100000 in
theorem c_X11_lawful_19 {l : Launch} {D : va_G} {cy : Nat → ClassId} {T0 tB tE : Nat} {a : Nat → Nat} {rw : Nat → Option Nat} (S : GS) (p0 : Int32) (p1 : Int32) (p2 : Int32)  (hr_p0 : 1 ≤ p0.toInt ∧ p0.toInt ≤ 3) (hr_p1 : (-2147483648) ≤ p1.toInt ∧ p1.toInt ≤ (-1)) : Ct l D cy T0 tB tE yX11_lawful cX11_lawful 6 (some .int) 1 21 0 0 (cw cy tE a rw S) [.ref (a 0), .int 2, .int p0, .int p1, .int p2] (QI D (U := GS) (fun r u => (-1) = r ∧ S = u) (cw cy tE a rw)) := by
  refine Ct.ofZ RX11 "lawful" [(0, .ref (a 0)), (1, .int 2), (2, .int p0), (3, .int p1), (4, .int p2)] rfl rfl rfl rfl (Nat.le_of_ble_eq_true rfl) ?_
  intro p e R s m args below meth c A b
  refine z_iload_n b dX11_lawful_0 rfl rfl ?_
  refine z_calli b (z_runS (As := [.int 2]) (st := []) b (c_X11_isRow_5 S ) cf_X11_isRow wm_X11_169 ws_X11_isRow dX11_lawful_1 rfl (Nat.le_of_ble_eq_true rfl) ⟨by decide, by decide, by decide, by decide⟩) (fun r4550 u4551 h4549 => ?_)
  obtain ⟨rfl, rfl⟩ := h4549
  refine z_if_eq_f (tgt := 32) b dX11_lawful_4 (by decide) (by decide) ?_
  refine z_iload_n b dX11_lawful_7 rfl rfl ?_
  refine z_calli b (z_runS (As := [.int p0]) (st := []) b (c_X11_areLaws_3 S p0 ⟨by omega, by omega⟩) cf_X11_areLaws wm_X11_181 ws_X11_areLaws dX11_lawful_8 rfl (Nat.le_of_ble_eq_true rfl) ⟨by decide, by decide, by decide, by decide⟩) (fun r4553 u4554 h4552 => ?_)
  obtain ⟨rfl, rfl⟩ := h4552
  refine z_if_eq_f (tgt := 32) b dX11_lawful_11 (by decide) (by decide) ?_
  refine z_iload_n b dX11_lawful_14 rfl rfl ?_
  refine z_bipush (v := 31) b dX11_lawful_15 (by decide) ?_
  refine z_calli b (z_runS (As := [.int p1, .int 31]) (st := []) b (c_X11_isWithin_23 S p1 ⟨by omega, by omega⟩) cf_X11_isWithin wm_X11_73 ws_X11_isWithin dX11_lawful_17 rfl (Nat.le_of_ble_eq_true rfl) ⟨by decide, by decide, by decide, by decide⟩) (fun r4556 u4557 h4555 => ?_)
  obtain ⟨rfl, rfl⟩ := h4555
  refine z_if_eq_t (tgt := 32) b dX11_lawful_20 (by decide) (by decide) ?_
  refine z_iconst (v := (-1)) b dX11_lawful_32 (by decide) ?_
  exact z_iret (u := S) b rfl dX11_lawful_33 ⟨rfl, rfl⟩ rfl (by decide) (by decide)

set_option maxHeartbeats 4000000 in
set_option maxRecDepth 100000 in
theorem c_X12_lawful_19 {l : Launch} {D : va_G} {cy : Nat → ClassId} {T0 tB tE : Nat} {a : Nat → Nat} (S : GS) (p0 : Int32) (p1 : Int32) (p2 : Int32)  (hr_p0 : 1 ≤ p0.toInt ∧ p0.toInt ≤ 3) (hr_p1 : (-2147483648) ≤ p1.toInt ∧ p1.toInt ≤ (-1)) : Ct l D cy T0 tB tE yX12_lawful cX12_lawful 6 (some .int) 2 42 0 0 (mw cy a S) [.ref (a 0), .int 2, .int p0, .int p1, .int p2] (QI D (U := GS) (fun r u => (-1) = r ∧ S = u) (mw cy a)) := by
  refine Ct.ofZ RX12 "lawful" [(0, .ref (a 0)), (1, .int 2), (2, .int p0), (3, .int p1), (4, .int p2)] rfl rfl rfl rfl (Nat.le_of_ble_eq_true rfl) ?_
  intro p e R s m args below meth c A b
  refine z_iload_n b dX12_lawful_0 rfl rfl ?_
  refine z_calli b (z_runS (As := [.int 2]) (st := []) b (c_X12_isRow_5 S ) cf_X12_isRow wm_X12_452 ws_X12_isRow dX12_lawful_1 rfl (Nat.le_of_ble_eq_true rfl) ⟨by decide, by decide, by decide, by decide⟩) (fun r4559 u4560 h4558 => ?_)
  obtain ⟨rfl, rfl⟩ := h4558
  refine z_if_eq_f (tgt := 36) b dX12_lawful_4 (by decide) (by decide) ?_
  refine z_iload_n b dX12_lawful_7 rfl rfl ?_
  refine z_iconst (v := 1) b dX12_lawful_8 (by decide) ?_
  refine z_iconst (v := 3) b dX12_lawful_9 (by decide) ?_
  refine z_calli b (z_runS (As := [.int p0, .int 1, .int 3]) (st := []) b (c_X12_isIn_51 S p0 ⟨by omega, by omega⟩) cf_X12_isIn wm_X12_1 ws_X12_isIn dX12_lawful_10 rfl (Nat.le_of_ble_eq_true rfl) ⟨by decide, by decide, by decide, by decide⟩) (fun r4562 u4563 h4561 => ?_)
  obtain ⟨rfl, rfl⟩ := h4561
  refine z_if_eq_f (tgt := 36) b dX12_lawful_13 (by decide) (by decide) ?_
  refine z_iload_n b dX12_lawful_16 rfl rfl ?_
  refine z_iconst (v := 0) b dX12_lawful_17 (by decide) ?_
  refine z_bipush (v := 31) b dX12_lawful_18 (by decide) ?_
  refine z_calli b (z_runS (As := [.int p1, .int 0, .int 31]) (st := []) b (c_X12_isIn_52 S p1 ⟨by omega, by omega⟩) cf_X12_isIn wm_X12_1 ws_X12_isIn dX12_lawful_20 rfl (Nat.le_of_ble_eq_true rfl) ⟨by decide, by decide, by decide, by decide⟩) (fun r4565 u4566 h4564 => ?_)
  obtain ⟨rfl, rfl⟩ := h4564
  refine z_if_eq_t (tgt := 36) b dX12_lawful_23 (by decide) (by decide) ?_
  refine z_iconst (v := (-1)) b dX12_lawful_36 (by decide) ?_
  exact z_iret (u := S) b rfl dX12_lawful_37 ⟨rfl, rfl⟩ rfl (by decide) (by decide)

set_option maxHeartbeats 4000000 in
set_option maxRecDepth 100000 in
theorem c_X11_lawful_20 {l : Launch} {D : va_G} {cy : Nat → ClassId} {T0 tB tE : Nat} {a : Nat → Nat} {rw : Nat → Option Nat} (S : GS) (p0 : Int32) (p1 : Int32) (p2 : Int32)  (hr_p0 : 1 ≤ p0.toInt ∧ p0.toInt ≤ 3) (hr_p1 : 32 ≤ p1.toInt ∧ p1.toInt ≤ 2147483647) : Ct l D cy T0 tB tE yX11_lawful cX11_lawful 6 (some .int) 1 21 0 0 (cw cy tE a rw S) [.ref (a 0), .int 2, .int p0, .int p1, .int p2] (QI D (U := GS) (fun r u => (-1) = r ∧ S = u) (cw cy tE a rw)) := by
  refine Ct.ofZ RX11 "lawful" [(0, .ref (a 0)), (1, .int 2), (2, .int p0), (3, .int p1), (4, .int p2)] rfl rfl rfl rfl (Nat.le_of_ble_eq_true rfl) ?_
  intro p e R s m args below meth c A b
  refine z_iload_n b dX11_lawful_0 rfl rfl ?_
  refine z_calli b (z_runS (As := [.int 2]) (st := []) b (c_X11_isRow_5 S ) cf_X11_isRow wm_X11_169 ws_X11_isRow dX11_lawful_1 rfl (Nat.le_of_ble_eq_true rfl) ⟨by decide, by decide, by decide, by decide⟩) (fun r4568 u4569 h4567 => ?_)
  obtain ⟨rfl, rfl⟩ := h4567
  refine z_if_eq_f (tgt := 32) b dX11_lawful_4 (by decide) (by decide) ?_
  refine z_iload_n b dX11_lawful_7 rfl rfl ?_
  refine z_calli b (z_runS (As := [.int p0]) (st := []) b (c_X11_areLaws_3 S p0 ⟨by omega, by omega⟩) cf_X11_areLaws wm_X11_181 ws_X11_areLaws dX11_lawful_8 rfl (Nat.le_of_ble_eq_true rfl) ⟨by decide, by decide, by decide, by decide⟩) (fun r4571 u4572 h4570 => ?_)
  obtain ⟨rfl, rfl⟩ := h4570
  refine z_if_eq_f (tgt := 32) b dX11_lawful_11 (by decide) (by decide) ?_
  refine z_iload_n b dX11_lawful_14 rfl rfl ?_
  refine z_bipush (v := 31) b dX11_lawful_15 (by decide) ?_
  refine z_calli b (z_runS (As := [.int p1, .int 31]) (st := []) b (c_X11_isWithin_24 S p1 ⟨by omega, by omega⟩) cf_X11_isWithin wm_X11_73 ws_X11_isWithin dX11_lawful_17 rfl (Nat.le_of_ble_eq_true rfl) ⟨by decide, by decide, by decide, by decide⟩) (fun r4574 u4575 h4573 => ?_)
  obtain ⟨rfl, rfl⟩ := h4573
  refine z_if_eq_t (tgt := 32) b dX11_lawful_20 (by decide) (by decide) ?_
  refine z_iconst (v := (-1)) b dX11_lawful_32 (by decide) ?_
  exact z_iret (u := S) b rfl dX11_lawful_33 ⟨rfl, rfl⟩ rfl (by decide) (by decide)

set_option maxHeartbeats 4000000 in
set_option maxRecDepth 100000 in
theorem c_X12_lawful_20 {l : Launch} {D : va_G} {cy : Nat → ClassId} {T0 tB tE : Nat} {a : Nat → Nat} (S : GS) (p0 : Int32) (p1 : Int32) (p2 : Int32)  (hr_p0 : 1 ≤ p0.toInt ∧ p0.toInt ≤ 3) (hr_p1 : 32 ≤ p1.toInt ∧ p1.toInt ≤ 2147483647) : Ct l D cy T0 tB tE yX12_lawful cX12_lawful 6 (some .int) 2 42 0 0 (mw cy a S) [.ref (a 0), .int 2, .int p0, .int p1, .int p2] (QI D (U := GS) (fun r u => (-1) = r ∧ S = u) (mw cy a)) := by
  refine Ct.ofZ RX12 "lawful" [(0, .ref (a 0)), (1, .int 2), (2, .int p0), (3, .int p1), (4, .int p2)] rfl rfl rfl rfl (Nat.le_of_ble_eq_true rfl) ?_
  intro p e R s m args below meth c A b
  refine z_iload_n b dX12_lawful_0 rfl rfl ?_
  refine z_calli b (z_runS (As := [.int 2]) (st := []) b (c_X12_isRow_5 S ) cf_X12_isRow wm_X12_452 ws_X12_isRow dX12_lawful_1 rfl (Nat.le_of_ble_eq_true rfl) ⟨by decide, by decide, by decide, by decide⟩) (fun r4577 u4578 h4576 => ?_)
  obtain ⟨rfl, rfl⟩ := h4576
  refine z_if_eq_f (tgt := 36) b dX12_lawful_4 (by decide) (by decide) ?_
  refine z_iload_n b dX12_lawful_7 rfl rfl ?_
  refine z_iconst (v := 1) b dX12_lawful_8 (by decide) ?_
  refine z_iconst (v := 3) b dX12_lawful_9 (by decide) ?_
  refine z_calli b (z_runS (As := [.int p0, .int 1, .int 3]) (st := []) b (c_X12_isIn_51 S p0 ⟨by omega, by omega⟩) cf_X12_isIn wm_X12_1 ws_X12_isIn dX12_lawful_10 rfl (Nat.le_of_ble_eq_true rfl) ⟨by decide, by decide, by decide, by decide⟩) (fun r4580 u4581 h4579 => ?_)
  obtain ⟨rfl, rfl⟩ := h4579
  refine z_if_eq_f (tgt := 36) b dX12_lawful_13 (by decide) (by decide) ?_
  refine z_iload_n b dX12_lawful_16 rfl rfl ?_
  refine z_iconst (v := 0) b dX12_lawful_17 (by decide) ?_
  refine z_bipush (v := 31) b dX12_lawful_18 (by decide) ?_
  refine z_calli b (z_runS (As := [.int p1, .int 0, .int 31]) (st := []) b (c_X12_isIn_53 S p1 ⟨by omega, by omega⟩) cf_X12_isIn wm_X12_1 ws_X12_isIn dX12_lawful_20 rfl (Nat.le_of_ble_eq_true rfl) ⟨by decide, by decide, by decide, by decide⟩) (fun r4583 u4584 h4582 => ?_)
  obtain ⟨rfl, rfl⟩ := h4582
  refine z_if_eq_t (tgt := 36) b dX12_lawful_23 (by decide) (by decide) ?_
  refine z_iconst (v := (-1)) b dX12_lawful_36 (by decide) ?_
  exact z_iret (u := S) b rfl dX12_lawful_37 ⟨rfl, rfl⟩ rfl (by decide) (by decide)

set_option maxHeartbeats 4000000 in
set_option maxRecDepth 100000 in
theorem c_X11_lawful_21 {l : Launch} {D : va_G} {cy : Nat → ClassId} {T0 tB tE : Nat} {a : Nat → Nat} {rw : Nat → Option Nat} (S : GS) (p0 : Int32) (p1 : Int32) (p2 : Int32)  (hr_p0 : 1 ≤ p0.toInt ∧ p0.toInt ≤ 3) (hr_p1 : (-2147483648) ≤ p1.toInt ∧ p1.toInt ≤ (-1)) : Ct l D cy T0 tB tE yX11_lawful cX11_lawful 6 (some .int) 1 21 0 0 (cw cy tE a rw S) [.ref (a 0), .int 3, .int p0, .int p1, .int p2] (QI D (U := GS) (fun r u => (-1) = r ∧ S = u) (cw cy tE a rw)) := by
  refine Ct.ofZ RX11 "lawful" [(0, .ref (a 0)), (1, .int 3), (2, .int p0), (3, .int p1), (4, .int p2)] rfl rfl rfl rfl (Nat.le_of_ble_eq_true rfl) ?_
  intro p e R s m args below meth c A b
  refine z_iload_n b dX11_lawful_0 rfl rfl ?_
  refine z_calli b (z_runS (As := [.int 3]) (st := []) b (c_X11_isRow_6 S ) cf_X11_isRow wm_X11_169 ws_X11_isRow dX11_lawful_1 rfl (Nat.le_of_ble_eq_true rfl) ⟨by decide, by decide, by decide, by decide⟩) (fun r4586 u4587 h4585 => ?_)
  obtain ⟨rfl, rfl⟩ := h4585
  refine z_if_eq_f (tgt := 32) b dX11_lawful_4 (by decide) (by decide) ?_
  refine z_iload_n b dX11_lawful_7 rfl rfl ?_
  refine z_calli b (z_runS (As := [.int p0]) (st := []) b (c_X11_areLaws_3 S p0 ⟨by omega, by omega⟩) cf_X11_areLaws wm_X11_181 ws_X11_areLaws dX11_lawful_8 rfl (Nat.le_of_ble_eq_true rfl) ⟨by decide, by decide, by decide, by decide⟩) (fun r4589 u4590 h4588 => ?_)
  obtain ⟨rfl, rfl⟩ := h4588
  refine z_if_eq_f (tgt := 32) b dX11_lawful_11 (by decide) (by decide) ?_
  refine z_iload_n b dX11_lawful_14 rfl rfl ?_
  refine z_bipush (v := 31) b dX11_lawful_15 (by decide) ?_
  refine z_calli b (z_runS (As := [.int p1, .int 31]) (st := []) b (c_X11_isWithin_23 S p1 ⟨by omega, by omega⟩) cf_X11_isWithin wm_X11_73 ws_X11_isWithin dX11_lawful_17 rfl (Nat.le_of_ble_eq_true rfl) ⟨by decide, by decide, by decide, by decide⟩) (fun r4592 u4593 h4591 => ?_)
  obtain ⟨rfl, rfl⟩ := h4591
  refine z_if_eq_t (tgt := 32) b dX11_lawful_20 (by decide) (by decide) ?_
  refine z_iconst (v := (-1)) b dX11_lawful_32 (by decide) ?_
  exact z_iret (u := S) b rfl dX11_lawful_33 ⟨rfl, rfl⟩ rfl (by decide) (by decide)

set_option maxHeartbeats 4000000 in
set_option maxRecDepth 100000 in
theorem c_X12_lawful_21 {l : Launch} {D : va_G} {cy : Nat → ClassId} {T0 tB tE : Nat} {a : Nat → Nat} (S : GS) (p0 : Int32) (p1 : Int32) (p2 : Int32)  (hr_p0 : 1 ≤ p0.toInt ∧ p0.toInt ≤ 3) (hr_p1 : (-2147483648) ≤ p1.toInt ∧ p1.toInt ≤ (-1)) : Ct l D cy T0 tB tE yX12_lawful cX12_lawful 6 (some .int) 2 42 0 0 (mw cy a S) [.ref (a 0), .int 3, .int p0, .int p1, .int p2] (QI D (U := GS) (fun r u => (-1) = r ∧ S = u) (mw cy a)) := by
  refine Ct.ofZ RX12 "lawful" [(0, .ref (a 0)), (1, .int 3), (2, .int p0), (3, .int p1), (4, .int p2)] rfl rfl rfl rfl (Nat.le_of_ble_eq_true rfl) ?_
  intro p e R s m args below meth c A b
  refine z_iload_n b dX12_lawful_0 rfl rfl ?_
  refine z_calli b (z_runS (As := [.int 3]) (st := []) b (c_X12_isRow_6 S ) cf_X12_isRow wm_X12_452 ws_X12_isRow dX12_lawful_1 rfl (Nat.le_of_ble_eq_true rfl) ⟨by decide, by decide, by decide, by decide⟩) (fun r4595 u4596 h4594 => ?_)
  obtain ⟨rfl, rfl⟩ := h4594
  refine z_if_eq_f (tgt := 36) b dX12_lawful_4 (by decide) (by decide) ?_
  refine z_iload_n b dX12_lawful_7 rfl rfl ?_
  refine z_iconst (v := 1) b dX12_lawful_8 (by decide) ?_
  refine z_iconst (v := 3) b dX12_lawful_9 (by decide) ?_
  refine z_calli b (z_runS (As := [.int p0, .int 1, .int 3]) (st := []) b (c_X12_isIn_51 S p0 ⟨by omega, by omega⟩) cf_X12_isIn wm_X12_1 ws_X12_isIn dX12_lawful_10 rfl (Nat.le_of_ble_eq_true rfl) ⟨by decide, by decide, by decide, by decide⟩) (fun r4598 u4599 h4597 => ?_)
  obtain ⟨rfl, rfl⟩ := h4597
  refine z_if_eq_f (tgt := 36) b dX12_lawful_13 (by decide) (by decide) ?_
  refine z_iload_n b dX12_lawful_16 rfl rfl ?_
  refine z_iconst (v := 0) b dX12_lawful_17 (by decide) ?_
  refine z_bipush (v := 31) b dX12_lawful_18 (by decide) ?_
  refine z_calli b (z_runS (As := [.int p1, .int 0, .int 31]) (st := []) b (c_X12_isIn_52 S p1 ⟨by omega, by omega⟩) cf_X12_isIn wm_X12_1 ws_X12_isIn dX12_lawful_20 rfl (Nat.le_of_ble_eq_true rfl) ⟨by decide, by decide, by decide, by decide⟩) (fun r4601 u4602 h4600 => ?_)
  obtain ⟨rfl, rfl⟩ := h4600
  refine z_if_eq_t (tgt := 36) b dX12_lawful_23 (by decide) (by decide) ?_
  refine z_iconst (v := (-1)) b dX12_lawful_36 (by decide) ?_
  exact z_iret (u := S) b rfl dX12_lawful_37 ⟨rfl, rfl⟩ rfl (by decide) (by decide)

set_option maxHeartbeats 4000000 in
set_option maxRecDepth 100000 in
theorem c_X11_lawful_22 {l : Launch} {D : va_G} {cy : Nat → ClassId} {T0 tB tE : Nat} {a : Nat → Nat} {rw : Nat → Option Nat} (S : GS) (p0 : Int32) (p1 : Int32) (p2 : Int32)  (hr_p0 : 1 ≤ p0.toInt ∧ p0.toInt ≤ 3) (hr_p1 : 32 ≤ p1.toInt ∧ p1.toInt ≤ 2147483647) : Ct l D cy T0 tB tE yX11_lawful cX11_lawful 6 (some .int) 1 21 0 0 (cw cy tE a rw S) [.ref (a 0), .int 3, .int p0, .int p1, .int p2] (QI D (U := GS) (fun r u => (-1) = r ∧ S = u) (cw cy tE a rw)) := by
  refine Ct.ofZ RX11 "lawful" [(0, .ref (a 0)), (1, .int 3), (2, .int p0), (3, .int p1), (4, .int p2)] rfl rfl rfl rfl (Nat.le_of_ble_eq_true rfl) ?_
  intro p e R s m args below meth c A b
  refine z_iload_n b dX11_lawful_0 rfl rfl ?_
  refine z_calli b (z_runS (As := [.int 3]) (st := []) b (c_X11_isRow_6 S ) cf_X11_isRow wm_X11_169 ws_X11_isRow dX11_lawful_1 rfl (Nat.le_of_ble_eq_true rfl) ⟨by decide, by decide, by decide, by decide⟩) (fun r4604 u4605 h4603 => ?_)
  obtain ⟨rfl, rfl⟩ := h4603
  refine z_if_eq_f (tgt := 32) b dX11_lawful_4 (by decide) (by decide) ?_
  refine z_iload_n b dX11_lawful_7 rfl rfl ?_
  refine z_calli b (z_runS (As := [.int p0]) (st := []) b (c_X11_areLaws_3 S p0 ⟨by omega, by omega⟩) cf_X11_areLaws wm_X11_181 ws_X11_areLaws dX11_lawful_8 rfl (Nat.le_of_ble_eq_true rfl) ⟨by decide, by decide, by decide, by decide⟩) (fun r4607 u4608 h4606 => ?_)
  obtain ⟨rfl, rfl⟩ := h4606
  refine z_if_eq_f (tgt := 32) b dX11_lawful_11 (by decide) (by decide) ?_
  refine z_iload_n b dX11_lawful_14 rfl rfl ?_
  refine z_bipush (v := 31) b dX11_lawful_15 (by decide) ?_
  refine z_calli b (z_runS (As := [.int p1, .int 31]) (st := []) b (c_X11_isWithin_24 S p1 ⟨by omega, by omega⟩) cf_X11_isWithin wm_X11_73 ws_X11_isWithin dX11_lawful_17 rfl (Nat.le_of_ble_eq_true rfl) ⟨by decide, by decide, by decide, by decide⟩) (fun r4610 u4611 h4609 => ?_)
  obtain ⟨rfl, rfl⟩ := h4609
  refine z_if_eq_t (tgt := 32) b dX11_lawful_20 (by decide) (by decide) ?_
  refine z_iconst (v := (-1)) b dX11_lawful_32 (by decide) ?_
  exact z_iret (u := S) b rfl dX11_lawful_33 ⟨rfl, rfl⟩ rfl (by decide) (by decide)

set_option maxHeartbeats 4000000 in
set_option maxRecDepth 100000 in
theorem c_X12_lawful_22 {l : Launch} {D : va_G} {cy : Nat → ClassId} {T0 tB tE : Nat} {a : Nat → Nat} (S : GS) (p0 : Int32) (p1 : Int32) (p2 : Int32)  (hr_p0 : 1 ≤ p0.toInt ∧ p0.toInt ≤ 3) (hr_p1 : 32 ≤ p1.toInt ∧ p1.toInt ≤ 2147483647) : Ct l D cy T0 tB tE yX12_lawful cX12_lawful 6 (some .int) 2 42 0 0 (mw cy a S) [.ref (a 0), .int 3, .int p0, .int p1, .int p2] (QI D (U := GS) (fun r u => (-1) = r ∧ S = u) (mw cy a)) := by
  refine Ct.ofZ RX12 "lawful" [(0, .ref (a 0)), (1, .int 3), (2, .int p0), (3, .int p1), (4, .int p2)] rfl rfl rfl rfl (Nat.le_of_ble_eq_true rfl) ?_
  intro p e R s m args below meth c A b
  refine z_iload_n b dX12_lawful_0 rfl rfl ?_
  refine z_calli b (z_runS (As := [.int 3]) (st := []) b (c_X12_isRow_6 S ) cf_X12_isRow wm_X12_452 ws_X12_isRow dX12_lawful_1 rfl (Nat.le_of_ble_eq_true rfl) ⟨by decide, by decide, by decide, by decide⟩) (fun r4613 u4614 h4612 => ?_)
  obtain ⟨rfl, rfl⟩ := h4612
  refine z_if_eq_f (tgt := 36) b dX12_lawful_4 (by decide) (by decide) ?_
  refine z_iload_n b dX12_lawful_7 rfl rfl ?_
  refine z_iconst (v := 1) b dX12_lawful_8 (by decide) ?_
  refine z_iconst (v := 3) b dX12_lawful_9 (by decide) ?_
  refine z_calli b (z_runS (As := [.int p0, .int 1, .int 3]) (st := []) b (c_X12_isIn_51 S p0 ⟨by omega, by omega⟩) cf_X12_isIn wm_X12_1 ws_X12_isIn dX12_lawful_10 rfl (Nat.le_of_ble_eq_true rfl) ⟨by decide, by decide, by decide, by decide⟩) (fun r4616 u4617 h4615 => ?_)
  obtain ⟨rfl, rfl⟩ := h4615
  refine z_if_eq_f (tgt := 36) b dX12_lawful_13 (by decide) (by decide) ?_
  refine z_iload_n b dX12_lawful_16 rfl rfl ?_
  refine z_iconst (v := 0) b dX12_lawful_17 (by decide) ?_
  refine z_bipush (v := 31) b dX12_lawful_18 (by decide) ?_
  refine z_calli b (z_runS (As := [.int p1, .int 0, .int 31]) (st := []) b (c_X12_isIn_53 S p1 ⟨by omega, by omega⟩) cf_X12_isIn wm_X12_1 ws_X12_isIn dX12_lawful_20 rfl (Nat.le_of_ble_eq_true rfl) ⟨by decide, by decide, by decide, by decide⟩) (fun r4619 u4620 h4618 => ?_)
  obtain ⟨rfl, rfl⟩ := h4618
  refine z_if_eq_t (tgt := 36) b dX12_lawful_23 (by decide) (by decide) ?_
  refine z_iconst (v := (-1)) b dX12_lawful_36 (by decide) ?_
  exact z_iret (u := S) b rfl dX12_lawful_37 ⟨rfl, rfl⟩ rfl (by decide) (by decide)

set_option maxHeartbeats 4000000 in
set_option maxRecDepth 100000 in
theorem c_X11_lawful_23 {l : Launch} {D : va_G} {cy : Nat → ClassId} {T0 tB tE : Nat} {a : Nat → Nat} {rw : Nat → Option Nat} (S : GS) (p0 : Int32) (p1 : Int32) (p2 : Int32)  (hr_p0 : 1 ≤ p0.toInt ∧ p0.toInt ≤ 3) (hr_p1 : (-2147483648) ≤ p1.toInt ∧ p1.toInt ≤ (-1)) : Ct l D cy T0 tB tE yX11_lawful cX11_lawful 6 (some .int) 1 21 0 0 (cw cy tE a rw S) [.ref (a 0), .int 4, .int p0, .int p1, .int p2] (QI D (U := GS) (fun r u => (-1) = r ∧ S = u) (cw cy tE a rw)) := by
  refine Ct.ofZ RX11 "lawful" [(0, .ref (a 0)), (1, .int 4), (2, .int p0), (3, .int p1), (4, .int p2)] rfl rfl rfl rfl (Nat.le_of_ble_eq_true rfl) ?_
  intro p e R s m args below meth c A b
  refine z_iload_n b dX11_lawful_0 rfl rfl ?_
  refine z_calli b (z_runS (As := [.int 4]) (st := []) b (c_X11_isRow_7 S ) cf_X11_isRow wm_X11_169 ws_X11_isRow dX11_lawful_1 rfl (Nat.le_of_ble_eq_true rfl) ⟨by decide, by decide, by decide, by decide⟩) (fun r4622 u4623 h4621 => ?_)
  obtain ⟨rfl, rfl⟩ := h4621
  refine z_if_eq_f (tgt := 32) b dX11_lawful_4 (by decide) (by decide) ?_
  refine z_iload_n b dX11_lawful_7 rfl rfl ?_
  refine z_calli b (z_runS (As := [.int p0]) (st := []) b (c_X11_areLaws_3 S p0 ⟨by omega, by omega⟩) cf_X11_areLaws wm_X11_181 ws_X11_areLaws dX11_lawful_8 rfl (Nat.le_of_ble_eq_true rfl) ⟨by decide, by decide, by decide, by decide⟩) (fun r4625 u4626 h4624 => ?_)
  obtain ⟨rfl, rfl⟩ := h4624
  refine z_if_eq_f (tgt := 32) b dX11_lawful_11 (by decide) (by decide) ?_
  refine z_iload_n b dX11_lawful_14 rfl rfl ?_
  refine z_bipush (v := 31) b dX11_lawful_15 (by decide) ?_
  refine z_calli b (z_runS (As := [.int p1, .int 31]) (st := []) b (c_X11_isWithin_23 S p1 ⟨by omega, by omega⟩) cf_X11_isWithin wm_X11_73 ws_X11_isWithin dX11_lawful_17 rfl (Nat.le_of_ble_eq_true rfl) ⟨by decide, by decide, by decide, by decide⟩) (fun r4628 u4629 h4627 => ?_)
  obtain ⟨rfl, rfl⟩ := h4627
  refine z_if_eq_t (tgt := 32) b dX11_lawful_20 (by decide) (by decide) ?_
  refine z_iconst (v := (-1)) b dX11_lawful_32 (by decide) ?_
  exact z_iret (u := S) b rfl dX11_lawful_33 ⟨rfl, rfl⟩ rfl (by decide) (by decide)

set_option maxHeartbeats 4000000 in
set_option maxRecDepth 100000 in
theorem c_X12_lawful_23 {l : Launch} {D : va_G} {cy : Nat → ClassId} {T0 tB tE : Nat} {a : Nat → Nat} (S : GS) (p0 : Int32) (p1 : Int32) (p2 : Int32)  (hr_p0 : 1 ≤ p0.toInt ∧ p0.toInt ≤ 3) (hr_p1 : (-2147483648) ≤ p1.toInt ∧ p1.toInt ≤ (-1)) : Ct l D cy T0 tB tE yX12_lawful cX12_lawful 6 (some .int) 2 42 0 0 (mw cy a S) [.ref (a 0), .int 4, .int p0, .int p1, .int p2] (QI D (U := GS) (fun r u => (-1) = r ∧ S = u) (mw cy a)) := by
  refine Ct.ofZ RX12 "lawful" [(0, .ref (a 0)), (1, .int 4), (2, .int p0), (3, .int p1), (4, .int p2)] rfl rfl rfl rfl (Nat.le_of_ble_eq_true rfl) ?_
  intro p e R s m args below meth c A b
  refine z_iload_n b dX12_lawful_0 rfl rfl ?_
  refine z_calli b (z_runS (As := [.int 4]) (st := []) b (c_X12_isRow_7 S ) cf_X12_isRow wm_X12_452 ws_X12_isRow dX12_lawful_1 rfl (Nat.le_of_ble_eq_true rfl) ⟨by decide, by decide, by decide, by decide⟩) (fun r4631 u4632 h4630 => ?_)
  obtain ⟨rfl, rfl⟩ := h4630
  refine z_if_eq_f (tgt := 36) b dX12_lawful_4 (by decide) (by decide) ?_
  refine z_iload_n b dX12_lawful_7 rfl rfl ?_
  refine z_iconst (v := 1) b dX12_lawful_8 (by decide) ?_
  refine z_iconst (v := 3) b dX12_lawful_9 (by decide) ?_
  refine z_calli b (z_runS (As := [.int p0, .int 1, .int 3]) (st := []) b (c_X12_isIn_51 S p0 ⟨by omega, by omega⟩) cf_X12_isIn wm_X12_1 ws_X12_isIn dX12_lawful_10 rfl (Nat.le_of_ble_eq_true rfl) ⟨by decide, by decide, by decide, by decide⟩) (fun r4634 u4635 h4633 => ?_)
  obtain ⟨rfl, rfl⟩ := h4633
  refine z_if_eq_f (tgt := 36) b dX12_lawful_13 (by decide) (by decide) ?_
  refine z_iload_n b dX12_lawful_16 rfl rfl ?_
  refine z_iconst (v := 0) b dX12_lawful_17 (by decide) ?_
  refine z_bipush (v := 31) b dX12_lawful_18 (by decide) ?_
  refine z_calli b (z_runS (As := [.int p1, .int 0, .int 31]) (st := []) b (c_X12_isIn_52 S p1 ⟨by omega, by omega⟩) cf_X12_isIn wm_X12_1 ws_X12_isIn dX12_lawful_20 rfl (Nat.le_of_ble_eq_true rfl) ⟨by decide, by decide, by decide, by decide⟩) (fun r4637 u4638 h4636 => ?_)
  obtain ⟨rfl, rfl⟩ := h4636
  refine z_if_eq_t (tgt := 36) b dX12_lawful_23 (by decide) (by decide) ?_
  refine z_iconst (v := (-1)) b dX12_lawful_36 (by decide) ?_
  exact z_iret (u := S) b rfl dX12_lawful_37 ⟨rfl, rfl⟩ rfl (by decide) (by decide)

set_option maxHeartbeats 4000000 in
set_option maxRecDepth 100000 in
theorem c_X11_lawful_24 {l : Launch} {D : va_G} {cy : Nat → ClassId} {T0 tB tE : Nat} {a : Nat → Nat} {rw : Nat → Option Nat} (S : GS) (p0 : Int32) (p1 : Int32) (p2 : Int32)  (hr_p0 : 1 ≤ p0.toInt ∧ p0.toInt ≤ 3) (hr_p1 : 32 ≤ p1.toInt ∧ p1.toInt ≤ 2147483647) : Ct l D cy T0 tB tE yX11_lawful cX11_lawful 6 (some .int) 1 21 0 0 (cw cy tE a rw S) [.ref (a 0), .int 4, .int p0, .int p1, .int p2] (QI D (U := GS) (fun r u => (-1) = r ∧ S = u) (cw cy tE a rw)) := by
  refine Ct.ofZ RX11 "lawful" [(0, .ref (a 0)), (1, .int 4), (2, .int p0), (3, .int p1), (4, .int p2)] rfl rfl rfl rfl (Nat.le_of_ble_eq_true rfl) ?_
  intro p e R s m args below meth c A b
  refine z_iload_n b dX11_lawful_0 rfl rfl ?_
  refine z_calli b (z_runS (As := [.int 4]) (st := []) b (c_X11_isRow_7 S ) cf_X11_isRow wm_X11_169 ws_X11_isRow dX11_lawful_1 rfl (Nat.le_of_ble_eq_true rfl) ⟨by decide, by decide, by decide, by decide⟩) (fun r4640 u4641 h4639 => ?_)
  obtain ⟨rfl, rfl⟩ := h4639
  refine z_if_eq_f (tgt := 32) b dX11_lawful_4 (by decide) (by decide) ?_
  refine z_iload_n b dX11_lawful_7 rfl rfl ?_
  refine z_calli b (z_runS (As := [.int p0]) (st := []) b (c_X11_areLaws_3 S p0 ⟨by omega, by omega⟩) cf_X11_areLaws wm_X11_181 ws_X11_areLaws dX11_lawful_8 rfl (Nat.le_of_ble_eq_true rfl) ⟨by decide, by decide, by decide, by decide⟩) (fun r4643 u4644 h4642 => ?_)
  obtain ⟨rfl, rfl⟩ := h4642
  refine z_if_eq_f (tgt := 32) b dX11_lawful_11 (by decide) (by decide) ?_
  refine z_iload_n b dX11_lawful_14 rfl rfl ?_
  refine z_bipush (v := 31) b dX11_lawful_15 (by decide) ?_
  refine z_calli b (z_runS (As := [.int p1, .int 31]) (st := []) b (c_X11_isWithin_24 S p1 ⟨by omega, by omega⟩) cf_X11_isWithin wm_X11_73 ws_X11_isWithin dX11_lawful_17 rfl (Nat.le_of_ble_eq_true rfl) ⟨by decide, by decide, by decide, by decide⟩) (fun r4646 u4647 h4645 => ?_)
  obtain ⟨rfl, rfl⟩ := h4645
  refine z_if_eq_t (tgt := 32) b dX11_lawful_20 (by decide) (by decide) ?_
  refine z_iconst (v := (-1)) b dX11_lawful_32 (by decide) ?_
  exact z_iret (u := S) b rfl dX11_lawful_33 ⟨rfl, rfl⟩ rfl (by decide) (by decide)

set_option maxHeartbeats 4000000 in
set_option maxRecDepth 100000 in
theorem c_X12_lawful_24 {l : Launch} {D : va_G} {cy : Nat → ClassId} {T0 tB tE : Nat} {a : Nat → Nat} (S : GS) (p0 : Int32) (p1 : Int32) (p2 : Int32)  (hr_p0 : 1 ≤ p0.toInt ∧ p0.toInt ≤ 3) (hr_p1 : 32 ≤ p1.toInt ∧ p1.toInt ≤ 2147483647) : Ct l D cy T0 tB tE yX12_lawful cX12_lawful 6 (some .int) 2 42 0 0 (mw cy a S) [.ref (a 0), .int 4, .int p0, .int p1, .int p2] (QI D (U := GS) (fun r u => (-1) = r ∧ S = u) (mw cy a)) := by
  refine Ct.ofZ RX12 "lawful" [(0, .ref (a 0)), (1, .int 4), (2, .int p0), (3, .int p1), (4, .int p2)] rfl rfl rfl rfl (Nat.le_of_ble_eq_true rfl) ?_
  intro p e R s m args below meth c A b
  refine z_iload_n b dX12_lawful_0 rfl rfl ?_
  refine z_calli b (z_runS (As := [.int 4]) (st := []) b (c_X12_isRow_7 S ) cf_X12_isRow wm_X12_452 ws_X12_isRow dX12_lawful_1 rfl (Nat.le_of_ble_eq_true rfl) ⟨by decide, by decide, by decide, by decide⟩) (fun r4649 u4650 h4648 => ?_)
  obtain ⟨rfl, rfl⟩ := h4648
  refine z_if_eq_f (tgt := 36) b dX12_lawful_4 (by decide) (by decide) ?_
  refine z_iload_n b dX12_lawful_7 rfl rfl ?_
  refine z_iconst (v := 1) b dX12_lawful_8 (by decide) ?_
  refine z_iconst (v := 3) b dX12_lawful_9 (by decide) ?_
  refine z_calli b (z_runS (As := [.int p0, .int 1, .int 3]) (st := []) b (c_X12_isIn_51 S p0 ⟨by omega, by omega⟩) cf_X12_isIn wm_X12_1 ws_X12_isIn dX12_lawful_10 rfl (Nat.le_of_ble_eq_true rfl) ⟨by decide, by decide, by decide, by decide⟩) (fun r4652 u4653 h4651 => ?_)
  obtain ⟨rfl, rfl⟩ := h4651
  refine z_if_eq_f (tgt := 36) b dX12_lawful_13 (by decide) (by decide) ?_
  refine z_iload_n b dX12_lawful_16 rfl rfl ?_
  refine z_iconst (v := 0) b dX12_lawful_17 (by decide) ?_
  refine z_bipush (v := 31) b dX12_lawful_18 (by decide) ?_
  refine z_calli b (z_runS (As := [.int p1, .int 0, .int 31]) (st := []) b (c_X12_isIn_53 S p1 ⟨by omega, by omega⟩) cf_X12_isIn wm_X12_1 ws_X12_isIn dX12_lawful_20 rfl (Nat.le_of_ble_eq_true rfl) ⟨by decide, by decide, by decide, by decide⟩) (fun r4655 u4656 h4654 => ?_)
  obtain ⟨rfl, rfl⟩ := h4654
  refine z_if_eq_t (tgt := 36) b dX12_lawful_23 (by decide) (by decide) ?_
  refine z_iconst (v := (-1)) b dX12_lawful_36 (by decide) ?_
  exact z_iret (u := S) b rfl dX12_lawful_37 ⟨rfl, rfl⟩ rfl (by decide) (by decide)

set_option maxHeartbeats 4000000 in
set_option maxRecDepth 100000 in
theorem c_X11_lawful_25 {l : Launch} {D : va_G} {cy : Nat → ClassId} {T0 tB tE : Nat} {a : Nat → Nat} {rw : Nat → Option Nat} (S : GS) (p0 : Int32) (p1 : Int32) (p2 : Int32)  (hr_p0 : 1 ≤ p0.toInt ∧ p0.toInt ≤ 3) (hr_p1 : (-2147483648) ≤ p1.toInt ∧ p1.toInt ≤ (-1)) : Ct l D cy T0 tB tE yX11_lawful cX11_lawful 6 (some .int) 1 21 0 0 (cw cy tE a rw S) [.ref (a 0), .int 5, .int p0, .int p1, .int p2] (QI D (U := GS) (fun r u => (-1) = r ∧ S = u) (cw cy tE a rw)) := by
  refine Ct.ofZ RX11 "lawful" [(0, .ref (a 0)), (1, .int 5), (2, .int p0), (3, .int p1), (4, .int p2)] rfl rfl rfl rfl (Nat.le_of_ble_eq_true rfl) ?_
  intro p e R s m args below meth c A b
  refine z_iload_n b dX11_lawful_0 rfl rfl ?_
  refine z_calli b (z_runS (As := [.int 5]) (st := []) b (c_X11_isRow_8 S ) cf_X11_isRow wm_X11_169 ws_X11_isRow dX11_lawful_1 rfl (Nat.le_of_ble_eq_true rfl) ⟨by decide, by decide, by decide, by decide⟩) (fun r4658 u4659 h4657 => ?_)
  obtain ⟨rfl, rfl⟩ := h4657
  refine z_if_eq_f (tgt := 32) b dX11_lawful_4 (by decide) (by decide) ?_
  refine z_iload_n b dX11_lawful_7 rfl rfl ?_
  refine z_calli b (z_runS (As := [.int p0]) (st := []) b (c_X11_areLaws_3 S p0 ⟨by omega, by omega⟩) cf_X11_areLaws wm_X11_181 ws_X11_areLaws dX11_lawful_8 rfl (Nat.le_of_ble_eq_true rfl) ⟨by decide, by decide, by decide, by decide⟩) (fun r4661 u4662 h4660 => ?_)
  obtain ⟨rfl, rfl⟩ := h4660
  refine z_if_eq_f (tgt := 32) b dX11_lawful_11 (by decide) (by decide) ?_
  refine z_iload_n b dX11_lawful_14 rfl rfl ?_
  refine z_bipush (v := 31) b dX11_lawful_15 (by decide) ?_
  refine z_calli b (z_runS (As := [.int p1, .int 31]) (st := []) b (c_X11_isWithin_23 S p1 ⟨by omega, by omega⟩) cf_X11_isWithin wm_X11_73 ws_X11_isWithin dX11_lawful_17 rfl (Nat.le_of_ble_eq_true rfl) ⟨by decide, by decide, by decide, by decide⟩) (fun r4664 u4665 h4663 => ?_)
  obtain ⟨rfl, rfl⟩ := h4663
  refine z_if_eq_t (tgt := 32) b dX11_lawful_20 (by decide) (by decide) ?_
  refine z_iconst (v := (-1)) b dX11_lawful_32 (by decide) ?_
  exact z_iret (u := S) b rfl dX11_lawful_33 ⟨rfl, rfl⟩ rfl (by decide) (by decide)

set_option maxHeartbeats 4000000 in
set_option maxRecDepth 100000 in
theorem c_X12_lawful_25 {l : Launch} {D : va_G} {cy : Nat → ClassId} {T0 tB tE : Nat} {a : Nat → Nat} (S : GS) (p0 : Int32) (p1 : Int32) (p2 : Int32)  (hr_p0 : 1 ≤ p0.toInt ∧ p0.toInt ≤ 3) (hr_p1 : (-2147483648) ≤ p1.toInt ∧ p1.toInt ≤ (-1)) : Ct l D cy T0 tB tE yX12_lawful cX12_lawful 6 (some .int) 2 42 0 0 (mw cy a S) [.ref (a 0), .int 5, .int p0, .int p1, .int p2] (QI D (U := GS) (fun r u => (-1) = r ∧ S = u) (mw cy a)) := by
  refine Ct.ofZ RX12 "lawful" [(0, .ref (a 0)), (1, .int 5), (2, .int p0), (3, .int p1), (4, .int p2)] rfl rfl rfl rfl (Nat.le_of_ble_eq_true rfl) ?_
  intro p e R s m args below meth c A b
  refine z_iload_n b dX12_lawful_0 rfl rfl ?_
  refine z_calli b (z_runS (As := [.int 5]) (st := []) b (c_X12_isRow_8 S ) cf_X12_isRow wm_X12_452 ws_X12_isRow dX12_lawful_1 rfl (Nat.le_of_ble_eq_true rfl) ⟨by decide, by decide, by decide, by decide⟩) (fun r4667 u4668 h4666 => ?_)
  obtain ⟨rfl, rfl⟩ := h4666
  refine z_if_eq_f (tgt := 36) b dX12_lawful_4 (by decide) (by decide) ?_
  refine z_iload_n b dX12_lawful_7 rfl rfl ?_
  refine z_iconst (v := 1) b dX12_lawful_8 (by decide) ?_
  refine z_iconst (v := 3) b dX12_lawful_9 (by decide) ?_
  refine z_calli b (z_runS (As := [.int p0, .int 1, .int 3]) (st := []) b (c_X12_isIn_51 S p0 ⟨by omega, by omega⟩) cf_X12_isIn wm_X12_1 ws_X12_isIn dX12_lawful_10 rfl (Nat.le_of_ble_eq_true rfl) ⟨by decide, by decide, by decide, by decide⟩) (fun r4670 u4671 h4669 => ?_)
  obtain ⟨rfl, rfl⟩ := h4669
  refine z_if_eq_f (tgt := 36) b dX12_lawful_13 (by decide) (by decide) ?_
  refine z_iload_n b dX12_lawful_16 rfl rfl ?_
  refine z_iconst (v := 0) b dX12_lawful_17 (by decide) ?_
  refine z_bipush (v := 31) b dX12_lawful_18 (by decide) ?_
  refine z_calli b (z_runS (As := [.int p1, .int 0, .int 31]) (st := []) b (c_X12_isIn_52 S p1 ⟨by omega, by omega⟩) cf_X12_isIn wm_X12_1 ws_X12_isIn dX12_lawful_20 rfl (Nat.le_of_ble_eq_true rfl) ⟨by decide, by decide, by decide, by decide⟩) (fun r4673 u4674 h4672 => ?_)
  obtain ⟨rfl, rfl⟩ := h4672
  refine z_if_eq_t (tgt := 36) b dX12_lawful_23 (by decide) (by decide) ?_
  refine z_iconst (v := (-1)) b dX12_lawful_36 (by decide) ?_
  exact z_iret (u := S) b rfl dX12_lawful_37 ⟨rfl, rfl⟩ rfl (by decide) (by decide)

set_option maxHeartbeats 4000000 in
set_option maxRecDepth 100000 in
theorem c_X11_lawful_26 {l : Launch} {D : va_G} {cy : Nat → ClassId} {T0 tB tE : Nat} {a : Nat → Nat} {rw : Nat → Option Nat} (S : GS) (p0 : Int32) (p1 : Int32) (p2 : Int32)  (hr_p0 : 1 ≤ p0.toInt ∧ p0.toInt ≤ 3) (hr_p1 : 32 ≤ p1.toInt ∧ p1.toInt ≤ 2147483647) : Ct l D cy T0 tB tE yX11_lawful cX11_lawful 6 (some .int) 1 21 0 0 (cw cy tE a rw S) [.ref (a 0), .int 5, .int p0, .int p1, .int p2] (QI D (U := GS) (fun r u => (-1) = r ∧ S = u) (cw cy tE a rw)) := by
  refine Ct.ofZ RX11 "lawful" [(0, .ref (a 0)), (1, .int 5), (2, .int p0), (3, .int p1), (4, .int p2)] rfl rfl rfl rfl (Nat.le_of_ble_eq_true rfl) ?_
  intro p e R s m args below meth c A b
  refine z_iload_n b dX11_lawful_0 rfl rfl ?_
  refine z_calli b (z_runS (As := [.int 5]) (st := []) b (c_X11_isRow_8 S ) cf_X11_isRow wm_X11_169 ws_X11_isRow dX11_lawful_1 rfl (Nat.le_of_ble_eq_true rfl) ⟨by decide, by decide, by decide, by decide⟩) (fun r4676 u4677 h4675 => ?_)
  obtain ⟨rfl, rfl⟩ := h4675
  refine z_if_eq_f (tgt := 32) b dX11_lawful_4 (by decide) (by decide) ?_
  refine z_iload_n b dX11_lawful_7 rfl rfl ?_
  refine z_calli b (z_runS (As := [.int p0]) (st := []) b (c_X11_areLaws_3 S p0 ⟨by omega, by omega⟩) cf_X11_areLaws wm_X11_181 ws_X11_areLaws dX11_lawful_8 rfl (Nat.le_of_ble_eq_true rfl) ⟨by decide, by decide, by decide, by decide⟩) (fun r4679 u4680 h4678 => ?_)
  obtain ⟨rfl, rfl⟩ := h4678
  refine z_if_eq_f (tgt := 32) b dX11_lawful_11 (by decide) (by decide) ?_
  refine z_iload_n b dX11_lawful_14 rfl rfl ?_
  refine z_bipush (v := 31) b dX11_lawful_15 (by decide) ?_
  refine z_calli b (z_runS (As := [.int p1, .int 31]) (st := []) b (c_X11_isWithin_24 S p1 ⟨by omega, by omega⟩) cf_X11_isWithin wm_X11_73 ws_X11_isWithin dX11_lawful_17 rfl (Nat.le_of_ble_eq_true rfl) ⟨by decide, by decide, by decide, by decide⟩) (fun r4682 u4683 h4681 => ?_)
  obtain ⟨rfl, rfl⟩ := h4681
  refine z_if_eq_t (tgt := 32) b dX11_lawful_20 (by decide) (by decide) ?_
  refine z_iconst (v := (-1)) b dX11_lawful_32 (by decide) ?_
  exact z_iret (u := S) b rfl dX11_lawful_33 ⟨rfl, rfl⟩ rfl (by decide) (by decide)

set_option maxHeartbeats 4000000 in
set_option maxRecDepth 100000 in
theorem c_X12_lawful_26 {l : Launch} {D : va_G} {cy : Nat → ClassId} {T0 tB tE : Nat} {a : Nat → Nat} (S : GS) (p0 : Int32) (p1 : Int32) (p2 : Int32)  (hr_p0 : 1 ≤ p0.toInt ∧ p0.toInt ≤ 3) (hr_p1 : 32 ≤ p1.toInt ∧ p1.toInt ≤ 2147483647) : Ct l D cy T0 tB tE yX12_lawful cX12_lawful 6 (some .int) 2 42 0 0 (mw cy a S) [.ref (a 0), .int 5, .int p0, .int p1, .int p2] (QI D (U := GS) (fun r u => (-1) = r ∧ S = u) (mw cy a)) := by
  refine Ct.ofZ RX12 "lawful" [(0, .ref (a 0)), (1, .int 5), (2, .int p0), (3, .int p1), (4, .int p2)] rfl rfl rfl rfl (Nat.le_of_ble_eq_true rfl) ?_
  intro p e R s m args below meth c A b
  refine z_iload_n b dX12_lawful_0 rfl rfl ?_
  refine z_calli b (z_runS (As := [.int 5]) (st := []) b (c_X12_isRow_8 S ) cf_X12_isRow wm_X12_452 ws_X12_isRow dX12_lawful_1 rfl (Nat.le_of_ble_eq_true rfl) ⟨by decide, by decide, by decide, by decide⟩) (fun r4685 u4686 h4684 => ?_)
  obtain ⟨rfl, rfl⟩ := h4684
  refine z_if_eq_f (tgt := 36) b dX12_lawful_4 (by decide) (by decide) ?_
  refine z_iload_n b dX12_lawful_7 rfl rfl ?_
  refine z_iconst (v := 1) b dX12_lawful_8 (by decide) ?_
  refine z_iconst (v := 3) b dX12_lawful_9 (by decide) ?_
  refine z_calli b (z_runS (As := [.int p0, .int 1, .int 3]) (st := []) b (c_X12_isIn_51 S p0 ⟨by omega, by omega⟩) cf_X12_isIn wm_X12_1 ws_X12_isIn dX12_lawful_10 rfl (Nat.le_of_ble_eq_true rfl) ⟨by decide, by decide, by decide, by decide⟩) (fun r4688 u4689 h4687 => ?_)
  obtain ⟨rfl, rfl⟩ := h4687
  refine z_if_eq_f (tgt := 36) b dX12_lawful_13 (by decide) (by decide) ?_
  refine z_iload_n b dX12_lawful_16 rfl rfl ?_
  refine z_iconst (v := 0) b dX12_lawful_17 (by decide) ?_
  refine z_bipush (v := 31) b dX12_lawful_18 (by decide) ?_
  refine z_calli b (z_runS (As := [.int p1, .int 0, .int 31]) (st := []) b (c_X12_isIn_53 S p1 ⟨by omega, by omega⟩) cf_X12_isIn wm_X12_1 ws_X12_isIn dX12_lawful_20 rfl (Nat.le_of_ble_eq_true rfl) ⟨by decide, by decide, by decide, by decide⟩) (fun r4691 u4692 h4690 => ?_)
  obtain ⟨rfl, rfl⟩ := h4690
  refine z_if_eq_t (tgt := 36) b dX12_lawful_23 (by decide) (by decide) ?_
  refine z_iconst (v := (-1)) b dX12_lawful_36 (by decide) ?_
  exact z_iret (u := S) b rfl dX12_lawful_37 ⟨rfl, rfl⟩ rfl (by decide) (by decide)

set_option maxHeartbeats 4000000 in
set_option maxRecDepth 100000 in
theorem c_X11_isWithin_25 {l : Launch} {D : va_G} {cy : Nat → ClassId} {T0 tB tE : Nat} {a : Nat → Nat} {rw : Nat → Option Nat} (S : GS) (p0 : Int32)  (hr_p0 : 0 ≤ p0.toInt ∧ p0.toInt ≤ 31) : Ct l D cy T0 tB tE yX11_isWithin cX11_isWithin 2 (some .boolean) 0 0 0 0 (cw cy tE a rw S) [.int p0, .int 31] (QI D (U := GS) (fun r u => 1 = r ∧ S = u) (cw cy tE a rw)) := by
  refine Ct.ofZ RX11 "isWithin" [(0, .int p0), (1, .int 31)] rfl rfl rfl rfl (Nat.le_of_ble_eq_true rfl) ?_
  intro p e R s m args below meth c A b
  refine z_iload_n b dX11_isWithin_0 rfl rfl ?_
  refine y_if_lt (tgt := 13) (xl := p0.toInt) b rfl dX11_isWithin_1 (by decide) (fun c4699 => ?_) (fun c4699 => ?_)
  · exfalso; omega
  · refine z_iload_n b dX11_isWithin_4 rfl rfl ?_
    refine z_iload_n b dX11_isWithin_5 rfl rfl ?_
    refine y_icmp_gt (tgt := 13) (xl := p0.toInt) (yl := 31) b rfl (by decide) dX11_isWithin_6 (by decide) (fun c4700 => ?_) (fun c4700 => ?_)
    · exfalso; omega
    · refine z_iconst (v := 1) b dX11_isWithin_9 (by decide) ?_
      refine z_goto (tgt := 14) b dX11_isWithin_10 (by decide) ?_
      exact z_zret (u := S) b rfl (by decide) dX11_isWithin_14 ⟨rfl, rfl⟩ rfl (by decide) (by decide)

set_option maxHeartbeats 4000000 in
set_option maxRecDepth 100000 in
theorem c_X11_lawful_27 {l : Launch} {D : va_G} {cy : Nat → ClassId} {T0 tB tE : Nat} {a : Nat → Nat} {rw : Nat → Option Nat} (S : GS) (p0 : Int32) (p1 : Int32) (p2 : Int32)  (hr_p0 : 1 ≤ p0.toInt ∧ p0.toInt ≤ 3) (hr_p1 : 0 ≤ p1.toInt ∧ p1.toInt ≤ 31) (hr_p2 : (-2147483648) ≤ p2.toInt ∧ p2.toInt ≤ (-1)) : Ct l D cy T0 tB tE yX11_lawful cX11_lawful 6 (some .int) 1 21 0 0 (cw cy tE a rw S) [.ref (a 0), .int 0, .int p0, .int p1, .int p2] (QI D (U := GS) (fun r u => (-1) = r ∧ S = u) (cw cy tE a rw)) := by
  refine Ct.ofZ RX11 "lawful" [(0, .ref (a 0)), (1, .int 0), (2, .int p0), (3, .int p1), (4, .int p2)] rfl rfl rfl rfl (Nat.le_of_ble_eq_true rfl) ?_
  intro p e R s m args below meth c A b
  refine z_iload_n b dX11_lawful_0 rfl rfl ?_
  refine z_calli b (z_runS (As := [.int 0]) (st := []) b (c_X11_isRow_3 S ) cf_X11_isRow wm_X11_169 ws_X11_isRow dX11_lawful_1 rfl (Nat.le_of_ble_eq_true rfl) ⟨by decide, by decide, by decide, by decide⟩) (fun r4694 u4695 h4693 => ?_)
  obtain ⟨rfl, rfl⟩ := h4693
  refine z_if_eq_f (tgt := 32) b dX11_lawful_4 (by decide) (by decide) ?_
  refine z_iload_n b dX11_lawful_7 rfl rfl ?_
  refine z_calli b (z_runS (As := [.int p0]) (st := []) b (c_X11_areLaws_3 S p0 ⟨by omega, by omega⟩) cf_X11_areLaws wm_X11_181 ws_X11_areLaws dX11_lawful_8 rfl (Nat.le_of_ble_eq_true rfl) ⟨by decide, by decide, by decide, by decide⟩) (fun r4697 u4698 h4696 => ?_)
  obtain ⟨rfl, rfl⟩ := h4696
  refine z_if_eq_f (tgt := 32) b dX11_lawful_11 (by decide) (by decide) ?_
  refine z_iload_n b dX11_lawful_14 rfl rfl ?_
  refine z_bipush (v := 31) b dX11_lawful_15 (by decide) ?_
  refine z_calli b (z_runS (As := [.int p1, .int 31]) (st := []) b (c_X11_isWithin_25 S p1 ⟨by omega, by omega⟩) cf_X11_isWithin wm_X11_73 ws_X11_isWithin dX11_lawful_17 rfl (Nat.le_of_ble_eq_true rfl) ⟨by decide, by decide, by decide, by decide⟩) (fun r4702 u4703 h4701 => ?_)
  obtain ⟨rfl, rfl⟩ := h4701
  refine z_if_eq_f (tgt := 32) b dX11_lawful_20 (by decide) (by decide) ?_
  refine z_iload b dX11_lawful_23 rfl ?_
  refine z_iconst (v := 1) b dX11_lawful_25 (by decide) ?_
  refine z_calli b (z_runS (As := [.int p2, .int 1]) (st := []) b (c_X11_isWithin_10 S p2 ⟨by omega, by omega⟩) cf_X11_isWithin wm_X11_73 ws_X11_isWithin dX11_lawful_26 rfl (Nat.le_of_ble_eq_true rfl) ⟨by decide, by decide, by decide, by decide⟩) (fun r4705 u4706 h4704 => ?_)
  obtain ⟨rfl, rfl⟩ := h4704
  refine z_if_ne_f (tgt := 34) b dX11_lawful_29 (by decide) (by decide) ?_
  refine z_iconst (v := (-1)) b dX11_lawful_32 (by decide) ?_
  exact z_iret (u := S) b rfl dX11_lawful_33 ⟨rfl, rfl⟩ rfl (by decide) (by decide)

set_option maxHeartbeats 4000000 in
set_option maxRecDepth 100000 in
theorem c_X12_isIn_54 {l : Launch} {D : va_G} {cy : Nat → ClassId} {T0 tB tE : Nat} {a : Nat → Nat} (S : GS) (p0 : Int32)  (hr_p0 : 0 ≤ p0.toInt ∧ p0.toInt ≤ 31) : Ct l D cy T0 tB tE yX12_isIn cX12_isIn 3 (some .boolean) 0 0 0 0 (mw cy a S) [.int p0, .int 0, .int 31] (QI D (U := GS) (fun r u => 1 = r ∧ S = u) (mw cy a)) := by
  refine Ct.ofZ RX12 "isIn" [(0, .int p0), (1, .int 0), (2, .int 31)] rfl rfl rfl rfl (Nat.le_of_ble_eq_true rfl) ?_
  intro p e R s m args below meth c A b
  refine z_iload_n b dX12_isIn_0 rfl rfl ?_
  refine z_iload_n b dX12_isIn_1 rfl rfl ?_
  refine y_icmp_lt (tgt := 14) (xl := p0.toInt) (yl := 0) b rfl (by decide) dX12_isIn_2 (by decide) (fun c4713 => ?_) (fun c4713 => ?_)
  · exfalso; omega
  · refine z_iload_n b dX12_isIn_5 rfl rfl ?_
    refine z_iload_n b dX12_isIn_6 rfl rfl ?_
    refine y_icmp_gt (tgt := 14) (xl := p0.toInt) (yl := 31) b rfl (by decide) dX12_isIn_7 (by decide) (fun c4714 => ?_) (fun c4714 => ?_)
    · exfalso; omega
    · refine z_iconst (v := 1) b dX12_isIn_10 (by decide) ?_
      refine z_goto (tgt := 15) b dX12_isIn_11 (by decide) ?_
      exact z_zret (u := S) b rfl (by decide) dX12_isIn_15 ⟨rfl, rfl⟩ rfl (by decide) (by decide)

set_option maxHeartbeats 4000000 in
set_option maxRecDepth 100000 in
theorem c_X12_lawful_27 {l : Launch} {D : va_G} {cy : Nat → ClassId} {T0 tB tE : Nat} {a : Nat → Nat} (S : GS) (p0 : Int32) (p1 : Int32) (p2 : Int32)  (hr_p0 : 1 ≤ p0.toInt ∧ p0.toInt ≤ 3) (hr_p1 : 0 ≤ p1.toInt ∧ p1.toInt ≤ 31) (hr_p2 : (-2147483648) ≤ p2.toInt ∧ p2.toInt ≤ (-1)) : Ct l D cy T0 tB tE yX12_lawful cX12_lawful 6 (some .int) 2 42 0 0 (mw cy a S) [.ref (a 0), .int 0, .int p0, .int p1, .int p2] (QI D (U := GS) (fun r u => (-1) = r ∧ S = u) (mw cy a)) := by
  refine Ct.ofZ RX12 "lawful" [(0, .ref (a 0)), (1, .int 0), (2, .int p0), (3, .int p1), (4, .int p2)] rfl rfl rfl rfl (Nat.le_of_ble_eq_true rfl) ?_
  intro p e R s m args below meth c A b
  refine z_iload_n b dX12_lawful_0 rfl rfl ?_
  refine z_calli b (z_runS (As := [.int 0]) (st := []) b (c_X12_isRow_3 S ) cf_X12_isRow wm_X12_452 ws_X12_isRow dX12_lawful_1 rfl (Nat.le_of_ble_eq_true rfl) ⟨by decide, by decide, by decide, by decide⟩) (fun r4708 u4709 h4707 => ?_)
  obtain ⟨rfl, rfl⟩ := h4707
  refine z_if_eq_f (tgt := 36) b dX12_lawful_4 (by decide) (by decide) ?_
  refine z_iload_n b dX12_lawful_7 rfl rfl ?_
  refine z_iconst (v := 1) b dX12_lawful_8 (by decide) ?_
  refine z_iconst (v := 3) b dX12_lawful_9 (by decide) ?_
  refine z_calli b (z_runS (As := [.int p0, .int 1, .int 3]) (st := []) b (c_X12_isIn_51 S p0 ⟨by omega, by omega⟩) cf_X12_isIn wm_X12_1 ws_X12_isIn dX12_lawful_10 rfl (Nat.le_of_ble_eq_true rfl) ⟨by decide, by decide, by decide, by decide⟩) (fun r4711 u4712 h4710 => ?_)
  obtain ⟨rfl, rfl⟩ := h4710
  refine z_if_eq_f (tgt := 36) b dX12_lawful_13 (by decide) (by decide) ?_
  refine z_iload_n b dX12_lawful_16 rfl rfl ?_
  refine z_iconst (v := 0) b dX12_lawful_17 (by decide) ?_
  refine z_bipush (v := 31) b dX12_lawful_18 (by decide) ?_
  refine z_calli b (z_runS (As := [.int p1, .int 0, .int 31]) (st := []) b (c_X12_isIn_54 S p1 ⟨by omega, by omega⟩) cf_X12_isIn wm_X12_1 ws_X12_isIn dX12_lawful_20 rfl (Nat.le_of_ble_eq_true rfl) ⟨by decide, by decide, by decide, by decide⟩) (fun r4716 u4717 h4715 => ?_)
  obtain ⟨rfl, rfl⟩ := h4715
  refine z_if_eq_f (tgt := 36) b dX12_lawful_23 (by decide) (by decide) ?_
  refine z_iload b dX12_lawful_26 rfl ?_
  refine z_iconst (v := 0) b dX12_lawful_28 (by decide) ?_
  refine z_iconst (v := 1) b dX12_lawful_29 (by decide) ?_
  refine z_calli b (z_runS (As := [.int p2, .int 0, .int 1]) (st := []) b (c_X12_isIn_15 S p2 ⟨by omega, by omega⟩) cf_X12_isIn wm_X12_1 ws_X12_isIn dX12_lawful_30 rfl (Nat.le_of_ble_eq_true rfl) ⟨by decide, by decide, by decide, by decide⟩) (fun r4719 u4720 h4718 => ?_)
  obtain ⟨rfl, rfl⟩ := h4718
  refine z_if_ne_f (tgt := 38) b dX12_lawful_33 (by decide) (by decide) ?_
  refine z_iconst (v := (-1)) b dX12_lawful_36 (by decide) ?_
  exact z_iret (u := S) b rfl dX12_lawful_37 ⟨rfl, rfl⟩ rfl (by decide) (by decide)

set_option maxHeartbeats 4000000 in
set_option maxRecDepth 100000 in
theorem c_X9_copy {l : Launch} {D : va_G} {cy : Nat → ClassId} {T0 tB tE : Nat} {a : Nat → Nat} {rw : Nat → Option Nat} (S : GS)   : Ct l D cy T0 tB tE yX9_copy cX9_copy 2 none 1 40 0 0 (cw cy tE a rw S) [.ref (a 23), .ref (a 14)] (QV D (U := GS) (fun u => sa S 8 (va_cpy (ar S 4) (ar S 8) 0 0 51) = u) (cw cy tE a rw)) := by
  refine Ct.ofZ RX9 "copy" [(0, .ref (a 23)), (1, .ref (a 14))] rfl rfl rfl rfl (Nat.le_of_ble_eq_true rfl) ?_
  intro p e R s m args below meth c A b
  refine z_aload_n b dX9_copy_0 rfl rfl ?_
  refine z_get (q0 := 14) (k9 := 0) (v := .ref (a 15)) b (cw_14 cy tE a rw S) rfl in_X9 (by decide) wf_X9_11 rfl dX9_copy_1 ?_
  refine z_iconst (v := 0) b dX9_copy_4 (by decide) ?_
  refine z_aload_n b dX9_copy_5 rfl rfl ?_
  refine z_get (q0 := 23) (k9 := 0) (v := .ref (a 24)) b (cw_23 cy tE a rw S) rfl in_X9 (by decide) wf_X9_11 rfl dX9_copy_6 ?_
  refine z_iconst (v := 0) b dX9_copy_9 (by decide) ?_
  refine z_aload_n b dX9_copy_10 rfl rfl ?_
  refine z_get (q0 := 23) (k9 := 0) (v := .ref (a 24)) b (cw_23 cy tE a rw S) rfl in_X9 (by decide) wf_X9_11 rfl dX9_copy_11 ?_
  refine z_alen (q0 := 24) (t0 := 0) (v := 51) b (cw_24 cy tE a rw S) rfl rfl dX9_copy_14 ?_
  refine z_copyi (q0 := 15) (q1 := 24) (j0 := 0) (j1 := 0) (jn := 51) b wm_X9_26 wn_arraycopy ws_arraycopy wi_System (cw_15 cy tE a rw S) (cw_24 cy tE a rw S) (by decide) (by decide) (by decide) (by decide) (by decide) (by decide) (by decide +kernel) dX9_copy_15 (cwf_24 cy tE a rw S _) ?_
  exact z_vret (u := (sa S 8 (va_cpy (ar S 4) (ar S 8) 0 0 51))) b rfl dX9_copy_18 rfl rfl (by decide) (by decide)

set_option maxHeartbeats 4000000 in
set_option maxRecDepth 100000 in
theorem c_X2_follow {l : Launch} {D : va_G} {cy : Nat → ClassId} {T0 tB tE : Nat} {a : Nat → Nat} {rw : Nat → Option Nat} (S : GS) (p0 : Int32) (p1 : Int32) (h_i_14 : fi S 14 = (-1)) (h_i_27 : fi S 27 = 0) (hr_p0 : 1 ≤ p0.toInt ∧ p0.toInt ≤ 3) (hr_p1 : 0 ≤ p1.toInt ∧ p1.toInt ≤ 31) : Ct l D cy T0 tB tE yX2_follow cX2_follow 6 (some .int) 2 61 0 0 (cw cy tE a rw S) [.ref (a 16), .ref (a 36), .ref (a 14), .int p0, .int p1] (QI D (U := GS) (fun r u => 0 = r ∧ sa S 8 (va_cpy (ar S 4) (ar S 8) 0 0 51) = u) (cw cy tE a rw)) := by
  refine Ct.ofZ RX2 "follow" [(0, .ref (a 16)), (1, .ref (a 36)), (2, .ref (a 14)), (3, .int p0), (4, .int p1)] rfl rfl rfl rfl (Nat.le_of_ble_eq_true rfl) ?_
  intro p e R s m args below meth c A b
  refine z_aload_n b dX2_follow_0 rfl rfl ?_
  refine z_get (q0 := 16) (k9 := 3) (v := .ref (a 23)) b (cw_16 cy tE a rw S) rfl in_X2 (by decide) wf_X2_25 rfl dX2_follow_1 ?_
  refine z_aload_n b dX2_follow_4 rfl rfl ?_
  refine z_callv b (z_runV (q0 := 23) (As := [.ref (a 14)]) (st := []) b (c_X9_copy S ) cf_X9_copy (cw_23 cy tE a rw S) rfl wm_X2_80 wi_X9_copy ws_X9_copy dX2_follow_5 rfl (Nat.le_of_ble_eq_true rfl) ⟨by decide, by decide, by decide, by decide⟩) (fun u4735 h4733 => ?_)
  obtain rfl := h4733
  refine z_aload_n b dX2_follow_8 rfl rfl ?_
  refine z_iconst (v := (-1)) b dX2_follow_9 (by decide) ?_
  refine z_put (q0 := 16) (k9 := 4) tyX2 b (cw_16 cy tE a rw (sa S 8 (va_cpy (ar S 4) (ar S 8) 0 0 51))) rfl in_X2 tyX2_ok nmX2 (by decide) wf_X2_28 rfl rfl rfl rfl (Nat.le_of_ble_eq_true rfl) dX2_follow_10 ((cwp_16_4 cy tE a rw (sa S 8 (va_cpy (ar S 4) (ar S 8) 0 0 51)) (-1)).trans (congrArg (cw cy tE a rw) (si_same h_i_14))) ?_
  refine z_iconst (v := 0) b dX2_follow_13 (by decide) ?_
  refine z_istore (lv' := [(5, .int 0), (0, .ref (a 16)), (1, .ref (a 36)), (2, .ref (a 14)), (3, .int p0), (4, .int p1)]) b dX2_follow_14 (by decide) rfl ?_
  refine z_iload b dX2_follow_16 rfl ?_
  refine z_aload_n b dX2_follow_18 rfl rfl ?_
  refine z_get (q0 := 36) (k9 := 1) (v := .int (fi (sa S 8 (va_cpy (ar S 4) (ar S 8) 0 0 51)) 27)) b (cw_36 cy tE a rw (sa S 8 (va_cpy (ar S 4) (ar S 8) 0 0 51))) rfl in_X7 (by decide) wf_X2_108 rfl dX2_follow_19 ?_
  refine z_eqi h_i_27 ?_
  refine z_icmp_ge_t (tgt := 74) b dX2_follow_22 (by decide) (by decide) ?_
  refine z_aload_n b dX2_follow_74 rfl rfl ?_
  refine z_get (q0 := 36) (k9 := 1) (v := .int (fi (sa S 8 (va_cpy (ar S 4) (ar S 8) 0 0 51)) 27)) b (cw_36 cy tE a rw (sa S 8 (va_cpy (ar S 4) (ar S 8) 0 0 51))) rfl in_X7 (by decide) wf_X2_108 rfl dX2_follow_75 ?_
  refine z_eqi h_i_27 ?_
  exact z_iret (u := (sa S 8 (va_cpy (ar S 4) (ar S 8) 0 0 51))) b rfl dX2_follow_78 ⟨rfl, rfl⟩ rfl (by decide) (by decide)

set_option maxHeartbeats 4000000 in
set_option maxRecDepth 100000 in
theorem c_X11_lawful_28 {l : Launch} {D : va_G} {cy : Nat → ClassId} {T0 tB tE : Nat} {a : Nat → Nat} {rw : Nat → Option Nat} (S : GS) (p0 : Int32) (p1 : Int32) (h_i_14 : fi S 14 = (-1)) (h_i_27 : fi S 27 = 0) (hrw : ∀ i, i < 6 → rw i = some (a (36 + 2 * i))) (hr_p0 : 1 ≤ p0.toInt ∧ p0.toInt ≤ 3) (hr_p1 : 0 ≤ p1.toInt ∧ p1.toInt ≤ 31) : Ct l D cy T0 tB tE yX11_lawful cX11_lawful 6 (some .int) 3 86 0 0 (cw cy tE a rw S) [.ref (a 0), .int 0, .int p0, .int p1, .int 0] (QI D (U := GS) (fun r u => 0 = r ∧ sa S 8 (va_cpy (ar S 4) (ar S 8) 0 0 51) = u) (cw cy tE a rw)) := by
  refine Ct.ofZ RX11 "lawful" [(0, .ref (a 0)), (1, .int 0), (2, .int p0), (3, .int p1), (4, .int 0)] rfl rfl rfl rfl (Nat.le_of_ble_eq_true rfl) ?_
  intro p e R s m args below meth c A b
  refine z_iload_n b dX11_lawful_0 rfl rfl ?_
  refine z_calli b (z_runS (As := [.int 0]) (st := []) b (c_X11_isRow_3 S ) cf_X11_isRow wm_X11_169 ws_X11_isRow dX11_lawful_1 rfl (Nat.le_of_ble_eq_true rfl) ⟨by decide, by decide, by decide, by decide⟩) (fun r4722 u4723 h4721 => ?_)
  obtain ⟨rfl, rfl⟩ := h4721
  refine z_if_eq_f (tgt := 32) b dX11_lawful_4 (by decide) (by decide) ?_
  refine z_iload_n b dX11_lawful_7 rfl rfl ?_
  refine z_calli b (z_runS (As := [.int p0]) (st := []) b (c_X11_areLaws_3 S p0 ⟨by omega, by omega⟩) cf_X11_areLaws wm_X11_181 ws_X11_areLaws dX11_lawful_8 rfl (Nat.le_of_ble_eq_true rfl) ⟨by decide, by decide, by decide, by decide⟩) (fun r4725 u4726 h4724 => ?_)
  obtain ⟨rfl, rfl⟩ := h4724
  refine z_if_eq_f (tgt := 32) b dX11_lawful_11 (by decide) (by decide) ?_
  refine z_iload_n b dX11_lawful_14 rfl rfl ?_
  refine z_bipush (v := 31) b dX11_lawful_15 (by decide) ?_
  refine z_calli b (z_runS (As := [.int p1, .int 31]) (st := []) b (c_X11_isWithin_25 S p1 ⟨by omega, by omega⟩) cf_X11_isWithin wm_X11_73 ws_X11_isWithin dX11_lawful_17 rfl (Nat.le_of_ble_eq_true rfl) ⟨by decide, by decide, by decide, by decide⟩) (fun r4728 u4729 h4727 => ?_)
  obtain ⟨rfl, rfl⟩ := h4727
  refine z_if_eq_f (tgt := 32) b dX11_lawful_20 (by decide) (by decide) ?_
  refine z_iload b dX11_lawful_23 rfl ?_
  refine z_iconst (v := 1) b dX11_lawful_25 (by decide) ?_
  refine z_calli b (z_runS (As := [.int 0, .int 1]) (st := []) b (c_X11_isWithin_11 S ) cf_X11_isWithin wm_X11_73 ws_X11_isWithin dX11_lawful_26 rfl (Nat.le_of_ble_eq_true rfl) ⟨by decide, by decide, by decide, by decide⟩) (fun r4731 u4732 h4730 => ?_)
  obtain ⟨rfl, rfl⟩ := h4730
  refine z_if_ne_t (tgt := 34) b dX11_lawful_29 (by decide) (by decide) ?_
  refine z_aload_n b dX11_lawful_34 rfl rfl ?_
  refine z_get (q0 := 0) (k9 := 5) (v := .ref (a 16)) b (cw_0 cy tE a rw S) rfl in_X11 (by decide) wf_X11_43 rfl dX11_lawful_35 ?_
  refine z_aload_n b dX11_lawful_38 rfl rfl ?_
  refine z_get (q0 := 0) (k9 := 7) (v := .ref (a 35)) b (cw_0 cy tE a rw S) rfl in_X11 (by decide) wf_X11_58 rfl dX11_lawful_39 ?_
  refine z_iload_n b dX11_lawful_42 rfl rfl ?_
  refine y_aald (q0 := 35) (t0 := 4) (j := 0) (v := .ref (a 36)) b (cw_35 cy tE a rw S) rfl (by decide) (by rw [hrw 0 (by decide)]; rfl) dX11_lawful_43 ?_
  refine z_aload_n b dX11_lawful_44 rfl rfl ?_
  refine z_get (q0 := 0) (k9 := 4) (v := .ref (a 14)) b (cw_0 cy tE a rw S) rfl in_X11 (by decide) wf_X11_34 rfl dX11_lawful_45 ?_
  refine z_iload_n b dX11_lawful_48 rfl rfl ?_
  refine z_iload_n b dX11_lawful_49 rfl rfl ?_
  refine z_calli b (z_runV (q0 := 16) (As := [.ref (a 36), .ref (a 14), .int p0, .int p1]) (st := []) b (c_X2_follow S p0 p1 h_i_14 h_i_27 ⟨by omega, by omega⟩ ⟨by omega, by omega⟩) cf_X2_follow (cw_16 cy tE a rw S) rfl wm_X11_184 wi_X2_follow ws_X2_follow dX11_lawful_50 rfl (Nat.le_of_ble_eq_true rfl) ⟨by decide, by decide, by decide, by decide⟩) (fun r4737 u4738 h4736 => ?_)
  obtain ⟨rfl, rfl⟩ := h4736
  refine z_istore (lv' := [(5, .int 0), (0, .ref (a 0)), (1, .int 0), (2, .int p0), (3, .int p1), (4, .int 0)]) b dX11_lawful_53 (by decide) rfl ?_
  refine z_iload b dX11_lawful_55 rfl ?_
  refine z_if_ne_f (tgt := 65) b dX11_lawful_57 (by decide) (by decide) ?_
  refine z_iload b dX11_lawful_60 rfl ?_
  refine z_goto (tgt := 72) b dX11_lawful_62 (by decide) ?_
  exact z_iret (u := (sa S 8 (va_cpy (ar S 4) (ar S 8) 0 0 51))) b rfl dX11_lawful_72 ⟨rfl, rfl⟩ rfl (by decide) (by decide)

set_option maxHeartbeats 4000000 in
set_option maxRecDepth 100000 in
theorem c_X12_goes {l : Launch} {D : va_G} {cy : Nat → ClassId} {T0 tB tE : Nat} {a : Nat → Nat} (S : GS) (p0 : Int32) (p1 : Int32) (h_l_0 : fl S 0 = 1649317774848) (h_a_38_0 : ar S 38 0 = 0) (hr_p0 : 1 ≤ p0.toInt ∧ p0.toInt ≤ 3) (hr_p1 : 0 ≤ p1.toInt ∧ p1.toInt ≤ 31) : Ct l D cy T0 tB tE yX12_goes cX12_goes 5 (some .int) 0 0 0 0 (mw cy a S) [.ref (a 0), .int 0, .int p0, .int p1] (QI D (U := GS) (fun r u => 0 = r ∧ si (sl S 2 1649317774848) 24 (-1) = u) (mw cy a)) := by
  refine Ct.ofZ RX12 "goes" [(0, .ref (a 0)), (1, .int 0), (2, .int p0), (3, .int p1)] rfl rfl rfl rfl (Nat.le_of_ble_eq_true rfl) ?_
  intro p e R s m args below meth c A b
  refine z_aload_n b dX12_goes_0 rfl rfl ?_
  refine z_aload_n b dX12_goes_1 rfl rfl ?_
  refine z_get (q0 := 0) (k9 := 6) (v := .long (fl S 0)) b (mw_0 cy a S) rfl in_X12 (by decide) wf_X12_153 rfl dX12_goes_2 ?_
  refine z_eql h_l_0 ?_
  refine z_put (q0 := 0) (k9 := 68) tyX12 b (mw_0 cy a S) rfl in_X12 tyX12_ok nmX12 (by decide) wf_X12_458 rfl rfl rfl rfl (Nat.le_of_ble_eq_true rfl) dX12_goes_5 (mwp_0_68 cy a S 1649317774848) ?_
  refine z_aload_n b dX12_goes_8 rfl rfl ?_
  refine z_iconst (v := (-1)) b dX12_goes_9 (by decide) ?_
  refine z_put (q0 := 0) (k9 := 69) tyX12 b (mw_0 cy a (sl S 2 1649317774848)) rfl in_X12 tyX12_ok nmX12 (by decide) wf_X12_461 rfl rfl rfl rfl (Nat.le_of_ble_eq_true rfl) dX12_goes_10 (mwp_0_69 cy a (sl S 2 1649317774848) (-1)) ?_
  refine z_iconst (v := 0) b dX12_goes_13 (by decide) ?_
  refine z_istore (lv' := [(4, .int 0), (0, .ref (a 0)), (1, .int 0), (2, .int p0), (3, .int p1)]) b dX12_goes_14 (by decide) rfl ?_
  refine z_iload b dX12_goes_16 rfl ?_
  refine z_aload_n b dX12_goes_18 rfl rfl ?_
  refine z_get (q0 := 0) (k9 := 66) (v := .ref (a 41)) b (mw_0 cy a (si (sl S 2 1649317774848) 24 (-1))) rfl in_X12 (by decide) wf_X12_140 rfl dX12_goes_19 ?_
  refine z_iload_n b dX12_goes_22 rfl rfl ?_
  refine y_iald (q0 := 41) (j := 0) (v := (ar (si (sl S 2 1649317774848) 24 (-1)) 38 0)) b (mw_41 cy a (si (sl S 2 1649317774848) 24 (-1))) (by decide) rfl dX12_goes_23 ?_
  refine z_eqi h_a_38_0 ?_
  refine z_icmp_ge_t (tgt := 78) b dX12_goes_24 (by decide) (by decide) ?_
  refine z_aload_n b dX12_goes_78 rfl rfl ?_
  refine z_get (q0 := 0) (k9 := 66) (v := .ref (a 41)) b (mw_0 cy a (si (sl S 2 1649317774848) 24 (-1))) rfl in_X12 (by decide) wf_X12_140 rfl dX12_goes_79 ?_
  refine z_iload_n b dX12_goes_82 rfl rfl ?_
  refine y_iald (q0 := 41) (j := 0) (v := (ar (si (sl S 2 1649317774848) 24 (-1)) 38 0)) b (mw_41 cy a (si (sl S 2 1649317774848) 24 (-1))) (by decide) rfl dX12_goes_83 ?_
  refine z_eqi h_a_38_0 ?_
  exact z_iret (u := (si (sl S 2 1649317774848) 24 (-1))) b rfl dX12_goes_84 ⟨rfl, rfl⟩ rfl (by decide) (by decide)

set_option maxHeartbeats 4000000 in
set_option maxRecDepth 100000 in
theorem c_X12_lawful_28 {l : Launch} {D : va_G} {cy : Nat → ClassId} {T0 tB tE : Nat} {a : Nat → Nat} (S : GS) (p0 : Int32) (p1 : Int32) (h_l_0 : fl S 0 = 1649317774848) (h_a_38_0 : ar S 38 0 = 0) (hr_p0 : 1 ≤ p0.toInt ∧ p0.toInt ≤ 3) (hr_p1 : 0 ≤ p1.toInt ∧ p1.toInt ≤ 31) : Ct l D cy T0 tB tE yX12_lawful cX12_lawful 6 (some .int) 2 42 0 0 (mw cy a S) [.ref (a 0), .int 0, .int p0, .int p1, .int 0] (QI D (U := GS) (fun r u => 0 = r ∧ si (sl S 2 1649317774848) 24 (-1) = u) (mw cy a)) := by
  refine Ct.ofZ RX12 "lawful" [(0, .ref (a 0)), (1, .int 0), (2, .int p0), (3, .int p1), (4, .int 0)] rfl rfl rfl rfl (Nat.le_of_ble_eq_true rfl) ?_
  intro p e R s m args below meth c A b
  refine z_iload_n b dX12_lawful_0 rfl rfl ?_
  refine z_calli b (z_runS (As := [.int 0]) (st := []) b (c_X12_isRow_3 S ) cf_X12_isRow wm_X12_452 ws_X12_isRow dX12_lawful_1 rfl (Nat.le_of_ble_eq_true rfl) ⟨by decide, by decide, by decide, by decide⟩) (fun r4740 u4741 h4739 => ?_)
  obtain ⟨rfl, rfl⟩ := h4739
  refine z_if_eq_f (tgt := 36) b dX12_lawful_4 (by decide) (by decide) ?_
  refine z_iload_n b dX12_lawful_7 rfl rfl ?_
  refine z_iconst (v := 1) b dX12_lawful_8 (by decide) ?_
  refine z_iconst (v := 3) b dX12_lawful_9 (by decide) ?_
  refine z_calli b (z_runS (As := [.int p0, .int 1, .int 3]) (st := []) b (c_X12_isIn_51 S p0 ⟨by omega, by omega⟩) cf_X12_isIn wm_X12_1 ws_X12_isIn dX12_lawful_10 rfl (Nat.le_of_ble_eq_true rfl) ⟨by decide, by decide, by decide, by decide⟩) (fun r4743 u4744 h4742 => ?_)
  obtain ⟨rfl, rfl⟩ := h4742
  refine z_if_eq_f (tgt := 36) b dX12_lawful_13 (by decide) (by decide) ?_
  refine z_iload_n b dX12_lawful_16 rfl rfl ?_
  refine z_iconst (v := 0) b dX12_lawful_17 (by decide) ?_
  refine z_bipush (v := 31) b dX12_lawful_18 (by decide) ?_
  refine z_calli b (z_runS (As := [.int p1, .int 0, .int 31]) (st := []) b (c_X12_isIn_54 S p1 ⟨by omega, by omega⟩) cf_X12_isIn wm_X12_1 ws_X12_isIn dX12_lawful_20 rfl (Nat.le_of_ble_eq_true rfl) ⟨by decide, by decide, by decide, by decide⟩) (fun r4746 u4747 h4745 => ?_)
  obtain ⟨rfl, rfl⟩ := h4745
  refine z_if_eq_f (tgt := 36) b dX12_lawful_23 (by decide) (by decide) ?_
  refine z_iload b dX12_lawful_26 rfl ?_
  refine z_iconst (v := 0) b dX12_lawful_28 (by decide) ?_
  refine z_iconst (v := 1) b dX12_lawful_29 (by decide) ?_
  refine z_calli b (z_runS (As := [.int 0, .int 0, .int 1]) (st := []) b (c_X12_isIn_16 S ) cf_X12_isIn wm_X12_1 ws_X12_isIn dX12_lawful_30 rfl (Nat.le_of_ble_eq_true rfl) ⟨by decide, by decide, by decide, by decide⟩) (fun r4749 u4750 h4748 => ?_)
  obtain ⟨rfl, rfl⟩ := h4748
  refine z_if_ne_t (tgt := 38) b dX12_lawful_33 (by decide) (by decide) ?_
  refine z_aload_n b dX12_lawful_38 rfl rfl ?_
  refine z_iload_n b dX12_lawful_39 rfl rfl ?_
  refine z_iload_n b dX12_lawful_40 rfl rfl ?_
  refine z_iload_n b dX12_lawful_41 rfl rfl ?_
  refine z_calli b (z_runV (q0 := 0) (As := [.int 0, .int p0, .int p1]) (st := []) b (c_X12_goes S p0 p1 h_l_0 h_a_38_0 ⟨by omega, by omega⟩ ⟨by omega, by omega⟩) cf_X12_goes (mw_0 cy a S) rfl wm_X12_464 wi_X12_goes ws_X12_goes dX12_lawful_42 rfl (Nat.le_of_ble_eq_true rfl) ⟨by decide, by decide, by decide, by decide⟩) (fun r4752 u4753 h4751 => ?_)
  obtain ⟨rfl, rfl⟩ := h4751
  refine z_istore (lv' := [(5, .int 0), (0, .ref (a 0)), (1, .int 0), (2, .int p0), (3, .int p1), (4, .int 0)]) b dX12_lawful_45 (by decide) rfl ?_
  refine z_iload b dX12_lawful_47 rfl ?_
  refine z_if_ne_f (tgt := 57) b dX12_lawful_49 (by decide) (by decide) ?_
  refine z_iload b dX12_lawful_52 rfl ?_
  refine z_goto (tgt := 61) b dX12_lawful_54 (by decide) ?_
  exact z_iret (u := (si (sl S 2 1649317774848) 24 (-1))) b rfl dX12_lawful_61 ⟨rfl, rfl⟩ rfl (by decide) (by decide)

set_option maxHeartbeats 4000000 in
set_option maxRecDepth 100000 in
theorem c_X11_lawful_29 {l : Launch} {D : va_G} {cy : Nat → ClassId} {T0 tB tE : Nat} {a : Nat → Nat} {rw : Nat → Option Nat} (S : GS) (p0 : Int32) (p1 : Int32) (h_i_14 : fi S 14 = (-1)) (h_i_27 : fi S 27 = 0) (hrw : ∀ i, i < 6 → rw i = some (a (36 + 2 * i))) (hr_p0 : 1 ≤ p0.toInt ∧ p0.toInt ≤ 3) (hr_p1 : 0 ≤ p1.toInt ∧ p1.toInt ≤ 31) : Ct l D cy T0 tB tE yX11_lawful cX11_lawful 6 (some .int) 3 86 0 0 (cw cy tE a rw S) [.ref (a 0), .int 0, .int p0, .int p1, .int 1] (QI D (U := GS) (fun r u => (-1) = r ∧ sa S 8 (va_cpy (ar S 4) (ar S 8) 0 0 51) = u) (cw cy tE a rw)) := by
  refine Ct.ofZ RX11 "lawful" [(0, .ref (a 0)), (1, .int 0), (2, .int p0), (3, .int p1), (4, .int 1)] rfl rfl rfl rfl (Nat.le_of_ble_eq_true rfl) ?_
  intro p e R s m args below meth c A b
  refine z_iload_n b dX11_lawful_0 rfl rfl ?_
  refine z_calli b (z_runS (As := [.int 0]) (st := []) b (c_X11_isRow_3 S ) cf_X11_isRow wm_X11_169 ws_X11_isRow dX11_lawful_1 rfl (Nat.le_of_ble_eq_true rfl) ⟨by decide, by decide, by decide, by decide⟩) (fun r4755 u4756 h4754 => ?_)
  obtain ⟨rfl, rfl⟩ := h4754
  refine z_if_eq_f (tgt := 32) b dX11_lawful_4 (by decide) (by decide) ?_
  refine z_iload_n b dX11_lawful_7 rfl rfl ?_
  refine z_calli b (z_runS (As := [.int p0]) (st := []) b (c_X11_areLaws_3 S p0 ⟨by omega, by omega⟩) cf_X11_areLaws wm_X11_181 ws_X11_areLaws dX11_lawful_8 rfl (Nat.le_of_ble_eq_true rfl) ⟨by decide, by decide, by decide, by decide⟩) (fun r4758 u4759 h4757 => ?_)
  obtain ⟨rfl, rfl⟩ := h4757
  refine z_if_eq_f (tgt := 32) b dX11_lawful_11 (by decide) (by decide) ?_
  refine z_iload_n b dX11_lawful_14 rfl rfl ?_
  refine z_bipush (v := 31) b dX11_lawful_15 (by decide) ?_
  refine z_calli b (z_runS (As := [.int p1, .int 31]) (st := []) b (c_X11_isWithin_25 S p1 ⟨by omega, by omega⟩) cf_X11_isWithin wm_X11_73 ws_X11_isWithin dX11_lawful_17 rfl (Nat.le_of_ble_eq_true rfl) ⟨by decide, by decide, by decide, by decide⟩) (fun r4761 u4762 h4760 => ?_)
  obtain ⟨rfl, rfl⟩ := h4760
  refine z_if_eq_f (tgt := 32) b dX11_lawful_20 (by decide) (by decide) ?_
  refine z_iload b dX11_lawful_23 rfl ?_
  refine z_iconst (v := 1) b dX11_lawful_25 (by decide) ?_
  refine z_calli b (z_runS (As := [.int 1, .int 1]) (st := []) b (c_X11_isWithin_12 S ) cf_X11_isWithin wm_X11_73 ws_X11_isWithin dX11_lawful_26 rfl (Nat.le_of_ble_eq_true rfl) ⟨by decide, by decide, by decide, by decide⟩) (fun r4764 u4765 h4763 => ?_)
  obtain ⟨rfl, rfl⟩ := h4763
  refine z_if_ne_t (tgt := 34) b dX11_lawful_29 (by decide) (by decide) ?_
  refine z_aload_n b dX11_lawful_34 rfl rfl ?_
  refine z_get (q0 := 0) (k9 := 5) (v := .ref (a 16)) b (cw_0 cy tE a rw S) rfl in_X11 (by decide) wf_X11_43 rfl dX11_lawful_35 ?_
  refine z_aload_n b dX11_lawful_38 rfl rfl ?_
  refine z_get (q0 := 0) (k9 := 7) (v := .ref (a 35)) b (cw_0 cy tE a rw S) rfl in_X11 (by decide) wf_X11_58 rfl dX11_lawful_39 ?_
  refine z_iload_n b dX11_lawful_42 rfl rfl ?_
  refine y_aald (q0 := 35) (t0 := 4) (j := 0) (v := .ref (a 36)) b (cw_35 cy tE a rw S) rfl (by decide) (by rw [hrw 0 (by decide)]; rfl) dX11_lawful_43 ?_
  refine z_aload_n b dX11_lawful_44 rfl rfl ?_
  refine z_get (q0 := 0) (k9 := 4) (v := .ref (a 14)) b (cw_0 cy tE a rw S) rfl in_X11 (by decide) wf_X11_34 rfl dX11_lawful_45 ?_
  refine z_iload_n b dX11_lawful_48 rfl rfl ?_
  refine z_iload_n b dX11_lawful_49 rfl rfl ?_
  refine z_calli b (z_runV (q0 := 16) (As := [.ref (a 36), .ref (a 14), .int p0, .int p1]) (st := []) b (c_X2_follow S p0 p1 h_i_14 h_i_27 ⟨by omega, by omega⟩ ⟨by omega, by omega⟩) cf_X2_follow (cw_16 cy tE a rw S) rfl wm_X11_184 wi_X2_follow ws_X2_follow dX11_lawful_50 rfl (Nat.le_of_ble_eq_true rfl) ⟨by decide, by decide, by decide, by decide⟩) (fun r4767 u4768 h4766 => ?_)
  obtain ⟨rfl, rfl⟩ := h4766
  refine z_istore (lv' := [(5, .int 0), (0, .ref (a 0)), (1, .int 0), (2, .int p0), (3, .int p1), (4, .int 1)]) b dX11_lawful_53 (by decide) rfl ?_
  refine z_iload b dX11_lawful_55 rfl ?_
  refine z_if_ne_t (tgt := 65) b dX11_lawful_57 (by decide) (by decide) ?_
  refine z_aload_n b dX11_lawful_65 rfl rfl ?_
  refine z_get (q0 := 0) (k9 := 5) (v := .ref (a 16)) b (cw_0 cy tE a rw (sa S 8 (va_cpy (ar S 4) (ar S 8) 0 0 51))) rfl in_X11 (by decide) wf_X11_43 rfl dX11_lawful_66 ?_
  refine z_get (q0 := 16) (k9 := 4) (v := .int (fi (sa S 8 (va_cpy (ar S 4) (ar S 8) 0 0 51)) 14)) b (cw_16 cy tE a rw (sa S 8 (va_cpy (ar S 4) (ar S 8) 0 0 51))) rfl in_X2 (by decide) wf_X11_188 rfl dX11_lawful_69 ?_
  refine z_eqi h_i_14 ?_
  exact z_iret (u := (sa S 8 (va_cpy (ar S 4) (ar S 8) 0 0 51))) b rfl dX11_lawful_72 ⟨rfl, rfl⟩ rfl (by decide) (by decide)

set_option maxHeartbeats 4000000 in
set_option maxRecDepth 100000 in
theorem c_X12_lawful_29 {l : Launch} {D : va_G} {cy : Nat → ClassId} {T0 tB tE : Nat} {a : Nat → Nat} (S : GS) (p0 : Int32) (p1 : Int32) (h_l_0 : fl S 0 = 1649317774848) (h_a_38_0 : ar S 38 0 = 0) (hr_p0 : 1 ≤ p0.toInt ∧ p0.toInt ≤ 3) (hr_p1 : 0 ≤ p1.toInt ∧ p1.toInt ≤ 31) : Ct l D cy T0 tB tE yX12_lawful cX12_lawful 6 (some .int) 2 42 0 0 (mw cy a S) [.ref (a 0), .int 0, .int p0, .int p1, .int 1] (QI D (U := GS) (fun r u => (-1) = r ∧ si (sl S 2 1649317774848) 24 (-1) = u) (mw cy a)) := by
  refine Ct.ofZ RX12 "lawful" [(0, .ref (a 0)), (1, .int 0), (2, .int p0), (3, .int p1), (4, .int 1)] rfl rfl rfl rfl (Nat.le_of_ble_eq_true rfl) ?_
  intro p e R s m args below meth c A b
  refine z_iload_n b dX12_lawful_0 rfl rfl ?_
  refine z_calli b (z_runS (As := [.int 0]) (st := []) b (c_X12_isRow_3 S ) cf_X12_isRow wm_X12_452 ws_X12_isRow dX12_lawful_1 rfl (Nat.le_of_ble_eq_true rfl) ⟨by decide, by decide, by decide, by decide⟩) (fun r4770 u4771 h4769 => ?_)
  obtain ⟨rfl, rfl⟩ := h4769
  refine z_if_eq_f (tgt := 36) b dX12_lawful_4 (by decide) (by decide) ?_
  refine z_iload_n b dX12_lawful_7 rfl rfl ?_
  refine z_iconst (v := 1) b dX12_lawful_8 (by decide) ?_
  refine z_iconst (v := 3) b dX12_lawful_9 (by decide) ?_
  refine z_calli b (z_runS (As := [.int p0, .int 1, .int 3]) (st := []) b (c_X12_isIn_51 S p0 ⟨by omega, by omega⟩) cf_X12_isIn wm_X12_1 ws_X12_isIn dX12_lawful_10 rfl (Nat.le_of_ble_eq_true rfl) ⟨by decide, by decide, by decide, by decide⟩) (fun r4773 u4774 h4772 => ?_)
  obtain ⟨rfl, rfl⟩ := h4772
  refine z_if_eq_f (tgt := 36) b dX12_lawful_13 (by decide) (by decide) ?_
  refine z_iload_n b dX12_lawful_16 rfl rfl ?_
  refine z_iconst (v := 0) b dX12_lawful_17 (by decide) ?_
  refine z_bipush (v := 31) b dX12_lawful_18 (by decide) ?_
  refine z_calli b (z_runS (As := [.int p1, .int 0, .int 31]) (st := []) b (c_X12_isIn_54 S p1 ⟨by omega, by omega⟩) cf_X12_isIn wm_X12_1 ws_X12_isIn dX12_lawful_20 rfl (Nat.le_of_ble_eq_true rfl) ⟨by decide, by decide, by decide, by decide⟩) (fun r4776 u4777 h4775 => ?_)
  obtain ⟨rfl, rfl⟩ := h4775
  refine z_if_eq_f (tgt := 36) b dX12_lawful_23 (by decide) (by decide) ?_
  refine z_iload b dX12_lawful_26 rfl ?_
  refine z_iconst (v := 0) b dX12_lawful_28 (by decide) ?_
  refine z_iconst (v := 1) b dX12_lawful_29 (by decide) ?_
  refine z_calli b (z_runS (As := [.int 1, .int 0, .int 1]) (st := []) b (c_X12_isIn_17 S ) cf_X12_isIn wm_X12_1 ws_X12_isIn dX12_lawful_30 rfl (Nat.le_of_ble_eq_true rfl) ⟨by decide, by decide, by decide, by decide⟩) (fun r4779 u4780 h4778 => ?_)
  obtain ⟨rfl, rfl⟩ := h4778
  refine z_if_ne_t (tgt := 38) b dX12_lawful_33 (by decide) (by decide) ?_
  refine z_aload_n b dX12_lawful_38 rfl rfl ?_
  refine z_iload_n b dX12_lawful_39 rfl rfl ?_
  refine z_iload_n b dX12_lawful_40 rfl rfl ?_
  refine z_iload_n b dX12_lawful_41 rfl rfl ?_
  refine z_calli b (z_runV (q0 := 0) (As := [.int 0, .int p0, .int p1]) (st := []) b (c_X12_goes S p0 p1 h_l_0 h_a_38_0 ⟨by omega, by omega⟩ ⟨by omega, by omega⟩) cf_X12_goes (mw_0 cy a S) rfl wm_X12_464 wi_X12_goes ws_X12_goes dX12_lawful_42 rfl (Nat.le_of_ble_eq_true rfl) ⟨by decide, by decide, by decide, by decide⟩) (fun r4782 u4783 h4781 => ?_)
  obtain ⟨rfl, rfl⟩ := h4781
  refine z_istore (lv' := [(5, .int 0), (0, .ref (a 0)), (1, .int 0), (2, .int p0), (3, .int p1), (4, .int 1)]) b dX12_lawful_45 (by decide) rfl ?_
  refine z_iload b dX12_lawful_47 rfl ?_
  refine z_if_ne_t (tgt := 57) b dX12_lawful_49 (by decide) (by decide) ?_
  refine z_aload_n b dX12_lawful_57 rfl rfl ?_
  refine z_get (q0 := 0) (k9 := 69) (v := .int (-1)) b (mw_0 cy a (si (sl S 2 1649317774848) 24 (-1))) rfl in_X12 (by decide) wf_X12_461 rfl dX12_lawful_58 ?_
  exact z_iret (u := (si (sl S 2 1649317774848) 24 (-1))) b rfl dX12_lawful_61 ⟨rfl, rfl⟩ rfl (by decide) (by decide)

set_option maxHeartbeats 4000000 in
set_option maxRecDepth 100000 in
theorem c_X11_lawful_30 {l : Launch} {D : va_G} {cy : Nat → ClassId} {T0 tB tE : Nat} {a : Nat → Nat} {rw : Nat → Option Nat} (S : GS) (p0 : Int32) (p1 : Int32) (p2 : Int32)  (hr_p0 : 1 ≤ p0.toInt ∧ p0.toInt ≤ 3) (hr_p1 : 0 ≤ p1.toInt ∧ p1.toInt ≤ 31) (hr_p2 : 2 ≤ p2.toInt ∧ p2.toInt ≤ 2147483647) : Ct l D cy T0 tB tE yX11_lawful cX11_lawful 6 (some .int) 1 21 0 0 (cw cy tE a rw S) [.ref (a 0), .int 0, .int p0, .int p1, .int p2] (QI D (U := GS) (fun r u => (-1) = r ∧ S = u) (cw cy tE a rw)) := by
  refine Ct.ofZ RX11 "lawful" [(0, .ref (a 0)), (1, .int 0), (2, .int p0), (3, .int p1), (4, .int p2)] rfl rfl rfl rfl (Nat.le_of_ble_eq_true rfl) ?_
  intro p e R s m args below meth c A b
  refine z_iload_n b dX11_lawful_0 rfl rfl ?_
  refine z_calli b (z_runS (As := [.int 0]) (st := []) b (c_X11_isRow_3 S ) cf_X11_isRow wm_X11_169 ws_X11_isRow dX11_lawful_1 rfl (Nat.le_of_ble_eq_true rfl) ⟨by decide, by decide, by decide, by decide⟩) (fun r4785 u4786 h4784 => ?_)
  obtain ⟨rfl, rfl⟩ := h4784
  refine z_if_eq_f (tgt := 32) b dX11_lawful_4 (by decide) (by decide) ?_
  refine z_iload_n b dX11_lawful_7 rfl rfl ?_
  refine z_calli b (z_runS (As := [.int p0]) (st := []) b (c_X11_areLaws_3 S p0 ⟨by omega, by omega⟩) cf_X11_areLaws wm_X11_181 ws_X11_areLaws dX11_lawful_8 rfl (Nat.le_of_ble_eq_true rfl) ⟨by decide, by decide, by decide, by decide⟩) (fun r4788 u4789 h4787 => ?_)
  obtain ⟨rfl, rfl⟩ := h4787
  refine z_if_eq_f (tgt := 32) b dX11_lawful_11 (by decide) (by decide) ?_
  refine z_iload_n b dX11_lawful_14 rfl rfl ?_
  refine z_bipush (v := 31) b dX11_lawful_15 (by decide) ?_
  refine z_calli b (z_runS (As := [.int p1, .int 31]) (st := []) b (c_X11_isWithin_25 S p1 ⟨by omega, by omega⟩) cf_X11_isWithin wm_X11_73 ws_X11_isWithin dX11_lawful_17 rfl (Nat.le_of_ble_eq_true rfl) ⟨by decide, by decide, by decide, by decide⟩) (fun r4791 u4792 h4790 => ?_)
  obtain ⟨rfl, rfl⟩ := h4790
  refine z_if_eq_f (tgt := 32) b dX11_lawful_20 (by decide) (by decide) ?_
  refine z_iload b dX11_lawful_23 rfl ?_
  refine z_iconst (v := 1) b dX11_lawful_25 (by decide) ?_
  refine z_calli b (z_runS (As := [.int p2, .int 1]) (st := []) b (c_X11_isWithin_13 S p2 ⟨by omega, by omega⟩) cf_X11_isWithin wm_X11_73 ws_X11_isWithin dX11_lawful_26 rfl (Nat.le_of_ble_eq_true rfl) ⟨by decide, by decide, by decide, by decide⟩) (fun r4794 u4795 h4793 => ?_)
  obtain ⟨rfl, rfl⟩ := h4793
  refine z_if_ne_f (tgt := 34) b dX11_lawful_29 (by decide) (by decide) ?_
  refine z_iconst (v := (-1)) b dX11_lawful_32 (by decide) ?_
  exact z_iret (u := S) b rfl dX11_lawful_33 ⟨rfl, rfl⟩ rfl (by decide) (by decide)

set_option maxHeartbeats 4000000 in
set_option maxRecDepth 100000 in
theorem c_X12_lawful_30 {l : Launch} {D : va_G} {cy : Nat → ClassId} {T0 tB tE : Nat} {a : Nat → Nat} (S : GS) (p0 : Int32) (p1 : Int32) (p2 : Int32)  (hr_p0 : 1 ≤ p0.toInt ∧ p0.toInt ≤ 3) (hr_p1 : 0 ≤ p1.toInt ∧ p1.toInt ≤ 31) (hr_p2 : 2 ≤ p2.toInt ∧ p2.toInt ≤ 2147483647) : Ct l D cy T0 tB tE yX12_lawful cX12_lawful 6 (some .int) 2 42 0 0 (mw cy a S) [.ref (a 0), .int 0, .int p0, .int p1, .int p2] (QI D (U := GS) (fun r u => (-1) = r ∧ S = u) (mw cy a)) := by
  refine Ct.ofZ RX12 "lawful" [(0, .ref (a 0)), (1, .int 0), (2, .int p0), (3, .int p1), (4, .int p2)] rfl rfl rfl rfl (Nat.le_of_ble_eq_true rfl) ?_
  intro p e R s m args below meth c A b
  refine z_iload_n b dX12_lawful_0 rfl rfl ?_
  refine z_calli b (z_runS (As := [.int 0]) (st := []) b (c_X12_isRow_3 S ) cf_X12_isRow wm_X12_452 ws_X12_isRow dX12_lawful_1 rfl (Nat.le_of_ble_eq_true rfl) ⟨by decide, by decide, by decide, by decide⟩) (fun r4797 u4798 h4796 => ?_)
  obtain ⟨rfl, rfl⟩ := h4796
  refine z_if_eq_f (tgt := 36) b dX12_lawful_4 (by decide) (by decide) ?_
  refine z_iload_n b dX12_lawful_7 rfl rfl ?_
  refine z_iconst (v := 1) b dX12_lawful_8 (by decide) ?_
  refine z_iconst (v := 3) b dX12_lawful_9 (by decide) ?_
  refine z_calli b (z_runS (As := [.int p0, .int 1, .int 3]) (st := []) b (c_X12_isIn_51 S p0 ⟨by omega, by omega⟩) cf_X12_isIn wm_X12_1 ws_X12_isIn dX12_lawful_10 rfl (Nat.le_of_ble_eq_true rfl) ⟨by decide, by decide, by decide, by decide⟩) (fun r4800 u4801 h4799 => ?_)
  obtain ⟨rfl, rfl⟩ := h4799
  refine z_if_eq_f (tgt := 36) b dX12_lawful_13 (by decide) (by decide) ?_
  refine z_iload_n b dX12_lawful_16 rfl rfl ?_
  refine z_iconst (v := 0) b dX12_lawful_17 (by decide) ?_
  refine z_bipush (v := 31) b dX12_lawful_18 (by decide) ?_
  refine z_calli b (z_runS (As := [.int p1, .int 0, .int 31]) (st := []) b (c_X12_isIn_54 S p1 ⟨by omega, by omega⟩) cf_X12_isIn wm_X12_1 ws_X12_isIn dX12_lawful_20 rfl (Nat.le_of_ble_eq_true rfl) ⟨by decide, by decide, by decide, by decide⟩) (fun r4803 u4804 h4802 => ?_)
  obtain ⟨rfl, rfl⟩ := h4802
  refine z_if_eq_f (tgt := 36) b dX12_lawful_23 (by decide) (by decide) ?_
  refine z_iload b dX12_lawful_26 rfl ?_
  refine z_iconst (v := 0) b dX12_lawful_28 (by decide) ?_
  refine z_iconst (v := 1) b dX12_lawful_29 (by decide) ?_
  refine z_calli b (z_runS (As := [.int p2, .int 0, .int 1]) (st := []) b (c_X12_isIn_18 S p2 ⟨by omega, by omega⟩) cf_X12_isIn wm_X12_1 ws_X12_isIn dX12_lawful_30 rfl (Nat.le_of_ble_eq_true rfl) ⟨by decide, by decide, by decide, by decide⟩) (fun r4806 u4807 h4805 => ?_)
  obtain ⟨rfl, rfl⟩ := h4805
  refine z_if_ne_f (tgt := 38) b dX12_lawful_33 (by decide) (by decide) ?_
  refine z_iconst (v := (-1)) b dX12_lawful_36 (by decide) ?_
  exact z_iret (u := S) b rfl dX12_lawful_37 ⟨rfl, rfl⟩ rfl (by decide) (by decide)

set_option maxHeartbeats 4000000 in
set_option maxRecDepth 100000 in
theorem c_X11_lawful_31 {l : Launch} {D : va_G} {cy : Nat → ClassId} {T0 tB tE : Nat} {a : Nat → Nat} {rw : Nat → Option Nat} (S : GS) (p0 : Int32) (p1 : Int32) (p2 : Int32)  (hr_p0 : 1 ≤ p0.toInt ∧ p0.toInt ≤ 3) (hr_p1 : 0 ≤ p1.toInt ∧ p1.toInt ≤ 31) (hr_p2 : (-2147483648) ≤ p2.toInt ∧ p2.toInt ≤ (-1)) : Ct l D cy T0 tB tE yX11_lawful cX11_lawful 6 (some .int) 1 21 0 0 (cw cy tE a rw S) [.ref (a 0), .int 1, .int p0, .int p1, .int p2] (QI D (U := GS) (fun r u => (-1) = r ∧ S = u) (cw cy tE a rw)) := by
  refine Ct.ofZ RX11 "lawful" [(0, .ref (a 0)), (1, .int 1), (2, .int p0), (3, .int p1), (4, .int p2)] rfl rfl rfl rfl (Nat.le_of_ble_eq_true rfl) ?_
  intro p e R s m args below meth c A b
  refine z_iload_n b dX11_lawful_0 rfl rfl ?_
  refine z_calli b (z_runS (As := [.int 1]) (st := []) b (c_X11_isRow_4 S ) cf_X11_isRow wm_X11_169 ws_X11_isRow dX11_lawful_1 rfl (Nat.le_of_ble_eq_true rfl) ⟨by decide, by decide, by decide, by decide⟩) (fun r4809 u4810 h4808 => ?_)
  obtain ⟨rfl, rfl⟩ := h4808
  refine z_if_eq_f (tgt := 32) b dX11_lawful_4 (by decide) (by decide) ?_
  refine z_iload_n b dX11_lawful_7 rfl rfl ?_
  refine z_calli b (z_runS (As := [.int p0]) (st := []) b (c_X11_areLaws_3 S p0 ⟨by omega, by omega⟩) cf_X11_areLaws wm_X11_181 ws_X11_areLaws dX11_lawful_8 rfl (Nat.le_of_ble_eq_true rfl) ⟨by decide, by decide, by decide, by decide⟩) (fun r4812 u4813 h4811 => ?_)
  obtain ⟨rfl, rfl⟩ := h4811
  refine z_if_eq_f (tgt := 32) b dX11_lawful_11 (by decide) (by decide) ?_
  refine z_iload_n b dX11_lawful_14 rfl rfl ?_
  refine z_bipush (v := 31) b dX11_lawful_15 (by decide) ?_
  refine z_calli b (z_runS (As := [.int p1, .int 31]) (st := []) b (c_X11_isWithin_25 S p1 ⟨by omega, by omega⟩) cf_X11_isWithin wm_X11_73 ws_X11_isWithin dX11_lawful_17 rfl (Nat.le_of_ble_eq_true rfl) ⟨by decide, by decide, by decide, by decide⟩) (fun r4815 u4816 h4814 => ?_)
  obtain ⟨rfl, rfl⟩ := h4814
  refine z_if_eq_f (tgt := 32) b dX11_lawful_20 (by decide) (by decide) ?_
  refine z_iload b dX11_lawful_23 rfl ?_
  refine z_iconst (v := 1) b dX11_lawful_25 (by decide) ?_
  refine z_calli b (z_runS (As := [.int p2, .int 1]) (st := []) b (c_X11_isWithin_10 S p2 ⟨by omega, by omega⟩) cf_X11_isWithin wm_X11_73 ws_X11_isWithin dX11_lawful_26 rfl (Nat.le_of_ble_eq_true rfl) ⟨by decide, by decide, by decide, by decide⟩) (fun r4818 u4819 h4817 => ?_)
  obtain ⟨rfl, rfl⟩ := h4817
  refine z_if_ne_f (tgt := 34) b dX11_lawful_29 (by decide) (by decide) ?_
  refine z_iconst (v := (-1)) b dX11_lawful_32 (by decide) ?_
  exact z_iret (u := S) b rfl dX11_lawful_33 ⟨rfl, rfl⟩ rfl (by decide) (by decide)

set_option maxHeartbeats 4000000 in
set_option maxRecDepth 100000 in
theorem c_X12_lawful_31 {l : Launch} {D : va_G} {cy : Nat → ClassId} {T0 tB tE : Nat} {a : Nat → Nat} (S : GS) (p0 : Int32) (p1 : Int32) (p2 : Int32)  (hr_p0 : 1 ≤ p0.toInt ∧ p0.toInt ≤ 3) (hr_p1 : 0 ≤ p1.toInt ∧ p1.toInt ≤ 31) (hr_p2 : (-2147483648) ≤ p2.toInt ∧ p2.toInt ≤ (-1)) : Ct l D cy T0 tB tE yX12_lawful cX12_lawful 6 (some .int) 2 42 0 0 (mw cy a S) [.ref (a 0), .int 1, .int p0, .int p1, .int p2] (QI D (U := GS) (fun r u => (-1) = r ∧ S = u) (mw cy a)) := by
  refine Ct.ofZ RX12 "lawful" [(0, .ref (a 0)), (1, .int 1), (2, .int p0), (3, .int p1), (4, .int p2)] rfl rfl rfl rfl (Nat.le_of_ble_eq_true rfl) ?_
  intro p e R s m args below meth c A b
  refine z_iload_n b dX12_lawful_0 rfl rfl ?_
  refine z_calli b (z_runS (As := [.int 1]) (st := []) b (c_X12_isRow_4 S ) cf_X12_isRow wm_X12_452 ws_X12_isRow dX12_lawful_1 rfl (Nat.le_of_ble_eq_true rfl) ⟨by decide, by decide, by decide, by decide⟩) (fun r4821 u4822 h4820 => ?_)
  obtain ⟨rfl, rfl⟩ := h4820
  refine z_if_eq_f (tgt := 36) b dX12_lawful_4 (by decide) (by decide) ?_
  refine z_iload_n b dX12_lawful_7 rfl rfl ?_
  refine z_iconst (v := 1) b dX12_lawful_8 (by decide) ?_
  refine z_iconst (v := 3) b dX12_lawful_9 (by decide) ?_
  refine z_calli b (z_runS (As := [.int p0, .int 1, .int 3]) (st := []) b (c_X12_isIn_51 S p0 ⟨by omega, by omega⟩) cf_X12_isIn wm_X12_1 ws_X12_isIn dX12_lawful_10 rfl (Nat.le_of_ble_eq_true rfl) ⟨by decide, by decide, by decide, by decide⟩) (fun r4824 u4825 h4823 => ?_)
  obtain ⟨rfl, rfl⟩ := h4823
  refine z_if_eq_f (tgt := 36) b dX12_lawful_13 (by decide) (by decide) ?_
  refine z_iload_n b dX12_lawful_16 rfl rfl ?_
  refine z_iconst (v := 0) b dX12_lawful_17 (by decide) ?_
  refine z_bipush (v := 31) b dX12_lawful_18 (by decide) ?_
  refine z_calli b (z_runS (As := [.int p1, .int 0, .int 31]) (st := []) b (c_X12_isIn_54 S p1 ⟨by omega, by omega⟩) cf_X12_isIn wm_X12_1 ws_X12_isIn dX12_lawful_20 rfl (Nat.le_of_ble_eq_true rfl) ⟨by decide, by decide, by decide, by decide⟩) (fun r4827 u4828 h4826 => ?_)
  obtain ⟨rfl, rfl⟩ := h4826
  refine z_if_eq_f (tgt := 36) b dX12_lawful_23 (by decide) (by decide) ?_
  refine z_iload b dX12_lawful_26 rfl ?_
  refine z_iconst (v := 0) b dX12_lawful_28 (by decide) ?_
  refine z_iconst (v := 1) b dX12_lawful_29 (by decide) ?_
  refine z_calli b (z_runS (As := [.int p2, .int 0, .int 1]) (st := []) b (c_X12_isIn_15 S p2 ⟨by omega, by omega⟩) cf_X12_isIn wm_X12_1 ws_X12_isIn dX12_lawful_30 rfl (Nat.le_of_ble_eq_true rfl) ⟨by decide, by decide, by decide, by decide⟩) (fun r4830 u4831 h4829 => ?_)
  obtain ⟨rfl, rfl⟩ := h4829
  refine z_if_ne_f (tgt := 38) b dX12_lawful_33 (by decide) (by decide) ?_
  refine z_iconst (v := (-1)) b dX12_lawful_36 (by decide) ?_
  exact z_iret (u := S) b rfl dX12_lawful_37 ⟨rfl, rfl⟩ rfl (by decide) (by decide)

set_option maxHeartbeats 4000000 in
set_option maxRecDepth 100000 in
theorem c_X2_follow_2 {l : Launch} {D : va_G} {cy : Nat → ClassId} {T0 tB tE : Nat} {a : Nat → Nat} {rw : Nat → Option Nat} (S : GS) (p0 : Int32) (p1 : Int32) (h_i_14 : fi S 14 = (-1)) (h_i_29 : fi S 29 = 0) (hr_p0 : 1 ≤ p0.toInt ∧ p0.toInt ≤ 3) (hr_p1 : 0 ≤ p1.toInt ∧ p1.toInt ≤ 31) : Ct l D cy T0 tB tE yX2_follow cX2_follow 6 (some .int) 2 61 0 0 (cw cy tE a rw S) [.ref (a 16), .ref (a 38), .ref (a 14), .int p0, .int p1] (QI D (U := GS) (fun r u => 0 = r ∧ sa S 8 (va_cpy (ar S 4) (ar S 8) 0 0 51) = u) (cw cy tE a rw)) := by
  refine Ct.ofZ RX2 "follow" [(0, .ref (a 16)), (1, .ref (a 38)), (2, .ref (a 14)), (3, .int p0), (4, .int p1)] rfl rfl rfl rfl (Nat.le_of_ble_eq_true rfl) ?_
  intro p e R s m args below meth c A b
  refine z_aload_n b dX2_follow_0 rfl rfl ?_
  refine z_get (q0 := 16) (k9 := 3) (v := .ref (a 23)) b (cw_16 cy tE a rw S) rfl in_X2 (by decide) wf_X2_25 rfl dX2_follow_1 ?_
  refine z_aload_n b dX2_follow_4 rfl rfl ?_
  refine z_callv b (z_runV (q0 := 23) (As := [.ref (a 14)]) (st := []) b (c_X9_copy S ) cf_X9_copy (cw_23 cy tE a rw S) rfl wm_X2_80 wi_X9_copy ws_X9_copy dX2_follow_5 rfl (Nat.le_of_ble_eq_true rfl) ⟨by decide, by decide, by decide, by decide⟩) (fun u4846 h4844 => ?_)
  obtain rfl := h4844
  refine z_aload_n b dX2_follow_8 rfl rfl ?_
  refine z_iconst (v := (-1)) b dX2_follow_9 (by decide) ?_
  refine z_put (q0 := 16) (k9 := 4) tyX2 b (cw_16 cy tE a rw (sa S 8 (va_cpy (ar S 4) (ar S 8) 0 0 51))) rfl in_X2 tyX2_ok nmX2 (by decide) wf_X2_28 rfl rfl rfl rfl (Nat.le_of_ble_eq_true rfl) dX2_follow_10 ((cwp_16_4 cy tE a rw (sa S 8 (va_cpy (ar S 4) (ar S 8) 0 0 51)) (-1)).trans (congrArg (cw cy tE a rw) (si_same h_i_14))) ?_
  refine z_iconst (v := 0) b dX2_follow_13 (by decide) ?_
  refine z_istore (lv' := [(5, .int 0), (0, .ref (a 16)), (1, .ref (a 38)), (2, .ref (a 14)), (3, .int p0), (4, .int p1)]) b dX2_follow_14 (by decide) rfl ?_
  refine z_iload b dX2_follow_16 rfl ?_
  refine z_aload_n b dX2_follow_18 rfl rfl ?_
  refine z_get (q0 := 38) (k9 := 1) (v := .int (fi (sa S 8 (va_cpy (ar S 4) (ar S 8) 0 0 51)) 29)) b (cw_38 cy tE a rw (sa S 8 (va_cpy (ar S 4) (ar S 8) 0 0 51))) rfl in_X7 (by decide) wf_X2_108 rfl dX2_follow_19 ?_
  refine z_eqi h_i_29 ?_
  refine z_icmp_ge_t (tgt := 74) b dX2_follow_22 (by decide) (by decide) ?_
  refine z_aload_n b dX2_follow_74 rfl rfl ?_
  refine z_get (q0 := 38) (k9 := 1) (v := .int (fi (sa S 8 (va_cpy (ar S 4) (ar S 8) 0 0 51)) 29)) b (cw_38 cy tE a rw (sa S 8 (va_cpy (ar S 4) (ar S 8) 0 0 51))) rfl in_X7 (by decide) wf_X2_108 rfl dX2_follow_75 ?_
  refine z_eqi h_i_29 ?_
  exact z_iret (u := (sa S 8 (va_cpy (ar S 4) (ar S 8) 0 0 51))) b rfl dX2_follow_78 ⟨rfl, rfl⟩ rfl (by decide) (by decide)

set_option maxHeartbeats 4000000 in
set_option maxRecDepth 100000 in
theorem c_X11_lawful_32 {l : Launch} {D : va_G} {cy : Nat → ClassId} {T0 tB tE : Nat} {a : Nat → Nat} {rw : Nat → Option Nat} (S : GS) (p0 : Int32) (p1 : Int32) (h_i_14 : fi S 14 = (-1)) (h_i_29 : fi S 29 = 0) (hrw : ∀ i, i < 6 → rw i = some (a (36 + 2 * i))) (hr_p0 : 1 ≤ p0.toInt ∧ p0.toInt ≤ 3) (hr_p1 : 0 ≤ p1.toInt ∧ p1.toInt ≤ 31) : Ct l D cy T0 tB tE yX11_lawful cX11_lawful 6 (some .int) 3 86 0 0 (cw cy tE a rw S) [.ref (a 0), .int 1, .int p0, .int p1, .int 0] (QI D (U := GS) (fun r u => 0 = r ∧ sa S 8 (va_cpy (ar S 4) (ar S 8) 0 0 51) = u) (cw cy tE a rw)) := by
  refine Ct.ofZ RX11 "lawful" [(0, .ref (a 0)), (1, .int 1), (2, .int p0), (3, .int p1), (4, .int 0)] rfl rfl rfl rfl (Nat.le_of_ble_eq_true rfl) ?_
  intro p e R s m args below meth c A b
  refine z_iload_n b dX11_lawful_0 rfl rfl ?_
  refine z_calli b (z_runS (As := [.int 1]) (st := []) b (c_X11_isRow_4 S ) cf_X11_isRow wm_X11_169 ws_X11_isRow dX11_lawful_1 rfl (Nat.le_of_ble_eq_true rfl) ⟨by decide, by decide, by decide, by decide⟩) (fun r4833 u4834 h4832 => ?_)
  obtain ⟨rfl, rfl⟩ := h4832
  refine z_if_eq_f (tgt := 32) b dX11_lawful_4 (by decide) (by decide) ?_
  refine z_iload_n b dX11_lawful_7 rfl rfl ?_
  refine z_calli b (z_runS (As := [.int p0]) (st := []) b (c_X11_areLaws_3 S p0 ⟨by omega, by omega⟩) cf_X11_areLaws wm_X11_181 ws_X11_areLaws dX11_lawful_8 rfl (Nat.le_of_ble_eq_true rfl) ⟨by decide, by decide, by decide, by decide⟩) (fun r4836 u4837 h4835 => ?_)
  obtain ⟨rfl, rfl⟩ := h4835
  refine z_if_eq_f (tgt := 32) b dX11_lawful_11 (by decide) (by decide) ?_
  refine z_iload_n b dX11_lawful_14 rfl rfl ?_
  refine z_bipush (v := 31) b dX11_lawful_15 (by decide) ?_
  refine z_calli b (z_runS (As := [.int p1, .int 31]) (st := []) b (c_X11_isWithin_25 S p1 ⟨by omega, by omega⟩) cf_X11_isWithin wm_X11_73 ws_X11_isWithin dX11_lawful_17 rfl (Nat.le_of_ble_eq_true rfl) ⟨by decide, by decide, by decide, by decide⟩) (fun r4839 u4840 h4838 => ?_)
  obtain ⟨rfl, rfl⟩ := h4838
  refine z_if_eq_f (tgt := 32) b dX11_lawful_20 (by decide) (by decide) ?_
  refine z_iload b dX11_lawful_23 rfl ?_
  refine z_iconst (v := 1) b dX11_lawful_25 (by decide) ?_
  refine z_calli b (z_runS (As := [.int 0, .int 1]) (st := []) b (c_X11_isWithin_11 S ) cf_X11_isWithin wm_X11_73 ws_X11_isWithin dX11_lawful_26 rfl (Nat.le_of_ble_eq_true rfl) ⟨by decide, by decide, by decide, by decide⟩) (fun r4842 u4843 h4841 => ?_)
  obtain ⟨rfl, rfl⟩ := h4841
  refine z_if_ne_t (tgt := 34) b dX11_lawful_29 (by decide) (by decide) ?_
  refine z_aload_n b dX11_lawful_34 rfl rfl ?_
  refine z_get (q0 := 0) (k9 := 5) (v := .ref (a 16)) b (cw_0 cy tE a rw S) rfl in_X11 (by decide) wf_X11_43 rfl dX11_lawful_35 ?_
  refine z_aload_n b dX11_lawful_38 rfl rfl ?_
  refine z_get (q0 := 0) (k9 := 7) (v := .ref (a 35)) b (cw_0 cy tE a rw S) rfl in_X11 (by decide) wf_X11_58 rfl dX11_lawful_39 ?_
  refine z_iload_n b dX11_lawful_42 rfl rfl ?_
  refine y_aald (q0 := 35) (t0 := 4) (j := 1) (v := .ref (a 38)) b (cw_35 cy tE a rw S) rfl (by decide) (by rw [hrw 1 (by decide)]; rfl) dX11_lawful_43 ?_
  refine z_aload_n b dX11_lawful_44 rfl rfl ?_
  refine z_get (q0 := 0) (k9 := 4) (v := .ref (a 14)) b (cw_0 cy tE a rw S) rfl in_X11 (by decide) wf_X11_34 rfl dX11_lawful_45 ?_
  refine z_iload_n b dX11_lawful_48 rfl rfl ?_
  refine z_iload_n b dX11_lawful_49 rfl rfl ?_
  refine z_calli b (z_runV (q0 := 16) (As := [.ref (a 38), .ref (a 14), .int p0, .int p1]) (st := []) b (c_X2_follow_2 S p0 p1 h_i_14 h_i_29 ⟨by omega, by omega⟩ ⟨by omega, by omega⟩) cf_X2_follow (cw_16 cy tE a rw S) rfl wm_X11_184 wi_X2_follow ws_X2_follow dX11_lawful_50 rfl (Nat.le_of_ble_eq_true rfl) ⟨by decide, by decide, by decide, by decide⟩) (fun r4848 u4849 h4847 => ?_)
  obtain ⟨rfl, rfl⟩ := h4847
  refine z_istore (lv' := [(5, .int 0), (0, .ref (a 0)), (1, .int 1), (2, .int p0), (3, .int p1), (4, .int 0)]) b dX11_lawful_53 (by decide) rfl ?_
  refine z_iload b dX11_lawful_55 rfl ?_
  refine z_if_ne_f (tgt := 65) b dX11_lawful_57 (by decide) (by decide) ?_
  refine z_iload b dX11_lawful_60 rfl ?_
  refine z_goto (tgt := 72) b dX11_lawful_62 (by decide) ?_
  exact z_iret (u := (sa S 8 (va_cpy (ar S 4) (ar S 8) 0 0 51))) b rfl dX11_lawful_72 ⟨rfl, rfl⟩ rfl (by decide) (by decide)

set_option maxHeartbeats 4000000 in
set_option maxRecDepth 100000 in
theorem c_X12_goes_2 {l : Launch} {D : va_G} {cy : Nat → ClassId} {T0 tB tE : Nat} {a : Nat → Nat} (S : GS) (p0 : Int32) (p1 : Int32) (h_l_0 : fl S 0 = 1649317774848) (h_a_38_1 : ar S 38 1 = 0) (hr_p0 : 1 ≤ p0.toInt ∧ p0.toInt ≤ 3) (hr_p1 : 0 ≤ p1.toInt ∧ p1.toInt ≤ 31) : Ct l D cy T0 tB tE yX12_goes cX12_goes 5 (some .int) 0 0 0 0 (mw cy a S) [.ref (a 0), .int 1, .int p0, .int p1] (QI D (U := GS) (fun r u => 0 = r ∧ si (sl S 2 1649317774848) 24 (-1) = u) (mw cy a)) := by
  refine Ct.ofZ RX12 "goes" [(0, .ref (a 0)), (1, .int 1), (2, .int p0), (3, .int p1)] rfl rfl rfl rfl (Nat.le_of_ble_eq_true rfl) ?_
  intro p e R s m args below meth c A b
  refine z_aload_n b dX12_goes_0 rfl rfl ?_
  refine z_aload_n b dX12_goes_1 rfl rfl ?_
  refine z_get (q0 := 0) (k9 := 6) (v := .long (fl S 0)) b (mw_0 cy a S) rfl in_X12 (by decide) wf_X12_153 rfl dX12_goes_2 ?_
  refine z_eql h_l_0 ?_
  refine z_put (q0 := 0) (k9 := 68) tyX12 b (mw_0 cy a S) rfl in_X12 tyX12_ok nmX12 (by decide) wf_X12_458 rfl rfl rfl rfl (Nat.le_of_ble_eq_true rfl) dX12_goes_5 (mwp_0_68 cy a S 1649317774848) ?_
  refine z_aload_n b dX12_goes_8 rfl rfl ?_
  refine z_iconst (v := (-1)) b dX12_goes_9 (by decide) ?_
  refine z_put (q0 := 0) (k9 := 69) tyX12 b (mw_0 cy a (sl S 2 1649317774848)) rfl in_X12 tyX12_ok nmX12 (by decide) wf_X12_461 rfl rfl rfl rfl (Nat.le_of_ble_eq_true rfl) dX12_goes_10 (mwp_0_69 cy a (sl S 2 1649317774848) (-1)) ?_
  refine z_iconst (v := 0) b dX12_goes_13 (by decide) ?_
  refine z_istore (lv' := [(4, .int 0), (0, .ref (a 0)), (1, .int 1), (2, .int p0), (3, .int p1)]) b dX12_goes_14 (by decide) rfl ?_
  refine z_iload b dX12_goes_16 rfl ?_
  refine z_aload_n b dX12_goes_18 rfl rfl ?_
  refine z_get (q0 := 0) (k9 := 66) (v := .ref (a 41)) b (mw_0 cy a (si (sl S 2 1649317774848) 24 (-1))) rfl in_X12 (by decide) wf_X12_140 rfl dX12_goes_19 ?_
  refine z_iload_n b dX12_goes_22 rfl rfl ?_
  refine y_iald (q0 := 41) (j := 1) (v := (ar (si (sl S 2 1649317774848) 24 (-1)) 38 1)) b (mw_41 cy a (si (sl S 2 1649317774848) 24 (-1))) (by decide) rfl dX12_goes_23 ?_
  refine z_eqi h_a_38_1 ?_
  refine z_icmp_ge_t (tgt := 78) b dX12_goes_24 (by decide) (by decide) ?_
  refine z_aload_n b dX12_goes_78 rfl rfl ?_
  refine z_get (q0 := 0) (k9 := 66) (v := .ref (a 41)) b (mw_0 cy a (si (sl S 2 1649317774848) 24 (-1))) rfl in_X12 (by decide) wf_X12_140 rfl dX12_goes_79 ?_
  refine z_iload_n b dX12_goes_82 rfl rfl ?_
  refine y_iald (q0 := 41) (j := 1) (v := (ar (si (sl S 2 1649317774848) 24 (-1)) 38 1)) b (mw_41 cy a (si (sl S 2 1649317774848) 24 (-1))) (by decide) rfl dX12_goes_83 ?_
  refine z_eqi h_a_38_1 ?_
  exact z_iret (u := (si (sl S 2 1649317774848) 24 (-1))) b rfl dX12_goes_84 ⟨rfl, rfl⟩ rfl (by decide) (by decide)

set_option maxHeartbeats 4000000 in
set_option maxRecDepth 100000 in
theorem c_X12_lawful_32 {l : Launch} {D : va_G} {cy : Nat → ClassId} {T0 tB tE : Nat} {a : Nat → Nat} (S : GS) (p0 : Int32) (p1 : Int32) (h_l_0 : fl S 0 = 1649317774848) (h_a_38_1 : ar S 38 1 = 0) (hr_p0 : 1 ≤ p0.toInt ∧ p0.toInt ≤ 3) (hr_p1 : 0 ≤ p1.toInt ∧ p1.toInt ≤ 31) : Ct l D cy T0 tB tE yX12_lawful cX12_lawful 6 (some .int) 2 42 0 0 (mw cy a S) [.ref (a 0), .int 1, .int p0, .int p1, .int 0] (QI D (U := GS) (fun r u => 0 = r ∧ si (sl S 2 1649317774848) 24 (-1) = u) (mw cy a)) := by
  refine Ct.ofZ RX12 "lawful" [(0, .ref (a 0)), (1, .int 1), (2, .int p0), (3, .int p1), (4, .int 0)] rfl rfl rfl rfl (Nat.le_of_ble_eq_true rfl) ?_
  intro p e R s m args below meth c A b
  refine z_iload_n b dX12_lawful_0 rfl rfl ?_
  refine z_calli b (z_runS (As := [.int 1]) (st := []) b (c_X12_isRow_4 S ) cf_X12_isRow wm_X12_452 ws_X12_isRow dX12_lawful_1 rfl (Nat.le_of_ble_eq_true rfl) ⟨by decide, by decide, by decide, by decide⟩) (fun r4851 u4852 h4850 => ?_)
  obtain ⟨rfl, rfl⟩ := h4850
  refine z_if_eq_f (tgt := 36) b dX12_lawful_4 (by decide) (by decide) ?_
  refine z_iload_n b dX12_lawful_7 rfl rfl ?_
  refine z_iconst (v := 1) b dX12_lawful_8 (by decide) ?_
  refine z_iconst (v := 3) b dX12_lawful_9 (by decide) ?_
  refine z_calli b (z_runS (As := [.int p0, .int 1, .int 3]) (st := []) b (c_X12_isIn_51 S p0 ⟨by omega, by omega⟩) cf_X12_isIn wm_X12_1 ws_X12_isIn dX12_lawful_10 rfl (Nat.le_of_ble_eq_true rfl) ⟨by decide, by decide, by decide, by decide⟩) (fun r4854 u4855 h4853 => ?_)
  obtain ⟨rfl, rfl⟩ := h4853
  refine z_if_eq_f (tgt := 36) b dX12_lawful_13 (by decide) (by decide) ?_
  refine z_iload_n b dX12_lawful_16 rfl rfl ?_
  refine z_iconst (v := 0) b dX12_lawful_17 (by decide) ?_
  refine z_bipush (v := 31) b dX12_lawful_18 (by decide) ?_
  refine z_calli b (z_runS (As := [.int p1, .int 0, .int 31]) (st := []) b (c_X12_isIn_54 S p1 ⟨by omega, by omega⟩) cf_X12_isIn wm_X12_1 ws_X12_isIn dX12_lawful_20 rfl (Nat.le_of_ble_eq_true rfl) ⟨by decide, by decide, by decide, by decide⟩) (fun r4857 u4858 h4856 => ?_)
  obtain ⟨rfl, rfl⟩ := h4856
  refine z_if_eq_f (tgt := 36) b dX12_lawful_23 (by decide) (by decide) ?_
  refine z_iload b dX12_lawful_26 rfl ?_
  refine z_iconst (v := 0) b dX12_lawful_28 (by decide) ?_
  refine z_iconst (v := 1) b dX12_lawful_29 (by decide) ?_
  refine z_calli b (z_runS (As := [.int 0, .int 0, .int 1]) (st := []) b (c_X12_isIn_16 S ) cf_X12_isIn wm_X12_1 ws_X12_isIn dX12_lawful_30 rfl (Nat.le_of_ble_eq_true rfl) ⟨by decide, by decide, by decide, by decide⟩) (fun r4860 u4861 h4859 => ?_)
  obtain ⟨rfl, rfl⟩ := h4859
  refine z_if_ne_t (tgt := 38) b dX12_lawful_33 (by decide) (by decide) ?_
  refine z_aload_n b dX12_lawful_38 rfl rfl ?_
  refine z_iload_n b dX12_lawful_39 rfl rfl ?_
  refine z_iload_n b dX12_lawful_40 rfl rfl ?_
  refine z_iload_n b dX12_lawful_41 rfl rfl ?_
  refine z_calli b (z_runV (q0 := 0) (As := [.int 1, .int p0, .int p1]) (st := []) b (c_X12_goes_2 S p0 p1 h_l_0 h_a_38_1 ⟨by omega, by omega⟩ ⟨by omega, by omega⟩) cf_X12_goes (mw_0 cy a S) rfl wm_X12_464 wi_X12_goes ws_X12_goes dX12_lawful_42 rfl (Nat.le_of_ble_eq_true rfl) ⟨by decide, by decide, by decide, by decide⟩) (fun r4863 u4864 h4862 => ?_)
  obtain ⟨rfl, rfl⟩ := h4862
  refine z_istore (lv' := [(5, .int 0), (0, .ref (a 0)), (1, .int 1), (2, .int p0), (3, .int p1), (4, .int 0)]) b dX12_lawful_45 (by decide) rfl ?_
  refine z_iload b dX12_lawful_47 rfl ?_
  refine z_if_ne_f (tgt := 57) b dX12_lawful_49 (by decide) (by decide) ?_
  refine z_iload b dX12_lawful_52 rfl ?_
  refine z_goto (tgt := 61) b dX12_lawful_54 (by decide) ?_
  exact z_iret (u := (si (sl S 2 1649317774848) 24 (-1))) b rfl dX12_lawful_61 ⟨rfl, rfl⟩ rfl (by decide) (by decide)

set_option maxHeartbeats 4000000 in
set_option maxRecDepth 100000 in
theorem c_X11_lawful_33 {l : Launch} {D : va_G} {cy : Nat → ClassId} {T0 tB tE : Nat} {a : Nat → Nat} {rw : Nat → Option Nat} (S : GS) (p0 : Int32) (p1 : Int32) (h_i_14 : fi S 14 = (-1)) (h_i_29 : fi S 29 = 0) (hrw : ∀ i, i < 6 → rw i = some (a (36 + 2 * i))) (hr_p0 : 1 ≤ p0.toInt ∧ p0.toInt ≤ 3) (hr_p1 : 0 ≤ p1.toInt ∧ p1.toInt ≤ 31) : Ct l D cy T0 tB tE yX11_lawful cX11_lawful 6 (some .int) 3 86 0 0 (cw cy tE a rw S) [.ref (a 0), .int 1, .int p0, .int p1, .int 1] (QI D (U := GS) (fun r u => (-1) = r ∧ sa S 8 (va_cpy (ar S 4) (ar S 8) 0 0 51) = u) (cw cy tE a rw)) := by
  refine Ct.ofZ RX11 "lawful" [(0, .ref (a 0)), (1, .int 1), (2, .int p0), (3, .int p1), (4, .int 1)] rfl rfl rfl rfl (Nat.le_of_ble_eq_true rfl) ?_
  intro p e R s m args below meth c A b
  refine z_iload_n b dX11_lawful_0 rfl rfl ?_
  refine z_calli b (z_runS (As := [.int 1]) (st := []) b (c_X11_isRow_4 S ) cf_X11_isRow wm_X11_169 ws_X11_isRow dX11_lawful_1 rfl (Nat.le_of_ble_eq_true rfl) ⟨by decide, by decide, by decide, by decide⟩) (fun r4866 u4867 h4865 => ?_)
  obtain ⟨rfl, rfl⟩ := h4865
  refine z_if_eq_f (tgt := 32) b dX11_lawful_4 (by decide) (by decide) ?_
  refine z_iload_n b dX11_lawful_7 rfl rfl ?_
  refine z_calli b (z_runS (As := [.int p0]) (st := []) b (c_X11_areLaws_3 S p0 ⟨by omega, by omega⟩) cf_X11_areLaws wm_X11_181 ws_X11_areLaws dX11_lawful_8 rfl (Nat.le_of_ble_eq_true rfl) ⟨by decide, by decide, by decide, by decide⟩) (fun r4869 u4870 h4868 => ?_)
  obtain ⟨rfl, rfl⟩ := h4868
  refine z_if_eq_f (tgt := 32) b dX11_lawful_11 (by decide) (by decide) ?_
  refine z_iload_n b dX11_lawful_14 rfl rfl ?_
  refine z_bipush (v := 31) b dX11_lawful_15 (by decide) ?_
  refine z_calli b (z_runS (As := [.int p1, .int 31]) (st := []) b (c_X11_isWithin_25 S p1 ⟨by omega, by omega⟩) cf_X11_isWithin wm_X11_73 ws_X11_isWithin dX11_lawful_17 rfl (Nat.le_of_ble_eq_true rfl) ⟨by decide, by decide, by decide, by decide⟩) (fun r4872 u4873 h4871 => ?_)
  obtain ⟨rfl, rfl⟩ := h4871
  refine z_if_eq_f (tgt := 32) b dX11_lawful_20 (by decide) (by decide) ?_
  refine z_iload b dX11_lawful_23 rfl ?_
  refine z_iconst (v := 1) b dX11_lawful_25 (by decide) ?_
  refine z_calli b (z_runS (As := [.int 1, .int 1]) (st := []) b (c_X11_isWithin_12 S ) cf_X11_isWithin wm_X11_73 ws_X11_isWithin dX11_lawful_26 rfl (Nat.le_of_ble_eq_true rfl) ⟨by decide, by decide, by decide, by decide⟩) (fun r4875 u4876 h4874 => ?_)
  obtain ⟨rfl, rfl⟩ := h4874
  refine z_if_ne_t (tgt := 34) b dX11_lawful_29 (by decide) (by decide) ?_
  refine z_aload_n b dX11_lawful_34 rfl rfl ?_
  refine z_get (q0 := 0) (k9 := 5) (v := .ref (a 16)) b (cw_0 cy tE a rw S) rfl in_X11 (by decide) wf_X11_43 rfl dX11_lawful_35 ?_
  refine z_aload_n b dX11_lawful_38 rfl rfl ?_
  refine z_get (q0 := 0) (k9 := 7) (v := .ref (a 35)) b (cw_0 cy tE a rw S) rfl in_X11 (by decide) wf_X11_58 rfl dX11_lawful_39 ?_
  refine z_iload_n b dX11_lawful_42 rfl rfl ?_
  refine y_aald (q0 := 35) (t0 := 4) (j := 1) (v := .ref (a 38)) b (cw_35 cy tE a rw S) rfl (by decide) (by rw [hrw 1 (by decide)]; rfl) dX11_lawful_43 ?_
  refine z_aload_n b dX11_lawful_44 rfl rfl ?_
  refine z_get (q0 := 0) (k9 := 4) (v := .ref (a 14)) b (cw_0 cy tE a rw S) rfl in_X11 (by decide) wf_X11_34 rfl dX11_lawful_45 ?_
  refine z_iload_n b dX11_lawful_48 rfl rfl ?_
  refine z_iload_n b dX11_lawful_49 rfl rfl ?_
  refine z_calli b (z_runV (q0 := 16) (As := [.ref (a 38), .ref (a 14), .int p0, .int p1]) (st := []) b (c_X2_follow_2 S p0 p1 h_i_14 h_i_29 ⟨by omega, by omega⟩ ⟨by omega, by omega⟩) cf_X2_follow (cw_16 cy tE a rw S) rfl wm_X11_184 wi_X2_follow ws_X2_follow dX11_lawful_50 rfl (Nat.le_of_ble_eq_true rfl) ⟨by decide, by decide, by decide, by decide⟩) (fun r4878 u4879 h4877 => ?_)
  obtain ⟨rfl, rfl⟩ := h4877
  refine z_istore (lv' := [(5, .int 0), (0, .ref (a 0)), (1, .int 1), (2, .int p0), (3, .int p1), (4, .int 1)]) b dX11_lawful_53 (by decide) rfl ?_
  refine z_iload b dX11_lawful_55 rfl ?_
  refine z_if_ne_t (tgt := 65) b dX11_lawful_57 (by decide) (by decide) ?_
  refine z_aload_n b dX11_lawful_65 rfl rfl ?_
  refine z_get (q0 := 0) (k9 := 5) (v := .ref (a 16)) b (cw_0 cy tE a rw (sa S 8 (va_cpy (ar S 4) (ar S 8) 0 0 51))) rfl in_X11 (by decide) wf_X11_43 rfl dX11_lawful_66 ?_
  refine z_get (q0 := 16) (k9 := 4) (v := .int (fi (sa S 8 (va_cpy (ar S 4) (ar S 8) 0 0 51)) 14)) b (cw_16 cy tE a rw (sa S 8 (va_cpy (ar S 4) (ar S 8) 0 0 51))) rfl in_X2 (by decide) wf_X11_188 rfl dX11_lawful_69 ?_
  refine z_eqi h_i_14 ?_
  exact z_iret (u := (sa S 8 (va_cpy (ar S 4) (ar S 8) 0 0 51))) b rfl dX11_lawful_72 ⟨rfl, rfl⟩ rfl (by decide) (by decide)

set_option maxHeartbeats 4000000 in
set_option maxRecDepth 100000 in
theorem c_X12_lawful_33 {l : Launch} {D : va_G} {cy : Nat → ClassId} {T0 tB tE : Nat} {a : Nat → Nat} (S : GS) (p0 : Int32) (p1 : Int32) (h_l_0 : fl S 0 = 1649317774848) (h_a_38_1 : ar S 38 1 = 0) (hr_p0 : 1 ≤ p0.toInt ∧ p0.toInt ≤ 3) (hr_p1 : 0 ≤ p1.toInt ∧ p1.toInt ≤ 31) : Ct l D cy T0 tB tE yX12_lawful cX12_lawful 6 (some .int) 2 42 0 0 (mw cy a S) [.ref (a 0), .int 1, .int p0, .int p1, .int 1] (QI D (U := GS) (fun r u => (-1) = r ∧ si (sl S 2 1649317774848) 24 (-1) = u) (mw cy a)) := by
  refine Ct.ofZ RX12 "lawful" [(0, .ref (a 0)), (1, .int 1), (2, .int p0), (3, .int p1), (4, .int 1)] rfl rfl rfl rfl (Nat.le_of_ble_eq_true rfl) ?_
  intro p e R s m args below meth c A b
  refine z_iload_n b dX12_lawful_0 rfl rfl ?_
  refine z_calli b (z_runS (As := [.int 1]) (st := []) b (c_X12_isRow_4 S ) cf_X12_isRow wm_X12_452 ws_X12_isRow dX12_lawful_1 rfl (Nat.le_of_ble_eq_true rfl) ⟨by decide, by decide, by decide, by decide⟩) (fun r4881 u4882 h4880 => ?_)
  obtain ⟨rfl, rfl⟩ := h4880
  refine z_if_eq_f (tgt := 36) b dX12_lawful_4 (by decide) (by decide) ?_
  refine z_iload_n b dX12_lawful_7 rfl rfl ?_
  refine z_iconst (v := 1) b dX12_lawful_8 (by decide) ?_
  refine z_iconst (v := 3) b dX12_lawful_9 (by decide) ?_
  refine z_calli b (z_runS (As := [.int p0, .int 1, .int 3]) (st := []) b (c_X12_isIn_51 S p0 ⟨by omega, by omega⟩) cf_X12_isIn wm_X12_1 ws_X12_isIn dX12_lawful_10 rfl (Nat.le_of_ble_eq_true rfl) ⟨by decide, by decide, by decide, by decide⟩) (fun r4884 u4885 h4883 => ?_)
  obtain ⟨rfl, rfl⟩ := h4883
  refine z_if_eq_f (tgt := 36) b dX12_lawful_13 (by decide) (by decide) ?_
  refine z_iload_n b dX12_lawful_16 rfl rfl ?_
  refine z_iconst (v := 0) b dX12_lawful_17 (by decide) ?_
  refine z_bipush (v := 31) b dX12_lawful_18 (by decide) ?_
  refine z_calli b (z_runS (As := [.int p1, .int 0, .int 31]) (st := []) b (c_X12_isIn_54 S p1 ⟨by omega, by omega⟩) cf_X12_isIn wm_X12_1 ws_X12_isIn dX12_lawful_20 rfl (Nat.le_of_ble_eq_true rfl) ⟨by decide, by decide, by decide, by decide⟩) (fun r4887 u4888 h4886 => ?_)
  obtain ⟨rfl, rfl⟩ := h4886
  refine z_if_eq_f (tgt := 36) b dX12_lawful_23 (by decide) (by decide) ?_
  refine z_iload b dX12_lawful_26 rfl ?_
  refine z_iconst (v := 0) b dX12_lawful_28 (by decide) ?_
  refine z_iconst (v := 1) b dX12_lawful_29 (by decide) ?_
  refine z_calli b (z_runS (As := [.int 1, .int 0, .int 1]) (st := []) b (c_X12_isIn_17 S ) cf_X12_isIn wm_X12_1 ws_X12_isIn dX12_lawful_30 rfl (Nat.le_of_ble_eq_true rfl) ⟨by decide, by decide, by decide, by decide⟩) (fun r4890 u4891 h4889 => ?_)
  obtain ⟨rfl, rfl⟩ := h4889
  refine z_if_ne_t (tgt := 38) b dX12_lawful_33 (by decide) (by decide) ?_
  refine z_aload_n b dX12_lawful_38 rfl rfl ?_
  refine z_iload_n b dX12_lawful_39 rfl rfl ?_
  refine z_iload_n b dX12_lawful_40 rfl rfl ?_
  refine z_iload_n b dX12_lawful_41 rfl rfl ?_
  refine z_calli b (z_runV (q0 := 0) (As := [.int 1, .int p0, .int p1]) (st := []) b (c_X12_goes_2 S p0 p1 h_l_0 h_a_38_1 ⟨by omega, by omega⟩ ⟨by omega, by omega⟩) cf_X12_goes (mw_0 cy a S) rfl wm_X12_464 wi_X12_goes ws_X12_goes dX12_lawful_42 rfl (Nat.le_of_ble_eq_true rfl) ⟨by decide, by decide, by decide, by decide⟩) (fun r4893 u4894 h4892 => ?_)
  obtain ⟨rfl, rfl⟩ := h4892
  refine z_istore (lv' := [(5, .int 0), (0, .ref (a 0)), (1, .int 1), (2, .int p0), (3, .int p1), (4, .int 1)]) b dX12_lawful_45 (by decide) rfl ?_
  refine z_iload b dX12_lawful_47 rfl ?_
  refine z_if_ne_t (tgt := 57) b dX12_lawful_49 (by decide) (by decide) ?_
  refine z_aload_n b dX12_lawful_57 rfl rfl ?_
  refine z_get (q0 := 0) (k9 := 69) (v := .int (-1)) b (mw_0 cy a (si (sl S 2 1649317774848) 24 (-1))) rfl in_X12 (by decide) wf_X12_461 rfl dX12_lawful_58 ?_
  exact z_iret (u := (si (sl S 2 1649317774848) 24 (-1))) b rfl dX12_lawful_61 ⟨rfl, rfl⟩ rfl (by decide) (by decide)

set_option maxHeartbeats 4000000 in
set_option maxRecDepth 100000 in
theorem c_X11_lawful_34 {l : Launch} {D : va_G} {cy : Nat → ClassId} {T0 tB tE : Nat} {a : Nat → Nat} {rw : Nat → Option Nat} (S : GS) (p0 : Int32) (p1 : Int32) (p2 : Int32)  (hr_p0 : 1 ≤ p0.toInt ∧ p0.toInt ≤ 3) (hr_p1 : 0 ≤ p1.toInt ∧ p1.toInt ≤ 31) (hr_p2 : 2 ≤ p2.toInt ∧ p2.toInt ≤ 2147483647) : Ct l D cy T0 tB tE yX11_lawful cX11_lawful 6 (some .int) 1 21 0 0 (cw cy tE a rw S) [.ref (a 0), .int 1, .int p0, .int p1, .int p2] (QI D (U := GS) (fun r u => (-1) = r ∧ S = u) (cw cy tE a rw)) := by
  refine Ct.ofZ RX11 "lawful" [(0, .ref (a 0)), (1, .int 1), (2, .int p0), (3, .int p1), (4, .int p2)] rfl rfl rfl rfl (Nat.le_of_ble_eq_true rfl) ?_
  intro p e R s m args below meth c A b
  refine z_iload_n b dX11_lawful_0 rfl rfl ?_
  refine z_calli b (z_runS (As := [.int 1]) (st := []) b (c_X11_isRow_4 S ) cf_X11_isRow wm_X11_169 ws_X11_isRow dX11_lawful_1 rfl (Nat.le_of_ble_eq_true rfl) ⟨by decide, by decide, by decide, by decide⟩) (fun r4896 u4897 h4895 => ?_)
  obtain ⟨rfl, rfl⟩ := h4895
  refine z_if_eq_f (tgt := 32) b dX11_lawful_4 (by decide) (by decide) ?_
  refine z_iload_n b dX11_lawful_7 rfl rfl ?_
  refine z_calli b (z_runS (As := [.int p0]) (st := []) b (c_X11_areLaws_3 S p0 ⟨by omega, by omega⟩) cf_X11_areLaws wm_X11_181 ws_X11_areLaws dX11_lawful_8 rfl (Nat.le_of_ble_eq_true rfl) ⟨by decide, by decide, by decide, by decide⟩) (fun r4899 u4900 h4898 => ?_)
  obtain ⟨rfl, rfl⟩ := h4898
  refine z_if_eq_f (tgt := 32) b dX11_lawful_11 (by decide) (by decide) ?_
  refine z_iload_n b dX11_lawful_14 rfl rfl ?_
  refine z_bipush (v := 31) b dX11_lawful_15 (by decide) ?_
  refine z_calli b (z_runS (As := [.int p1, .int 31]) (st := []) b (c_X11_isWithin_25 S p1 ⟨by omega, by omega⟩) cf_X11_isWithin wm_X11_73 ws_X11_isWithin dX11_lawful_17 rfl (Nat.le_of_ble_eq_true rfl) ⟨by decide, by decide, by decide, by decide⟩) (fun r4902 u4903 h4901 => ?_)
  obtain ⟨rfl, rfl⟩ := h4901
  refine z_if_eq_f (tgt := 32) b dX11_lawful_20 (by decide) (by decide) ?_
  refine z_iload b dX11_lawful_23 rfl ?_
  refine z_iconst (v := 1) b dX11_lawful_25 (by decide) ?_
  refine z_calli b (z_runS (As := [.int p2, .int 1]) (st := []) b (c_X11_isWithin_13 S p2 ⟨by omega, by omega⟩) cf_X11_isWithin wm_X11_73 ws_X11_isWithin dX11_lawful_26 rfl (Nat.le_of_ble_eq_true rfl) ⟨by decide, by decide, by decide, by decide⟩) (fun r4905 u4906 h4904 => ?_)
  obtain ⟨rfl, rfl⟩ := h4904
  refine z_if_ne_f (tgt := 34) b dX11_lawful_29 (by decide) (by decide) ?_
  refine z_iconst (v := (-1)) b dX11_lawful_32 (by decide) ?_
  exact z_iret (u := S) b rfl dX11_lawful_33 ⟨rfl, rfl⟩ rfl (by decide) (by decide)

set_option maxHeartbeats 4000000 in
set_option maxRecDepth 100000 in
theorem c_X12_lawful_34 {l : Launch} {D : va_G} {cy : Nat → ClassId} {T0 tB tE : Nat} {a : Nat → Nat} (S : GS) (p0 : Int32) (p1 : Int32) (p2 : Int32)  (hr_p0 : 1 ≤ p0.toInt ∧ p0.toInt ≤ 3) (hr_p1 : 0 ≤ p1.toInt ∧ p1.toInt ≤ 31) (hr_p2 : 2 ≤ p2.toInt ∧ p2.toInt ≤ 2147483647) : Ct l D cy T0 tB tE yX12_lawful cX12_lawful 6 (some .int) 2 42 0 0 (mw cy a S) [.ref (a 0), .int 1, .int p0, .int p1, .int p2] (QI D (U := GS) (fun r u => (-1) = r ∧ S = u) (mw cy a)) := by
  refine Ct.ofZ RX12 "lawful" [(0, .ref (a 0)), (1, .int 1), (2, .int p0), (3, .int p1), (4, .int p2)] rfl rfl rfl rfl (Nat.le_of_ble_eq_true rfl) ?_
  intro p e R s m args below meth c A b
  refine z_iload_n b dX12_lawful_0 rfl rfl ?_
  refine z_calli b (z_runS (As := [.int 1]) (st := []) b (c_X12_isRow_4 S ) cf_X12_isRow wm_X12_452 ws_X12_isRow dX12_lawful_1 rfl (Nat.le_of_ble_eq_true rfl) ⟨by decide, by decide, by decide, by decide⟩) (fun r4908 u4909 h4907 => ?_)
  obtain ⟨rfl, rfl⟩ := h4907
  refine z_if_eq_f (tgt := 36) b dX12_lawful_4 (by decide) (by decide) ?_
  refine z_iload_n b dX12_lawful_7 rfl rfl ?_
  refine z_iconst (v := 1) b dX12_lawful_8 (by decide) ?_
  refine z_iconst (v := 3) b dX12_lawful_9 (by decide) ?_
  refine z_calli b (z_runS (As := [.int p0, .int 1, .int 3]) (st := []) b (c_X12_isIn_51 S p0 ⟨by omega, by omega⟩) cf_X12_isIn wm_X12_1 ws_X12_isIn dX12_lawful_10 rfl (Nat.le_of_ble_eq_true rfl) ⟨by decide, by decide, by decide, by decide⟩) (fun r4911 u4912 h4910 => ?_)
  obtain ⟨rfl, rfl⟩ := h4910
  refine z_if_eq_f (tgt := 36) b dX12_lawful_13 (by decide) (by decide) ?_
  refine z_iload_n b dX12_lawful_16 rfl rfl ?_
  refine z_iconst (v := 0) b dX12_lawful_17 (by decide) ?_
  refine z_bipush (v := 31) b dX12_lawful_18 (by decide) ?_
  refine z_calli b (z_runS (As := [.int p1, .int 0, .int 31]) (st := []) b (c_X12_isIn_54 S p1 ⟨by omega, by omega⟩) cf_X12_isIn wm_X12_1 ws_X12_isIn dX12_lawful_20 rfl (Nat.le_of_ble_eq_true rfl) ⟨by decide, by decide, by decide, by decide⟩) (fun r4914 u4915 h4913 => ?_)
  obtain ⟨rfl, rfl⟩ := h4913
  refine z_if_eq_f (tgt := 36) b dX12_lawful_23 (by decide) (by decide) ?_
  refine z_iload b dX12_lawful_26 rfl ?_
  refine z_iconst (v := 0) b dX12_lawful_28 (by decide) ?_
  refine z_iconst (v := 1) b dX12_lawful_29 (by decide) ?_
  refine z_calli b (z_runS (As := [.int p2, .int 0, .int 1]) (st := []) b (c_X12_isIn_18 S p2 ⟨by omega, by omega⟩) cf_X12_isIn wm_X12_1 ws_X12_isIn dX12_lawful_30 rfl (Nat.le_of_ble_eq_true rfl) ⟨by decide, by decide, by decide, by decide⟩) (fun r4917 u4918 h4916 => ?_)
  obtain ⟨rfl, rfl⟩ := h4916
  refine z_if_ne_f (tgt := 38) b dX12_lawful_33 (by decide) (by decide) ?_
  refine z_iconst (v := (-1)) b dX12_lawful_36 (by decide) ?_
  exact z_iret (u := S) b rfl dX12_lawful_37 ⟨rfl, rfl⟩ rfl (by decide) (by decide)

set_option maxHeartbeats 4000000 in
set_option maxRecDepth 100000 in
theorem c_X11_lawful_35 {l : Launch} {D : va_G} {cy : Nat → ClassId} {T0 tB tE : Nat} {a : Nat → Nat} {rw : Nat → Option Nat} (S : GS) (p0 : Int32) (p1 : Int32) (p2 : Int32)  (hr_p0 : 1 ≤ p0.toInt ∧ p0.toInt ≤ 3) (hr_p1 : 0 ≤ p1.toInt ∧ p1.toInt ≤ 31) (hr_p2 : (-2147483648) ≤ p2.toInt ∧ p2.toInt ≤ (-1)) : Ct l D cy T0 tB tE yX11_lawful cX11_lawful 6 (some .int) 1 21 0 0 (cw cy tE a rw S) [.ref (a 0), .int 2, .int p0, .int p1, .int p2] (QI D (U := GS) (fun r u => (-1) = r ∧ S = u) (cw cy tE a rw)) := by
  refine Ct.ofZ RX11 "lawful" [(0, .ref (a 0)), (1, .int 2), (2, .int p0), (3, .int p1), (4, .int p2)] rfl rfl rfl rfl (Nat.le_of_ble_eq_true rfl) ?_
  intro p e R s m args below meth c A b
  refine z_iload_n b dX11_lawful_0 rfl rfl ?_
  refine z_calli b (z_runS (As := [.int 2]) (st := []) b (c_X11_isRow_5 S ) cf_X11_isRow wm_X11_169 ws_X11_isRow dX11_lawful_1 rfl (Nat.le_of_ble_eq_true rfl) ⟨by decide, by decide, by decide, by decide⟩) (fun r4920 u4921 h4919 => ?_)
  obtain ⟨rfl, rfl⟩ := h4919
  refine z_if_eq_f (tgt := 32) b dX11_lawful_4 (by decide) (by decide) ?_
  refine z_iload_n b dX11_lawful_7 rfl rfl ?_
  refine z_calli b (z_runS (As := [.int p0]) (st := []) b (c_X11_areLaws_3 S p0 ⟨by omega, by omega⟩) cf_X11_areLaws wm_X11_181 ws_X11_areLaws dX11_lawful_8 rfl (Nat.le_of_ble_eq_true rfl) ⟨by decide, by decide, by decide, by decide⟩) (fun r4923 u4924 h4922 => ?_)
  obtain ⟨rfl, rfl⟩ := h4922
  refine z_if_eq_f (tgt := 32) b dX11_lawful_11 (by decide) (by decide) ?_
  refine z_iload_n b dX11_lawful_14 rfl rfl ?_
  refine z_bipush (v := 31) b dX11_lawful_15 (by decide) ?_
  refine z_calli b (z_runS (As := [.int p1, .int 31]) (st := []) b (c_X11_isWithin_25 S p1 ⟨by omega, by omega⟩) cf_X11_isWithin wm_X11_73 ws_X11_isWithin dX11_lawful_17 rfl (Nat.le_of_ble_eq_true rfl) ⟨by decide, by decide, by decide, by decide⟩) (fun r4926 u4927 h4925 => ?_)
  obtain ⟨rfl, rfl⟩ := h4925
  refine z_if_eq_f (tgt := 32) b dX11_lawful_20 (by decide) (by decide) ?_
  refine z_iload b dX11_lawful_23 rfl ?_
  refine z_iconst (v := 1) b dX11_lawful_25 (by decide) ?_
  refine z_calli b (z_runS (As := [.int p2, .int 1]) (st := []) b (c_X11_isWithin_10 S p2 ⟨by omega, by omega⟩) cf_X11_isWithin wm_X11_73 ws_X11_isWithin dX11_lawful_26 rfl (Nat.le_of_ble_eq_true rfl) ⟨by decide, by decide, by decide, by decide⟩) (fun r4929 u4930 h4928 => ?_)
  obtain ⟨rfl, rfl⟩ := h4928
  refine z_if_ne_f (tgt := 34) b dX11_lawful_29 (by decide) (by decide) ?_
  refine z_iconst (v := (-1)) b dX11_lawful_32 (by decide) ?_
  exact z_iret (u := S) b rfl dX11_lawful_33 ⟨rfl, rfl⟩ rfl (by decide) (by decide)

set_option maxHeartbeats 4000000 in
set_option maxRecDepth 100000 in
theorem c_X12_lawful_35 {l : Launch} {D : va_G} {cy : Nat → ClassId} {T0 tB tE : Nat} {a : Nat → Nat} (S : GS) (p0 : Int32) (p1 : Int32) (p2 : Int32)  (hr_p0 : 1 ≤ p0.toInt ∧ p0.toInt ≤ 3) (hr_p1 : 0 ≤ p1.toInt ∧ p1.toInt ≤ 31) (hr_p2 : (-2147483648) ≤ p2.toInt ∧ p2.toInt ≤ (-1)) : Ct l D cy T0 tB tE yX12_lawful cX12_lawful 6 (some .int) 2 42 0 0 (mw cy a S) [.ref (a 0), .int 2, .int p0, .int p1, .int p2] (QI D (U := GS) (fun r u => (-1) = r ∧ S = u) (mw cy a)) := by
  refine Ct.ofZ RX12 "lawful" [(0, .ref (a 0)), (1, .int 2), (2, .int p0), (3, .int p1), (4, .int p2)] rfl rfl rfl rfl (Nat.le_of_ble_eq_true rfl) ?_
  intro p e R s m args below meth c A b
  refine z_iload_n b dX12_lawful_0 rfl rfl ?_
  refine z_calli b (z_runS (As := [.int 2]) (st := []) b (c_X12_isRow_5 S ) cf_X12_isRow wm_X12_452 ws_X12_isRow dX12_lawful_1 rfl (Nat.le_of_ble_eq_true rfl) ⟨by decide, by decide, by decide, by decide⟩) (fun r4932 u4933 h4931 => ?_)
  obtain ⟨rfl, rfl⟩ := h4931
  refine z_if_eq_f (tgt := 36) b dX12_lawful_4 (by decide) (by decide) ?_
  refine z_iload_n b dX12_lawful_7 rfl rfl ?_
  refine z_iconst (v := 1) b dX12_lawful_8 (by decide) ?_
  refine z_iconst (v := 3) b dX12_lawful_9 (by decide) ?_
  refine z_calli b (z_runS (As := [.int p0, .int 1, .int 3]) (st := []) b (c_X12_isIn_51 S p0 ⟨by omega, by omega⟩) cf_X12_isIn wm_X12_1 ws_X12_isIn dX12_lawful_10 rfl (Nat.le_of_ble_eq_true rfl) ⟨by decide, by decide, by decide, by decide⟩) (fun r4935 u4936 h4934 => ?_)
  obtain ⟨rfl, rfl⟩ := h4934
  refine z_if_eq_f (tgt := 36) b dX12_lawful_13 (by decide) (by decide) ?_
  refine z_iload_n b dX12_lawful_16 rfl rfl ?_
  refine z_iconst (v := 0) b dX12_lawful_17 (by decide) ?_
  refine z_bipush (v := 31) b dX12_lawful_18 (by decide) ?_
  refine z_calli b (z_runS (As := [.int p1, .int 0, .int 31]) (st := []) b (c_X12_isIn_54 S p1 ⟨by omega, by omega⟩) cf_X12_isIn wm_X12_1 ws_X12_isIn dX12_lawful_20 rfl (Nat.le_of_ble_eq_true rfl) ⟨by decide, by decide, by decide, by decide⟩) (fun r4938 u4939 h4937 => ?_)
  obtain ⟨rfl, rfl⟩ := h4937
  refine z_if_eq_f (tgt := 36) b dX12_lawful_23 (by decide) (by decide) ?_
  refine z_iload b dX12_lawful_26 rfl ?_
  refine z_iconst (v := 0) b dX12_lawful_28 (by decide) ?_
  refine z_iconst (v := 1) b dX12_lawful_29 (by decide) ?_
  refine z_calli b (z_runS (As := [.int p2, .int 0, .int 1]) (st := []) b (c_X12_isIn_15 S p2 ⟨by omega, by omega⟩) cf_X12_isIn wm_X12_1 ws_X12_isIn dX12_lawful_30 rfl (Nat.le_of_ble_eq_true rfl) ⟨by decide, by decide, by decide, by decide⟩) (fun r4941 u4942 h4940 => ?_)
  obtain ⟨rfl, rfl⟩ := h4940
  refine z_if_ne_f (tgt := 38) b dX12_lawful_33 (by decide) (by decide) ?_
  refine z_iconst (v := (-1)) b dX12_lawful_36 (by decide) ?_
  exact z_iret (u := S) b rfl dX12_lawful_37 ⟨rfl, rfl⟩ rfl (by decide) (by decide)

set_option maxHeartbeats 4000000 in
set_option maxRecDepth 100000 in
theorem c_X2_follow_3 {l : Launch} {D : va_G} {cy : Nat → ClassId} {T0 tB tE : Nat} {a : Nat → Nat} {rw : Nat → Option Nat} (S : GS) (p0 : Int32) (p1 : Int32) (h_i_14 : fi S 14 = (-1)) (h_i_31 : fi S 31 = 0) (hr_p0 : 1 ≤ p0.toInt ∧ p0.toInt ≤ 3) (hr_p1 : 0 ≤ p1.toInt ∧ p1.toInt ≤ 31) : Ct l D cy T0 tB tE yX2_follow cX2_follow 6 (some .int) 2 61 0 0 (cw cy tE a rw S) [.ref (a 16), .ref (a 40), .ref (a 14), .int p0, .int p1] (QI D (U := GS) (fun r u => 0 = r ∧ sa S 8 (va_cpy (ar S 4) (ar S 8) 0 0 51) = u) (cw cy tE a rw)) := by
  refine Ct.ofZ RX2 "follow" [(0, .ref (a 16)), (1, .ref (a 40)), (2, .ref (a 14)), (3, .int p0), (4, .int p1)] rfl rfl rfl rfl (Nat.le_of_ble_eq_true rfl) ?_
  intro p e R s m args below meth c A b
  refine z_aload_n b dX2_follow_0 rfl rfl ?_
  refine z_get (q0 := 16) (k9 := 3) (v := .ref (a 23)) b (cw_16 cy tE a rw S) rfl in_X2 (by decide) wf_X2_25 rfl dX2_follow_1 ?_
  refine z_aload_n b dX2_follow_4 rfl rfl ?_
  refine z_callv b (z_runV (q0 := 23) (As := [.ref (a 14)]) (st := []) b (c_X9_copy S ) cf_X9_copy (cw_23 cy tE a rw S) rfl wm_X2_80 wi_X9_copy ws_X9_copy dX2_follow_5 rfl (Nat.le_of_ble_eq_true rfl) ⟨by decide, by decide, by decide, by decide⟩) (fun u4957 h4955 => ?_)
  obtain rfl := h4955
  refine z_aload_n b dX2_follow_8 rfl rfl ?_
  refine z_iconst (v := (-1)) b dX2_follow_9 (by decide) ?_
  refine z_put (q0 := 16) (k9 := 4) tyX2 b (cw_16 cy tE a rw (sa S 8 (va_cpy (ar S 4) (ar S 8) 0 0 51))) rfl in_X2 tyX2_ok nmX2 (by decide) wf_X2_28 rfl rfl rfl rfl (Nat.le_of_ble_eq_true rfl) dX2_follow_10 ((cwp_16_4 cy tE a rw (sa S 8 (va_cpy (ar S 4) (ar S 8) 0 0 51)) (-1)).trans (congrArg (cw cy tE a rw) (si_same h_i_14))) ?_
  refine z_iconst (v := 0) b dX2_follow_13 (by decide) ?_
  refine z_istore (lv' := [(5, .int 0), (0, .ref (a 16)), (1, .ref (a 40)), (2, .ref (a 14)), (3, .int p0), (4, .int p1)]) b dX2_follow_14 (by decide) rfl ?_
  refine z_iload b dX2_follow_16 rfl ?_
  refine z_aload_n b dX2_follow_18 rfl rfl ?_
  refine z_get (q0 := 40) (k9 := 1) (v := .int (fi (sa S 8 (va_cpy (ar S 4) (ar S 8) 0 0 51)) 31)) b (cw_40 cy tE a rw (sa S 8 (va_cpy (ar S 4) (ar S 8) 0 0 51))) rfl in_X7 (by decide) wf_X2_108 rfl dX2_follow_19 ?_
  refine z_eqi h_i_31 ?_
  refine z_icmp_ge_t (tgt := 74) b dX2_follow_22 (by decide) (by decide) ?_
  refine z_aload_n b dX2_follow_74 rfl rfl ?_
  refine z_get (q0 := 40) (k9 := 1) (v := .int (fi (sa S 8 (va_cpy (ar S 4) (ar S 8) 0 0 51)) 31)) b (cw_40 cy tE a rw (sa S 8 (va_cpy (ar S 4) (ar S 8) 0 0 51))) rfl in_X7 (by decide) wf_X2_108 rfl dX2_follow_75 ?_
  refine z_eqi h_i_31 ?_
  exact z_iret (u := (sa S 8 (va_cpy (ar S 4) (ar S 8) 0 0 51))) b rfl dX2_follow_78 ⟨rfl, rfl⟩ rfl (by decide) (by decide)

set_option maxHeartbeats 4000000 in
set_option maxRecDepth 100000 in
theorem c_X11_lawful_36 {l : Launch} {D : va_G} {cy : Nat → ClassId} {T0 tB tE : Nat} {a : Nat → Nat} {rw : Nat → Option Nat} (S : GS) (p0 : Int32) (p1 : Int32) (h_i_14 : fi S 14 = (-1)) (h_i_31 : fi S 31 = 0) (hrw : ∀ i, i < 6 → rw i = some (a (36 + 2 * i))) (hr_p0 : 1 ≤ p0.toInt ∧ p0.toInt ≤ 3) (hr_p1 : 0 ≤ p1.toInt ∧ p1.toInt ≤ 31) : Ct l D cy T0 tB tE yX11_lawful cX11_lawful 6 (some .int) 3 86 0 0 (cw cy tE a rw S) [.ref (a 0), .int 2, .int p0, .int p1, .int 0] (QI D (U := GS) (fun r u => 0 = r ∧ sa S 8 (va_cpy (ar S 4) (ar S 8) 0 0 51) = u) (cw cy tE a rw)) := by
  refine Ct.ofZ RX11 "lawful" [(0, .ref (a 0)), (1, .int 2), (2, .int p0), (3, .int p1), (4, .int 0)] rfl rfl rfl rfl (Nat.le_of_ble_eq_true rfl) ?_
  intro p e R s m args below meth c A b
  refine z_iload_n b dX11_lawful_0 rfl rfl ?_
  refine z_calli b (z_runS (As := [.int 2]) (st := []) b (c_X11_isRow_5 S ) cf_X11_isRow wm_X11_169 ws_X11_isRow dX11_lawful_1 rfl (Nat.le_of_ble_eq_true rfl) ⟨by decide, by decide, by decide, by decide⟩) (fun r4944 u4945 h4943 => ?_)
  obtain ⟨rfl, rfl⟩ := h4943
  refine z_if_eq_f (tgt := 32) b dX11_lawful_4 (by decide) (by decide) ?_
  refine z_iload_n b dX11_lawful_7 rfl rfl ?_
  refine z_calli b (z_runS (As := [.int p0]) (st := []) b (c_X11_areLaws_3 S p0 ⟨by omega, by omega⟩) cf_X11_areLaws wm_X11_181 ws_X11_areLaws dX11_lawful_8 rfl (Nat.le_of_ble_eq_true rfl) ⟨by decide, by decide, by decide, by decide⟩) (fun r4947 u4948 h4946 => ?_)
  obtain ⟨rfl, rfl⟩ := h4946
  refine z_if_eq_f (tgt := 32) b dX11_lawful_11 (by decide) (by decide) ?_
  refine z_iload_n b dX11_lawful_14 rfl rfl ?_
  refine z_bipush (v := 31) b dX11_lawful_15 (by decide) ?_
  refine z_calli b (z_runS (As := [.int p1, .int 31]) (st := []) b (c_X11_isWithin_25 S p1 ⟨by omega, by omega⟩) cf_X11_isWithin wm_X11_73 ws_X11_isWithin dX11_lawful_17 rfl (Nat.le_of_ble_eq_true rfl) ⟨by decide, by decide, by decide, by decide⟩) (fun r4950 u4951 h4949 => ?_)
  obtain ⟨rfl, rfl⟩ := h4949
  refine z_if_eq_f (tgt := 32) b dX11_lawful_20 (by decide) (by decide) ?_
  refine z_iload b dX11_lawful_23 rfl ?_
  refine z_iconst (v := 1) b dX11_lawful_25 (by decide) ?_
  refine z_calli b (z_runS (As := [.int 0, .int 1]) (st := []) b (c_X11_isWithin_11 S ) cf_X11_isWithin wm_X11_73 ws_X11_isWithin dX11_lawful_26 rfl (Nat.le_of_ble_eq_true rfl) ⟨by decide, by decide, by decide, by decide⟩) (fun r4953 u4954 h4952 => ?_)
  obtain ⟨rfl, rfl⟩ := h4952
  refine z_if_ne_t (tgt := 34) b dX11_lawful_29 (by decide) (by decide) ?_
  refine z_aload_n b dX11_lawful_34 rfl rfl ?_
  refine z_get (q0 := 0) (k9 := 5) (v := .ref (a 16)) b (cw_0 cy tE a rw S) rfl in_X11 (by decide) wf_X11_43 rfl dX11_lawful_35 ?_
  refine z_aload_n b dX11_lawful_38 rfl rfl ?_
  refine z_get (q0 := 0) (k9 := 7) (v := .ref (a 35)) b (cw_0 cy tE a rw S) rfl in_X11 (by decide) wf_X11_58 rfl dX11_lawful_39 ?_
  refine z_iload_n b dX11_lawful_42 rfl rfl ?_
  refine y_aald (q0 := 35) (t0 := 4) (j := 2) (v := .ref (a 40)) b (cw_35 cy tE a rw S) rfl (by decide) (by rw [hrw 2 (by decide)]; rfl) dX11_lawful_43 ?_
  refine z_aload_n b dX11_lawful_44 rfl rfl ?_
  refine z_get (q0 := 0) (k9 := 4) (v := .ref (a 14)) b (cw_0 cy tE a rw S) rfl in_X11 (by decide) wf_X11_34 rfl dX11_lawful_45 ?_
  refine z_iload_n b dX11_lawful_48 rfl rfl ?_
  refine z_iload_n b dX11_lawful_49 rfl rfl ?_
  refine z_calli b (z_runV (q0 := 16) (As := [.ref (a 40), .ref (a 14), .int p0, .int p1]) (st := []) b (c_X2_follow_3 S p0 p1 h_i_14 h_i_31 ⟨by omega, by omega⟩ ⟨by omega, by omega⟩) cf_X2_follow (cw_16 cy tE a rw S) rfl wm_X11_184 wi_X2_follow ws_X2_follow dX11_lawful_50 rfl (Nat.le_of_ble_eq_true rfl) ⟨by decide, by decide, by decide, by decide⟩) (fun r4959 u4960 h4958 => ?_)
  obtain ⟨rfl, rfl⟩ := h4958
  refine z_istore (lv' := [(5, .int 0), (0, .ref (a 0)), (1, .int 2), (2, .int p0), (3, .int p1), (4, .int 0)]) b dX11_lawful_53 (by decide) rfl ?_
  refine z_iload b dX11_lawful_55 rfl ?_
  refine z_if_ne_f (tgt := 65) b dX11_lawful_57 (by decide) (by decide) ?_
  refine z_iload b dX11_lawful_60 rfl ?_
  refine z_goto (tgt := 72) b dX11_lawful_62 (by decide) ?_
  exact z_iret (u := (sa S 8 (va_cpy (ar S 4) (ar S 8) 0 0 51))) b rfl dX11_lawful_72 ⟨rfl, rfl⟩ rfl (by decide) (by decide)

set_option maxHeartbeats 4000000 in
set_option maxRecDepth 100000 in
theorem c_X12_goes_3 {l : Launch} {D : va_G} {cy : Nat → ClassId} {T0 tB tE : Nat} {a : Nat → Nat} (S : GS) (p0 : Int32) (p1 : Int32) (h_l_0 : fl S 0 = 1649317774848) (h_a_38_2 : ar S 38 2 = 0) (hr_p0 : 1 ≤ p0.toInt ∧ p0.toInt ≤ 3) (hr_p1 : 0 ≤ p1.toInt ∧ p1.toInt ≤ 31) : Ct l D cy T0 tB tE yX12_goes cX12_goes 5 (some .int) 0 0 0 0 (mw cy a S) [.ref (a 0), .int 2, .int p0, .int p1] (QI D (U := GS) (fun r u => 0 = r ∧ si (sl S 2 1649317774848) 24 (-1) = u) (mw cy a)) := by
  refine Ct.ofZ RX12 "goes" [(0, .ref (a 0)), (1, .int 2), (2, .int p0), (3, .int p1)] rfl rfl rfl rfl (Nat.le_of_ble_eq_true rfl) ?_
  intro p e R s m args below meth c A b
  refine z_aload_n b dX12_goes_0 rfl rfl ?_
  refine z_aload_n b dX12_goes_1 rfl rfl ?_
  refine z_get (q0 := 0) (k9 := 6) (v := .long (fl S 0)) b (mw_0 cy a S) rfl in_X12 (by decide) wf_X12_153 rfl dX12_goes_2 ?_
  refine z_eql h_l_0 ?_
  refine z_put (q0 := 0) (k9 := 68) tyX12 b (mw_0 cy a S) rfl in_X12 tyX12_ok nmX12 (by decide) wf_X12_458 rfl rfl rfl rfl (Nat.le_of_ble_eq_true rfl) dX12_goes_5 (mwp_0_68 cy a S 1649317774848) ?_
  refine z_aload_n b dX12_goes_8 rfl rfl ?_
  refine z_iconst (v := (-1)) b dX12_goes_9 (by decide) ?_
  refine z_put (q0 := 0) (k9 := 69) tyX12 b (mw_0 cy a (sl S 2 1649317774848)) rfl in_X12 tyX12_ok nmX12 (by decide) wf_X12_461 rfl rfl rfl rfl (Nat.le_of_ble_eq_true rfl) dX12_goes_10 (mwp_0_69 cy a (sl S 2 1649317774848) (-1)) ?_
  refine z_iconst (v := 0) b dX12_goes_13 (by decide) ?_
  refine z_istore (lv' := [(4, .int 0), (0, .ref (a 0)), (1, .int 2), (2, .int p0), (3, .int p1)]) b dX12_goes_14 (by decide) rfl ?_
  refine z_iload b dX12_goes_16 rfl ?_
  refine z_aload_n b dX12_goes_18 rfl rfl ?_
  refine z_get (q0 := 0) (k9 := 66) (v := .ref (a 41)) b (mw_0 cy a (si (sl S 2 1649317774848) 24 (-1))) rfl in_X12 (by decide) wf_X12_140 rfl dX12_goes_19 ?_
  refine z_iload_n b dX12_goes_22 rfl rfl ?_
  refine y_iald (q0 := 41) (j := 2) (v := (ar (si (sl S 2 1649317774848) 24 (-1)) 38 2)) b (mw_41 cy a (si (sl S 2 1649317774848) 24 (-1))) (by decide) rfl dX12_goes_23 ?_
  refine z_eqi h_a_38_2 ?_
  refine z_icmp_ge_t (tgt := 78) b dX12_goes_24 (by decide) (by decide) ?_
  refine z_aload_n b dX12_goes_78 rfl rfl ?_
  refine z_get (q0 := 0) (k9 := 66) (v := .ref (a 41)) b (mw_0 cy a (si (sl S 2 1649317774848) 24 (-1))) rfl in_X12 (by decide) wf_X12_140 rfl dX12_goes_79 ?_
  refine z_iload_n b dX12_goes_82 rfl rfl ?_
  refine y_iald (q0 := 41) (j := 2) (v := (ar (si (sl S 2 1649317774848) 24 (-1)) 38 2)) b (mw_41 cy a (si (sl S 2 1649317774848) 24 (-1))) (by decide) rfl dX12_goes_83 ?_
  refine z_eqi h_a_38_2 ?_
  exact z_iret (u := (si (sl S 2 1649317774848) 24 (-1))) b rfl dX12_goes_84 ⟨rfl, rfl⟩ rfl (by decide) (by decide)

set_option maxHeartbeats 4000000 in
set_option maxRecDepth 100000 in
theorem c_X12_lawful_36 {l : Launch} {D : va_G} {cy : Nat → ClassId} {T0 tB tE : Nat} {a : Nat → Nat} (S : GS) (p0 : Int32) (p1 : Int32) (h_l_0 : fl S 0 = 1649317774848) (h_a_38_2 : ar S 38 2 = 0) (hr_p0 : 1 ≤ p0.toInt ∧ p0.toInt ≤ 3) (hr_p1 : 0 ≤ p1.toInt ∧ p1.toInt ≤ 31) : Ct l D cy T0 tB tE yX12_lawful cX12_lawful 6 (some .int) 2 42 0 0 (mw cy a S) [.ref (a 0), .int 2, .int p0, .int p1, .int 0] (QI D (U := GS) (fun r u => 0 = r ∧ si (sl S 2 1649317774848) 24 (-1) = u) (mw cy a)) := by
  refine Ct.ofZ RX12 "lawful" [(0, .ref (a 0)), (1, .int 2), (2, .int p0), (3, .int p1), (4, .int 0)] rfl rfl rfl rfl (Nat.le_of_ble_eq_true rfl) ?_
  intro p e R s m args below meth c A b
  refine z_iload_n b dX12_lawful_0 rfl rfl ?_
  refine z_calli b (z_runS (As := [.int 2]) (st := []) b (c_X12_isRow_5 S ) cf_X12_isRow wm_X12_452 ws_X12_isRow dX12_lawful_1 rfl (Nat.le_of_ble_eq_true rfl) ⟨by decide, by decide, by decide, by decide⟩) (fun r4962 u4963 h4961 => ?_)
  obtain ⟨rfl, rfl⟩ := h4961
  refine z_if_eq_f (tgt := 36) b dX12_lawful_4 (by decide) (by decide) ?_
  refine z_iload_n b dX12_lawful_7 rfl rfl ?_
  refine z_iconst (v := 1) b dX12_lawful_8 (by decide) ?_
  refine z_iconst (v := 3) b dX12_lawful_9 (by decide) ?_
  refine z_calli b (z_runS (As := [.int p0, .int 1, .int 3]) (st := []) b (c_X12_isIn_51 S p0 ⟨by omega, by omega⟩) cf_X12_isIn wm_X12_1 ws_X12_isIn dX12_lawful_10 rfl (Nat.le_of_ble_eq_true rfl) ⟨by decide, by decide, by decide, by decide⟩) (fun r4965 u4966 h4964 => ?_)
  obtain ⟨rfl, rfl⟩ := h4964
  refine z_if_eq_f (tgt := 36) b dX12_lawful_13 (by decide) (by decide) ?_
  refine z_iload_n b dX12_lawful_16 rfl rfl ?_
  refine z_iconst (v := 0) b dX12_lawful_17 (by decide) ?_
  refine z_bipush (v := 31) b dX12_lawful_18 (by decide) ?_
  refine z_calli b (z_runS (As := [.int p1, .int 0, .int 31]) (st := []) b (c_X12_isIn_54 S p1 ⟨by omega, by omega⟩) cf_X12_isIn wm_X12_1 ws_X12_isIn dX12_lawful_20 rfl (Nat.le_of_ble_eq_true rfl) ⟨by decide, by decide, by decide, by decide⟩) (fun r4968 u4969 h4967 => ?_)
  obtain ⟨rfl, rfl⟩ := h4967
  refine z_if_eq_f (tgt := 36) b dX12_lawful_23 (by decide) (by decide) ?_
  refine z_iload b dX12_lawful_26 rfl ?_
  refine z_iconst (v := 0) b dX12_lawful_28 (by decide) ?_
  refine z_iconst (v := 1) b dX12_lawful_29 (by decide) ?_
  refine z_calli b (z_runS (As := [.int 0, .int 0, .int 1]) (st := []) b (c_X12_isIn_16 S ) cf_X12_isIn wm_X12_1 ws_X12_isIn dX12_lawful_30 rfl (Nat.le_of_ble_eq_true rfl) ⟨by decide, by decide, by decide, by decide⟩) (fun r4971 u4972 h4970 => ?_)
  obtain ⟨rfl, rfl⟩ := h4970
  refine z_if_ne_t (tgt := 38) b dX12_lawful_33 (by decide) (by decide) ?_
  refine z_aload_n b dX12_lawful_38 rfl rfl ?_
  refine z_iload_n b dX12_lawful_39 rfl rfl ?_
  refine z_iload_n b dX12_lawful_40 rfl rfl ?_
  refine z_iload_n b dX12_lawful_41 rfl rfl ?_
  refine z_calli b (z_runV (q0 := 0) (As := [.int 2, .int p0, .int p1]) (st := []) b (c_X12_goes_3 S p0 p1 h_l_0 h_a_38_2 ⟨by omega, by omega⟩ ⟨by omega, by omega⟩) cf_X12_goes (mw_0 cy a S) rfl wm_X12_464 wi_X12_goes ws_X12_goes dX12_lawful_42 rfl (Nat.le_of_ble_eq_true rfl) ⟨by decide, by decide, by decide, by decide⟩) (fun r4974 u4975 h4973 => ?_)
  obtain ⟨rfl, rfl⟩ := h4973
  refine z_istore (lv' := [(5, .int 0), (0, .ref (a 0)), (1, .int 2), (2, .int p0), (3, .int p1), (4, .int 0)]) b dX12_lawful_45 (by decide) rfl ?_
  refine z_iload b dX12_lawful_47 rfl ?_
  refine z_if_ne_f (tgt := 57) b dX12_lawful_49 (by decide) (by decide) ?_
  refine z_iload b dX12_lawful_52 rfl ?_
  refine z_goto (tgt := 61) b dX12_lawful_54 (by decide) ?_
  exact z_iret (u := (si (sl S 2 1649317774848) 24 (-1))) b rfl dX12_lawful_61 ⟨rfl, rfl⟩ rfl (by decide) (by decide)

set_option maxHeartbeats 4000000 in
set_option maxRecDepth 100000 in
theorem c_X11_lawful_37 {l : Launch} {D : va_G} {cy : Nat → ClassId} {T0 tB tE : Nat} {a : Nat → Nat} {rw : Nat → Option Nat} (S : GS) (p0 : Int32) (p1 : Int32) (h_i_14 : fi S 14 = (-1)) (h_i_31 : fi S 31 = 0) (hrw : ∀ i, i < 6 → rw i = some (a (36 + 2 * i))) (hr_p0 : 1 ≤ p0.toInt ∧ p0.toInt ≤ 3) (hr_p1 : 0 ≤ p1.toInt ∧ p1.toInt ≤ 31) : Ct l D cy T0 tB tE yX11_lawful cX11_lawful 6 (some .int) 3 86 0 0 (cw cy tE a rw S) [.ref (a 0), .int 2, .int p0, .int p1, .int 1] (QI D (U := GS) (fun r u => (-1) = r ∧ sa S 8 (va_cpy (ar S 4) (ar S 8) 0 0 51) = u) (cw cy tE a rw)) := by
  refine Ct.ofZ RX11 "lawful" [(0, .ref (a 0)), (1, .int 2), (2, .int p0), (3, .int p1), (4, .int 1)] rfl rfl rfl rfl (Nat.le_of_ble_eq_true rfl) ?_
  intro p e R s m args below meth c A b
  refine z_iload_n b dX11_lawful_0 rfl rfl ?_
  refine z_calli b (z_runS (As := [.int 2]) (st := []) b (c_X11_isRow_5 S ) cf_X11_isRow wm_X11_169 ws_X11_isRow dX11_lawful_1 rfl (Nat.le_of_ble_eq_true rfl) ⟨by decide, by decide, by decide, by decide⟩) (fun r4977 u4978 h4976 => ?_)
  obtain ⟨rfl, rfl⟩ := h4976
  refine z_if_eq_f (tgt := 32) b dX11_lawful_4 (by decide) (by decide) ?_
  refine z_iload_n b dX11_lawful_7 rfl rfl ?_
  refine z_calli b (z_runS (As := [.int p0]) (st := []) b (c_X11_areLaws_3 S p0 ⟨by omega, by omega⟩) cf_X11_areLaws wm_X11_181 ws_X11_areLaws dX11_lawful_8 rfl (Nat.le_of_ble_eq_true rfl) ⟨by decide, by decide, by decide, by decide⟩) (fun r4980 u4981 h4979 => ?_)
  obtain ⟨rfl, rfl⟩ := h4979
  refine z_if_eq_f (tgt := 32) b dX11_lawful_11 (by decide) (by decide) ?_
  refine z_iload_n b dX11_lawful_14 rfl rfl ?_
  refine z_bipush (v := 31) b dX11_lawful_15 (by decide) ?_
  refine z_calli b (z_runS (As := [.int p1, .int 31]) (st := []) b (c_X11_isWithin_25 S p1 ⟨by omega, by omega⟩) cf_X11_isWithin wm_X11_73 ws_X11_isWithin dX11_lawful_17 rfl (Nat.le_of_ble_eq_true rfl) ⟨by decide, by decide, by decide, by decide⟩) (fun r4983 u4984 h4982 => ?_)
  obtain ⟨rfl, rfl⟩ := h4982
  refine z_if_eq_f (tgt := 32) b dX11_lawful_20 (by decide) (by decide) ?_
  refine z_iload b dX11_lawful_23 rfl ?_
  refine z_iconst (v := 1) b dX11_lawful_25 (by decide) ?_
  refine z_calli b (z_runS (As := [.int 1, .int 1]) (st := []) b (c_X11_isWithin_12 S ) cf_X11_isWithin wm_X11_73 ws_X11_isWithin dX11_lawful_26 rfl (Nat.le_of_ble_eq_true rfl) ⟨by decide, by decide, by decide, by decide⟩) (fun r4986 u4987 h4985 => ?_)
  obtain ⟨rfl, rfl⟩ := h4985
  refine z_if_ne_t (tgt := 34) b dX11_lawful_29 (by decide) (by decide) ?_
  refine z_aload_n b dX11_lawful_34 rfl rfl ?_
  refine z_get (q0 := 0) (k9 := 5) (v := .ref (a 16)) b (cw_0 cy tE a rw S) rfl in_X11 (by decide) wf_X11_43 rfl dX11_lawful_35 ?_
  refine z_aload_n b dX11_lawful_38 rfl rfl ?_
  refine z_get (q0 := 0) (k9 := 7) (v := .ref (a 35)) b (cw_0 cy tE a rw S) rfl in_X11 (by decide) wf_X11_58 rfl dX11_lawful_39 ?_
  refine z_iload_n b dX11_lawful_42 rfl rfl ?_
  refine y_aald (q0 := 35) (t0 := 4) (j := 2) (v := .ref (a 40)) b (cw_35 cy tE a rw S) rfl (by decide) (by rw [hrw 2 (by decide)]; rfl) dX11_lawful_43 ?_
  refine z_aload_n b dX11_lawful_44 rfl rfl ?_
  refine z_get (q0 := 0) (k9 := 4) (v := .ref (a 14)) b (cw_0 cy tE a rw S) rfl in_X11 (by decide) wf_X11_34 rfl dX11_lawful_45 ?_
  refine z_iload_n b dX11_lawful_48 rfl rfl ?_
  refine z_iload_n b dX11_lawful_49 rfl rfl ?_
  refine z_calli b (z_runV (q0 := 16) (As := [.ref (a 40), .ref (a 14), .int p0, .int p1]) (st := []) b (c_X2_follow_3 S p0 p1 h_i_14 h_i_31 ⟨by omega, by omega⟩ ⟨by omega, by omega⟩) cf_X2_follow (cw_16 cy tE a rw S) rfl wm_X11_184 wi_X2_follow ws_X2_follow dX11_lawful_50 rfl (Nat.le_of_ble_eq_true rfl) ⟨by decide, by decide, by decide, by decide⟩) (fun r4989 u4990 h4988 => ?_)
  obtain ⟨rfl, rfl⟩ := h4988
  refine z_istore (lv' := [(5, .int 0), (0, .ref (a 0)), (1, .int 2), (2, .int p0), (3, .int p1), (4, .int 1)]) b dX11_lawful_53 (by decide) rfl ?_
  refine z_iload b dX11_lawful_55 rfl ?_
  refine z_if_ne_t (tgt := 65) b dX11_lawful_57 (by decide) (by decide) ?_
  refine z_aload_n b dX11_lawful_65 rfl rfl ?_
  refine z_get (q0 := 0) (k9 := 5) (v := .ref (a 16)) b (cw_0 cy tE a rw (sa S 8 (va_cpy (ar S 4) (ar S 8) 0 0 51))) rfl in_X11 (by decide) wf_X11_43 rfl dX11_lawful_66 ?_
  refine z_get (q0 := 16) (k9 := 4) (v := .int (fi (sa S 8 (va_cpy (ar S 4) (ar S 8) 0 0 51)) 14)) b (cw_16 cy tE a rw (sa S 8 (va_cpy (ar S 4) (ar S 8) 0 0 51))) rfl in_X2 (by decide) wf_X11_188 rfl dX11_lawful_69 ?_
  refine z_eqi h_i_14 ?_
  exact z_iret (u := (sa S 8 (va_cpy (ar S 4) (ar S 8) 0 0 51))) b rfl dX11_lawful_72 ⟨rfl, rfl⟩ rfl (by decide) (by decide)

set_option maxHeartbeats 4000000 in
set_option maxRecDepth 100000 in
theorem c_X12_lawful_37 {l : Launch} {D : va_G} {cy : Nat → ClassId} {T0 tB tE : Nat} {a : Nat → Nat} (S : GS) (p0 : Int32) (p1 : Int32) (h_l_0 : fl S 0 = 1649317774848) (h_a_38_2 : ar S 38 2 = 0) (hr_p0 : 1 ≤ p0.toInt ∧ p0.toInt ≤ 3) (hr_p1 : 0 ≤ p1.toInt ∧ p1.toInt ≤ 31) : Ct l D cy T0 tB tE yX12_lawful cX12_lawful 6 (some .int) 2 42 0 0 (mw cy a S) [.ref (a 0), .int 2, .int p0, .int p1, .int 1] (QI D (U := GS) (fun r u => (-1) = r ∧ si (sl S 2 1649317774848) 24 (-1) = u) (mw cy a)) := by
  refine Ct.ofZ RX12 "lawful" [(0, .ref (a 0)), (1, .int 2), (2, .int p0), (3, .int p1), (4, .int 1)] rfl rfl rfl rfl (Nat.le_of_ble_eq_true rfl) ?_
  intro p e R s m args below meth c A b
  refine z_iload_n b dX12_lawful_0 rfl rfl ?_
  refine z_calli b (z_runS (As := [.int 2]) (st := []) b (c_X12_isRow_5 S ) cf_X12_isRow wm_X12_452 ws_X12_isRow dX12_lawful_1 rfl (Nat.le_of_ble_eq_true rfl) ⟨by decide, by decide, by decide, by decide⟩) (fun r4992 u4993 h4991 => ?_)
  obtain ⟨rfl, rfl⟩ := h4991
  refine z_if_eq_f (tgt := 36) b dX12_lawful_4 (by decide) (by decide) ?_
  refine z_iload_n b dX12_lawful_7 rfl rfl ?_
  refine z_iconst (v := 1) b dX12_lawful_8 (by decide) ?_
  refine z_iconst (v := 3) b dX12_lawful_9 (by decide) ?_
  refine z_calli b (z_runS (As := [.int p0, .int 1, .int 3]) (st := []) b (c_X12_isIn_51 S p0 ⟨by omega, by omega⟩) cf_X12_isIn wm_X12_1 ws_X12_isIn dX12_lawful_10 rfl (Nat.le_of_ble_eq_true rfl) ⟨by decide, by decide, by decide, by decide⟩) (fun r4995 u4996 h4994 => ?_)
  obtain ⟨rfl, rfl⟩ := h4994
  refine z_if_eq_f (tgt := 36) b dX12_lawful_13 (by decide) (by decide) ?_
  refine z_iload_n b dX12_lawful_16 rfl rfl ?_
  refine z_iconst (v := 0) b dX12_lawful_17 (by decide) ?_
  refine z_bipush (v := 31) b dX12_lawful_18 (by decide) ?_
  refine z_calli b (z_runS (As := [.int p1, .int 0, .int 31]) (st := []) b (c_X12_isIn_54 S p1 ⟨by omega, by omega⟩) cf_X12_isIn wm_X12_1 ws_X12_isIn dX12_lawful_20 rfl (Nat.le_of_ble_eq_true rfl) ⟨by decide, by decide, by decide, by decide⟩) (fun r4998 u4999 h4997 => ?_)
  obtain ⟨rfl, rfl⟩ := h4997
  refine z_if_eq_f (tgt := 36) b dX12_lawful_23 (by decide) (by decide) ?_
  refine z_iload b dX12_lawful_26 rfl ?_
  refine z_iconst (v := 0) b dX12_lawful_28 (by decide) ?_
  refine z_iconst (v := 1) b dX12_lawful_29 (by decide) ?_
  refine z_calli b (z_runS (As := [.int 1, .int 0, .int 1]) (st := []) b (c_X12_isIn_17 S ) cf_X12_isIn wm_X12_1 ws_X12_isIn dX12_lawful_30 rfl (Nat.le_of_ble_eq_true rfl) ⟨by decide, by decide, by decide, by decide⟩) (fun r5001 u5002 h5000 => ?_)
  obtain ⟨rfl, rfl⟩ := h5000
  refine z_if_ne_t (tgt := 38) b dX12_lawful_33 (by decide) (by decide) ?_
  refine z_aload_n b dX12_lawful_38 rfl rfl ?_
  refine z_iload_n b dX12_lawful_39 rfl rfl ?_
  refine z_iload_n b dX12_lawful_40 rfl rfl ?_
  refine z_iload_n b dX12_lawful_41 rfl rfl ?_
  refine z_calli b (z_runV (q0 := 0) (As := [.int 2, .int p0, .int p1]) (st := []) b (c_X12_goes_3 S p0 p1 h_l_0 h_a_38_2 ⟨by omega, by omega⟩ ⟨by omega, by omega⟩) cf_X12_goes (mw_0 cy a S) rfl wm_X12_464 wi_X12_goes ws_X12_goes dX12_lawful_42 rfl (Nat.le_of_ble_eq_true rfl) ⟨by decide, by decide, by decide, by decide⟩) (fun r5004 u5005 h5003 => ?_)
  obtain ⟨rfl, rfl⟩ := h5003
  refine z_istore (lv' := [(5, .int 0), (0, .ref (a 0)), (1, .int 2), (2, .int p0), (3, .int p1), (4, .int 1)]) b dX12_lawful_45 (by decide) rfl ?_
  refine z_iload b dX12_lawful_47 rfl ?_
  refine z_if_ne_t (tgt := 57) b dX12_lawful_49 (by decide) (by decide) ?_
  refine z_aload_n b dX12_lawful_57 rfl rfl ?_
  refine z_get (q0 := 0) (k9 := 69) (v := .int (-1)) b (mw_0 cy a (si (sl S 2 1649317774848) 24 (-1))) rfl in_X12 (by decide) wf_X12_461 rfl dX12_lawful_58 ?_
  exact z_iret (u := (si (sl S 2 1649317774848) 24 (-1))) b rfl dX12_lawful_61 ⟨rfl, rfl⟩ rfl (by decide) (by decide)

set_option maxHeartbeats 4000000 in
set_option maxRecDepth 100000 in
theorem c_X11_lawful_38 {l : Launch} {D : va_G} {cy : Nat → ClassId} {T0 tB tE : Nat} {a : Nat → Nat} {rw : Nat → Option Nat} (S : GS) (p0 : Int32) (p1 : Int32) (p2 : Int32)  (hr_p0 : 1 ≤ p0.toInt ∧ p0.toInt ≤ 3) (hr_p1 : 0 ≤ p1.toInt ∧ p1.toInt ≤ 31) (hr_p2 : 2 ≤ p2.toInt ∧ p2.toInt ≤ 2147483647) : Ct l D cy T0 tB tE yX11_lawful cX11_lawful 6 (some .int) 1 21 0 0 (cw cy tE a rw S) [.ref (a 0), .int 2, .int p0, .int p1, .int p2] (QI D (U := GS) (fun r u => (-1) = r ∧ S = u) (cw cy tE a rw)) := by
  refine Ct.ofZ RX11 "lawful" [(0, .ref (a 0)), (1, .int 2), (2, .int p0), (3, .int p1), (4, .int p2)] rfl rfl rfl rfl (Nat.le_of_ble_eq_true rfl) ?_
  intro p e R s m args below meth c A b
  refine z_iload_n b dX11_lawful_0 rfl rfl ?_
  refine z_calli b (z_runS (As := [.int 2]) (st := []) b (c_X11_isRow_5 S ) cf_X11_isRow wm_X11_169 ws_X11_isRow dX11_lawful_1 rfl (Nat.le_of_ble_eq_true rfl) ⟨by decide, by decide, by decide, by decide⟩) (fun r5007 u5008 h5006 => ?_)
  obtain ⟨rfl, rfl⟩ := h5006
  refine z_if_eq_f (tgt := 32) b dX11_lawful_4 (by decide) (by decide) ?_
  refine z_iload_n b dX11_lawful_7 rfl rfl ?_
  refine z_calli b (z_runS (As := [.int p0]) (st := []) b (c_X11_areLaws_3 S p0 ⟨by omega, by omega⟩) cf_X11_areLaws wm_X11_181 ws_X11_areLaws dX11_lawful_8 rfl (Nat.le_of_ble_eq_true rfl) ⟨by decide, by decide, by decide, by decide⟩) (fun r5010 u5011 h5009 => ?_)
  obtain ⟨rfl, rfl⟩ := h5009
  refine z_if_eq_f (tgt := 32) b dX11_lawful_11 (by decide) (by decide) ?_
  refine z_iload_n b dX11_lawful_14 rfl rfl ?_
  refine z_bipush (v := 31) b dX11_lawful_15 (by decide) ?_
  refine z_calli b (z_runS (As := [.int p1, .int 31]) (st := []) b (c_X11_isWithin_25 S p1 ⟨by omega, by omega⟩) cf_X11_isWithin wm_X11_73 ws_X11_isWithin dX11_lawful_17 rfl (Nat.le_of_ble_eq_true rfl) ⟨by decide, by decide, by decide, by decide⟩) (fun r5013 u5014 h5012 => ?_)
  obtain ⟨rfl, rfl⟩ := h5012
  refine z_if_eq_f (tgt := 32) b dX11_lawful_20 (by decide) (by decide) ?_
  refine z_iload b dX11_lawful_23 rfl ?_
  refine z_iconst (v := 1) b dX11_lawful_25 (by decide) ?_
  refine z_calli b (z_runS (As := [.int p2, .int 1]) (st := []) b (c_X11_isWithin_13 S p2 ⟨by omega, by omega⟩) cf_X11_isWithin wm_X11_73 ws_X11_isWithin dX11_lawful_26 rfl (Nat.le_of_ble_eq_true rfl) ⟨by decide, by decide, by decide, by decide⟩) (fun r5016 u5017 h5015 => ?_)
  obtain ⟨rfl, rfl⟩ := h5015
  refine z_if_ne_f (tgt := 34) b dX11_lawful_29 (by decide) (by decide) ?_
  refine z_iconst (v := (-1)) b dX11_lawful_32 (by decide) ?_
  exact z_iret (u := S) b rfl dX11_lawful_33 ⟨rfl, rfl⟩ rfl (by decide) (by decide)

set_option maxHeartbeats 4000000 in
set_option maxRecDepth 100000 in
theorem c_X12_lawful_38 {l : Launch} {D : va_G} {cy : Nat → ClassId} {T0 tB tE : Nat} {a : Nat → Nat} (S : GS) (p0 : Int32) (p1 : Int32) (p2 : Int32)  (hr_p0 : 1 ≤ p0.toInt ∧ p0.toInt ≤ 3) (hr_p1 : 0 ≤ p1.toInt ∧ p1.toInt ≤ 31) (hr_p2 : 2 ≤ p2.toInt ∧ p2.toInt ≤ 2147483647) : Ct l D cy T0 tB tE yX12_lawful cX12_lawful 6 (some .int) 2 42 0 0 (mw cy a S) [.ref (a 0), .int 2, .int p0, .int p1, .int p2] (QI D (U := GS) (fun r u => (-1) = r ∧ S = u) (mw cy a)) := by
  refine Ct.ofZ RX12 "lawful" [(0, .ref (a 0)), (1, .int 2), (2, .int p0), (3, .int p1), (4, .int p2)] rfl rfl rfl rfl (Nat.le_of_ble_eq_true rfl) ?_
  intro p e R s m args below meth c A b
  refine z_iload_n b dX12_lawful_0 rfl rfl ?_
  refine z_calli b (z_runS (As := [.int 2]) (st := []) b (c_X12_isRow_5 S ) cf_X12_isRow wm_X12_452 ws_X12_isRow dX12_lawful_1 rfl (Nat.le_of_ble_eq_true rfl) ⟨by decide, by decide, by decide, by decide⟩) (fun r5019 u5020 h5018 => ?_)
  obtain ⟨rfl, rfl⟩ := h5018
  refine z_if_eq_f (tgt := 36) b dX12_lawful_4 (by decide) (by decide) ?_
  refine z_iload_n b dX12_lawful_7 rfl rfl ?_
  refine z_iconst (v := 1) b dX12_lawful_8 (by decide) ?_
  refine z_iconst (v := 3) b dX12_lawful_9 (by decide) ?_
  refine z_calli b (z_runS (As := [.int p0, .int 1, .int 3]) (st := []) b (c_X12_isIn_51 S p0 ⟨by omega, by omega⟩) cf_X12_isIn wm_X12_1 ws_X12_isIn dX12_lawful_10 rfl (Nat.le_of_ble_eq_true rfl) ⟨by decide, by decide, by decide, by decide⟩) (fun r5022 u5023 h5021 => ?_)
  obtain ⟨rfl, rfl⟩ := h5021
  refine z_if_eq_f (tgt := 36) b dX12_lawful_13 (by decide) (by decide) ?_
  refine z_iload_n b dX12_lawful_16 rfl rfl ?_
  refine z_iconst (v := 0) b dX12_lawful_17 (by decide) ?_
  refine z_bipush (v := 31) b dX12_lawful_18 (by decide) ?_
  refine z_calli b (z_runS (As := [.int p1, .int 0, .int 31]) (st := []) b (c_X12_isIn_54 S p1 ⟨by omega, by omega⟩) cf_X12_isIn wm_X12_1 ws_X12_isIn dX12_lawful_20 rfl (Nat.le_of_ble_eq_true rfl) ⟨by decide, by decide, by decide, by decide⟩) (fun r5025 u5026 h5024 => ?_)
  obtain ⟨rfl, rfl⟩ := h5024
  refine z_if_eq_f (tgt := 36) b dX12_lawful_23 (by decide) (by decide) ?_
  refine z_iload b dX12_lawful_26 rfl ?_
  refine z_iconst (v := 0) b dX12_lawful_28 (by decide) ?_
  refine z_iconst (v := 1) b dX12_lawful_29 (by decide) ?_
  refine z_calli b (z_runS (As := [.int p2, .int 0, .int 1]) (st := []) b (c_X12_isIn_18 S p2 ⟨by omega, by omega⟩) cf_X12_isIn wm_X12_1 ws_X12_isIn dX12_lawful_30 rfl (Nat.le_of_ble_eq_true rfl) ⟨by decide, by decide, by decide, by decide⟩) (fun r5028 u5029 h5027 => ?_)
  obtain ⟨rfl, rfl⟩ := h5027
  refine z_if_ne_f (tgt := 38) b dX12_lawful_33 (by decide) (by decide) ?_
  refine z_iconst (v := (-1)) b dX12_lawful_36 (by decide) ?_
  exact z_iret (u := S) b rfl dX12_lawful_37 ⟨rfl, rfl⟩ rfl (by decide) (by decide)

set_option maxHeartbeats 4000000 in
set_option maxRecDepth 100000 in
theorem c_X11_lawful_39 {l : Launch} {D : va_G} {cy : Nat → ClassId} {T0 tB tE : Nat} {a : Nat → Nat} {rw : Nat → Option Nat} (S : GS) (p0 : Int32) (p1 : Int32) (p2 : Int32)  (hr_p0 : 1 ≤ p0.toInt ∧ p0.toInt ≤ 3) (hr_p1 : 0 ≤ p1.toInt ∧ p1.toInt ≤ 31) (hr_p2 : (-2147483648) ≤ p2.toInt ∧ p2.toInt ≤ (-1)) : Ct l D cy T0 tB tE yX11_lawful cX11_lawful 6 (some .int) 1 21 0 0 (cw cy tE a rw S) [.ref (a 0), .int 3, .int p0, .int p1, .int p2] (QI D (U := GS) (fun r u => (-1) = r ∧ S = u) (cw cy tE a rw)) := by
  refine Ct.ofZ RX11 "lawful" [(0, .ref (a 0)), (1, .int 3), (2, .int p0), (3, .int p1), (4, .int p2)] rfl rfl rfl rfl (Nat.le_of_ble_eq_true rfl) ?_
  intro p e R s m args below meth c A b
  refine z_iload_n b dX11_lawful_0 rfl rfl ?_
  refine z_calli b (z_runS (As := [.int 3]) (st := []) b (c_X11_isRow_6 S ) cf_X11_isRow wm_X11_169 ws_X11_isRow dX11_lawful_1 rfl (Nat.le_of_ble_eq_true rfl) ⟨by decide, by decide, by decide, by decide⟩) (fun r5031 u5032 h5030 => ?_)
  obtain ⟨rfl, rfl⟩ := h5030
  refine z_if_eq_f (tgt := 32) b dX11_lawful_4 (by decide) (by decide) ?_
  refine z_iload_n b dX11_lawful_7 rfl rfl ?_
  refine z_calli b (z_runS (As := [.int p0]) (st := []) b (c_X11_areLaws_3 S p0 ⟨by omega, by omega⟩) cf_X11_areLaws wm_X11_181 ws_X11_areLaws dX11_lawful_8 rfl (Nat.le_of_ble_eq_true rfl) ⟨by decide, by decide, by decide, by decide⟩) (fun r5034 u5035 h5033 => ?_)
  obtain ⟨rfl, rfl⟩ := h5033
  refine z_if_eq_f (tgt := 32) b dX11_lawful_11 (by decide) (by decide) ?_
  refine z_iload_n b dX11_lawful_14 rfl rfl ?_
  refine z_bipush (v := 31) b dX11_lawful_15 (by decide) ?_
  refine z_calli b (z_runS (As := [.int p1, .int 31]) (st := []) b (c_X11_isWithin_25 S p1 ⟨by omega, by omega⟩) cf_X11_isWithin wm_X11_73 ws_X11_isWithin dX11_lawful_17 rfl (Nat.le_of_ble_eq_true rfl) ⟨by decide, by decide, by decide, by decide⟩) (fun r5037 u5038 h5036 => ?_)
  obtain ⟨rfl, rfl⟩ := h5036
  refine z_if_eq_f (tgt := 32) b dX11_lawful_20 (by decide) (by decide) ?_
  refine z_iload b dX11_lawful_23 rfl ?_
  refine z_iconst (v := 1) b dX11_lawful_25 (by decide) ?_
  refine z_calli b (z_runS (As := [.int p2, .int 1]) (st := []) b (c_X11_isWithin_10 S p2 ⟨by omega, by omega⟩) cf_X11_isWithin wm_X11_73 ws_X11_isWithin dX11_lawful_26 rfl (Nat.le_of_ble_eq_true rfl) ⟨by decide, by decide, by decide, by decide⟩) (fun r5040 u5041 h5039 => ?_)
  obtain ⟨rfl, rfl⟩ := h5039
  refine z_if_ne_f (tgt := 34) b dX11_lawful_29 (by decide) (by decide) ?_
  refine z_iconst (v := (-1)) b dX11_lawful_32 (by decide) ?_
  exact z_iret (u := S) b rfl dX11_lawful_33 ⟨rfl, rfl⟩ rfl (by decide) (by decide)

set_option maxHeartbeats 4000000 in
set_option maxRecDepth 100000 in
theorem c_X12_lawful_39 {l : Launch} {D : va_G} {cy : Nat → ClassId} {T0 tB tE : Nat} {a : Nat → Nat} (S : GS) (p0 : Int32) (p1 : Int32) (p2 : Int32)  (hr_p0 : 1 ≤ p0.toInt ∧ p0.toInt ≤ 3) (hr_p1 : 0 ≤ p1.toInt ∧ p1.toInt ≤ 31) (hr_p2 : (-2147483648) ≤ p2.toInt ∧ p2.toInt ≤ (-1)) : Ct l D cy T0 tB tE yX12_lawful cX12_lawful 6 (some .int) 2 42 0 0 (mw cy a S) [.ref (a 0), .int 3, .int p0, .int p1, .int p2] (QI D (U := GS) (fun r u => (-1) = r ∧ S = u) (mw cy a)) := by
  refine Ct.ofZ RX12 "lawful" [(0, .ref (a 0)), (1, .int 3), (2, .int p0), (3, .int p1), (4, .int p2)] rfl rfl rfl rfl (Nat.le_of_ble_eq_true rfl) ?_
  intro p e R s m args below meth c A b
  refine z_iload_n b dX12_lawful_0 rfl rfl ?_
  refine z_calli b (z_runS (As := [.int 3]) (st := []) b (c_X12_isRow_6 S ) cf_X12_isRow wm_X12_452 ws_X12_isRow dX12_lawful_1 rfl (Nat.le_of_ble_eq_true rfl) ⟨by decide, by decide, by decide, by decide⟩) (fun r5043 u5044 h5042 => ?_)
  obtain ⟨rfl, rfl⟩ := h5042
  refine z_if_eq_f (tgt := 36) b dX12_lawful_4 (by decide) (by decide) ?_
  refine z_iload_n b dX12_lawful_7 rfl rfl ?_
  refine z_iconst (v := 1) b dX12_lawful_8 (by decide) ?_
  refine z_iconst (v := 3) b dX12_lawful_9 (by decide) ?_
  refine z_calli b (z_runS (As := [.int p0, .int 1, .int 3]) (st := []) b (c_X12_isIn_51 S p0 ⟨by omega, by omega⟩) cf_X12_isIn wm_X12_1 ws_X12_isIn dX12_lawful_10 rfl (Nat.le_of_ble_eq_true rfl) ⟨by decide, by decide, by decide, by decide⟩) (fun r5046 u5047 h5045 => ?_)
  obtain ⟨rfl, rfl⟩ := h5045
  refine z_if_eq_f (tgt := 36) b dX12_lawful_13 (by decide) (by decide) ?_
  refine z_iload_n b dX12_lawful_16 rfl rfl ?_
  refine z_iconst (v := 0) b dX12_lawful_17 (by decide) ?_
  refine z_bipush (v := 31) b dX12_lawful_18 (by decide) ?_
  refine z_calli b (z_runS (As := [.int p1, .int 0, .int 31]) (st := []) b (c_X12_isIn_54 S p1 ⟨by omega, by omega⟩) cf_X12_isIn wm_X12_1 ws_X12_isIn dX12_lawful_20 rfl (Nat.le_of_ble_eq_true rfl) ⟨by decide, by decide, by decide, by decide⟩) (fun r5049 u5050 h5048 => ?_)
  obtain ⟨rfl, rfl⟩ := h5048
  refine z_if_eq_f (tgt := 36) b dX12_lawful_23 (by decide) (by decide) ?_
  refine z_iload b dX12_lawful_26 rfl ?_
  refine z_iconst (v := 0) b dX12_lawful_28 (by decide) ?_
  refine z_iconst (v := 1) b dX12_lawful_29 (by decide) ?_
  refine z_calli b (z_runS (As := [.int p2, .int 0, .int 1]) (st := []) b (c_X12_isIn_15 S p2 ⟨by omega, by omega⟩) cf_X12_isIn wm_X12_1 ws_X12_isIn dX12_lawful_30 rfl (Nat.le_of_ble_eq_true rfl) ⟨by decide, by decide, by decide, by decide⟩) (fun r5052 u5053 h5051 => ?_)
  obtain ⟨rfl, rfl⟩ := h5051
  refine z_if_ne_f (tgt := 38) b dX12_lawful_33 (by decide) (by decide) ?_
  refine z_iconst (v := (-1)) b dX12_lawful_36 (by decide) ?_
  exact z_iret (u := S) b rfl dX12_lawful_37 ⟨rfl, rfl⟩ rfl (by decide) (by decide)

set_option maxHeartbeats 4000000 in
set_option maxRecDepth 100000 in
theorem c_X2_follow_4 {l : Launch} {D : va_G} {cy : Nat → ClassId} {T0 tB tE : Nat} {a : Nat → Nat} {rw : Nat → Option Nat} (S : GS) (p0 : Int32) (p1 : Int32) (h_i_14 : fi S 14 = (-1)) (h_i_33 : fi S 33 = 0) (hr_p0 : 1 ≤ p0.toInt ∧ p0.toInt ≤ 3) (hr_p1 : 0 ≤ p1.toInt ∧ p1.toInt ≤ 31) : Ct l D cy T0 tB tE yX2_follow cX2_follow 6 (some .int) 2 61 0 0 (cw cy tE a rw S) [.ref (a 16), .ref (a 42), .ref (a 14), .int p0, .int p1] (QI D (U := GS) (fun r u => 0 = r ∧ sa S 8 (va_cpy (ar S 4) (ar S 8) 0 0 51) = u) (cw cy tE a rw)) := by
  refine Ct.ofZ RX2 "follow" [(0, .ref (a 16)), (1, .ref (a 42)), (2, .ref (a 14)), (3, .int p0), (4, .int p1)] rfl rfl rfl rfl (Nat.le_of_ble_eq_true rfl) ?_
  intro p e R s m args below meth c A b
  refine z_aload_n b dX2_follow_0 rfl rfl ?_
  refine z_get (q0 := 16) (k9 := 3) (v := .ref (a 23)) b (cw_16 cy tE a rw S) rfl in_X2 (by decide) wf_X2_25 rfl dX2_follow_1 ?_
  refine z_aload_n b dX2_follow_4 rfl rfl ?_
  refine z_callv b (z_runV (q0 := 23) (As := [.ref (a 14)]) (st := []) b (c_X9_copy S ) cf_X9_copy (cw_23 cy tE a rw S) rfl wm_X2_80 wi_X9_copy ws_X9_copy dX2_follow_5 rfl (Nat.le_of_ble_eq_true rfl) ⟨by decide, by decide, by decide, by decide⟩) (fun u5068 h5066 => ?_)
  obtain rfl := h5066
  refine z_aload_n b dX2_follow_8 rfl rfl ?_
  refine z_iconst (v := (-1)) b dX2_follow_9 (by decide) ?_
  refine z_put (q0 := 16) (k9 := 4) tyX2 b (cw_16 cy tE a rw (sa S 8 (va_cpy (ar S 4) (ar S 8) 0 0 51))) rfl in_X2 tyX2_ok nmX2 (by decide) wf_X2_28 rfl rfl rfl rfl (Nat.le_of_ble_eq_true rfl) dX2_follow_10 ((cwp_16_4 cy tE a rw (sa S 8 (va_cpy (ar S 4) (ar S 8) 0 0 51)) (-1)).trans (congrArg (cw cy tE a rw) (si_same h_i_14))) ?_
  refine z_iconst (v := 0) b dX2_follow_13 (by decide) ?_
  refine z_istore (lv' := [(5, .int 0), (0, .ref (a 16)), (1, .ref (a 42)), (2, .ref (a 14)), (3, .int p0), (4, .int p1)]) b dX2_follow_14 (by decide) rfl ?_
  refine z_iload b dX2_follow_16 rfl ?_
  refine z_aload_n b dX2_follow_18 rfl rfl ?_
  refine z_get (q0 := 42) (k9 := 1) (v := .int (fi (sa S 8 (va_cpy (ar S 4) (ar S 8) 0 0 51)) 33)) b (cw_42 cy tE a rw (sa S 8 (va_cpy (ar S 4) (ar S 8) 0 0 51))) rfl in_X7 (by decide) wf_X2_108 rfl dX2_follow_19 ?_
  refine z_eqi h_i_33 ?_
  refine z_icmp_ge_t (tgt := 74) b dX2_follow_22 (by decide) (by decide) ?_
  refine z_aload_n b dX2_follow_74 rfl rfl ?_
  refine z_get (q0 := 42) (k9 := 1) (v := .int (fi (sa S 8 (va_cpy (ar S 4) (ar S 8) 0 0 51)) 33)) b (cw_42 cy tE a rw (sa S 8 (va_cpy (ar S 4) (ar S 8) 0 0 51))) rfl in_X7 (by decide) wf_X2_108 rfl dX2_follow_75 ?_
  refine z_eqi h_i_33 ?_
  exact z_iret (u := (sa S 8 (va_cpy (ar S 4) (ar S 8) 0 0 51))) b rfl dX2_follow_78 ⟨rfl, rfl⟩ rfl (by decide) (by decide)

set_option maxHeartbeats 4000000 in
set_option maxRecDepth 100000 in
theorem c_X11_lawful_40 {l : Launch} {D : va_G} {cy : Nat → ClassId} {T0 tB tE : Nat} {a : Nat → Nat} {rw : Nat → Option Nat} (S : GS) (p0 : Int32) (p1 : Int32) (h_i_14 : fi S 14 = (-1)) (h_i_33 : fi S 33 = 0) (hrw : ∀ i, i < 6 → rw i = some (a (36 + 2 * i))) (hr_p0 : 1 ≤ p0.toInt ∧ p0.toInt ≤ 3) (hr_p1 : 0 ≤ p1.toInt ∧ p1.toInt ≤ 31) : Ct l D cy T0 tB tE yX11_lawful cX11_lawful 6 (some .int) 3 86 0 0 (cw cy tE a rw S) [.ref (a 0), .int 3, .int p0, .int p1, .int 0] (QI D (U := GS) (fun r u => 0 = r ∧ sa S 8 (va_cpy (ar S 4) (ar S 8) 0 0 51) = u) (cw cy tE a rw)) := by
  refine Ct.ofZ RX11 "lawful" [(0, .ref (a 0)), (1, .int 3), (2, .int p0), (3, .int p1), (4, .int 0)] rfl rfl rfl rfl (Nat.le_of_ble_eq_true rfl) ?_
  intro p e R s m args below meth c A b
  refine z_iload_n b dX11_lawful_0 rfl rfl ?_
  refine z_calli b (z_runS (As := [.int 3]) (st := []) b (c_X11_isRow_6 S ) cf_X11_isRow wm_X11_169 ws_X11_isRow dX11_lawful_1 rfl (Nat.le_of_ble_eq_true rfl) ⟨by decide, by decide, by decide, by decide⟩) (fun r5055 u5056 h5054 => ?_)
  obtain ⟨rfl, rfl⟩ := h5054
  refine z_if_eq_f (tgt := 32) b dX11_lawful_4 (by decide) (by decide) ?_
  refine z_iload_n b dX11_lawful_7 rfl rfl ?_
  refine z_calli b (z_runS (As := [.int p0]) (st := []) b (c_X11_areLaws_3 S p0 ⟨by omega, by omega⟩) cf_X11_areLaws wm_X11_181 ws_X11_areLaws dX11_lawful_8 rfl (Nat.le_of_ble_eq_true rfl) ⟨by decide, by decide, by decide, by decide⟩) (fun r5058 u5059 h5057 => ?_)
  obtain ⟨rfl, rfl⟩ := h5057
  refine z_if_eq_f (tgt := 32) b dX11_lawful_11 (by decide) (by decide) ?_
  refine z_iload_n b dX11_lawful_14 rfl rfl ?_
  refine z_bipush (v := 31) b dX11_lawful_15 (by decide) ?_
  refine z_calli b (z_runS (As := [.int p1, .int 31]) (st := []) b (c_X11_isWithin_25 S p1 ⟨by omega, by omega⟩) cf_X11_isWithin wm_X11_73 ws_X11_isWithin dX11_lawful_17 rfl (Nat.le_of_ble_eq_true rfl) ⟨by decide, by decide, by decide, by decide⟩) (fun r5061 u5062 h5060 => ?_)
  obtain ⟨rfl, rfl⟩ := h5060
  refine z_if_eq_f (tgt := 32) b dX11_lawful_20 (by decide) (by decide) ?_
  refine z_iload b dX11_lawful_23 rfl ?_
  refine z_iconst (v := 1) b dX11_lawful_25 (by decide) ?_
  refine z_calli b (z_runS (As := [.int 0, .int 1]) (st := []) b (c_X11_isWithin_11 S ) cf_X11_isWithin wm_X11_73 ws_X11_isWithin dX11_lawful_26 rfl (Nat.le_of_ble_eq_true rfl) ⟨by decide, by decide, by decide, by decide⟩) (fun r5064 u5065 h5063 => ?_)
  obtain ⟨rfl, rfl⟩ := h5063
  refine z_if_ne_t (tgt := 34) b dX11_lawful_29 (by decide) (by decide) ?_
  refine z_aload_n b dX11_lawful_34 rfl rfl ?_
  refine z_get (q0 := 0) (k9 := 5) (v := .ref (a 16)) b (cw_0 cy tE a rw S) rfl in_X11 (by decide) wf_X11_43 rfl dX11_lawful_35 ?_
  refine z_aload_n b dX11_lawful_38 rfl rfl ?_
  refine z_get (q0 := 0) (k9 := 7) (v := .ref (a 35)) b (cw_0 cy tE a rw S) rfl in_X11 (by decide) wf_X11_58 rfl dX11_lawful_39 ?_
  refine z_iload_n b dX11_lawful_42 rfl rfl ?_
  refine y_aald (q0 := 35) (t0 := 4) (j := 3) (v := .ref (a 42)) b (cw_35 cy tE a rw S) rfl (by decide) (by rw [hrw 3 (by decide)]; rfl) dX11_lawful_43 ?_
  refine z_aload_n b dX11_lawful_44 rfl rfl ?_
  refine z_get (q0 := 0) (k9 := 4) (v := .ref (a 14)) b (cw_0 cy tE a rw S) rfl in_X11 (by decide) wf_X11_34 rfl dX11_lawful_45 ?_
  refine z_iload_n b dX11_lawful_48 rfl rfl ?_
  refine z_iload_n b dX11_lawful_49 rfl rfl ?_
  refine z_calli b (z_runV (q0 := 16) (As := [.ref (a 42), .ref (a 14), .int p0, .int p1]) (st := []) b (c_X2_follow_4 S p0 p1 h_i_14 h_i_33 ⟨by omega, by omega⟩ ⟨by omega, by omega⟩) cf_X2_follow (cw_16 cy tE a rw S) rfl wm_X11_184 wi_X2_follow ws_X2_follow dX11_lawful_50 rfl (Nat.le_of_ble_eq_true rfl) ⟨by decide, by decide, by decide, by decide⟩) (fun r5070 u5071 h5069 => ?_)
  obtain ⟨rfl, rfl⟩ := h5069
  refine z_istore (lv' := [(5, .int 0), (0, .ref (a 0)), (1, .int 3), (2, .int p0), (3, .int p1), (4, .int 0)]) b dX11_lawful_53 (by decide) rfl ?_
  refine z_iload b dX11_lawful_55 rfl ?_
  refine z_if_ne_f (tgt := 65) b dX11_lawful_57 (by decide) (by decide) ?_
  refine z_iload b dX11_lawful_60 rfl ?_
  refine z_goto (tgt := 72) b dX11_lawful_62 (by decide) ?_
  exact z_iret (u := (sa S 8 (va_cpy (ar S 4) (ar S 8) 0 0 51))) b rfl dX11_lawful_72 ⟨rfl, rfl⟩ rfl (by decide) (by decide)

set_option maxHeartbeats 4000000 in
set_option maxRecDepth 100000 in
theorem c_X12_goes_4 {l : Launch} {D : va_G} {cy : Nat → ClassId} {T0 tB tE : Nat} {a : Nat → Nat} (S : GS) (p0 : Int32) (p1 : Int32) (h_l_0 : fl S 0 = 1649317774848) (h_a_38_3 : ar S 38 3 = 0) (hr_p0 : 1 ≤ p0.toInt ∧ p0.toInt ≤ 3) (hr_p1 : 0 ≤ p1.toInt ∧ p1.toInt ≤ 31) : Ct l D cy T0 tB tE yX12_goes cX12_goes 5 (some .int) 0 0 0 0 (mw cy a S) [.ref (a 0), .int 3, .int p0, .int p1] (QI D (U := GS) (fun r u => 0 = r ∧ si (sl S 2 1649317774848) 24 (-1) = u) (mw cy a)) := by
  refine Ct.ofZ RX12 "goes" [(0, .ref (a 0)), (1, .int 3), (2, .int p0), (3, .int p1)] rfl rfl rfl rfl (Nat.le_of_ble_eq_true rfl) ?_
  intro p e R s m args below meth c A b
  refine z_aload_n b dX12_goes_0 rfl rfl ?_
  refine z_aload_n b dX12_goes_1 rfl rfl ?_
  refine z_get (q0 := 0) (k9 := 6) (v := .long (fl S 0)) b (mw_0 cy a S) rfl in_X12 (by decide) wf_X12_153 rfl dX12_goes_2 ?_
  refine z_eql h_l_0 ?_
  refine z_put (q0 := 0) (k9 := 68) tyX12 b (mw_0 cy a S) rfl in_X12 tyX12_ok nmX12 (by decide) wf_X12_458 rfl rfl rfl rfl (Nat.le_of_ble_eq_true rfl) dX12_goes_5 (mwp_0_68 cy a S 1649317774848) ?_
  refine z_aload_n b dX12_goes_8 rfl rfl ?_
  refine z_iconst (v := (-1)) b dX12_goes_9 (by decide) ?_
  refine z_put (q0 := 0) (k9 := 69) tyX12 b (mw_0 cy a (sl S 2 1649317774848)) rfl in_X12 tyX12_ok nmX12 (by decide) wf_X12_461 rfl rfl rfl rfl (Nat.le_of_ble_eq_true rfl) dX12_goes_10 (mwp_0_69 cy a (sl S 2 1649317774848) (-1)) ?_
  refine z_iconst (v := 0) b dX12_goes_13 (by decide) ?_
  refine z_istore (lv' := [(4, .int 0), (0, .ref (a 0)), (1, .int 3), (2, .int p0), (3, .int p1)]) b dX12_goes_14 (by decide) rfl ?_
  refine z_iload b dX12_goes_16 rfl ?_
  refine z_aload_n b dX12_goes_18 rfl rfl ?_
  refine z_get (q0 := 0) (k9 := 66) (v := .ref (a 41)) b (mw_0 cy a (si (sl S 2 1649317774848) 24 (-1))) rfl in_X12 (by decide) wf_X12_140 rfl dX12_goes_19 ?_
  refine z_iload_n b dX12_goes_22 rfl rfl ?_
  refine y_iald (q0 := 41) (j := 3) (v := (ar (si (sl S 2 1649317774848) 24 (-1)) 38 3)) b (mw_41 cy a (si (sl S 2 1649317774848) 24 (-1))) (by decide) rfl dX12_goes_23 ?_
  refine z_eqi h_a_38_3 ?_
  refine z_icmp_ge_t (tgt := 78) b dX12_goes_24 (by decide) (by decide) ?_
  refine z_aload_n b dX12_goes_78 rfl rfl ?_
  refine z_get (q0 := 0) (k9 := 66) (v := .ref (a 41)) b (mw_0 cy a (si (sl S 2 1649317774848) 24 (-1))) rfl in_X12 (by decide) wf_X12_140 rfl dX12_goes_79 ?_
  refine z_iload_n b dX12_goes_82 rfl rfl ?_
  refine y_iald (q0 := 41) (j := 3) (v := (ar (si (sl S 2 1649317774848) 24 (-1)) 38 3)) b (mw_41 cy a (si (sl S 2 1649317774848) 24 (-1))) (by decide) rfl dX12_goes_83 ?_
  refine z_eqi h_a_38_3 ?_
  exact z_iret (u := (si (sl S 2 1649317774848) 24 (-1))) b rfl dX12_goes_84 ⟨rfl, rfl⟩ rfl (by decide) (by decide)

set_option maxHeartbeats 4000000 in
set_option maxRecDepth 100000 in
theorem c_X12_lawful_40 {l : Launch} {D : va_G} {cy : Nat → ClassId} {T0 tB tE : Nat} {a : Nat → Nat} (S : GS) (p0 : Int32) (p1 : Int32) (h_l_0 : fl S 0 = 1649317774848) (h_a_38_3 : ar S 38 3 = 0) (hr_p0 : 1 ≤ p0.toInt ∧ p0.toInt ≤ 3) (hr_p1 : 0 ≤ p1.toInt ∧ p1.toInt ≤ 31) : Ct l D cy T0 tB tE yX12_lawful cX12_lawful 6 (some .int) 2 42 0 0 (mw cy a S) [.ref (a 0), .int 3, .int p0, .int p1, .int 0] (QI D (U := GS) (fun r u => 0 = r ∧ si (sl S 2 1649317774848) 24 (-1) = u) (mw cy a)) := by
  refine Ct.ofZ RX12 "lawful" [(0, .ref (a 0)), (1, .int 3), (2, .int p0), (3, .int p1), (4, .int 0)] rfl rfl rfl rfl (Nat.le_of_ble_eq_true rfl) ?_
  intro p e R s m args below meth c A b
  refine z_iload_n b dX12_lawful_0 rfl rfl ?_
  refine z_calli b (z_runS (As := [.int 3]) (st := []) b (c_X12_isRow_6 S ) cf_X12_isRow wm_X12_452 ws_X12_isRow dX12_lawful_1 rfl (Nat.le_of_ble_eq_true rfl) ⟨by decide, by decide, by decide, by decide⟩) (fun r5073 u5074 h5072 => ?_)
  obtain ⟨rfl, rfl⟩ := h5072
  refine z_if_eq_f (tgt := 36) b dX12_lawful_4 (by decide) (by decide) ?_
  refine z_iload_n b dX12_lawful_7 rfl rfl ?_
  refine z_iconst (v := 1) b dX12_lawful_8 (by decide) ?_
  refine z_iconst (v := 3) b dX12_lawful_9 (by decide) ?_
  refine z_calli b (z_runS (As := [.int p0, .int 1, .int 3]) (st := []) b (c_X12_isIn_51 S p0 ⟨by omega, by omega⟩) cf_X12_isIn wm_X12_1 ws_X12_isIn dX12_lawful_10 rfl (Nat.le_of_ble_eq_true rfl) ⟨by decide, by decide, by decide, by decide⟩) (fun r5076 u5077 h5075 => ?_)
  obtain ⟨rfl, rfl⟩ := h5075
  refine z_if_eq_f (tgt := 36) b dX12_lawful_13 (by decide) (by decide) ?_
  refine z_iload_n b dX12_lawful_16 rfl rfl ?_
  refine z_iconst (v := 0) b dX12_lawful_17 (by decide) ?_
  refine z_bipush (v := 31) b dX12_lawful_18 (by decide) ?_
  refine z_calli b (z_runS (As := [.int p1, .int 0, .int 31]) (st := []) b (c_X12_isIn_54 S p1 ⟨by omega, by omega⟩) cf_X12_isIn wm_X12_1 ws_X12_isIn dX12_lawful_20 rfl (Nat.le_of_ble_eq_true rfl) ⟨by decide, by decide, by decide, by decide⟩) (fun r5079 u5080 h5078 => ?_)
  obtain ⟨rfl, rfl⟩ := h5078
  refine z_if_eq_f (tgt := 36) b dX12_lawful_23 (by decide) (by decide) ?_
  refine z_iload b dX12_lawful_26 rfl ?_
  refine z_iconst (v := 0) b dX12_lawful_28 (by decide) ?_
  refine z_iconst (v := 1) b dX12_lawful_29 (by decide) ?_
  refine z_calli b (z_runS (As := [.int 0, .int 0, .int 1]) (st := []) b (c_X12_isIn_16 S ) cf_X12_isIn wm_X12_1 ws_X12_isIn dX12_lawful_30 rfl (Nat.le_of_ble_eq_true rfl) ⟨by decide, by decide, by decide, by decide⟩) (fun r5082 u5083 h5081 => ?_)
  obtain ⟨rfl, rfl⟩ := h5081
  refine z_if_ne_t (tgt := 38) b dX12_lawful_33 (by decide) (by decide) ?_
  refine z_aload_n b dX12_lawful_38 rfl rfl ?_
  refine z_iload_n b dX12_lawful_39 rfl rfl ?_
  refine z_iload_n b dX12_lawful_40 rfl rfl ?_
  refine z_iload_n b dX12_lawful_41 rfl rfl ?_
  refine z_calli b (z_runV (q0 := 0) (As := [.int 3, .int p0, .int p1]) (st := []) b (c_X12_goes_4 S p0 p1 h_l_0 h_a_38_3 ⟨by omega, by omega⟩ ⟨by omega, by omega⟩) cf_X12_goes (mw_0 cy a S) rfl wm_X12_464 wi_X12_goes ws_X12_goes dX12_lawful_42 rfl (Nat.le_of_ble_eq_true rfl) ⟨by decide, by decide, by decide, by decide⟩) (fun r5085 u5086 h5084 => ?_)
  obtain ⟨rfl, rfl⟩ := h5084
  refine z_istore (lv' := [(5, .int 0), (0, .ref (a 0)), (1, .int 3), (2, .int p0), (3, .int p1), (4, .int 0)]) b dX12_lawful_45 (by decide) rfl ?_
  refine z_iload b dX12_lawful_47 rfl ?_
  refine z_if_ne_f (tgt := 57) b dX12_lawful_49 (by decide) (by decide) ?_
  refine z_iload b dX12_lawful_52 rfl ?_
  refine z_goto (tgt := 61) b dX12_lawful_54 (by decide) ?_
  exact z_iret (u := (si (sl S 2 1649317774848) 24 (-1))) b rfl dX12_lawful_61 ⟨rfl, rfl⟩ rfl (by decide) (by decide)

set_option maxHeartbeats 4000000 in
set_option maxRecDepth 100000 in
theorem c_X11_lawful_41 {l : Launch} {D : va_G} {cy : Nat → ClassId} {T0 tB tE : Nat} {a : Nat → Nat} {rw : Nat → Option Nat} (S : GS) (p0 : Int32) (p1 : Int32) (h_i_14 : fi S 14 = (-1)) (h_i_33 : fi S 33 = 0) (hrw : ∀ i, i < 6 → rw i = some (a (36 + 2 * i))) (hr_p0 : 1 ≤ p0.toInt ∧ p0.toInt ≤ 3) (hr_p1 : 0 ≤ p1.toInt ∧ p1.toInt ≤ 31) : Ct l D cy T0 tB tE yX11_lawful cX11_lawful 6 (some .int) 3 86 0 0 (cw cy tE a rw S) [.ref (a 0), .int 3, .int p0, .int p1, .int 1] (QI D (U := GS) (fun r u => (-1) = r ∧ sa S 8 (va_cpy (ar S 4) (ar S 8) 0 0 51) = u) (cw cy tE a rw)) := by
  refine Ct.ofZ RX11 "lawful" [(0, .ref (a 0)), (1, .int 3), (2, .int p0), (3, .int p1), (4, .int 1)] rfl rfl rfl rfl (Nat.le_of_ble_eq_true rfl) ?_
  intro p e R s m args below meth c A b
  refine z_iload_n b dX11_lawful_0 rfl rfl ?_
  refine z_calli b (z_runS (As := [.int 3]) (st := []) b (c_X11_isRow_6 S ) cf_X11_isRow wm_X11_169 ws_X11_isRow dX11_lawful_1 rfl (Nat.le_of_ble_eq_true rfl) ⟨by decide, by decide, by decide, by decide⟩) (fun r5088 u5089 h5087 => ?_)
  obtain ⟨rfl, rfl⟩ := h5087
  refine z_if_eq_f (tgt := 32) b dX11_lawful_4 (by decide) (by decide) ?_
  refine z_iload_n b dX11_lawful_7 rfl rfl ?_
  refine z_calli b (z_runS (As := [.int p0]) (st := []) b (c_X11_areLaws_3 S p0 ⟨by omega, by omega⟩) cf_X11_areLaws wm_X11_181 ws_X11_areLaws dX11_lawful_8 rfl (Nat.le_of_ble_eq_true rfl) ⟨by decide, by decide, by decide, by decide⟩) (fun r5091 u5092 h5090 => ?_)
  obtain ⟨rfl, rfl⟩ := h5090
  refine z_if_eq_f (tgt := 32) b dX11_lawful_11 (by decide) (by decide) ?_
  refine z_iload_n b dX11_lawful_14 rfl rfl ?_
  refine z_bipush (v := 31) b dX11_lawful_15 (by decide) ?_
  refine z_calli b (z_runS (As := [.int p1, .int 31]) (st := []) b (c_X11_isWithin_25 S p1 ⟨by omega, by omega⟩) cf_X11_isWithin wm_X11_73 ws_X11_isWithin dX11_lawful_17 rfl (Nat.le_of_ble_eq_true rfl) ⟨by decide, by decide, by decide, by decide⟩) (fun r5094 u5095 h5093 => ?_)
  obtain ⟨rfl, rfl⟩ := h5093
  refine z_if_eq_f (tgt := 32) b dX11_lawful_20 (by decide) (by decide) ?_
  refine z_iload b dX11_lawful_23 rfl ?_
  refine z_iconst (v := 1) b dX11_lawful_25 (by decide) ?_
  refine z_calli b (z_runS (As := [.int 1, .int 1]) (st := []) b (c_X11_isWithin_12 S ) cf_X11_isWithin wm_X11_73 ws_X11_isWithin dX11_lawful_26 rfl (Nat.le_of_ble_eq_true rfl) ⟨by decide, by decide, by decide, by decide⟩) (fun r5097 u5098 h5096 => ?_)
  obtain ⟨rfl, rfl⟩ := h5096
  refine z_if_ne_t (tgt := 34) b dX11_lawful_29 (by decide) (by decide) ?_
  refine z_aload_n b dX11_lawful_34 rfl rfl ?_
  refine z_get (q0 := 0) (k9 := 5) (v := .ref (a 16)) b (cw_0 cy tE a rw S) rfl in_X11 (by decide) wf_X11_43 rfl dX11_lawful_35 ?_
  refine z_aload_n b dX11_lawful_38 rfl rfl ?_
  refine z_get (q0 := 0) (k9 := 7) (v := .ref (a 35)) b (cw_0 cy tE a rw S) rfl in_X11 (by decide) wf_X11_58 rfl dX11_lawful_39 ?_
  refine z_iload_n b dX11_lawful_42 rfl rfl ?_
  refine y_aald (q0 := 35) (t0 := 4) (j := 3) (v := .ref (a 42)) b (cw_35 cy tE a rw S) rfl (by decide) (by rw [hrw 3 (by decide)]; rfl) dX11_lawful_43 ?_
  refine z_aload_n b dX11_lawful_44 rfl rfl ?_
  refine z_get (q0 := 0) (k9 := 4) (v := .ref (a 14)) b (cw_0 cy tE a rw S) rfl in_X11 (by decide) wf_X11_34 rfl dX11_lawful_45 ?_
  refine z_iload_n b dX11_lawful_48 rfl rfl ?_
  refine z_iload_n b dX11_lawful_49 rfl rfl ?_
  refine z_calli b (z_runV (q0 := 16) (As := [.ref (a 42), .ref (a 14), .int p0, .int p1]) (st := []) b (c_X2_follow_4 S p0 p1 h_i_14 h_i_33 ⟨by omega, by omega⟩ ⟨by omega, by omega⟩) cf_X2_follow (cw_16 cy tE a rw S) rfl wm_X11_184 wi_X2_follow ws_X2_follow dX11_lawful_50 rfl (Nat.le_of_ble_eq_true rfl) ⟨by decide, by decide, by decide, by decide⟩) (fun r5100 u5101 h5099 => ?_)
  obtain ⟨rfl, rfl⟩ := h5099
  refine z_istore (lv' := [(5, .int 0), (0, .ref (a 0)), (1, .int 3), (2, .int p0), (3, .int p1), (4, .int 1)]) b dX11_lawful_53 (by decide) rfl ?_
  refine z_iload b dX11_lawful_55 rfl ?_
  refine z_if_ne_t (tgt := 65) b dX11_lawful_57 (by decide) (by decide) ?_
  refine z_aload_n b dX11_lawful_65 rfl rfl ?_
  refine z_get (q0 := 0) (k9 := 5) (v := .ref (a 16)) b (cw_0 cy tE a rw (sa S 8 (va_cpy (ar S 4) (ar S 8) 0 0 51))) rfl in_X11 (by decide) wf_X11_43 rfl dX11_lawful_66 ?_
  refine z_get (q0 := 16) (k9 := 4) (v := .int (fi (sa S 8 (va_cpy (ar S 4) (ar S 8) 0 0 51)) 14)) b (cw_16 cy tE a rw (sa S 8 (va_cpy (ar S 4) (ar S 8) 0 0 51))) rfl in_X2 (by decide) wf_X11_188 rfl dX11_lawful_69 ?_
  refine z_eqi h_i_14 ?_
  exact z_iret (u := (sa S 8 (va_cpy (ar S 4) (ar S 8) 0 0 51))) b rfl dX11_lawful_72 ⟨rfl, rfl⟩ rfl (by decide) (by decide)

set_option maxHeartbeats 4000000 in
set_option maxRecDepth 100000 in
theorem c_X12_lawful_41 {l : Launch} {D : va_G} {cy : Nat → ClassId} {T0 tB tE : Nat} {a : Nat → Nat} (S : GS) (p0 : Int32) (p1 : Int32) (h_l_0 : fl S 0 = 1649317774848) (h_a_38_3 : ar S 38 3 = 0) (hr_p0 : 1 ≤ p0.toInt ∧ p0.toInt ≤ 3) (hr_p1 : 0 ≤ p1.toInt ∧ p1.toInt ≤ 31) : Ct l D cy T0 tB tE yX12_lawful cX12_lawful 6 (some .int) 2 42 0 0 (mw cy a S) [.ref (a 0), .int 3, .int p0, .int p1, .int 1] (QI D (U := GS) (fun r u => (-1) = r ∧ si (sl S 2 1649317774848) 24 (-1) = u) (mw cy a)) := by
  refine Ct.ofZ RX12 "lawful" [(0, .ref (a 0)), (1, .int 3), (2, .int p0), (3, .int p1), (4, .int 1)] rfl rfl rfl rfl (Nat.le_of_ble_eq_true rfl) ?_
  intro p e R s m args below meth c A b
  refine z_iload_n b dX12_lawful_0 rfl rfl ?_
  refine z_calli b (z_runS (As := [.int 3]) (st := []) b (c_X12_isRow_6 S ) cf_X12_isRow wm_X12_452 ws_X12_isRow dX12_lawful_1 rfl (Nat.le_of_ble_eq_true rfl) ⟨by decide, by decide, by decide, by decide⟩) (fun r5103 u5104 h5102 => ?_)
  obtain ⟨rfl, rfl⟩ := h5102
  refine z_if_eq_f (tgt := 36) b dX12_lawful_4 (by decide) (by decide) ?_
  refine z_iload_n b dX12_lawful_7 rfl rfl ?_
  refine z_iconst (v := 1) b dX12_lawful_8 (by decide) ?_
  refine z_iconst (v := 3) b dX12_lawful_9 (by decide) ?_
  refine z_calli b (z_runS (As := [.int p0, .int 1, .int 3]) (st := []) b (c_X12_isIn_51 S p0 ⟨by omega, by omega⟩) cf_X12_isIn wm_X12_1 ws_X12_isIn dX12_lawful_10 rfl (Nat.le_of_ble_eq_true rfl) ⟨by decide, by decide, by decide, by decide⟩) (fun r5106 u5107 h5105 => ?_)
  obtain ⟨rfl, rfl⟩ := h5105
  refine z_if_eq_f (tgt := 36) b dX12_lawful_13 (by decide) (by decide) ?_
  refine z_iload_n b dX12_lawful_16 rfl rfl ?_
  refine z_iconst (v := 0) b dX12_lawful_17 (by decide) ?_
  refine z_bipush (v := 31) b dX12_lawful_18 (by decide) ?_
  refine z_calli b (z_runS (As := [.int p1, .int 0, .int 31]) (st := []) b (c_X12_isIn_54 S p1 ⟨by omega, by omega⟩) cf_X12_isIn wm_X12_1 ws_X12_isIn dX12_lawful_20 rfl (Nat.le_of_ble_eq_true rfl) ⟨by decide, by decide, by decide, by decide⟩) (fun r5109 u5110 h5108 => ?_)
  obtain ⟨rfl, rfl⟩ := h5108
  refine z_if_eq_f (tgt := 36) b dX12_lawful_23 (by decide) (by decide) ?_
  refine z_iload b dX12_lawful_26 rfl ?_
  refine z_iconst (v := 0) b dX12_lawful_28 (by decide) ?_
  refine z_iconst (v := 1) b dX12_lawful_29 (by decide) ?_
  refine z_calli b (z_runS (As := [.int 1, .int 0, .int 1]) (st := []) b (c_X12_isIn_17 S ) cf_X12_isIn wm_X12_1 ws_X12_isIn dX12_lawful_30 rfl (Nat.le_of_ble_eq_true rfl) ⟨by decide, by decide, by decide, by decide⟩) (fun r5112 u5113 h5111 => ?_)
  obtain ⟨rfl, rfl⟩ := h5111
  refine z_if_ne_t (tgt := 38) b dX12_lawful_33 (by decide) (by decide) ?_
  refine z_aload_n b dX12_lawful_38 rfl rfl ?_
  refine z_iload_n b dX12_lawful_39 rfl rfl ?_
  refine z_iload_n b dX12_lawful_40 rfl rfl ?_
  refine z_iload_n b dX12_lawful_41 rfl rfl ?_
  refine z_calli b (z_runV (q0 := 0) (As := [.int 3, .int p0, .int p1]) (st := []) b (c_X12_goes_4 S p0 p1 h_l_0 h_a_38_3 ⟨by omega, by omega⟩ ⟨by omega, by omega⟩) cf_X12_goes (mw_0 cy a S) rfl wm_X12_464 wi_X12_goes ws_X12_goes dX12_lawful_42 rfl (Nat.le_of_ble_eq_true rfl) ⟨by decide, by decide, by decide, by decide⟩) (fun r5115 u5116 h5114 => ?_)
  obtain ⟨rfl, rfl⟩ := h5114
  refine z_istore (lv' := [(5, .int 0), (0, .ref (a 0)), (1, .int 3), (2, .int p0), (3, .int p1), (4, .int 1)]) b dX12_lawful_45 (by decide) rfl ?_
  refine z_iload b dX12_lawful_47 rfl ?_
  refine z_if_ne_t (tgt := 57) b dX12_lawful_49 (by decide) (by decide) ?_
  refine z_aload_n b dX12_lawful_57 rfl rfl ?_
  refine z_get (q0 := 0) (k9 := 69) (v := .int (-1)) b (mw_0 cy a (si (sl S 2 1649317774848) 24 (-1))) rfl in_X12 (by decide) wf_X12_461 rfl dX12_lawful_58 ?_
  exact z_iret (u := (si (sl S 2 1649317774848) 24 (-1))) b rfl dX12_lawful_61 ⟨rfl, rfl⟩ rfl (by decide) (by decide)

set_option maxHeartbeats 4000000 in
set_option maxRecDepth 100000 in
theorem c_X11_lawful_42 {l : Launch} {D : va_G} {cy : Nat → ClassId} {T0 tB tE : Nat} {a : Nat → Nat} {rw : Nat → Option Nat} (S : GS) (p0 : Int32) (p1 : Int32) (p2 : Int32)  (hr_p0 : 1 ≤ p0.toInt ∧ p0.toInt ≤ 3) (hr_p1 : 0 ≤ p1.toInt ∧ p1.toInt ≤ 31) (hr_p2 : 2 ≤ p2.toInt ∧ p2.toInt ≤ 2147483647) : Ct l D cy T0 tB tE yX11_lawful cX11_lawful 6 (some .int) 1 21 0 0 (cw cy tE a rw S) [.ref (a 0), .int 3, .int p0, .int p1, .int p2] (QI D (U := GS) (fun r u => (-1) = r ∧ S = u) (cw cy tE a rw)) := by
  refine Ct.ofZ RX11 "lawful" [(0, .ref (a 0)), (1, .int 3), (2, .int p0), (3, .int p1), (4, .int p2)] rfl rfl rfl rfl (Nat.le_of_ble_eq_true rfl) ?_
  intro p e R s m args below meth c A b
  refine z_iload_n b dX11_lawful_0 rfl rfl ?_
  refine z_calli b (z_runS (As := [.int 3]) (st := []) b (c_X11_isRow_6 S ) cf_X11_isRow wm_X11_169 ws_X11_isRow dX11_lawful_1 rfl (Nat.le_of_ble_eq_true rfl) ⟨by decide, by decide, by decide, by decide⟩) (fun r5118 u5119 h5117 => ?_)
  obtain ⟨rfl, rfl⟩ := h5117
  refine z_if_eq_f (tgt := 32) b dX11_lawful_4 (by decide) (by decide) ?_
  refine z_iload_n b dX11_lawful_7 rfl rfl ?_
  refine z_calli b (z_runS (As := [.int p0]) (st := []) b (c_X11_areLaws_3 S p0 ⟨by omega, by omega⟩) cf_X11_areLaws wm_X11_181 ws_X11_areLaws dX11_lawful_8 rfl (Nat.le_of_ble_eq_true rfl) ⟨by decide, by decide, by decide, by decide⟩) (fun r5121 u5122 h5120 => ?_)
  obtain ⟨rfl, rfl⟩ := h5120
  refine z_if_eq_f (tgt := 32) b dX11_lawful_11 (by decide) (by decide) ?_
  refine z_iload_n b dX11_lawful_14 rfl rfl ?_
  refine z_bipush (v := 31) b dX11_lawful_15 (by decide) ?_
  refine z_calli b (z_runS (As := [.int p1, .int 31]) (st := []) b (c_X11_isWithin_25 S p1 ⟨by omega, by omega⟩) cf_X11_isWithin wm_X11_73 ws_X11_isWithin dX11_lawful_17 rfl (Nat.le_of_ble_eq_true rfl) ⟨by decide, by decide, by decide, by decide⟩) (fun r5124 u5125 h5123 => ?_)
  obtain ⟨rfl, rfl⟩ := h5123
  refine z_if_eq_f (tgt := 32) b dX11_lawful_20 (by decide) (by decide) ?_
  refine z_iload b dX11_lawful_23 rfl ?_
  refine z_iconst (v := 1) b dX11_lawful_25 (by decide) ?_
  refine z_calli b (z_runS (As := [.int p2, .int 1]) (st := []) b (c_X11_isWithin_13 S p2 ⟨by omega, by omega⟩) cf_X11_isWithin wm_X11_73 ws_X11_isWithin dX11_lawful_26 rfl (Nat.le_of_ble_eq_true rfl) ⟨by decide, by decide, by decide, by decide⟩) (fun r5127 u5128 h5126 => ?_)
  obtain ⟨rfl, rfl⟩ := h5126
  refine z_if_ne_f (tgt := 34) b dX11_lawful_29 (by decide) (by decide) ?_
  refine z_iconst (v := (-1)) b dX11_lawful_32 (by decide) ?_
  exact z_iret (u := S) b rfl dX11_lawful_33 ⟨rfl, rfl⟩ rfl (by decide) (by decide)

set_option maxHeartbeats 4000000 in
set_option maxRecDepth 100000 in
theorem c_X12_lawful_42 {l : Launch} {D : va_G} {cy : Nat → ClassId} {T0 tB tE : Nat} {a : Nat → Nat} (S : GS) (p0 : Int32) (p1 : Int32) (p2 : Int32)  (hr_p0 : 1 ≤ p0.toInt ∧ p0.toInt ≤ 3) (hr_p1 : 0 ≤ p1.toInt ∧ p1.toInt ≤ 31) (hr_p2 : 2 ≤ p2.toInt ∧ p2.toInt ≤ 2147483647) : Ct l D cy T0 tB tE yX12_lawful cX12_lawful 6 (some .int) 2 42 0 0 (mw cy a S) [.ref (a 0), .int 3, .int p0, .int p1, .int p2] (QI D (U := GS) (fun r u => (-1) = r ∧ S = u) (mw cy a)) := by
  refine Ct.ofZ RX12 "lawful" [(0, .ref (a 0)), (1, .int 3), (2, .int p0), (3, .int p1), (4, .int p2)] rfl rfl rfl rfl (Nat.le_of_ble_eq_true rfl) ?_
  intro p e R s m args below meth c A b
  refine z_iload_n b dX12_lawful_0 rfl rfl ?_
  refine z_calli b (z_runS (As := [.int 3]) (st := []) b (c_X12_isRow_6 S ) cf_X12_isRow wm_X12_452 ws_X12_isRow dX12_lawful_1 rfl (Nat.le_of_ble_eq_true rfl) ⟨by decide, by decide, by decide, by decide⟩) (fun r5130 u5131 h5129 => ?_)
  obtain ⟨rfl, rfl⟩ := h5129
  refine z_if_eq_f (tgt := 36) b dX12_lawful_4 (by decide) (by decide) ?_
  refine z_iload_n b dX12_lawful_7 rfl rfl ?_
  refine z_iconst (v := 1) b dX12_lawful_8 (by decide) ?_
  refine z_iconst (v := 3) b dX12_lawful_9 (by decide) ?_
  refine z_calli b (z_runS (As := [.int p0, .int 1, .int 3]) (st := []) b (c_X12_isIn_51 S p0 ⟨by omega, by omega⟩) cf_X12_isIn wm_X12_1 ws_X12_isIn dX12_lawful_10 rfl (Nat.le_of_ble_eq_true rfl) ⟨by decide, by decide, by decide, by decide⟩) (fun r5133 u5134 h5132 => ?_)
  obtain ⟨rfl, rfl⟩ := h5132
  refine z_if_eq_f (tgt := 36) b dX12_lawful_13 (by decide) (by decide) ?_
  refine z_iload_n b dX12_lawful_16 rfl rfl ?_
  refine z_iconst (v := 0) b dX12_lawful_17 (by decide) ?_
  refine z_bipush (v := 31) b dX12_lawful_18 (by decide) ?_
  refine z_calli b (z_runS (As := [.int p1, .int 0, .int 31]) (st := []) b (c_X12_isIn_54 S p1 ⟨by omega, by omega⟩) cf_X12_isIn wm_X12_1 ws_X12_isIn dX12_lawful_20 rfl (Nat.le_of_ble_eq_true rfl) ⟨by decide, by decide, by decide, by decide⟩) (fun r5136 u5137 h5135 => ?_)
  obtain ⟨rfl, rfl⟩ := h5135
  refine z_if_eq_f (tgt := 36) b dX12_lawful_23 (by decide) (by decide) ?_
  refine z_iload b dX12_lawful_26 rfl ?_
  refine z_iconst (v := 0) b dX12_lawful_28 (by decide) ?_
  refine z_iconst (v := 1) b dX12_lawful_29 (by decide) ?_
  refine z_calli b (z_runS (As := [.int p2, .int 0, .int 1]) (st := []) b (c_X12_isIn_18 S p2 ⟨by omega, by omega⟩) cf_X12_isIn wm_X12_1 ws_X12_isIn dX12_lawful_30 rfl (Nat.le_of_ble_eq_true rfl) ⟨by decide, by decide, by decide, by decide⟩) (fun r5139 u5140 h5138 => ?_)
  obtain ⟨rfl, rfl⟩ := h5138
  refine z_if_ne_f (tgt := 38) b dX12_lawful_33 (by decide) (by decide) ?_
  refine z_iconst (v := (-1)) b dX12_lawful_36 (by decide) ?_
  exact z_iret (u := S) b rfl dX12_lawful_37 ⟨rfl, rfl⟩ rfl (by decide) (by decide)

set_option maxHeartbeats 4000000 in
set_option maxRecDepth 100000 in
theorem c_X11_lawful_43 {l : Launch} {D : va_G} {cy : Nat → ClassId} {T0 tB tE : Nat} {a : Nat → Nat} {rw : Nat → Option Nat} (S : GS) (p0 : Int32) (p1 : Int32) (p2 : Int32)  (hr_p0 : 1 ≤ p0.toInt ∧ p0.toInt ≤ 3) (hr_p1 : 0 ≤ p1.toInt ∧ p1.toInt ≤ 31) (hr_p2 : (-2147483648) ≤ p2.toInt ∧ p2.toInt ≤ (-1)) : Ct l D cy T0 tB tE yX11_lawful cX11_lawful 6 (some .int) 1 21 0 0 (cw cy tE a rw S) [.ref (a 0), .int 4, .int p0, .int p1, .int p2] (QI D (U := GS) (fun r u => (-1) = r ∧ S = u) (cw cy tE a rw)) := by
  refine Ct.ofZ RX11 "lawful" [(0, .ref (a 0)), (1, .int 4), (2, .int p0), (3, .int p1), (4, .int p2)] rfl rfl rfl rfl (Nat.le_of_ble_eq_true rfl) ?_
  intro p e R s m args below meth c A b
  refine z_iload_n b dX11_lawful_0 rfl rfl ?_
  refine z_calli b (z_runS (As := [.int 4]) (st := []) b (c_X11_isRow_7 S ) cf_X11_isRow wm_X11_169 ws_X11_isRow dX11_lawful_1 rfl (Nat.le_of_ble_eq_true rfl) ⟨by decide, by decide, by decide, by decide⟩) (fun r5142 u5143 h5141 => ?_)
  obtain ⟨rfl, rfl⟩ := h5141
  refine z_if_eq_f (tgt := 32) b dX11_lawful_4 (by decide) (by decide) ?_
  refine z_iload_n b dX11_lawful_7 rfl rfl ?_
  refine z_calli b (z_runS (As := [.int p0]) (st := []) b (c_X11_areLaws_3 S p0 ⟨by omega, by omega⟩) cf_X11_areLaws wm_X11_181 ws_X11_areLaws dX11_lawful_8 rfl (Nat.le_of_ble_eq_true rfl) ⟨by decide, by decide, by decide, by decide⟩) (fun r5145 u5146 h5144 => ?_)
  obtain ⟨rfl, rfl⟩ := h5144
  refine z_if_eq_f (tgt := 32) b dX11_lawful_11 (by decide) (by decide) ?_
  refine z_iload_n b dX11_lawful_14 rfl rfl ?_
  refine z_bipush (v := 31) b dX11_lawful_15 (by decide) ?_
  refine z_calli b (z_runS (As := [.int p1, .int 31]) (st := []) b (c_X11_isWithin_25 S p1 ⟨by omega, by omega⟩) cf_X11_isWithin wm_X11_73 ws_X11_isWithin dX11_lawful_17 rfl (Nat.le_of_ble_eq_true rfl) ⟨by decide, by decide, by decide, by decide⟩) (fun r5148 u5149 h5147 => ?_)
  obtain ⟨rfl, rfl⟩ := h5147
  refine z_if_eq_f (tgt := 32) b dX11_lawful_20 (by decide) (by decide) ?_
  refine z_iload b dX11_lawful_23 rfl ?_
  refine z_iconst (v := 1) b dX11_lawful_25 (by decide) ?_
  refine z_calli b (z_runS (As := [.int p2, .int 1]) (st := []) b (c_X11_isWithin_10 S p2 ⟨by omega, by omega⟩) cf_X11_isWithin wm_X11_73 ws_X11_isWithin dX11_lawful_26 rfl (Nat.le_of_ble_eq_true rfl) ⟨by decide, by decide, by decide, by decide⟩) (fun r5151 u5152 h5150 => ?_)
  obtain ⟨rfl, rfl⟩ := h5150
  refine z_if_ne_f (tgt := 34) b dX11_lawful_29 (by decide) (by decide) ?_
  refine z_iconst (v := (-1)) b dX11_lawful_32 (by decide) ?_
  exact z_iret (u := S) b rfl dX11_lawful_33 ⟨rfl, rfl⟩ rfl (by decide) (by decide)

set_option maxHeartbeats 4000000 in
set_option maxRecDepth 100000 in
theorem c_X12_lawful_43 {l : Launch} {D : va_G} {cy : Nat → ClassId} {T0 tB tE : Nat} {a : Nat → Nat} (S : GS) (p0 : Int32) (p1 : Int32) (p2 : Int32)  (hr_p0 : 1 ≤ p0.toInt ∧ p0.toInt ≤ 3) (hr_p1 : 0 ≤ p1.toInt ∧ p1.toInt ≤ 31) (hr_p2 : (-2147483648) ≤ p2.toInt ∧ p2.toInt ≤ (-1)) : Ct l D cy T0 tB tE yX12_lawful cX12_lawful 6 (some .int) 2 42 0 0 (mw cy a S) [.ref (a 0), .int 4, .int p0, .int p1, .int p2] (QI D (U := GS) (fun r u => (-1) = r ∧ S = u) (mw cy a)) := by
  refine Ct.ofZ RX12 "lawful" [(0, .ref (a 0)), (1, .int 4), (2, .int p0), (3, .int p1), (4, .int p2)] rfl rfl rfl rfl (Nat.le_of_ble_eq_true rfl) ?_
  intro p e R s m args below meth c A b
  refine z_iload_n b dX12_lawful_0 rfl rfl ?_
  refine z_calli b (z_runS (As := [.int 4]) (st := []) b (c_X12_isRow_7 S ) cf_X12_isRow wm_X12_452 ws_X12_isRow dX12_lawful_1 rfl (Nat.le_of_ble_eq_true rfl) ⟨by decide, by decide, by decide, by decide⟩) (fun r5154 u5155 h5153 => ?_)
  obtain ⟨rfl, rfl⟩ := h5153
  refine z_if_eq_f (tgt := 36) b dX12_lawful_4 (by decide) (by decide) ?_
  refine z_iload_n b dX12_lawful_7 rfl rfl ?_
  refine z_iconst (v := 1) b dX12_lawful_8 (by decide) ?_
  refine z_iconst (v := 3) b dX12_lawful_9 (by decide) ?_
  refine z_calli b (z_runS (As := [.int p0, .int 1, .int 3]) (st := []) b (c_X12_isIn_51 S p0 ⟨by omega, by omega⟩) cf_X12_isIn wm_X12_1 ws_X12_isIn dX12_lawful_10 rfl (Nat.le_of_ble_eq_true rfl) ⟨by decide, by decide, by decide, by decide⟩) (fun r5157 u5158 h5156 => ?_)
  obtain ⟨rfl, rfl⟩ := h5156
  refine z_if_eq_f (tgt := 36) b dX12_lawful_13 (by decide) (by decide) ?_
  refine z_iload_n b dX12_lawful_16 rfl rfl ?_
  refine z_iconst (v := 0) b dX12_lawful_17 (by decide) ?_
  refine z_bipush (v := 31) b dX12_lawful_18 (by decide) ?_
  refine z_calli b (z_runS (As := [.int p1, .int 0, .int 31]) (st := []) b (c_X12_isIn_54 S p1 ⟨by omega, by omega⟩) cf_X12_isIn wm_X12_1 ws_X12_isIn dX12_lawful_20 rfl (Nat.le_of_ble_eq_true rfl) ⟨by decide, by decide, by decide, by decide⟩) (fun r5160 u5161 h5159 => ?_)
  obtain ⟨rfl, rfl⟩ := h5159
  refine z_if_eq_f (tgt := 36) b dX12_lawful_23 (by decide) (by decide) ?_
  refine z_iload b dX12_lawful_26 rfl ?_
  refine z_iconst (v := 0) b dX12_lawful_28 (by decide) ?_
  refine z_iconst (v := 1) b dX12_lawful_29 (by decide) ?_
  refine z_calli b (z_runS (As := [.int p2, .int 0, .int 1]) (st := []) b (c_X12_isIn_15 S p2 ⟨by omega, by omega⟩) cf_X12_isIn wm_X12_1 ws_X12_isIn dX12_lawful_30 rfl (Nat.le_of_ble_eq_true rfl) ⟨by decide, by decide, by decide, by decide⟩) (fun r5163 u5164 h5162 => ?_)
  obtain ⟨rfl, rfl⟩ := h5162
  refine z_if_ne_f (tgt := 38) b dX12_lawful_33 (by decide) (by decide) ?_
  refine z_iconst (v := (-1)) b dX12_lawful_36 (by decide) ?_
  exact z_iret (u := S) b rfl dX12_lawful_37 ⟨rfl, rfl⟩ rfl (by decide) (by decide)

set_option maxHeartbeats 4000000 in
set_option maxRecDepth 100000 in
theorem c_X2_follow_5 {l : Launch} {D : va_G} {cy : Nat → ClassId} {T0 tB tE : Nat} {a : Nat → Nat} {rw : Nat → Option Nat} (S : GS) (p0 : Int32) (p1 : Int32) (h_i_14 : fi S 14 = (-1)) (h_i_35 : fi S 35 = 0) (hr_p0 : 1 ≤ p0.toInt ∧ p0.toInt ≤ 3) (hr_p1 : 0 ≤ p1.toInt ∧ p1.toInt ≤ 31) : Ct l D cy T0 tB tE yX2_follow cX2_follow 6 (some .int) 2 61 0 0 (cw cy tE a rw S) [.ref (a 16), .ref (a 44), .ref (a 14), .int p0, .int p1] (QI D (U := GS) (fun r u => 0 = r ∧ sa S 8 (va_cpy (ar S 4) (ar S 8) 0 0 51) = u) (cw cy tE a rw)) := by
  refine Ct.ofZ RX2 "follow" [(0, .ref (a 16)), (1, .ref (a 44)), (2, .ref (a 14)), (3, .int p0), (4, .int p1)] rfl rfl rfl rfl (Nat.le_of_ble_eq_true rfl) ?_
  intro p e R s m args below meth c A b
  refine z_aload_n b dX2_follow_0 rfl rfl ?_
  refine z_get (q0 := 16) (k9 := 3) (v := .ref (a 23)) b (cw_16 cy tE a rw S) rfl in_X2 (by decide) wf_X2_25 rfl dX2_follow_1 ?_
  refine z_aload_n b dX2_follow_4 rfl rfl ?_
  refine z_callv b (z_runV (q0 := 23) (As := [.ref (a 14)]) (st := []) b (c_X9_copy S ) cf_X9_copy (cw_23 cy tE a rw S) rfl wm_X2_80 wi_X9_copy ws_X9_copy dX2_follow_5 rfl (Nat.le_of_ble_eq_true rfl) ⟨by decide, by decide, by decide, by decide⟩) (fun u5179 h5177 => ?_)
  obtain rfl := h5177
  refine z_aload_n b dX2_follow_8 rfl rfl ?_
  refine z_iconst (v := (-1)) b dX2_follow_9 (by decide) ?_
  refine z_put (q0 := 16) (k9 := 4) tyX2 b (cw_16 cy tE a rw (sa S 8 (va_cpy (ar S 4) (ar S 8) 0 0 51))) rfl in_X2 tyX2_ok nmX2 (by decide) wf_X2_28 rfl rfl rfl rfl (Nat.le_of_ble_eq_true rfl) dX2_follow_10 ((cwp_16_4 cy tE a rw (sa S 8 (va_cpy (ar S 4) (ar S 8) 0 0 51)) (-1)).trans (congrArg (cw cy tE a rw) (si_same h_i_14))) ?_
  refine z_iconst (v := 0) b dX2_follow_13 (by decide) ?_
  refine z_istore (lv' := [(5, .int 0), (0, .ref (a 16)), (1, .ref (a 44)), (2, .ref (a 14)), (3, .int p0), (4, .int p1)]) b dX2_follow_14 (by decide) rfl ?_
  refine z_iload b dX2_follow_16 rfl ?_
  refine z_aload_n b dX2_follow_18 rfl rfl ?_
  refine z_get (q0 := 44) (k9 := 1) (v := .int (fi (sa S 8 (va_cpy (ar S 4) (ar S 8) 0 0 51)) 35)) b (cw_44 cy tE a rw (sa S 8 (va_cpy (ar S 4) (ar S 8) 0 0 51))) rfl in_X7 (by decide) wf_X2_108 rfl dX2_follow_19 ?_
  refine z_eqi h_i_35 ?_
  refine z_icmp_ge_t (tgt := 74) b dX2_follow_22 (by decide) (by decide) ?_
  refine z_aload_n b dX2_follow_74 rfl rfl ?_
  refine z_get (q0 := 44) (k9 := 1) (v := .int (fi (sa S 8 (va_cpy (ar S 4) (ar S 8) 0 0 51)) 35)) b (cw_44 cy tE a rw (sa S 8 (va_cpy (ar S 4) (ar S 8) 0 0 51))) rfl in_X7 (by decide) wf_X2_108 rfl dX2_follow_75 ?_
  refine z_eqi h_i_35 ?_
  exact z_iret (u := (sa S 8 (va_cpy (ar S 4) (ar S 8) 0 0 51))) b rfl dX2_follow_78 ⟨rfl, rfl⟩ rfl (by decide) (by decide)

set_option maxHeartbeats 4000000 in
set_option maxRecDepth 100000 in
theorem c_X11_lawful_44 {l : Launch} {D : va_G} {cy : Nat → ClassId} {T0 tB tE : Nat} {a : Nat → Nat} {rw : Nat → Option Nat} (S : GS) (p0 : Int32) (p1 : Int32) (h_i_14 : fi S 14 = (-1)) (h_i_35 : fi S 35 = 0) (hrw : ∀ i, i < 6 → rw i = some (a (36 + 2 * i))) (hr_p0 : 1 ≤ p0.toInt ∧ p0.toInt ≤ 3) (hr_p1 : 0 ≤ p1.toInt ∧ p1.toInt ≤ 31) : Ct l D cy T0 tB tE yX11_lawful cX11_lawful 6 (some .int) 3 86 0 0 (cw cy tE a rw S) [.ref (a 0), .int 4, .int p0, .int p1, .int 0] (QI D (U := GS) (fun r u => 0 = r ∧ sa S 8 (va_cpy (ar S 4) (ar S 8) 0 0 51) = u) (cw cy tE a rw)) := by
  refine Ct.ofZ RX11 "lawful" [(0, .ref (a 0)), (1, .int 4), (2, .int p0), (3, .int p1), (4, .int 0)] rfl rfl rfl rfl (Nat.le_of_ble_eq_true rfl) ?_
  intro p e R s m args below meth c A b
  refine z_iload_n b dX11_lawful_0 rfl rfl ?_
  refine z_calli b (z_runS (As := [.int 4]) (st := []) b (c_X11_isRow_7 S ) cf_X11_isRow wm_X11_169 ws_X11_isRow dX11_lawful_1 rfl (Nat.le_of_ble_eq_true rfl) ⟨by decide, by decide, by decide, by decide⟩) (fun r5166 u5167 h5165 => ?_)
  obtain ⟨rfl, rfl⟩ := h5165
  refine z_if_eq_f (tgt := 32) b dX11_lawful_4 (by decide) (by decide) ?_
  refine z_iload_n b dX11_lawful_7 rfl rfl ?_
  refine z_calli b (z_runS (As := [.int p0]) (st := []) b (c_X11_areLaws_3 S p0 ⟨by omega, by omega⟩) cf_X11_areLaws wm_X11_181 ws_X11_areLaws dX11_lawful_8 rfl (Nat.le_of_ble_eq_true rfl) ⟨by decide, by decide, by decide, by decide⟩) (fun r5169 u5170 h5168 => ?_)
  obtain ⟨rfl, rfl⟩ := h5168
  refine z_if_eq_f (tgt := 32) b dX11_lawful_11 (by decide) (by decide) ?_
  refine z_iload_n b dX11_lawful_14 rfl rfl ?_
  refine z_bipush (v := 31) b dX11_lawful_15 (by decide) ?_
  refine z_calli b (z_runS (As := [.int p1, .int 31]) (st := []) b (c_X11_isWithin_25 S p1 ⟨by omega, by omega⟩) cf_X11_isWithin wm_X11_73 ws_X11_isWithin dX11_lawful_17 rfl (Nat.le_of_ble_eq_true rfl) ⟨by decide, by decide, by decide, by decide⟩) (fun r5172 u5173 h5171 => ?_)
  obtain ⟨rfl, rfl⟩ := h5171
  refine z_if_eq_f (tgt := 32) b dX11_lawful_20 (by decide) (by decide) ?_
  refine z_iload b dX11_lawful_23 rfl ?_
  refine z_iconst (v := 1) b dX11_lawful_25 (by decide) ?_
  refine z_calli b (z_runS (As := [.int 0, .int 1]) (st := []) b (c_X11_isWithin_11 S ) cf_X11_isWithin wm_X11_73 ws_X11_isWithin dX11_lawful_26 rfl (Nat.le_of_ble_eq_true rfl) ⟨by decide, by decide, by decide, by decide⟩) (fun r5175 u5176 h5174 => ?_)
  obtain ⟨rfl, rfl⟩ := h5174
  refine z_if_ne_t (tgt := 34) b dX11_lawful_29 (by decide) (by decide) ?_
  refine z_aload_n b dX11_lawful_34 rfl rfl ?_
  refine z_get (q0 := 0) (k9 := 5) (v := .ref (a 16)) b (cw_0 cy tE a rw S) rfl in_X11 (by decide) wf_X11_43 rfl dX11_lawful_35 ?_
  refine z_aload_n b dX11_lawful_38 rfl rfl ?_
  refine z_get (q0 := 0) (k9 := 7) (v := .ref (a 35)) b (cw_0 cy tE a rw S) rfl in_X11 (by decide) wf_X11_58 rfl dX11_lawful_39 ?_
  refine z_iload_n b dX11_lawful_42 rfl rfl ?_
  refine y_aald (q0 := 35) (t0 := 4) (j := 4) (v := .ref (a 44)) b (cw_35 cy tE a rw S) rfl (by decide) (by rw [hrw 4 (by decide)]; rfl) dX11_lawful_43 ?_
  refine z_aload_n b dX11_lawful_44 rfl rfl ?_
  refine z_get (q0 := 0) (k9 := 4) (v := .ref (a 14)) b (cw_0 cy tE a rw S) rfl in_X11 (by decide) wf_X11_34 rfl dX11_lawful_45 ?_
  refine z_iload_n b dX11_lawful_48 rfl rfl ?_
  refine z_iload_n b dX11_lawful_49 rfl rfl ?_
  refine z_calli b (z_runV (q0 := 16) (As := [.ref (a 44), .ref (a 14), .int p0, .int p1]) (st := []) b (c_X2_follow_5 S p0 p1 h_i_14 h_i_35 ⟨by omega, by omega⟩ ⟨by omega, by omega⟩) cf_X2_follow (cw_16 cy tE a rw S) rfl wm_X11_184 wi_X2_follow ws_X2_follow dX11_lawful_50 rfl (Nat.le_of_ble_eq_true rfl) ⟨by decide, by decide, by decide, by decide⟩) (fun r5181 u5182 h5180 => ?_)
  obtain ⟨rfl, rfl⟩ := h5180
  refine z_istore (lv' := [(5, .int 0), (0, .ref (a 0)), (1, .int 4), (2, .int p0), (3, .int p1), (4, .int 0)]) b dX11_lawful_53 (by decide) rfl ?_
  refine z_iload b dX11_lawful_55 rfl ?_
  refine z_if_ne_f (tgt := 65) b dX11_lawful_57 (by decide) (by decide) ?_
  refine z_iload b dX11_lawful_60 rfl ?_
  refine z_goto (tgt := 72) b dX11_lawful_62 (by decide) ?_
  exact z_iret (u := (sa S 8 (va_cpy (ar S 4) (ar S 8) 0 0 51))) b rfl dX11_lawful_72 ⟨rfl, rfl⟩ rfl (by decide) (by decide)

set_option maxHeartbeats 4000000 in
set_option maxRecDepth 100000 in
theorem c_X12_goes_5 {l : Launch} {D : va_G} {cy : Nat → ClassId} {T0 tB tE : Nat} {a : Nat → Nat} (S : GS) (p0 : Int32) (p1 : Int32) (h_l_0 : fl S 0 = 1649317774848) (h_a_38_4 : ar S 38 4 = 0) (hr_p0 : 1 ≤ p0.toInt ∧ p0.toInt ≤ 3) (hr_p1 : 0 ≤ p1.toInt ∧ p1.toInt ≤ 31) : Ct l D cy T0 tB tE yX12_goes cX12_goes 5 (some .int) 0 0 0 0 (mw cy a S) [.ref (a 0), .int 4, .int p0, .int p1] (QI D (U := GS) (fun r u => 0 = r ∧ si (sl S 2 1649317774848) 24 (-1) = u) (mw cy a)) := by
  refine Ct.ofZ RX12 "goes" [(0, .ref (a 0)), (1, .int 4), (2, .int p0), (3, .int p1)] rfl rfl rfl rfl (Nat.le_of_ble_eq_true rfl) ?_
  intro p e R s m args below meth c A b
  refine z_aload_n b dX12_goes_0 rfl rfl ?_
  refine z_aload_n b dX12_goes_1 rfl rfl ?_
  refine z_get (q0 := 0) (k9 := 6) (v := .long (fl S 0)) b (mw_0 cy a S) rfl in_X12 (by decide) wf_X12_153 rfl dX12_goes_2 ?_
  refine z_eql h_l_0 ?_
  refine z_put (q0 := 0) (k9 := 68) tyX12 b (mw_0 cy a S) rfl in_X12 tyX12_ok nmX12 (by decide) wf_X12_458 rfl rfl rfl rfl (Nat.le_of_ble_eq_true rfl) dX12_goes_5 (mwp_0_68 cy a S 1649317774848) ?_
  refine z_aload_n b dX12_goes_8 rfl rfl ?_
  refine z_iconst (v := (-1)) b dX12_goes_9 (by decide) ?_
  refine z_put (q0 := 0) (k9 := 69) tyX12 b (mw_0 cy a (sl S 2 1649317774848)) rfl in_X12 tyX12_ok nmX12 (by decide) wf_X12_461 rfl rfl rfl rfl (Nat.le_of_ble_eq_true rfl) dX12_goes_10 (mwp_0_69 cy a (sl S 2 1649317774848) (-1)) ?_
  refine z_iconst (v := 0) b dX12_goes_13 (by decide) ?_
  refine z_istore (lv' := [(4, .int 0), (0, .ref (a 0)), (1, .int 4), (2, .int p0), (3, .int p1)]) b dX12_goes_14 (by decide) rfl ?_
  refine z_iload b dX12_goes_16 rfl ?_
  refine z_aload_n b dX12_goes_18 rfl rfl ?_
  refine z_get (q0 := 0) (k9 := 66) (v := .ref (a 41)) b (mw_0 cy a (si (sl S 2 1649317774848) 24 (-1))) rfl in_X12 (by decide) wf_X12_140 rfl dX12_goes_19 ?_
  refine z_iload_n b dX12_goes_22 rfl rfl ?_
  refine y_iald (q0 := 41) (j := 4) (v := (ar (si (sl S 2 1649317774848) 24 (-1)) 38 4)) b (mw_41 cy a (si (sl S 2 1649317774848) 24 (-1))) (by decide) rfl dX12_goes_23 ?_
  refine z_eqi h_a_38_4 ?_
  refine z_icmp_ge_t (tgt := 78) b dX12_goes_24 (by decide) (by decide) ?_
  refine z_aload_n b dX12_goes_78 rfl rfl ?_
  refine z_get (q0 := 0) (k9 := 66) (v := .ref (a 41)) b (mw_0 cy a (si (sl S 2 1649317774848) 24 (-1))) rfl in_X12 (by decide) wf_X12_140 rfl dX12_goes_79 ?_
  refine z_iload_n b dX12_goes_82 rfl rfl ?_
  refine y_iald (q0 := 41) (j := 4) (v := (ar (si (sl S 2 1649317774848) 24 (-1)) 38 4)) b (mw_41 cy a (si (sl S 2 1649317774848) 24 (-1))) (by decide) rfl dX12_goes_83 ?_
  refine z_eqi h_a_38_4 ?_
  exact z_iret (u := (si (sl S 2 1649317774848) 24 (-1))) b rfl dX12_goes_84 ⟨rfl, rfl⟩ rfl (by decide) (by decide)

set_option maxHeartbeats 4000000 in
set_option maxRecDepth 100000 in
theorem c_X12_lawful_44 {l : Launch} {D : va_G} {cy : Nat → ClassId} {T0 tB tE : Nat} {a : Nat → Nat} (S : GS) (p0 : Int32) (p1 : Int32) (h_l_0 : fl S 0 = 1649317774848) (h_a_38_4 : ar S 38 4 = 0) (hr_p0 : 1 ≤ p0.toInt ∧ p0.toInt ≤ 3) (hr_p1 : 0 ≤ p1.toInt ∧ p1.toInt ≤ 31) : Ct l D cy T0 tB tE yX12_lawful cX12_lawful 6 (some .int) 2 42 0 0 (mw cy a S) [.ref (a 0), .int 4, .int p0, .int p1, .int 0] (QI D (U := GS) (fun r u => 0 = r ∧ si (sl S 2 1649317774848) 24 (-1) = u) (mw cy a)) := by
  refine Ct.ofZ RX12 "lawful" [(0, .ref (a 0)), (1, .int 4), (2, .int p0), (3, .int p1), (4, .int 0)] rfl rfl rfl rfl (Nat.le_of_ble_eq_true rfl) ?_
  intro p e R s m args below meth c A b
  refine z_iload_n b dX12_lawful_0 rfl rfl ?_
  refine z_calli b (z_runS (As := [.int 4]) (st := []) b (c_X12_isRow_7 S ) cf_X12_isRow wm_X12_452 ws_X12_isRow dX12_lawful_1 rfl (Nat.le_of_ble_eq_true rfl) ⟨by decide, by decide, by decide, by decide⟩) (fun r5184 u5185 h5183 => ?_)
  obtain ⟨rfl, rfl⟩ := h5183
  refine z_if_eq_f (tgt := 36) b dX12_lawful_4 (by decide) (by decide) ?_
  refine z_iload_n b dX12_lawful_7 rfl rfl ?_
  refine z_iconst (v := 1) b dX12_lawful_8 (by decide) ?_
  refine z_iconst (v := 3) b dX12_lawful_9 (by decide) ?_
  refine z_calli b (z_runS (As := [.int p0, .int 1, .int 3]) (st := []) b (c_X12_isIn_51 S p0 ⟨by omega, by omega⟩) cf_X12_isIn wm_X12_1 ws_X12_isIn dX12_lawful_10 rfl (Nat.le_of_ble_eq_true rfl) ⟨by decide, by decide, by decide, by decide⟩) (fun r5187 u5188 h5186 => ?_)
  obtain ⟨rfl, rfl⟩ := h5186
  refine z_if_eq_f (tgt := 36) b dX12_lawful_13 (by decide) (by decide) ?_
  refine z_iload_n b dX12_lawful_16 rfl rfl ?_
  refine z_iconst (v := 0) b dX12_lawful_17 (by decide) ?_
  refine z_bipush (v := 31) b dX12_lawful_18 (by decide) ?_
  refine z_calli b (z_runS (As := [.int p1, .int 0, .int 31]) (st := []) b (c_X12_isIn_54 S p1 ⟨by omega, by omega⟩) cf_X12_isIn wm_X12_1 ws_X12_isIn dX12_lawful_20 rfl (Nat.le_of_ble_eq_true rfl) ⟨by decide, by decide, by decide, by decide⟩) (fun r5190 u5191 h5189 => ?_)
  obtain ⟨rfl, rfl⟩ := h5189
  refine z_if_eq_f (tgt := 36) b dX12_lawful_23 (by decide) (by decide) ?_
  refine z_iload b dX12_lawful_26 rfl ?_
  refine z_iconst (v := 0) b dX12_lawful_28 (by decide) ?_
  refine z_iconst (v := 1) b dX12_lawful_29 (by decide) ?_
  refine z_calli b (z_runS (As := [.int 0, .int 0, .int 1]) (st := []) b (c_X12_isIn_16 S ) cf_X12_isIn wm_X12_1 ws_X12_isIn dX12_lawful_30 rfl (Nat.le_of_ble_eq_true rfl) ⟨by decide, by decide, by decide, by decide⟩) (fun r5193 u5194 h5192 => ?_)
  obtain ⟨rfl, rfl⟩ := h5192
  refine z_if_ne_t (tgt := 38) b dX12_lawful_33 (by decide) (by decide) ?_
  refine z_aload_n b dX12_lawful_38 rfl rfl ?_
  refine z_iload_n b dX12_lawful_39 rfl rfl ?_
  refine z_iload_n b dX12_lawful_40 rfl rfl ?_
  refine z_iload_n b dX12_lawful_41 rfl rfl ?_
  refine z_calli b (z_runV (q0 := 0) (As := [.int 4, .int p0, .int p1]) (st := []) b (c_X12_goes_5 S p0 p1 h_l_0 h_a_38_4 ⟨by omega, by omega⟩ ⟨by omega, by omega⟩) cf_X12_goes (mw_0 cy a S) rfl wm_X12_464 wi_X12_goes ws_X12_goes dX12_lawful_42 rfl (Nat.le_of_ble_eq_true rfl) ⟨by decide, by decide, by decide, by decide⟩) (fun r5196 u5197 h5195 => ?_)
  obtain ⟨rfl, rfl⟩ := h5195
  refine z_istore (lv' := [(5, .int 0), (0, .ref (a 0)), (1, .int 4), (2, .int p0), (3, .int p1), (4, .int 0)]) b dX12_lawful_45 (by decide) rfl ?_
  refine z_iload b dX12_lawful_47 rfl ?_
  refine z_if_ne_f (tgt := 57) b dX12_lawful_49 (by decide) (by decide) ?_
  refine z_iload b dX12_lawful_52 rfl ?_
  refine z_goto (tgt := 61) b dX12_lawful_54 (by decide) ?_
  exact z_iret (u := (si (sl S 2 1649317774848) 24 (-1))) b rfl dX12_lawful_61 ⟨rfl, rfl⟩ rfl (by decide) (by decide)

set_option maxHeartbeats 4000000 in
set_option maxRecDepth 100000 in
theorem c_X11_lawful_45 {l : Launch} {D : va_G} {cy : Nat → ClassId} {T0 tB tE : Nat} {a : Nat → Nat} {rw : Nat → Option Nat} (S : GS) (p0 : Int32) (p1 : Int32) (h_i_14 : fi S 14 = (-1)) (h_i_35 : fi S 35 = 0) (hrw : ∀ i, i < 6 → rw i = some (a (36 + 2 * i))) (hr_p0 : 1 ≤ p0.toInt ∧ p0.toInt ≤ 3) (hr_p1 : 0 ≤ p1.toInt ∧ p1.toInt ≤ 31) : Ct l D cy T0 tB tE yX11_lawful cX11_lawful 6 (some .int) 3 86 0 0 (cw cy tE a rw S) [.ref (a 0), .int 4, .int p0, .int p1, .int 1] (QI D (U := GS) (fun r u => (-1) = r ∧ sa S 8 (va_cpy (ar S 4) (ar S 8) 0 0 51) = u) (cw cy tE a rw)) := by
  refine Ct.ofZ RX11 "lawful" [(0, .ref (a 0)), (1, .int 4), (2, .int p0), (3, .int p1), (4, .int 1)] rfl rfl rfl rfl (Nat.le_of_ble_eq_true rfl) ?_
  intro p e R s m args below meth c A b
  refine z_iload_n b dX11_lawful_0 rfl rfl ?_
  refine z_calli b (z_runS (As := [.int 4]) (st := []) b (c_X11_isRow_7 S ) cf_X11_isRow wm_X11_169 ws_X11_isRow dX11_lawful_1 rfl (Nat.le_of_ble_eq_true rfl) ⟨by decide, by decide, by decide, by decide⟩) (fun r5199 u5200 h5198 => ?_)
  obtain ⟨rfl, rfl⟩ := h5198
  refine z_if_eq_f (tgt := 32) b dX11_lawful_4 (by decide) (by decide) ?_
  refine z_iload_n b dX11_lawful_7 rfl rfl ?_
  refine z_calli b (z_runS (As := [.int p0]) (st := []) b (c_X11_areLaws_3 S p0 ⟨by omega, by omega⟩) cf_X11_areLaws wm_X11_181 ws_X11_areLaws dX11_lawful_8 rfl (Nat.le_of_ble_eq_true rfl) ⟨by decide, by decide, by decide, by decide⟩) (fun r5202 u5203 h5201 => ?_)
  obtain ⟨rfl, rfl⟩ := h5201
  refine z_if_eq_f (tgt := 32) b dX11_lawful_11 (by decide) (by decide) ?_
  refine z_iload_n b dX11_lawful_14 rfl rfl ?_
  refine z_bipush (v := 31) b dX11_lawful_15 (by decide) ?_
  refine z_calli b (z_runS (As := [.int p1, .int 31]) (st := []) b (c_X11_isWithin_25 S p1 ⟨by omega, by omega⟩) cf_X11_isWithin wm_X11_73 ws_X11_isWithin dX11_lawful_17 rfl (Nat.le_of_ble_eq_true rfl) ⟨by decide, by decide, by decide, by decide⟩) (fun r5205 u5206 h5204 => ?_)
  obtain ⟨rfl, rfl⟩ := h5204
  refine z_if_eq_f (tgt := 32) b dX11_lawful_20 (by decide) (by decide) ?_
  refine z_iload b dX11_lawful_23 rfl ?_
  refine z_iconst (v := 1) b dX11_lawful_25 (by decide) ?_
  refine z_calli b (z_runS (As := [.int 1, .int 1]) (st := []) b (c_X11_isWithin_12 S ) cf_X11_isWithin wm_X11_73 ws_X11_isWithin dX11_lawful_26 rfl (Nat.le_of_ble_eq_true rfl) ⟨by decide, by decide, by decide, by decide⟩) (fun r5208 u5209 h5207 => ?_)
  obtain ⟨rfl, rfl⟩ := h5207
  refine z_if_ne_t (tgt := 34) b dX11_lawful_29 (by decide) (by decide) ?_
  refine z_aload_n b dX11_lawful_34 rfl rfl ?_
  refine z_get (q0 := 0) (k9 := 5) (v := .ref (a 16)) b (cw_0 cy tE a rw S) rfl in_X11 (by decide) wf_X11_43 rfl dX11_lawful_35 ?_
  refine z_aload_n b dX11_lawful_38 rfl rfl ?_
  refine z_get (q0 := 0) (k9 := 7) (v := .ref (a 35)) b (cw_0 cy tE a rw S) rfl in_X11 (by decide) wf_X11_58 rfl dX11_lawful_39 ?_
  refine z_iload_n b dX11_lawful_42 rfl rfl ?_
  refine y_aald (q0 := 35) (t0 := 4) (j := 4) (v := .ref (a 44)) b (cw_35 cy tE a rw S) rfl (by decide) (by rw [hrw 4 (by decide)]; rfl) dX11_lawful_43 ?_
  refine z_aload_n b dX11_lawful_44 rfl rfl ?_
  refine z_get (q0 := 0) (k9 := 4) (v := .ref (a 14)) b (cw_0 cy tE a rw S) rfl in_X11 (by decide) wf_X11_34 rfl dX11_lawful_45 ?_
  refine z_iload_n b dX11_lawful_48 rfl rfl ?_
  refine z_iload_n b dX11_lawful_49 rfl rfl ?_
  refine z_calli b (z_runV (q0 := 16) (As := [.ref (a 44), .ref (a 14), .int p0, .int p1]) (st := []) b (c_X2_follow_5 S p0 p1 h_i_14 h_i_35 ⟨by omega, by omega⟩ ⟨by omega, by omega⟩) cf_X2_follow (cw_16 cy tE a rw S) rfl wm_X11_184 wi_X2_follow ws_X2_follow dX11_lawful_50 rfl (Nat.le_of_ble_eq_true rfl) ⟨by decide, by decide, by decide, by decide⟩) (fun r5211 u5212 h5210 => ?_)
  obtain ⟨rfl, rfl⟩ := h5210
  refine z_istore (lv' := [(5, .int 0), (0, .ref (a 0)), (1, .int 4), (2, .int p0), (3, .int p1), (4, .int 1)]) b dX11_lawful_53 (by decide) rfl ?_
  refine z_iload b dX11_lawful_55 rfl ?_
  refine z_if_ne_t (tgt := 65) b dX11_lawful_57 (by decide) (by decide) ?_
  refine z_aload_n b dX11_lawful_65 rfl rfl ?_
  refine z_get (q0 := 0) (k9 := 5) (v := .ref (a 16)) b (cw_0 cy tE a rw (sa S 8 (va_cpy (ar S 4) (ar S 8) 0 0 51))) rfl in_X11 (by decide) wf_X11_43 rfl dX11_lawful_66 ?_
  refine z_get (q0 := 16) (k9 := 4) (v := .int (fi (sa S 8 (va_cpy (ar S 4) (ar S 8) 0 0 51)) 14)) b (cw_16 cy tE a rw (sa S 8 (va_cpy (ar S 4) (ar S 8) 0 0 51))) rfl in_X2 (by decide) wf_X11_188 rfl dX11_lawful_69 ?_
  refine z_eqi h_i_14 ?_
  exact z_iret (u := (sa S 8 (va_cpy (ar S 4) (ar S 8) 0 0 51))) b rfl dX11_lawful_72 ⟨rfl, rfl⟩ rfl (by decide) (by decide)

set_option maxHeartbeats 4000000 in
set_option maxRecDepth 100000 in
theorem c_X12_lawful_45 {l : Launch} {D : va_G} {cy : Nat → ClassId} {T0 tB tE : Nat} {a : Nat → Nat} (S : GS) (p0 : Int32) (p1 : Int32) (h_l_0 : fl S 0 = 1649317774848) (h_a_38_4 : ar S 38 4 = 0) (hr_p0 : 1 ≤ p0.toInt ∧ p0.toInt ≤ 3) (hr_p1 : 0 ≤ p1.toInt ∧ p1.toInt ≤ 31) : Ct l D cy T0 tB tE yX12_lawful cX12_lawful 6 (some .int) 2 42 0 0 (mw cy a S) [.ref (a 0), .int 4, .int p0, .int p1, .int 1] (QI D (U := GS) (fun r u => (-1) = r ∧ si (sl S 2 1649317774848) 24 (-1) = u) (mw cy a)) := by
  refine Ct.ofZ RX12 "lawful" [(0, .ref (a 0)), (1, .int 4), (2, .int p0), (3, .int p1), (4, .int 1)] rfl rfl rfl rfl (Nat.le_of_ble_eq_true rfl) ?_
  intro p e R s m args below meth c A b
  refine z_iload_n b dX12_lawful_0 rfl rfl ?_
  refine z_calli b (z_runS (As := [.int 4]) (st := []) b (c_X12_isRow_7 S ) cf_X12_isRow wm_X12_452 ws_X12_isRow dX12_lawful_1 rfl (Nat.le_of_ble_eq_true rfl) ⟨by decide, by decide, by decide, by decide⟩) (fun r5214 u5215 h5213 => ?_)
  obtain ⟨rfl, rfl⟩ := h5213
  refine z_if_eq_f (tgt := 36) b dX12_lawful_4 (by decide) (by decide) ?_
  refine z_iload_n b dX12_lawful_7 rfl rfl ?_
  refine z_iconst (v := 1) b dX12_lawful_8 (by decide) ?_
  refine z_iconst (v := 3) b dX12_lawful_9 (by decide) ?_
  refine z_calli b (z_runS (As := [.int p0, .int 1, .int 3]) (st := []) b (c_X12_isIn_51 S p0 ⟨by omega, by omega⟩) cf_X12_isIn wm_X12_1 ws_X12_isIn dX12_lawful_10 rfl (Nat.le_of_ble_eq_true rfl) ⟨by decide, by decide, by decide, by decide⟩) (fun r5217 u5218 h5216 => ?_)
  obtain ⟨rfl, rfl⟩ := h5216
  refine z_if_eq_f (tgt := 36) b dX12_lawful_13 (by decide) (by decide) ?_
  refine z_iload_n b dX12_lawful_16 rfl rfl ?_
  refine z_iconst (v := 0) b dX12_lawful_17 (by decide) ?_
  refine z_bipush (v := 31) b dX12_lawful_18 (by decide) ?_
  refine z_calli b (z_runS (As := [.int p1, .int 0, .int 31]) (st := []) b (c_X12_isIn_54 S p1 ⟨by omega, by omega⟩) cf_X12_isIn wm_X12_1 ws_X12_isIn dX12_lawful_20 rfl (Nat.le_of_ble_eq_true rfl) ⟨by decide, by decide, by decide, by decide⟩) (fun r5220 u5221 h5219 => ?_)
  obtain ⟨rfl, rfl⟩ := h5219
  refine z_if_eq_f (tgt := 36) b dX12_lawful_23 (by decide) (by decide) ?_
  refine z_iload b dX12_lawful_26 rfl ?_
  refine z_iconst (v := 0) b dX12_lawful_28 (by decide) ?_
  refine z_iconst (v := 1) b dX12_lawful_29 (by decide) ?_
  refine z_calli b (z_runS (As := [.int 1, .int 0, .int 1]) (st := []) b (c_X12_isIn_17 S ) cf_X12_isIn wm_X12_1 ws_X12_isIn dX12_lawful_30 rfl (Nat.le_of_ble_eq_true rfl) ⟨by decide, by decide, by decide, by decide⟩) (fun r5223 u5224 h5222 => ?_)
  obtain ⟨rfl, rfl⟩ := h5222
  refine z_if_ne_t (tgt := 38) b dX12_lawful_33 (by decide) (by decide) ?_
  refine z_aload_n b dX12_lawful_38 rfl rfl ?_
  refine z_iload_n b dX12_lawful_39 rfl rfl ?_
  refine z_iload_n b dX12_lawful_40 rfl rfl ?_
  refine z_iload_n b dX12_lawful_41 rfl rfl ?_
  refine z_calli b (z_runV (q0 := 0) (As := [.int 4, .int p0, .int p1]) (st := []) b (c_X12_goes_5 S p0 p1 h_l_0 h_a_38_4 ⟨by omega, by omega⟩ ⟨by omega, by omega⟩) cf_X12_goes (mw_0 cy a S) rfl wm_X12_464 wi_X12_goes ws_X12_goes dX12_lawful_42 rfl (Nat.le_of_ble_eq_true rfl) ⟨by decide, by decide, by decide, by decide⟩) (fun r5226 u5227 h5225 => ?_)
  obtain ⟨rfl, rfl⟩ := h5225
  refine z_istore (lv' := [(5, .int 0), (0, .ref (a 0)), (1, .int 4), (2, .int p0), (3, .int p1), (4, .int 1)]) b dX12_lawful_45 (by decide) rfl ?_
  refine z_iload b dX12_lawful_47 rfl ?_
  refine z_if_ne_t (tgt := 57) b dX12_lawful_49 (by decide) (by decide) ?_
  refine z_aload_n b dX12_lawful_57 rfl rfl ?_
  refine z_get (q0 := 0) (k9 := 69) (v := .int (-1)) b (mw_0 cy a (si (sl S 2 1649317774848) 24 (-1))) rfl in_X12 (by decide) wf_X12_461 rfl dX12_lawful_58 ?_
  exact z_iret (u := (si (sl S 2 1649317774848) 24 (-1))) b rfl dX12_lawful_61 ⟨rfl, rfl⟩ rfl (by decide) (by decide)

set_option maxHeartbeats 4000000 in
set_option maxRecDepth 100000 in
theorem c_X11_lawful_46 {l : Launch} {D : va_G} {cy : Nat → ClassId} {T0 tB tE : Nat} {a : Nat → Nat} {rw : Nat → Option Nat} (S : GS) (p0 : Int32) (p1 : Int32) (p2 : Int32)  (hr_p0 : 1 ≤ p0.toInt ∧ p0.toInt ≤ 3) (hr_p1 : 0 ≤ p1.toInt ∧ p1.toInt ≤ 31) (hr_p2 : 2 ≤ p2.toInt ∧ p2.toInt ≤ 2147483647) : Ct l D cy T0 tB tE yX11_lawful cX11_lawful 6 (some .int) 1 21 0 0 (cw cy tE a rw S) [.ref (a 0), .int 4, .int p0, .int p1, .int p2] (QI D (U := GS) (fun r u => (-1) = r ∧ S = u) (cw cy tE a rw)) := by
  refine Ct.ofZ RX11 "lawful" [(0, .ref (a 0)), (1, .int 4), (2, .int p0), (3, .int p1), (4, .int p2)] rfl rfl rfl rfl (Nat.le_of_ble_eq_true rfl) ?_
  intro p e R s m args below meth c A b
  refine z_iload_n b dX11_lawful_0 rfl rfl ?_
  refine z_calli b (z_runS (As := [.int 4]) (st := []) b (c_X11_isRow_7 S ) cf_X11_isRow wm_X11_169 ws_X11_isRow dX11_lawful_1 rfl (Nat.le_of_ble_eq_true rfl) ⟨by decide, by decide, by decide, by decide⟩) (fun r5229 u5230 h5228 => ?_)
  obtain ⟨rfl, rfl⟩ := h5228
  refine z_if_eq_f (tgt := 32) b dX11_lawful_4 (by decide) (by decide) ?_
  refine z_iload_n b dX11_lawful_7 rfl rfl ?_
  refine z_calli b (z_runS (As := [.int p0]) (st := []) b (c_X11_areLaws_3 S p0 ⟨by omega, by omega⟩) cf_X11_areLaws wm_X11_181 ws_X11_areLaws dX11_lawful_8 rfl (Nat.le_of_ble_eq_true rfl) ⟨by decide, by decide, by decide, by decide⟩) (fun r5232 u5233 h5231 => ?_)
  obtain ⟨rfl, rfl⟩ := h5231
  refine z_if_eq_f (tgt := 32) b dX11_lawful_11 (by decide) (by decide) ?_
  refine z_iload_n b dX11_lawful_14 rfl rfl ?_
  refine z_bipush (v := 31) b dX11_lawful_15 (by decide) ?_
  refine z_calli b (z_runS (As := [.int p1, .int 31]) (st := []) b (c_X11_isWithin_25 S p1 ⟨by omega, by omega⟩) cf_X11_isWithin wm_X11_73 ws_X11_isWithin dX11_lawful_17 rfl (Nat.le_of_ble_eq_true rfl) ⟨by decide, by decide, by decide, by decide⟩) (fun r5235 u5236 h5234 => ?_)
  obtain ⟨rfl, rfl⟩ := h5234
  refine z_if_eq_f (tgt := 32) b dX11_lawful_20 (by decide) (by decide) ?_
  refine z_iload b dX11_lawful_23 rfl ?_
  refine z_iconst (v := 1) b dX11_lawful_25 (by decide) ?_
  refine z_calli b (z_runS (As := [.int p2, .int 1]) (st := []) b (c_X11_isWithin_13 S p2 ⟨by omega, by omega⟩) cf_X11_isWithin wm_X11_73 ws_X11_isWithin dX11_lawful_26 rfl (Nat.le_of_ble_eq_true rfl) ⟨by decide, by decide, by decide, by decide⟩) (fun r5238 u5239 h5237 => ?_)
  obtain ⟨rfl, rfl⟩ := h5237
  refine z_if_ne_f (tgt := 34) b dX11_lawful_29 (by decide) (by decide) ?_
  refine z_iconst (v := (-1)) b dX11_lawful_32 (by decide) ?_
  exact z_iret (u := S) b rfl dX11_lawful_33 ⟨rfl, rfl⟩ rfl (by decide) (by decide)

set_option maxHeartbeats 4000000 in
set_option maxRecDepth 100000 in
theorem c_X12_lawful_46 {l : Launch} {D : va_G} {cy : Nat → ClassId} {T0 tB tE : Nat} {a : Nat → Nat} (S : GS) (p0 : Int32) (p1 : Int32) (p2 : Int32)  (hr_p0 : 1 ≤ p0.toInt ∧ p0.toInt ≤ 3) (hr_p1 : 0 ≤ p1.toInt ∧ p1.toInt ≤ 31) (hr_p2 : 2 ≤ p2.toInt ∧ p2.toInt ≤ 2147483647) : Ct l D cy T0 tB tE yX12_lawful cX12_lawful 6 (some .int) 2 42 0 0 (mw cy a S) [.ref (a 0), .int 4, .int p0, .int p1, .int p2] (QI D (U := GS) (fun r u => (-1) = r ∧ S = u) (mw cy a)) := by
  refine Ct.ofZ RX12 "lawful" [(0, .ref (a 0)), (1, .int 4), (2, .int p0), (3, .int p1), (4, .int p2)] rfl rfl rfl rfl (Nat.le_of_ble_eq_true rfl) ?_
  intro p e R s m args below meth c A b
  refine z_iload_n b dX12_lawful_0 rfl rfl ?_
  refine z_calli b (z_runS (As := [.int 4]) (st := []) b (c_X12_isRow_7 S ) cf_X12_isRow wm_X12_452 ws_X12_isRow dX12_lawful_1 rfl (Nat.le_of_ble_eq_true rfl) ⟨by decide, by decide, by decide, by decide⟩) (fun r5241 u5242 h5240 => ?_)
  obtain ⟨rfl, rfl⟩ := h5240
  refine z_if_eq_f (tgt := 36) b dX12_lawful_4 (by decide) (by decide) ?_
  refine z_iload_n b dX12_lawful_7 rfl rfl ?_
  refine z_iconst (v := 1) b dX12_lawful_8 (by decide) ?_
  refine z_iconst (v := 3) b dX12_lawful_9 (by decide) ?_
  refine z_calli b (z_runS (As := [.int p0, .int 1, .int 3]) (st := []) b (c_X12_isIn_51 S p0 ⟨by omega, by omega⟩) cf_X12_isIn wm_X12_1 ws_X12_isIn dX12_lawful_10 rfl (Nat.le_of_ble_eq_true rfl) ⟨by decide, by decide, by decide, by decide⟩) (fun r5244 u5245 h5243 => ?_)
  obtain ⟨rfl, rfl⟩ := h5243
  refine z_if_eq_f (tgt := 36) b dX12_lawful_13 (by decide) (by decide) ?_
  refine z_iload_n b dX12_lawful_16 rfl rfl ?_
  refine z_iconst (v := 0) b dX12_lawful_17 (by decide) ?_
  refine z_bipush (v := 31) b dX12_lawful_18 (by decide) ?_
  refine z_calli b (z_runS (As := [.int p1, .int 0, .int 31]) (st := []) b (c_X12_isIn_54 S p1 ⟨by omega, by omega⟩) cf_X12_isIn wm_X12_1 ws_X12_isIn dX12_lawful_20 rfl (Nat.le_of_ble_eq_true rfl) ⟨by decide, by decide, by decide, by decide⟩) (fun r5247 u5248 h5246 => ?_)
  obtain ⟨rfl, rfl⟩ := h5246
  refine z_if_eq_f (tgt := 36) b dX12_lawful_23 (by decide) (by decide) ?_
  refine z_iload b dX12_lawful_26 rfl ?_
  refine z_iconst (v := 0) b dX12_lawful_28 (by decide) ?_
  refine z_iconst (v := 1) b dX12_lawful_29 (by decide) ?_
  refine z_calli b (z_runS (As := [.int p2, .int 0, .int 1]) (st := []) b (c_X12_isIn_18 S p2 ⟨by omega, by omega⟩) cf_X12_isIn wm_X12_1 ws_X12_isIn dX12_lawful_30 rfl (Nat.le_of_ble_eq_true rfl) ⟨by decide, by decide, by decide, by decide⟩) (fun r5250 u5251 h5249 => ?_)
  obtain ⟨rfl, rfl⟩ := h5249
  refine z_if_ne_f (tgt := 38) b dX12_lawful_33 (by decide) (by decide) ?_
  refine z_iconst (v := (-1)) b dX12_lawful_36 (by decide) ?_
  exact z_iret (u := S) b rfl dX12_lawful_37 ⟨rfl, rfl⟩ rfl (by decide) (by decide)

set_option maxHeartbeats 4000000 in
set_option maxRecDepth 100000 in
theorem c_X11_lawful_47 {l : Launch} {D : va_G} {cy : Nat → ClassId} {T0 tB tE : Nat} {a : Nat → Nat} {rw : Nat → Option Nat} (S : GS) (p0 : Int32) (p1 : Int32) (p2 : Int32)  (hr_p0 : 1 ≤ p0.toInt ∧ p0.toInt ≤ 3) (hr_p1 : 0 ≤ p1.toInt ∧ p1.toInt ≤ 31) (hr_p2 : (-2147483648) ≤ p2.toInt ∧ p2.toInt ≤ (-1)) : Ct l D cy T0 tB tE yX11_lawful cX11_lawful 6 (some .int) 1 21 0 0 (cw cy tE a rw S) [.ref (a 0), .int 5, .int p0, .int p1, .int p2] (QI D (U := GS) (fun r u => (-1) = r ∧ S = u) (cw cy tE a rw)) := by
  refine Ct.ofZ RX11 "lawful" [(0, .ref (a 0)), (1, .int 5), (2, .int p0), (3, .int p1), (4, .int p2)] rfl rfl rfl rfl (Nat.le_of_ble_eq_true rfl) ?_
  intro p e R s m args below meth c A b
  refine z_iload_n b dX11_lawful_0 rfl rfl ?_
  refine z_calli b (z_runS (As := [.int 5]) (st := []) b (c_X11_isRow_8 S ) cf_X11_isRow wm_X11_169 ws_X11_isRow dX11_lawful_1 rfl (Nat.le_of_ble_eq_true rfl) ⟨by decide, by decide, by decide, by decide⟩) (fun r5253 u5254 h5252 => ?_)
  obtain ⟨rfl, rfl⟩ := h5252
  refine z_if_eq_f (tgt := 32) b dX11_lawful_4 (by decide) (by decide) ?_
  refine z_iload_n b dX11_lawful_7 rfl rfl ?_
  refine z_calli b (z_runS (As := [.int p0]) (st := []) b (c_X11_areLaws_3 S p0 ⟨by omega, by omega⟩) cf_X11_areLaws wm_X11_181 ws_X11_areLaws dX11_lawful_8 rfl (Nat.le_of_ble_eq_true rfl) ⟨by decide, by decide, by decide, by decide⟩) (fun r5256 u5257 h5255 => ?_)
  obtain ⟨rfl, rfl⟩ := h5255
  refine z_if_eq_f (tgt := 32) b dX11_lawful_11 (by decide) (by decide) ?_
  refine z_iload_n b dX11_lawful_14 rfl rfl ?_
  refine z_bipush (v := 31) b dX11_lawful_15 (by decide) ?_
  refine z_calli b (z_runS (As := [.int p1, .int 31]) (st := []) b (c_X11_isWithin_25 S p1 ⟨by omega, by omega⟩) cf_X11_isWithin wm_X11_73 ws_X11_isWithin dX11_lawful_17 rfl (Nat.le_of_ble_eq_true rfl) ⟨by decide, by decide, by decide, by decide⟩) (fun r5259 u5260 h5258 => ?_)
  obtain ⟨rfl, rfl⟩ := h5258
  refine z_if_eq_f (tgt := 32) b dX11_lawful_20 (by decide) (by decide) ?_
  refine z_iload b dX11_lawful_23 rfl ?_
  refine z_iconst (v := 1) b dX11_lawful_25 (by decide) ?_
  refine z_calli b (z_runS (As := [.int p2, .int 1]) (st := []) b (c_X11_isWithin_10 S p2 ⟨by omega, by omega⟩) cf_X11_isWithin wm_X11_73 ws_X11_isWithin dX11_lawful_26 rfl (Nat.le_of_ble_eq_true rfl) ⟨by decide, by decide, by decide, by decide⟩) (fun r5262 u5263 h5261 => ?_)
  obtain ⟨rfl, rfl⟩ := h5261
  refine z_if_ne_f (tgt := 34) b dX11_lawful_29 (by decide) (by decide) ?_
  refine z_iconst (v := (-1)) b dX11_lawful_32 (by decide) ?_
  exact z_iret (u := S) b rfl dX11_lawful_33 ⟨rfl, rfl⟩ rfl (by decide) (by decide)

set_option maxHeartbeats 4000000 in
set_option maxRecDepth 100000 in
theorem c_X12_lawful_47 {l : Launch} {D : va_G} {cy : Nat → ClassId} {T0 tB tE : Nat} {a : Nat → Nat} (S : GS) (p0 : Int32) (p1 : Int32) (p2 : Int32)  (hr_p0 : 1 ≤ p0.toInt ∧ p0.toInt ≤ 3) (hr_p1 : 0 ≤ p1.toInt ∧ p1.toInt ≤ 31) (hr_p2 : (-2147483648) ≤ p2.toInt ∧ p2.toInt ≤ (-1)) : Ct l D cy T0 tB tE yX12_lawful cX12_lawful 6 (some .int) 2 42 0 0 (mw cy a S) [.ref (a 0), .int 5, .int p0, .int p1, .int p2] (QI D (U := GS) (fun r u => (-1) = r ∧ S = u) (mw cy a)) := by
  refine Ct.ofZ RX12 "lawful" [(0, .ref (a 0)), (1, .int 5), (2, .int p0), (3, .int p1), (4, .int p2)] rfl rfl rfl rfl (Nat.le_of_ble_eq_true rfl) ?_
  intro p e R s m args below meth c A b
  refine z_iload_n b dX12_lawful_0 rfl rfl ?_
  refine z_calli b (z_runS (As := [.int 5]) (st := []) b (c_X12_isRow_8 S ) cf_X12_isRow wm_X12_452 ws_X12_isRow dX12_lawful_1 rfl (Nat.le_of_ble_eq_true rfl) ⟨by decide, by decide, by decide, by decide⟩) (fun r5265 u5266 h5264 => ?_)
  obtain ⟨rfl, rfl⟩ := h5264
  refine z_if_eq_f (tgt := 36) b dX12_lawful_4 (by decide) (by decide) ?_
  refine z_iload_n b dX12_lawful_7 rfl rfl ?_
  refine z_iconst (v := 1) b dX12_lawful_8 (by decide) ?_
  refine z_iconst (v := 3) b dX12_lawful_9 (by decide) ?_
  refine z_calli b (z_runS (As := [.int p0, .int 1, .int 3]) (st := []) b (c_X12_isIn_51 S p0 ⟨by omega, by omega⟩) cf_X12_isIn wm_X12_1 ws_X12_isIn dX12_lawful_10 rfl (Nat.le_of_ble_eq_true rfl) ⟨by decide, by decide, by decide, by decide⟩) (fun r5268 u5269 h5267 => ?_)
  obtain ⟨rfl, rfl⟩ := h5267
  refine z_if_eq_f (tgt := 36) b dX12_lawful_13 (by decide) (by decide) ?_
  refine z_iload_n b dX12_lawful_16 rfl rfl ?_
  refine z_iconst (v := 0) b dX12_lawful_17 (by decide) ?_
  refine z_bipush (v := 31) b dX12_lawful_18 (by decide) ?_
  refine z_calli b (z_runS (As := [.int p1, .int 0, .int 31]) (st := []) b (c_X12_isIn_54 S p1 ⟨by omega, by omega⟩) cf_X12_isIn wm_X12_1 ws_X12_isIn dX12_lawful_20 rfl (Nat.le_of_ble_eq_true rfl) ⟨by decide, by decide, by decide, by decide⟩) (fun r5271 u5272 h5270 => ?_)
  obtain ⟨rfl, rfl⟩ := h5270
  refine z_if_eq_f (tgt := 36) b dX12_lawful_23 (by decide) (by decide) ?_
  refine z_iload b dX12_lawful_26 rfl ?_
  refine z_iconst (v := 0) b dX12_lawful_28 (by decide) ?_
  refine z_iconst (v := 1) b dX12_lawful_29 (by decide) ?_
  refine z_calli b (z_runS (As := [.int p2, .int 0, .int 1]) (st := []) b (c_X12_isIn_15 S p2 ⟨by omega, by omega⟩) cf_X12_isIn wm_X12_1 ws_X12_isIn dX12_lawful_30 rfl (Nat.le_of_ble_eq_true rfl) ⟨by decide, by decide, by decide, by decide⟩) (fun r5274 u5275 h5273 => ?_)
  obtain ⟨rfl, rfl⟩ := h5273
  refine z_if_ne_f (tgt := 38) b dX12_lawful_33 (by decide) (by decide) ?_
  refine z_iconst (v := (-1)) b dX12_lawful_36 (by decide) ?_
  exact z_iret (u := S) b rfl dX12_lawful_37 ⟨rfl, rfl⟩ rfl (by decide) (by decide)

set_option maxHeartbeats 4000000 in
set_option maxRecDepth 100000 in
theorem c_X2_follow_6 {l : Launch} {D : va_G} {cy : Nat → ClassId} {T0 tB tE : Nat} {a : Nat → Nat} {rw : Nat → Option Nat} (S : GS) (p0 : Int32) (p1 : Int32) (h_i_14 : fi S 14 = (-1)) (h_i_37 : fi S 37 = 0) (hr_p0 : 1 ≤ p0.toInt ∧ p0.toInt ≤ 3) (hr_p1 : 0 ≤ p1.toInt ∧ p1.toInt ≤ 31) : Ct l D cy T0 tB tE yX2_follow cX2_follow 6 (some .int) 2 61 0 0 (cw cy tE a rw S) [.ref (a 16), .ref (a 46), .ref (a 14), .int p0, .int p1] (QI D (U := GS) (fun r u => 0 = r ∧ sa S 8 (va_cpy (ar S 4) (ar S 8) 0 0 51) = u) (cw cy tE a rw)) := by
  refine Ct.ofZ RX2 "follow" [(0, .ref (a 16)), (1, .ref (a 46)), (2, .ref (a 14)), (3, .int p0), (4, .int p1)] rfl rfl rfl rfl (Nat.le_of_ble_eq_true rfl) ?_
  intro p e R s m args below meth c A b
  refine z_aload_n b dX2_follow_0 rfl rfl ?_
  refine z_get (q0 := 16) (k9 := 3) (v := .ref (a 23)) b (cw_16 cy tE a rw S) rfl in_X2 (by decide) wf_X2_25 rfl dX2_follow_1 ?_
  refine z_aload_n b dX2_follow_4 rfl rfl ?_
  refine z_callv b (z_runV (q0 := 23) (As := [.ref (a 14)]) (st := []) b (c_X9_copy S ) cf_X9_copy (cw_23 cy tE a rw S) rfl wm_X2_80 wi_X9_copy ws_X9_copy dX2_follow_5 rfl (Nat.le_of_ble_eq_true rfl) ⟨by decide, by decide, by decide, by decide⟩) (fun u5290 h5288 => ?_)
  obtain rfl := h5288
  refine z_aload_n b dX2_follow_8 rfl rfl ?_
  refine z_iconst (v := (-1)) b dX2_follow_9 (by decide) ?_
  refine z_put (q0 := 16) (k9 := 4) tyX2 b (cw_16 cy tE a rw (sa S 8 (va_cpy (ar S 4) (ar S 8) 0 0 51))) rfl in_X2 tyX2_ok nmX2 (by decide) wf_X2_28 rfl rfl rfl rfl (Nat.le_of_ble_eq_true rfl) dX2_follow_10 ((cwp_16_4 cy tE a rw (sa S 8 (va_cpy (ar S 4) (ar S 8) 0 0 51)) (-1)).trans (congrArg (cw cy tE a rw) (si_same h_i_14))) ?_
  refine z_iconst (v := 0) b dX2_follow_13 (by decide) ?_
  refine z_istore (lv' := [(5, .int 0), (0, .ref (a 16)), (1, .ref (a 46)), (2, .ref (a 14)), (3, .int p0), (4, .int p1)]) b dX2_follow_14 (by decide) rfl ?_
  refine z_iload b dX2_follow_16 rfl ?_
  refine z_aload_n b dX2_follow_18 rfl rfl ?_
  refine z_get (q0 := 46) (k9 := 1) (v := .int (fi (sa S 8 (va_cpy (ar S 4) (ar S 8) 0 0 51)) 37)) b (cw_46 cy tE a rw (sa S 8 (va_cpy (ar S 4) (ar S 8) 0 0 51))) rfl in_X7 (by decide) wf_X2_108 rfl dX2_follow_19 ?_
  refine z_eqi h_i_37 ?_
  refine z_icmp_ge_t (tgt := 74) b dX2_follow_22 (by decide) (by decide) ?_
  refine z_aload_n b dX2_follow_74 rfl rfl ?_
  refine z_get (q0 := 46) (k9 := 1) (v := .int (fi (sa S 8 (va_cpy (ar S 4) (ar S 8) 0 0 51)) 37)) b (cw_46 cy tE a rw (sa S 8 (va_cpy (ar S 4) (ar S 8) 0 0 51))) rfl in_X7 (by decide) wf_X2_108 rfl dX2_follow_75 ?_
  refine z_eqi h_i_37 ?_
  exact z_iret (u := (sa S 8 (va_cpy (ar S 4) (ar S 8) 0 0 51))) b rfl dX2_follow_78 ⟨rfl, rfl⟩ rfl (by decide) (by decide)

set_option maxHeartbeats 4000000 in
set_option maxRecDepth 100000 in
theorem c_X11_lawful_48 {l : Launch} {D : va_G} {cy : Nat → ClassId} {T0 tB tE : Nat} {a : Nat → Nat} {rw : Nat → Option Nat} (S : GS) (p0 : Int32) (p1 : Int32) (h_i_14 : fi S 14 = (-1)) (h_i_37 : fi S 37 = 0) (hrw : ∀ i, i < 6 → rw i = some (a (36 + 2 * i))) (hr_p0 : 1 ≤ p0.toInt ∧ p0.toInt ≤ 3) (hr_p1 : 0 ≤ p1.toInt ∧ p1.toInt ≤ 31) : Ct l D cy T0 tB tE yX11_lawful cX11_lawful 6 (some .int) 3 86 0 0 (cw cy tE a rw S) [.ref (a 0), .int 5, .int p0, .int p1, .int 0] (QI D (U := GS) (fun r u => 0 = r ∧ sa S 8 (va_cpy (ar S 4) (ar S 8) 0 0 51) = u) (cw cy tE a rw)) := by
  refine Ct.ofZ RX11 "lawful" [(0, .ref (a 0)), (1, .int 5), (2, .int p0), (3, .int p1), (4, .int 0)] rfl rfl rfl rfl (Nat.le_of_ble_eq_true rfl) ?_
  intro p e R s m args below meth c A b
  refine z_iload_n b dX11_lawful_0 rfl rfl ?_
  refine z_calli b (z_runS (As := [.int 5]) (st := []) b (c_X11_isRow_8 S ) cf_X11_isRow wm_X11_169 ws_X11_isRow dX11_lawful_1 rfl (Nat.le_of_ble_eq_true rfl) ⟨by decide, by decide, by decide, by decide⟩) (fun r5277 u5278 h5276 => ?_)
  obtain ⟨rfl, rfl⟩ := h5276
  refine z_if_eq_f (tgt := 32) b dX11_lawful_4 (by decide) (by decide) ?_
  refine z_iload_n b dX11_lawful_7 rfl rfl ?_
  refine z_calli b (z_runS (As := [.int p0]) (st := []) b (c_X11_areLaws_3 S p0 ⟨by omega, by omega⟩) cf_X11_areLaws wm_X11_181 ws_X11_areLaws dX11_lawful_8 rfl (Nat.le_of_ble_eq_true rfl) ⟨by decide, by decide, by decide, by decide⟩) (fun r5280 u5281 h5279 => ?_)
  obtain ⟨rfl, rfl⟩ := h5279
  refine z_if_eq_f (tgt := 32) b dX11_lawful_11 (by decide) (by decide) ?_
  refine z_iload_n b dX11_lawful_14 rfl rfl ?_
  refine z_bipush (v := 31) b dX11_lawful_15 (by decide) ?_
  refine z_calli b (z_runS (As := [.int p1, .int 31]) (st := []) b (c_X11_isWithin_25 S p1 ⟨by omega, by omega⟩) cf_X11_isWithin wm_X11_73 ws_X11_isWithin dX11_lawful_17 rfl (Nat.le_of_ble_eq_true rfl) ⟨by decide, by decide, by decide, by decide⟩) (fun r5283 u5284 h5282 => ?_)
  obtain ⟨rfl, rfl⟩ := h5282
  refine z_if_eq_f (tgt := 32) b dX11_lawful_20 (by decide) (by decide) ?_
  refine z_iload b dX11_lawful_23 rfl ?_
  refine z_iconst (v := 1) b dX11_lawful_25 (by decide) ?_
  refine z_calli b (z_runS (As := [.int 0, .int 1]) (st := []) b (c_X11_isWithin_11 S ) cf_X11_isWithin wm_X11_73 ws_X11_isWithin dX11_lawful_26 rfl (Nat.le_of_ble_eq_true rfl) ⟨by decide, by decide, by decide, by decide⟩) (fun r5286 u5287 h5285 => ?_)
  obtain ⟨rfl, rfl⟩ := h5285
  refine z_if_ne_t (tgt := 34) b dX11_lawful_29 (by decide) (by decide) ?_
  refine z_aload_n b dX11_lawful_34 rfl rfl ?_
  refine z_get (q0 := 0) (k9 := 5) (v := .ref (a 16)) b (cw_0 cy tE a rw S) rfl in_X11 (by decide) wf_X11_43 rfl dX11_lawful_35 ?_
  refine z_aload_n b dX11_lawful_38 rfl rfl ?_
  refine z_get (q0 := 0) (k9 := 7) (v := .ref (a 35)) b (cw_0 cy tE a rw S) rfl in_X11 (by decide) wf_X11_58 rfl dX11_lawful_39 ?_
  refine z_iload_n b dX11_lawful_42 rfl rfl ?_
  refine y_aald (q0 := 35) (t0 := 4) (j := 5) (v := .ref (a 46)) b (cw_35 cy tE a rw S) rfl (by decide) (by rw [hrw 5 (by decide)]; rfl) dX11_lawful_43 ?_
  refine z_aload_n b dX11_lawful_44 rfl rfl ?_
  refine z_get (q0 := 0) (k9 := 4) (v := .ref (a 14)) b (cw_0 cy tE a rw S) rfl in_X11 (by decide) wf_X11_34 rfl dX11_lawful_45 ?_
  refine z_iload_n b dX11_lawful_48 rfl rfl ?_
  refine z_iload_n b dX11_lawful_49 rfl rfl ?_
  refine z_calli b (z_runV (q0 := 16) (As := [.ref (a 46), .ref (a 14), .int p0, .int p1]) (st := []) b (c_X2_follow_6 S p0 p1 h_i_14 h_i_37 ⟨by omega, by omega⟩ ⟨by omega, by omega⟩) cf_X2_follow (cw_16 cy tE a rw S) rfl wm_X11_184 wi_X2_follow ws_X2_follow dX11_lawful_50 rfl (Nat.le_of_ble_eq_true rfl) ⟨by decide, by decide, by decide, by decide⟩) (fun r5292 u5293 h5291 => ?_)
  obtain ⟨rfl, rfl⟩ := h5291
  refine z_istore (lv' := [(5, .int 0), (0, .ref (a 0)), (1, .int 5), (2, .int p0), (3, .int p1), (4, .int 0)]) b dX11_lawful_53 (by decide) rfl ?_
  refine z_iload b dX11_lawful_55 rfl ?_
  refine z_if_ne_f (tgt := 65) b dX11_lawful_57 (by decide) (by decide) ?_
  refine z_iload b dX11_lawful_60 rfl ?_
  refine z_goto (tgt := 72) b dX11_lawful_62 (by decide) ?_
  exact z_iret (u := (sa S 8 (va_cpy (ar S 4) (ar S 8) 0 0 51))) b rfl dX11_lawful_72 ⟨rfl, rfl⟩ rfl (by decide) (by decide)

set_option maxHeartbeats 4000000 in
set_option maxRecDepth 100000 in
theorem c_X12_goes_6 {l : Launch} {D : va_G} {cy : Nat → ClassId} {T0 tB tE : Nat} {a : Nat → Nat} (S : GS) (p0 : Int32) (p1 : Int32) (h_l_0 : fl S 0 = 1649317774848) (h_a_38_5 : ar S 38 5 = 0) (hr_p0 : 1 ≤ p0.toInt ∧ p0.toInt ≤ 3) (hr_p1 : 0 ≤ p1.toInt ∧ p1.toInt ≤ 31) : Ct l D cy T0 tB tE yX12_goes cX12_goes 5 (some .int) 0 0 0 0 (mw cy a S) [.ref (a 0), .int 5, .int p0, .int p1] (QI D (U := GS) (fun r u => 0 = r ∧ si (sl S 2 1649317774848) 24 (-1) = u) (mw cy a)) := by
  refine Ct.ofZ RX12 "goes" [(0, .ref (a 0)), (1, .int 5), (2, .int p0), (3, .int p1)] rfl rfl rfl rfl (Nat.le_of_ble_eq_true rfl) ?_
  intro p e R s m args below meth c A b
  refine z_aload_n b dX12_goes_0 rfl rfl ?_
  refine z_aload_n b dX12_goes_1 rfl rfl ?_
  refine z_get (q0 := 0) (k9 := 6) (v := .long (fl S 0)) b (mw_0 cy a S) rfl in_X12 (by decide) wf_X12_153 rfl dX12_goes_2 ?_
  refine z_eql h_l_0 ?_
  refine z_put (q0 := 0) (k9 := 68) tyX12 b (mw_0 cy a S) rfl in_X12 tyX12_ok nmX12 (by decide) wf_X12_458 rfl rfl rfl rfl (Nat.le_of_ble_eq_true rfl) dX12_goes_5 (mwp_0_68 cy a S 1649317774848) ?_
  refine z_aload_n b dX12_goes_8 rfl rfl ?_
  refine z_iconst (v := (-1)) b dX12_goes_9 (by decide) ?_
  refine z_put (q0 := 0) (k9 := 69) tyX12 b (mw_0 cy a (sl S 2 1649317774848)) rfl in_X12 tyX12_ok nmX12 (by decide) wf_X12_461 rfl rfl rfl rfl (Nat.le_of_ble_eq_true rfl) dX12_goes_10 (mwp_0_69 cy a (sl S 2 1649317774848) (-1)) ?_
  refine z_iconst (v := 0) b dX12_goes_13 (by decide) ?_
  refine z_istore (lv' := [(4, .int 0), (0, .ref (a 0)), (1, .int 5), (2, .int p0), (3, .int p1)]) b dX12_goes_14 (by decide) rfl ?_
  refine z_iload b dX12_goes_16 rfl ?_
  refine z_aload_n b dX12_goes_18 rfl rfl ?_
  refine z_get (q0 := 0) (k9 := 66) (v := .ref (a 41)) b (mw_0 cy a (si (sl S 2 1649317774848) 24 (-1))) rfl in_X12 (by decide) wf_X12_140 rfl dX12_goes_19 ?_
  refine z_iload_n b dX12_goes_22 rfl rfl ?_
  refine y_iald (q0 := 41) (j := 5) (v := (ar (si (sl S 2 1649317774848) 24 (-1)) 38 5)) b (mw_41 cy a (si (sl S 2 1649317774848) 24 (-1))) (by decide) rfl dX12_goes_23 ?_
  refine z_eqi h_a_38_5 ?_
  refine z_icmp_ge_t (tgt := 78) b dX12_goes_24 (by decide) (by decide) ?_
  refine z_aload_n b dX12_goes_78 rfl rfl ?_
  refine z_get (q0 := 0) (k9 := 66) (v := .ref (a 41)) b (mw_0 cy a (si (sl S 2 1649317774848) 24 (-1))) rfl in_X12 (by decide) wf_X12_140 rfl dX12_goes_79 ?_
  refine z_iload_n b dX12_goes_82 rfl rfl ?_
  refine y_iald (q0 := 41) (j := 5) (v := (ar (si (sl S 2 1649317774848) 24 (-1)) 38 5)) b (mw_41 cy a (si (sl S 2 1649317774848) 24 (-1))) (by decide) rfl dX12_goes_83 ?_
  refine z_eqi h_a_38_5 ?_
  exact z_iret (u := (si (sl S 2 1649317774848) 24 (-1))) b rfl dX12_goes_84 ⟨rfl, rfl⟩ rfl (by decide) (by decide)

set_option maxHeartbeats 4000000 in
set_option maxRecDepth 100000 in
theorem c_X12_lawful_48 {l : Launch} {D : va_G} {cy : Nat → ClassId} {T0 tB tE : Nat} {a : Nat → Nat} (S : GS) (p0 : Int32) (p1 : Int32) (h_l_0 : fl S 0 = 1649317774848) (h_a_38_5 : ar S 38 5 = 0) (hr_p0 : 1 ≤ p0.toInt ∧ p0.toInt ≤ 3) (hr_p1 : 0 ≤ p1.toInt ∧ p1.toInt ≤ 31) : Ct l D cy T0 tB tE yX12_lawful cX12_lawful 6 (some .int) 2 42 0 0 (mw cy a S) [.ref (a 0), .int 5, .int p0, .int p1, .int 0] (QI D (U := GS) (fun r u => 0 = r ∧ si (sl S 2 1649317774848) 24 (-1) = u) (mw cy a)) := by
  refine Ct.ofZ RX12 "lawful" [(0, .ref (a 0)), (1, .int 5), (2, .int p0), (3, .int p1), (4, .int 0)] rfl rfl rfl rfl (Nat.le_of_ble_eq_true rfl) ?_
  intro p e R s m args below meth c A b
  refine z_iload_n b dX12_lawful_0 rfl rfl ?_
  refine z_calli b (z_runS (As := [.int 5]) (st := []) b (c_X12_isRow_8 S ) cf_X12_isRow wm_X12_452 ws_X12_isRow dX12_lawful_1 rfl (Nat.le_of_ble_eq_true rfl) ⟨by decide, by decide, by decide, by decide⟩) (fun r5295 u5296 h5294 => ?_)
  obtain ⟨rfl, rfl⟩ := h5294
  refine z_if_eq_f (tgt := 36) b dX12_lawful_4 (by decide) (by decide) ?_
  refine z_iload_n b dX12_lawful_7 rfl rfl ?_
  refine z_iconst (v := 1) b dX12_lawful_8 (by decide) ?_
  refine z_iconst (v := 3) b dX12_lawful_9 (by decide) ?_
  refine z_calli b (z_runS (As := [.int p0, .int 1, .int 3]) (st := []) b (c_X12_isIn_51 S p0 ⟨by omega, by omega⟩) cf_X12_isIn wm_X12_1 ws_X12_isIn dX12_lawful_10 rfl (Nat.le_of_ble_eq_true rfl) ⟨by decide, by decide, by decide, by decide⟩) (fun r5298 u5299 h5297 => ?_)
  obtain ⟨rfl, rfl⟩ := h5297
  refine z_if_eq_f (tgt := 36) b dX12_lawful_13 (by decide) (by decide) ?_
  refine z_iload_n b dX12_lawful_16 rfl rfl ?_
  refine z_iconst (v := 0) b dX12_lawful_17 (by decide) ?_
  refine z_bipush (v := 31) b dX12_lawful_18 (by decide) ?_
  refine z_calli b (z_runS (As := [.int p1, .int 0, .int 31]) (st := []) b (c_X12_isIn_54 S p1 ⟨by omega, by omega⟩) cf_X12_isIn wm_X12_1 ws_X12_isIn dX12_lawful_20 rfl (Nat.le_of_ble_eq_true rfl) ⟨by decide, by decide, by decide, by decide⟩) (fun r5301 u5302 h5300 => ?_)
  obtain ⟨rfl, rfl⟩ := h5300
  refine z_if_eq_f (tgt := 36) b dX12_lawful_23 (by decide) (by decide) ?_
  refine z_iload b dX12_lawful_26 rfl ?_
  refine z_iconst (v := 0) b dX12_lawful_28 (by decide) ?_
  refine z_iconst (v := 1) b dX12_lawful_29 (by decide) ?_
  refine z_calli b (z_runS (As := [.int 0, .int 0, .int 1]) (st := []) b (c_X12_isIn_16 S ) cf_X12_isIn wm_X12_1 ws_X12_isIn dX12_lawful_30 rfl (Nat.le_of_ble_eq_true rfl) ⟨by decide, by decide, by decide, by decide⟩) (fun r5304 u5305 h5303 => ?_)
  obtain ⟨rfl, rfl⟩ := h5303
  refine z_if_ne_t (tgt := 38) b dX12_lawful_33 (by decide) (by decide) ?_
  refine z_aload_n b dX12_lawful_38 rfl rfl ?_
  refine z_iload_n b dX12_lawful_39 rfl rfl ?_
  refine z_iload_n b dX12_lawful_40 rfl rfl ?_
  refine z_iload_n b dX12_lawful_41 rfl rfl ?_
  refine z_calli b (z_runV (q0 := 0) (As := [.int 5, .int p0, .int p1]) (st := []) b (c_X12_goes_6 S p0 p1 h_l_0 h_a_38_5 ⟨by omega, by omega⟩ ⟨by omega, by omega⟩) cf_X12_goes (mw_0 cy a S) rfl wm_X12_464 wi_X12_goes ws_X12_goes dX12_lawful_42 rfl (Nat.le_of_ble_eq_true rfl) ⟨by decide, by decide, by decide, by decide⟩) (fun r5307 u5308 h5306 => ?_)
  obtain ⟨rfl, rfl⟩ := h5306
  refine z_istore (lv' := [(5, .int 0), (0, .ref (a 0)), (1, .int 5), (2, .int p0), (3, .int p1), (4, .int 0)]) b dX12_lawful_45 (by decide) rfl ?_
  refine z_iload b dX12_lawful_47 rfl ?_
  refine z_if_ne_f (tgt := 57) b dX12_lawful_49 (by decide) (by decide) ?_
  refine z_iload b dX12_lawful_52 rfl ?_
  refine z_goto (tgt := 61) b dX12_lawful_54 (by decide) ?_
  exact z_iret (u := (si (sl S 2 1649317774848) 24 (-1))) b rfl dX12_lawful_61 ⟨rfl, rfl⟩ rfl (by decide) (by decide)

set_option maxHeartbeats 4000000 in
set_option maxRecDepth 100000 in
theorem c_X11_lawful_49 {l : Launch} {D : va_G} {cy : Nat → ClassId} {T0 tB tE : Nat} {a : Nat → Nat} {rw : Nat → Option Nat} (S : GS) (p0 : Int32) (p1 : Int32) (h_i_14 : fi S 14 = (-1)) (h_i_37 : fi S 37 = 0) (hrw : ∀ i, i < 6 → rw i = some (a (36 + 2 * i))) (hr_p0 : 1 ≤ p0.toInt ∧ p0.toInt ≤ 3) (hr_p1 : 0 ≤ p1.toInt ∧ p1.toInt ≤ 31) : Ct l D cy T0 tB tE yX11_lawful cX11_lawful 6 (some .int) 3 86 0 0 (cw cy tE a rw S) [.ref (a 0), .int 5, .int p0, .int p1, .int 1] (QI D (U := GS) (fun r u => (-1) = r ∧ sa S 8 (va_cpy (ar S 4) (ar S 8) 0 0 51) = u) (cw cy tE a rw)) := by
  refine Ct.ofZ RX11 "lawful" [(0, .ref (a 0)), (1, .int 5), (2, .int p0), (3, .int p1), (4, .int 1)] rfl rfl rfl rfl (Nat.le_of_ble_eq_true rfl) ?_
  intro p e R s m args below meth c A b
  refine z_iload_n b dX11_lawful_0 rfl rfl ?_
  refine z_calli b (z_runS (As := [.int 5]) (st := []) b (c_X11_isRow_8 S ) cf_X11_isRow wm_X11_169 ws_X11_isRow dX11_lawful_1 rfl (Nat.le_of_ble_eq_true rfl) ⟨by decide, by decide, by decide, by decide⟩) (fun r5310 u5311 h5309 => ?_)
  obtain ⟨rfl, rfl⟩ := h5309
  refine z_if_eq_f (tgt := 32) b dX11_lawful_4 (by decide) (by decide) ?_
  refine z_iload_n b dX11_lawful_7 rfl rfl ?_
  refine z_calli b (z_runS (As := [.int p0]) (st := []) b (c_X11_areLaws_3 S p0 ⟨by omega, by omega⟩) cf_X11_areLaws wm_X11_181 ws_X11_areLaws dX11_lawful_8 rfl (Nat.le_of_ble_eq_true rfl) ⟨by decide, by decide, by decide, by decide⟩) (fun r5313 u5314 h5312 => ?_)
  obtain ⟨rfl, rfl⟩ := h5312
  refine z_if_eq_f (tgt := 32) b dX11_lawful_11 (by decide) (by decide) ?_
  refine z_iload_n b dX11_lawful_14 rfl rfl ?_
  refine z_bipush (v := 31) b dX11_lawful_15 (by decide) ?_
  refine z_calli b (z_runS (As := [.int p1, .int 31]) (st := []) b (c_X11_isWithin_25 S p1 ⟨by omega, by omega⟩) cf_X11_isWithin wm_X11_73 ws_X11_isWithin dX11_lawful_17 rfl (Nat.le_of_ble_eq_true rfl) ⟨by decide, by decide, by decide, by decide⟩) (fun r5316 u5317 h5315 => ?_)
  obtain ⟨rfl, rfl⟩ := h5315
  refine z_if_eq_f (tgt := 32) b dX11_lawful_20 (by decide) (by decide) ?_
  refine z_iload b dX11_lawful_23 rfl ?_
  refine z_iconst (v := 1) b dX11_lawful_25 (by decide) ?_
  refine z_calli b (z_runS (As := [.int 1, .int 1]) (st := []) b (c_X11_isWithin_12 S ) cf_X11_isWithin wm_X11_73 ws_X11_isWithin dX11_lawful_26 rfl (Nat.le_of_ble_eq_true rfl) ⟨by decide, by decide, by decide, by decide⟩) (fun r5319 u5320 h5318 => ?_)
  obtain ⟨rfl, rfl⟩ := h5318
  refine z_if_ne_t (tgt := 34) b dX11_lawful_29 (by decide) (by decide) ?_
  refine z_aload_n b dX11_lawful_34 rfl rfl ?_
  refine z_get (q0 := 0) (k9 := 5) (v := .ref (a 16)) b (cw_0 cy tE a rw S) rfl in_X11 (by decide) wf_X11_43 rfl dX11_lawful_35 ?_
  refine z_aload_n b dX11_lawful_38 rfl rfl ?_
  refine z_get (q0 := 0) (k9 := 7) (v := .ref (a 35)) b (cw_0 cy tE a rw S) rfl in_X11 (by decide) wf_X11_58 rfl dX11_lawful_39 ?_
  refine z_iload_n b dX11_lawful_42 rfl rfl ?_
  refine y_aald (q0 := 35) (t0 := 4) (j := 5) (v := .ref (a 46)) b (cw_35 cy tE a rw S) rfl (by decide) (by rw [hrw 5 (by decide)]; rfl) dX11_lawful_43 ?_
  refine z_aload_n b dX11_lawful_44 rfl rfl ?_
  refine z_get (q0 := 0) (k9 := 4) (v := .ref (a 14)) b (cw_0 cy tE a rw S) rfl in_X11 (by decide) wf_X11_34 rfl dX11_lawful_45 ?_
  refine z_iload_n b dX11_lawful_48 rfl rfl ?_
  refine z_iload_n b dX11_lawful_49 rfl rfl ?_
  refine z_calli b (z_runV (q0 := 16) (As := [.ref (a 46), .ref (a 14), .int p0, .int p1]) (st := []) b (c_X2_follow_6 S p0 p1 h_i_14 h_i_37 ⟨by omega, by omega⟩ ⟨by omega, by omega⟩) cf_X2_follow (cw_16 cy tE a rw S) rfl wm_X11_184 wi_X2_follow ws_X2_follow dX11_lawful_50 rfl (Nat.le_of_ble_eq_true rfl) ⟨by decide, by decide, by decide, by decide⟩) (fun r5322 u5323 h5321 => ?_)
  obtain ⟨rfl, rfl⟩ := h5321
  refine z_istore (lv' := [(5, .int 0), (0, .ref (a 0)), (1, .int 5), (2, .int p0), (3, .int p1), (4, .int 1)]) b dX11_lawful_53 (by decide) rfl ?_
  refine z_iload b dX11_lawful_55 rfl ?_
  refine z_if_ne_t (tgt := 65) b dX11_lawful_57 (by decide) (by decide) ?_
  refine z_aload_n b dX11_lawful_65 rfl rfl ?_
  refine z_get (q0 := 0) (k9 := 5) (v := .ref (a 16)) b (cw_0 cy tE a rw (sa S 8 (va_cpy (ar S 4) (ar S 8) 0 0 51))) rfl in_X11 (by decide) wf_X11_43 rfl dX11_lawful_66 ?_
  refine z_get (q0 := 16) (k9 := 4) (v := .int (fi (sa S 8 (va_cpy (ar S 4) (ar S 8) 0 0 51)) 14)) b (cw_16 cy tE a rw (sa S 8 (va_cpy (ar S 4) (ar S 8) 0 0 51))) rfl in_X2 (by decide) wf_X11_188 rfl dX11_lawful_69 ?_
  refine z_eqi h_i_14 ?_
  exact z_iret (u := (sa S 8 (va_cpy (ar S 4) (ar S 8) 0 0 51))) b rfl dX11_lawful_72 ⟨rfl, rfl⟩ rfl (by decide) (by decide)

set_option maxHeartbeats 4000000 in
set_option maxRecDepth 100000 in
theorem c_X12_lawful_49 {l : Launch} {D : va_G} {cy : Nat → ClassId} {T0 tB tE : Nat} {a : Nat → Nat} (S : GS) (p0 : Int32) (p1 : Int32) (h_l_0 : fl S 0 = 1649317774848) (h_a_38_5 : ar S 38 5 = 0) (hr_p0 : 1 ≤ p0.toInt ∧ p0.toInt ≤ 3) (hr_p1 : 0 ≤ p1.toInt ∧ p1.toInt ≤ 31) : Ct l D cy T0 tB tE yX12_lawful cX12_lawful 6 (some .int) 2 42 0 0 (mw cy a S) [.ref (a 0), .int 5, .int p0, .int p1, .int 1] (QI D (U := GS) (fun r u => (-1) = r ∧ si (sl S 2 1649317774848) 24 (-1) = u) (mw cy a)) := by
  refine Ct.ofZ RX12 "lawful" [(0, .ref (a 0)), (1, .int 5), (2, .int p0), (3, .int p1), (4, .int 1)] rfl rfl rfl rfl (Nat.le_of_ble_eq_true rfl) ?_
  intro p e R s m args below meth c A b
  refine z_iload_n b dX12_lawful_0 rfl rfl ?_
  refine z_calli b (z_runS (As := [.int 5]) (st := []) b (c_X12_isRow_8 S ) cf_X12_isRow wm_X12_452 ws_X12_isRow dX12_lawful_1 rfl (Nat.le_of_ble_eq_true rfl) ⟨by decide, by decide, by decide, by decide⟩) (fun r5325 u5326 h5324 => ?_)
  obtain ⟨rfl, rfl⟩ := h5324
  refine z_if_eq_f (tgt := 36) b dX12_lawful_4 (by decide) (by decide) ?_
  refine z_iload_n b dX12_lawful_7 rfl rfl ?_
  refine z_iconst (v := 1) b dX12_lawful_8 (by decide) ?_
  refine z_iconst (v := 3) b dX12_lawful_9 (by decide) ?_
  refine z_calli b (z_runS (As := [.int p0, .int 1, .int 3]) (st := []) b (c_X12_isIn_51 S p0 ⟨by omega, by omega⟩) cf_X12_isIn wm_X12_1 ws_X12_isIn dX12_lawful_10 rfl (Nat.le_of_ble_eq_true rfl) ⟨by decide, by decide, by decide, by decide⟩) (fun r5328 u5329 h5327 => ?_)
  obtain ⟨rfl, rfl⟩ := h5327
  refine z_if_eq_f (tgt := 36) b dX12_lawful_13 (by decide) (by decide) ?_
  refine z_iload_n b dX12_lawful_16 rfl rfl ?_
  refine z_iconst (v := 0) b dX12_lawful_17 (by decide) ?_
  refine z_bipush (v := 31) b dX12_lawful_18 (by decide) ?_
  refine z_calli b (z_runS (As := [.int p1, .int 0, .int 31]) (st := []) b (c_X12_isIn_54 S p1 ⟨by omega, by omega⟩) cf_X12_isIn wm_X12_1 ws_X12_isIn dX12_lawful_20 rfl (Nat.le_of_ble_eq_true rfl) ⟨by decide, by decide, by decide, by decide⟩) (fun r5331 u5332 h5330 => ?_)
  obtain ⟨rfl, rfl⟩ := h5330
  refine z_if_eq_f (tgt := 36) b dX12_lawful_23 (by decide) (by decide) ?_
  refine z_iload b dX12_lawful_26 rfl ?_
  refine z_iconst (v := 0) b dX12_lawful_28 (by decide) ?_
  refine z_iconst (v := 1) b dX12_lawful_29 (by decide) ?_
  refine z_calli b (z_runS (As := [.int 1, .int 0, .int 1]) (st := []) b (c_X12_isIn_17 S ) cf_X12_isIn wm_X12_1 ws_X12_isIn dX12_lawful_30 rfl (Nat.le_of_ble_eq_true rfl) ⟨by decide, by decide, by decide, by decide⟩) (fun r5334 u5335 h5333 => ?_)
  obtain ⟨rfl, rfl⟩ := h5333
  refine z_if_ne_t (tgt := 38) b dX12_lawful_33 (by decide) (by decide) ?_
  refine z_aload_n b dX12_lawful_38 rfl rfl ?_
  refine z_iload_n b dX12_lawful_39 rfl rfl ?_
  refine z_iload_n b dX12_lawful_40 rfl rfl ?_
  refine z_iload_n b dX12_lawful_41 rfl rfl ?_
  refine z_calli b (z_runV (q0 := 0) (As := [.int 5, .int p0, .int p1]) (st := []) b (c_X12_goes_6 S p0 p1 h_l_0 h_a_38_5 ⟨by omega, by omega⟩ ⟨by omega, by omega⟩) cf_X12_goes (mw_0 cy a S) rfl wm_X12_464 wi_X12_goes ws_X12_goes dX12_lawful_42 rfl (Nat.le_of_ble_eq_true rfl) ⟨by decide, by decide, by decide, by decide⟩) (fun r5337 u5338 h5336 => ?_)
  obtain ⟨rfl, rfl⟩ := h5336
  refine z_istore (lv' := [(5, .int 0), (0, .ref (a 0)), (1, .int 5), (2, .int p0), (3, .int p1), (4, .int 1)]) b dX12_lawful_45 (by decide) rfl ?_
  refine z_iload b dX12_lawful_47 rfl ?_
  refine z_if_ne_t (tgt := 57) b dX12_lawful_49 (by decide) (by decide) ?_
  refine z_aload_n b dX12_lawful_57 rfl rfl ?_
  refine z_get (q0 := 0) (k9 := 69) (v := .int (-1)) b (mw_0 cy a (si (sl S 2 1649317774848) 24 (-1))) rfl in_X12 (by decide) wf_X12_461 rfl dX12_lawful_58 ?_
  exact z_iret (u := (si (sl S 2 1649317774848) 24 (-1))) b rfl dX12_lawful_61 ⟨rfl, rfl⟩ rfl (by decide) (by decide)

set_option maxHeartbeats 4000000 in
set_option maxRecDepth 100000 in
theorem c_X11_lawful_50 {l : Launch} {D : va_G} {cy : Nat → ClassId} {T0 tB tE : Nat} {a : Nat → Nat} {rw : Nat → Option Nat} (S : GS) (p0 : Int32) (p1 : Int32) (p2 : Int32)  (hr_p0 : 1 ≤ p0.toInt ∧ p0.toInt ≤ 3) (hr_p1 : 0 ≤ p1.toInt ∧ p1.toInt ≤ 31) (hr_p2 : 2 ≤ p2.toInt ∧ p2.toInt ≤ 2147483647) : Ct l D cy T0 tB tE yX11_lawful cX11_lawful 6 (some .int) 1 21 0 0 (cw cy tE a rw S) [.ref (a 0), .int 5, .int p0, .int p1, .int p2] (QI D (U := GS) (fun r u => (-1) = r ∧ S = u) (cw cy tE a rw)) := by
  refine Ct.ofZ RX11 "lawful" [(0, .ref (a 0)), (1, .int 5), (2, .int p0), (3, .int p1), (4, .int p2)] rfl rfl rfl rfl (Nat.le_of_ble_eq_true rfl) ?_
  intro p e R s m args below meth c A b
  refine z_iload_n b dX11_lawful_0 rfl rfl ?_
  refine z_calli b (z_runS (As := [.int 5]) (st := []) b (c_X11_isRow_8 S ) cf_X11_isRow wm_X11_169 ws_X11_isRow dX11_lawful_1 rfl (Nat.le_of_ble_eq_true rfl) ⟨by decide, by decide, by decide, by decide⟩) (fun r5340 u5341 h5339 => ?_)
  obtain ⟨rfl, rfl⟩ := h5339
  refine z_if_eq_f (tgt := 32) b dX11_lawful_4 (by decide) (by decide) ?_
  refine z_iload_n b dX11_lawful_7 rfl rfl ?_
  refine z_calli b (z_runS (As := [.int p0]) (st := []) b (c_X11_areLaws_3 S p0 ⟨by omega, by omega⟩) cf_X11_areLaws wm_X11_181 ws_X11_areLaws dX11_lawful_8 rfl (Nat.le_of_ble_eq_true rfl) ⟨by decide, by decide, by decide, by decide⟩) (fun r5343 u5344 h5342 => ?_)
  obtain ⟨rfl, rfl⟩ := h5342
  refine z_if_eq_f (tgt := 32) b dX11_lawful_11 (by decide) (by decide) ?_
  refine z_iload_n b dX11_lawful_14 rfl rfl ?_
  refine z_bipush (v := 31) b dX11_lawful_15 (by decide) ?_
  refine z_calli b (z_runS (As := [.int p1, .int 31]) (st := []) b (c_X11_isWithin_25 S p1 ⟨by omega, by omega⟩) cf_X11_isWithin wm_X11_73 ws_X11_isWithin dX11_lawful_17 rfl (Nat.le_of_ble_eq_true rfl) ⟨by decide, by decide, by decide, by decide⟩) (fun r5346 u5347 h5345 => ?_)
  obtain ⟨rfl, rfl⟩ := h5345
  refine z_if_eq_f (tgt := 32) b dX11_lawful_20 (by decide) (by decide) ?_
  refine z_iload b dX11_lawful_23 rfl ?_
  refine z_iconst (v := 1) b dX11_lawful_25 (by decide) ?_
  refine z_calli b (z_runS (As := [.int p2, .int 1]) (st := []) b (c_X11_isWithin_13 S p2 ⟨by omega, by omega⟩) cf_X11_isWithin wm_X11_73 ws_X11_isWithin dX11_lawful_26 rfl (Nat.le_of_ble_eq_true rfl) ⟨by decide, by decide, by decide, by decide⟩) (fun r5349 u5350 h5348 => ?_)
  obtain ⟨rfl, rfl⟩ := h5348
  refine z_if_ne_f (tgt := 34) b dX11_lawful_29 (by decide) (by decide) ?_
  refine z_iconst (v := (-1)) b dX11_lawful_32 (by decide) ?_
  exact z_iret (u := S) b rfl dX11_lawful_33 ⟨rfl, rfl⟩ rfl (by decide) (by decide)

set_option maxHeartbeats 4000000 in
set_option maxRecDepth 100000 in
theorem c_X12_lawful_50 {l : Launch} {D : va_G} {cy : Nat → ClassId} {T0 tB tE : Nat} {a : Nat → Nat} (S : GS) (p0 : Int32) (p1 : Int32) (p2 : Int32)  (hr_p0 : 1 ≤ p0.toInt ∧ p0.toInt ≤ 3) (hr_p1 : 0 ≤ p1.toInt ∧ p1.toInt ≤ 31) (hr_p2 : 2 ≤ p2.toInt ∧ p2.toInt ≤ 2147483647) : Ct l D cy T0 tB tE yX12_lawful cX12_lawful 6 (some .int) 2 42 0 0 (mw cy a S) [.ref (a 0), .int 5, .int p0, .int p1, .int p2] (QI D (U := GS) (fun r u => (-1) = r ∧ S = u) (mw cy a)) := by
  refine Ct.ofZ RX12 "lawful" [(0, .ref (a 0)), (1, .int 5), (2, .int p0), (3, .int p1), (4, .int p2)] rfl rfl rfl rfl (Nat.le_of_ble_eq_true rfl) ?_
  intro p e R s m args below meth c A b
  refine z_iload_n b dX12_lawful_0 rfl rfl ?_
  refine z_calli b (z_runS (As := [.int 5]) (st := []) b (c_X12_isRow_8 S ) cf_X12_isRow wm_X12_452 ws_X12_isRow dX12_lawful_1 rfl (Nat.le_of_ble_eq_true rfl) ⟨by decide, by decide, by decide, by decide⟩) (fun r5352 u5353 h5351 => ?_)
  obtain ⟨rfl, rfl⟩ := h5351
  refine z_if_eq_f (tgt := 36) b dX12_lawful_4 (by decide) (by decide) ?_
  refine z_iload_n b dX12_lawful_7 rfl rfl ?_
  refine z_iconst (v := 1) b dX12_lawful_8 (by decide) ?_
  refine z_iconst (v := 3) b dX12_lawful_9 (by decide) ?_
  refine z_calli b (z_runS (As := [.int p0, .int 1, .int 3]) (st := []) b (c_X12_isIn_51 S p0 ⟨by omega, by omega⟩) cf_X12_isIn wm_X12_1 ws_X12_isIn dX12_lawful_10 rfl (Nat.le_of_ble_eq_true rfl) ⟨by decide, by decide, by decide, by decide⟩) (fun r5355 u5356 h5354 => ?_)
  obtain ⟨rfl, rfl⟩ := h5354
  refine z_if_eq_f (tgt := 36) b dX12_lawful_13 (by decide) (by decide) ?_
  refine z_iload_n b dX12_lawful_16 rfl rfl ?_
  refine z_iconst (v := 0) b dX12_lawful_17 (by decide) ?_
  refine z_bipush (v := 31) b dX12_lawful_18 (by decide) ?_
  refine z_calli b (z_runS (As := [.int p1, .int 0, .int 31]) (st := []) b (c_X12_isIn_54 S p1 ⟨by omega, by omega⟩) cf_X12_isIn wm_X12_1 ws_X12_isIn dX12_lawful_20 rfl (Nat.le_of_ble_eq_true rfl) ⟨by decide, by decide, by decide, by decide⟩) (fun r5358 u5359 h5357 => ?_)
  obtain ⟨rfl, rfl⟩ := h5357
  refine z_if_eq_f (tgt := 36) b dX12_lawful_23 (by decide) (by decide) ?_
  refine z_iload b dX12_lawful_26 rfl ?_
  refine z_iconst (v := 0) b dX12_lawful_28 (by decide) ?_
  refine z_iconst (v := 1) b dX12_lawful_29 (by decide) ?_
  refine z_calli b (z_runS (As := [.int p2, .int 0, .int 1]) (st := []) b (c_X12_isIn_18 S p2 ⟨by omega, by omega⟩) cf_X12_isIn wm_X12_1 ws_X12_isIn dX12_lawful_30 rfl (Nat.le_of_ble_eq_true rfl) ⟨by decide, by decide, by decide, by decide⟩) (fun r5361 u5362 h5360 => ?_)
  obtain ⟨rfl, rfl⟩ := h5360
  refine z_if_ne_f (tgt := 38) b dX12_lawful_33 (by decide) (by decide) ?_
  refine z_iconst (v := (-1)) b dX12_lawful_36 (by decide) ?_
  exact z_iret (u := S) b rfl dX12_lawful_37 ⟨rfl, rfl⟩ rfl (by decide) (by decide)

