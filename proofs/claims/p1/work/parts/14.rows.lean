theorem wm_X11_169 : Cond.methodLink RX11 169 yX11_isRow ∈ gT := gT_of 884 (by decide +kernel) (by decide +kernel)
theorem cf_X11_isRow : Cf yX11_isRow cX11_isRow 1 (some .boolean) 1 := ⟨gT_of 886 (by decide +kernel) (by decide +kernel), gT_of 84 (by decide +kernel) (by decide +kernel), by decide +kernel, by decide +kernel, by decide +kernel⟩
theorem ws_X11_isRow : Cond.static yX11_isRow ∈ gT := gT_of 885 (by decide +kernel) (by decide +kernel)
theorem wm_X12_452 : Cond.methodLink RX12 452 yX12_isRow ∈ gT := gT_of 1700 (by decide +kernel) (by decide +kernel)
theorem cf_X12_isRow : Cf yX12_isRow cX12_isRow 1 (some .boolean) 1 := ⟨gT_of 1702 (by decide +kernel) (by decide +kernel), gT_of 101 (by decide +kernel) (by decide +kernel), by decide +kernel, by decide +kernel, by decide +kernel⟩
theorem ws_X12_isRow : Cond.static yX12_isRow ∈ gT := gT_of 1701 (by decide +kernel) (by decide +kernel)
theorem wm_X12_455 : Cond.methodLink RX12 455 yX12_isNumber ∈ gT := gT_of 1703 (by decide +kernel) (by decide +kernel)
theorem cf_X12_isNumber : Cf yX12_isNumber cX12_isNumber 1 (some .boolean) 1 := ⟨gT_of 1705 (by decide +kernel) (by decide +kernel), gT_of 101 (by decide +kernel) (by decide +kernel), by decide +kernel, by decide +kernel, by decide +kernel⟩
theorem ws_X12_isNumber : Cond.static yX12_isNumber ∈ gT := gT_of 1704 (by decide +kernel) (by decide +kernel)
theorem wf_X11_58 : Cond.fieldLink RX11 58 "LawHoles" "rows" "[LLawHoles$Row;" ∈ gT := gT_of 452 (by decide +kernel) (by decide +kernel)
theorem wm_X11_172 : Cond.methodLink RX11 172 yX7_add ∈ gT := gT_of 887 (by decide +kernel) (by decide +kernel)
theorem wf_X7_9 : Cond.fieldLink RX7 9 "LawHoles$Row" "count" "I" ∈ gT := gT_of 433 (by decide +kernel) (by decide +kernel)
theorem wf_X7_25 : Cond.fieldLink RX7 25 "LawHoles$Row" "codes" "[I" ∈ gT := gT_of 432 (by decide +kernel) (by decide +kernel)
theorem cf_X7_add : Cf yX7_add cX7_add 2 (some .int) 1 := ⟨gT_of 890 (by decide +kernel) (by decide +kernel), gT_of 99 (by decide +kernel) (by decide +kernel), by decide +kernel, by decide +kernel, by decide +kernel⟩
theorem wi_X7_add : Cond.instanceMethod yX7_add ∈ gT := gT_of 888 (by decide +kernel) (by decide +kernel)
theorem ws_X7_add : Cond.selects yX7_add.cls yX7_add yX7_add ∈ gT := gT_of 889 (by decide +kernel) (by decide +kernel)
theorem wf_X12_140 : Cond.fieldLink RX12 140 "LawHolesModel" "rowLong" "[I" ∈ gT := gT_of 1249 (by decide +kernel) (by decide +kernel)
theorem wf_X12_137 : Cond.fieldLink RX12 137 "LawHolesModel" "row" "[I" ∈ gT := gT_of 1248 (by decide +kernel) (by decide +kernel)
theorem wf_X11_175 : Cond.fieldLink RX11 175 "LawHoles$Row" "count" "I" ∈ gT := gT_of 435 (by decide +kernel) (by decide +kernel)
theorem wf_X11_178 : Cond.fieldLink RX11 178 "LawHoles$Row" "isHonest" "Z" ∈ gT := gT_of 437 (by decide +kernel) (by decide +kernel)
theorem wf_X12_143 : Cond.fieldLink RX12 143 "LawHolesModel" "isHonest" "[Z" ∈ gT := gT_of 1250 (by decide +kernel) (by decide +kernel)
theorem wf_X11_65 : Cond.fieldLink RX11 65 "LawHoles" "history" "LLawHoles$Row;" ∈ gT := gT_of 453 (by decide +kernel) (by decide +kernel)
theorem wf_X12_470 : Cond.fieldLink RX12 470 "LawHolesModel" "pastLong" "I" ∈ gT := gT_of 1254 (by decide +kernel) (by decide +kernel)
theorem wf_X12_146 : Cond.fieldLink RX12 146 "LawHolesModel" "past" "[I" ∈ gT := gT_of 1253 (by decide +kernel) (by decide +kernel)
theorem wm_X11_200 : Cond.methodLink RX11 200 yX11_isNever ∈ gT := gT_of 1003 (by decide +kernel) (by decide +kernel)
theorem cf_X11_isNever : Cf yX11_isNever cX11_isNever 2 (some .boolean) 1 := ⟨gT_of 1006 (by decide +kernel) (by decide +kernel), gT_of 84 (by decide +kernel) (by decide +kernel), by decide +kernel, by decide +kernel, by decide +kernel⟩
theorem wi_X11_isNever : Cond.instanceMethod yX11_isNever ∈ gT := gT_of 1005 (by decide +kernel) (by decide +kernel)
theorem ws_X11_isNever : Cond.selects yX11_isNever.cls yX11_isNever yX11_isNever ∈ gT := gT_of 23 (by decide +kernel) (by decide +kernel)
theorem wm_X12_430 : Cond.methodLink RX12 430 yX12_isNeverText ∈ gT := gT_of 1605 (by decide +kernel) (by decide +kernel)
theorem cf_X12_isNeverText : Cf yX12_isNeverText cX12_isNeverText 2 (some .boolean) 1 := ⟨gT_of 1608 (by decide +kernel) (by decide +kernel), gT_of 101 (by decide +kernel) (by decide +kernel), by decide +kernel, by decide +kernel, by decide +kernel⟩
theorem wi_X12_isNeverText : Cond.instanceMethod yX12_isNeverText ∈ gT := gT_of 1607 (by decide +kernel) (by decide +kernel)
theorem ws_X12_isNeverText : Cond.selects yX12_isNeverText.cls yX12_isNeverText yX12_isNeverText ∈ gT := gT_of 62 (by decide +kernel) (by decide +kernel)
theorem dX11_clear_0 : decode cX11_clear 0 = .ok (.iload_n 1, 1) := by decide +kernel
theorem dX11_clear_1 : decode cX11_clear 1 = .ok (.invokestatic 169, 3) := by decide +kernel
theorem dX11_clear_4 : decode cX11_clear 4 = .ok (.ifCond .ne 5, 3) := by decide +kernel
theorem dX11_clear_7 : decode cX11_clear 7 = .ok (.iconst 0, 1) := by decide +kernel
theorem dX11_clear_8 : decode cX11_clear 8 = .ok (.ireturn, 1) := by decide +kernel
theorem dX11_clear_9 : decode cX11_clear 9 = .ok (.aload_n 0, 1) := by decide +kernel
theorem dX11_clear_10 : decode cX11_clear 10 = .ok (.getfield 58, 3) := by decide +kernel
theorem dX11_clear_13 : decode cX11_clear 13 = .ok (.iload_n 1, 1) := by decide +kernel
theorem dX11_clear_14 : decode cX11_clear 14 = .ok (.aaload, 1) := by decide +kernel
theorem dX11_clear_15 : decode cX11_clear 15 = .ok (.iconst 0, 1) := by decide +kernel
theorem dX11_clear_16 : decode cX11_clear 16 = .ok (.putfield 175, 3) := by decide +kernel
theorem dX11_clear_19 : decode cX11_clear 19 = .ok (.aload_n 0, 1) := by decide +kernel
theorem dX11_clear_20 : decode cX11_clear 20 = .ok (.getfield 58, 3) := by decide +kernel
theorem dX11_clear_23 : decode cX11_clear 23 = .ok (.iload_n 1, 1) := by decide +kernel
theorem dX11_clear_24 : decode cX11_clear 24 = .ok (.aaload, 1) := by decide +kernel
theorem dX11_clear_25 : decode cX11_clear 25 = .ok (.iconst 0, 1) := by decide +kernel
theorem dX11_clear_26 : decode cX11_clear 26 = .ok (.putfield 178, 3) := by decide +kernel
theorem dX11_clear_29 : decode cX11_clear 29 = .ok (.iconst 1, 1) := by decide +kernel
theorem dX11_clear_30 : decode cX11_clear 30 = .ok (.ireturn, 1) := by decide +kernel
theorem dX11_friends_0 : decode cX11_friends 0 = .ok (.aload_n 0, 1) := by decide +kernel
theorem dX11_friends_1 : decode cX11_friends 1 = .ok (.iload_n 1, 1) := by decide +kernel
theorem dX11_friends_2 : decode cX11_friends 2 = .ok (.invokevirtual 200, 3) := by decide +kernel
theorem dX11_friends_5 : decode cX11_friends 5 = .ok (.ifCond .eq 17, 3) := by decide +kernel
theorem dX11_friends_8 : decode cX11_friends 8 = .ok (.iload_n 2, 1) := by decide +kernel
theorem dX11_friends_9 : decode cX11_friends 9 = .ok (.invokestatic 181, 3) := by decide +kernel
theorem dX11_friends_12 : decode cX11_friends 12 = .ok (.ifCond .eq 10, 3) := by decide +kernel
theorem dX11_friends_15 : decode cX11_friends 15 = .ok (.iload_n 3, 1) := by decide +kernel
theorem dX11_friends_16 : decode cX11_friends 16 = .ok (.invokestatic 203, 3) := by decide +kernel
theorem dX11_friends_19 : decode cX11_friends 19 = .ok (.ifCond .ne 5, 3) := by decide +kernel
theorem dX11_friends_22 : decode cX11_friends 22 = .ok (.iconst (-1), 1) := by decide +kernel
theorem dX11_friends_23 : decode cX11_friends 23 = .ok (.ireturn, 1) := by decide +kernel
theorem dX11_friends_24 : decode cX11_friends 24 = .ok (.iconst 1, 1) := by decide +kernel
theorem dX11_friends_25 : decode cX11_friends 25 = .ok (.istore 4, 2) := by decide +kernel
theorem dX11_friends_27 : decode cX11_friends 27 = .ok (.iload 4, 2) := by decide +kernel
theorem dX11_friends_29 : decode cX11_friends 29 = .ok (.iconst 3, 1) := by decide +kernel
theorem dX11_friends_30 : decode cX11_friends 30 = .ok (.if_icmp .gt 65, 3) := by decide +kernel
theorem dX11_friends_33 : decode cX11_friends 33 = .ok (.iconst 1, 1) := by decide +kernel
theorem dX11_friends_34 : decode cX11_friends 34 = .ok (.istore 5, 2) := by decide +kernel
theorem dX11_friends_36 : decode cX11_friends 36 = .ok (.iload 5, 2) := by decide +kernel
theorem dX11_friends_38 : decode cX11_friends 38 = .ok (.bipush 7, 2) := by decide +kernel
theorem dX11_friends_40 : decode cX11_friends 40 = .ok (.if_icmp .gt 49, 3) := by decide +kernel
theorem dX11_friends_43 : decode cX11_friends 43 = .ok (.iload 5, 2) := by decide +kernel
theorem dX11_friends_45 : decode cX11_friends 45 = .ok (.invokestatic 223, 3) := by decide +kernel
theorem dX11_friends_48 : decode cX11_friends 48 = .ok (.iload 4, 2) := by decide +kernel
theorem dX11_friends_50 : decode cX11_friends 50 = .ok (.if_icmp .eq 6, 3) := by decide +kernel
theorem dX11_friends_53 : decode cX11_friends 53 = .ok (.goto 30, 3) := by decide +kernel
theorem dX11_friends_56 : decode cX11_friends 56 = .ok (.aload_n 0, 1) := by decide +kernel
theorem dX11_friends_57 : decode cX11_friends 57 = .ok (.getfield 52, 3) := by decide +kernel
theorem dX11_friends_60 : decode cX11_friends 60 = .ok (.iload_n 2, 1) := by decide +kernel
theorem dX11_friends_61 : decode cX11_friends 61 = .ok (.iload_n 3, 1) := by decide +kernel
theorem dX11_friends_62 : decode cX11_friends 62 = .ok (.iload 5, 2) := by decide +kernel
theorem dX11_friends_64 : decode cX11_friends 64 = .ok (.iconst 0, 1) := by decide +kernel
theorem dX11_friends_65 : decode cX11_friends 65 = .ok (.invokevirtual 206, 3) := by decide +kernel
theorem dX11_friends_68 : decode cX11_friends 68 = .ok (.aload_n 0, 1) := by decide +kernel
theorem dX11_friends_69 : decode cX11_friends 69 = .ok (.getfield 52, 3) := by decide +kernel
theorem dX11_friends_72 : decode cX11_friends 72 = .ok (.iload_n 1, 1) := by decide +kernel
theorem dX11_friends_73 : decode cX11_friends 73 = .ok (.invokevirtual 210, 3) := by decide +kernel
theorem dX11_friends_76 : decode cX11_friends 76 = .ok (.iconst (-1), 1) := by decide +kernel
theorem dX11_friends_77 : decode cX11_friends 77 = .ok (.if_icmp .eq 6, 3) := by decide +kernel
theorem dX11_friends_80 : decode cX11_friends 80 = .ok (.iload 5, 2) := by decide +kernel
theorem dX11_friends_82 : decode cX11_friends 82 = .ok (.ireturn, 1) := by decide +kernel
theorem dX11_friends_83 : decode cX11_friends 83 = .ok (.iinc 5 1, 3) := by decide +kernel
theorem dX11_friends_86 : decode cX11_friends 86 = .ok (.goto (-50), 3) := by decide +kernel
theorem dX11_friends_89 : decode cX11_friends 89 = .ok (.iinc 4 1, 3) := by decide +kernel
theorem dX11_friends_92 : decode cX11_friends 92 = .ok (.goto (-65), 3) := by decide +kernel
theorem dX11_friends_95 : decode cX11_friends 95 = .ok (.iconst (-1), 1) := by decide +kernel
theorem dX11_friends_96 : decode cX11_friends 96 = .ok (.ireturn, 1) := by decide +kernel
theorem dX11_hole_0 : decode cX11_hole 0 = .ok (.aload_n 0, 1) := by decide +kernel
theorem dX11_hole_1 : decode cX11_hole 1 = .ok (.iload_n 1, 1) := by decide +kernel
theorem dX11_hole_2 : decode cX11_hole 2 = .ok (.invokevirtual 200, 3) := by decide +kernel
theorem dX11_hole_5 : decode cX11_hole 5 = .ok (.ifCond .eq 17, 3) := by decide +kernel
theorem dX11_hole_8 : decode cX11_hole 8 = .ok (.iload_n 2, 1) := by decide +kernel
theorem dX11_hole_9 : decode cX11_hole 9 = .ok (.invokestatic 181, 3) := by decide +kernel
theorem dX11_hole_12 : decode cX11_hole 12 = .ok (.ifCond .eq 10, 3) := by decide +kernel
theorem dX11_hole_15 : decode cX11_hole 15 = .ok (.iload_n 3, 1) := by decide +kernel
theorem dX11_hole_16 : decode cX11_hole 16 = .ok (.invokestatic 203, 3) := by decide +kernel
theorem dX11_hole_19 : decode cX11_hole 19 = .ok (.ifCond .ne 5, 3) := by decide +kernel
theorem dX11_hole_22 : decode cX11_hole 22 = .ok (.iconst (-1), 1) := by decide +kernel
theorem dX11_hole_23 : decode cX11_hole 23 = .ok (.ireturn, 1) := by decide +kernel
theorem dX11_hole_24 : decode cX11_hole 24 = .ok (.iload 4, 2) := by decide +kernel
theorem dX11_hole_26 : decode cX11_hole 26 = .ok (.iconst 1, 1) := by decide +kernel
theorem dX11_hole_27 : decode cX11_hole 27 = .ok (.if_icmp .lt 20, 3) := by decide +kernel
theorem dX11_hole_30 : decode cX11_hole 30 = .ok (.iload 4, 2) := by decide +kernel
theorem dX11_hole_32 : decode cX11_hole 32 = .ok (.bipush 7, 2) := by decide +kernel
theorem dX11_hole_34 : decode cX11_hole 34 = .ok (.if_icmp .gt 13, 3) := by decide +kernel
theorem dX11_hole_37 : decode cX11_hole 37 = .ok (.iload 5, 2) := by decide +kernel
theorem dX11_hole_39 : decode cX11_hole 39 = .ok (.bipush 20, 2) := by decide +kernel
theorem dX11_hole_41 : decode cX11_hole 41 = .ok (.invokestatic 73, 3) := by decide +kernel
theorem dX11_hole_44 : decode cX11_hole 44 = .ok (.ifCond .ne 5, 3) := by decide +kernel
theorem dX11_hole_47 : decode cX11_hole 47 = .ok (.iconst (-1), 1) := by decide +kernel
theorem dX11_hole_48 : decode cX11_hole 48 = .ok (.ireturn, 1) := by decide +kernel
theorem dX11_hole_49 : decode cX11_hole 49 = .ok (.aload_n 0, 1) := by decide +kernel
theorem dX11_hole_50 : decode cX11_hole 50 = .ok (.getfield 52, 3) := by decide +kernel
theorem dX11_hole_53 : decode cX11_hole 53 = .ok (.iload_n 2, 1) := by decide +kernel
theorem dX11_hole_54 : decode cX11_hole 54 = .ok (.iload_n 3, 1) := by decide +kernel
theorem dX11_hole_55 : decode cX11_hole 55 = .ok (.iload 4, 2) := by decide +kernel
theorem dX11_hole_57 : decode cX11_hole 57 = .ok (.iconst 0, 1) := by decide +kernel
theorem dX11_hole_58 : decode cX11_hole 58 = .ok (.invokevirtual 206, 3) := by decide +kernel
theorem dX11_hole_61 : decode cX11_hole 61 = .ok (.aload_n 0, 1) := by decide +kernel
theorem dX11_hole_62 : decode cX11_hole 62 = .ok (.getfield 52, 3) := by decide +kernel
theorem dX11_hole_65 : decode cX11_hole 65 = .ok (.iload_n 1, 1) := by decide +kernel
theorem dX11_hole_66 : decode cX11_hole 66 = .ok (.invokevirtual 210, 3) := by decide +kernel
theorem dX11_hole_69 : decode cX11_hole 69 = .ok (.istore 6, 2) := by decide +kernel
theorem dX11_hole_71 : decode cX11_hole 71 = .ok (.iload 5, 2) := by decide +kernel
theorem dX11_hole_73 : decode cX11_hole 73 = .ok (.bipush 20, 2) := by decide +kernel
theorem dX11_hole_75 : decode cX11_hole 75 = .ok (.if_icmp .ne 24, 3) := by decide +kernel
theorem dX11_hole_78 : decode cX11_hole 78 = .ok (.iload 6, 2) := by decide +kernel
theorem dX11_hole_80 : decode cX11_hole 80 = .ok (.iconst (-1), 1) := by decide +kernel
theorem dX11_hole_81 : decode cX11_hole 81 = .ok (.if_icmp .ne 13, 3) := by decide +kernel
theorem dX11_hole_84 : decode cX11_hole 84 = .ok (.aload_n 0, 1) := by decide +kernel
theorem dX11_hole_85 : decode cX11_hole 85 = .ok (.getfield 52, 3) := by decide +kernel
theorem dX11_hole_88 : decode cX11_hole 88 = .ok (.getfield 213, 3) := by decide +kernel
theorem dX11_hole_91 : decode cX11_hole 91 = .ok (.goto 7, 3) := by decide +kernel
theorem dX11_hole_94 : decode cX11_hole 94 = .ok (.iload 6, 2) := by decide +kernel
theorem dX11_hole_96 : decode cX11_hole 96 = .ok (.iconst 1, 1) := by decide +kernel
theorem dX11_hole_97 : decode cX11_hole 97 = .ok (.iadd, 1) := by decide +kernel
theorem dX11_hole_98 : decode cX11_hole 98 = .ok (.ireturn, 1) := by decide +kernel
theorem dX11_hole_99 : decode cX11_hole 99 = .ok (.iload 6, 2) := by decide +kernel
theorem dX11_hole_101 : decode cX11_hole 101 = .ok (.iconst (-1), 1) := by decide +kernel
theorem dX11_hole_102 : decode cX11_hole 102 = .ok (.if_icmp .ne 20, 3) := by decide +kernel
theorem dX11_hole_105 : decode cX11_hole 105 = .ok (.aload_n 0, 1) := by decide +kernel
theorem dX11_hole_106 : decode cX11_hole 106 = .ok (.getfield 52, 3) := by decide +kernel
theorem dX11_hole_109 : decode cX11_hole 109 = .ok (.getfield 214, 3) := by decide +kernel
theorem dX11_hole_112 : decode cX11_hole 112 = .ok (.ifCond .eq 8, 3) := by decide +kernel
theorem dX11_hole_115 : decode cX11_hole 115 = .ok (.bipush (-2), 2) := by decide +kernel
theorem dX11_hole_117 : decode cX11_hole 117 = .ok (.goto 4, 3) := by decide +kernel
theorem dX11_hole_120 : decode cX11_hole 120 = .ok (.iconst (-1), 1) := by decide +kernel
theorem dX11_hole_121 : decode cX11_hole 121 = .ok (.ireturn, 1) := by decide +kernel
theorem dX11_hole_122 : decode cX11_hole 122 = .ok (.iload 5, 2) := by decide +kernel
theorem dX11_hole_124 : decode cX11_hole 124 = .ok (.ifCond .ne 15, 3) := by decide +kernel
theorem dX11_hole_127 : decode cX11_hole 127 = .ok (.aload_n 0, 1) := by decide +kernel
theorem dX11_hole_128 : decode cX11_hole 128 = .ok (.getfield 52, 3) := by decide +kernel
theorem dX11_hole_131 : decode cX11_hole 131 = .ok (.iload 6, 2) := by decide +kernel
theorem dX11_hole_133 : decode cX11_hole 133 = .ok (.invokevirtual 217, 3) := by decide +kernel
theorem dX11_hole_136 : decode cX11_hole 136 = .ok (.goto 16, 3) := by decide +kernel
theorem dX11_hole_139 : decode cX11_hole 139 = .ok (.aload_n 0, 1) := by decide +kernel
theorem dX11_hole_140 : decode cX11_hole 140 = .ok (.getfield 52, 3) := by decide +kernel
theorem dX11_hole_143 : decode cX11_hole 143 = .ok (.iload 6, 2) := by decide +kernel
theorem dX11_hole_145 : decode cX11_hole 145 = .ok (.iload 5, 2) := by decide +kernel
theorem dX11_hole_147 : decode cX11_hole 147 = .ok (.iconst 1, 1) := by decide +kernel
theorem dX11_hole_148 : decode cX11_hole 148 = .ok (.isub, 1) := by decide +kernel
theorem dX11_hole_149 : decode cX11_hole 149 = .ok (.invokevirtual 219, 3) := by decide +kernel
theorem dX11_hole_152 : decode cX11_hole 152 = .ok (.ireturn, 1) := by decide +kernel
theorem dX11_honest_0 : decode cX11_honest 0 = .ok (.iload_n 1, 1) := by decide +kernel
theorem dX11_honest_1 : decode cX11_honest 1 = .ok (.invokestatic 169, 3) := by decide +kernel
theorem dX11_honest_4 : decode cX11_honest 4 = .ok (.ifCond .eq 16, 3) := by decide +kernel
theorem dX11_honest_7 : decode cX11_honest 7 = .ok (.aload_n 0, 1) := by decide +kernel
theorem dX11_honest_8 : decode cX11_honest 8 = .ok (.getfield 58, 3) := by decide +kernel
theorem dX11_honest_11 : decode cX11_honest 11 = .ok (.iload_n 1, 1) := by decide +kernel
theorem dX11_honest_12 : decode cX11_honest 12 = .ok (.aaload, 1) := by decide +kernel
theorem dX11_honest_13 : decode cX11_honest 13 = .ok (.getfield 178, 3) := by decide +kernel
theorem dX11_honest_16 : decode cX11_honest 16 = .ok (.iload_n 2, 1) := by decide +kernel
theorem dX11_honest_17 : decode cX11_honest 17 = .ok (.if_icmp .ne 5, 3) := by decide +kernel
theorem dX11_honest_20 : decode cX11_honest 20 = .ok (.iconst 0, 1) := by decide +kernel
theorem dX11_honest_21 : decode cX11_honest 21 = .ok (.ireturn, 1) := by decide +kernel
theorem dX11_honest_22 : decode cX11_honest 22 = .ok (.aload_n 0, 1) := by decide +kernel
theorem dX11_honest_23 : decode cX11_honest 23 = .ok (.getfield 58, 3) := by decide +kernel
theorem dX11_honest_26 : decode cX11_honest 26 = .ok (.iload_n 1, 1) := by decide +kernel
theorem dX11_honest_27 : decode cX11_honest 27 = .ok (.aaload, 1) := by decide +kernel
theorem dX11_honest_28 : decode cX11_honest 28 = .ok (.iload_n 2, 1) := by decide +kernel
theorem dX11_honest_29 : decode cX11_honest 29 = .ok (.putfield 178, 3) := by decide +kernel
theorem dX11_honest_32 : decode cX11_honest 32 = .ok (.iconst 1, 1) := by decide +kernel
theorem dX11_honest_33 : decode cX11_honest 33 = .ok (.ireturn, 1) := by decide +kernel
theorem dX11_isNever_0 : decode cX11_isNever 0 = .ok (.iload_n 1, 1) := by decide +kernel
theorem dX11_isNever_1 : decode cX11_isNever 1 = .ok (.ifCond .lt 21, 3) := by decide +kernel
theorem dX11_isNever_4 : decode cX11_isNever 4 = .ok (.iload_n 1, 1) := by decide +kernel
theorem dX11_isNever_5 : decode cX11_isNever 5 = .ok (.aload_n 0, 1) := by decide +kernel
theorem dX11_isNever_6 : decode cX11_isNever 6 = .ok (.getfield 27, 3) := by decide +kernel
theorem dX11_isNever_9 : decode cX11_isNever 9 = .ok (.getfield 122, 3) := by decide +kernel
theorem dX11_isNever_12 : decode cX11_isNever 12 = .ok (.invokevirtual 117, 3) := by decide +kernel
theorem dX11_isNever_15 : decode cX11_isNever 15 = .ok (.if_icmp .ge 7, 3) := by decide +kernel
theorem dX11_isNever_18 : decode cX11_isNever 18 = .ok (.iconst 1, 1) := by decide +kernel
theorem dX11_isNever_19 : decode cX11_isNever 19 = .ok (.goto 4, 3) := by decide +kernel
theorem dX11_isNever_22 : decode cX11_isNever 22 = .ok (.iconst 0, 1) := by decide +kernel
theorem dX11_isNever_23 : decode cX11_isNever 23 = .ok (.ireturn, 1) := by decide +kernel
theorem dX11_isRow_0 : decode cX11_isRow 0 = .ok (.iload_n 0, 1) := by decide +kernel
theorem dX11_isRow_1 : decode cX11_isRow 1 = .ok (.ifCond .lt 13, 3) := by decide +kernel
theorem dX11_isRow_4 : decode cX11_isRow 4 = .ok (.iload_n 0, 1) := by decide +kernel
theorem dX11_isRow_5 : decode cX11_isRow 5 = .ok (.bipush 6, 2) := by decide +kernel
theorem dX11_isRow_7 : decode cX11_isRow 7 = .ok (.if_icmp .ge 7, 3) := by decide +kernel
theorem dX11_isRow_10 : decode cX11_isRow 10 = .ok (.iconst 1, 1) := by decide +kernel
theorem dX11_isRow_11 : decode cX11_isRow 11 = .ok (.goto 4, 3) := by decide +kernel
theorem dX11_isRow_14 : decode cX11_isRow 14 = .ok (.iconst 0, 1) := by decide +kernel
theorem dX11_isRow_15 : decode cX11_isRow 15 = .ok (.ireturn, 1) := by decide +kernel
theorem dX11_only_0 : decode cX11_only 0 = .ok (.aload_n 0, 1) := by decide +kernel
theorem dX11_only_1 : decode cX11_only 1 = .ok (.iload_n 1, 1) := by decide +kernel
theorem dX11_only_2 : decode cX11_only 2 = .ok (.invokevirtual 200, 3) := by decide +kernel
theorem dX11_only_5 : decode cX11_only 5 = .ok (.ifCond .eq 10, 3) := by decide +kernel
theorem dX11_only_8 : decode cX11_only 8 = .ok (.iload_n 2, 1) := by decide +kernel
theorem dX11_only_9 : decode cX11_only 9 = .ok (.invokestatic 203, 3) := by decide +kernel
theorem dX11_only_12 : decode cX11_only 12 = .ok (.ifCond .ne 5, 3) := by decide +kernel
theorem dX11_only_15 : decode cX11_only 15 = .ok (.iconst (-1), 1) := by decide +kernel
theorem dX11_only_16 : decode cX11_only 16 = .ok (.ireturn, 1) := by decide +kernel
theorem dX11_only_17 : decode cX11_only 17 = .ok (.aload_n 0, 1) := by decide +kernel
theorem dX11_only_18 : decode cX11_only 18 = .ok (.iload_n 1, 1) := by decide +kernel
theorem dX11_only_19 : decode cX11_only 19 = .ok (.iconst 3, 1) := by decide +kernel
theorem dX11_only_20 : decode cX11_only 20 = .ok (.iload_n 2, 1) := by decide +kernel
theorem dX11_only_21 : decode cX11_only 21 = .ok (.invokevirtual 228, 3) := by decide +kernel
theorem dX11_only_24 : decode cX11_only 24 = .ok (.istore_n 3, 1) := by decide +kernel
theorem dX11_only_25 : decode cX11_only 25 = .ok (.aload_n 0, 1) := by decide +kernel
theorem dX11_only_26 : decode cX11_only 26 = .ok (.iload_n 1, 1) := by decide +kernel
theorem dX11_only_27 : decode cX11_only 27 = .ok (.iconst 1, 1) := by decide +kernel
theorem dX11_only_28 : decode cX11_only 28 = .ok (.iload_n 2, 1) := by decide +kernel
theorem dX11_only_29 : decode cX11_only 29 = .ok (.invokevirtual 228, 3) := by decide +kernel
theorem dX11_only_32 : decode cX11_only 32 = .ok (.istore 4, 2) := by decide +kernel
theorem dX11_only_34 : decode cX11_only 34 = .ok (.aload_n 0, 1) := by decide +kernel
theorem dX11_only_35 : decode cX11_only 35 = .ok (.iload_n 1, 1) := by decide +kernel
theorem dX11_only_36 : decode cX11_only 36 = .ok (.iconst 2, 1) := by decide +kernel
theorem dX11_only_37 : decode cX11_only 37 = .ok (.iload_n 2, 1) := by decide +kernel
theorem dX11_only_38 : decode cX11_only 38 = .ok (.invokevirtual 228, 3) := by decide +kernel
theorem dX11_only_41 : decode cX11_only 41 = .ok (.istore 5, 2) := by decide +kernel
theorem dX11_only_43 : decode cX11_only 43 = .ok (.iload_n 3, 1) := by decide +kernel
theorem dX11_only_44 : decode cX11_only 44 = .ok (.bipush (-2), 2) := by decide +kernel
theorem dX11_only_46 : decode cX11_only 46 = .ok (.if_icmp .eq 17, 3) := by decide +kernel
theorem dX11_only_49 : decode cX11_only 49 = .ok (.iload 4, 2) := by decide +kernel
theorem dX11_only_51 : decode cX11_only 51 = .ok (.bipush (-2), 2) := by decide +kernel
theorem dX11_only_53 : decode cX11_only 53 = .ok (.if_icmp .eq 10, 3) := by decide +kernel
theorem dX11_only_56 : decode cX11_only 56 = .ok (.iload 5, 2) := by decide +kernel
theorem dX11_only_58 : decode cX11_only 58 = .ok (.bipush (-2), 2) := by decide +kernel
theorem dX11_only_60 : decode cX11_only 60 = .ok (.if_icmp .ne 6, 3) := by decide +kernel
theorem dX11_only_63 : decode cX11_only 63 = .ok (.bipush (-2), 2) := by decide +kernel
theorem dX11_only_65 : decode cX11_only 65 = .ok (.ireturn, 1) := by decide +kernel
theorem dX11_only_66 : decode cX11_only 66 = .ok (.iload_n 3, 1) := by decide +kernel
theorem dX11_only_67 : decode cX11_only 67 = .ok (.iconst 1, 1) := by decide +kernel
theorem dX11_only_68 : decode cX11_only 68 = .ok (.if_icmp .ne 17, 3) := by decide +kernel
theorem dX11_only_71 : decode cX11_only 71 = .ok (.iload 4, 2) := by decide +kernel
theorem dX11_only_73 : decode cX11_only 73 = .ok (.ifCond .ne 12, 3) := by decide +kernel
theorem dX11_only_76 : decode cX11_only 76 = .ok (.iload 5, 2) := by decide +kernel
theorem dX11_only_78 : decode cX11_only 78 = .ok (.ifCond .ne 7, 3) := by decide +kernel
theorem dX11_only_81 : decode cX11_only 81 = .ok (.iconst 1, 1) := by decide +kernel
theorem dX11_only_82 : decode cX11_only 82 = .ok (.goto 4, 3) := by decide +kernel
theorem dX11_only_85 : decode cX11_only 85 = .ok (.iconst 0, 1) := by decide +kernel
theorem dX11_only_86 : decode cX11_only 86 = .ok (.ireturn, 1) := by decide +kernel
theorem dX11_past_0 : decode cX11_past 0 = .ok (.iload_n 1, 1) := by decide +kernel
theorem dX11_past_1 : decode cX11_past 1 = .ok (.sipush 767, 3) := by decide +kernel
theorem dX11_past_4 : decode cX11_past 4 = .ok (.invokestatic 73, 3) := by decide +kernel
theorem dX11_past_7 : decode cX11_past 7 = .ok (.ifCond .eq 14, 3) := by decide +kernel
theorem dX11_past_10 : decode cX11_past 10 = .ok (.aload_n 0, 1) := by decide +kernel
theorem dX11_past_11 : decode cX11_past 11 = .ok (.getfield 65, 3) := by decide +kernel
theorem dX11_past_14 : decode cX11_past 14 = .ok (.iload_n 1, 1) := by decide +kernel
theorem dX11_past_15 : decode cX11_past 15 = .ok (.invokevirtual 172, 3) := by decide +kernel
theorem dX11_past_18 : decode cX11_past 18 = .ok (.goto 4, 3) := by decide +kernel
theorem dX11_past_21 : decode cX11_past 21 = .ok (.iconst (-1), 1) := by decide +kernel
theorem dX11_past_22 : decode cX11_past 22 = .ok (.ireturn, 1) := by decide +kernel
theorem dX11_put_0 : decode cX11_put 0 = .ok (.iload_n 1, 1) := by decide +kernel
theorem dX11_put_1 : decode cX11_put 1 = .ok (.invokestatic 169, 3) := by decide +kernel
theorem dX11_put_4 : decode cX11_put 4 = .ok (.ifCond .eq 13, 3) := by decide +kernel
theorem dX11_put_7 : decode cX11_put 7 = .ok (.iload_n 2, 1) := by decide +kernel
theorem dX11_put_8 : decode cX11_put 8 = .ok (.sipush 767, 3) := by decide +kernel
theorem dX11_put_11 : decode cX11_put 11 = .ok (.invokestatic 73, 3) := by decide +kernel
theorem dX11_put_14 : decode cX11_put 14 = .ok (.ifCond .ne 5, 3) := by decide +kernel
theorem dX11_put_17 : decode cX11_put 17 = .ok (.iconst (-1), 1) := by decide +kernel
theorem dX11_put_18 : decode cX11_put 18 = .ok (.ireturn, 1) := by decide +kernel
theorem dX11_put_19 : decode cX11_put 19 = .ok (.aload_n 0, 1) := by decide +kernel
theorem dX11_put_20 : decode cX11_put 20 = .ok (.getfield 58, 3) := by decide +kernel
theorem dX11_put_23 : decode cX11_put 23 = .ok (.iload_n 1, 1) := by decide +kernel
theorem dX11_put_24 : decode cX11_put 24 = .ok (.aaload, 1) := by decide +kernel
theorem dX11_put_25 : decode cX11_put 25 = .ok (.iload_n 2, 1) := by decide +kernel
theorem dX11_put_26 : decode cX11_put 26 = .ok (.invokevirtual 172, 3) := by decide +kernel
theorem dX11_put_29 : decode cX11_put 29 = .ok (.ireturn, 1) := by decide +kernel
theorem dX11_stop_0 : decode cX11_stop 0 = .ok (.aload_n 0, 1) := by decide +kernel
theorem dX11_stop_1 : decode cX11_stop 1 = .ok (.iload_n 1, 1) := by decide +kernel
theorem dX11_stop_2 : decode cX11_stop 2 = .ok (.invokevirtual 200, 3) := by decide +kernel
theorem dX11_stop_5 : decode cX11_stop 5 = .ok (.ifCond .eq 18, 3) := by decide +kernel
theorem dX11_stop_8 : decode cX11_stop 8 = .ok (.iload_n 2, 1) := by decide +kernel
theorem dX11_stop_9 : decode cX11_stop 9 = .ok (.invokestatic 203, 3) := by decide +kernel
theorem dX11_stop_12 : decode cX11_stop 12 = .ok (.ifCond .eq 11, 3) := by decide +kernel
theorem dX11_stop_15 : decode cX11_stop 15 = .ok (.iload_n 3, 1) := by decide +kernel
theorem dX11_stop_16 : decode cX11_stop 16 = .ok (.iconst 1, 1) := by decide +kernel
theorem dX11_stop_17 : decode cX11_stop 17 = .ok (.invokestatic 73, 3) := by decide +kernel
theorem dX11_stop_20 : decode cX11_stop 20 = .ok (.ifCond .ne 5, 3) := by decide +kernel
theorem dX11_stop_23 : decode cX11_stop 23 = .ok (.iconst (-1), 1) := by decide +kernel
theorem dX11_stop_24 : decode cX11_stop 24 = .ok (.ireturn, 1) := by decide +kernel
theorem dX11_stop_25 : decode cX11_stop 25 = .ok (.iconst 1, 1) := by decide +kernel
theorem dX11_stop_26 : decode cX11_stop 26 = .ok (.aload_n 0, 1) := by decide +kernel
theorem dX11_stop_27 : decode cX11_stop 27 = .ok (.getfield 27, 3) := by decide +kernel
theorem dX11_stop_30 : decode cX11_stop 30 = .ok (.getfield 136, 3) := by decide +kernel
theorem dX11_stop_33 : decode cX11_stop 33 = .ok (.invokevirtual 117, 3) := by decide +kernel
theorem dX11_stop_36 : decode cX11_stop 36 = .ok (.ishl, 1) := by decide +kernel
theorem dX11_stop_37 : decode cX11_stop 37 = .ok (.istore 4, 2) := by decide +kernel
theorem dX11_stop_39 : decode cX11_stop 39 = .ok (.iconst 0, 1) := by decide +kernel
theorem dX11_stop_40 : decode cX11_stop 40 = .ok (.istore 5, 2) := by decide +kernel
theorem dX11_stop_42 : decode cX11_stop 42 = .ok (.iload 5, 2) := by decide +kernel
theorem dX11_stop_44 : decode cX11_stop 44 = .ok (.aload_n 0, 1) := by decide +kernel
theorem dX11_stop_45 : decode cX11_stop 45 = .ok (.getfield 27, 3) := by decide +kernel
theorem dX11_stop_48 : decode cX11_stop 48 = .ok (.getfield 136, 3) := by decide +kernel
theorem dX11_stop_51 : decode cX11_stop 51 = .ok (.invokevirtual 117, 3) := by decide +kernel
theorem dX11_stop_54 : decode cX11_stop 54 = .ok (.if_icmp .gt 58, 3) := by decide +kernel
theorem dX11_stop_57 : decode cX11_stop 57 = .ok (.iconst 0, 1) := by decide +kernel
theorem dX11_stop_58 : decode cX11_stop 58 = .ok (.istore 6, 2) := by decide +kernel
theorem dX11_stop_60 : decode cX11_stop 60 = .ok (.iload 6, 2) := by decide +kernel
theorem dX11_stop_62 : decode cX11_stop 62 = .ok (.iload 4, 2) := by decide +kernel
theorem dX11_stop_64 : decode cX11_stop 64 = .ok (.if_icmp .ge 42, 3) := by decide +kernel
theorem dX11_stop_67 : decode cX11_stop 67 = .ok (.iload 6, 2) := by decide +kernel
theorem dX11_stop_69 : decode cX11_stop 69 = .ok (.invokestatic 223, 3) := by decide +kernel
theorem dX11_stop_72 : decode cX11_stop 72 = .ok (.iload 5, 2) := by decide +kernel
theorem dX11_stop_74 : decode cX11_stop 74 = .ok (.if_icmp .ne 26, 3) := by decide +kernel
theorem dX11_stop_77 : decode cX11_stop 77 = .ok (.aload_n 0, 1) := by decide +kernel
theorem dX11_stop_78 : decode cX11_stop 78 = .ok (.iload_n 1, 1) := by decide +kernel
theorem dX11_stop_79 : decode cX11_stop 79 = .ok (.iload_n 2, 1) := by decide +kernel
theorem dX11_stop_80 : decode cX11_stop 80 = .ok (.iload 6, 2) := by decide +kernel
theorem dX11_stop_82 : decode cX11_stop 82 = .ok (.invokevirtual 244, 3) := by decide +kernel
theorem dX11_stop_85 : decode cX11_stop 85 = .ok (.ifCond .eq 15, 3) := by decide +kernel
theorem dX11_stop_88 : decode cX11_stop 88 = .ok (.iload_n 3, 1) := by decide +kernel
theorem dX11_stop_89 : decode cX11_stop 89 = .ok (.ifCond .ne 8, 3) := by decide +kernel
theorem dX11_stop_92 : decode cX11_stop 92 = .ok (.iload 6, 2) := by decide +kernel
theorem dX11_stop_94 : decode cX11_stop 94 = .ok (.goto 5, 3) := by decide +kernel
theorem dX11_stop_97 : decode cX11_stop 97 = .ok (.iload 5, 2) := by decide +kernel
theorem dX11_stop_99 : decode cX11_stop 99 = .ok (.ireturn, 1) := by decide +kernel
theorem dX11_stop_100 : decode cX11_stop 100 = .ok (.iinc 6 1, 3) := by decide +kernel
theorem dX11_stop_103 : decode cX11_stop 103 = .ok (.goto (-43), 3) := by decide +kernel
theorem dX11_stop_106 : decode cX11_stop 106 = .ok (.iinc 5 1, 3) := by decide +kernel
theorem dX11_stop_109 : decode cX11_stop 109 = .ok (.goto (-67), 3) := by decide +kernel
theorem dX11_stop_112 : decode cX11_stop 112 = .ok (.iconst (-1), 1) := by decide +kernel
theorem dX11_stop_113 : decode cX11_stop 113 = .ok (.ireturn, 1) := by decide +kernel
theorem dX11_through_0 : decode cX11_through 0 = .ok (.iload_n 1, 1) := by decide +kernel
theorem dX11_through_1 : decode cX11_through 1 = .ok (.invokestatic 169, 3) := by decide +kernel
theorem dX11_through_4 : decode cX11_through 4 = .ok (.ifCond .eq 23, 3) := by decide +kernel
theorem dX11_through_7 : decode cX11_through 7 = .ok (.aload_n 0, 1) := by decide +kernel
theorem dX11_through_8 : decode cX11_through 8 = .ok (.getfield 58, 3) := by decide +kernel
theorem dX11_through_11 : decode cX11_through 11 = .ok (.iload_n 1, 1) := by decide +kernel
theorem dX11_through_12 : decode cX11_through 12 = .ok (.aaload, 1) := by decide +kernel
theorem dX11_through_13 : decode cX11_through 13 = .ok (.getfield 175, 3) := by decide +kernel
theorem dX11_through_16 : decode cX11_through 16 = .ok (.ifCond .eq 11, 3) := by decide +kernel
theorem dX11_through_19 : decode cX11_through 19 = .ok (.iload_n 2, 1) := by decide +kernel
theorem dX11_through_20 : decode cX11_through 20 = .ok (.iconst 1, 1) := by decide +kernel
theorem dX11_through_21 : decode cX11_through 21 = .ok (.invokestatic 73, 3) := by decide +kernel
theorem dX11_through_24 : decode cX11_through 24 = .ok (.ifCond .ne 5, 3) := by decide +kernel
theorem dX11_through_27 : decode cX11_through 27 = .ok (.iconst (-1), 1) := by decide +kernel
theorem dX11_through_28 : decode cX11_through 28 = .ok (.ireturn, 1) := by decide +kernel
theorem dX11_through_29 : decode cX11_through 29 = .ok (.iconst (-1), 1) := by decide +kernel
theorem dX11_through_30 : decode cX11_through 30 = .ok (.istore_n 3, 1) := by decide +kernel
theorem dX11_through_31 : decode cX11_through 31 = .ok (.iconst (-1), 1) := by decide +kernel
theorem dX11_through_32 : decode cX11_through 32 = .ok (.istore 4, 2) := by decide +kernel
theorem dX11_through_34 : decode cX11_through 34 = .ok (.iconst 0, 1) := by decide +kernel
theorem dX11_through_35 : decode cX11_through 35 = .ok (.istore 5, 2) := by decide +kernel
theorem dX11_through_37 : decode cX11_through 37 = .ok (.iload 5, 2) := by decide +kernel
theorem dX11_through_39 : decode cX11_through 39 = .ok (.bipush 36, 2) := by decide +kernel
theorem dX11_through_41 : decode cX11_through 41 = .ok (.if_icmp .ge 58, 3) := by decide +kernel
theorem dX11_through_44 : decode cX11_through 44 = .ok (.aload_n 0, 1) := by decide +kernel
theorem dX11_through_45 : decode cX11_through 45 = .ok (.getfield 65, 3) := by decide +kernel
theorem dX11_through_48 : decode cX11_through 48 = .ok (.aload_n 0, 1) := by decide +kernel
theorem dX11_through_49 : decode cX11_through 49 = .ok (.getfield 58, 3) := by decide +kernel
theorem dX11_through_52 : decode cX11_through 52 = .ok (.iload_n 1, 1) := by decide +kernel
theorem dX11_through_53 : decode cX11_through 53 = .ok (.aaload, 1) := by decide +kernel
theorem dX11_through_54 : decode cX11_through 54 = .ok (.iload 5, 2) := by decide +kernel
theorem dX11_through_56 : decode cX11_through 56 = .ok (.bipush 6, 2) := by decide +kernel
theorem dX11_through_58 : decode cX11_through 58 = .ok (.idiv, 1) := by decide +kernel
theorem dX11_through_59 : decode cX11_through 59 = .ok (.iload 5, 2) := by decide +kernel
theorem dX11_through_61 : decode cX11_through 61 = .ok (.bipush 6, 2) := by decide +kernel
theorem dX11_through_63 : decode cX11_through 63 = .ok (.irem, 1) := by decide +kernel
theorem dX11_through_64 : decode cX11_through 64 = .ok (.invokevirtual 248, 3) := by decide +kernel
theorem dX11_through_67 : decode cX11_through 67 = .ok (.istore 6, 2) := by decide +kernel
theorem dX11_through_69 : decode cX11_through 69 = .ok (.iload 6, 2) := by decide +kernel
theorem dX11_through_71 : decode cX11_through 71 = .ok (.iconst (-1), 1) := by decide +kernel
theorem dX11_through_72 : decode cX11_through 72 = .ok (.if_icmp .eq 21, 3) := by decide +kernel
theorem dX11_through_75 : decode cX11_through 75 = .ok (.iload_n 3, 1) := by decide +kernel
theorem dX11_through_76 : decode cX11_through 76 = .ok (.iconst (-1), 1) := by decide +kernel
theorem dX11_through_77 : decode cX11_through 77 = .ok (.if_icmp .eq 9, 3) := by decide +kernel
theorem dX11_through_80 : decode cX11_through 80 = .ok (.iload 6, 2) := by decide +kernel
theorem dX11_through_82 : decode cX11_through 82 = .ok (.iload_n 3, 1) := by decide +kernel
theorem dX11_through_83 : decode cX11_through 83 = .ok (.if_icmp .ge 10, 3) := by decide +kernel
theorem dX11_through_86 : decode cX11_through 86 = .ok (.iload 6, 2) := by decide +kernel
theorem dX11_through_88 : decode cX11_through 88 = .ok (.istore_n 3, 1) := by decide +kernel
theorem dX11_through_89 : decode cX11_through 89 = .ok (.iload 5, 2) := by decide +kernel
theorem dX11_through_91 : decode cX11_through 91 = .ok (.istore 4, 2) := by decide +kernel
theorem dX11_through_93 : decode cX11_through 93 = .ok (.iinc 5 1, 3) := by decide +kernel
theorem dX11_through_96 : decode cX11_through 96 = .ok (.goto (-59), 3) := by decide +kernel
theorem dX11_through_99 : decode cX11_through 99 = .ok (.iload_n 3, 1) := by decide +kernel
theorem dX11_through_100 : decode cX11_through 100 = .ok (.iconst (-1), 1) := by decide +kernel
theorem dX11_through_101 : decode cX11_through 101 = .ok (.if_icmp .eq 7, 3) := by decide +kernel
theorem dX11_through_104 : decode cX11_through 104 = .ok (.iload_n 2, 1) := by decide +kernel
theorem dX11_through_105 : decode cX11_through 105 = .ok (.ifCond .ne 5, 3) := by decide +kernel
theorem dX11_through_108 : decode cX11_through 108 = .ok (.iload_n 3, 1) := by decide +kernel
theorem dX11_through_109 : decode cX11_through 109 = .ok (.ireturn, 1) := by decide +kernel
theorem dX11_through_110 : decode cX11_through 110 = .ok (.sipush 1000, 3) := by decide +kernel
theorem dX11_through_113 : decode cX11_through 113 = .ok (.iload 4, 2) := by decide +kernel
theorem dX11_through_115 : decode cX11_through 115 = .ok (.bipush 6, 2) := by decide +kernel
theorem dX11_through_117 : decode cX11_through 117 = .ok (.idiv, 1) := by decide +kernel
theorem dX11_through_118 : decode cX11_through 118 = .ok (.invokestatic 252, 3) := by decide +kernel
theorem dX11_through_121 : decode cX11_through 121 = .ok (.imul, 1) := by decide +kernel
theorem dX11_through_122 : decode cX11_through 122 = .ok (.iload 4, 2) := by decide +kernel
theorem dX11_through_124 : decode cX11_through 124 = .ok (.bipush 6, 2) := by decide +kernel
theorem dX11_through_126 : decode cX11_through 126 = .ok (.irem, 1) := by decide +kernel
theorem dX11_through_127 : decode cX11_through 127 = .ok (.invokestatic 252, 3) := by decide +kernel
theorem dX11_through_130 : decode cX11_through 130 = .ok (.iadd, 1) := by decide +kernel
theorem dX11_through_131 : decode cX11_through 131 = .ok (.ireturn, 1) := by decide +kernel
theorem dX12_clear_0 : decode cX12_clear 0 = .ok (.iload_n 1, 1) := by decide +kernel
theorem dX12_clear_1 : decode cX12_clear 1 = .ok (.invokestatic 452, 3) := by decide +kernel
theorem dX12_clear_4 : decode cX12_clear 4 = .ok (.ifCond .ne 5, 3) := by decide +kernel
theorem dX12_clear_7 : decode cX12_clear 7 = .ok (.iconst 0, 1) := by decide +kernel
theorem dX12_clear_8 : decode cX12_clear 8 = .ok (.ireturn, 1) := by decide +kernel
theorem dX12_clear_9 : decode cX12_clear 9 = .ok (.aload_n 0, 1) := by decide +kernel
theorem dX12_clear_10 : decode cX12_clear 10 = .ok (.getfield 140, 3) := by decide +kernel
theorem dX12_clear_13 : decode cX12_clear 13 = .ok (.iload_n 1, 1) := by decide +kernel
theorem dX12_clear_14 : decode cX12_clear 14 = .ok (.iconst 0, 1) := by decide +kernel
theorem dX12_clear_15 : decode cX12_clear 15 = .ok (.iastore, 1) := by decide +kernel
theorem dX12_clear_16 : decode cX12_clear 16 = .ok (.aload_n 0, 1) := by decide +kernel
theorem dX12_clear_17 : decode cX12_clear 17 = .ok (.getfield 143, 3) := by decide +kernel
theorem dX12_clear_20 : decode cX12_clear 20 = .ok (.iload_n 1, 1) := by decide +kernel
theorem dX12_clear_21 : decode cX12_clear 21 = .ok (.iconst 0, 1) := by decide +kernel
theorem dX12_clear_22 : decode cX12_clear 22 = .ok (.bastore, 1) := by decide +kernel
theorem dX12_clear_23 : decode cX12_clear 23 = .ok (.iconst 1, 1) := by decide +kernel
theorem dX12_clear_24 : decode cX12_clear 24 = .ok (.ireturn, 1) := by decide +kernel
theorem dX12_friends_0 : decode cX12_friends 0 = .ok (.aload_n 0, 1) := by decide +kernel
theorem dX12_friends_1 : decode cX12_friends 1 = .ok (.iload_n 1, 1) := by decide +kernel
theorem dX12_friends_2 : decode cX12_friends 2 = .ok (.invokevirtual 430, 3) := by decide +kernel
theorem dX12_friends_5 : decode cX12_friends 5 = .ok (.ifCond .eq 12, 3) := by decide +kernel
theorem dX12_friends_8 : decode cX12_friends 8 = .ok (.aload_n 0, 1) := by decide +kernel
theorem dX12_friends_9 : decode cX12_friends 9 = .ok (.iload_n 2, 1) := by decide +kernel
theorem dX12_friends_10 : decode cX12_friends 10 = .ok (.iload_n 3, 1) := by decide +kernel
theorem dX12_friends_11 : decode cX12_friends 11 = .ok (.invokevirtual 433, 3) := by decide +kernel
theorem dX12_friends_14 : decode cX12_friends 14 = .ok (.ifCond .ne 5, 3) := by decide +kernel
theorem dX12_friends_17 : decode cX12_friends 17 = .ok (.iconst (-1), 1) := by decide +kernel
theorem dX12_friends_18 : decode cX12_friends 18 = .ok (.ireturn, 1) := by decide +kernel
theorem dX12_friends_19 : decode cX12_friends 19 = .ok (.iconst 1, 1) := by decide +kernel
theorem dX12_friends_20 : decode cX12_friends 20 = .ok (.istore 4, 2) := by decide +kernel
theorem dX12_friends_22 : decode cX12_friends 22 = .ok (.iload 4, 2) := by decide +kernel
theorem dX12_friends_24 : decode cX12_friends 24 = .ok (.iconst 4, 1) := by decide +kernel
theorem dX12_friends_25 : decode cX12_friends 25 = .ok (.if_icmp .ge 59, 3) := by decide +kernel
theorem dX12_friends_28 : decode cX12_friends 28 = .ok (.iconst 1, 1) := by decide +kernel
theorem dX12_friends_29 : decode cX12_friends 29 = .ok (.istore 5, 2) := by decide +kernel
theorem dX12_friends_31 : decode cX12_friends 31 = .ok (.iload 5, 2) := by decide +kernel
theorem dX12_friends_33 : decode cX12_friends 33 = .ok (.bipush 8, 2) := by decide +kernel
theorem dX12_friends_35 : decode cX12_friends 35 = .ok (.if_icmp .ge 43, 3) := by decide +kernel
theorem dX12_friends_38 : decode cX12_friends 38 = .ok (.iload 5, 2) := by decide +kernel
theorem dX12_friends_40 : decode cX12_friends 40 = .ok (.invokestatic 442, 3) := by decide +kernel
theorem dX12_friends_43 : decode cX12_friends 43 = .ok (.iload 4, 2) := by decide +kernel
theorem dX12_friends_45 : decode cX12_friends 45 = .ok (.if_icmp .eq 6, 3) := by decide +kernel
theorem dX12_friends_48 : decode cX12_friends 48 = .ok (.goto 24, 3) := by decide +kernel
theorem dX12_friends_51 : decode cX12_friends 51 = .ok (.aload_n 0, 1) := by decide +kernel
theorem dX12_friends_52 : decode cX12_friends 52 = .ok (.iload_n 1, 1) := by decide +kernel
theorem dX12_friends_53 : decode cX12_friends 53 = .ok (.iload_n 2, 1) := by decide +kernel
theorem dX12_friends_54 : decode cX12_friends 54 = .ok (.iload_n 3, 1) := by decide +kernel
theorem dX12_friends_55 : decode cX12_friends 55 = .ok (.iload 5, 2) := by decide +kernel
theorem dX12_friends_57 : decode cX12_friends 57 = .ok (.iconst 0, 1) := by decide +kernel
theorem dX12_friends_58 : decode cX12_friends 58 = .ok (.invokevirtual 436, 3) := by decide +kernel
theorem dX12_friends_61 : decode cX12_friends 61 = .ok (.aload_n 0, 1) := by decide +kernel
theorem dX12_friends_62 : decode cX12_friends 62 = .ok (.getfield 411, 3) := by decide +kernel
theorem dX12_friends_65 : decode cX12_friends 65 = .ok (.iconst (-1), 1) := by decide +kernel
theorem dX12_friends_66 : decode cX12_friends 66 = .ok (.if_icmp .eq 6, 3) := by decide +kernel
theorem dX12_friends_69 : decode cX12_friends 69 = .ok (.iload 5, 2) := by decide +kernel
theorem dX12_friends_71 : decode cX12_friends 71 = .ok (.ireturn, 1) := by decide +kernel
theorem dX12_friends_72 : decode cX12_friends 72 = .ok (.iinc 5 1, 3) := by decide +kernel
theorem dX12_friends_75 : decode cX12_friends 75 = .ok (.goto (-44), 3) := by decide +kernel
theorem dX12_friends_78 : decode cX12_friends 78 = .ok (.iinc 4 1, 3) := by decide +kernel
theorem dX12_friends_81 : decode cX12_friends 81 = .ok (.goto (-59), 3) := by decide +kernel
theorem dX12_friends_84 : decode cX12_friends 84 = .ok (.iconst (-1), 1) := by decide +kernel
theorem dX12_friends_85 : decode cX12_friends 85 = .ok (.ireturn, 1) := by decide +kernel
theorem dX12_hole_0 : decode cX12_hole 0 = .ok (.aload_n 0, 1) := by decide +kernel
theorem dX12_hole_1 : decode cX12_hole 1 = .ok (.iload_n 1, 1) := by decide +kernel
theorem dX12_hole_2 : decode cX12_hole 2 = .ok (.invokevirtual 430, 3) := by decide +kernel
theorem dX12_hole_5 : decode cX12_hole 5 = .ok (.ifCond .eq 41, 3) := by decide +kernel
theorem dX12_hole_8 : decode cX12_hole 8 = .ok (.aload_n 0, 1) := by decide +kernel
theorem dX12_hole_9 : decode cX12_hole 9 = .ok (.iload_n 2, 1) := by decide +kernel
theorem dX12_hole_10 : decode cX12_hole 10 = .ok (.iload_n 3, 1) := by decide +kernel
theorem dX12_hole_11 : decode cX12_hole 11 = .ok (.invokevirtual 433, 3) := by decide +kernel
theorem dX12_hole_14 : decode cX12_hole 14 = .ok (.ifCond .eq 32, 3) := by decide +kernel
theorem dX12_hole_17 : decode cX12_hole 17 = .ok (.iload 4, 2) := by decide +kernel
theorem dX12_hole_19 : decode cX12_hole 19 = .ok (.iconst 1, 1) := by decide +kernel
theorem dX12_hole_20 : decode cX12_hole 20 = .ok (.bipush 7, 2) := by decide +kernel
theorem dX12_hole_22 : decode cX12_hole 22 = .ok (.invokestatic 1, 3) := by decide +kernel
theorem dX12_hole_25 : decode cX12_hole 25 = .ok (.ifCond .eq 21, 3) := by decide +kernel
theorem dX12_hole_28 : decode cX12_hole 28 = .ok (.iload 5, 2) := by decide +kernel
theorem dX12_hole_30 : decode cX12_hole 30 = .ok (.bipush 20, 2) := by decide +kernel
theorem dX12_hole_32 : decode cX12_hole 32 = .ok (.if_icmp .eq 16, 3) := by decide +kernel
theorem dX12_hole_35 : decode cX12_hole 35 = .ok (.iload 5, 2) := by decide +kernel
theorem dX12_hole_37 : decode cX12_hole 37 = .ok (.iconst 0, 1) := by decide +kernel
theorem dX12_hole_38 : decode cX12_hole 38 = .ok (.bipush 6, 2) := by decide +kernel
theorem dX12_hole_40 : decode cX12_hole 40 = .ok (.invokestatic 1, 3) := by decide +kernel
theorem dX12_hole_43 : decode cX12_hole 43 = .ok (.ifCond .ne 5, 3) := by decide +kernel
theorem dX12_hole_46 : decode cX12_hole 46 = .ok (.iconst (-1), 1) := by decide +kernel
theorem dX12_hole_47 : decode cX12_hole 47 = .ok (.ireturn, 1) := by decide +kernel
theorem dX12_hole_48 : decode cX12_hole 48 = .ok (.aload_n 0, 1) := by decide +kernel
theorem dX12_hole_49 : decode cX12_hole 49 = .ok (.iload_n 1, 1) := by decide +kernel
theorem dX12_hole_50 : decode cX12_hole 50 = .ok (.iload_n 2, 1) := by decide +kernel
theorem dX12_hole_51 : decode cX12_hole 51 = .ok (.iload_n 3, 1) := by decide +kernel
theorem dX12_hole_52 : decode cX12_hole 52 = .ok (.iload 4, 2) := by decide +kernel
theorem dX12_hole_54 : decode cX12_hole 54 = .ok (.iconst 0, 1) := by decide +kernel
theorem dX12_hole_55 : decode cX12_hole 55 = .ok (.invokevirtual 436, 3) := by decide +kernel
theorem dX12_hole_58 : decode cX12_hole 58 = .ok (.aload_n 0, 1) := by decide +kernel
theorem dX12_hole_59 : decode cX12_hole 59 = .ok (.getfield 411, 3) := by decide +kernel
theorem dX12_hole_62 : decode cX12_hole 62 = .ok (.iconst (-1), 1) := by decide +kernel
theorem dX12_hole_63 : decode cX12_hole 63 = .ok (.if_icmp .ne 31, 3) := by decide +kernel
theorem dX12_hole_66 : decode cX12_hole 66 = .ok (.iload 5, 2) := by decide +kernel
theorem dX12_hole_68 : decode cX12_hole 68 = .ok (.bipush 20, 2) := by decide +kernel
theorem dX12_hole_70 : decode cX12_hole 70 = .ok (.if_icmp .ne 10, 3) := by decide +kernel
theorem dX12_hole_73 : decode cX12_hole 73 = .ok (.aload_n 0, 1) := by decide +kernel
theorem dX12_hole_74 : decode cX12_hole 74 = .ok (.getfield 405, 3) := by decide +kernel
theorem dX12_hole_77 : decode cX12_hole 77 = .ok (.goto 16, 3) := by decide +kernel
theorem dX12_hole_80 : decode cX12_hole 80 = .ok (.aload_n 0, 1) := by decide +kernel
theorem dX12_hole_81 : decode cX12_hole 81 = .ok (.getfield 408, 3) := by decide +kernel
theorem dX12_hole_84 : decode cX12_hole 84 = .ok (.ifCond .eq 8, 3) := by decide +kernel
theorem dX12_hole_87 : decode cX12_hole 87 = .ok (.bipush (-2), 2) := by decide +kernel
theorem dX12_hole_89 : decode cX12_hole 89 = .ok (.goto 4, 3) := by decide +kernel
theorem dX12_hole_92 : decode cX12_hole 92 = .ok (.iconst (-1), 1) := by decide +kernel
theorem dX12_hole_93 : decode cX12_hole 93 = .ok (.ireturn, 1) := by decide +kernel
theorem dX12_hole_94 : decode cX12_hole 94 = .ok (.iload 5, 2) := by decide +kernel
theorem dX12_hole_96 : decode cX12_hole 96 = .ok (.bipush 20, 2) := by decide +kernel
theorem dX12_hole_98 : decode cX12_hole 98 = .ok (.if_icmp .ne 8, 3) := by decide +kernel
theorem dX12_hole_101 : decode cX12_hole 101 = .ok (.aload_n 0, 1) := by decide +kernel
theorem dX12_hole_102 : decode cX12_hole 102 = .ok (.getfield 405, 3) := by decide +kernel
theorem dX12_hole_105 : decode cX12_hole 105 = .ok (.ireturn, 1) := by decide +kernel
theorem dX12_hole_106 : decode cX12_hole 106 = .ok (.iload 5, 2) := by decide +kernel
theorem dX12_hole_108 : decode cX12_hole 108 = .ok (.ifCond .ne 13, 3) := by decide +kernel
theorem dX12_hole_111 : decode cX12_hole 111 = .ok (.aload_n 0, 1) := by decide +kernel
theorem dX12_hole_112 : decode cX12_hole 112 = .ok (.getfield 107, 3) := by decide +kernel
theorem dX12_hole_115 : decode cX12_hole 115 = .ok (.aload_n 0, 1) := by decide +kernel
theorem dX12_hole_116 : decode cX12_hole 116 = .ok (.getfield 411, 3) := by decide +kernel
theorem dX12_hole_119 : decode cX12_hole 119 = .ok (.iaload, 1) := by decide +kernel
theorem dX12_hole_120 : decode cX12_hole 120 = .ok (.ireturn, 1) := by decide +kernel
theorem dX12_hole_121 : decode cX12_hole 121 = .ok (.iload 5, 2) := by decide +kernel
theorem dX12_hole_123 : decode cX12_hole 123 = .ok (.aload_n 0, 1) := by decide +kernel
theorem dX12_hole_124 : decode cX12_hole 124 = .ok (.getfield 107, 3) := by decide +kernel
theorem dX12_hole_127 : decode cX12_hole 127 = .ok (.aload_n 0, 1) := by decide +kernel
theorem dX12_hole_128 : decode cX12_hole 128 = .ok (.getfield 411, 3) := by decide +kernel
theorem dX12_hole_131 : decode cX12_hole 131 = .ok (.iaload, 1) := by decide +kernel
theorem dX12_hole_132 : decode cX12_hole 132 = .ok (.if_icmp .gt 18, 3) := by decide +kernel
theorem dX12_hole_135 : decode cX12_hole 135 = .ok (.aload_n 0, 1) := by decide +kernel
theorem dX12_hole_136 : decode cX12_hole 136 = .ok (.aload_n 0, 1) := by decide +kernel
theorem dX12_hole_137 : decode cX12_hole 137 = .ok (.getfield 411, 3) := by decide +kernel
theorem dX12_hole_140 : decode cX12_hole 140 = .ok (.iload 5, 2) := by decide +kernel
theorem dX12_hole_142 : decode cX12_hole 142 = .ok (.iconst 1, 1) := by decide +kernel
theorem dX12_hole_143 : decode cX12_hole 143 = .ok (.isub, 1) := by decide +kernel
theorem dX12_hole_144 : decode cX12_hole 144 = .ok (.invokevirtual 439, 3) := by decide +kernel
theorem dX12_hole_147 : decode cX12_hole 147 = .ok (.goto 4, 3) := by decide +kernel
theorem dX12_hole_150 : decode cX12_hole 150 = .ok (.iconst (-1), 1) := by decide +kernel
theorem dX12_hole_151 : decode cX12_hole 151 = .ok (.ireturn, 1) := by decide +kernel
theorem dX12_honest_0 : decode cX12_honest 0 = .ok (.iload_n 1, 1) := by decide +kernel
theorem dX12_honest_1 : decode cX12_honest 1 = .ok (.invokestatic 452, 3) := by decide +kernel
theorem dX12_honest_4 : decode cX12_honest 4 = .ok (.ifCond .eq 13, 3) := by decide +kernel
theorem dX12_honest_7 : decode cX12_honest 7 = .ok (.aload_n 0, 1) := by decide +kernel
theorem dX12_honest_8 : decode cX12_honest 8 = .ok (.getfield 143, 3) := by decide +kernel
theorem dX12_honest_11 : decode cX12_honest 11 = .ok (.iload_n 1, 1) := by decide +kernel
theorem dX12_honest_12 : decode cX12_honest 12 = .ok (.baload, 1) := by decide +kernel
theorem dX12_honest_13 : decode cX12_honest 13 = .ok (.iload_n 2, 1) := by decide +kernel
theorem dX12_honest_14 : decode cX12_honest 14 = .ok (.if_icmp .ne 5, 3) := by decide +kernel
theorem dX12_honest_17 : decode cX12_honest 17 = .ok (.iconst 0, 1) := by decide +kernel
theorem dX12_honest_18 : decode cX12_honest 18 = .ok (.ireturn, 1) := by decide +kernel
theorem dX12_honest_19 : decode cX12_honest 19 = .ok (.aload_n 0, 1) := by decide +kernel
theorem dX12_honest_20 : decode cX12_honest 20 = .ok (.getfield 143, 3) := by decide +kernel
theorem dX12_honest_23 : decode cX12_honest 23 = .ok (.iload_n 1, 1) := by decide +kernel
theorem dX12_honest_24 : decode cX12_honest 24 = .ok (.iload_n 2, 1) := by decide +kernel
theorem dX12_honest_25 : decode cX12_honest 25 = .ok (.bastore, 1) := by decide +kernel
theorem dX12_honest_26 : decode cX12_honest 26 = .ok (.iconst 1, 1) := by decide +kernel
theorem dX12_honest_27 : decode cX12_honest 27 = .ok (.ireturn, 1) := by decide +kernel
theorem dX12_isNeverText_0 : decode cX12_isNeverText 0 = .ok (.iload_n 1, 1) := by decide +kernel
theorem dX12_isNeverText_1 : decode cX12_isNeverText 1 = .ok (.iconst 0, 1) := by decide +kernel
theorem dX12_isNeverText_2 : decode cX12_isNeverText 2 = .ok (.aload_n 0, 1) := by decide +kernel
theorem dX12_isNeverText_3 : decode cX12_isNeverText 3 = .ok (.getfield 352, 3) := by decide +kernel
theorem dX12_isNeverText_6 : decode cX12_isNeverText 6 = .ok (.iconst 1, 1) := by decide +kernel
theorem dX12_isNeverText_7 : decode cX12_isNeverText 7 = .ok (.isub, 1) := by decide +kernel
theorem dX12_isNeverText_8 : decode cX12_isNeverText 8 = .ok (.invokestatic 1, 3) := by decide +kernel
theorem dX12_isNeverText_11 : decode cX12_isNeverText 11 = .ok (.ireturn, 1) := by decide +kernel
theorem dX12_isNumber_0 : decode cX12_isNumber 0 = .ok (.iload_n 0, 1) := by decide +kernel
theorem dX12_isNumber_1 : decode cX12_isNumber 1 = .ok (.iconst 0, 1) := by decide +kernel
theorem dX12_isNumber_2 : decode cX12_isNumber 2 = .ok (.sipush 767, 3) := by decide +kernel
theorem dX12_isNumber_5 : decode cX12_isNumber 5 = .ok (.invokestatic 1, 3) := by decide +kernel
theorem dX12_isNumber_8 : decode cX12_isNumber 8 = .ok (.ireturn, 1) := by decide +kernel
theorem dX12_isRow_0 : decode cX12_isRow 0 = .ok (.iload_n 0, 1) := by decide +kernel
theorem dX12_isRow_1 : decode cX12_isRow 1 = .ok (.iconst 0, 1) := by decide +kernel
theorem dX12_isRow_2 : decode cX12_isRow 2 = .ok (.iconst 5, 1) := by decide +kernel
theorem dX12_isRow_3 : decode cX12_isRow 3 = .ok (.invokestatic 1, 3) := by decide +kernel
theorem dX12_isRow_6 : decode cX12_isRow 6 = .ok (.ireturn, 1) := by decide +kernel
theorem dX12_only_0 : decode cX12_only 0 = .ok (.aload_n 0, 1) := by decide +kernel
theorem dX12_only_1 : decode cX12_only 1 = .ok (.iload_n 1, 1) := by decide +kernel
theorem dX12_only_2 : decode cX12_only 2 = .ok (.invokevirtual 430, 3) := by decide +kernel
theorem dX12_only_5 : decode cX12_only 5 = .ok (.ifCond .eq 13, 3) := by decide +kernel
theorem dX12_only_8 : decode cX12_only 8 = .ok (.iload_n 2, 1) := by decide +kernel
theorem dX12_only_9 : decode cX12_only 9 = .ok (.iconst 0, 1) := by decide +kernel
theorem dX12_only_10 : decode cX12_only 10 = .ok (.bipush 6, 2) := by decide +kernel
theorem dX12_only_12 : decode cX12_only 12 = .ok (.invokestatic 1, 3) := by decide +kernel
theorem dX12_only_15 : decode cX12_only 15 = .ok (.ifCond .ne 5, 3) := by decide +kernel
theorem dX12_only_18 : decode cX12_only 18 = .ok (.iconst (-1), 1) := by decide +kernel
theorem dX12_only_19 : decode cX12_only 19 = .ok (.ireturn, 1) := by decide +kernel
theorem dX12_only_20 : decode cX12_only 20 = .ok (.iconst 1, 1) := by decide +kernel
theorem dX12_only_21 : decode cX12_only 21 = .ok (.istore_n 3, 1) := by decide +kernel
theorem dX12_only_22 : decode cX12_only 22 = .ok (.iconst 0, 1) := by decide +kernel
theorem dX12_only_23 : decode cX12_only 23 = .ok (.istore 4, 2) := by decide +kernel
theorem dX12_only_25 : decode cX12_only 25 = .ok (.iconst 1, 1) := by decide +kernel
theorem dX12_only_26 : decode cX12_only 26 = .ok (.istore 5, 2) := by decide +kernel
theorem dX12_only_28 : decode cX12_only 28 = .ok (.iload 5, 2) := by decide +kernel
theorem dX12_only_30 : decode cX12_only 30 = .ok (.iconst 4, 1) := by decide +kernel
theorem dX12_only_31 : decode cX12_only 31 = .ok (.if_icmp .ge 76, 3) := by decide +kernel
theorem dX12_only_34 : decode cX12_only 34 = .ok (.aload_n 0, 1) := by decide +kernel
theorem dX12_only_35 : decode cX12_only 35 = .ok (.iload_n 1, 1) := by decide +kernel
theorem dX12_only_36 : decode cX12_only 36 = .ok (.iload 5, 2) := by decide +kernel
theorem dX12_only_38 : decode cX12_only 38 = .ok (.iload_n 2, 1) := by decide +kernel
theorem dX12_only_39 : decode cX12_only 39 = .ok (.bipush 7, 2) := by decide +kernel
theorem dX12_only_41 : decode cX12_only 41 = .ok (.iconst 0, 1) := by decide +kernel
theorem dX12_only_42 : decode cX12_only 42 = .ok (.invokevirtual 436, 3) := by decide +kernel
theorem dX12_only_45 : decode cX12_only 45 = .ok (.iload 4, 2) := by decide +kernel
theorem dX12_only_47 : decode cX12_only 47 = .ok (.ifCond .ne 10, 3) := by decide +kernel
theorem dX12_only_50 : decode cX12_only 50 = .ok (.aload_n 0, 1) := by decide +kernel
theorem dX12_only_51 : decode cX12_only 51 = .ok (.getfield 408, 3) := by decide +kernel
theorem dX12_only_54 : decode cX12_only 54 = .ok (.ifCond .eq 7, 3) := by decide +kernel
theorem dX12_only_57 : decode cX12_only 57 = .ok (.iconst 1, 1) := by decide +kernel
theorem dX12_only_58 : decode cX12_only 58 = .ok (.goto 4, 3) := by decide +kernel
theorem dX12_only_61 : decode cX12_only 61 = .ok (.iconst 0, 1) := by decide +kernel
theorem dX12_only_62 : decode cX12_only 62 = .ok (.istore 4, 2) := by decide +kernel
theorem dX12_only_64 : decode cX12_only 64 = .ok (.iload_n 3, 1) := by decide +kernel
theorem dX12_only_65 : decode cX12_only 65 = .ok (.ifCond .eq 34, 3) := by decide +kernel
theorem dX12_only_68 : decode cX12_only 68 = .ok (.aload_n 0, 1) := by decide +kernel
theorem dX12_only_69 : decode cX12_only 69 = .ok (.getfield 411, 3) := by decide +kernel
theorem dX12_only_72 : decode cX12_only 72 = .ok (.iconst (-1), 1) := by decide +kernel
theorem dX12_only_73 : decode cX12_only 73 = .ok (.if_icmp .eq 7, 3) := by decide +kernel
theorem dX12_only_76 : decode cX12_only 76 = .ok (.iconst 1, 1) := by decide +kernel
theorem dX12_only_77 : decode cX12_only 77 = .ok (.goto 4, 3) := by decide +kernel
theorem dX12_only_80 : decode cX12_only 80 = .ok (.iconst 0, 1) := by decide +kernel
theorem dX12_only_81 : decode cX12_only 81 = .ok (.iload 5, 2) := by decide +kernel
theorem dX12_only_83 : decode cX12_only 83 = .ok (.iconst 3, 1) := by decide +kernel
theorem dX12_only_84 : decode cX12_only 84 = .ok (.if_icmp .ne 7, 3) := by decide +kernel
theorem dX12_only_87 : decode cX12_only 87 = .ok (.iconst 1, 1) := by decide +kernel
theorem dX12_only_88 : decode cX12_only 88 = .ok (.goto 4, 3) := by decide +kernel
theorem dX12_only_91 : decode cX12_only 91 = .ok (.iconst 0, 1) := by decide +kernel
theorem dX12_only_92 : decode cX12_only 92 = .ok (.if_icmp .ne 7, 3) := by decide +kernel
theorem dX12_only_95 : decode cX12_only 95 = .ok (.iconst 1, 1) := by decide +kernel
theorem dX12_only_96 : decode cX12_only 96 = .ok (.goto 4, 3) := by decide +kernel
theorem dX12_only_99 : decode cX12_only 99 = .ok (.iconst 0, 1) := by decide +kernel
theorem dX12_only_100 : decode cX12_only 100 = .ok (.istore_n 3, 1) := by decide +kernel
theorem dX12_only_101 : decode cX12_only 101 = .ok (.iinc 5 1, 3) := by decide +kernel
theorem dX12_only_104 : decode cX12_only 104 = .ok (.goto (-76), 3) := by decide +kernel
theorem dX12_only_107 : decode cX12_only 107 = .ok (.iload 4, 2) := by decide +kernel
theorem dX12_only_109 : decode cX12_only 109 = .ok (.ifCond .eq 8, 3) := by decide +kernel
theorem dX12_only_112 : decode cX12_only 112 = .ok (.bipush (-2), 2) := by decide +kernel
theorem dX12_only_114 : decode cX12_only 114 = .ok (.goto 12, 3) := by decide +kernel
theorem dX12_only_117 : decode cX12_only 117 = .ok (.iload_n 3, 1) := by decide +kernel
theorem dX12_only_118 : decode cX12_only 118 = .ok (.ifCond .eq 7, 3) := by decide +kernel
theorem dX12_only_121 : decode cX12_only 121 = .ok (.iconst 1, 1) := by decide +kernel
theorem dX12_only_122 : decode cX12_only 122 = .ok (.goto 4, 3) := by decide +kernel
theorem dX12_only_125 : decode cX12_only 125 = .ok (.iconst 0, 1) := by decide +kernel
theorem dX12_only_126 : decode cX12_only 126 = .ok (.ireturn, 1) := by decide +kernel
theorem dX12_past_0 : decode cX12_past 0 = .ok (.iload_n 1, 1) := by decide +kernel
theorem dX12_past_1 : decode cX12_past 1 = .ok (.invokestatic 455, 3) := by decide +kernel
theorem dX12_past_4 : decode cX12_past 4 = .ok (.ifCond .eq 13, 3) := by decide +kernel
theorem dX12_past_7 : decode cX12_past 7 = .ok (.aload_n 0, 1) := by decide +kernel
theorem dX12_past_8 : decode cX12_past 8 = .ok (.getfield 470, 3) := by decide +kernel
theorem dX12_past_11 : decode cX12_past 11 = .ok (.sipush 200, 3) := by decide +kernel
theorem dX12_past_14 : decode cX12_past 14 = .ok (.if_icmp .ne 5, 3) := by decide +kernel
theorem dX12_past_17 : decode cX12_past 17 = .ok (.iconst (-1), 1) := by decide +kernel
theorem dX12_past_18 : decode cX12_past 18 = .ok (.ireturn, 1) := by decide +kernel
theorem dX12_past_19 : decode cX12_past 19 = .ok (.aload_n 0, 1) := by decide +kernel
theorem dX12_past_20 : decode cX12_past 20 = .ok (.getfield 146, 3) := by decide +kernel
theorem dX12_past_23 : decode cX12_past 23 = .ok (.aload_n 0, 1) := by decide +kernel
theorem dX12_past_24 : decode cX12_past 24 = .ok (.getfield 470, 3) := by decide +kernel
theorem dX12_past_27 : decode cX12_past 27 = .ok (.iload_n 1, 1) := by decide +kernel
theorem dX12_past_28 : decode cX12_past 28 = .ok (.iastore, 1) := by decide +kernel
theorem dX12_past_29 : decode cX12_past 29 = .ok (.aload_n 0, 1) := by decide +kernel
theorem dX12_past_30 : decode cX12_past 30 = .ok (.dup, 1) := by decide +kernel
theorem dX12_past_31 : decode cX12_past 31 = .ok (.getfield 470, 3) := by decide +kernel
theorem dX12_past_34 : decode cX12_past 34 = .ok (.iconst 1, 1) := by decide +kernel
theorem dX12_past_35 : decode cX12_past 35 = .ok (.iadd, 1) := by decide +kernel
theorem dX12_past_36 : decode cX12_past 36 = .ok (.putfield 470, 3) := by decide +kernel
theorem dX12_past_39 : decode cX12_past 39 = .ok (.aload_n 0, 1) := by decide +kernel
theorem dX12_past_40 : decode cX12_past 40 = .ok (.getfield 470, 3) := by decide +kernel
theorem dX12_past_43 : decode cX12_past 43 = .ok (.ireturn, 1) := by decide +kernel
theorem dX12_put_0 : decode cX12_put 0 = .ok (.iload_n 1, 1) := by decide +kernel
theorem dX12_put_1 : decode cX12_put 1 = .ok (.invokestatic 452, 3) := by decide +kernel
theorem dX12_put_4 : decode cX12_put 4 = .ok (.ifCond .eq 21, 3) := by decide +kernel
theorem dX12_put_7 : decode cX12_put 7 = .ok (.iload_n 2, 1) := by decide +kernel
theorem dX12_put_8 : decode cX12_put 8 = .ok (.invokestatic 455, 3) := by decide +kernel
theorem dX12_put_11 : decode cX12_put 11 = .ok (.ifCond .eq 14, 3) := by decide +kernel
theorem dX12_put_14 : decode cX12_put 14 = .ok (.aload_n 0, 1) := by decide +kernel
theorem dX12_put_15 : decode cX12_put 15 = .ok (.getfield 140, 3) := by decide +kernel
theorem dX12_put_18 : decode cX12_put 18 = .ok (.iload_n 1, 1) := by decide +kernel
theorem dX12_put_19 : decode cX12_put 19 = .ok (.iaload, 1) := by decide +kernel
theorem dX12_put_20 : decode cX12_put 20 = .ok (.bipush 12, 2) := by decide +kernel
theorem dX12_put_22 : decode cX12_put 22 = .ok (.if_icmp .ne 5, 3) := by decide +kernel
theorem dX12_put_25 : decode cX12_put 25 = .ok (.iconst (-1), 1) := by decide +kernel
theorem dX12_put_26 : decode cX12_put 26 = .ok (.ireturn, 1) := by decide +kernel
theorem dX12_put_27 : decode cX12_put 27 = .ok (.aload_n 0, 1) := by decide +kernel
theorem dX12_put_28 : decode cX12_put 28 = .ok (.getfield 137, 3) := by decide +kernel
theorem dX12_put_31 : decode cX12_put 31 = .ok (.bipush 12, 2) := by decide +kernel
theorem dX12_put_33 : decode cX12_put 33 = .ok (.iload_n 1, 1) := by decide +kernel
theorem dX12_put_34 : decode cX12_put 34 = .ok (.imul, 1) := by decide +kernel
theorem dX12_put_35 : decode cX12_put 35 = .ok (.aload_n 0, 1) := by decide +kernel
theorem dX12_put_36 : decode cX12_put 36 = .ok (.getfield 140, 3) := by decide +kernel
theorem dX12_put_39 : decode cX12_put 39 = .ok (.iload_n 1, 1) := by decide +kernel
theorem dX12_put_40 : decode cX12_put 40 = .ok (.iaload, 1) := by decide +kernel
theorem dX12_put_41 : decode cX12_put 41 = .ok (.iadd, 1) := by decide +kernel
theorem dX12_put_42 : decode cX12_put 42 = .ok (.iload_n 2, 1) := by decide +kernel
theorem dX12_put_43 : decode cX12_put 43 = .ok (.iastore, 1) := by decide +kernel
theorem dX12_put_44 : decode cX12_put 44 = .ok (.aload_n 0, 1) := by decide +kernel
theorem dX12_put_45 : decode cX12_put 45 = .ok (.getfield 140, 3) := by decide +kernel
theorem dX12_put_48 : decode cX12_put 48 = .ok (.iload_n 1, 1) := by decide +kernel
theorem dX12_put_49 : decode cX12_put 49 = .ok (.dup2, 1) := by decide +kernel
theorem dX12_put_50 : decode cX12_put 50 = .ok (.iaload, 1) := by decide +kernel
theorem dX12_put_51 : decode cX12_put 51 = .ok (.iconst 1, 1) := by decide +kernel
theorem dX12_put_52 : decode cX12_put 52 = .ok (.iadd, 1) := by decide +kernel
theorem dX12_put_53 : decode cX12_put 53 = .ok (.iastore, 1) := by decide +kernel
theorem dX12_put_54 : decode cX12_put 54 = .ok (.aload_n 0, 1) := by decide +kernel
theorem dX12_put_55 : decode cX12_put 55 = .ok (.getfield 140, 3) := by decide +kernel
theorem dX12_put_58 : decode cX12_put 58 = .ok (.iload_n 1, 1) := by decide +kernel
theorem dX12_put_59 : decode cX12_put 59 = .ok (.iaload, 1) := by decide +kernel
theorem dX12_put_60 : decode cX12_put 60 = .ok (.ireturn, 1) := by decide +kernel
theorem dX12_stop_0 : decode cX12_stop 0 = .ok (.aload_n 0, 1) := by decide +kernel
theorem dX12_stop_1 : decode cX12_stop 1 = .ok (.iload_n 1, 1) := by decide +kernel
theorem dX12_stop_2 : decode cX12_stop 2 = .ok (.invokevirtual 430, 3) := by decide +kernel
theorem dX12_stop_5 : decode cX12_stop 5 = .ok (.ifCond .eq 22, 3) := by decide +kernel
theorem dX12_stop_8 : decode cX12_stop 8 = .ok (.iload_n 2, 1) := by decide +kernel
theorem dX12_stop_9 : decode cX12_stop 9 = .ok (.iconst 0, 1) := by decide +kernel
theorem dX12_stop_10 : decode cX12_stop 10 = .ok (.bipush 6, 2) := by decide +kernel
theorem dX12_stop_12 : decode cX12_stop 12 = .ok (.invokestatic 1, 3) := by decide +kernel
theorem dX12_stop_15 : decode cX12_stop 15 = .ok (.ifCond .eq 12, 3) := by decide +kernel
theorem dX12_stop_18 : decode cX12_stop 18 = .ok (.iload_n 3, 1) := by decide +kernel
theorem dX12_stop_19 : decode cX12_stop 19 = .ok (.iconst 0, 1) := by decide +kernel
theorem dX12_stop_20 : decode cX12_stop 20 = .ok (.iconst 1, 1) := by decide +kernel
theorem dX12_stop_21 : decode cX12_stop 21 = .ok (.invokestatic 1, 3) := by decide +kernel
theorem dX12_stop_24 : decode cX12_stop 24 = .ok (.ifCond .ne 5, 3) := by decide +kernel
theorem dX12_stop_27 : decode cX12_stop 27 = .ok (.iconst (-1), 1) := by decide +kernel
theorem dX12_stop_28 : decode cX12_stop 28 = .ok (.ireturn, 1) := by decide +kernel
theorem dX12_stop_29 : decode cX12_stop 29 = .ok (.iconst 0, 1) := by decide +kernel
theorem dX12_stop_30 : decode cX12_stop 30 = .ok (.istore 4, 2) := by decide +kernel
theorem dX12_stop_32 : decode cX12_stop 32 = .ok (.iload 4, 2) := by decide +kernel
theorem dX12_stop_34 : decode cX12_stop 34 = .ok (.aload_n 0, 1) := by decide +kernel
theorem dX12_stop_35 : decode cX12_stop 35 = .ok (.getfield 358, 3) := by decide +kernel
theorem dX12_stop_38 : decode cX12_stop 38 = .ok (.if_icmp .gt 89, 3) := by decide +kernel
theorem dX12_stop_41 : decode cX12_stop 41 = .ok (.iconst 0, 1) := by decide +kernel
theorem dX12_stop_42 : decode cX12_stop 42 = .ok (.istore 5, 2) := by decide +kernel
theorem dX12_stop_44 : decode cX12_stop 44 = .ok (.iload 5, 2) := by decide +kernel
theorem dX12_stop_46 : decode cX12_stop 46 = .ok (.iconst 1, 1) := by decide +kernel
theorem dX12_stop_47 : decode cX12_stop 47 = .ok (.aload_n 0, 1) := by decide +kernel
theorem dX12_stop_48 : decode cX12_stop 48 = .ok (.getfield 358, 3) := by decide +kernel
theorem dX12_stop_51 : decode cX12_stop 51 = .ok (.ishl, 1) := by decide +kernel
theorem dX12_stop_52 : decode cX12_stop 52 = .ok (.if_icmp .ge 69, 3) := by decide +kernel
theorem dX12_stop_55 : decode cX12_stop 55 = .ok (.iload 5, 2) := by decide +kernel
theorem dX12_stop_57 : decode cX12_stop 57 = .ok (.invokestatic 442, 3) := by decide +kernel
theorem dX12_stop_60 : decode cX12_stop 60 = .ok (.iload 4, 2) := by decide +kernel
theorem dX12_stop_62 : decode cX12_stop 62 = .ok (.if_icmp .ne 53, 3) := by decide +kernel
theorem dX12_stop_65 : decode cX12_stop 65 = .ok (.aload_n 0, 1) := by decide +kernel
theorem dX12_stop_66 : decode cX12_stop 66 = .ok (.iload 5, 2) := by decide +kernel
theorem dX12_stop_68 : decode cX12_stop 68 = .ok (.invokevirtual 467, 3) := by decide +kernel
theorem dX12_stop_71 : decode cX12_stop 71 = .ok (.ifCond .ne 6, 3) := by decide +kernel
theorem dX12_stop_74 : decode cX12_stop 74 = .ok (.goto 41, 3) := by decide +kernel
theorem dX12_stop_77 : decode cX12_stop 77 = .ok (.aload_n 0, 1) := by decide +kernel
theorem dX12_stop_78 : decode cX12_stop 78 = .ok (.iload_n 1, 1) := by decide +kernel
theorem dX12_stop_79 : decode cX12_stop 79 = .ok (.iconst 3, 1) := by decide +kernel
theorem dX12_stop_80 : decode cX12_stop 80 = .ok (.iload_n 2, 1) := by decide +kernel
theorem dX12_stop_81 : decode cX12_stop 81 = .ok (.bipush 7, 2) := by decide +kernel
theorem dX12_stop_83 : decode cX12_stop 83 = .ok (.iload 5, 2) := by decide +kernel
theorem dX12_stop_85 : decode cX12_stop 85 = .ok (.invokevirtual 436, 3) := by decide +kernel
theorem dX12_stop_88 : decode cX12_stop 88 = .ok (.aload_n 0, 1) := by decide +kernel
theorem dX12_stop_89 : decode cX12_stop 89 = .ok (.getfield 411, 3) := by decide +kernel
theorem dX12_stop_92 : decode cX12_stop 92 = .ok (.iconst (-1), 1) := by decide +kernel
theorem dX12_stop_93 : decode cX12_stop 93 = .ok (.if_icmp .ne 22, 3) := by decide +kernel
theorem dX12_stop_96 : decode cX12_stop 96 = .ok (.aload_n 0, 1) := by decide +kernel
theorem dX12_stop_97 : decode cX12_stop 97 = .ok (.getfield 408, 3) := by decide +kernel
theorem dX12_stop_100 : decode cX12_stop 100 = .ok (.ifCond .ne 15, 3) := by decide +kernel
theorem dX12_stop_103 : decode cX12_stop 103 = .ok (.iload_n 3, 1) := by decide +kernel
theorem dX12_stop_104 : decode cX12_stop 104 = .ok (.ifCond .ne 8, 3) := by decide +kernel
theorem dX12_stop_107 : decode cX12_stop 107 = .ok (.iload 5, 2) := by decide +kernel
theorem dX12_stop_109 : decode cX12_stop 109 = .ok (.goto 5, 3) := by decide +kernel
theorem dX12_stop_112 : decode cX12_stop 112 = .ok (.iload 4, 2) := by decide +kernel
theorem dX12_stop_114 : decode cX12_stop 114 = .ok (.ireturn, 1) := by decide +kernel
theorem dX12_stop_115 : decode cX12_stop 115 = .ok (.iinc 5 1, 3) := by decide +kernel
theorem dX12_stop_118 : decode cX12_stop 118 = .ok (.goto (-74), 3) := by decide +kernel
theorem dX12_stop_121 : decode cX12_stop 121 = .ok (.iinc 4 1, 3) := by decide +kernel
theorem dX12_stop_124 : decode cX12_stop 124 = .ok (.goto (-92), 3) := by decide +kernel
theorem dX12_stop_127 : decode cX12_stop 127 = .ok (.iconst (-1), 1) := by decide +kernel
theorem dX12_stop_128 : decode cX12_stop 128 = .ok (.ireturn, 1) := by decide +kernel
theorem dX12_through_0 : decode cX12_through 0 = .ok (.iload_n 1, 1) := by decide +kernel
theorem dX12_through_1 : decode cX12_through 1 = .ok (.invokestatic 452, 3) := by decide +kernel
theorem dX12_through_4 : decode cX12_through 4 = .ok (.ifCond .eq 21, 3) := by decide +kernel
theorem dX12_through_7 : decode cX12_through 7 = .ok (.aload_n 0, 1) := by decide +kernel
theorem dX12_through_8 : decode cX12_through 8 = .ok (.getfield 140, 3) := by decide +kernel
theorem dX12_through_11 : decode cX12_through 11 = .ok (.iload_n 1, 1) := by decide +kernel
theorem dX12_through_12 : decode cX12_through 12 = .ok (.iaload, 1) := by decide +kernel
theorem dX12_through_13 : decode cX12_through 13 = .ok (.ifCond .eq 12, 3) := by decide +kernel
theorem dX12_through_16 : decode cX12_through 16 = .ok (.iload_n 2, 1) := by decide +kernel
theorem dX12_through_17 : decode cX12_through 17 = .ok (.iconst 0, 1) := by decide +kernel
theorem dX12_through_18 : decode cX12_through 18 = .ok (.iconst 1, 1) := by decide +kernel
theorem dX12_through_19 : decode cX12_through 19 = .ok (.invokestatic 1, 3) := by decide +kernel
theorem dX12_through_22 : decode cX12_through 22 = .ok (.ifCond .ne 5, 3) := by decide +kernel
theorem dX12_through_25 : decode cX12_through 25 = .ok (.iconst (-1), 1) := by decide +kernel
theorem dX12_through_26 : decode cX12_through 26 = .ok (.ireturn, 1) := by decide +kernel
theorem dX12_through_27 : decode cX12_through 27 = .ok (.iconst (-1), 1) := by decide +kernel
theorem dX12_through_28 : decode cX12_through 28 = .ok (.istore_n 3, 1) := by decide +kernel
theorem dX12_through_29 : decode cX12_through 29 = .ok (.iconst 0, 1) := by decide +kernel
theorem dX12_through_30 : decode cX12_through 30 = .ok (.istore 4, 2) := by decide +kernel
theorem dX12_through_32 : decode cX12_through 32 = .ok (.iconst 0, 1) := by decide +kernel
theorem dX12_through_33 : decode cX12_through 33 = .ok (.istore 5, 2) := by decide +kernel
theorem dX12_through_35 : decode cX12_through 35 = .ok (.iload 5, 2) := by decide +kernel
theorem dX12_through_37 : decode cX12_through 37 = .ok (.bipush 36, 2) := by decide +kernel
theorem dX12_through_39 : decode cX12_through 39 = .ok (.if_icmp .ge 46, 3) := by decide +kernel
theorem dX12_through_42 : decode cX12_through 42 = .ok (.aload_n 0, 1) := by decide +kernel
theorem dX12_through_43 : decode cX12_through 43 = .ok (.iload_n 1, 1) := by decide +kernel
theorem dX12_through_44 : decode cX12_through 44 = .ok (.iload 5, 2) := by decide +kernel
theorem dX12_through_46 : decode cX12_through 46 = .ok (.invokevirtual 476, 3) := by decide +kernel
theorem dX12_through_49 : decode cX12_through 49 = .ok (.istore 6, 2) := by decide +kernel
theorem dX12_through_51 : decode cX12_through 51 = .ok (.iload 6, 2) := by decide +kernel
theorem dX12_through_53 : decode cX12_through 53 = .ok (.iconst (-1), 1) := by decide +kernel
theorem dX12_through_54 : decode cX12_through 54 = .ok (.if_icmp .eq 25, 3) := by decide +kernel
theorem dX12_through_57 : decode cX12_through 57 = .ok (.iload_n 3, 1) := by decide +kernel
theorem dX12_through_58 : decode cX12_through 58 = .ok (.iconst (-1), 1) := by decide +kernel
theorem dX12_through_59 : decode cX12_through 59 = .ok (.if_icmp .eq 13, 3) := by decide +kernel
theorem dX12_through_62 : decode cX12_through 62 = .ok (.iload 6, 2) := by decide +kernel
theorem dX12_through_64 : decode cX12_through 64 = .ok (.iload 4, 2) := by decide +kernel
theorem dX12_through_66 : decode cX12_through 66 = .ok (.if_icmp .lt 6, 3) := by decide +kernel
theorem dX12_through_69 : decode cX12_through 69 = .ok (.goto 10, 3) := by decide +kernel
theorem dX12_through_72 : decode cX12_through 72 = .ok (.iload 5, 2) := by decide +kernel
theorem dX12_through_74 : decode cX12_through 74 = .ok (.istore_n 3, 1) := by decide +kernel
theorem dX12_through_75 : decode cX12_through 75 = .ok (.iload 6, 2) := by decide +kernel
theorem dX12_through_77 : decode cX12_through 77 = .ok (.istore 4, 2) := by decide +kernel
theorem dX12_through_79 : decode cX12_through 79 = .ok (.iinc 5 1, 3) := by decide +kernel
theorem dX12_through_82 : decode cX12_through 82 = .ok (.goto (-47), 3) := by decide +kernel
theorem dX12_through_85 : decode cX12_through 85 = .ok (.iload_n 3, 1) := by decide +kernel
theorem dX12_through_86 : decode cX12_through 86 = .ok (.iconst (-1), 1) := by decide +kernel
theorem dX12_through_87 : decode cX12_through 87 = .ok (.if_icmp .eq 7, 3) := by decide +kernel
theorem dX12_through_90 : decode cX12_through 90 = .ok (.iload_n 2, 1) := by decide +kernel
theorem dX12_through_91 : decode cX12_through 91 = .ok (.ifCond .ne 15, 3) := by decide +kernel
theorem dX12_through_94 : decode cX12_through 94 = .ok (.iload_n 3, 1) := by decide +kernel
theorem dX12_through_95 : decode cX12_through 95 = .ok (.iconst (-1), 1) := by decide +kernel
theorem dX12_through_96 : decode cX12_through 96 = .ok (.if_icmp .ne 7, 3) := by decide +kernel
theorem dX12_through_99 : decode cX12_through 99 = .ok (.iconst (-1), 1) := by decide +kernel
theorem dX12_through_100 : decode cX12_through 100 = .ok (.goto 5, 3) := by decide +kernel
theorem dX12_through_103 : decode cX12_through 103 = .ok (.iload 4, 2) := by decide +kernel
theorem dX12_through_105 : decode cX12_through 105 = .ok (.ireturn, 1) := by decide +kernel
theorem dX12_through_106 : decode cX12_through 106 = .ok (.iconst 0, 1) := by decide +kernel
theorem dX12_through_107 : decode cX12_through 107 = .ok (.istore 5, 2) := by decide +kernel
theorem dX12_through_109 : decode cX12_through 109 = .ok (.iconst 0, 1) := by decide +kernel
theorem dX12_through_110 : decode cX12_through 110 = .ok (.istore 6, 2) := by decide +kernel
theorem dX12_through_112 : decode cX12_through 112 = .ok (.iload 6, 2) := by decide +kernel
theorem dX12_through_114 : decode cX12_through 114 = .ok (.iconst 3, 1) := by decide +kernel
theorem dX12_through_115 : decode cX12_through 115 = .ok (.if_icmp .ge 27, 3) := by decide +kernel
theorem dX12_through_118 : decode cX12_through 118 = .ok (.bipush 10, 2) := by decide +kernel
theorem dX12_through_120 : decode cX12_through 120 = .ok (.iload 5, 2) := by decide +kernel
theorem dX12_through_122 : decode cX12_through 122 = .ok (.imul, 1) := by decide +kernel
theorem dX12_through_123 : decode cX12_through 123 = .ok (.aload_n 0, 1) := by decide +kernel
theorem dX12_through_124 : decode cX12_through 124 = .ok (.iload_n 3, 1) := by decide +kernel
theorem dX12_through_125 : decode cX12_through 125 = .ok (.bipush 6, 2) := by decide +kernel
theorem dX12_through_127 : decode cX12_through 127 = .ok (.idiv, 1) := by decide +kernel
theorem dX12_through_128 : decode cX12_through 128 = .ok (.iload 6, 2) := by decide +kernel
theorem dX12_through_130 : decode cX12_through 130 = .ok (.invokevirtual 445, 3) := by decide +kernel
theorem dX12_through_133 : decode cX12_through 133 = .ok (.iadd, 1) := by decide +kernel
theorem dX12_through_134 : decode cX12_through 134 = .ok (.istore 5, 2) := by decide +kernel
theorem dX12_through_136 : decode cX12_through 136 = .ok (.iinc 6 1, 3) := by decide +kernel
theorem dX12_through_139 : decode cX12_through 139 = .ok (.goto (-27), 3) := by decide +kernel
theorem dX12_through_142 : decode cX12_through 142 = .ok (.iconst 0, 1) := by decide +kernel
theorem dX12_through_143 : decode cX12_through 143 = .ok (.istore 6, 2) := by decide +kernel
theorem dX12_through_145 : decode cX12_through 145 = .ok (.iload 6, 2) := by decide +kernel
theorem dX12_through_147 : decode cX12_through 147 = .ok (.iconst 3, 1) := by decide +kernel
theorem dX12_through_148 : decode cX12_through 148 = .ok (.if_icmp .ge 27, 3) := by decide +kernel
theorem dX12_through_151 : decode cX12_through 151 = .ok (.bipush 10, 2) := by decide +kernel
theorem dX12_through_153 : decode cX12_through 153 = .ok (.iload 5, 2) := by decide +kernel
theorem dX12_through_155 : decode cX12_through 155 = .ok (.imul, 1) := by decide +kernel
theorem dX12_through_156 : decode cX12_through 156 = .ok (.aload_n 0, 1) := by decide +kernel
theorem dX12_through_157 : decode cX12_through 157 = .ok (.iload_n 3, 1) := by decide +kernel
theorem dX12_through_158 : decode cX12_through 158 = .ok (.bipush 6, 2) := by decide +kernel
theorem dX12_through_160 : decode cX12_through 160 = .ok (.irem, 1) := by decide +kernel
theorem dX12_through_161 : decode cX12_through 161 = .ok (.iload 6, 2) := by decide +kernel
theorem dX12_through_163 : decode cX12_through 163 = .ok (.invokevirtual 445, 3) := by decide +kernel
theorem dX12_through_166 : decode cX12_through 166 = .ok (.iadd, 1) := by decide +kernel
theorem dX12_through_167 : decode cX12_through 167 = .ok (.istore 5, 2) := by decide +kernel
theorem dX12_through_169 : decode cX12_through 169 = .ok (.iinc 6 1, 3) := by decide +kernel
theorem dX12_through_172 : decode cX12_through 172 = .ok (.goto (-27), 3) := by decide +kernel
theorem dX12_through_175 : decode cX12_through 175 = .ok (.iload 5, 2) := by decide +kernel
theorem dX12_through_177 : decode cX12_through 177 = .ok (.ireturn, 1) := by decide +kernel
theorem dX7_add_0 : decode cX7_add 0 = .ok (.aload_n 0, 1) := by decide +kernel
theorem dX7_add_1 : decode cX7_add 1 = .ok (.getfield 9, 3) := by decide +kernel
theorem dX7_add_4 : decode cX7_add 4 = .ok (.ifCond .lt 15, 3) := by decide +kernel
theorem dX7_add_7 : decode cX7_add 7 = .ok (.aload_n 0, 1) := by decide +kernel
theorem dX7_add_8 : decode cX7_add 8 = .ok (.getfield 9, 3) := by decide +kernel
theorem dX7_add_11 : decode cX7_add 11 = .ok (.aload_n 0, 1) := by decide +kernel
theorem dX7_add_12 : decode cX7_add 12 = .ok (.getfield 25, 3) := by decide +kernel
theorem dX7_add_15 : decode cX7_add 15 = .ok (.arraylength, 1) := by decide +kernel
theorem dX7_add_16 : decode cX7_add 16 = .ok (.if_icmp .lt 5, 3) := by decide +kernel
theorem dX7_add_19 : decode cX7_add 19 = .ok (.iconst (-1), 1) := by decide +kernel
theorem dX7_add_20 : decode cX7_add 20 = .ok (.ireturn, 1) := by decide +kernel
theorem dX7_add_21 : decode cX7_add 21 = .ok (.aload_n 0, 1) := by decide +kernel
theorem dX7_add_22 : decode cX7_add 22 = .ok (.getfield 25, 3) := by decide +kernel
theorem dX7_add_25 : decode cX7_add 25 = .ok (.aload_n 0, 1) := by decide +kernel
theorem dX7_add_26 : decode cX7_add 26 = .ok (.getfield 9, 3) := by decide +kernel
theorem dX7_add_29 : decode cX7_add 29 = .ok (.iload_n 1, 1) := by decide +kernel
theorem dX7_add_30 : decode cX7_add 30 = .ok (.iastore, 1) := by decide +kernel
theorem dX7_add_31 : decode cX7_add 31 = .ok (.aload_n 0, 1) := by decide +kernel
theorem dX7_add_32 : decode cX7_add 32 = .ok (.dup, 1) := by decide +kernel
theorem dX7_add_33 : decode cX7_add 33 = .ok (.getfield 9, 3) := by decide +kernel
theorem dX7_add_36 : decode cX7_add 36 = .ok (.iconst 1, 1) := by decide +kernel
theorem dX7_add_37 : decode cX7_add 37 = .ok (.iadd, 1) := by decide +kernel
theorem dX7_add_38 : decode cX7_add 38 = .ok (.putfield 9, 3) := by decide +kernel
theorem dX7_add_41 : decode cX7_add 41 = .ok (.aload_n 0, 1) := by decide +kernel
theorem dX7_add_42 : decode cX7_add 42 = .ok (.getfield 9, 3) := by decide +kernel
theorem dX7_add_45 : decode cX7_add 45 = .ok (.ireturn, 1) := by decide +kernel
set_option maxHeartbeats 4000000 in
set_option maxRecDepth 100000 in
theorem c_X11_isRow {l : Launch} {D : va_G} {cy : Nat → ClassId} {T0 tB tE : Nat} {a : Nat → Nat} {rw : Nat → Option Nat} (S : GS) (p0 : Int32)  (hr_p0 : (-2147483648) ≤ p0.toInt ∧ p0.toInt ≤ (-1)) : Ct l D cy T0 tB tE yX11_isRow cX11_isRow 1 (some .boolean) 0 0 0 0 (cw cy tE a rw S) [.int p0] (QI D (U := GS) (fun r u => 0 = r ∧ S = u) (cw cy tE a rw)) := by
  refine Ct.ofZ RX11 "isRow" [(0, .int p0)] rfl rfl rfl rfl (Nat.le_of_ble_eq_true rfl) ?_
  intro p e R s m args below meth c A b
  refine z_iload_n b dX11_isRow_0 rfl rfl ?_
  refine y_if_lt (tgt := 14) (xl := p0.toInt) b rfl dX11_isRow_1 (by decide) (fun c3763 => ?_) (fun c3763 => ?_)
  · refine z_iconst (v := 0) b dX11_isRow_14 (by decide) ?_
    exact z_zret (u := S) b rfl (by decide) dX11_isRow_15 ⟨rfl, rfl⟩ rfl (by decide) (by decide)
  · exfalso; omega

set_option maxHeartbeats 4000000 in
set_option maxRecDepth 100000 in
theorem c_X11_put {l : Launch} {D : va_G} {cy : Nat → ClassId} {T0 tB tE : Nat} {a : Nat → Nat} {rw : Nat → Option Nat} (S : GS) (p0 : Int32) (p1 : Int32)  (hr_p0 : (-2147483648) ≤ p0.toInt ∧ p0.toInt ≤ (-1)) : Ct l D cy T0 tB tE yX11_put cX11_put 3 (some .int) 1 20 0 0 (cw cy tE a rw S) [.ref (a 0), .int p0, .int p1] (QI D (U := GS) (fun r u => (-1) = r ∧ S = u) (cw cy tE a rw)) := by
  refine Ct.ofZ RX11 "put" [(0, .ref (a 0)), (1, .int p0), (2, .int p1)] rfl rfl rfl rfl (Nat.le_of_ble_eq_true rfl) ?_
  intro p e R s m args below meth c A b
  refine z_iload_n b dX11_put_0 rfl rfl ?_
  refine z_calli b (z_runS (As := [.int p0]) (st := []) b (c_X11_isRow S p0 ⟨by omega, by omega⟩) cf_X11_isRow wm_X11_169 ws_X11_isRow dX11_put_1 rfl (Nat.le_of_ble_eq_true rfl) ⟨by decide, by decide, by decide, by decide⟩) (fun r3765 u3766 h3764 => ?_)
  obtain ⟨rfl, rfl⟩ := h3764
  refine z_if_eq_t (tgt := 17) b dX11_put_4 (by decide) (by decide) ?_
  refine z_iconst (v := (-1)) b dX11_put_17 (by decide) ?_
  exact z_iret (u := S) b rfl dX11_put_18 ⟨rfl, rfl⟩ rfl (by decide) (by decide)

set_option maxHeartbeats 4000000 in
set_option maxRecDepth 100000 in
theorem c_X12_isIn_37 {l : Launch} {D : va_G} {cy : Nat → ClassId} {T0 tB tE : Nat} {a : Nat → Nat} (S : GS) (p0 : Int32)  (hr_p0 : (-2147483648) ≤ p0.toInt ∧ p0.toInt ≤ (-1)) : Ct l D cy T0 tB tE yX12_isIn cX12_isIn 3 (some .boolean) 0 0 0 0 (mw cy a S) [.int p0, .int 0, .int 5] (QI D (U := GS) (fun r u => 0 = r ∧ S = u) (mw cy a)) := by
  refine Ct.ofZ RX12 "isIn" [(0, .int p0), (1, .int 0), (2, .int 5)] rfl rfl rfl rfl (Nat.le_of_ble_eq_true rfl) ?_
  intro p e R s m args below meth c A b
  refine z_iload_n b dX12_isIn_0 rfl rfl ?_
  refine z_iload_n b dX12_isIn_1 rfl rfl ?_
  refine y_icmp_lt (tgt := 14) (xl := p0.toInt) (yl := 0) b rfl (by decide) dX12_isIn_2 (by decide) (fun c3767 => ?_) (fun c3767 => ?_)
  · refine z_iconst (v := 0) b dX12_isIn_14 (by decide) ?_
    exact z_zret (u := S) b rfl (by decide) dX12_isIn_15 ⟨rfl, rfl⟩ rfl (by decide) (by decide)
  · exfalso; omega

set_option maxHeartbeats 4000000 in
set_option maxRecDepth 100000 in
theorem c_X12_isRow {l : Launch} {D : va_G} {cy : Nat → ClassId} {T0 tB tE : Nat} {a : Nat → Nat} (S : GS) (p0 : Int32)  (hr_p0 : (-2147483648) ≤ p0.toInt ∧ p0.toInt ≤ (-1)) : Ct l D cy T0 tB tE yX12_isRow cX12_isRow 1 (some .boolean) 1 22 0 0 (mw cy a S) [.int p0] (QI D (U := GS) (fun r u => 0 = r ∧ S = u) (mw cy a)) := by
  refine Ct.ofZ RX12 "isRow" [(0, .int p0)] rfl rfl rfl rfl (Nat.le_of_ble_eq_true rfl) ?_
  intro p e R s m args below meth c A b
  refine z_iload_n b dX12_isRow_0 rfl rfl ?_
  refine z_iconst (v := 0) b dX12_isRow_1 (by decide) ?_
  refine z_iconst (v := 5) b dX12_isRow_2 (by decide) ?_
  refine z_calli b (z_runS (As := [.int p0, .int 0, .int 5]) (st := []) b (c_X12_isIn_37 S p0 ⟨by omega, by omega⟩) cf_X12_isIn wm_X12_1 ws_X12_isIn dX12_isRow_3 rfl (Nat.le_of_ble_eq_true rfl) ⟨by decide, by decide, by decide, by decide⟩) (fun r3769 u3770 h3768 => ?_)
  obtain ⟨rfl, rfl⟩ := h3768
  exact z_zret (u := S) b rfl (by decide) dX12_isRow_6 ⟨rfl, rfl⟩ rfl (by decide) (by decide)

set_option maxHeartbeats 4000000 in
set_option maxRecDepth 100000 in
theorem c_X12_put {l : Launch} {D : va_G} {cy : Nat → ClassId} {T0 tB tE : Nat} {a : Nat → Nat} (S : GS) (p0 : Int32) (p1 : Int32)  (hr_p0 : (-2147483648) ≤ p0.toInt ∧ p0.toInt ≤ (-1)) : Ct l D cy T0 tB tE yX12_put cX12_put 3 (some .int) 2 42 0 0 (mw cy a S) [.ref (a 0), .int p0, .int p1] (QI D (U := GS) (fun r u => (-1) = r ∧ S = u) (mw cy a)) := by
  refine Ct.ofZ RX12 "put" [(0, .ref (a 0)), (1, .int p0), (2, .int p1)] rfl rfl rfl rfl (Nat.le_of_ble_eq_true rfl) ?_
  intro p e R s m args below meth c A b
  refine z_iload_n b dX12_put_0 rfl rfl ?_
  refine z_calli b (z_runS (As := [.int p0]) (st := []) b (c_X12_isRow S p0 ⟨by omega, by omega⟩) cf_X12_isRow wm_X12_452 ws_X12_isRow dX12_put_1 rfl (Nat.le_of_ble_eq_true rfl) ⟨by decide, by decide, by decide, by decide⟩) (fun r3772 u3773 h3771 => ?_)
  obtain ⟨rfl, rfl⟩ := h3771
  refine z_if_eq_t (tgt := 25) b dX12_put_4 (by decide) (by decide) ?_
  refine z_iconst (v := (-1)) b dX12_put_25 (by decide) ?_
  exact z_iret (u := S) b rfl dX12_put_26 ⟨rfl, rfl⟩ rfl (by decide) (by decide)

set_option maxHeartbeats 4000000 in
set_option maxRecDepth 100000 in
theorem c_X11_isRow_2 {l : Launch} {D : va_G} {cy : Nat → ClassId} {T0 tB tE : Nat} {a : Nat → Nat} {rw : Nat → Option Nat} (S : GS) (p0 : Int32)  (hr_p0 : 6 ≤ p0.toInt ∧ p0.toInt ≤ 2147483647) : Ct l D cy T0 tB tE yX11_isRow cX11_isRow 1 (some .boolean) 0 0 0 0 (cw cy tE a rw S) [.int p0] (QI D (U := GS) (fun r u => 0 = r ∧ S = u) (cw cy tE a rw)) := by
  refine Ct.ofZ RX11 "isRow" [(0, .int p0)] rfl rfl rfl rfl (Nat.le_of_ble_eq_true rfl) ?_
  intro p e R s m args below meth c A b
  refine z_iload_n b dX11_isRow_0 rfl rfl ?_
  refine y_if_lt (tgt := 14) (xl := p0.toInt) b rfl dX11_isRow_1 (by decide) (fun c3774 => ?_) (fun c3774 => ?_)
  · exfalso; omega
  · refine z_iload_n b dX11_isRow_4 rfl rfl ?_
    refine z_bipush (v := 6) b dX11_isRow_5 (by decide) ?_
    refine y_icmp_ge (tgt := 14) (xl := p0.toInt) (yl := 6) b rfl (by decide) dX11_isRow_7 (by decide) (fun c3775 => ?_) (fun c3775 => ?_)
    · refine z_iconst (v := 0) b dX11_isRow_14 (by decide) ?_
      exact z_zret (u := S) b rfl (by decide) dX11_isRow_15 ⟨rfl, rfl⟩ rfl (by decide) (by decide)
    · exfalso; omega

set_option maxHeartbeats 4000000 in
set_option maxRecDepth 100000 in
theorem c_X11_put_2 {l : Launch} {D : va_G} {cy : Nat → ClassId} {T0 tB tE : Nat} {a : Nat → Nat} {rw : Nat → Option Nat} (S : GS) (p0 : Int32) (p1 : Int32)  (hr_p0 : 6 ≤ p0.toInt ∧ p0.toInt ≤ 2147483647) : Ct l D cy T0 tB tE yX11_put cX11_put 3 (some .int) 1 20 0 0 (cw cy tE a rw S) [.ref (a 0), .int p0, .int p1] (QI D (U := GS) (fun r u => (-1) = r ∧ S = u) (cw cy tE a rw)) := by
  refine Ct.ofZ RX11 "put" [(0, .ref (a 0)), (1, .int p0), (2, .int p1)] rfl rfl rfl rfl (Nat.le_of_ble_eq_true rfl) ?_
  intro p e R s m args below meth c A b
  refine z_iload_n b dX11_put_0 rfl rfl ?_
  refine z_calli b (z_runS (As := [.int p0]) (st := []) b (c_X11_isRow_2 S p0 ⟨by omega, by omega⟩) cf_X11_isRow wm_X11_169 ws_X11_isRow dX11_put_1 rfl (Nat.le_of_ble_eq_true rfl) ⟨by decide, by decide, by decide, by decide⟩) (fun r3777 u3778 h3776 => ?_)
  obtain ⟨rfl, rfl⟩ := h3776
  refine z_if_eq_t (tgt := 17) b dX11_put_4 (by decide) (by decide) ?_
  refine z_iconst (v := (-1)) b dX11_put_17 (by decide) ?_
  exact z_iret (u := S) b rfl dX11_put_18 ⟨rfl, rfl⟩ rfl (by decide) (by decide)

set_option maxHeartbeats 4000000 in
set_option maxRecDepth 100000 in
theorem c_X12_isIn_38 {l : Launch} {D : va_G} {cy : Nat → ClassId} {T0 tB tE : Nat} {a : Nat → Nat} (S : GS) (p0 : Int32)  (hr_p0 : 6 ≤ p0.toInt ∧ p0.toInt ≤ 2147483647) : Ct l D cy T0 tB tE yX12_isIn cX12_isIn 3 (some .boolean) 0 0 0 0 (mw cy a S) [.int p0, .int 0, .int 5] (QI D (U := GS) (fun r u => 0 = r ∧ S = u) (mw cy a)) := by
  refine Ct.ofZ RX12 "isIn" [(0, .int p0), (1, .int 0), (2, .int 5)] rfl rfl rfl rfl (Nat.le_of_ble_eq_true rfl) ?_
  intro p e R s m args below meth c A b
  refine z_iload_n b dX12_isIn_0 rfl rfl ?_
  refine z_iload_n b dX12_isIn_1 rfl rfl ?_
  refine y_icmp_lt (tgt := 14) (xl := p0.toInt) (yl := 0) b rfl (by decide) dX12_isIn_2 (by decide) (fun c3779 => ?_) (fun c3779 => ?_)
  · exfalso; omega
  · refine z_iload_n b dX12_isIn_5 rfl rfl ?_
    refine z_iload_n b dX12_isIn_6 rfl rfl ?_
    refine y_icmp_gt (tgt := 14) (xl := p0.toInt) (yl := 5) b rfl (by decide) dX12_isIn_7 (by decide) (fun c3780 => ?_) (fun c3780 => ?_)
    · refine z_iconst (v := 0) b dX12_isIn_14 (by decide) ?_
      exact z_zret (u := S) b rfl (by decide) dX12_isIn_15 ⟨rfl, rfl⟩ rfl (by decide) (by decide)
    · exfalso; omega

set_option maxHeartbeats 4000000 in
set_option maxRecDepth 100000 in
theorem c_X12_isRow_2 {l : Launch} {D : va_G} {cy : Nat → ClassId} {T0 tB tE : Nat} {a : Nat → Nat} (S : GS) (p0 : Int32)  (hr_p0 : 6 ≤ p0.toInt ∧ p0.toInt ≤ 2147483647) : Ct l D cy T0 tB tE yX12_isRow cX12_isRow 1 (some .boolean) 1 22 0 0 (mw cy a S) [.int p0] (QI D (U := GS) (fun r u => 0 = r ∧ S = u) (mw cy a)) := by
  refine Ct.ofZ RX12 "isRow" [(0, .int p0)] rfl rfl rfl rfl (Nat.le_of_ble_eq_true rfl) ?_
  intro p e R s m args below meth c A b
  refine z_iload_n b dX12_isRow_0 rfl rfl ?_
  refine z_iconst (v := 0) b dX12_isRow_1 (by decide) ?_
  refine z_iconst (v := 5) b dX12_isRow_2 (by decide) ?_
  refine z_calli b (z_runS (As := [.int p0, .int 0, .int 5]) (st := []) b (c_X12_isIn_38 S p0 ⟨by omega, by omega⟩) cf_X12_isIn wm_X12_1 ws_X12_isIn dX12_isRow_3 rfl (Nat.le_of_ble_eq_true rfl) ⟨by decide, by decide, by decide, by decide⟩) (fun r3782 u3783 h3781 => ?_)
  obtain ⟨rfl, rfl⟩ := h3781
  exact z_zret (u := S) b rfl (by decide) dX12_isRow_6 ⟨rfl, rfl⟩ rfl (by decide) (by decide)

set_option maxHeartbeats 4000000 in
set_option maxRecDepth 100000 in
theorem c_X12_put_2 {l : Launch} {D : va_G} {cy : Nat → ClassId} {T0 tB tE : Nat} {a : Nat → Nat} (S : GS) (p0 : Int32) (p1 : Int32)  (hr_p0 : 6 ≤ p0.toInt ∧ p0.toInt ≤ 2147483647) : Ct l D cy T0 tB tE yX12_put cX12_put 3 (some .int) 2 42 0 0 (mw cy a S) [.ref (a 0), .int p0, .int p1] (QI D (U := GS) (fun r u => (-1) = r ∧ S = u) (mw cy a)) := by
  refine Ct.ofZ RX12 "put" [(0, .ref (a 0)), (1, .int p0), (2, .int p1)] rfl rfl rfl rfl (Nat.le_of_ble_eq_true rfl) ?_
  intro p e R s m args below meth c A b
  refine z_iload_n b dX12_put_0 rfl rfl ?_
  refine z_calli b (z_runS (As := [.int p0]) (st := []) b (c_X12_isRow_2 S p0 ⟨by omega, by omega⟩) cf_X12_isRow wm_X12_452 ws_X12_isRow dX12_put_1 rfl (Nat.le_of_ble_eq_true rfl) ⟨by decide, by decide, by decide, by decide⟩) (fun r3785 u3786 h3784 => ?_)
  obtain ⟨rfl, rfl⟩ := h3784
  refine z_if_eq_t (tgt := 25) b dX12_put_4 (by decide) (by decide) ?_
  refine z_iconst (v := (-1)) b dX12_put_25 (by decide) ?_
  exact z_iret (u := S) b rfl dX12_put_26 ⟨rfl, rfl⟩ rfl (by decide) (by decide)

set_option maxHeartbeats 4000000 in
set_option maxRecDepth 100000 in
theorem c_X11_isRow_3 {l : Launch} {D : va_G} {cy : Nat → ClassId} {T0 tB tE : Nat} {a : Nat → Nat} {rw : Nat → Option Nat} (S : GS)   : Ct l D cy T0 tB tE yX11_isRow cX11_isRow 1 (some .boolean) 0 0 0 0 (cw cy tE a rw S) [.int 0] (QI D (U := GS) (fun r u => 1 = r ∧ S = u) (cw cy tE a rw)) := by
  refine Ct.ofZ RX11 "isRow" [(0, .int 0)] rfl rfl rfl rfl (Nat.le_of_ble_eq_true rfl) ?_
  intro p e R s m args below meth c A b
  refine z_iload_n b dX11_isRow_0 rfl rfl ?_
  refine z_if_lt_f (tgt := 14) b dX11_isRow_1 (by decide) (by decide) ?_
  refine z_iload_n b dX11_isRow_4 rfl rfl ?_
  refine z_bipush (v := 6) b dX11_isRow_5 (by decide) ?_
  refine z_icmp_ge_f (tgt := 14) b dX11_isRow_7 (by decide) (by decide) ?_
  refine z_iconst (v := 1) b dX11_isRow_10 (by decide) ?_
  refine z_goto (tgt := 15) b dX11_isRow_11 (by decide) ?_
  exact z_zret (u := S) b rfl (by decide) dX11_isRow_15 ⟨rfl, rfl⟩ rfl (by decide) (by decide)

set_option maxHeartbeats 4000000 in
set_option maxRecDepth 100000 in
theorem c_X11_isWithin_20 {l : Launch} {D : va_G} {cy : Nat → ClassId} {T0 tB tE : Nat} {a : Nat → Nat} {rw : Nat → Option Nat} (S : GS) (p0 : Int32)  (hr_p0 : (-2147483648) ≤ p0.toInt ∧ p0.toInt ≤ (-1)) : Ct l D cy T0 tB tE yX11_isWithin cX11_isWithin 2 (some .boolean) 0 0 0 0 (cw cy tE a rw S) [.int p0, .int 767] (QI D (U := GS) (fun r u => 0 = r ∧ S = u) (cw cy tE a rw)) := by
  refine Ct.ofZ RX11 "isWithin" [(0, .int p0), (1, .int 767)] rfl rfl rfl rfl (Nat.le_of_ble_eq_true rfl) ?_
  intro p e R s m args below meth c A b
  refine z_iload_n b dX11_isWithin_0 rfl rfl ?_
  refine y_if_lt (tgt := 13) (xl := p0.toInt) b rfl dX11_isWithin_1 (by decide) (fun c3790 => ?_) (fun c3790 => ?_)
  · refine z_iconst (v := 0) b dX11_isWithin_13 (by decide) ?_
    exact z_zret (u := S) b rfl (by decide) dX11_isWithin_14 ⟨rfl, rfl⟩ rfl (by decide) (by decide)
  · exfalso; omega

set_option maxHeartbeats 4000000 in
set_option maxRecDepth 100000 in
theorem c_X11_put_3 {l : Launch} {D : va_G} {cy : Nat → ClassId} {T0 tB tE : Nat} {a : Nat → Nat} {rw : Nat → Option Nat} (S : GS) (p0 : Int32)  (hr_p0 : (-2147483648) ≤ p0.toInt ∧ p0.toInt ≤ (-1)) : Ct l D cy T0 tB tE yX11_put cX11_put 3 (some .int) 1 21 0 0 (cw cy tE a rw S) [.ref (a 0), .int 0, .int p0] (QI D (U := GS) (fun r u => (-1) = r ∧ S = u) (cw cy tE a rw)) := by
  refine Ct.ofZ RX11 "put" [(0, .ref (a 0)), (1, .int 0), (2, .int p0)] rfl rfl rfl rfl (Nat.le_of_ble_eq_true rfl) ?_
  intro p e R s m args below meth c A b
  refine z_iload_n b dX11_put_0 rfl rfl ?_
  refine z_calli b (z_runS (As := [.int 0]) (st := []) b (c_X11_isRow_3 S ) cf_X11_isRow wm_X11_169 ws_X11_isRow dX11_put_1 rfl (Nat.le_of_ble_eq_true rfl) ⟨by decide, by decide, by decide, by decide⟩) (fun r3788 u3789 h3787 => ?_)
  obtain ⟨rfl, rfl⟩ := h3787
  refine z_if_eq_f (tgt := 17) b dX11_put_4 (by decide) (by decide) ?_
  refine z_iload_n b dX11_put_7 rfl rfl ?_
  refine z_sipush (v := 767) b dX11_put_8 (by decide) ?_
  refine z_calli b (z_runS (As := [.int p0, .int 767]) (st := []) b (c_X11_isWithin_20 S p0 ⟨by omega, by omega⟩) cf_X11_isWithin wm_X11_73 ws_X11_isWithin dX11_put_11 rfl (Nat.le_of_ble_eq_true rfl) ⟨by decide, by decide, by decide, by decide⟩) (fun r3792 u3793 h3791 => ?_)
  obtain ⟨rfl, rfl⟩ := h3791
  refine z_if_ne_f (tgt := 19) b dX11_put_14 (by decide) (by decide) ?_
  refine z_iconst (v := (-1)) b dX11_put_17 (by decide) ?_
  exact z_iret (u := S) b rfl dX11_put_18 ⟨rfl, rfl⟩ rfl (by decide) (by decide)

set_option maxHeartbeats 4000000 in
set_option maxRecDepth 100000 in
theorem c_X12_isIn_39 {l : Launch} {D : va_G} {cy : Nat → ClassId} {T0 tB tE : Nat} {a : Nat → Nat} (S : GS)   : Ct l D cy T0 tB tE yX12_isIn cX12_isIn 3 (some .boolean) 0 0 0 0 (mw cy a S) [.int 0, .int 0, .int 5] (QI D (U := GS) (fun r u => 1 = r ∧ S = u) (mw cy a)) := by
  refine Ct.ofZ RX12 "isIn" [(0, .int 0), (1, .int 0), (2, .int 5)] rfl rfl rfl rfl (Nat.le_of_ble_eq_true rfl) ?_
  intro p e R s m args below meth c A b
  refine z_iload_n b dX12_isIn_0 rfl rfl ?_
  refine z_iload_n b dX12_isIn_1 rfl rfl ?_
  refine z_icmp_lt_f (tgt := 14) b dX12_isIn_2 (by decide) (by decide) ?_
  refine z_iload_n b dX12_isIn_5 rfl rfl ?_
  refine z_iload_n b dX12_isIn_6 rfl rfl ?_
  refine z_icmp_gt_f (tgt := 14) b dX12_isIn_7 (by decide) (by decide) ?_
  refine z_iconst (v := 1) b dX12_isIn_10 (by decide) ?_
  refine z_goto (tgt := 15) b dX12_isIn_11 (by decide) ?_
  exact z_zret (u := S) b rfl (by decide) dX12_isIn_15 ⟨rfl, rfl⟩ rfl (by decide) (by decide)

set_option maxHeartbeats 4000000 in
set_option maxRecDepth 100000 in
theorem c_X12_isRow_3 {l : Launch} {D : va_G} {cy : Nat → ClassId} {T0 tB tE : Nat} {a : Nat → Nat} (S : GS)   : Ct l D cy T0 tB tE yX12_isRow cX12_isRow 1 (some .boolean) 1 22 0 0 (mw cy a S) [.int 0] (QI D (U := GS) (fun r u => 1 = r ∧ S = u) (mw cy a)) := by
  refine Ct.ofZ RX12 "isRow" [(0, .int 0)] rfl rfl rfl rfl (Nat.le_of_ble_eq_true rfl) ?_
  intro p e R s m args below meth c A b
  refine z_iload_n b dX12_isRow_0 rfl rfl ?_
  refine z_iconst (v := 0) b dX12_isRow_1 (by decide) ?_
  refine z_iconst (v := 5) b dX12_isRow_2 (by decide) ?_
  refine z_calli b (z_runS (As := [.int 0, .int 0, .int 5]) (st := []) b (c_X12_isIn_39 S ) cf_X12_isIn wm_X12_1 ws_X12_isIn dX12_isRow_3 rfl (Nat.le_of_ble_eq_true rfl) ⟨by decide, by decide, by decide, by decide⟩) (fun r3795 u3796 h3794 => ?_)
  obtain ⟨rfl, rfl⟩ := h3794
  exact z_zret (u := S) b rfl (by decide) dX12_isRow_6 ⟨rfl, rfl⟩ rfl (by decide) (by decide)

set_option maxHeartbeats 4000000 in
set_option maxRecDepth 100000 in
theorem c_X12_isIn_40 {l : Launch} {D : va_G} {cy : Nat → ClassId} {T0 tB tE : Nat} {a : Nat → Nat} (S : GS) (p0 : Int32)  (hr_p0 : (-2147483648) ≤ p0.toInt ∧ p0.toInt ≤ (-1)) : Ct l D cy T0 tB tE yX12_isIn cX12_isIn 3 (some .boolean) 0 0 0 0 (mw cy a S) [.int p0, .int 0, .int 767] (QI D (U := GS) (fun r u => 0 = r ∧ S = u) (mw cy a)) := by
  refine Ct.ofZ RX12 "isIn" [(0, .int p0), (1, .int 0), (2, .int 767)] rfl rfl rfl rfl (Nat.le_of_ble_eq_true rfl) ?_
  intro p e R s m args below meth c A b
  refine z_iload_n b dX12_isIn_0 rfl rfl ?_
  refine z_iload_n b dX12_isIn_1 rfl rfl ?_
  refine y_icmp_lt (tgt := 14) (xl := p0.toInt) (yl := 0) b rfl (by decide) dX12_isIn_2 (by decide) (fun c3800 => ?_) (fun c3800 => ?_)
  · refine z_iconst (v := 0) b dX12_isIn_14 (by decide) ?_
    exact z_zret (u := S) b rfl (by decide) dX12_isIn_15 ⟨rfl, rfl⟩ rfl (by decide) (by decide)
  · exfalso; omega

set_option maxHeartbeats 4000000 in
set_option maxRecDepth 100000 in
theorem c_X12_isNumber {l : Launch} {D : va_G} {cy : Nat → ClassId} {T0 tB tE : Nat} {a : Nat → Nat} (S : GS) (p0 : Int32)  (hr_p0 : (-2147483648) ≤ p0.toInt ∧ p0.toInt ≤ (-1)) : Ct l D cy T0 tB tE yX12_isNumber cX12_isNumber 1 (some .boolean) 1 22 0 0 (mw cy a S) [.int p0] (QI D (U := GS) (fun r u => 0 = r ∧ S = u) (mw cy a)) := by
  refine Ct.ofZ RX12 "isNumber" [(0, .int p0)] rfl rfl rfl rfl (Nat.le_of_ble_eq_true rfl) ?_
  intro p e R s m args below meth c A b
  refine z_iload_n b dX12_isNumber_0 rfl rfl ?_
  refine z_iconst (v := 0) b dX12_isNumber_1 (by decide) ?_
  refine z_sipush (v := 767) b dX12_isNumber_2 (by decide) ?_
  refine z_calli b (z_runS (As := [.int p0, .int 0, .int 767]) (st := []) b (c_X12_isIn_40 S p0 ⟨by omega, by omega⟩) cf_X12_isIn wm_X12_1 ws_X12_isIn dX12_isNumber_5 rfl (Nat.le_of_ble_eq_true rfl) ⟨by decide, by decide, by decide, by decide⟩) (fun r3802 u3803 h3801 => ?_)
  obtain ⟨rfl, rfl⟩ := h3801
  exact z_zret (u := S) b rfl (by decide) dX12_isNumber_8 ⟨rfl, rfl⟩ rfl (by decide) (by decide)

set_option maxHeartbeats 4000000 in
set_option maxRecDepth 100000 in
theorem c_X12_put_3 {l : Launch} {D : va_G} {cy : Nat → ClassId} {T0 tB tE : Nat} {a : Nat → Nat} (S : GS) (p0 : Int32)  (hr_p0 : (-2147483648) ≤ p0.toInt ∧ p0.toInt ≤ (-1)) : Ct l D cy T0 tB tE yX12_put cX12_put 3 (some .int) 2 42 0 0 (mw cy a S) [.ref (a 0), .int 0, .int p0] (QI D (U := GS) (fun r u => (-1) = r ∧ S = u) (mw cy a)) := by
  refine Ct.ofZ RX12 "put" [(0, .ref (a 0)), (1, .int 0), (2, .int p0)] rfl rfl rfl rfl (Nat.le_of_ble_eq_true rfl) ?_
  intro p e R s m args below meth c A b
  refine z_iload_n b dX12_put_0 rfl rfl ?_
  refine z_calli b (z_runS (As := [.int 0]) (st := []) b (c_X12_isRow_3 S ) cf_X12_isRow wm_X12_452 ws_X12_isRow dX12_put_1 rfl (Nat.le_of_ble_eq_true rfl) ⟨by decide, by decide, by decide, by decide⟩) (fun r3798 u3799 h3797 => ?_)
  obtain ⟨rfl, rfl⟩ := h3797
  refine z_if_eq_f (tgt := 25) b dX12_put_4 (by decide) (by decide) ?_
  refine z_iload_n b dX12_put_7 rfl rfl ?_
  refine z_calli b (z_runS (As := [.int p0]) (st := []) b (c_X12_isNumber S p0 ⟨by omega, by omega⟩) cf_X12_isNumber wm_X12_455 ws_X12_isNumber dX12_put_8 rfl (Nat.le_of_ble_eq_true rfl) ⟨by decide, by decide, by decide, by decide⟩) (fun r3805 u3806 h3804 => ?_)
  obtain ⟨rfl, rfl⟩ := h3804
  refine z_if_eq_t (tgt := 25) b dX12_put_11 (by decide) (by decide) ?_
  refine z_iconst (v := (-1)) b dX12_put_25 (by decide) ?_
  exact z_iret (u := S) b rfl dX12_put_26 ⟨rfl, rfl⟩ rfl (by decide) (by decide)

set_option maxHeartbeats 4000000 in
set_option maxRecDepth 100000 in
theorem c_X11_isWithin_21 {l : Launch} {D : va_G} {cy : Nat → ClassId} {T0 tB tE : Nat} {a : Nat → Nat} {rw : Nat → Option Nat} (S : GS) (p0 : Int32)  (hr_p0 : 0 ≤ p0.toInt ∧ p0.toInt ≤ 767) : Ct l D cy T0 tB tE yX11_isWithin cX11_isWithin 2 (some .boolean) 0 0 0 0 (cw cy tE a rw S) [.int p0, .int 767] (QI D (U := GS) (fun r u => 1 = r ∧ S = u) (cw cy tE a rw)) := by
  refine Ct.ofZ RX11 "isWithin" [(0, .int p0), (1, .int 767)] rfl rfl rfl rfl (Nat.le_of_ble_eq_true rfl) ?_
  intro p e R s m args below meth c A b
  refine z_iload_n b dX11_isWithin_0 rfl rfl ?_
  refine y_if_lt (tgt := 13) (xl := p0.toInt) b rfl dX11_isWithin_1 (by decide) (fun c3810 => ?_) (fun c3810 => ?_)
  · exfalso; omega
  · refine z_iload_n b dX11_isWithin_4 rfl rfl ?_
    refine z_iload_n b dX11_isWithin_5 rfl rfl ?_
    refine y_icmp_gt (tgt := 13) (xl := p0.toInt) (yl := 767) b rfl (by decide) dX11_isWithin_6 (by decide) (fun c3811 => ?_) (fun c3811 => ?_)
    · exfalso; omega
    · refine z_iconst (v := 1) b dX11_isWithin_9 (by decide) ?_
      refine z_goto (tgt := 14) b dX11_isWithin_10 (by decide) ?_
      exact z_zret (u := S) b rfl (by decide) dX11_isWithin_14 ⟨rfl, rfl⟩ rfl (by decide) (by decide)

set_option maxHeartbeats 4000000 in
set_option maxRecDepth 100000 in
theorem c_X7_add {l : Launch} {D : va_G} {cy : Nat → ClassId} {T0 tB tE : Nat} {a : Nat → Nat} {rw : Nat → Option Nat} (S : GS) (p0 : Int32) (h_i_27 : fi S 27 = 0) (hr_p0 : 0 ≤ p0.toInt ∧ p0.toInt ≤ 767) : Ct l D cy T0 tB tE yX7_add cX7_add 2 (some .int) 0 0 0 0 (cw cy tE a rw S) [.ref (a 36), .int p0] (QI D (U := GS) (fun r u => 1 = r ∧ si (su S 15 0 p0) 27 1 = u) (cw cy tE a rw)) := by
  refine Ct.ofZ RX7 "add" [(0, .ref (a 36)), (1, .int p0)] rfl rfl rfl rfl (Nat.le_of_ble_eq_true rfl) ?_
  intro p e R s m args below meth c A b
  refine z_aload_n b dX7_add_0 rfl rfl ?_
  refine z_get (q0 := 36) (k9 := 1) (v := .int (fi S 27)) b (cw_36 cy tE a rw S) rfl in_X7 (by decide) wf_X7_9 rfl dX7_add_1 ?_
  refine z_eqi h_i_27 ?_
  refine z_if_lt_f (tgt := 19) b dX7_add_4 (by decide) (by decide) ?_
  refine z_aload_n b dX7_add_7 rfl rfl ?_
  refine z_get (q0 := 36) (k9 := 1) (v := .int (fi S 27)) b (cw_36 cy tE a rw S) rfl in_X7 (by decide) wf_X7_9 rfl dX7_add_8 ?_
  refine z_eqi h_i_27 ?_
  refine z_aload_n b dX7_add_11 rfl rfl ?_
  refine z_get (q0 := 36) (k9 := 0) (v := .ref (a 37)) b (cw_36 cy tE a rw S) rfl in_X7 (by decide) wf_X7_25 rfl dX7_add_12 ?_
  refine z_alen (q0 := 37) (t0 := 0) (v := 12) b (cw_37 cy tE a rw S) rfl rfl dX7_add_15 ?_
  refine z_icmp_lt_t (tgt := 21) b dX7_add_16 (by decide) (by decide) ?_
  refine z_aload_n b dX7_add_21 rfl rfl ?_
  refine z_get (q0 := 36) (k9 := 0) (v := .ref (a 37)) b (cw_36 cy tE a rw S) rfl in_X7 (by decide) wf_X7_25 rfl dX7_add_22 ?_
  refine z_aload_n b dX7_add_25 rfl rfl ?_
  refine z_get (q0 := 36) (k9 := 1) (v := .int (fi S 27)) b (cw_36 cy tE a rw S) rfl in_X7 (by decide) wf_X7_9 rfl dX7_add_26 ?_
  refine z_eqi h_i_27 ?_
  refine z_iload_n b dX7_add_29 rfl rfl ?_
  refine y_iast (q0 := 37) (j := 0) b (cw_37 cy tE a rw S) (by decide) dX7_add_30 (cwa_37 cy tE a rw S 0 p0) ?_
  refine z_aload_n b dX7_add_31 rfl rfl ?_
  refine z_dup b dX7_add_32 rfl ?_
  refine z_get (q0 := 36) (k9 := 1) (v := .int (fi (su S 15 0 p0) 27)) b (cw_36 cy tE a rw (su S 15 0 p0)) rfl in_X7 (by decide) wf_X7_9 rfl dX7_add_33 ?_
  refine z_eqi h_i_27 ?_
  refine z_iconst (v := 1) b dX7_add_36 (by decide) ?_
  refine z_iadd (v := 1) b dX7_add_37 (by decide) ?_
  refine z_put (q0 := 36) (k9 := 1) tyX7 b (cw_36 cy tE a rw (su S 15 0 p0)) rfl in_X7 tyX7_ok nmX7 (by decide) wf_X7_9 rfl rfl rfl rfl (Nat.le_of_ble_eq_true rfl) dX7_add_38 (cwp_36_1 cy tE a rw (su S 15 0 p0) 1) ?_
  refine z_aload_n b dX7_add_41 rfl rfl ?_
  refine z_get (q0 := 36) (k9 := 1) (v := .int 1) b (cw_36 cy tE a rw (si (su S 15 0 p0) 27 1)) rfl in_X7 (by decide) wf_X7_9 rfl dX7_add_42 ?_
  exact z_iret (u := (si (su S 15 0 p0) 27 1)) b rfl dX7_add_45 ⟨rfl, rfl⟩ rfl (by decide) (by decide)

set_option maxHeartbeats 4000000 in
set_option maxRecDepth 100000 in
theorem c_X11_put_4 {l : Launch} {D : va_G} {cy : Nat → ClassId} {T0 tB tE : Nat} {a : Nat → Nat} {rw : Nat → Option Nat} (S : GS) (p0 : Int32) (h_i_27 : fi S 27 = 0) (hrw : ∀ i, i < 6 → rw i = some (a (36 + 2 * i))) (hr_p0 : 0 ≤ p0.toInt ∧ p0.toInt ≤ 767) : Ct l D cy T0 tB tE yX11_put cX11_put 3 (some .int) 1 21 0 0 (cw cy tE a rw S) [.ref (a 0), .int 0, .int p0] (QI D (U := GS) (fun r u => 1 = r ∧ si (su S 15 0 p0) 27 1 = u) (cw cy tE a rw)) := by
  refine Ct.ofZ RX11 "put" [(0, .ref (a 0)), (1, .int 0), (2, .int p0)] rfl rfl rfl rfl (Nat.le_of_ble_eq_true rfl) ?_
  intro p e R s m args below meth c A b
  refine z_iload_n b dX11_put_0 rfl rfl ?_
  refine z_calli b (z_runS (As := [.int 0]) (st := []) b (c_X11_isRow_3 S ) cf_X11_isRow wm_X11_169 ws_X11_isRow dX11_put_1 rfl (Nat.le_of_ble_eq_true rfl) ⟨by decide, by decide, by decide, by decide⟩) (fun r3808 u3809 h3807 => ?_)
  obtain ⟨rfl, rfl⟩ := h3807
  refine z_if_eq_f (tgt := 17) b dX11_put_4 (by decide) (by decide) ?_
  refine z_iload_n b dX11_put_7 rfl rfl ?_
  refine z_sipush (v := 767) b dX11_put_8 (by decide) ?_
  refine z_calli b (z_runS (As := [.int p0, .int 767]) (st := []) b (c_X11_isWithin_21 S p0 ⟨by omega, by omega⟩) cf_X11_isWithin wm_X11_73 ws_X11_isWithin dX11_put_11 rfl (Nat.le_of_ble_eq_true rfl) ⟨by decide, by decide, by decide, by decide⟩) (fun r3813 u3814 h3812 => ?_)
  obtain ⟨rfl, rfl⟩ := h3812
  refine z_if_ne_t (tgt := 19) b dX11_put_14 (by decide) (by decide) ?_
  refine z_aload_n b dX11_put_19 rfl rfl ?_
  refine z_get (q0 := 0) (k9 := 7) (v := .ref (a 35)) b (cw_0 cy tE a rw S) rfl in_X11 (by decide) wf_X11_58 rfl dX11_put_20 ?_
  refine z_iload_n b dX11_put_23 rfl rfl ?_
  refine y_aald (q0 := 35) (t0 := 4) (j := 0) (v := .ref (a 36)) b (cw_35 cy tE a rw S) rfl (by decide) (by rw [hrw 0 (by decide)]; rfl) dX11_put_24 ?_
  refine z_iload_n b dX11_put_25 rfl rfl ?_
  refine z_calli b (z_runV (q0 := 36) (As := [.int p0]) (st := []) b (c_X7_add S p0 h_i_27 ⟨by omega, by omega⟩) cf_X7_add (cw_36 cy tE a rw S) rfl wm_X11_172 wi_X7_add ws_X7_add dX11_put_26 rfl (Nat.le_of_ble_eq_true rfl) ⟨by decide, by decide, by decide, by decide⟩) (fun r3816 u3817 h3815 => ?_)
  obtain ⟨rfl, rfl⟩ := h3815
  exact z_iret (u := (si (su S 15 0 p0) 27 1)) b rfl dX11_put_29 ⟨rfl, rfl⟩ rfl (by decide) (by decide)

set_option maxHeartbeats 4000000 in
set_option maxRecDepth 100000 in
theorem c_X12_isIn_41 {l : Launch} {D : va_G} {cy : Nat → ClassId} {T0 tB tE : Nat} {a : Nat → Nat} (S : GS) (p0 : Int32)  (hr_p0 : 0 ≤ p0.toInt ∧ p0.toInt ≤ 767) : Ct l D cy T0 tB tE yX12_isIn cX12_isIn 3 (some .boolean) 0 0 0 0 (mw cy a S) [.int p0, .int 0, .int 767] (QI D (U := GS) (fun r u => 1 = r ∧ S = u) (mw cy a)) := by
  refine Ct.ofZ RX12 "isIn" [(0, .int p0), (1, .int 0), (2, .int 767)] rfl rfl rfl rfl (Nat.le_of_ble_eq_true rfl) ?_
  intro p e R s m args below meth c A b
  refine z_iload_n b dX12_isIn_0 rfl rfl ?_
  refine z_iload_n b dX12_isIn_1 rfl rfl ?_
  refine y_icmp_lt (tgt := 14) (xl := p0.toInt) (yl := 0) b rfl (by decide) dX12_isIn_2 (by decide) (fun c3821 => ?_) (fun c3821 => ?_)
  · exfalso; omega
  · refine z_iload_n b dX12_isIn_5 rfl rfl ?_
    refine z_iload_n b dX12_isIn_6 rfl rfl ?_
    refine y_icmp_gt (tgt := 14) (xl := p0.toInt) (yl := 767) b rfl (by decide) dX12_isIn_7 (by decide) (fun c3822 => ?_) (fun c3822 => ?_)
    · exfalso; omega
    · refine z_iconst (v := 1) b dX12_isIn_10 (by decide) ?_
      refine z_goto (tgt := 15) b dX12_isIn_11 (by decide) ?_
      exact z_zret (u := S) b rfl (by decide) dX12_isIn_15 ⟨rfl, rfl⟩ rfl (by decide) (by decide)

set_option maxHeartbeats 4000000 in
set_option maxRecDepth 100000 in
theorem c_X12_isNumber_2 {l : Launch} {D : va_G} {cy : Nat → ClassId} {T0 tB tE : Nat} {a : Nat → Nat} (S : GS) (p0 : Int32)  (hr_p0 : 0 ≤ p0.toInt ∧ p0.toInt ≤ 767) : Ct l D cy T0 tB tE yX12_isNumber cX12_isNumber 1 (some .boolean) 1 22 0 0 (mw cy a S) [.int p0] (QI D (U := GS) (fun r u => 1 = r ∧ S = u) (mw cy a)) := by
  refine Ct.ofZ RX12 "isNumber" [(0, .int p0)] rfl rfl rfl rfl (Nat.le_of_ble_eq_true rfl) ?_
  intro p e R s m args below meth c A b
  refine z_iload_n b dX12_isNumber_0 rfl rfl ?_
  refine z_iconst (v := 0) b dX12_isNumber_1 (by decide) ?_
  refine z_sipush (v := 767) b dX12_isNumber_2 (by decide) ?_
  refine z_calli b (z_runS (As := [.int p0, .int 0, .int 767]) (st := []) b (c_X12_isIn_41 S p0 ⟨by omega, by omega⟩) cf_X12_isIn wm_X12_1 ws_X12_isIn dX12_isNumber_5 rfl (Nat.le_of_ble_eq_true rfl) ⟨by decide, by decide, by decide, by decide⟩) (fun r3824 u3825 h3823 => ?_)
  obtain ⟨rfl, rfl⟩ := h3823
  exact z_zret (u := S) b rfl (by decide) dX12_isNumber_8 ⟨rfl, rfl⟩ rfl (by decide) (by decide)

set_option maxHeartbeats 4000000 in
set_option maxRecDepth 100000 in
theorem c_X12_put_4 {l : Launch} {D : va_G} {cy : Nat → ClassId} {T0 tB tE : Nat} {a : Nat → Nat} (S : GS) (p0 : Int32) (h_a_38_0 : ar S 38 0 = 0) (hr_p0 : 0 ≤ p0.toInt ∧ p0.toInt ≤ 767) : Ct l D cy T0 tB tE yX12_put cX12_put 3 (some .int) 2 42 0 0 (mw cy a S) [.ref (a 0), .int 0, .int p0] (QI D (U := GS) (fun r u => 1 = r ∧ su (su S 37 0 p0) 38 0 1 = u) (mw cy a)) := by
  refine Ct.ofZ RX12 "put" [(0, .ref (a 0)), (1, .int 0), (2, .int p0)] rfl rfl rfl rfl (Nat.le_of_ble_eq_true rfl) ?_
  intro p e R s m args below meth c A b
  refine z_iload_n b dX12_put_0 rfl rfl ?_
  refine z_calli b (z_runS (As := [.int 0]) (st := []) b (c_X12_isRow_3 S ) cf_X12_isRow wm_X12_452 ws_X12_isRow dX12_put_1 rfl (Nat.le_of_ble_eq_true rfl) ⟨by decide, by decide, by decide, by decide⟩) (fun r3819 u3820 h3818 => ?_)
  obtain ⟨rfl, rfl⟩ := h3818
  refine z_if_eq_f (tgt := 25) b dX12_put_4 (by decide) (by decide) ?_
  refine z_iload_n b dX12_put_7 rfl rfl ?_
  refine z_calli b (z_runS (As := [.int p0]) (st := []) b (c_X12_isNumber_2 S p0 ⟨by omega, by omega⟩) cf_X12_isNumber wm_X12_455 ws_X12_isNumber dX12_put_8 rfl (Nat.le_of_ble_eq_true rfl) ⟨by decide, by decide, by decide, by decide⟩) (fun r3827 u3828 h3826 => ?_)
  obtain ⟨rfl, rfl⟩ := h3826
  refine z_if_eq_f (tgt := 25) b dX12_put_11 (by decide) (by decide) ?_
  refine z_aload_n b dX12_put_14 rfl rfl ?_
  refine z_get (q0 := 0) (k9 := 66) (v := .ref (a 41)) b (mw_0 cy a S) rfl in_X12 (by decide) wf_X12_140 rfl dX12_put_15 ?_
  refine z_iload_n b dX12_put_18 rfl rfl ?_
  refine y_iald (q0 := 41) (j := 0) (v := (ar S 38 0)) b (mw_41 cy a S) (by decide) rfl dX12_put_19 ?_
  refine z_eqi h_a_38_0 ?_
  refine z_bipush (v := 12) b dX12_put_20 (by decide) ?_
  refine z_icmp_ne_t (tgt := 27) b dX12_put_22 (by decide) (by decide) ?_
  refine z_aload_n b dX12_put_27 rfl rfl ?_
  refine z_get (q0 := 0) (k9 := 65) (v := .ref (a 40)) b (mw_0 cy a S) rfl in_X12 (by decide) wf_X12_137 rfl dX12_put_28 ?_
  refine z_bipush (v := 12) b dX12_put_31 (by decide) ?_
  refine z_iload_n b dX12_put_33 rfl rfl ?_
  refine z_imul (v := 0) b dX12_put_34 (by decide) ?_
  refine z_aload_n b dX12_put_35 rfl rfl ?_
  refine z_get (q0 := 0) (k9 := 66) (v := .ref (a 41)) b (mw_0 cy a S) rfl in_X12 (by decide) wf_X12_140 rfl dX12_put_36 ?_
  refine z_iload_n b dX12_put_39 rfl rfl ?_
  refine y_iald (q0 := 41) (j := 0) (v := (ar S 38 0)) b (mw_41 cy a S) (by decide) rfl dX12_put_40 ?_
  refine z_eqi h_a_38_0 ?_
  refine z_iadd (v := 0) b dX12_put_41 (by decide) ?_
  refine z_iload_n b dX12_put_42 rfl rfl ?_
  refine y_iast (q0 := 40) (j := 0) b (mw_40 cy a S) (by decide) dX12_put_43 (mwa_40 cy a S 0 p0) ?_
  refine z_aload_n b dX12_put_44 rfl rfl ?_
  refine z_get (q0 := 0) (k9 := 66) (v := .ref (a 41)) b (mw_0 cy a (su S 37 0 p0)) rfl in_X12 (by decide) wf_X12_140 rfl dX12_put_45 ?_
  refine z_iload_n b dX12_put_48 rfl rfl ?_
  refine z_dup2 b dX12_put_49 rfl rfl ?_
  refine y_iald (q0 := 41) (j := 0) (v := (ar (su S 37 0 p0) 38 0)) b (mw_41 cy a (su S 37 0 p0)) (by decide) rfl dX12_put_50 ?_
  refine z_eqi h_a_38_0 ?_
  refine z_iconst (v := 1) b dX12_put_51 (by decide) ?_
  refine z_iadd (v := 1) b dX12_put_52 (by decide) ?_
  refine y_iast (q0 := 41) (j := 0) b (mw_41 cy a (su S 37 0 p0)) (by decide) dX12_put_53 (mwa_41 cy a (su S 37 0 p0) 0 1) ?_
  refine z_aload_n b dX12_put_54 rfl rfl ?_
  refine z_get (q0 := 0) (k9 := 66) (v := .ref (a 41)) b (mw_0 cy a (su (su S 37 0 p0) 38 0 1)) rfl in_X12 (by decide) wf_X12_140 rfl dX12_put_55 ?_
  refine z_iload_n b dX12_put_58 rfl rfl ?_
  refine y_iald (q0 := 41) (j := 0) (v := 1) b (mw_41 cy a (su (su S 37 0 p0) 38 0 1)) (by decide) rfl dX12_put_59 ?_
  exact z_iret (u := (su (su S 37 0 p0) 38 0 1)) b rfl dX12_put_60 ⟨rfl, rfl⟩ rfl (by decide) (by decide)

set_option maxHeartbeats 4000000 in
set_option maxRecDepth 100000 in
theorem c_X11_isWithin_22 {l : Launch} {D : va_G} {cy : Nat → ClassId} {T0 tB tE : Nat} {a : Nat → Nat} {rw : Nat → Option Nat} (S : GS) (p0 : Int32)  (hr_p0 : 768 ≤ p0.toInt ∧ p0.toInt ≤ 2147483647) : Ct l D cy T0 tB tE yX11_isWithin cX11_isWithin 2 (some .boolean) 0 0 0 0 (cw cy tE a rw S) [.int p0, .int 767] (QI D (U := GS) (fun r u => 0 = r ∧ S = u) (cw cy tE a rw)) := by
  refine Ct.ofZ RX11 "isWithin" [(0, .int p0), (1, .int 767)] rfl rfl rfl rfl (Nat.le_of_ble_eq_true rfl) ?_
  intro p e R s m args below meth c A b
  refine z_iload_n b dX11_isWithin_0 rfl rfl ?_
  refine y_if_lt (tgt := 13) (xl := p0.toInt) b rfl dX11_isWithin_1 (by decide) (fun c3832 => ?_) (fun c3832 => ?_)
  · exfalso; omega
  · refine z_iload_n b dX11_isWithin_4 rfl rfl ?_
    refine z_iload_n b dX11_isWithin_5 rfl rfl ?_
    refine y_icmp_gt (tgt := 13) (xl := p0.toInt) (yl := 767) b rfl (by decide) dX11_isWithin_6 (by decide) (fun c3833 => ?_) (fun c3833 => ?_)
    · refine z_iconst (v := 0) b dX11_isWithin_13 (by decide) ?_
      exact z_zret (u := S) b rfl (by decide) dX11_isWithin_14 ⟨rfl, rfl⟩ rfl (by decide) (by decide)
    · exfalso; omega

set_option maxHeartbeats 4000000 in
set_option maxRecDepth 100000 in
theorem c_X11_put_5 {l : Launch} {D : va_G} {cy : Nat → ClassId} {T0 tB tE : Nat} {a : Nat → Nat} {rw : Nat → Option Nat} (S : GS) (p0 : Int32)  (hr_p0 : 768 ≤ p0.toInt ∧ p0.toInt ≤ 2147483647) : Ct l D cy T0 tB tE yX11_put cX11_put 3 (some .int) 1 21 0 0 (cw cy tE a rw S) [.ref (a 0), .int 0, .int p0] (QI D (U := GS) (fun r u => (-1) = r ∧ S = u) (cw cy tE a rw)) := by
  refine Ct.ofZ RX11 "put" [(0, .ref (a 0)), (1, .int 0), (2, .int p0)] rfl rfl rfl rfl (Nat.le_of_ble_eq_true rfl) ?_
  intro p e R s m args below meth c A b
  refine z_iload_n b dX11_put_0 rfl rfl ?_
  refine z_calli b (z_runS (As := [.int 0]) (st := []) b (c_X11_isRow_3 S ) cf_X11_isRow wm_X11_169 ws_X11_isRow dX11_put_1 rfl (Nat.le_of_ble_eq_true rfl) ⟨by decide, by decide, by decide, by decide⟩) (fun r3830 u3831 h3829 => ?_)
  obtain ⟨rfl, rfl⟩ := h3829
  refine z_if_eq_f (tgt := 17) b dX11_put_4 (by decide) (by decide) ?_
  refine z_iload_n b dX11_put_7 rfl rfl ?_
  refine z_sipush (v := 767) b dX11_put_8 (by decide) ?_
  refine z_calli b (z_runS (As := [.int p0, .int 767]) (st := []) b (c_X11_isWithin_22 S p0 ⟨by omega, by omega⟩) cf_X11_isWithin wm_X11_73 ws_X11_isWithin dX11_put_11 rfl (Nat.le_of_ble_eq_true rfl) ⟨by decide, by decide, by decide, by decide⟩) (fun r3835 u3836 h3834 => ?_)
  obtain ⟨rfl, rfl⟩ := h3834
  refine z_if_ne_f (tgt := 19) b dX11_put_14 (by decide) (by decide) ?_
  refine z_iconst (v := (-1)) b dX11_put_17 (by decide) ?_
  exact z_iret (u := S) b rfl dX11_put_18 ⟨rfl, rfl⟩ rfl (by decide) (by decide)

set_option maxHeartbeats 4000000 in
set_option maxRecDepth 100000 in
theorem c_X12_isIn_42 {l : Launch} {D : va_G} {cy : Nat → ClassId} {T0 tB tE : Nat} {a : Nat → Nat} (S : GS) (p0 : Int32)  (hr_p0 : 768 ≤ p0.toInt ∧ p0.toInt ≤ 2147483647) : Ct l D cy T0 tB tE yX12_isIn cX12_isIn 3 (some .boolean) 0 0 0 0 (mw cy a S) [.int p0, .int 0, .int 767] (QI D (U := GS) (fun r u => 0 = r ∧ S = u) (mw cy a)) := by
  refine Ct.ofZ RX12 "isIn" [(0, .int p0), (1, .int 0), (2, .int 767)] rfl rfl rfl rfl (Nat.le_of_ble_eq_true rfl) ?_
  intro p e R s m args below meth c A b
  refine z_iload_n b dX12_isIn_0 rfl rfl ?_
  refine z_iload_n b dX12_isIn_1 rfl rfl ?_
  refine y_icmp_lt (tgt := 14) (xl := p0.toInt) (yl := 0) b rfl (by decide) dX12_isIn_2 (by decide) (fun c3840 => ?_) (fun c3840 => ?_)
  · exfalso; omega
  · refine z_iload_n b dX12_isIn_5 rfl rfl ?_
    refine z_iload_n b dX12_isIn_6 rfl rfl ?_
    refine y_icmp_gt (tgt := 14) (xl := p0.toInt) (yl := 767) b rfl (by decide) dX12_isIn_7 (by decide) (fun c3841 => ?_) (fun c3841 => ?_)
    · refine z_iconst (v := 0) b dX12_isIn_14 (by decide) ?_
      exact z_zret (u := S) b rfl (by decide) dX12_isIn_15 ⟨rfl, rfl⟩ rfl (by decide) (by decide)
    · exfalso; omega

set_option maxHeartbeats 4000000 in
set_option maxRecDepth 100000 in
theorem c_X12_isNumber_3 {l : Launch} {D : va_G} {cy : Nat → ClassId} {T0 tB tE : Nat} {a : Nat → Nat} (S : GS) (p0 : Int32)  (hr_p0 : 768 ≤ p0.toInt ∧ p0.toInt ≤ 2147483647) : Ct l D cy T0 tB tE yX12_isNumber cX12_isNumber 1 (some .boolean) 1 22 0 0 (mw cy a S) [.int p0] (QI D (U := GS) (fun r u => 0 = r ∧ S = u) (mw cy a)) := by
  refine Ct.ofZ RX12 "isNumber" [(0, .int p0)] rfl rfl rfl rfl (Nat.le_of_ble_eq_true rfl) ?_
  intro p e R s m args below meth c A b
  refine z_iload_n b dX12_isNumber_0 rfl rfl ?_
  refine z_iconst (v := 0) b dX12_isNumber_1 (by decide) ?_
  refine z_sipush (v := 767) b dX12_isNumber_2 (by decide) ?_
  refine z_calli b (z_runS (As := [.int p0, .int 0, .int 767]) (st := []) b (c_X12_isIn_42 S p0 ⟨by omega, by omega⟩) cf_X12_isIn wm_X12_1 ws_X12_isIn dX12_isNumber_5 rfl (Nat.le_of_ble_eq_true rfl) ⟨by decide, by decide, by decide, by decide⟩) (fun r3843 u3844 h3842 => ?_)
  obtain ⟨rfl, rfl⟩ := h3842
  exact z_zret (u := S) b rfl (by decide) dX12_isNumber_8 ⟨rfl, rfl⟩ rfl (by decide) (by decide)

set_option maxHeartbeats 4000000 in
set_option maxRecDepth 100000 in
theorem c_X12_put_5 {l : Launch} {D : va_G} {cy : Nat → ClassId} {T0 tB tE : Nat} {a : Nat → Nat} (S : GS) (p0 : Int32)  (hr_p0 : 768 ≤ p0.toInt ∧ p0.toInt ≤ 2147483647) : Ct l D cy T0 tB tE yX12_put cX12_put 3 (some .int) 2 42 0 0 (mw cy a S) [.ref (a 0), .int 0, .int p0] (QI D (U := GS) (fun r u => (-1) = r ∧ S = u) (mw cy a)) := by
  refine Ct.ofZ RX12 "put" [(0, .ref (a 0)), (1, .int 0), (2, .int p0)] rfl rfl rfl rfl (Nat.le_of_ble_eq_true rfl) ?_
  intro p e R s m args below meth c A b
  refine z_iload_n b dX12_put_0 rfl rfl ?_
  refine z_calli b (z_runS (As := [.int 0]) (st := []) b (c_X12_isRow_3 S ) cf_X12_isRow wm_X12_452 ws_X12_isRow dX12_put_1 rfl (Nat.le_of_ble_eq_true rfl) ⟨by decide, by decide, by decide, by decide⟩) (fun r3838 u3839 h3837 => ?_)
  obtain ⟨rfl, rfl⟩ := h3837
  refine z_if_eq_f (tgt := 25) b dX12_put_4 (by decide) (by decide) ?_
  refine z_iload_n b dX12_put_7 rfl rfl ?_
  refine z_calli b (z_runS (As := [.int p0]) (st := []) b (c_X12_isNumber_3 S p0 ⟨by omega, by omega⟩) cf_X12_isNumber wm_X12_455 ws_X12_isNumber dX12_put_8 rfl (Nat.le_of_ble_eq_true rfl) ⟨by decide, by decide, by decide, by decide⟩) (fun r3846 u3847 h3845 => ?_)
  obtain ⟨rfl, rfl⟩ := h3845
  refine z_if_eq_t (tgt := 25) b dX12_put_11 (by decide) (by decide) ?_
  refine z_iconst (v := (-1)) b dX12_put_25 (by decide) ?_
  exact z_iret (u := S) b rfl dX12_put_26 ⟨rfl, rfl⟩ rfl (by decide) (by decide)

set_option maxHeartbeats 4000000 in
set_option maxRecDepth 100000 in
theorem c_X11_isRow_4 {l : Launch} {D : va_G} {cy : Nat → ClassId} {T0 tB tE : Nat} {a : Nat → Nat} {rw : Nat → Option Nat} (S : GS)   : Ct l D cy T0 tB tE yX11_isRow cX11_isRow 1 (some .boolean) 0 0 0 0 (cw cy tE a rw S) [.int 1] (QI D (U := GS) (fun r u => 1 = r ∧ S = u) (cw cy tE a rw)) := by
  refine Ct.ofZ RX11 "isRow" [(0, .int 1)] rfl rfl rfl rfl (Nat.le_of_ble_eq_true rfl) ?_
  intro p e R s m args below meth c A b
  refine z_iload_n b dX11_isRow_0 rfl rfl ?_
  refine z_if_lt_f (tgt := 14) b dX11_isRow_1 (by decide) (by decide) ?_
  refine z_iload_n b dX11_isRow_4 rfl rfl ?_
  refine z_bipush (v := 6) b dX11_isRow_5 (by decide) ?_
  refine z_icmp_ge_f (tgt := 14) b dX11_isRow_7 (by decide) (by decide) ?_
  refine z_iconst (v := 1) b dX11_isRow_10 (by decide) ?_
  refine z_goto (tgt := 15) b dX11_isRow_11 (by decide) ?_
  exact z_zret (u := S) b rfl (by decide) dX11_isRow_15 ⟨rfl, rfl⟩ rfl (by decide) (by decide)

set_option maxHeartbeats 4000000 in
set_option maxRecDepth 100000 in
theorem c_X11_put_6 {l : Launch} {D : va_G} {cy : Nat → ClassId} {T0 tB tE : Nat} {a : Nat → Nat} {rw : Nat → Option Nat} (S : GS) (p0 : Int32)  (hr_p0 : (-2147483648) ≤ p0.toInt ∧ p0.toInt ≤ (-1)) : Ct l D cy T0 tB tE yX11_put cX11_put 3 (some .int) 1 21 0 0 (cw cy tE a rw S) [.ref (a 0), .int 1, .int p0] (QI D (U := GS) (fun r u => (-1) = r ∧ S = u) (cw cy tE a rw)) := by
  refine Ct.ofZ RX11 "put" [(0, .ref (a 0)), (1, .int 1), (2, .int p0)] rfl rfl rfl rfl (Nat.le_of_ble_eq_true rfl) ?_
  intro p e R s m args below meth c A b
  refine z_iload_n b dX11_put_0 rfl rfl ?_
  refine z_calli b (z_runS (As := [.int 1]) (st := []) b (c_X11_isRow_4 S ) cf_X11_isRow wm_X11_169 ws_X11_isRow dX11_put_1 rfl (Nat.le_of_ble_eq_true rfl) ⟨by decide, by decide, by decide, by decide⟩) (fun r3849 u3850 h3848 => ?_)
  obtain ⟨rfl, rfl⟩ := h3848
  refine z_if_eq_f (tgt := 17) b dX11_put_4 (by decide) (by decide) ?_
  refine z_iload_n b dX11_put_7 rfl rfl ?_
  refine z_sipush (v := 767) b dX11_put_8 (by decide) ?_
  refine z_calli b (z_runS (As := [.int p0, .int 767]) (st := []) b (c_X11_isWithin_20 S p0 ⟨by omega, by omega⟩) cf_X11_isWithin wm_X11_73 ws_X11_isWithin dX11_put_11 rfl (Nat.le_of_ble_eq_true rfl) ⟨by decide, by decide, by decide, by decide⟩) (fun r3852 u3853 h3851 => ?_)
  obtain ⟨rfl, rfl⟩ := h3851
  refine z_if_ne_f (tgt := 19) b dX11_put_14 (by decide) (by decide) ?_
  refine z_iconst (v := (-1)) b dX11_put_17 (by decide) ?_
  exact z_iret (u := S) b rfl dX11_put_18 ⟨rfl, rfl⟩ rfl (by decide) (by decide)

set_option maxHeartbeats 4000000 in
set_option maxRecDepth 100000 in
theorem c_X12_isIn_43 {l : Launch} {D : va_G} {cy : Nat → ClassId} {T0 tB tE : Nat} {a : Nat → Nat} (S : GS)   : Ct l D cy T0 tB tE yX12_isIn cX12_isIn 3 (some .boolean) 0 0 0 0 (mw cy a S) [.int 1, .int 0, .int 5] (QI D (U := GS) (fun r u => 1 = r ∧ S = u) (mw cy a)) := by
  refine Ct.ofZ RX12 "isIn" [(0, .int 1), (1, .int 0), (2, .int 5)] rfl rfl rfl rfl (Nat.le_of_ble_eq_true rfl) ?_
  intro p e R s m args below meth c A b
  refine z_iload_n b dX12_isIn_0 rfl rfl ?_
  refine z_iload_n b dX12_isIn_1 rfl rfl ?_
  refine z_icmp_lt_f (tgt := 14) b dX12_isIn_2 (by decide) (by decide) ?_
  refine z_iload_n b dX12_isIn_5 rfl rfl ?_
  refine z_iload_n b dX12_isIn_6 rfl rfl ?_
  refine z_icmp_gt_f (tgt := 14) b dX12_isIn_7 (by decide) (by decide) ?_
  refine z_iconst (v := 1) b dX12_isIn_10 (by decide) ?_
  refine z_goto (tgt := 15) b dX12_isIn_11 (by decide) ?_
  exact z_zret (u := S) b rfl (by decide) dX12_isIn_15 ⟨rfl, rfl⟩ rfl (by decide) (by decide)

set_option maxHeartbeats 4000000 in
set_option maxRecDepth 100000 in
theorem c_X12_isRow_4 {l : Launch} {D : va_G} {cy : Nat → ClassId} {T0 tB tE : Nat} {a : Nat → Nat} (S : GS)   : Ct l D cy T0 tB tE yX12_isRow cX12_isRow 1 (some .boolean) 1 22 0 0 (mw cy a S) [.int 1] (QI D (U := GS) (fun r u => 1 = r ∧ S = u) (mw cy a)) := by
  refine Ct.ofZ RX12 "isRow" [(0, .int 1)] rfl rfl rfl rfl (Nat.le_of_ble_eq_true rfl) ?_
  intro p e R s m args below meth c A b
  refine z_iload_n b dX12_isRow_0 rfl rfl ?_
  refine z_iconst (v := 0) b dX12_isRow_1 (by decide) ?_
  refine z_iconst (v := 5) b dX12_isRow_2 (by decide) ?_
  refine z_calli b (z_runS (As := [.int 1, .int 0, .int 5]) (st := []) b (c_X12_isIn_43 S ) cf_X12_isIn wm_X12_1 ws_X12_isIn dX12_isRow_3 rfl (Nat.le_of_ble_eq_true rfl) ⟨by decide, by decide, by decide, by decide⟩) (fun r3855 u3856 h3854 => ?_)
  obtain ⟨rfl, rfl⟩ := h3854
  exact z_zret (u := S) b rfl (by decide) dX12_isRow_6 ⟨rfl, rfl⟩ rfl (by decide) (by decide)

set_option maxHeartbeats 4000000 in
set_option maxRecDepth 100000 in
theorem c_X12_put_6 {l : Launch} {D : va_G} {cy : Nat → ClassId} {T0 tB tE : Nat} {a : Nat → Nat} (S : GS) (p0 : Int32)  (hr_p0 : (-2147483648) ≤ p0.toInt ∧ p0.toInt ≤ (-1)) : Ct l D cy T0 tB tE yX12_put cX12_put 3 (some .int) 2 42 0 0 (mw cy a S) [.ref (a 0), .int 1, .int p0] (QI D (U := GS) (fun r u => (-1) = r ∧ S = u) (mw cy a)) := by
  refine Ct.ofZ RX12 "put" [(0, .ref (a 0)), (1, .int 1), (2, .int p0)] rfl rfl rfl rfl (Nat.le_of_ble_eq_true rfl) ?_
  intro p e R s m args below meth c A b
  refine z_iload_n b dX12_put_0 rfl rfl ?_
  refine z_calli b (z_runS (As := [.int 1]) (st := []) b (c_X12_isRow_4 S ) cf_X12_isRow wm_X12_452 ws_X12_isRow dX12_put_1 rfl (Nat.le_of_ble_eq_true rfl) ⟨by decide, by decide, by decide, by decide⟩) (fun r3858 u3859 h3857 => ?_)
  obtain ⟨rfl, rfl⟩ := h3857
  refine z_if_eq_f (tgt := 25) b dX12_put_4 (by decide) (by decide) ?_
  refine z_iload_n b dX12_put_7 rfl rfl ?_
  refine z_calli b (z_runS (As := [.int p0]) (st := []) b (c_X12_isNumber S p0 ⟨by omega, by omega⟩) cf_X12_isNumber wm_X12_455 ws_X12_isNumber dX12_put_8 rfl (Nat.le_of_ble_eq_true rfl) ⟨by decide, by decide, by decide, by decide⟩) (fun r3861 u3862 h3860 => ?_)
  obtain ⟨rfl, rfl⟩ := h3860
  refine z_if_eq_t (tgt := 25) b dX12_put_11 (by decide) (by decide) ?_
  refine z_iconst (v := (-1)) b dX12_put_25 (by decide) ?_
  exact z_iret (u := S) b rfl dX12_put_26 ⟨rfl, rfl⟩ rfl (by decide) (by decide)

set_option maxHeartbeats 4000000 in
set_option maxRecDepth 100000 in
theorem c_X7_add_2 {l : Launch} {D : va_G} {cy : Nat → ClassId} {T0 tB tE : Nat} {a : Nat → Nat} {rw : Nat → Option Nat} (S : GS) (p0 : Int32) (h_i_29 : fi S 29 = 0) (hr_p0 : 0 ≤ p0.toInt ∧ p0.toInt ≤ 767) : Ct l D cy T0 tB tE yX7_add cX7_add 2 (some .int) 0 0 0 0 (cw cy tE a rw S) [.ref (a 38), .int p0] (QI D (U := GS) (fun r u => 1 = r ∧ si (su S 16 0 p0) 29 1 = u) (cw cy tE a rw)) := by
  refine Ct.ofZ RX7 "add" [(0, .ref (a 38)), (1, .int p0)] rfl rfl rfl rfl (Nat.le_of_ble_eq_true rfl) ?_
  intro p e R s m args below meth c A b
  refine z_aload_n b dX7_add_0 rfl rfl ?_
  refine z_get (q0 := 38) (k9 := 1) (v := .int (fi S 29)) b (cw_38 cy tE a rw S) rfl in_X7 (by decide) wf_X7_9 rfl dX7_add_1 ?_
  refine z_eqi h_i_29 ?_
  refine z_if_lt_f (tgt := 19) b dX7_add_4 (by decide) (by decide) ?_
  refine z_aload_n b dX7_add_7 rfl rfl ?_
  refine z_get (q0 := 38) (k9 := 1) (v := .int (fi S 29)) b (cw_38 cy tE a rw S) rfl in_X7 (by decide) wf_X7_9 rfl dX7_add_8 ?_
  refine z_eqi h_i_29 ?_
  refine z_aload_n b dX7_add_11 rfl rfl ?_
  refine z_get (q0 := 38) (k9 := 0) (v := .ref (a 39)) b (cw_38 cy tE a rw S) rfl in_X7 (by decide) wf_X7_25 rfl dX7_add_12 ?_
  refine z_alen (q0 := 39) (t0 := 0) (v := 12) b (cw_39 cy tE a rw S) rfl rfl dX7_add_15 ?_
  refine z_icmp_lt_t (tgt := 21) b dX7_add_16 (by decide) (by decide) ?_
  refine z_aload_n b dX7_add_21 rfl rfl ?_
  refine z_get (q0 := 38) (k9 := 0) (v := .ref (a 39)) b (cw_38 cy tE a rw S) rfl in_X7 (by decide) wf_X7_25 rfl dX7_add_22 ?_
  refine z_aload_n b dX7_add_25 rfl rfl ?_
  refine z_get (q0 := 38) (k9 := 1) (v := .int (fi S 29)) b (cw_38 cy tE a rw S) rfl in_X7 (by decide) wf_X7_9 rfl dX7_add_26 ?_
  refine z_eqi h_i_29 ?_
  refine z_iload_n b dX7_add_29 rfl rfl ?_
  refine y_iast (q0 := 39) (j := 0) b (cw_39 cy tE a rw S) (by decide) dX7_add_30 (cwa_39 cy tE a rw S 0 p0) ?_
  refine z_aload_n b dX7_add_31 rfl rfl ?_
  refine z_dup b dX7_add_32 rfl ?_
  refine z_get (q0 := 38) (k9 := 1) (v := .int (fi (su S 16 0 p0) 29)) b (cw_38 cy tE a rw (su S 16 0 p0)) rfl in_X7 (by decide) wf_X7_9 rfl dX7_add_33 ?_
  refine z_eqi h_i_29 ?_
  refine z_iconst (v := 1) b dX7_add_36 (by decide) ?_
  refine z_iadd (v := 1) b dX7_add_37 (by decide) ?_
  refine z_put (q0 := 38) (k9 := 1) tyX7 b (cw_38 cy tE a rw (su S 16 0 p0)) rfl in_X7 tyX7_ok nmX7 (by decide) wf_X7_9 rfl rfl rfl rfl (Nat.le_of_ble_eq_true rfl) dX7_add_38 (cwp_38_1 cy tE a rw (su S 16 0 p0) 1) ?_
  refine z_aload_n b dX7_add_41 rfl rfl ?_
  refine z_get (q0 := 38) (k9 := 1) (v := .int 1) b (cw_38 cy tE a rw (si (su S 16 0 p0) 29 1)) rfl in_X7 (by decide) wf_X7_9 rfl dX7_add_42 ?_
  exact z_iret (u := (si (su S 16 0 p0) 29 1)) b rfl dX7_add_45 ⟨rfl, rfl⟩ rfl (by decide) (by decide)

set_option maxHeartbeats 4000000 in
set_option maxRecDepth 100000 in
theorem c_X11_put_7 {l : Launch} {D : va_G} {cy : Nat → ClassId} {T0 tB tE : Nat} {a : Nat → Nat} {rw : Nat → Option Nat} (S : GS) (p0 : Int32) (h_i_29 : fi S 29 = 0) (hrw : ∀ i, i < 6 → rw i = some (a (36 + 2 * i))) (hr_p0 : 0 ≤ p0.toInt ∧ p0.toInt ≤ 767) : Ct l D cy T0 tB tE yX11_put cX11_put 3 (some .int) 1 21 0 0 (cw cy tE a rw S) [.ref (a 0), .int 1, .int p0] (QI D (U := GS) (fun r u => 1 = r ∧ si (su S 16 0 p0) 29 1 = u) (cw cy tE a rw)) := by
  refine Ct.ofZ RX11 "put" [(0, .ref (a 0)), (1, .int 1), (2, .int p0)] rfl rfl rfl rfl (Nat.le_of_ble_eq_true rfl) ?_
  intro p e R s m args below meth c A b
  refine z_iload_n b dX11_put_0 rfl rfl ?_
  refine z_calli b (z_runS (As := [.int 1]) (st := []) b (c_X11_isRow_4 S ) cf_X11_isRow wm_X11_169 ws_X11_isRow dX11_put_1 rfl (Nat.le_of_ble_eq_true rfl) ⟨by decide, by decide, by decide, by decide⟩) (fun r3864 u3865 h3863 => ?_)
  obtain ⟨rfl, rfl⟩ := h3863
  refine z_if_eq_f (tgt := 17) b dX11_put_4 (by decide) (by decide) ?_
  refine z_iload_n b dX11_put_7 rfl rfl ?_
  refine z_sipush (v := 767) b dX11_put_8 (by decide) ?_
  refine z_calli b (z_runS (As := [.int p0, .int 767]) (st := []) b (c_X11_isWithin_21 S p0 ⟨by omega, by omega⟩) cf_X11_isWithin wm_X11_73 ws_X11_isWithin dX11_put_11 rfl (Nat.le_of_ble_eq_true rfl) ⟨by decide, by decide, by decide, by decide⟩) (fun r3867 u3868 h3866 => ?_)
  obtain ⟨rfl, rfl⟩ := h3866
  refine z_if_ne_t (tgt := 19) b dX11_put_14 (by decide) (by decide) ?_
  refine z_aload_n b dX11_put_19 rfl rfl ?_
  refine z_get (q0 := 0) (k9 := 7) (v := .ref (a 35)) b (cw_0 cy tE a rw S) rfl in_X11 (by decide) wf_X11_58 rfl dX11_put_20 ?_
  refine z_iload_n b dX11_put_23 rfl rfl ?_
  refine y_aald (q0 := 35) (t0 := 4) (j := 1) (v := .ref (a 38)) b (cw_35 cy tE a rw S) rfl (by decide) (by rw [hrw 1 (by decide)]; rfl) dX11_put_24 ?_
  refine z_iload_n b dX11_put_25 rfl rfl ?_
  refine z_calli b (z_runV (q0 := 38) (As := [.int p0]) (st := []) b (c_X7_add_2 S p0 h_i_29 ⟨by omega, by omega⟩) cf_X7_add (cw_38 cy tE a rw S) rfl wm_X11_172 wi_X7_add ws_X7_add dX11_put_26 rfl (Nat.le_of_ble_eq_true rfl) ⟨by decide, by decide, by decide, by decide⟩) (fun r3870 u3871 h3869 => ?_)
  obtain ⟨rfl, rfl⟩ := h3869
  exact z_iret (u := (si (su S 16 0 p0) 29 1)) b rfl dX11_put_29 ⟨rfl, rfl⟩ rfl (by decide) (by decide)

set_option maxHeartbeats 4000000 in
set_option maxRecDepth 100000 in
theorem c_X12_put_7 {l : Launch} {D : va_G} {cy : Nat → ClassId} {T0 tB tE : Nat} {a : Nat → Nat} (S : GS) (p0 : Int32) (h_a_38_1 : ar S 38 1 = 0) (hr_p0 : 0 ≤ p0.toInt ∧ p0.toInt ≤ 767) : Ct l D cy T0 tB tE yX12_put cX12_put 3 (some .int) 2 42 0 0 (mw cy a S) [.ref (a 0), .int 1, .int p0] (QI D (U := GS) (fun r u => 1 = r ∧ su (su S 37 12 p0) 38 1 1 = u) (mw cy a)) := by
  refine Ct.ofZ RX12 "put" [(0, .ref (a 0)), (1, .int 1), (2, .int p0)] rfl rfl rfl rfl (Nat.le_of_ble_eq_true rfl) ?_
  intro p e R s m args below meth c A b
  refine z_iload_n b dX12_put_0 rfl rfl ?_
  refine z_calli b (z_runS (As := [.int 1]) (st := []) b (c_X12_isRow_4 S ) cf_X12_isRow wm_X12_452 ws_X12_isRow dX12_put_1 rfl (Nat.le_of_ble_eq_true rfl) ⟨by decide, by decide, by decide, by decide⟩) (fun r3873 u3874 h3872 => ?_)
  obtain ⟨rfl, rfl⟩ := h3872
  refine z_if_eq_f (tgt := 25) b dX12_put_4 (by decide) (by decide) ?_
  refine z_iload_n b dX12_put_7 rfl rfl ?_
  refine z_calli b (z_runS (As := [.int p0]) (st := []) b (c_X12_isNumber_2 S p0 ⟨by omega, by omega⟩) cf_X12_isNumber wm_X12_455 ws_X12_isNumber dX12_put_8 rfl (Nat.le_of_ble_eq_true rfl) ⟨by decide, by decide, by decide, by decide⟩) (fun r3876 u3877 h3875 => ?_)
  obtain ⟨rfl, rfl⟩ := h3875
  refine z_if_eq_f (tgt := 25) b dX12_put_11 (by decide) (by decide) ?_
  refine z_aload_n b dX12_put_14 rfl rfl ?_
  refine z_get (q0 := 0) (k9 := 66) (v := .ref (a 41)) b (mw_0 cy a S) rfl in_X12 (by decide) wf_X12_140 rfl dX12_put_15 ?_
  refine z_iload_n b dX12_put_18 rfl rfl ?_
  refine y_iald (q0 := 41) (j := 1) (v := (ar S 38 1)) b (mw_41 cy a S) (by decide) rfl dX12_put_19 ?_
  refine z_eqi h_a_38_1 ?_
  refine z_bipush (v := 12) b dX12_put_20 (by decide) ?_
  refine z_icmp_ne_t (tgt := 27) b dX12_put_22 (by decide) (by decide) ?_
  refine z_aload_n b dX12_put_27 rfl rfl ?_
  refine z_get (q0 := 0) (k9 := 65) (v := .ref (a 40)) b (mw_0 cy a S) rfl in_X12 (by decide) wf_X12_137 rfl dX12_put_28 ?_
  refine z_bipush (v := 12) b dX12_put_31 (by decide) ?_
  refine z_iload_n b dX12_put_33 rfl rfl ?_
  refine z_imul (v := 12) b dX12_put_34 (by decide) ?_
  refine z_aload_n b dX12_put_35 rfl rfl ?_
  refine z_get (q0 := 0) (k9 := 66) (v := .ref (a 41)) b (mw_0 cy a S) rfl in_X12 (by decide) wf_X12_140 rfl dX12_put_36 ?_
  refine z_iload_n b dX12_put_39 rfl rfl ?_
  refine y_iald (q0 := 41) (j := 1) (v := (ar S 38 1)) b (mw_41 cy a S) (by decide) rfl dX12_put_40 ?_
  refine z_eqi h_a_38_1 ?_
  refine z_iadd (v := 12) b dX12_put_41 (by decide) ?_
  refine z_iload_n b dX12_put_42 rfl rfl ?_
  refine y_iast (q0 := 40) (j := 12) b (mw_40 cy a S) (by decide) dX12_put_43 (mwa_40 cy a S 12 p0) ?_
  refine z_aload_n b dX12_put_44 rfl rfl ?_
  refine z_get (q0 := 0) (k9 := 66) (v := .ref (a 41)) b (mw_0 cy a (su S 37 12 p0)) rfl in_X12 (by decide) wf_X12_140 rfl dX12_put_45 ?_
  refine z_iload_n b dX12_put_48 rfl rfl ?_
  refine z_dup2 b dX12_put_49 rfl rfl ?_
  refine y_iald (q0 := 41) (j := 1) (v := (ar (su S 37 12 p0) 38 1)) b (mw_41 cy a (su S 37 12 p0)) (by decide) rfl dX12_put_50 ?_
  refine z_eqi h_a_38_1 ?_
  refine z_iconst (v := 1) b dX12_put_51 (by decide) ?_
  refine z_iadd (v := 1) b dX12_put_52 (by decide) ?_
  refine y_iast (q0 := 41) (j := 1) b (mw_41 cy a (su S 37 12 p0)) (by decide) dX12_put_53 (mwa_41 cy a (su S 37 12 p0) 1 1) ?_
  refine z_aload_n b dX12_put_54 rfl rfl ?_
  refine z_get (q0 := 0) (k9 := 66) (v := .ref (a 41)) b (mw_0 cy a (su (su S 37 12 p0) 38 1 1)) rfl in_X12 (by decide) wf_X12_140 rfl dX12_put_55 ?_
  refine z_iload_n b dX12_put_58 rfl rfl ?_
  refine y_iald (q0 := 41) (j := 1) (v := 1) b (mw_41 cy a (su (su S 37 12 p0) 38 1 1)) (by decide) rfl dX12_put_59 ?_
  exact z_iret (u := (su (su S 37 12 p0) 38 1 1)) b rfl dX12_put_60 ⟨rfl, rfl⟩ rfl (by decide) (by decide)

set_option maxHeartbeats 4000000 in
set_option maxRecDepth 100000 in
theorem c_X11_put_8 {l : Launch} {D : va_G} {cy : Nat → ClassId} {T0 tB tE : Nat} {a : Nat → Nat} {rw : Nat → Option Nat} (S : GS) (p0 : Int32)  (hr_p0 : 768 ≤ p0.toInt ∧ p0.toInt ≤ 2147483647) : Ct l D cy T0 tB tE yX11_put cX11_put 3 (some .int) 1 21 0 0 (cw cy tE a rw S) [.ref (a 0), .int 1, .int p0] (QI D (U := GS) (fun r u => (-1) = r ∧ S = u) (cw cy tE a rw)) := by
  refine Ct.ofZ RX11 "put" [(0, .ref (a 0)), (1, .int 1), (2, .int p0)] rfl rfl rfl rfl (Nat.le_of_ble_eq_true rfl) ?_
  intro p e R s m args below meth c A b
  refine z_iload_n b dX11_put_0 rfl rfl ?_
  refine z_calli b (z_runS (As := [.int 1]) (st := []) b (c_X11_isRow_4 S ) cf_X11_isRow wm_X11_169 ws_X11_isRow dX11_put_1 rfl (Nat.le_of_ble_eq_true rfl) ⟨by decide, by decide, by decide, by decide⟩) (fun r3879 u3880 h3878 => ?_)
  obtain ⟨rfl, rfl⟩ := h3878
  refine z_if_eq_f (tgt := 17) b dX11_put_4 (by decide) (by decide) ?_
  refine z_iload_n b dX11_put_7 rfl rfl ?_
  refine z_sipush (v := 767) b dX11_put_8 (by decide) ?_
  refine z_calli b (z_runS (As := [.int p0, .int 767]) (st := []) b (c_X11_isWithin_22 S p0 ⟨by omega, by omega⟩) cf_X11_isWithin wm_X11_73 ws_X11_isWithin dX11_put_11 rfl (Nat.le_of_ble_eq_true rfl) ⟨by decide, by decide, by decide, by decide⟩) (fun r3882 u3883 h3881 => ?_)
  obtain ⟨rfl, rfl⟩ := h3881
  refine z_if_ne_f (tgt := 19) b dX11_put_14 (by decide) (by decide) ?_
  refine z_iconst (v := (-1)) b dX11_put_17 (by decide) ?_
  exact z_iret (u := S) b rfl dX11_put_18 ⟨rfl, rfl⟩ rfl (by decide) (by decide)

set_option maxHeartbeats 4000000 in
set_option maxRecDepth 100000 in
theorem c_X12_put_8 {l : Launch} {D : va_G} {cy : Nat → ClassId} {T0 tB tE : Nat} {a : Nat → Nat} (S : GS) (p0 : Int32)  (hr_p0 : 768 ≤ p0.toInt ∧ p0.toInt ≤ 2147483647) : Ct l D cy T0 tB tE yX12_put cX12_put 3 (some .int) 2 42 0 0 (mw cy a S) [.ref (a 0), .int 1, .int p0] (QI D (U := GS) (fun r u => (-1) = r ∧ S = u) (mw cy a)) := by
  refine Ct.ofZ RX12 "put" [(0, .ref (a 0)), (1, .int 1), (2, .int p0)] rfl rfl rfl rfl (Nat.le_of_ble_eq_true rfl) ?_
  intro p e R s m args below meth c A b
  refine z_iload_n b dX12_put_0 rfl rfl ?_
  refine z_calli b (z_runS (As := [.int 1]) (st := []) b (c_X12_isRow_4 S ) cf_X12_isRow wm_X12_452 ws_X12_isRow dX12_put_1 rfl (Nat.le_of_ble_eq_true rfl) ⟨by decide, by decide, by decide, by decide⟩) (fun r3885 u3886 h3884 => ?_)
  obtain ⟨rfl, rfl⟩ := h3884
  refine z_if_eq_f (tgt := 25) b dX12_put_4 (by decide) (by decide) ?_
  refine z_iload_n b dX12_put_7 rfl rfl ?_
  refine z_calli b (z_runS (As := [.int p0]) (st := []) b (c_X12_isNumber_3 S p0 ⟨by omega, by omega⟩) cf_X12_isNumber wm_X12_455 ws_X12_isNumber dX12_put_8 rfl (Nat.le_of_ble_eq_true rfl) ⟨by decide, by decide, by decide, by decide⟩) (fun r3888 u3889 h3887 => ?_)
  obtain ⟨rfl, rfl⟩ := h3887
  refine z_if_eq_t (tgt := 25) b dX12_put_11 (by decide) (by decide) ?_
  refine z_iconst (v := (-1)) b dX12_put_25 (by decide) ?_
  exact z_iret (u := S) b rfl dX12_put_26 ⟨rfl, rfl⟩ rfl (by decide) (by decide)

set_option maxHeartbeats 4000000 in
set_option maxRecDepth 100000 in
theorem c_X11_isRow_5 {l : Launch} {D : va_G} {cy : Nat → ClassId} {T0 tB tE : Nat} {a : Nat → Nat} {rw : Nat → Option Nat} (S : GS)   : Ct l D cy T0 tB tE yX11_isRow cX11_isRow 1 (some .boolean) 0 0 0 0 (cw cy tE a rw S) [.int 2] (QI D (U := GS) (fun r u => 1 = r ∧ S = u) (cw cy tE a rw)) := by
  refine Ct.ofZ RX11 "isRow" [(0, .int 2)] rfl rfl rfl rfl (Nat.le_of_ble_eq_true rfl) ?_
  intro p e R s m args below meth c A b
  refine z_iload_n b dX11_isRow_0 rfl rfl ?_
  refine z_if_lt_f (tgt := 14) b dX11_isRow_1 (by decide) (by decide) ?_
  refine z_iload_n b dX11_isRow_4 rfl rfl ?_
  refine z_bipush (v := 6) b dX11_isRow_5 (by decide) ?_
  refine z_icmp_ge_f (tgt := 14) b dX11_isRow_7 (by decide) (by decide) ?_
  refine z_iconst (v := 1) b dX11_isRow_10 (by decide) ?_
  refine z_goto (tgt := 15) b dX11_isRow_11 (by decide) ?_
  exact z_zret (u := S) b rfl (by decide) dX11_isRow_15 ⟨rfl, rfl⟩ rfl (by decide) (by decide)

set_option maxHeartbeats 4000000 in
set_option maxRecDepth 100000 in
theorem c_X11_put_9 {l : Launch} {D : va_G} {cy : Nat → ClassId} {T0 tB tE : Nat} {a : Nat → Nat} {rw : Nat → Option Nat} (S : GS) (p0 : Int32)  (hr_p0 : (-2147483648) ≤ p0.toInt ∧ p0.toInt ≤ (-1)) : Ct l D cy T0 tB tE yX11_put cX11_put 3 (some .int) 1 21 0 0 (cw cy tE a rw S) [.ref (a 0), .int 2, .int p0] (QI D (U := GS) (fun r u => (-1) = r ∧ S = u) (cw cy tE a rw)) := by
  refine Ct.ofZ RX11 "put" [(0, .ref (a 0)), (1, .int 2), (2, .int p0)] rfl rfl rfl rfl (Nat.le_of_ble_eq_true rfl) ?_
  intro p e R s m args below meth c A b
  refine z_iload_n b dX11_put_0 rfl rfl ?_
  refine z_calli b (z_runS (As := [.int 2]) (st := []) b (c_X11_isRow_5 S ) cf_X11_isRow wm_X11_169 ws_X11_isRow dX11_put_1 rfl (Nat.le_of_ble_eq_true rfl) ⟨by decide, by decide, by decide, by decide⟩) (fun r3891 u3892 h3890 => ?_)
  obtain ⟨rfl, rfl⟩ := h3890
  refine z_if_eq_f (tgt := 17) b dX11_put_4 (by decide) (by decide) ?_
  refine z_iload_n b dX11_put_7 rfl rfl ?_
  refine z_sipush (v := 767) b dX11_put_8 (by decide) ?_
  refine z_calli b (z_runS (As := [.int p0, .int 767]) (st := []) b (c_X11_isWithin_20 S p0 ⟨by omega, by omega⟩) cf_X11_isWithin wm_X11_73 ws_X11_isWithin dX11_put_11 rfl (Nat.le_of_ble_eq_true rfl) ⟨by decide, by decide, by decide, by decide⟩) (fun r3894 u3895 h3893 => ?_)
  obtain ⟨rfl, rfl⟩ := h3893
  refine z_if_ne_f (tgt := 19) b dX11_put_14 (by decide) (by decide) ?_
  refine z_iconst (v := (-1)) b dX11_put_17 (by decide) ?_
  exact z_iret (u := S) b rfl dX11_put_18 ⟨rfl, rfl⟩ rfl (by decide) (by decide)

set_option maxHeartbeats 4000000 in
set_option maxRecDepth 100000 in
theorem c_X12_isIn_44 {l : Launch} {D : va_G} {cy : Nat → ClassId} {T0 tB tE : Nat} {a : Nat → Nat} (S : GS)   : Ct l D cy T0 tB tE yX12_isIn cX12_isIn 3 (some .boolean) 0 0 0 0 (mw cy a S) [.int 2, .int 0, .int 5] (QI D (U := GS) (fun r u => 1 = r ∧ S = u) (mw cy a)) := by
  refine Ct.ofZ RX12 "isIn" [(0, .int 2), (1, .int 0), (2, .int 5)] rfl rfl rfl rfl (Nat.le_of_ble_eq_true rfl) ?_
  intro p e R s m args below meth c A b
  refine z_iload_n b dX12_isIn_0 rfl rfl ?_
  refine z_iload_n b dX12_isIn_1 rfl rfl ?_
  refine z_icmp_lt_f (tgt := 14) b dX12_isIn_2 (by decide) (by decide) ?_
  refine z_iload_n b dX12_isIn_5 rfl rfl ?_
  refine z_iload_n b dX12_isIn_6 rfl rfl ?_
  refine z_icmp_gt_f (tgt := 14) b dX12_isIn_7 (by decide) (by decide) ?_
  refine z_iconst (v := 1) b dX12_isIn_10 (by decide) ?_
  refine z_goto (tgt := 15) b dX12_isIn_11 (by decide) ?_
  exact z_zret (u := S) b rfl (by decide) dX12_isIn_15 ⟨rfl, rfl⟩ rfl (by decide) (by decide)

set_option maxHeartbeats 4000000 in
set_option maxRecDepth 100000 in
theorem c_X12_isRow_5 {l : Launch} {D : va_G} {cy : Nat → ClassId} {T0 tB tE : Nat} {a : Nat → Nat} (S : GS)   : Ct l D cy T0 tB tE yX12_isRow cX12_isRow 1 (some .boolean) 1 22 0 0 (mw cy a S) [.int 2] (QI D (U := GS) (fun r u => 1 = r ∧ S = u) (mw cy a)) := by
  refine Ct.ofZ RX12 "isRow" [(0, .int 2)] rfl rfl rfl rfl (Nat.le_of_ble_eq_true rfl) ?_
  intro p e R s m args below meth c A b
  refine z_iload_n b dX12_isRow_0 rfl rfl ?_
  refine z_iconst (v := 0) b dX12_isRow_1 (by decide) ?_
  refine z_iconst (v := 5) b dX12_isRow_2 (by decide) ?_
  refine z_calli b (z_runS (As := [.int 2, .int 0, .int 5]) (st := []) b (c_X12_isIn_44 S ) cf_X12_isIn wm_X12_1 ws_X12_isIn dX12_isRow_3 rfl (Nat.le_of_ble_eq_true rfl) ⟨by decide, by decide, by decide, by decide⟩) (fun r3897 u3898 h3896 => ?_)
  obtain ⟨rfl, rfl⟩ := h3896
  exact z_zret (u := S) b rfl (by decide) dX12_isRow_6 ⟨rfl, rfl⟩ rfl (by decide) (by decide)

set_option maxHeartbeats 4000000 in
set_option maxRecDepth 100000 in
theorem c_X12_put_9 {l : Launch} {D : va_G} {cy : Nat → ClassId} {T0 tB tE : Nat} {a : Nat → Nat} (S : GS) (p0 : Int32)  (hr_p0 : (-2147483648) ≤ p0.toInt ∧ p0.toInt ≤ (-1)) : Ct l D cy T0 tB tE yX12_put cX12_put 3 (some .int) 2 42 0 0 (mw cy a S) [.ref (a 0), .int 2, .int p0] (QI D (U := GS) (fun r u => (-1) = r ∧ S = u) (mw cy a)) := by
  refine Ct.ofZ RX12 "put" [(0, .ref (a 0)), (1, .int 2), (2, .int p0)] rfl rfl rfl rfl (Nat.le_of_ble_eq_true rfl) ?_
  intro p e R s m args below meth c A b
  refine z_iload_n b dX12_put_0 rfl rfl ?_
  refine z_calli b (z_runS (As := [.int 2]) (st := []) b (c_X12_isRow_5 S ) cf_X12_isRow wm_X12_452 ws_X12_isRow dX12_put_1 rfl (Nat.le_of_ble_eq_true rfl) ⟨by decide, by decide, by decide, by decide⟩) (fun r3900 u3901 h3899 => ?_)
  obtain ⟨rfl, rfl⟩ := h3899
  refine z_if_eq_f (tgt := 25) b dX12_put_4 (by decide) (by decide) ?_
  refine z_iload_n b dX12_put_7 rfl rfl ?_
  refine z_calli b (z_runS (As := [.int p0]) (st := []) b (c_X12_isNumber S p0 ⟨by omega, by omega⟩) cf_X12_isNumber wm_X12_455 ws_X12_isNumber dX12_put_8 rfl (Nat.le_of_ble_eq_true rfl) ⟨by decide, by decide, by decide, by decide⟩) (fun r3903 u3904 h3902 => ?_)
  obtain ⟨rfl, rfl⟩ := h3902
  refine z_if_eq_t (tgt := 25) b dX12_put_11 (by decide) (by decide) ?_
  refine z_iconst (v := (-1)) b dX12_put_25 (by decide) ?_
  exact z_iret (u := S) b rfl dX12_put_26 ⟨rfl, rfl⟩ rfl (by decide) (by decide)

set_option maxHeartbeats 4000000 in
set_option maxRecDepth 100000 in
theorem c_X7_add_3 {l : Launch} {D : va_G} {cy : Nat → ClassId} {T0 tB tE : Nat} {a : Nat → Nat} {rw : Nat → Option Nat} (S : GS) (p0 : Int32) (h_i_31 : fi S 31 = 0) (hr_p0 : 0 ≤ p0.toInt ∧ p0.toInt ≤ 767) : Ct l D cy T0 tB tE yX7_add cX7_add 2 (some .int) 0 0 0 0 (cw cy tE a rw S) [.ref (a 40), .int p0] (QI D (U := GS) (fun r u => 1 = r ∧ si (su S 17 0 p0) 31 1 = u) (cw cy tE a rw)) := by
  refine Ct.ofZ RX7 "add" [(0, .ref (a 40)), (1, .int p0)] rfl rfl rfl rfl (Nat.le_of_ble_eq_true rfl) ?_
  intro p e R s m args below meth c A b
  refine z_aload_n b dX7_add_0 rfl rfl ?_
  refine z_get (q0 := 40) (k9 := 1) (v := .int (fi S 31)) b (cw_40 cy tE a rw S) rfl in_X7 (by decide) wf_X7_9 rfl dX7_add_1 ?_
  refine z_eqi h_i_31 ?_
  refine z_if_lt_f (tgt := 19) b dX7_add_4 (by decide) (by decide) ?_
  refine z_aload_n b dX7_add_7 rfl rfl ?_
  refine z_get (q0 := 40) (k9 := 1) (v := .int (fi S 31)) b (cw_40 cy tE a rw S) rfl in_X7 (by decide) wf_X7_9 rfl dX7_add_8 ?_
  refine z_eqi h_i_31 ?_
  refine z_aload_n b dX7_add_11 rfl rfl ?_
  refine z_get (q0 := 40) (k9 := 0) (v := .ref (a 41)) b (cw_40 cy tE a rw S) rfl in_X7 (by decide) wf_X7_25 rfl dX7_add_12 ?_
  refine z_alen (q0 := 41) (t0 := 0) (v := 12) b (cw_41 cy tE a rw S) rfl rfl dX7_add_15 ?_
  refine z_icmp_lt_t (tgt := 21) b dX7_add_16 (by decide) (by decide) ?_
  refine z_aload_n b dX7_add_21 rfl rfl ?_
  refine z_get (q0 := 40) (k9 := 0) (v := .ref (a 41)) b (cw_40 cy tE a rw S) rfl in_X7 (by decide) wf_X7_25 rfl dX7_add_22 ?_
  refine z_aload_n b dX7_add_25 rfl rfl ?_
  refine z_get (q0 := 40) (k9 := 1) (v := .int (fi S 31)) b (cw_40 cy tE a rw S) rfl in_X7 (by decide) wf_X7_9 rfl dX7_add_26 ?_
  refine z_eqi h_i_31 ?_
  refine z_iload_n b dX7_add_29 rfl rfl ?_
  refine y_iast (q0 := 41) (j := 0) b (cw_41 cy tE a rw S) (by decide) dX7_add_30 (cwa_41 cy tE a rw S 0 p0) ?_
  refine z_aload_n b dX7_add_31 rfl rfl ?_
  refine z_dup b dX7_add_32 rfl ?_
  refine z_get (q0 := 40) (k9 := 1) (v := .int (fi (su S 17 0 p0) 31)) b (cw_40 cy tE a rw (su S 17 0 p0)) rfl in_X7 (by decide) wf_X7_9 rfl dX7_add_33 ?_
  refine z_eqi h_i_31 ?_
  refine z_iconst (v := 1) b dX7_add_36 (by decide) ?_
  refine z_iadd (v := 1) b dX7_add_37 (by decide) ?_
  refine z_put (q0 := 40) (k9 := 1) tyX7 b (cw_40 cy tE a rw (su S 17 0 p0)) rfl in_X7 tyX7_ok nmX7 (by decide) wf_X7_9 rfl rfl rfl rfl (Nat.le_of_ble_eq_true rfl) dX7_add_38 (cwp_40_1 cy tE a rw (su S 17 0 p0) 1) ?_
  refine z_aload_n b dX7_add_41 rfl rfl ?_
  refine z_get (q0 := 40) (k9 := 1) (v := .int 1) b (cw_40 cy tE a rw (si (su S 17 0 p0) 31 1)) rfl in_X7 (by decide) wf_X7_9 rfl dX7_add_42 ?_
  exact z_iret (u := (si (su S 17 0 p0) 31 1)) b rfl dX7_add_45 ⟨rfl, rfl⟩ rfl (by decide) (by decide)

set_option maxHeartbeats 4000000 in
set_option maxRecDepth 100000 in
theorem c_X11_put_10 {l : Launch} {D : va_G} {cy : Nat → ClassId} {T0 tB tE : Nat} {a : Nat → Nat} {rw : Nat → Option Nat} (S : GS) (p0 : Int32) (h_i_31 : fi S 31 = 0) (hrw : ∀ i, i < 6 → rw i = some (a (36 + 2 * i))) (hr_p0 : 0 ≤ p0.toInt ∧ p0.toInt ≤ 767) : Ct l D cy T0 tB tE yX11_put cX11_put 3 (some .int) 1 21 0 0 (cw cy tE a rw S) [.ref (a 0), .int 2, .int p0] (QI D (U := GS) (fun r u => 1 = r ∧ si (su S 17 0 p0) 31 1 = u) (cw cy tE a rw)) := by
  refine Ct.ofZ RX11 "put" [(0, .ref (a 0)), (1, .int 2), (2, .int p0)] rfl rfl rfl rfl (Nat.le_of_ble_eq_true rfl) ?_
  intro p e R s m args below meth c A b
  refine z_iload_n b dX11_put_0 rfl rfl ?_
  refine z_calli b (z_runS (As := [.int 2]) (st := []) b (c_X11_isRow_5 S ) cf_X11_isRow wm_X11_169 ws_X11_isRow dX11_put_1 rfl (Nat.le_of_ble_eq_true rfl) ⟨by decide, by decide, by decide, by decide⟩) (fun r3906 u3907 h3905 => ?_)
  obtain ⟨rfl, rfl⟩ := h3905
  refine z_if_eq_f (tgt := 17) b dX11_put_4 (by decide) (by decide) ?_
  refine z_iload_n b dX11_put_7 rfl rfl ?_
  refine z_sipush (v := 767) b dX11_put_8 (by decide) ?_
  refine z_calli b (z_runS (As := [.int p0, .int 767]) (st := []) b (c_X11_isWithin_21 S p0 ⟨by omega, by omega⟩) cf_X11_isWithin wm_X11_73 ws_X11_isWithin dX11_put_11 rfl (Nat.le_of_ble_eq_true rfl) ⟨by decide, by decide, by decide, by decide⟩) (fun r3909 u3910 h3908 => ?_)
  obtain ⟨rfl, rfl⟩ := h3908
  refine z_if_ne_t (tgt := 19) b dX11_put_14 (by decide) (by decide) ?_
  refine z_aload_n b dX11_put_19 rfl rfl ?_
  refine z_get (q0 := 0) (k9 := 7) (v := .ref (a 35)) b (cw_0 cy tE a rw S) rfl in_X11 (by decide) wf_X11_58 rfl dX11_put_20 ?_
  refine z_iload_n b dX11_put_23 rfl rfl ?_
  refine y_aald (q0 := 35) (t0 := 4) (j := 2) (v := .ref (a 40)) b (cw_35 cy tE a rw S) rfl (by decide) (by rw [hrw 2 (by decide)]; rfl) dX11_put_24 ?_
  refine z_iload_n b dX11_put_25 rfl rfl ?_
  refine z_calli b (z_runV (q0 := 40) (As := [.int p0]) (st := []) b (c_X7_add_3 S p0 h_i_31 ⟨by omega, by omega⟩) cf_X7_add (cw_40 cy tE a rw S) rfl wm_X11_172 wi_X7_add ws_X7_add dX11_put_26 rfl (Nat.le_of_ble_eq_true rfl) ⟨by decide, by decide, by decide, by decide⟩) (fun r3912 u3913 h3911 => ?_)
  obtain ⟨rfl, rfl⟩ := h3911
  exact z_iret (u := (si (su S 17 0 p0) 31 1)) b rfl dX11_put_29 ⟨rfl, rfl⟩ rfl (by decide) (by decide)

set_option maxHeartbeats 4000000 in
set_option maxRecDepth 100000 in
theorem c_X12_put_10 {l : Launch} {D : va_G} {cy : Nat → ClassId} {T0 tB tE : Nat} {a : Nat → Nat} (S : GS) (p0 : Int32) (h_a_38_2 : ar S 38 2 = 0) (hr_p0 : 0 ≤ p0.toInt ∧ p0.toInt ≤ 767) : Ct l D cy T0 tB tE yX12_put cX12_put 3 (some .int) 2 42 0 0 (mw cy a S) [.ref (a 0), .int 2, .int p0] (QI D (U := GS) (fun r u => 1 = r ∧ su (su S 37 24 p0) 38 2 1 = u) (mw cy a)) := by
  refine Ct.ofZ RX12 "put" [(0, .ref (a 0)), (1, .int 2), (2, .int p0)] rfl rfl rfl rfl (Nat.le_of_ble_eq_true rfl) ?_
  intro p e R s m args below meth c A b
  refine z_iload_n b dX12_put_0 rfl rfl ?_
  refine z_calli b (z_runS (As := [.int 2]) (st := []) b (c_X12_isRow_5 S ) cf_X12_isRow wm_X12_452 ws_X12_isRow dX12_put_1 rfl (Nat.le_of_ble_eq_true rfl) ⟨by decide, by decide, by decide, by decide⟩) (fun r3915 u3916 h3914 => ?_)
  obtain ⟨rfl, rfl⟩ := h3914
  refine z_if_eq_f (tgt := 25) b dX12_put_4 (by decide) (by decide) ?_
  refine z_iload_n b dX12_put_7 rfl rfl ?_
  refine z_calli b (z_runS (As := [.int p0]) (st := []) b (c_X12_isNumber_2 S p0 ⟨by omega, by omega⟩) cf_X12_isNumber wm_X12_455 ws_X12_isNumber dX12_put_8 rfl (Nat.le_of_ble_eq_true rfl) ⟨by decide, by decide, by decide, by decide⟩) (fun r3918 u3919 h3917 => ?_)
  obtain ⟨rfl, rfl⟩ := h3917
  refine z_if_eq_f (tgt := 25) b dX12_put_11 (by decide) (by decide) ?_
  refine z_aload_n b dX12_put_14 rfl rfl ?_
  refine z_get (q0 := 0) (k9 := 66) (v := .ref (a 41)) b (mw_0 cy a S) rfl in_X12 (by decide) wf_X12_140 rfl dX12_put_15 ?_
  refine z_iload_n b dX12_put_18 rfl rfl ?_
  refine y_iald (q0 := 41) (j := 2) (v := (ar S 38 2)) b (mw_41 cy a S) (by decide) rfl dX12_put_19 ?_
  refine z_eqi h_a_38_2 ?_
  refine z_bipush (v := 12) b dX12_put_20 (by decide) ?_
  refine z_icmp_ne_t (tgt := 27) b dX12_put_22 (by decide) (by decide) ?_
  refine z_aload_n b dX12_put_27 rfl rfl ?_
  refine z_get (q0 := 0) (k9 := 65) (v := .ref (a 40)) b (mw_0 cy a S) rfl in_X12 (by decide) wf_X12_137 rfl dX12_put_28 ?_
  refine z_bipush (v := 12) b dX12_put_31 (by decide) ?_
  refine z_iload_n b dX12_put_33 rfl rfl ?_
  refine z_imul (v := 24) b dX12_put_34 (by decide) ?_
  refine z_aload_n b dX12_put_35 rfl rfl ?_
  refine z_get (q0 := 0) (k9 := 66) (v := .ref (a 41)) b (mw_0 cy a S) rfl in_X12 (by decide) wf_X12_140 rfl dX12_put_36 ?_
  refine z_iload_n b dX12_put_39 rfl rfl ?_
  refine y_iald (q0 := 41) (j := 2) (v := (ar S 38 2)) b (mw_41 cy a S) (by decide) rfl dX12_put_40 ?_
  refine z_eqi h_a_38_2 ?_
  refine z_iadd (v := 24) b dX12_put_41 (by decide) ?_
  refine z_iload_n b dX12_put_42 rfl rfl ?_
  refine y_iast (q0 := 40) (j := 24) b (mw_40 cy a S) (by decide) dX12_put_43 (mwa_40 cy a S 24 p0) ?_
  refine z_aload_n b dX12_put_44 rfl rfl ?_
  refine z_get (q0 := 0) (k9 := 66) (v := .ref (a 41)) b (mw_0 cy a (su S 37 24 p0)) rfl in_X12 (by decide) wf_X12_140 rfl dX12_put_45 ?_
  refine z_iload_n b dX12_put_48 rfl rfl ?_
  refine z_dup2 b dX12_put_49 rfl rfl ?_
  refine y_iald (q0 := 41) (j := 2) (v := (ar (su S 37 24 p0) 38 2)) b (mw_41 cy a (su S 37 24 p0)) (by decide) rfl dX12_put_50 ?_
  refine z_eqi h_a_38_2 ?_
  refine z_iconst (v := 1) b dX12_put_51 (by decide) ?_
  refine z_iadd (v := 1) b dX12_put_52 (by decide) ?_
  refine y_iast (q0 := 41) (j := 2) b (mw_41 cy a (su S 37 24 p0)) (by decide) dX12_put_53 (mwa_41 cy a (su S 37 24 p0) 2 1) ?_
  refine z_aload_n b dX12_put_54 rfl rfl ?_
  refine z_get (q0 := 0) (k9 := 66) (v := .ref (a 41)) b (mw_0 cy a (su (su S 37 24 p0) 38 2 1)) rfl in_X12 (by decide) wf_X12_140 rfl dX12_put_55 ?_
  refine z_iload_n b dX12_put_58 rfl rfl ?_
  refine y_iald (q0 := 41) (j := 2) (v := 1) b (mw_41 cy a (su (su S 37 24 p0) 38 2 1)) (by decide) rfl dX12_put_59 ?_
  exact z_iret (u := (su (su S 37 24 p0) 38 2 1)) b rfl dX12_put_60 ⟨rfl, rfl⟩ rfl (by decide) (by decide)

set_option maxHeartbeats 4000000 in
set_option maxRecDepth 100000 in
theorem c_X11_put_11 {l : Launch} {D : va_G} {cy : Nat → ClassId} {T0 tB tE : Nat} {a : Nat → Nat} {rw : Nat → Option Nat} (S : GS) (p0 : Int32)  (hr_p0 : 768 ≤ p0.toInt ∧ p0.toInt ≤ 2147483647) : Ct l D cy T0 tB tE yX11_put cX11_put 3 (some .int) 1 21 0 0 (cw cy tE a rw S) [.ref (a 0), .int 2, .int p0] (QI D (U := GS) (fun r u => (-1) = r ∧ S = u) (cw cy tE a rw)) := by
  refine Ct.ofZ RX11 "put" [(0, .ref (a 0)), (1, .int 2), (2, .int p0)] rfl rfl rfl rfl (Nat.le_of_ble_eq_true rfl) ?_
  intro p e R s m args below meth c A b
  refine z_iload_n b dX11_put_0 rfl rfl ?_
  refine z_calli b (z_runS (As := [.int 2]) (st := []) b (c_X11_isRow_5 S ) cf_X11_isRow wm_X11_169 ws_X11_isRow dX11_put_1 rfl (Nat.le_of_ble_eq_true rfl) ⟨by decide, by decide, by decide, by decide⟩) (fun r3921 u3922 h3920 => ?_)
  obtain ⟨rfl, rfl⟩ := h3920
  refine z_if_eq_f (tgt := 17) b dX11_put_4 (by decide) (by decide) ?_
  refine z_iload_n b dX11_put_7 rfl rfl ?_
  refine z_sipush (v := 767) b dX11_put_8 (by decide) ?_
  refine z_calli b (z_runS (As := [.int p0, .int 767]) (st := []) b (c_X11_isWithin_22 S p0 ⟨by omega, by omega⟩) cf_X11_isWithin wm_X11_73 ws_X11_isWithin dX11_put_11 rfl (Nat.le_of_ble_eq_true rfl) ⟨by decide, by decide, by decide, by decide⟩) (fun r3924 u3925 h3923 => ?_)
  obtain ⟨rfl, rfl⟩ := h3923
  refine z_if_ne_f (tgt := 19) b dX11_put_14 (by decide) (by decide) ?_
  refine z_iconst (v := (-1)) b dX11_put_17 (by decide) ?_
  exact z_iret (u := S) b rfl dX11_put_18 ⟨rfl, rfl⟩ rfl (by decide) (by decide)

set_option maxHeartbeats 4000000 in
set_option maxRecDepth 100000 in
theorem c_X12_put_11 {l : Launch} {D : va_G} {cy : Nat → ClassId} {T0 tB tE : Nat} {a : Nat → Nat} (S : GS) (p0 : Int32)  (hr_p0 : 768 ≤ p0.toInt ∧ p0.toInt ≤ 2147483647) : Ct l D cy T0 tB tE yX12_put cX12_put 3 (some .int) 2 42 0 0 (mw cy a S) [.ref (a 0), .int 2, .int p0] (QI D (U := GS) (fun r u => (-1) = r ∧ S = u) (mw cy a)) := by
  refine Ct.ofZ RX12 "put" [(0, .ref (a 0)), (1, .int 2), (2, .int p0)] rfl rfl rfl rfl (Nat.le_of_ble_eq_true rfl) ?_
  intro p e R s m args below meth c A b
  refine z_iload_n b dX12_put_0 rfl rfl ?_
  refine z_calli b (z_runS (As := [.int 2]) (st := []) b (c_X12_isRow_5 S ) cf_X12_isRow wm_X12_452 ws_X12_isRow dX12_put_1 rfl (Nat.le_of_ble_eq_true rfl) ⟨by decide, by decide, by decide, by decide⟩) (fun r3927 u3928 h3926 => ?_)
  obtain ⟨rfl, rfl⟩ := h3926
  refine z_if_eq_f (tgt := 25) b dX12_put_4 (by decide) (by decide) ?_
  refine z_iload_n b dX12_put_7 rfl rfl ?_
  refine z_calli b (z_runS (As := [.int p0]) (st := []) b (c_X12_isNumber_3 S p0 ⟨by omega, by omega⟩) cf_X12_isNumber wm_X12_455 ws_X12_isNumber dX12_put_8 rfl (Nat.le_of_ble_eq_true rfl) ⟨by decide, by decide, by decide, by decide⟩) (fun r3930 u3931 h3929 => ?_)
  obtain ⟨rfl, rfl⟩ := h3929
  refine z_if_eq_t (tgt := 25) b dX12_put_11 (by decide) (by decide) ?_
  refine z_iconst (v := (-1)) b dX12_put_25 (by decide) ?_
  exact z_iret (u := S) b rfl dX12_put_26 ⟨rfl, rfl⟩ rfl (by decide) (by decide)

set_option maxHeartbeats 4000000 in
set_option maxRecDepth 100000 in
theorem c_X11_isRow_6 {l : Launch} {D : va_G} {cy : Nat → ClassId} {T0 tB tE : Nat} {a : Nat → Nat} {rw : Nat → Option Nat} (S : GS)   : Ct l D cy T0 tB tE yX11_isRow cX11_isRow 1 (some .boolean) 0 0 0 0 (cw cy tE a rw S) [.int 3] (QI D (U := GS) (fun r u => 1 = r ∧ S = u) (cw cy tE a rw)) := by
  refine Ct.ofZ RX11 "isRow" [(0, .int 3)] rfl rfl rfl rfl (Nat.le_of_ble_eq_true rfl) ?_
  intro p e R s m args below meth c A b
  refine z_iload_n b dX11_isRow_0 rfl rfl ?_
  refine z_if_lt_f (tgt := 14) b dX11_isRow_1 (by decide) (by decide) ?_
  refine z_iload_n b dX11_isRow_4 rfl rfl ?_
  refine z_bipush (v := 6) b dX11_isRow_5 (by decide) ?_
  refine z_icmp_ge_f (tgt := 14) b dX11_isRow_7 (by decide) (by decide) ?_
  refine z_iconst (v := 1) b dX11_isRow_10 (by decide) ?_
  refine z_goto (tgt := 15) b dX11_isRow_11 (by decide) ?_
  exact z_zret (u := S) b rfl (by decide) dX11_isRow_15 ⟨rfl, rfl⟩ rfl (by decide) (by decide)

set_option maxHeartbeats 4000000 in
set_option maxRecDepth 100000 in
theorem c_X11_put_12 {l : Launch} {D : va_G} {cy : Nat → ClassId} {T0 tB tE : Nat} {a : Nat → Nat} {rw : Nat → Option Nat} (S : GS) (p0 : Int32)  (hr_p0 : (-2147483648) ≤ p0.toInt ∧ p0.toInt ≤ (-1)) : Ct l D cy T0 tB tE yX11_put cX11_put 3 (some .int) 1 21 0 0 (cw cy tE a rw S) [.ref (a 0), .int 3, .int p0] (QI D (U := GS) (fun r u => (-1) = r ∧ S = u) (cw cy tE a rw)) := by
  refine Ct.ofZ RX11 "put" [(0, .ref (a 0)), (1, .int 3), (2, .int p0)] rfl rfl rfl rfl (Nat.le_of_ble_eq_true rfl) ?_
  intro p e R s m args below meth c A b
  refine z_iload_n b dX11_put_0 rfl rfl ?_
  refine z_calli b (z_runS (As := [.int 3]) (st := []) b (c_X11_isRow_6 S ) cf_X11_isRow wm_X11_169 ws_X11_isRow dX11_put_1 rfl (Nat.le_of_ble_eq_true rfl) ⟨by decide, by decide, by decide, by decide⟩) (fun r3933 u3934 h3932 => ?_)
  obtain ⟨rfl, rfl⟩ := h3932
  refine z_if_eq_f (tgt := 17) b dX11_put_4 (by decide) (by decide) ?_
  refine z_iload_n b dX11_put_7 rfl rfl ?_
  refine z_sipush (v := 767) b dX11_put_8 (by decide) ?_
  refine z_calli b (z_runS (As := [.int p0, .int 767]) (st := []) b (c_X11_isWithin_20 S p0 ⟨by omega, by omega⟩) cf_X11_isWithin wm_X11_73 ws_X11_isWithin dX11_put_11 rfl (Nat.le_of_ble_eq_true rfl) ⟨by decide, by decide, by decide, by decide⟩) (fun r3936 u3937 h3935 => ?_)
  obtain ⟨rfl, rfl⟩ := h3935
  refine z_if_ne_f (tgt := 19) b dX11_put_14 (by decide) (by decide) ?_
  refine z_iconst (v := (-1)) b dX11_put_17 (by decide) ?_
  exact z_iret (u := S) b rfl dX11_put_18 ⟨rfl, rfl⟩ rfl (by decide) (by decide)

set_option maxHeartbeats 4000000 in
set_option maxRecDepth 100000 in
theorem c_X12_isIn_45 {l : Launch} {D : va_G} {cy : Nat → ClassId} {T0 tB tE : Nat} {a : Nat → Nat} (S : GS)   : Ct l D cy T0 tB tE yX12_isIn cX12_isIn 3 (some .boolean) 0 0 0 0 (mw cy a S) [.int 3, .int 0, .int 5] (QI D (U := GS) (fun r u => 1 = r ∧ S = u) (mw cy a)) := by
  refine Ct.ofZ RX12 "isIn" [(0, .int 3), (1, .int 0), (2, .int 5)] rfl rfl rfl rfl (Nat.le_of_ble_eq_true rfl) ?_
  intro p e R s m args below meth c A b
  refine z_iload_n b dX12_isIn_0 rfl rfl ?_
  refine z_iload_n b dX12_isIn_1 rfl rfl ?_
  refine z_icmp_lt_f (tgt := 14) b dX12_isIn_2 (by decide) (by decide) ?_
  refine z_iload_n b dX12_isIn_5 rfl rfl ?_
  refine z_iload_n b dX12_isIn_6 rfl rfl ?_
  refine z_icmp_gt_f (tgt := 14) b dX12_isIn_7 (by decide) (by decide) ?_
  refine z_iconst (v := 1) b dX12_isIn_10 (by decide) ?_
  refine z_goto (tgt := 15) b dX12_isIn_11 (by decide) ?_
  exact z_zret (u := S) b rfl (by decide) dX12_isIn_15 ⟨rfl, rfl⟩ rfl (by decide) (by decide)

set_option maxHeartbeats 4000000 in
set_option maxRecDepth 100000 in
theorem c_X12_isRow_6 {l : Launch} {D : va_G} {cy : Nat → ClassId} {T0 tB tE : Nat} {a : Nat → Nat} (S : GS)   : Ct l D cy T0 tB tE yX12_isRow cX12_isRow 1 (some .boolean) 1 22 0 0 (mw cy a S) [.int 3] (QI D (U := GS) (fun r u => 1 = r ∧ S = u) (mw cy a)) := by
  refine Ct.ofZ RX12 "isRow" [(0, .int 3)] rfl rfl rfl rfl (Nat.le_of_ble_eq_true rfl) ?_
  intro p e R s m args below meth c A b
  refine z_iload_n b dX12_isRow_0 rfl rfl ?_
  refine z_iconst (v := 0) b dX12_isRow_1 (by decide) ?_
  refine z_iconst (v := 5) b dX12_isRow_2 (by decide) ?_
  refine z_calli b (z_runS (As := [.int 3, .int 0, .int 5]) (st := []) b (c_X12_isIn_45 S ) cf_X12_isIn wm_X12_1 ws_X12_isIn dX12_isRow_3 rfl (Nat.le_of_ble_eq_true rfl) ⟨by decide, by decide, by decide, by decide⟩) (fun r3939 u3940 h3938 => ?_)
  obtain ⟨rfl, rfl⟩ := h3938
  exact z_zret (u := S) b rfl (by decide) dX12_isRow_6 ⟨rfl, rfl⟩ rfl (by decide) (by decide)

set_option maxHeartbeats 4000000 in
set_option maxRecDepth 100000 in
theorem c_X12_put_12 {l : Launch} {D : va_G} {cy : Nat → ClassId} {T0 tB tE : Nat} {a : Nat → Nat} (S : GS) (p0 : Int32)  (hr_p0 : (-2147483648) ≤ p0.toInt ∧ p0.toInt ≤ (-1)) : Ct l D cy T0 tB tE yX12_put cX12_put 3 (some .int) 2 42 0 0 (mw cy a S) [.ref (a 0), .int 3, .int p0] (QI D (U := GS) (fun r u => (-1) = r ∧ S = u) (mw cy a)) := by
  refine Ct.ofZ RX12 "put" [(0, .ref (a 0)), (1, .int 3), (2, .int p0)] rfl rfl rfl rfl (Nat.le_of_ble_eq_true rfl) ?_
  intro p e R s m args below meth c A b
  refine z_iload_n b dX12_put_0 rfl rfl ?_
  refine z_calli b (z_runS (As := [.int 3]) (st := []) b (c_X12_isRow_6 S ) cf_X12_isRow wm_X12_452 ws_X12_isRow dX12_put_1 rfl (Nat.le_of_ble_eq_true rfl) ⟨by decide, by decide, by decide, by decide⟩) (fun r3942 u3943 h3941 => ?_)
  obtain ⟨rfl, rfl⟩ := h3941
  refine z_if_eq_f (tgt := 25) b dX12_put_4 (by decide) (by decide) ?_
  refine z_iload_n b dX12_put_7 rfl rfl ?_
  refine z_calli b (z_runS (As := [.int p0]) (st := []) b (c_X12_isNumber S p0 ⟨by omega, by omega⟩) cf_X12_isNumber wm_X12_455 ws_X12_isNumber dX12_put_8 rfl (Nat.le_of_ble_eq_true rfl) ⟨by decide, by decide, by decide, by decide⟩) (fun r3945 u3946 h3944 => ?_)
  obtain ⟨rfl, rfl⟩ := h3944
  refine z_if_eq_t (tgt := 25) b dX12_put_11 (by decide) (by decide) ?_
  refine z_iconst (v := (-1)) b dX12_put_25 (by decide) ?_
  exact z_iret (u := S) b rfl dX12_put_26 ⟨rfl, rfl⟩ rfl (by decide) (by decide)

set_option maxHeartbeats 4000000 in
set_option maxRecDepth 100000 in
theorem c_X7_add_4 {l : Launch} {D : va_G} {cy : Nat → ClassId} {T0 tB tE : Nat} {a : Nat → Nat} {rw : Nat → Option Nat} (S : GS) (p0 : Int32) (h_i_33 : fi S 33 = 0) (hr_p0 : 0 ≤ p0.toInt ∧ p0.toInt ≤ 767) : Ct l D cy T0 tB tE yX7_add cX7_add 2 (some .int) 0 0 0 0 (cw cy tE a rw S) [.ref (a 42), .int p0] (QI D (U := GS) (fun r u => 1 = r ∧ si (su S 18 0 p0) 33 1 = u) (cw cy tE a rw)) := by
  refine Ct.ofZ RX7 "add" [(0, .ref (a 42)), (1, .int p0)] rfl rfl rfl rfl (Nat.le_of_ble_eq_true rfl) ?_
  intro p e R s m args below meth c A b
  refine z_aload_n b dX7_add_0 rfl rfl ?_
  refine z_get (q0 := 42) (k9 := 1) (v := .int (fi S 33)) b (cw_42 cy tE a rw S) rfl in_X7 (by decide) wf_X7_9 rfl dX7_add_1 ?_
  refine z_eqi h_i_33 ?_
  refine z_if_lt_f (tgt := 19) b dX7_add_4 (by decide) (by decide) ?_
  refine z_aload_n b dX7_add_7 rfl rfl ?_
  refine z_get (q0 := 42) (k9 := 1) (v := .int (fi S 33)) b (cw_42 cy tE a rw S) rfl in_X7 (by decide) wf_X7_9 rfl dX7_add_8 ?_
  refine z_eqi h_i_33 ?_
  refine z_aload_n b dX7_add_11 rfl rfl ?_
  refine z_get (q0 := 42) (k9 := 0) (v := .ref (a 43)) b (cw_42 cy tE a rw S) rfl in_X7 (by decide) wf_X7_25 rfl dX7_add_12 ?_
  refine z_alen (q0 := 43) (t0 := 0) (v := 12) b (cw_43 cy tE a rw S) rfl rfl dX7_add_15 ?_
  refine z_icmp_lt_t (tgt := 21) b dX7_add_16 (by decide) (by decide) ?_
  refine z_aload_n b dX7_add_21 rfl rfl ?_
  refine z_get (q0 := 42) (k9 := 0) (v := .ref (a 43)) b (cw_42 cy tE a rw S) rfl in_X7 (by decide) wf_X7_25 rfl dX7_add_22 ?_
  refine z_aload_n b dX7_add_25 rfl rfl ?_
  refine z_get (q0 := 42) (k9 := 1) (v := .int (fi S 33)) b (cw_42 cy tE a rw S) rfl in_X7 (by decide) wf_X7_9 rfl dX7_add_26 ?_
  refine z_eqi h_i_33 ?_
  refine z_iload_n b dX7_add_29 rfl rfl ?_
  refine y_iast (q0 := 43) (j := 0) b (cw_43 cy tE a rw S) (by decide) dX7_add_30 (cwa_43 cy tE a rw S 0 p0) ?_
  refine z_aload_n b dX7_add_31 rfl rfl ?_
  refine z_dup b dX7_add_32 rfl ?_
  refine z_get (q0 := 42) (k9 := 1) (v := .int (fi (su S 18 0 p0) 33)) b (cw_42 cy tE a rw (su S 18 0 p0)) rfl in_X7 (by decide) wf_X7_9 rfl dX7_add_33 ?_
  refine z_eqi h_i_33 ?_
  refine z_iconst (v := 1) b dX7_add_36 (by decide) ?_
  refine z_iadd (v := 1) b dX7_add_37 (by decide) ?_
  refine z_put (q0 := 42) (k9 := 1) tyX7 b (cw_42 cy tE a rw (su S 18 0 p0)) rfl in_X7 tyX7_ok nmX7 (by decide) wf_X7_9 rfl rfl rfl rfl (Nat.le_of_ble_eq_true rfl) dX7_add_38 (cwp_42_1 cy tE a rw (su S 18 0 p0) 1) ?_
  refine z_aload_n b dX7_add_41 rfl rfl ?_
  refine z_get (q0 := 42) (k9 := 1) (v := .int 1) b (cw_42 cy tE a rw (si (su S 18 0 p0) 33 1)) rfl in_X7 (by decide) wf_X7_9 rfl dX7_add_42 ?_
  exact z_iret (u := (si (su S 18 0 p0) 33 1)) b rfl dX7_add_45 ⟨rfl, rfl⟩ rfl (by decide) (by decide)

set_option maxHeartbeats 4000000 in
set_option maxRecDepth 100000 in
theorem c_X11_put_13 {l : Launch} {D : va_G} {cy : Nat → ClassId} {T0 tB tE : Nat} {a : Nat → Nat} {rw : Nat → Option Nat} (S : GS) (p0 : Int32) (h_i_33 : fi S 33 = 0) (hrw : ∀ i, i < 6 → rw i = some (a (36 + 2 * i))) (hr_p0 : 0 ≤ p0.toInt ∧ p0.toInt ≤ 767) : Ct l D cy T0 tB tE yX11_put cX11_put 3 (some .int) 1 21 0 0 (cw cy tE a rw S) [.ref (a 0), .int 3, .int p0] (QI D (U := GS) (fun r u => 1 = r ∧ si (su S 18 0 p0) 33 1 = u) (cw cy tE a rw)) := by
  refine Ct.ofZ RX11 "put" [(0, .ref (a 0)), (1, .int 3), (2, .int p0)] rfl rfl rfl rfl (Nat.le_of_ble_eq_true rfl) ?_
  intro p e R s m args below meth c A b
  refine z_iload_n b dX11_put_0 rfl rfl ?_
  refine z_calli b (z_runS (As := [.int 3]) (st := []) b (c_X11_isRow_6 S ) cf_X11_isRow wm_X11_169 ws_X11_isRow dX11_put_1 rfl (Nat.le_of_ble_eq_true rfl) ⟨by decide, by decide, by decide, by decide⟩) (fun r3948 u3949 h3947 => ?_)
  obtain ⟨rfl, rfl⟩ := h3947
  refine z_if_eq_f (tgt := 17) b dX11_put_4 (by decide) (by decide) ?_
  refine z_iload_n b dX11_put_7 rfl rfl ?_
  refine z_sipush (v := 767) b dX11_put_8 (by decide) ?_
  refine z_calli b (z_runS (As := [.int p0, .int 767]) (st := []) b (c_X11_isWithin_21 S p0 ⟨by omega, by omega⟩) cf_X11_isWithin wm_X11_73 ws_X11_isWithin dX11_put_11 rfl (Nat.le_of_ble_eq_true rfl) ⟨by decide, by decide, by decide, by decide⟩) (fun r3951 u3952 h3950 => ?_)
  obtain ⟨rfl, rfl⟩ := h3950
  refine z_if_ne_t (tgt := 19) b dX11_put_14 (by decide) (by decide) ?_
  refine z_aload_n b dX11_put_19 rfl rfl ?_
  refine z_get (q0 := 0) (k9 := 7) (v := .ref (a 35)) b (cw_0 cy tE a rw S) rfl in_X11 (by decide) wf_X11_58 rfl dX11_put_20 ?_
  refine z_iload_n b dX11_put_23 rfl rfl ?_
  refine y_aald (q0 := 35) (t0 := 4) (j := 3) (v := .ref (a 42)) b (cw_35 cy tE a rw S) rfl (by decide) (by rw [hrw 3 (by decide)]; rfl) dX11_put_24 ?_
  refine z_iload_n b dX11_put_25 rfl rfl ?_
  refine z_calli b (z_runV (q0 := 42) (As := [.int p0]) (st := []) b (c_X7_add_4 S p0 h_i_33 ⟨by omega, by omega⟩) cf_X7_add (cw_42 cy tE a rw S) rfl wm_X11_172 wi_X7_add ws_X7_add dX11_put_26 rfl (Nat.le_of_ble_eq_true rfl) ⟨by decide, by decide, by decide, by decide⟩) (fun r3954 u3955 h3953 => ?_)
  obtain ⟨rfl, rfl⟩ := h3953
  exact z_iret (u := (si (su S 18 0 p0) 33 1)) b rfl dX11_put_29 ⟨rfl, rfl⟩ rfl (by decide) (by decide)

set_option maxHeartbeats 4000000 in
set_option maxRecDepth 100000 in
theorem c_X12_put_13 {l : Launch} {D : va_G} {cy : Nat → ClassId} {T0 tB tE : Nat} {a : Nat → Nat} (S : GS) (p0 : Int32) (h_a_38_3 : ar S 38 3 = 0) (hr_p0 : 0 ≤ p0.toInt ∧ p0.toInt ≤ 767) : Ct l D cy T0 tB tE yX12_put cX12_put 3 (some .int) 2 42 0 0 (mw cy a S) [.ref (a 0), .int 3, .int p0] (QI D (U := GS) (fun r u => 1 = r ∧ su (su S 37 36 p0) 38 3 1 = u) (mw cy a)) := by
  refine Ct.ofZ RX12 "put" [(0, .ref (a 0)), (1, .int 3), (2, .int p0)] rfl rfl rfl rfl (Nat.le_of_ble_eq_true rfl) ?_
  intro p e R s m args below meth c A b
  refine z_iload_n b dX12_put_0 rfl rfl ?_
  refine z_calli b (z_runS (As := [.int 3]) (st := []) b (c_X12_isRow_6 S ) cf_X12_isRow wm_X12_452 ws_X12_isRow dX12_put_1 rfl (Nat.le_of_ble_eq_true rfl) ⟨by decide, by decide, by decide, by decide⟩) (fun r3957 u3958 h3956 => ?_)
  obtain ⟨rfl, rfl⟩ := h3956
  refine z_if_eq_f (tgt := 25) b dX12_put_4 (by decide) (by decide) ?_
  refine z_iload_n b dX12_put_7 rfl rfl ?_
  refine z_calli b (z_runS (As := [.int p0]) (st := []) b (c_X12_isNumber_2 S p0 ⟨by omega, by omega⟩) cf_X12_isNumber wm_X12_455 ws_X12_isNumber dX12_put_8 rfl (Nat.le_of_ble_eq_true rfl) ⟨by decide, by decide, by decide, by decide⟩) (fun r3960 u3961 h3959 => ?_)
  obtain ⟨rfl, rfl⟩ := h3959
  refine z_if_eq_f (tgt := 25) b dX12_put_11 (by decide) (by decide) ?_
  refine z_aload_n b dX12_put_14 rfl rfl ?_
  refine z_get (q0 := 0) (k9 := 66) (v := .ref (a 41)) b (mw_0 cy a S) rfl in_X12 (by decide) wf_X12_140 rfl dX12_put_15 ?_
  refine z_iload_n b dX12_put_18 rfl rfl ?_
  refine y_iald (q0 := 41) (j := 3) (v := (ar S 38 3)) b (mw_41 cy a S) (by decide) rfl dX12_put_19 ?_
  refine z_eqi h_a_38_3 ?_
  refine z_bipush (v := 12) b dX12_put_20 (by decide) ?_
  refine z_icmp_ne_t (tgt := 27) b dX12_put_22 (by decide) (by decide) ?_
  refine z_aload_n b dX12_put_27 rfl rfl ?_
  refine z_get (q0 := 0) (k9 := 65) (v := .ref (a 40)) b (mw_0 cy a S) rfl in_X12 (by decide) wf_X12_137 rfl dX12_put_28 ?_
  refine z_bipush (v := 12) b dX12_put_31 (by decide) ?_
  refine z_iload_n b dX12_put_33 rfl rfl ?_
  refine z_imul (v := 36) b dX12_put_34 (by decide) ?_
  refine z_aload_n b dX12_put_35 rfl rfl ?_
  refine z_get (q0 := 0) (k9 := 66) (v := .ref (a 41)) b (mw_0 cy a S) rfl in_X12 (by decide) wf_X12_140 rfl dX12_put_36 ?_
  refine z_iload_n b dX12_put_39 rfl rfl ?_
  refine y_iald (q0 := 41) (j := 3) (v := (ar S 38 3)) b (mw_41 cy a S) (by decide) rfl dX12_put_40 ?_
  refine z_eqi h_a_38_3 ?_
  refine z_iadd (v := 36) b dX12_put_41 (by decide) ?_
  refine z_iload_n b dX12_put_42 rfl rfl ?_
  refine y_iast (q0 := 40) (j := 36) b (mw_40 cy a S) (by decide) dX12_put_43 (mwa_40 cy a S 36 p0) ?_
  refine z_aload_n b dX12_put_44 rfl rfl ?_
  refine z_get (q0 := 0) (k9 := 66) (v := .ref (a 41)) b (mw_0 cy a (su S 37 36 p0)) rfl in_X12 (by decide) wf_X12_140 rfl dX12_put_45 ?_
  refine z_iload_n b dX12_put_48 rfl rfl ?_
  refine z_dup2 b dX12_put_49 rfl rfl ?_
  refine y_iald (q0 := 41) (j := 3) (v := (ar (su S 37 36 p0) 38 3)) b (mw_41 cy a (su S 37 36 p0)) (by decide) rfl dX12_put_50 ?_
  refine z_eqi h_a_38_3 ?_
  refine z_iconst (v := 1) b dX12_put_51 (by decide) ?_
  refine z_iadd (v := 1) b dX12_put_52 (by decide) ?_
  refine y_iast (q0 := 41) (j := 3) b (mw_41 cy a (su S 37 36 p0)) (by decide) dX12_put_53 (mwa_41 cy a (su S 37 36 p0) 3 1) ?_
  refine z_aload_n b dX12_put_54 rfl rfl ?_
  refine z_get (q0 := 0) (k9 := 66) (v := .ref (a 41)) b (mw_0 cy a (su (su S 37 36 p0) 38 3 1)) rfl in_X12 (by decide) wf_X12_140 rfl dX12_put_55 ?_
  refine z_iload_n b dX12_put_58 rfl rfl ?_
  refine y_iald (q0 := 41) (j := 3) (v := 1) b (mw_41 cy a (su (su S 37 36 p0) 38 3 1)) (by decide) rfl dX12_put_59 ?_
  exact z_iret (u := (su (su S 37 36 p0) 38 3 1)) b rfl dX12_put_60 ⟨rfl, rfl⟩ rfl (by decide) (by decide)

set_option maxHeartbeats 4000000 in
set_option maxRecDepth 100000 in
theorem c_X11_put_14 {l : Launch} {D : va_G} {cy : Nat → ClassId} {T0 tB tE : Nat} {a : Nat → Nat} {rw : Nat → Option Nat} (S : GS) (p0 : Int32)  (hr_p0 : 768 ≤ p0.toInt ∧ p0.toInt ≤ 2147483647) : Ct l D cy T0 tB tE yX11_put cX11_put 3 (some .int) 1 21 0 0 (cw cy tE a rw S) [.ref (a 0), .int 3, .int p0] (QI D (U := GS) (fun r u => (-1) = r ∧ S = u) (cw cy tE a rw)) := by
  refine Ct.ofZ RX11 "put" [(0, .ref (a 0)), (1, .int 3), (2, .int p0)] rfl rfl rfl rfl (Nat.le_of_ble_eq_true rfl) ?_
  intro p e R s m args below meth c A b
  refine z_iload_n b dX11_put_0 rfl rfl ?_
  refine z_calli b (z_runS (As := [.int 3]) (st := []) b (c_X11_isRow_6 S ) cf_X11_isRow wm_X11_169 ws_X11_isRow dX11_put_1 rfl (Nat.le_of_ble_eq_true rfl) ⟨by decide, by decide, by decide, by decide⟩) (fun r3963 u3964 h3962 => ?_)
  obtain ⟨rfl, rfl⟩ := h3962
  refine z_if_eq_f (tgt := 17) b dX11_put_4 (by decide) (by decide) ?_
  refine z_iload_n b dX11_put_7 rfl rfl ?_
  refine z_sipush (v := 767) b dX11_put_8 (by decide) ?_
  refine z_calli b (z_runS (As := [.int p0, .int 767]) (st := []) b (c_X11_isWithin_22 S p0 ⟨by omega, by omega⟩) cf_X11_isWithin wm_X11_73 ws_X11_isWithin dX11_put_11 rfl (Nat.le_of_ble_eq_true rfl) ⟨by decide, by decide, by decide, by decide⟩) (fun r3966 u3967 h3965 => ?_)
  obtain ⟨rfl, rfl⟩ := h3965
  refine z_if_ne_f (tgt := 19) b dX11_put_14 (by decide) (by decide) ?_
  refine z_iconst (v := (-1)) b dX11_put_17 (by decide) ?_
  exact z_iret (u := S) b rfl dX11_put_18 ⟨rfl, rfl⟩ rfl (by decide) (by decide)

set_option maxHeartbeats 4000000 in
set_option maxRecDepth 100000 in
theorem c_X12_put_14 {l : Launch} {D : va_G} {cy : Nat → ClassId} {T0 tB tE : Nat} {a : Nat → Nat} (S : GS) (p0 : Int32)  (hr_p0 : 768 ≤ p0.toInt ∧ p0.toInt ≤ 2147483647) : Ct l D cy T0 tB tE yX12_put cX12_put 3 (some .int) 2 42 0 0 (mw cy a S) [.ref (a 0), .int 3, .int p0] (QI D (U := GS) (fun r u => (-1) = r ∧ S = u) (mw cy a)) := by
  refine Ct.ofZ RX12 "put" [(0, .ref (a 0)), (1, .int 3), (2, .int p0)] rfl rfl rfl rfl (Nat.le_of_ble_eq_true rfl) ?_
  intro p e R s m args below meth c A b
  refine z_iload_n b dX12_put_0 rfl rfl ?_
  refine z_calli b (z_runS (As := [.int 3]) (st := []) b (c_X12_isRow_6 S ) cf_X12_isRow wm_X12_452 ws_X12_isRow dX12_put_1 rfl (Nat.le_of_ble_eq_true rfl) ⟨by decide, by decide, by decide, by decide⟩) (fun r3969 u3970 h3968 => ?_)
  obtain ⟨rfl, rfl⟩ := h3968
  refine z_if_eq_f (tgt := 25) b dX12_put_4 (by decide) (by decide) ?_
  refine z_iload_n b dX12_put_7 rfl rfl ?_
  refine z_calli b (z_runS (As := [.int p0]) (st := []) b (c_X12_isNumber_3 S p0 ⟨by omega, by omega⟩) cf_X12_isNumber wm_X12_455 ws_X12_isNumber dX12_put_8 rfl (Nat.le_of_ble_eq_true rfl) ⟨by decide, by decide, by decide, by decide⟩) (fun r3972 u3973 h3971 => ?_)
  obtain ⟨rfl, rfl⟩ := h3971
  refine z_if_eq_t (tgt := 25) b dX12_put_11 (by decide) (by decide) ?_
  refine z_iconst (v := (-1)) b dX12_put_25 (by decide) ?_
  exact z_iret (u := S) b rfl dX12_put_26 ⟨rfl, rfl⟩ rfl (by decide) (by decide)

set_option maxHeartbeats 4000000 in
set_option maxRecDepth 100000 in
theorem c_X11_isRow_7 {l : Launch} {D : va_G} {cy : Nat → ClassId} {T0 tB tE : Nat} {a : Nat → Nat} {rw : Nat → Option Nat} (S : GS)   : Ct l D cy T0 tB tE yX11_isRow cX11_isRow 1 (some .boolean) 0 0 0 0 (cw cy tE a rw S) [.int 4] (QI D (U := GS) (fun r u => 1 = r ∧ S = u) (cw cy tE a rw)) := by
  refine Ct.ofZ RX11 "isRow" [(0, .int 4)] rfl rfl rfl rfl (Nat.le_of_ble_eq_true rfl) ?_
  intro p e R s m args below meth c A b
  refine z_iload_n b dX11_isRow_0 rfl rfl ?_
  refine z_if_lt_f (tgt := 14) b dX11_isRow_1 (by decide) (by decide) ?_
  refine z_iload_n b dX11_isRow_4 rfl rfl ?_
  refine z_bipush (v := 6) b dX11_isRow_5 (by decide) ?_
  refine z_icmp_ge_f (tgt := 14) b dX11_isRow_7 (by decide) (by decide) ?_
  refine z_iconst (v := 1) b dX11_isRow_10 (by decide) ?_
  refine z_goto (tgt := 15) b dX11_isRow_11 (by decide) ?_
  exact z_zret (u := S) b rfl (by decide) dX11_isRow_15 ⟨rfl, rfl⟩ rfl (by decide) (by decide)

set_option maxHeartbeats 4000000 in
set_option maxRecDepth 100000 in
theorem c_X11_put_15 {l : Launch} {D : va_G} {cy : Nat → ClassId} {T0 tB tE : Nat} {a : Nat → Nat} {rw : Nat → Option Nat} (S : GS) (p0 : Int32)  (hr_p0 : (-2147483648) ≤ p0.toInt ∧ p0.toInt ≤ (-1)) : Ct l D cy T0 tB tE yX11_put cX11_put 3 (some .int) 1 21 0 0 (cw cy tE a rw S) [.ref (a 0), .int 4, .int p0] (QI D (U := GS) (fun r u => (-1) = r ∧ S = u) (cw cy tE a rw)) := by
  refine Ct.ofZ RX11 "put" [(0, .ref (a 0)), (1, .int 4), (2, .int p0)] rfl rfl rfl rfl (Nat.le_of_ble_eq_true rfl) ?_
  intro p e R s m args below meth c A b
  refine z_iload_n b dX11_put_0 rfl rfl ?_
  refine z_calli b (z_runS (As := [.int 4]) (st := []) b (c_X11_isRow_7 S ) cf_X11_isRow wm_X11_169 ws_X11_isRow dX11_put_1 rfl (Nat.le_of_ble_eq_true rfl) ⟨by decide, by decide, by decide, by decide⟩) (fun r3975 u3976 h3974 => ?_)
  obtain ⟨rfl, rfl⟩ := h3974
  refine z_if_eq_f (tgt := 17) b dX11_put_4 (by decide) (by decide) ?_
  refine z_iload_n b dX11_put_7 rfl rfl ?_
  refine z_sipush (v := 767) b dX11_put_8 (by decide) ?_
  refine z_calli b (z_runS (As := [.int p0, .int 767]) (st := []) b (c_X11_isWithin_20 S p0 ⟨by omega, by omega⟩) cf_X11_isWithin wm_X11_73 ws_X11_isWithin dX11_put_11 rfl (Nat.le_of_ble_eq_true rfl) ⟨by decide, by decide, by decide, by decide⟩) (fun r3978 u3979 h3977 => ?_)
  obtain ⟨rfl, rfl⟩ := h3977
  refine z_if_ne_f (tgt := 19) b dX11_put_14 (by decide) (by decide) ?_
  refine z_iconst (v := (-1)) b dX11_put_17 (by decide) ?_
  exact z_iret (u := S) b rfl dX11_put_18 ⟨rfl, rfl⟩ rfl (by decide) (by decide)

set_option maxHeartbeats 4000000 in
set_option maxRecDepth 100000 in
theorem c_X12_isIn_46 {l : Launch} {D : va_G} {cy : Nat → ClassId} {T0 tB tE : Nat} {a : Nat → Nat} (S : GS)   : Ct l D cy T0 tB tE yX12_isIn cX12_isIn 3 (some .boolean) 0 0 0 0 (mw cy a S) [.int 4, .int 0, .int 5] (QI D (U := GS) (fun r u => 1 = r ∧ S = u) (mw cy a)) := by
  refine Ct.ofZ RX12 "isIn" [(0, .int 4), (1, .int 0), (2, .int 5)] rfl rfl rfl rfl (Nat.le_of_ble_eq_true rfl) ?_
  intro p e R s m args below meth c A b
  refine z_iload_n b dX12_isIn_0 rfl rfl ?_
  refine z_iload_n b dX12_isIn_1 rfl rfl ?_
  refine z_icmp_lt_f (tgt := 14) b dX12_isIn_2 (by decide) (by decide) ?_
  refine z_iload_n b dX12_isIn_5 rfl rfl ?_
  refine z_iload_n b dX12_isIn_6 rfl rfl ?_
  refine z_icmp_gt_f (tgt := 14) b dX12_isIn_7 (by decide) (by decide) ?_
  refine z_iconst (v := 1) b dX12_isIn_10 (by decide) ?_
  refine z_goto (tgt := 15) b dX12_isIn_11 (by decide) ?_
  exact z_zret (u := S) b rfl (by decide) dX12_isIn_15 ⟨rfl, rfl⟩ rfl (by decide) (by decide)

set_option maxHeartbeats 4000000 in
set_option maxRecDepth 100000 in
theorem c_X12_isRow_7 {l : Launch} {D : va_G} {cy : Nat → ClassId} {T0 tB tE : Nat} {a : Nat → Nat} (S : GS)   : Ct l D cy T0 tB tE yX12_isRow cX12_isRow 1 (some .boolean) 1 22 0 0 (mw cy a S) [.int 4] (QI D (U := GS) (fun r u => 1 = r ∧ S = u) (mw cy a)) := by
  refine Ct.ofZ RX12 "isRow" [(0, .int 4)] rfl rfl rfl rfl (Nat.le_of_ble_eq_true rfl) ?_
  intro p e R s m args below meth c A b
  refine z_iload_n b dX12_isRow_0 rfl rfl ?_
  refine z_iconst (v := 0) b dX12_isRow_1 (by decide) ?_
  refine z_iconst (v := 5) b dX12_isRow_2 (by decide) ?_
  refine z_calli b (z_runS (As := [.int 4, .int 0, .int 5]) (st := []) b (c_X12_isIn_46 S ) cf_X12_isIn wm_X12_1 ws_X12_isIn dX12_isRow_3 rfl (Nat.le_of_ble_eq_true rfl) ⟨by decide, by decide, by decide, by decide⟩) (fun r3981 u3982 h3980 => ?_)
  obtain ⟨rfl, rfl⟩ := h3980
  exact z_zret (u := S) b rfl (by decide) dX12_isRow_6 ⟨rfl, rfl⟩ rfl (by decide) (by decide)

set_option maxHeartbeats 4000000 in
set_option maxRecDepth 100000 in
theorem c_X12_put_15 {l : Launch} {D : va_G} {cy : Nat → ClassId} {T0 tB tE : Nat} {a : Nat → Nat} (S : GS) (p0 : Int32)  (hr_p0 : (-2147483648) ≤ p0.toInt ∧ p0.toInt ≤ (-1)) : Ct l D cy T0 tB tE yX12_put cX12_put 3 (some .int) 2 42 0 0 (mw cy a S) [.ref (a 0), .int 4, .int p0] (QI D (U := GS) (fun r u => (-1) = r ∧ S = u) (mw cy a)) := by
  refine Ct.ofZ RX12 "put" [(0, .ref (a 0)), (1, .int 4), (2, .int p0)] rfl rfl rfl rfl (Nat.le_of_ble_eq_true rfl) ?_
  intro p e R s m args below meth c A b
  refine z_iload_n b dX12_put_0 rfl rfl ?_
  refine z_calli b (z_runS (As := [.int 4]) (st := []) b (c_X12_isRow_7 S ) cf_X12_isRow wm_X12_452 ws_X12_isRow dX12_put_1 rfl (Nat.le_of_ble_eq_true rfl) ⟨by decide, by decide, by decide, by decide⟩) (fun r3984 u3985 h3983 => ?_)
  obtain ⟨rfl, rfl⟩ := h3983
  refine z_if_eq_f (tgt := 25) b dX12_put_4 (by decide) (by decide) ?_
  refine z_iload_n b dX12_put_7 rfl rfl ?_
  refine z_calli b (z_runS (As := [.int p0]) (st := []) b (c_X12_isNumber S p0 ⟨by omega, by omega⟩) cf_X12_isNumber wm_X12_455 ws_X12_isNumber dX12_put_8 rfl (Nat.le_of_ble_eq_true rfl) ⟨by decide, by decide, by decide, by decide⟩) (fun r3987 u3988 h3986 => ?_)
  obtain ⟨rfl, rfl⟩ := h3986
  refine z_if_eq_t (tgt := 25) b dX12_put_11 (by decide) (by decide) ?_
  refine z_iconst (v := (-1)) b dX12_put_25 (by decide) ?_
  exact z_iret (u := S) b rfl dX12_put_26 ⟨rfl, rfl⟩ rfl (by decide) (by decide)

set_option maxHeartbeats 4000000 in
set_option maxRecDepth 100000 in
theorem c_X7_add_5 {l : Launch} {D : va_G} {cy : Nat → ClassId} {T0 tB tE : Nat} {a : Nat → Nat} {rw : Nat → Option Nat} (S : GS) (p0 : Int32) (h_i_35 : fi S 35 = 0) (hr_p0 : 0 ≤ p0.toInt ∧ p0.toInt ≤ 767) : Ct l D cy T0 tB tE yX7_add cX7_add 2 (some .int) 0 0 0 0 (cw cy tE a rw S) [.ref (a 44), .int p0] (QI D (U := GS) (fun r u => 1 = r ∧ si (su S 19 0 p0) 35 1 = u) (cw cy tE a rw)) := by
  refine Ct.ofZ RX7 "add" [(0, .ref (a 44)), (1, .int p0)] rfl rfl rfl rfl (Nat.le_of_ble_eq_true rfl) ?_
  intro p e R s m args below meth c A b
  refine z_aload_n b dX7_add_0 rfl rfl ?_
  refine z_get (q0 := 44) (k9 := 1) (v := .int (fi S 35)) b (cw_44 cy tE a rw S) rfl in_X7 (by decide) wf_X7_9 rfl dX7_add_1 ?_
  refine z_eqi h_i_35 ?_
  refine z_if_lt_f (tgt := 19) b dX7_add_4 (by decide) (by decide) ?_
  refine z_aload_n b dX7_add_7 rfl rfl ?_
  refine z_get (q0 := 44) (k9 := 1) (v := .int (fi S 35)) b (cw_44 cy tE a rw S) rfl in_X7 (by decide) wf_X7_9 rfl dX7_add_8 ?_
  refine z_eqi h_i_35 ?_
  refine z_aload_n b dX7_add_11 rfl rfl ?_
  refine z_get (q0 := 44) (k9 := 0) (v := .ref (a 45)) b (cw_44 cy tE a rw S) rfl in_X7 (by decide) wf_X7_25 rfl dX7_add_12 ?_
  refine z_alen (q0 := 45) (t0 := 0) (v := 12) b (cw_45 cy tE a rw S) rfl rfl dX7_add_15 ?_
  refine z_icmp_lt_t (tgt := 21) b dX7_add_16 (by decide) (by decide) ?_
  refine z_aload_n b dX7_add_21 rfl rfl ?_
  refine z_get (q0 := 44) (k9 := 0) (v := .ref (a 45)) b (cw_44 cy tE a rw S) rfl in_X7 (by decide) wf_X7_25 rfl dX7_add_22 ?_
  refine z_aload_n b dX7_add_25 rfl rfl ?_
  refine z_get (q0 := 44) (k9 := 1) (v := .int (fi S 35)) b (cw_44 cy tE a rw S) rfl in_X7 (by decide) wf_X7_9 rfl dX7_add_26 ?_
  refine z_eqi h_i_35 ?_
  refine z_iload_n b dX7_add_29 rfl rfl ?_
  refine y_iast (q0 := 45) (j := 0) b (cw_45 cy tE a rw S) (by decide) dX7_add_30 (cwa_45 cy tE a rw S 0 p0) ?_
  refine z_aload_n b dX7_add_31 rfl rfl ?_
  refine z_dup b dX7_add_32 rfl ?_
  refine z_get (q0 := 44) (k9 := 1) (v := .int (fi (su S 19 0 p0) 35)) b (cw_44 cy tE a rw (su S 19 0 p0)) rfl in_X7 (by decide) wf_X7_9 rfl dX7_add_33 ?_
  refine z_eqi h_i_35 ?_
  refine z_iconst (v := 1) b dX7_add_36 (by decide) ?_
  refine z_iadd (v := 1) b dX7_add_37 (by decide) ?_
  refine z_put (q0 := 44) (k9 := 1) tyX7 b (cw_44 cy tE a rw (su S 19 0 p0)) rfl in_X7 tyX7_ok nmX7 (by decide) wf_X7_9 rfl rfl rfl rfl (Nat.le_of_ble_eq_true rfl) dX7_add_38 (cwp_44_1 cy tE a rw (su S 19 0 p0) 1) ?_
  refine z_aload_n b dX7_add_41 rfl rfl ?_
  refine z_get (q0 := 44) (k9 := 1) (v := .int 1) b (cw_44 cy tE a rw (si (su S 19 0 p0) 35 1)) rfl in_X7 (by decide) wf_X7_9 rfl dX7_add_42 ?_
  exact z_iret (u := (si (su S 19 0 p0) 35 1)) b rfl dX7_add_45 ⟨rfl, rfl⟩ rfl (by decide) (by decide)

set_option maxHeartbeats 4000000 in
set_option maxRecDepth 100000 in
theorem c_X11_put_16 {l : Launch} {D : va_G} {cy : Nat → ClassId} {T0 tB tE : Nat} {a : Nat → Nat} {rw : Nat → Option Nat} (S : GS) (p0 : Int32) (h_i_35 : fi S 35 = 0) (hrw : ∀ i, i < 6 → rw i = some (a (36 + 2 * i))) (hr_p0 : 0 ≤ p0.toInt ∧ p0.toInt ≤ 767) : Ct l D cy T0 tB tE yX11_put cX11_put 3 (some .int) 1 21 0 0 (cw cy tE a rw S) [.ref (a 0), .int 4, .int p0] (QI D (U := GS) (fun r u => 1 = r ∧ si (su S 19 0 p0) 35 1 = u) (cw cy tE a rw)) := by
  refine Ct.ofZ RX11 "put" [(0, .ref (a 0)), (1, .int 4), (2, .int p0)] rfl rfl rfl rfl (Nat.le_of_ble_eq_true rfl) ?_
  intro p e R s m args below meth c A b
  refine z_iload_n b dX11_put_0 rfl rfl ?_
  refine z_calli b (z_runS (As := [.int 4]) (st := []) b (c_X11_isRow_7 S ) cf_X11_isRow wm_X11_169 ws_X11_isRow dX11_put_1 rfl (Nat.le_of_ble_eq_true rfl) ⟨by decide, by decide, by decide, by decide⟩) (fun r3990 u3991 h3989 => ?_)
  obtain ⟨rfl, rfl⟩ := h3989
  refine z_if_eq_f (tgt := 17) b dX11_put_4 (by decide) (by decide) ?_
  refine z_iload_n b dX11_put_7 rfl rfl ?_
  refine z_sipush (v := 767) b dX11_put_8 (by decide) ?_
  refine z_calli b (z_runS (As := [.int p0, .int 767]) (st := []) b (c_X11_isWithin_21 S p0 ⟨by omega, by omega⟩) cf_X11_isWithin wm_X11_73 ws_X11_isWithin dX11_put_11 rfl (Nat.le_of_ble_eq_true rfl) ⟨by decide, by decide, by decide, by decide⟩) (fun r3993 u3994 h3992 => ?_)
  obtain ⟨rfl, rfl⟩ := h3992
  refine z_if_ne_t (tgt := 19) b dX11_put_14 (by decide) (by decide) ?_
  refine z_aload_n b dX11_put_19 rfl rfl ?_
  refine z_get (q0 := 0) (k9 := 7) (v := .ref (a 35)) b (cw_0 cy tE a rw S) rfl in_X11 (by decide) wf_X11_58 rfl dX11_put_20 ?_
  refine z_iload_n b dX11_put_23 rfl rfl ?_
  refine y_aald (q0 := 35) (t0 := 4) (j := 4) (v := .ref (a 44)) b (cw_35 cy tE a rw S) rfl (by decide) (by rw [hrw 4 (by decide)]; rfl) dX11_put_24 ?_
  refine z_iload_n b dX11_put_25 rfl rfl ?_
  refine z_calli b (z_runV (q0 := 44) (As := [.int p0]) (st := []) b (c_X7_add_5 S p0 h_i_35 ⟨by omega, by omega⟩) cf_X7_add (cw_44 cy tE a rw S) rfl wm_X11_172 wi_X7_add ws_X7_add dX11_put_26 rfl (Nat.le_of_ble_eq_true rfl) ⟨by decide, by decide, by decide, by decide⟩) (fun r3996 u3997 h3995 => ?_)
  obtain ⟨rfl, rfl⟩ := h3995
  exact z_iret (u := (si (su S 19 0 p0) 35 1)) b rfl dX11_put_29 ⟨rfl, rfl⟩ rfl (by decide) (by decide)

set_option maxHeartbeats 4000000 in
set_option maxRecDepth 100000 in
theorem c_X12_put_16 {l : Launch} {D : va_G} {cy : Nat → ClassId} {T0 tB tE : Nat} {a : Nat → Nat} (S : GS) (p0 : Int32) (h_a_38_4 : ar S 38 4 = 0) (hr_p0 : 0 ≤ p0.toInt ∧ p0.toInt ≤ 767) : Ct l D cy T0 tB tE yX12_put cX12_put 3 (some .int) 2 42 0 0 (mw cy a S) [.ref (a 0), .int 4, .int p0] (QI D (U := GS) (fun r u => 1 = r ∧ su (su S 37 48 p0) 38 4 1 = u) (mw cy a)) := by
  refine Ct.ofZ RX12 "put" [(0, .ref (a 0)), (1, .int 4), (2, .int p0)] rfl rfl rfl rfl (Nat.le_of_ble_eq_true rfl) ?_
  intro p e R s m args below meth c A b
  refine z_iload_n b dX12_put_0 rfl rfl ?_
  refine z_calli b (z_runS (As := [.int 4]) (st := []) b (c_X12_isRow_7 S ) cf_X12_isRow wm_X12_452 ws_X12_isRow dX12_put_1 rfl (Nat.le_of_ble_eq_true rfl) ⟨by decide, by decide, by decide, by decide⟩) (fun r3999 u4000 h3998 => ?_)
  obtain ⟨rfl, rfl⟩ := h3998
  refine z_if_eq_f (tgt := 25) b dX12_put_4 (by decide) (by decide) ?_
  refine z_iload_n b dX12_put_7 rfl rfl ?_
  refine z_calli b (z_runS (As := [.int p0]) (st := []) b (c_X12_isNumber_2 S p0 ⟨by omega, by omega⟩) cf_X12_isNumber wm_X12_455 ws_X12_isNumber dX12_put_8 rfl (Nat.le_of_ble_eq_true rfl) ⟨by decide, by decide, by decide, by decide⟩) (fun r4002 u4003 h4001 => ?_)
  obtain ⟨rfl, rfl⟩ := h4001
  refine z_if_eq_f (tgt := 25) b dX12_put_11 (by decide) (by decide) ?_
  refine z_aload_n b dX12_put_14 rfl rfl ?_
  refine z_get (q0 := 0) (k9 := 66) (v := .ref (a 41)) b (mw_0 cy a S) rfl in_X12 (by decide) wf_X12_140 rfl dX12_put_15 ?_
  refine z_iload_n b dX12_put_18 rfl rfl ?_
  refine y_iald (q0 := 41) (j := 4) (v := (ar S 38 4)) b (mw_41 cy a S) (by decide) rfl dX12_put_19 ?_
  refine z_eqi h_a_38_4 ?_
  refine z_bipush (v := 12) b dX12_put_20 (by decide) ?_
  refine z_icmp_ne_t (tgt := 27) b dX12_put_22 (by decide) (by decide) ?_
  refine z_aload_n b dX12_put_27 rfl rfl ?_
  refine z_get (q0 := 0) (k9 := 65) (v := .ref (a 40)) b (mw_0 cy a S) rfl in_X12 (by decide) wf_X12_137 rfl dX12_put_28 ?_
  refine z_bipush (v := 12) b dX12_put_31 (by decide) ?_
  refine z_iload_n b dX12_put_33 rfl rfl ?_
  refine z_imul (v := 48) b dX12_put_34 (by decide) ?_
  refine z_aload_n b dX12_put_35 rfl rfl ?_
  refine z_get (q0 := 0) (k9 := 66) (v := .ref (a 41)) b (mw_0 cy a S) rfl in_X12 (by decide) wf_X12_140 rfl dX12_put_36 ?_
  refine z_iload_n b dX12_put_39 rfl rfl ?_
  refine y_iald (q0 := 41) (j := 4) (v := (ar S 38 4)) b (mw_41 cy a S) (by decide) rfl dX12_put_40 ?_
  refine z_eqi h_a_38_4 ?_
  refine z_iadd (v := 48) b dX12_put_41 (by decide) ?_
  refine z_iload_n b dX12_put_42 rfl rfl ?_
  refine y_iast (q0 := 40) (j := 48) b (mw_40 cy a S) (by decide) dX12_put_43 (mwa_40 cy a S 48 p0) ?_
  refine z_aload_n b dX12_put_44 rfl rfl ?_
  refine z_get (q0 := 0) (k9 := 66) (v := .ref (a 41)) b (mw_0 cy a (su S 37 48 p0)) rfl in_X12 (by decide) wf_X12_140 rfl dX12_put_45 ?_
  refine z_iload_n b dX12_put_48 rfl rfl ?_
  refine z_dup2 b dX12_put_49 rfl rfl ?_
  refine y_iald (q0 := 41) (j := 4) (v := (ar (su S 37 48 p0) 38 4)) b (mw_41 cy a (su S 37 48 p0)) (by decide) rfl dX12_put_50 ?_
  refine z_eqi h_a_38_4 ?_
  refine z_iconst (v := 1) b dX12_put_51 (by decide) ?_
  refine z_iadd (v := 1) b dX12_put_52 (by decide) ?_
  refine y_iast (q0 := 41) (j := 4) b (mw_41 cy a (su S 37 48 p0)) (by decide) dX12_put_53 (mwa_41 cy a (su S 37 48 p0) 4 1) ?_
  refine z_aload_n b dX12_put_54 rfl rfl ?_
  refine z_get (q0 := 0) (k9 := 66) (v := .ref (a 41)) b (mw_0 cy a (su (su S 37 48 p0) 38 4 1)) rfl in_X12 (by decide) wf_X12_140 rfl dX12_put_55 ?_
  refine z_iload_n b dX12_put_58 rfl rfl ?_
  refine y_iald (q0 := 41) (j := 4) (v := 1) b (mw_41 cy a (su (su S 37 48 p0) 38 4 1)) (by decide) rfl dX12_put_59 ?_
  exact z_iret (u := (su (su S 37 48 p0) 38 4 1)) b rfl dX12_put_60 ⟨rfl, rfl⟩ rfl (by decide) (by decide)

set_option maxHeartbeats 4000000 in
set_option maxRecDepth 100000 in
theorem c_X11_put_17 {l : Launch} {D : va_G} {cy : Nat → ClassId} {T0 tB tE : Nat} {a : Nat → Nat} {rw : Nat → Option Nat} (S : GS) (p0 : Int32)  (hr_p0 : 768 ≤ p0.toInt ∧ p0.toInt ≤ 2147483647) : Ct l D cy T0 tB tE yX11_put cX11_put 3 (some .int) 1 21 0 0 (cw cy tE a rw S) [.ref (a 0), .int 4, .int p0] (QI D (U := GS) (fun r u => (-1) = r ∧ S = u) (cw cy tE a rw)) := by
  refine Ct.ofZ RX11 "put" [(0, .ref (a 0)), (1, .int 4), (2, .int p0)] rfl rfl rfl rfl (Nat.le_of_ble_eq_true rfl) ?_
  intro p e R s m args below meth c A b
  refine z_iload_n b dX11_put_0 rfl rfl ?_
  refine z_calli b (z_runS (As := [.int 4]) (st := []) b (c_X11_isRow_7 S ) cf_X11_isRow wm_X11_169 ws_X11_isRow dX11_put_1 rfl (Nat.le_of_ble_eq_true rfl) ⟨by decide, by decide, by decide, by decide⟩) (fun r4005 u4006 h4004 => ?_)
  obtain ⟨rfl, rfl⟩ := h4004
  refine z_if_eq_f (tgt := 17) b dX11_put_4 (by decide) (by decide) ?_
  refine z_iload_n b dX11_put_7 rfl rfl ?_
  refine z_sipush (v := 767) b dX11_put_8 (by decide) ?_
  refine z_calli b (z_runS (As := [.int p0, .int 767]) (st := []) b (c_X11_isWithin_22 S p0 ⟨by omega, by omega⟩) cf_X11_isWithin wm_X11_73 ws_X11_isWithin dX11_put_11 rfl (Nat.le_of_ble_eq_true rfl) ⟨by decide, by decide, by decide, by decide⟩) (fun r4008 u4009 h4007 => ?_)
  obtain ⟨rfl, rfl⟩ := h4007
  refine z_if_ne_f (tgt := 19) b dX11_put_14 (by decide) (by decide) ?_
  refine z_iconst (v := (-1)) b dX11_put_17 (by decide) ?_
  exact z_iret (u := S) b rfl dX11_put_18 ⟨rfl, rfl⟩ rfl (by decide) (by decide)

set_option maxHeartbeats 4000000 in
set_option maxRecDepth 100000 in
theorem c_X12_put_17 {l : Launch} {D : va_G} {cy : Nat → ClassId} {T0 tB tE : Nat} {a : Nat → Nat} (S : GS) (p0 : Int32)  (hr_p0 : 768 ≤ p0.toInt ∧ p0.toInt ≤ 2147483647) : Ct l D cy T0 tB tE yX12_put cX12_put 3 (some .int) 2 42 0 0 (mw cy a S) [.ref (a 0), .int 4, .int p0] (QI D (U := GS) (fun r u => (-1) = r ∧ S = u) (mw cy a)) := by
  refine Ct.ofZ RX12 "put" [(0, .ref (a 0)), (1, .int 4), (2, .int p0)] rfl rfl rfl rfl (Nat.le_of_ble_eq_true rfl) ?_
  intro p e R s m args below meth c A b
  refine z_iload_n b dX12_put_0 rfl rfl ?_
  refine z_calli b (z_runS (As := [.int 4]) (st := []) b (c_X12_isRow_7 S ) cf_X12_isRow wm_X12_452 ws_X12_isRow dX12_put_1 rfl (Nat.le_of_ble_eq_true rfl) ⟨by decide, by decide, by decide, by decide⟩) (fun r4011 u4012 h4010 => ?_)
  obtain ⟨rfl, rfl⟩ := h4010
  refine z_if_eq_f (tgt := 25) b dX12_put_4 (by decide) (by decide) ?_
  refine z_iload_n b dX12_put_7 rfl rfl ?_
  refine z_calli b (z_runS (As := [.int p0]) (st := []) b (c_X12_isNumber_3 S p0 ⟨by omega, by omega⟩) cf_X12_isNumber wm_X12_455 ws_X12_isNumber dX12_put_8 rfl (Nat.le_of_ble_eq_true rfl) ⟨by decide, by decide, by decide, by decide⟩) (fun r4014 u4015 h4013 => ?_)
  obtain ⟨rfl, rfl⟩ := h4013
  refine z_if_eq_t (tgt := 25) b dX12_put_11 (by decide) (by decide) ?_
  refine z_iconst (v := (-1)) b dX12_put_25 (by decide) ?_
  exact z_iret (u := S) b rfl dX12_put_26 ⟨rfl, rfl⟩ rfl (by decide) (by decide)

set_option maxHeartbeats 4000000 in
set_option maxRecDepth 100000 in
theorem c_X11_isRow_8 {l : Launch} {D : va_G} {cy : Nat → ClassId} {T0 tB tE : Nat} {a : Nat → Nat} {rw : Nat → Option Nat} (S : GS)   : Ct l D cy T0 tB tE yX11_isRow cX11_isRow 1 (some .boolean) 0 0 0 0 (cw cy tE a rw S) [.int 5] (QI D (U := GS) (fun r u => 1 = r ∧ S = u) (cw cy tE a rw)) := by
  refine Ct.ofZ RX11 "isRow" [(0, .int 5)] rfl rfl rfl rfl (Nat.le_of_ble_eq_true rfl) ?_
  intro p e R s m args below meth c A b
  refine z_iload_n b dX11_isRow_0 rfl rfl ?_
  refine z_if_lt_f (tgt := 14) b dX11_isRow_1 (by decide) (by decide) ?_
  refine z_iload_n b dX11_isRow_4 rfl rfl ?_
  refine z_bipush (v := 6) b dX11_isRow_5 (by decide) ?_
  refine z_icmp_ge_f (tgt := 14) b dX11_isRow_7 (by decide) (by decide) ?_
  refine z_iconst (v := 1) b dX11_isRow_10 (by decide) ?_
  refine z_goto (tgt := 15) b dX11_isRow_11 (by decide) ?_
  exact z_zret (u := S) b rfl (by decide) dX11_isRow_15 ⟨rfl, rfl⟩ rfl (by decide) (by decide)

set_option maxHeartbeats 4000000 in
set_option maxRecDepth 100000 in
theorem c_X11_put_18 {l : Launch} {D : va_G} {cy : Nat → ClassId} {T0 tB tE : Nat} {a : Nat → Nat} {rw : Nat → Option Nat} (S : GS) (p0 : Int32)  (hr_p0 : (-2147483648) ≤ p0.toInt ∧ p0.toInt ≤ (-1)) : Ct l D cy T0 tB tE yX11_put cX11_put 3 (some .int) 1 21 0 0 (cw cy tE a rw S) [.ref (a 0), .int 5, .int p0] (QI D (U := GS) (fun r u => (-1) = r ∧ S = u) (cw cy tE a rw)) := by
  refine Ct.ofZ RX11 "put" [(0, .ref (a 0)), (1, .int 5), (2, .int p0)] rfl rfl rfl rfl (Nat.le_of_ble_eq_true rfl) ?_
  intro p e R s m args below meth c A b
  refine z_iload_n b dX11_put_0 rfl rfl ?_
  refine z_calli b (z_runS (As := [.int 5]) (st := []) b (c_X11_isRow_8 S ) cf_X11_isRow wm_X11_169 ws_X11_isRow dX11_put_1 rfl (Nat.le_of_ble_eq_true rfl) ⟨by decide, by decide, by decide, by decide⟩) (fun r4017 u4018 h4016 => ?_)
  obtain ⟨rfl, rfl⟩ := h4016
  refine z_if_eq_f (tgt := 17) b dX11_put_4 (by decide) (by decide) ?_
  refine z_iload_n b dX11_put_7 rfl rfl ?_
  refine z_sipush (v := 767) b dX11_put_8 (by decide) ?_
  refine z_calli b (z_runS (As := [.int p0, .int 767]) (st := []) b (c_X11_isWithin_20 S p0 ⟨by omega, by omega⟩) cf_X11_isWithin wm_X11_73 ws_X11_isWithin dX11_put_11 rfl (Nat.le_of_ble_eq_true rfl) ⟨by decide, by decide, by decide, by decide⟩) (fun r4020 u4021 h4019 => ?_)
  obtain ⟨rfl, rfl⟩ := h4019
  refine z_if_ne_f (tgt := 19) b dX11_put_14 (by decide) (by decide) ?_
  refine z_iconst (v := (-1)) b dX11_put_17 (by decide) ?_
  exact z_iret (u := S) b rfl dX11_put_18 ⟨rfl, rfl⟩ rfl (by decide) (by decide)

set_option maxHeartbeats 4000000 in
set_option maxRecDepth 100000 in
theorem c_X12_isIn_47 {l : Launch} {D : va_G} {cy : Nat → ClassId} {T0 tB tE : Nat} {a : Nat → Nat} (S : GS)   : Ct l D cy T0 tB tE yX12_isIn cX12_isIn 3 (some .boolean) 0 0 0 0 (mw cy a S) [.int 5, .int 0, .int 5] (QI D (U := GS) (fun r u => 1 = r ∧ S = u) (mw cy a)) := by
  refine Ct.ofZ RX12 "isIn" [(0, .int 5), (1, .int 0), (2, .int 5)] rfl rfl rfl rfl (Nat.le_of_ble_eq_true rfl) ?_
  intro p e R s m args below meth c A b
  refine z_iload_n b dX12_isIn_0 rfl rfl ?_
  refine z_iload_n b dX12_isIn_1 rfl rfl ?_
  refine z_icmp_lt_f (tgt := 14) b dX12_isIn_2 (by decide) (by decide) ?_
  refine z_iload_n b dX12_isIn_5 rfl rfl ?_
  refine z_iload_n b dX12_isIn_6 rfl rfl ?_
  refine z_icmp_gt_f (tgt := 14) b dX12_isIn_7 (by decide) (by decide) ?_
  refine z_iconst (v := 1) b dX12_isIn_10 (by decide) ?_
  refine z_goto (tgt := 15) b dX12_isIn_11 (by decide) ?_
  exact z_zret (u := S) b rfl (by decide) dX12_isIn_15 ⟨rfl, rfl⟩ rfl (by decide) (by decide)

set_option maxHeartbeats 4000000 in
set_option maxRecDepth 100000 in
theorem c_X12_isRow_8 {l : Launch} {D : va_G} {cy : Nat → ClassId} {T0 tB tE : Nat} {a : Nat → Nat} (S : GS)   : Ct l D cy T0 tB tE yX12_isRow cX12_isRow 1 (some .boolean) 1 22 0 0 (mw cy a S) [.int 5] (QI D (U := GS) (fun r u => 1 = r ∧ S = u) (mw cy a)) := by
  refine Ct.ofZ RX12 "isRow" [(0, .int 5)] rfl rfl rfl rfl (Nat.le_of_ble_eq_true rfl) ?_
  intro p e R s m args below meth c A b
  refine z_iload_n b dX12_isRow_0 rfl rfl ?_
  refine z_iconst (v := 0) b dX12_isRow_1 (by decide) ?_
  refine z_iconst (v := 5) b dX12_isRow_2 (by decide) ?_
  refine z_calli b (z_runS (As := [.int 5, .int 0, .int 5]) (st := []) b (c_X12_isIn_47 S ) cf_X12_isIn wm_X12_1 ws_X12_isIn dX12_isRow_3 rfl (Nat.le_of_ble_eq_true rfl) ⟨by decide, by decide, by decide, by decide⟩) (fun r4023 u4024 h4022 => ?_)
  obtain ⟨rfl, rfl⟩ := h4022
  exact z_zret (u := S) b rfl (by decide) dX12_isRow_6 ⟨rfl, rfl⟩ rfl (by decide) (by decide)

set_option maxHeartbeats 4000000 in
set_option maxRecDepth 100000 in
theorem c_X12_put_18 {l : Launch} {D : va_G} {cy : Nat → ClassId} {T0 tB tE : Nat} {a : Nat → Nat} (S : GS) (p0 : Int32)  (hr_p0 : (-2147483648) ≤ p0.toInt ∧ p0.toInt ≤ (-1)) : Ct l D cy T0 tB tE yX12_put cX12_put 3 (some .int) 2 42 0 0 (mw cy a S) [.ref (a 0), .int 5, .int p0] (QI D (U := GS) (fun r u => (-1) = r ∧ S = u) (mw cy a)) := by
  refine Ct.ofZ RX12 "put" [(0, .ref (a 0)), (1, .int 5), (2, .int p0)] rfl rfl rfl rfl (Nat.le_of_ble_eq_true rfl) ?_
  intro p e R s m args below meth c A b
  refine z_iload_n b dX12_put_0 rfl rfl ?_
  refine z_calli b (z_runS (As := [.int 5]) (st := []) b (c_X12_isRow_8 S ) cf_X12_isRow wm_X12_452 ws_X12_isRow dX12_put_1 rfl (Nat.le_of_ble_eq_true rfl) ⟨by decide, by decide, by decide, by decide⟩) (fun r4026 u4027 h4025 => ?_)
  obtain ⟨rfl, rfl⟩ := h4025
  refine z_if_eq_f (tgt := 25) b dX12_put_4 (by decide) (by decide) ?_
  refine z_iload_n b dX12_put_7 rfl rfl ?_
  refine z_calli b (z_runS (As := [.int p0]) (st := []) b (c_X12_isNumber S p0 ⟨by omega, by omega⟩) cf_X12_isNumber wm_X12_455 ws_X12_isNumber dX12_put_8 rfl (Nat.le_of_ble_eq_true rfl) ⟨by decide, by decide, by decide, by decide⟩) (fun r4029 u4030 h4028 => ?_)
  obtain ⟨rfl, rfl⟩ := h4028
  refine z_if_eq_t (tgt := 25) b dX12_put_11 (by decide) (by decide) ?_
  refine z_iconst (v := (-1)) b dX12_put_25 (by decide) ?_
  exact z_iret (u := S) b rfl dX12_put_26 ⟨rfl, rfl⟩ rfl (by decide) (by decide)

set_option maxHeartbeats 4000000 in
set_option maxRecDepth 100000 in
theorem c_X7_add_6 {l : Launch} {D : va_G} {cy : Nat → ClassId} {T0 tB tE : Nat} {a : Nat → Nat} {rw : Nat → Option Nat} (S : GS) (p0 : Int32) (h_i_37 : fi S 37 = 0) (hr_p0 : 0 ≤ p0.toInt ∧ p0.toInt ≤ 767) : Ct l D cy T0 tB tE yX7_add cX7_add 2 (some .int) 0 0 0 0 (cw cy tE a rw S) [.ref (a 46), .int p0] (QI D (U := GS) (fun r u => 1 = r ∧ si (su S 20 0 p0) 37 1 = u) (cw cy tE a rw)) := by
  refine Ct.ofZ RX7 "add" [(0, .ref (a 46)), (1, .int p0)] rfl rfl rfl rfl (Nat.le_of_ble_eq_true rfl) ?_
  intro p e R s m args below meth c A b
  refine z_aload_n b dX7_add_0 rfl rfl ?_
  refine z_get (q0 := 46) (k9 := 1) (v := .int (fi S 37)) b (cw_46 cy tE a rw S) rfl in_X7 (by decide) wf_X7_9 rfl dX7_add_1 ?_
  refine z_eqi h_i_37 ?_
  refine z_if_lt_f (tgt := 19) b dX7_add_4 (by decide) (by decide) ?_
  refine z_aload_n b dX7_add_7 rfl rfl ?_
  refine z_get (q0 := 46) (k9 := 1) (v := .int (fi S 37)) b (cw_46 cy tE a rw S) rfl in_X7 (by decide) wf_X7_9 rfl dX7_add_8 ?_
  refine z_eqi h_i_37 ?_
  refine z_aload_n b dX7_add_11 rfl rfl ?_
  refine z_get (q0 := 46) (k9 := 0) (v := .ref (a 47)) b (cw_46 cy tE a rw S) rfl in_X7 (by decide) wf_X7_25 rfl dX7_add_12 ?_
  refine z_alen (q0 := 47) (t0 := 0) (v := 12) b (cw_47 cy tE a rw S) rfl rfl dX7_add_15 ?_
  refine z_icmp_lt_t (tgt := 21) b dX7_add_16 (by decide) (by decide) ?_
  refine z_aload_n b dX7_add_21 rfl rfl ?_
  refine z_get (q0 := 46) (k9 := 0) (v := .ref (a 47)) b (cw_46 cy tE a rw S) rfl in_X7 (by decide) wf_X7_25 rfl dX7_add_22 ?_
  refine z_aload_n b dX7_add_25 rfl rfl ?_
  refine z_get (q0 := 46) (k9 := 1) (v := .int (fi S 37)) b (cw_46 cy tE a rw S) rfl in_X7 (by decide) wf_X7_9 rfl dX7_add_26 ?_
  refine z_eqi h_i_37 ?_
  refine z_iload_n b dX7_add_29 rfl rfl ?_
  refine y_iast (q0 := 47) (j := 0) b (cw_47 cy tE a rw S) (by decide) dX7_add_30 (cwa_47 cy tE a rw S 0 p0) ?_
  refine z_aload_n b dX7_add_31 rfl rfl ?_
  refine z_dup b dX7_add_32 rfl ?_
  refine z_get (q0 := 46) (k9 := 1) (v := .int (fi (su S 20 0 p0) 37)) b (cw_46 cy tE a rw (su S 20 0 p0)) rfl in_X7 (by decide) wf_X7_9 rfl dX7_add_33 ?_
  refine z_eqi h_i_37 ?_
  refine z_iconst (v := 1) b dX7_add_36 (by decide) ?_
  refine z_iadd (v := 1) b dX7_add_37 (by decide) ?_
  refine z_put (q0 := 46) (k9 := 1) tyX7 b (cw_46 cy tE a rw (su S 20 0 p0)) rfl in_X7 tyX7_ok nmX7 (by decide) wf_X7_9 rfl rfl rfl rfl (Nat.le_of_ble_eq_true rfl) dX7_add_38 (cwp_46_1 cy tE a rw (su S 20 0 p0) 1) ?_
  refine z_aload_n b dX7_add_41 rfl rfl ?_
  refine z_get (q0 := 46) (k9 := 1) (v := .int 1) b (cw_46 cy tE a rw (si (su S 20 0 p0) 37 1)) rfl in_X7 (by decide) wf_X7_9 rfl dX7_add_42 ?_
  exact z_iret (u := (si (su S 20 0 p0) 37 1)) b rfl dX7_add_45 ⟨rfl, rfl⟩ rfl (by decide) (by decide)

set_option maxHeartbeats 4000000 in
set_option maxRecDepth 100000 in
theorem c_X11_put_19 {l : Launch} {D : va_G} {cy : Nat → ClassId} {T0 tB tE : Nat} {a : Nat → Nat} {rw : Nat → Option Nat} (S : GS) (p0 : Int32) (h_i_37 : fi S 37 = 0) (hrw : ∀ i, i < 6 → rw i = some (a (36 + 2 * i))) (hr_p0 : 0 ≤ p0.toInt ∧ p0.toInt ≤ 767) : Ct l D cy T0 tB tE yX11_put cX11_put 3 (some .int) 1 21 0 0 (cw cy tE a rw S) [.ref (a 0), .int 5, .int p0] (QI D (U := GS) (fun r u => 1 = r ∧ si (su S 20 0 p0) 37 1 = u) (cw cy tE a rw)) := by
  refine Ct.ofZ RX11 "put" [(0, .ref (a 0)), (1, .int 5), (2, .int p0)] rfl rfl rfl rfl (Nat.le_of_ble_eq_true rfl) ?_
  intro p e R s m args below meth c A b
  refine z_iload_n b dX11_put_0 rfl rfl ?_
  refine z_calli b (z_runS (As := [.int 5]) (st := []) b (c_X11_isRow_8 S ) cf_X11_isRow wm_X11_169 ws_X11_isRow dX11_put_1 rfl (Nat.le_of_ble_eq_true rfl) ⟨by decide, by decide, by decide, by decide⟩) (fun r4032 u4033 h4031 => ?_)
  obtain ⟨rfl, rfl⟩ := h4031
  refine z_if_eq_f (tgt := 17) b dX11_put_4 (by decide) (by decide) ?_
  refine z_iload_n b dX11_put_7 rfl rfl ?_
  refine z_sipush (v := 767) b dX11_put_8 (by decide) ?_
  refine z_calli b (z_runS (As := [.int p0, .int 767]) (st := []) b (c_X11_isWithin_21 S p0 ⟨by omega, by omega⟩) cf_X11_isWithin wm_X11_73 ws_X11_isWithin dX11_put_11 rfl (Nat.le_of_ble_eq_true rfl) ⟨by decide, by decide, by decide, by decide⟩) (fun r4035 u4036 h4034 => ?_)
  obtain ⟨rfl, rfl⟩ := h4034
  refine z_if_ne_t (tgt := 19) b dX11_put_14 (by decide) (by decide) ?_
  refine z_aload_n b dX11_put_19 rfl rfl ?_
  refine z_get (q0 := 0) (k9 := 7) (v := .ref (a 35)) b (cw_0 cy tE a rw S) rfl in_X11 (by decide) wf_X11_58 rfl dX11_put_20 ?_
  refine z_iload_n b dX11_put_23 rfl rfl ?_
  refine y_aald (q0 := 35) (t0 := 4) (j := 5) (v := .ref (a 46)) b (cw_35 cy tE a rw S) rfl (by decide) (by rw [hrw 5 (by decide)]; rfl) dX11_put_24 ?_
  refine z_iload_n b dX11_put_25 rfl rfl ?_
  refine z_calli b (z_runV (q0 := 46) (As := [.int p0]) (st := []) b (c_X7_add_6 S p0 h_i_37 ⟨by omega, by omega⟩) cf_X7_add (cw_46 cy tE a rw S) rfl wm_X11_172 wi_X7_add ws_X7_add dX11_put_26 rfl (Nat.le_of_ble_eq_true rfl) ⟨by decide, by decide, by decide, by decide⟩) (fun r4038 u4039 h4037 => ?_)
  obtain ⟨rfl, rfl⟩ := h4037
  exact z_iret (u := (si (su S 20 0 p0) 37 1)) b rfl dX11_put_29 ⟨rfl, rfl⟩ rfl (by decide) (by decide)

set_option maxHeartbeats 4000000 in
set_option maxRecDepth 100000 in
theorem c_X12_put_19 {l : Launch} {D : va_G} {cy : Nat → ClassId} {T0 tB tE : Nat} {a : Nat → Nat} (S : GS) (p0 : Int32) (h_a_38_5 : ar S 38 5 = 0) (hr_p0 : 0 ≤ p0.toInt ∧ p0.toInt ≤ 767) : Ct l D cy T0 tB tE yX12_put cX12_put 3 (some .int) 2 42 0 0 (mw cy a S) [.ref (a 0), .int 5, .int p0] (QI D (U := GS) (fun r u => 1 = r ∧ su (su S 37 60 p0) 38 5 1 = u) (mw cy a)) := by
  refine Ct.ofZ RX12 "put" [(0, .ref (a 0)), (1, .int 5), (2, .int p0)] rfl rfl rfl rfl (Nat.le_of_ble_eq_true rfl) ?_
  intro p e R s m args below meth c A b
  refine z_iload_n b dX12_put_0 rfl rfl ?_
  refine z_calli b (z_runS (As := [.int 5]) (st := []) b (c_X12_isRow_8 S ) cf_X12_isRow wm_X12_452 ws_X12_isRow dX12_put_1 rfl (Nat.le_of_ble_eq_true rfl) ⟨by decide, by decide, by decide, by decide⟩) (fun r4041 u4042 h4040 => ?_)
  obtain ⟨rfl, rfl⟩ := h4040
  refine z_if_eq_f (tgt := 25) b dX12_put_4 (by decide) (by decide) ?_
  refine z_iload_n b dX12_put_7 rfl rfl ?_
  refine z_calli b (z_runS (As := [.int p0]) (st := []) b (c_X12_isNumber_2 S p0 ⟨by omega, by omega⟩) cf_X12_isNumber wm_X12_455 ws_X12_isNumber dX12_put_8 rfl (Nat.le_of_ble_eq_true rfl) ⟨by decide, by decide, by decide, by decide⟩) (fun r4044 u4045 h4043 => ?_)
  obtain ⟨rfl, rfl⟩ := h4043
  refine z_if_eq_f (tgt := 25) b dX12_put_11 (by decide) (by decide) ?_
  refine z_aload_n b dX12_put_14 rfl rfl ?_
  refine z_get (q0 := 0) (k9 := 66) (v := .ref (a 41)) b (mw_0 cy a S) rfl in_X12 (by decide) wf_X12_140 rfl dX12_put_15 ?_
  refine z_iload_n b dX12_put_18 rfl rfl ?_
  refine y_iald (q0 := 41) (j := 5) (v := (ar S 38 5)) b (mw_41 cy a S) (by decide) rfl dX12_put_19 ?_
  refine z_eqi h_a_38_5 ?_
  refine z_bipush (v := 12) b dX12_put_20 (by decide) ?_
  refine z_icmp_ne_t (tgt := 27) b dX12_put_22 (by decide) (by decide) ?_
  refine z_aload_n b dX12_put_27 rfl rfl ?_
  refine z_get (q0 := 0) (k9 := 65) (v := .ref (a 40)) b (mw_0 cy a S) rfl in_X12 (by decide) wf_X12_137 rfl dX12_put_28 ?_
  refine z_bipush (v := 12) b dX12_put_31 (by decide) ?_
  refine z_iload_n b dX12_put_33 rfl rfl ?_
  refine z_imul (v := 60) b dX12_put_34 (by decide) ?_
  refine z_aload_n b dX12_put_35 rfl rfl ?_
  refine z_get (q0 := 0) (k9 := 66) (v := .ref (a 41)) b (mw_0 cy a S) rfl in_X12 (by decide) wf_X12_140 rfl dX12_put_36 ?_
  refine z_iload_n b dX12_put_39 rfl rfl ?_
  refine y_iald (q0 := 41) (j := 5) (v := (ar S 38 5)) b (mw_41 cy a S) (by decide) rfl dX12_put_40 ?_
  refine z_eqi h_a_38_5 ?_
  refine z_iadd (v := 60) b dX12_put_41 (by decide) ?_
  refine z_iload_n b dX12_put_42 rfl rfl ?_
  refine y_iast (q0 := 40) (j := 60) b (mw_40 cy a S) (by decide) dX12_put_43 (mwa_40 cy a S 60 p0) ?_
  refine z_aload_n b dX12_put_44 rfl rfl ?_
  refine z_get (q0 := 0) (k9 := 66) (v := .ref (a 41)) b (mw_0 cy a (su S 37 60 p0)) rfl in_X12 (by decide) wf_X12_140 rfl dX12_put_45 ?_
  refine z_iload_n b dX12_put_48 rfl rfl ?_
  refine z_dup2 b dX12_put_49 rfl rfl ?_
  refine y_iald (q0 := 41) (j := 5) (v := (ar (su S 37 60 p0) 38 5)) b (mw_41 cy a (su S 37 60 p0)) (by decide) rfl dX12_put_50 ?_
  refine z_eqi h_a_38_5 ?_
  refine z_iconst (v := 1) b dX12_put_51 (by decide) ?_
  refine z_iadd (v := 1) b dX12_put_52 (by decide) ?_
  refine y_iast (q0 := 41) (j := 5) b (mw_41 cy a (su S 37 60 p0)) (by decide) dX12_put_53 (mwa_41 cy a (su S 37 60 p0) 5 1) ?_
  refine z_aload_n b dX12_put_54 rfl rfl ?_
  refine z_get (q0 := 0) (k9 := 66) (v := .ref (a 41)) b (mw_0 cy a (su (su S 37 60 p0) 38 5 1)) rfl in_X12 (by decide) wf_X12_140 rfl dX12_put_55 ?_
  refine z_iload_n b dX12_put_58 rfl rfl ?_
  refine y_iald (q0 := 41) (j := 5) (v := 1) b (mw_41 cy a (su (su S 37 60 p0) 38 5 1)) (by decide) rfl dX12_put_59 ?_
  exact z_iret (u := (su (su S 37 60 p0) 38 5 1)) b rfl dX12_put_60 ⟨rfl, rfl⟩ rfl (by decide) (by decide)

set_option maxHeartbeats 4000000 in
set_option maxRecDepth 100000 in
theorem c_X11_put_20 {l : Launch} {D : va_G} {cy : Nat → ClassId} {T0 tB tE : Nat} {a : Nat → Nat} {rw : Nat → Option Nat} (S : GS) (p0 : Int32)  (hr_p0 : 768 ≤ p0.toInt ∧ p0.toInt ≤ 2147483647) : Ct l D cy T0 tB tE yX11_put cX11_put 3 (some .int) 1 21 0 0 (cw cy tE a rw S) [.ref (a 0), .int 5, .int p0] (QI D (U := GS) (fun r u => (-1) = r ∧ S = u) (cw cy tE a rw)) := by
  refine Ct.ofZ RX11 "put" [(0, .ref (a 0)), (1, .int 5), (2, .int p0)] rfl rfl rfl rfl (Nat.le_of_ble_eq_true rfl) ?_
  intro p e R s m args below meth c A b
  refine z_iload_n b dX11_put_0 rfl rfl ?_
  refine z_calli b (z_runS (As := [.int 5]) (st := []) b (c_X11_isRow_8 S ) cf_X11_isRow wm_X11_169 ws_X11_isRow dX11_put_1 rfl (Nat.le_of_ble_eq_true rfl) ⟨by decide, by decide, by decide, by decide⟩) (fun r4047 u4048 h4046 => ?_)
  obtain ⟨rfl, rfl⟩ := h4046
  refine z_if_eq_f (tgt := 17) b dX11_put_4 (by decide) (by decide) ?_
  refine z_iload_n b dX11_put_7 rfl rfl ?_
  refine z_sipush (v := 767) b dX11_put_8 (by decide) ?_
  refine z_calli b (z_runS (As := [.int p0, .int 767]) (st := []) b (c_X11_isWithin_22 S p0 ⟨by omega, by omega⟩) cf_X11_isWithin wm_X11_73 ws_X11_isWithin dX11_put_11 rfl (Nat.le_of_ble_eq_true rfl) ⟨by decide, by decide, by decide, by decide⟩) (fun r4050 u4051 h4049 => ?_)
  obtain ⟨rfl, rfl⟩ := h4049
  refine z_if_ne_f (tgt := 19) b dX11_put_14 (by decide) (by decide) ?_
  refine z_iconst (v := (-1)) b dX11_put_17 (by decide) ?_
  exact z_iret (u := S) b rfl dX11_put_18 ⟨rfl, rfl⟩ rfl (by decide) (by decide)

set_option maxHeartbeats 4000000 in
set_option maxRecDepth 100000 in
theorem c_X12_put_20 {l : Launch} {D : va_G} {cy : Nat → ClassId} {T0 tB tE : Nat} {a : Nat → Nat} (S : GS) (p0 : Int32)  (hr_p0 : 768 ≤ p0.toInt ∧ p0.toInt ≤ 2147483647) : Ct l D cy T0 tB tE yX12_put cX12_put 3 (some .int) 2 42 0 0 (mw cy a S) [.ref (a 0), .int 5, .int p0] (QI D (U := GS) (fun r u => (-1) = r ∧ S = u) (mw cy a)) := by
  refine Ct.ofZ RX12 "put" [(0, .ref (a 0)), (1, .int 5), (2, .int p0)] rfl rfl rfl rfl (Nat.le_of_ble_eq_true rfl) ?_
  intro p e R s m args below meth c A b
  refine z_iload_n b dX12_put_0 rfl rfl ?_
  refine z_calli b (z_runS (As := [.int 5]) (st := []) b (c_X12_isRow_8 S ) cf_X12_isRow wm_X12_452 ws_X12_isRow dX12_put_1 rfl (Nat.le_of_ble_eq_true rfl) ⟨by decide, by decide, by decide, by decide⟩) (fun r4053 u4054 h4052 => ?_)
  obtain ⟨rfl, rfl⟩ := h4052
  refine z_if_eq_f (tgt := 25) b dX12_put_4 (by decide) (by decide) ?_
  refine z_iload_n b dX12_put_7 rfl rfl ?_
  refine z_calli b (z_runS (As := [.int p0]) (st := []) b (c_X12_isNumber_3 S p0 ⟨by omega, by omega⟩) cf_X12_isNumber wm_X12_455 ws_X12_isNumber dX12_put_8 rfl (Nat.le_of_ble_eq_true rfl) ⟨by decide, by decide, by decide, by decide⟩) (fun r4056 u4057 h4055 => ?_)
  obtain ⟨rfl, rfl⟩ := h4055
  refine z_if_eq_t (tgt := 25) b dX12_put_11 (by decide) (by decide) ?_
  refine z_iconst (v := (-1)) b dX12_put_25 (by decide) ?_
  exact z_iret (u := S) b rfl dX12_put_26 ⟨rfl, rfl⟩ rfl (by decide) (by decide)

set_option maxHeartbeats 4000000 in
set_option maxRecDepth 100000 in
theorem c_X11_clear {l : Launch} {D : va_G} {cy : Nat → ClassId} {T0 tB tE : Nat} {a : Nat → Nat} {rw : Nat → Option Nat} (S : GS) (p0 : Int32)  (hr_p0 : (-2147483648) ≤ p0.toInt ∧ p0.toInt ≤ (-1)) : Ct l D cy T0 tB tE yX11_clear cX11_clear 2 (some .boolean) 1 20 0 0 (cw cy tE a rw S) [.ref (a 0), .int p0] (QI D (U := GS) (fun r u => 0 = r ∧ S = u) (cw cy tE a rw)) := by
  refine Ct.ofZ RX11 "clear" [(0, .ref (a 0)), (1, .int p0)] rfl rfl rfl rfl (Nat.le_of_ble_eq_true rfl) ?_
  intro p e R s m args below meth c A b
  refine z_iload_n b dX11_clear_0 rfl rfl ?_
  refine z_calli b (z_runS (As := [.int p0]) (st := []) b (c_X11_isRow S p0 ⟨by omega, by omega⟩) cf_X11_isRow wm_X11_169 ws_X11_isRow dX11_clear_1 rfl (Nat.le_of_ble_eq_true rfl) ⟨by decide, by decide, by decide, by decide⟩) (fun r4059 u4060 h4058 => ?_)
  obtain ⟨rfl, rfl⟩ := h4058
  refine z_if_ne_f (tgt := 9) b dX11_clear_4 (by decide) (by decide) ?_
  refine z_iconst (v := 0) b dX11_clear_7 (by decide) ?_
  exact z_zret (u := S) b rfl (by decide) dX11_clear_8 ⟨rfl, rfl⟩ rfl (by decide) (by decide)

set_option maxHeartbeats 4000000 in
set_option maxRecDepth 100000 in
theorem c_X12_clear {l : Launch} {D : va_G} {cy : Nat → ClassId} {T0 tB tE : Nat} {a : Nat → Nat} (S : GS) (p0 : Int32)  (hr_p0 : (-2147483648) ≤ p0.toInt ∧ p0.toInt ≤ (-1)) : Ct l D cy T0 tB tE yX12_clear cX12_clear 2 (some .boolean) 2 42 0 0 (mw cy a S) [.ref (a 0), .int p0] (QI D (U := GS) (fun r u => 0 = r ∧ S = u) (mw cy a)) := by
  refine Ct.ofZ RX12 "clear" [(0, .ref (a 0)), (1, .int p0)] rfl rfl rfl rfl (Nat.le_of_ble_eq_true rfl) ?_
  intro p e R s m args below meth c A b
  refine z_iload_n b dX12_clear_0 rfl rfl ?_
  refine z_calli b (z_runS (As := [.int p0]) (st := []) b (c_X12_isRow S p0 ⟨by omega, by omega⟩) cf_X12_isRow wm_X12_452 ws_X12_isRow dX12_clear_1 rfl (Nat.le_of_ble_eq_true rfl) ⟨by decide, by decide, by decide, by decide⟩) (fun r4062 u4063 h4061 => ?_)
  obtain ⟨rfl, rfl⟩ := h4061
  refine z_if_ne_f (tgt := 9) b dX12_clear_4 (by decide) (by decide) ?_
  refine z_iconst (v := 0) b dX12_clear_7 (by decide) ?_
  exact z_zret (u := S) b rfl (by decide) dX12_clear_8 ⟨rfl, rfl⟩ rfl (by decide) (by decide)

set_option maxHeartbeats 4000000 in
set_option maxRecDepth 100000 in
theorem c_X11_clear_2 {l : Launch} {D : va_G} {cy : Nat → ClassId} {T0 tB tE : Nat} {a : Nat → Nat} {rw : Nat → Option Nat} (S : GS) (p0 : Int32)  (hr_p0 : 6 ≤ p0.toInt ∧ p0.toInt ≤ 2147483647) : Ct l D cy T0 tB tE yX11_clear cX11_clear 2 (some .boolean) 1 20 0 0 (cw cy tE a rw S) [.ref (a 0), .int p0] (QI D (U := GS) (fun r u => 0 = r ∧ S = u) (cw cy tE a rw)) := by
  refine Ct.ofZ RX11 "clear" [(0, .ref (a 0)), (1, .int p0)] rfl rfl rfl rfl (Nat.le_of_ble_eq_true rfl) ?_
  intro p e R s m args below meth c A b
  refine z_iload_n b dX11_clear_0 rfl rfl ?_
  refine z_calli b (z_runS (As := [.int p0]) (st := []) b (c_X11_isRow_2 S p0 ⟨by omega, by omega⟩) cf_X11_isRow wm_X11_169 ws_X11_isRow dX11_clear_1 rfl (Nat.le_of_ble_eq_true rfl) ⟨by decide, by decide, by decide, by decide⟩) (fun r4065 u4066 h4064 => ?_)
  obtain ⟨rfl, rfl⟩ := h4064
  refine z_if_ne_f (tgt := 9) b dX11_clear_4 (by decide) (by decide) ?_
  refine z_iconst (v := 0) b dX11_clear_7 (by decide) ?_
  exact z_zret (u := S) b rfl (by decide) dX11_clear_8 ⟨rfl, rfl⟩ rfl (by decide) (by decide)

set_option maxHeartbeats 4000000 in
set_option maxRecDepth 100000 in
theorem c_X12_clear_2 {l : Launch} {D : va_G} {cy : Nat → ClassId} {T0 tB tE : Nat} {a : Nat → Nat} (S : GS) (p0 : Int32)  (hr_p0 : 6 ≤ p0.toInt ∧ p0.toInt ≤ 2147483647) : Ct l D cy T0 tB tE yX12_clear cX12_clear 2 (some .boolean) 2 42 0 0 (mw cy a S) [.ref (a 0), .int p0] (QI D (U := GS) (fun r u => 0 = r ∧ S = u) (mw cy a)) := by
  refine Ct.ofZ RX12 "clear" [(0, .ref (a 0)), (1, .int p0)] rfl rfl rfl rfl (Nat.le_of_ble_eq_true rfl) ?_
  intro p e R s m args below meth c A b
  refine z_iload_n b dX12_clear_0 rfl rfl ?_
  refine z_calli b (z_runS (As := [.int p0]) (st := []) b (c_X12_isRow_2 S p0 ⟨by omega, by omega⟩) cf_X12_isRow wm_X12_452 ws_X12_isRow dX12_clear_1 rfl (Nat.le_of_ble_eq_true rfl) ⟨by decide, by decide, by decide, by decide⟩) (fun r4068 u4069 h4067 => ?_)
  obtain ⟨rfl, rfl⟩ := h4067
  refine z_if_ne_f (tgt := 9) b dX12_clear_4 (by decide) (by decide) ?_
  refine z_iconst (v := 0) b dX12_clear_7 (by decide) ?_
  exact z_zret (u := S) b rfl (by decide) dX12_clear_8 ⟨rfl, rfl⟩ rfl (by decide) (by decide)

set_option maxHeartbeats 4000000 in
set_option maxRecDepth 100000 in
theorem c_X11_clear_3 {l : Launch} {D : va_G} {cy : Nat → ClassId} {T0 tB tE : Nat} {a : Nat → Nat} {rw : Nat → Option Nat} (S : GS)  (h_i_27 : fi S 27 = 0) (h_i_28 : fi S 28 = 0) (hrw : ∀ i, i < 6 → rw i = some (a (36 + 2 * i))) : Ct l D cy T0 tB tE yX11_clear cX11_clear 2 (some .boolean) 1 20 0 0 (cw cy tE a rw S) [.ref (a 0), .int 0] (QI D (U := GS) (fun r u => 1 = r ∧ S = u) (cw cy tE a rw)) := by
  refine Ct.ofZ RX11 "clear" [(0, .ref (a 0)), (1, .int 0)] rfl rfl rfl rfl (Nat.le_of_ble_eq_true rfl) ?_
  intro p e R s m args below meth c A b
  refine z_iload_n b dX11_clear_0 rfl rfl ?_
  refine z_calli b (z_runS (As := [.int 0]) (st := []) b (c_X11_isRow_3 S ) cf_X11_isRow wm_X11_169 ws_X11_isRow dX11_clear_1 rfl (Nat.le_of_ble_eq_true rfl) ⟨by decide, by decide, by decide, by decide⟩) (fun r4071 u4072 h4070 => ?_)
  obtain ⟨rfl, rfl⟩ := h4070
  refine z_if_ne_t (tgt := 9) b dX11_clear_4 (by decide) (by decide) ?_
  refine z_aload_n b dX11_clear_9 rfl rfl ?_
  refine z_get (q0 := 0) (k9 := 7) (v := .ref (a 35)) b (cw_0 cy tE a rw S) rfl in_X11 (by decide) wf_X11_58 rfl dX11_clear_10 ?_
  refine z_iload_n b dX11_clear_13 rfl rfl ?_
  refine y_aald (q0 := 35) (t0 := 4) (j := 0) (v := .ref (a 36)) b (cw_35 cy tE a rw S) rfl (by decide) (by rw [hrw 0 (by decide)]; rfl) dX11_clear_14 ?_
  refine z_iconst (v := 0) b dX11_clear_15 (by decide) ?_
  refine z_put (q0 := 36) (k9 := 1) tyX7 b (cw_36 cy tE a rw S) rfl in_X7 tyX7_ok nmX7 (by decide) wf_X11_175 rfl rfl rfl rfl (Nat.le_of_ble_eq_true rfl) dX11_clear_16 ((cwp_36_1 cy tE a rw S 0).trans (congrArg (cw cy tE a rw) (si_same h_i_27))) ?_
  refine z_aload_n b dX11_clear_19 rfl rfl ?_
  refine z_get (q0 := 0) (k9 := 7) (v := .ref (a 35)) b (cw_0 cy tE a rw S) rfl in_X11 (by decide) wf_X11_58 rfl dX11_clear_20 ?_
  refine z_iload_n b dX11_clear_23 rfl rfl ?_
  refine y_aald (q0 := 35) (t0 := 4) (j := 0) (v := .ref (a 36)) b (cw_35 cy tE a rw S) rfl (by decide) (by rw [hrw 0 (by decide)]; rfl) dX11_clear_24 ?_
  refine z_iconst (v := 0) b dX11_clear_25 (by decide) ?_
  refine z_put (q0 := 36) (k9 := 2) tyX7 b (cw_36 cy tE a rw S) rfl in_X7 tyX7_ok nmX7 (by decide) wf_X11_178 rfl rfl rfl rfl (Nat.le_of_ble_eq_true rfl) dX11_clear_26 ((cwp_36_2 cy tE a rw S 0).trans (congrArg (cw cy tE a rw) (si_same h_i_28))) ?_
  refine z_iconst (v := 1) b dX11_clear_29 (by decide) ?_
  exact z_zret (u := S) b rfl (by decide) dX11_clear_30 ⟨rfl, rfl⟩ rfl (by decide) (by decide)

set_option maxHeartbeats 4000000 in
set_option maxRecDepth 100000 in
theorem c_X12_clear_3 {l : Launch} {D : va_G} {cy : Nat → ClassId} {T0 tB tE : Nat} {a : Nat → Nat} (S : GS)  (h_a_38_0 : ar S 38 0 = 0) (h_a_39_0 : ar S 39 0 = 0) : Ct l D cy T0 tB tE yX12_clear cX12_clear 2 (some .boolean) 2 42 0 0 (mw cy a S) [.ref (a 0), .int 0] (QI D (U := GS) (fun r u => 1 = r ∧ S = u) (mw cy a)) := by
  refine Ct.ofZ RX12 "clear" [(0, .ref (a 0)), (1, .int 0)] rfl rfl rfl rfl (Nat.le_of_ble_eq_true rfl) ?_
  intro p e R s m args below meth c A b
  refine z_iload_n b dX12_clear_0 rfl rfl ?_
  refine z_calli b (z_runS (As := [.int 0]) (st := []) b (c_X12_isRow_3 S ) cf_X12_isRow wm_X12_452 ws_X12_isRow dX12_clear_1 rfl (Nat.le_of_ble_eq_true rfl) ⟨by decide, by decide, by decide, by decide⟩) (fun r4074 u4075 h4073 => ?_)
  obtain ⟨rfl, rfl⟩ := h4073
  refine z_if_ne_t (tgt := 9) b dX12_clear_4 (by decide) (by decide) ?_
  refine z_aload_n b dX12_clear_9 rfl rfl ?_
  refine z_get (q0 := 0) (k9 := 66) (v := .ref (a 41)) b (mw_0 cy a S) rfl in_X12 (by decide) wf_X12_140 rfl dX12_clear_10 ?_
  refine z_iload_n b dX12_clear_13 rfl rfl ?_
  refine z_iconst (v := 0) b dX12_clear_14 (by decide) ?_
  refine y_iast (q0 := 41) (j := 0) b (mw_41 cy a S) (by decide) dX12_clear_15 ((mwa_41 cy a S 0 0).trans (congrArg (mw cy a) (su_same h_a_38_0))) ?_
  refine z_aload_n b dX12_clear_16 rfl rfl ?_
  refine z_get (q0 := 0) (k9 := 67) (v := .ref (a 42)) b (mw_0 cy a S) rfl in_X12 (by decide) wf_X12_143 rfl dX12_clear_17 ?_
  refine z_iload_n b dX12_clear_20 rfl rfl ?_
  refine z_iconst (v := 0) b dX12_clear_21 (by decide) ?_
  refine y_zast (q0 := 42) (j := 0) b (mw_42 cy a S) (by decide) (by decide) dX12_clear_22 ((mwa_42 cy a S 0 0).trans (congrArg (mw cy a) (su_same h_a_39_0))) ?_
  refine z_iconst (v := 1) b dX12_clear_23 (by decide) ?_
  exact z_zret (u := S) b rfl (by decide) dX12_clear_24 ⟨rfl, rfl⟩ rfl (by decide) (by decide)

set_option maxHeartbeats 4000000 in
set_option maxRecDepth 100000 in
theorem c_X11_clear_4 {l : Launch} {D : va_G} {cy : Nat → ClassId} {T0 tB tE : Nat} {a : Nat → Nat} {rw : Nat → Option Nat} (S : GS)  (h_i_29 : fi S 29 = 0) (h_i_30 : fi S 30 = 0) (hrw : ∀ i, i < 6 → rw i = some (a (36 + 2 * i))) : Ct l D cy T0 tB tE yX11_clear cX11_clear 2 (some .boolean) 1 20 0 0 (cw cy tE a rw S) [.ref (a 0), .int 1] (QI D (U := GS) (fun r u => 1 = r ∧ S = u) (cw cy tE a rw)) := by
  refine Ct.ofZ RX11 "clear" [(0, .ref (a 0)), (1, .int 1)] rfl rfl rfl rfl (Nat.le_of_ble_eq_true rfl) ?_
  intro p e R s m args below meth c A b
  refine z_iload_n b dX11_clear_0 rfl rfl ?_
  refine z_calli b (z_runS (As := [.int 1]) (st := []) b (c_X11_isRow_4 S ) cf_X11_isRow wm_X11_169 ws_X11_isRow dX11_clear_1 rfl (Nat.le_of_ble_eq_true rfl) ⟨by decide, by decide, by decide, by decide⟩) (fun r4077 u4078 h4076 => ?_)
  obtain ⟨rfl, rfl⟩ := h4076
  refine z_if_ne_t (tgt := 9) b dX11_clear_4 (by decide) (by decide) ?_
  refine z_aload_n b dX11_clear_9 rfl rfl ?_
  refine z_get (q0 := 0) (k9 := 7) (v := .ref (a 35)) b (cw_0 cy tE a rw S) rfl in_X11 (by decide) wf_X11_58 rfl dX11_clear_10 ?_
  refine z_iload_n b dX11_clear_13 rfl rfl ?_
  refine y_aald (q0 := 35) (t0 := 4) (j := 1) (v := .ref (a 38)) b (cw_35 cy tE a rw S) rfl (by decide) (by rw [hrw 1 (by decide)]; rfl) dX11_clear_14 ?_
  refine z_iconst (v := 0) b dX11_clear_15 (by decide) ?_
  refine z_put (q0 := 38) (k9 := 1) tyX7 b (cw_38 cy tE a rw S) rfl in_X7 tyX7_ok nmX7 (by decide) wf_X11_175 rfl rfl rfl rfl (Nat.le_of_ble_eq_true rfl) dX11_clear_16 ((cwp_38_1 cy tE a rw S 0).trans (congrArg (cw cy tE a rw) (si_same h_i_29))) ?_
  refine z_aload_n b dX11_clear_19 rfl rfl ?_
  refine z_get (q0 := 0) (k9 := 7) (v := .ref (a 35)) b (cw_0 cy tE a rw S) rfl in_X11 (by decide) wf_X11_58 rfl dX11_clear_20 ?_
  refine z_iload_n b dX11_clear_23 rfl rfl ?_
  refine y_aald (q0 := 35) (t0 := 4) (j := 1) (v := .ref (a 38)) b (cw_35 cy tE a rw S) rfl (by decide) (by rw [hrw 1 (by decide)]; rfl) dX11_clear_24 ?_
  refine z_iconst (v := 0) b dX11_clear_25 (by decide) ?_
  refine z_put (q0 := 38) (k9 := 2) tyX7 b (cw_38 cy tE a rw S) rfl in_X7 tyX7_ok nmX7 (by decide) wf_X11_178 rfl rfl rfl rfl (Nat.le_of_ble_eq_true rfl) dX11_clear_26 ((cwp_38_2 cy tE a rw S 0).trans (congrArg (cw cy tE a rw) (si_same h_i_30))) ?_
  refine z_iconst (v := 1) b dX11_clear_29 (by decide) ?_
  exact z_zret (u := S) b rfl (by decide) dX11_clear_30 ⟨rfl, rfl⟩ rfl (by decide) (by decide)

set_option maxHeartbeats 4000000 in
set_option maxRecDepth 100000 in
theorem c_X12_clear_4 {l : Launch} {D : va_G} {cy : Nat → ClassId} {T0 tB tE : Nat} {a : Nat → Nat} (S : GS)  (h_a_38_1 : ar S 38 1 = 0) (h_a_39_1 : ar S 39 1 = 0) : Ct l D cy T0 tB tE yX12_clear cX12_clear 2 (some .boolean) 2 42 0 0 (mw cy a S) [.ref (a 0), .int 1] (QI D (U := GS) (fun r u => 1 = r ∧ S = u) (mw cy a)) := by
  refine Ct.ofZ RX12 "clear" [(0, .ref (a 0)), (1, .int 1)] rfl rfl rfl rfl (Nat.le_of_ble_eq_true rfl) ?_
  intro p e R s m args below meth c A b
  refine z_iload_n b dX12_clear_0 rfl rfl ?_
  refine z_calli b (z_runS (As := [.int 1]) (st := []) b (c_X12_isRow_4 S ) cf_X12_isRow wm_X12_452 ws_X12_isRow dX12_clear_1 rfl (Nat.le_of_ble_eq_true rfl) ⟨by decide, by decide, by decide, by decide⟩) (fun r4080 u4081 h4079 => ?_)
  obtain ⟨rfl, rfl⟩ := h4079
  refine z_if_ne_t (tgt := 9) b dX12_clear_4 (by decide) (by decide) ?_
  refine z_aload_n b dX12_clear_9 rfl rfl ?_
  refine z_get (q0 := 0) (k9 := 66) (v := .ref (a 41)) b (mw_0 cy a S) rfl in_X12 (by decide) wf_X12_140 rfl dX12_clear_10 ?_
  refine z_iload_n b dX12_clear_13 rfl rfl ?_
  refine z_iconst (v := 0) b dX12_clear_14 (by decide) ?_
  refine y_iast (q0 := 41) (j := 1) b (mw_41 cy a S) (by decide) dX12_clear_15 ((mwa_41 cy a S 1 0).trans (congrArg (mw cy a) (su_same h_a_38_1))) ?_
  refine z_aload_n b dX12_clear_16 rfl rfl ?_
  refine z_get (q0 := 0) (k9 := 67) (v := .ref (a 42)) b (mw_0 cy a S) rfl in_X12 (by decide) wf_X12_143 rfl dX12_clear_17 ?_
  refine z_iload_n b dX12_clear_20 rfl rfl ?_
  refine z_iconst (v := 0) b dX12_clear_21 (by decide) ?_
  refine y_zast (q0 := 42) (j := 1) b (mw_42 cy a S) (by decide) (by decide) dX12_clear_22 ((mwa_42 cy a S 1 0).trans (congrArg (mw cy a) (su_same h_a_39_1))) ?_
  refine z_iconst (v := 1) b dX12_clear_23 (by decide) ?_
  exact z_zret (u := S) b rfl (by decide) dX12_clear_24 ⟨rfl, rfl⟩ rfl (by decide) (by decide)

set_option maxHeartbeats 4000000 in
set_option maxRecDepth 100000 in
theorem c_X11_clear_5 {l : Launch} {D : va_G} {cy : Nat → ClassId} {T0 tB tE : Nat} {a : Nat → Nat} {rw : Nat → Option Nat} (S : GS)  (h_i_31 : fi S 31 = 0) (h_i_32 : fi S 32 = 0) (hrw : ∀ i, i < 6 → rw i = some (a (36 + 2 * i))) : Ct l D cy T0 tB tE yX11_clear cX11_clear 2 (some .boolean) 1 20 0 0 (cw cy tE a rw S) [.ref (a 0), .int 2] (QI D (U := GS) (fun r u => 1 = r ∧ S = u) (cw cy tE a rw)) := by
  refine Ct.ofZ RX11 "clear" [(0, .ref (a 0)), (1, .int 2)] rfl rfl rfl rfl (Nat.le_of_ble_eq_true rfl) ?_
  intro p e R s m args below meth c A b
  refine z_iload_n b dX11_clear_0 rfl rfl ?_
  refine z_calli b (z_runS (As := [.int 2]) (st := []) b (c_X11_isRow_5 S ) cf_X11_isRow wm_X11_169 ws_X11_isRow dX11_clear_1 rfl (Nat.le_of_ble_eq_true rfl) ⟨by decide, by decide, by decide, by decide⟩) (fun r4083 u4084 h4082 => ?_)
  obtain ⟨rfl, rfl⟩ := h4082
  refine z_if_ne_t (tgt := 9) b dX11_clear_4 (by decide) (by decide) ?_
  refine z_aload_n b dX11_clear_9 rfl rfl ?_
  refine z_get (q0 := 0) (k9 := 7) (v := .ref (a 35)) b (cw_0 cy tE a rw S) rfl in_X11 (by decide) wf_X11_58 rfl dX11_clear_10 ?_
  refine z_iload_n b dX11_clear_13 rfl rfl ?_
  refine y_aald (q0 := 35) (t0 := 4) (j := 2) (v := .ref (a 40)) b (cw_35 cy tE a rw S) rfl (by decide) (by rw [hrw 2 (by decide)]; rfl) dX11_clear_14 ?_
  refine z_iconst (v := 0) b dX11_clear_15 (by decide) ?_
  refine z_put (q0 := 40) (k9 := 1) tyX7 b (cw_40 cy tE a rw S) rfl in_X7 tyX7_ok nmX7 (by decide) wf_X11_175 rfl rfl rfl rfl (Nat.le_of_ble_eq_true rfl) dX11_clear_16 ((cwp_40_1 cy tE a rw S 0).trans (congrArg (cw cy tE a rw) (si_same h_i_31))) ?_
  refine z_aload_n b dX11_clear_19 rfl rfl ?_
  refine z_get (q0 := 0) (k9 := 7) (v := .ref (a 35)) b (cw_0 cy tE a rw S) rfl in_X11 (by decide) wf_X11_58 rfl dX11_clear_20 ?_
  refine z_iload_n b dX11_clear_23 rfl rfl ?_
  refine y_aald (q0 := 35) (t0 := 4) (j := 2) (v := .ref (a 40)) b (cw_35 cy tE a rw S) rfl (by decide) (by rw [hrw 2 (by decide)]; rfl) dX11_clear_24 ?_
  refine z_iconst (v := 0) b dX11_clear_25 (by decide) ?_
  refine z_put (q0 := 40) (k9 := 2) tyX7 b (cw_40 cy tE a rw S) rfl in_X7 tyX7_ok nmX7 (by decide) wf_X11_178 rfl rfl rfl rfl (Nat.le_of_ble_eq_true rfl) dX11_clear_26 ((cwp_40_2 cy tE a rw S 0).trans (congrArg (cw cy tE a rw) (si_same h_i_32))) ?_
  refine z_iconst (v := 1) b dX11_clear_29 (by decide) ?_
  exact z_zret (u := S) b rfl (by decide) dX11_clear_30 ⟨rfl, rfl⟩ rfl (by decide) (by decide)

set_option maxHeartbeats 4000000 in
set_option maxRecDepth 100000 in
theorem c_X12_clear_5 {l : Launch} {D : va_G} {cy : Nat → ClassId} {T0 tB tE : Nat} {a : Nat → Nat} (S : GS)  (h_a_38_2 : ar S 38 2 = 0) (h_a_39_2 : ar S 39 2 = 0) : Ct l D cy T0 tB tE yX12_clear cX12_clear 2 (some .boolean) 2 42 0 0 (mw cy a S) [.ref (a 0), .int 2] (QI D (U := GS) (fun r u => 1 = r ∧ S = u) (mw cy a)) := by
  refine Ct.ofZ RX12 "clear" [(0, .ref (a 0)), (1, .int 2)] rfl rfl rfl rfl (Nat.le_of_ble_eq_true rfl) ?_
  intro p e R s m args below meth c A b
  refine z_iload_n b dX12_clear_0 rfl rfl ?_
  refine z_calli b (z_runS (As := [.int 2]) (st := []) b (c_X12_isRow_5 S ) cf_X12_isRow wm_X12_452 ws_X12_isRow dX12_clear_1 rfl (Nat.le_of_ble_eq_true rfl) ⟨by decide, by decide, by decide, by decide⟩) (fun r4086 u4087 h4085 => ?_)
  obtain ⟨rfl, rfl⟩ := h4085
  refine z_if_ne_t (tgt := 9) b dX12_clear_4 (by decide) (by decide) ?_
  refine z_aload_n b dX12_clear_9 rfl rfl ?_
  refine z_get (q0 := 0) (k9 := 66) (v := .ref (a 41)) b (mw_0 cy a S) rfl in_X12 (by decide) wf_X12_140 rfl dX12_clear_10 ?_
  refine z_iload_n b dX12_clear_13 rfl rfl ?_
  refine z_iconst (v := 0) b dX12_clear_14 (by decide) ?_
  refine y_iast (q0 := 41) (j := 2) b (mw_41 cy a S) (by decide) dX12_clear_15 ((mwa_41 cy a S 2 0).trans (congrArg (mw cy a) (su_same h_a_38_2))) ?_
  refine z_aload_n b dX12_clear_16 rfl rfl ?_
  refine z_get (q0 := 0) (k9 := 67) (v := .ref (a 42)) b (mw_0 cy a S) rfl in_X12 (by decide) wf_X12_143 rfl dX12_clear_17 ?_
  refine z_iload_n b dX12_clear_20 rfl rfl ?_
  refine z_iconst (v := 0) b dX12_clear_21 (by decide) ?_
  refine y_zast (q0 := 42) (j := 2) b (mw_42 cy a S) (by decide) (by decide) dX12_clear_22 ((mwa_42 cy a S 2 0).trans (congrArg (mw cy a) (su_same h_a_39_2))) ?_
  refine z_iconst (v := 1) b dX12_clear_23 (by decide) ?_
  exact z_zret (u := S) b rfl (by decide) dX12_clear_24 ⟨rfl, rfl⟩ rfl (by decide) (by decide)

set_option maxHeartbeats 4000000 in
set_option maxRecDepth 100000 in
theorem c_X11_clear_6 {l : Launch} {D : va_G} {cy : Nat → ClassId} {T0 tB tE : Nat} {a : Nat → Nat} {rw : Nat → Option Nat} (S : GS)  (h_i_33 : fi S 33 = 0) (h_i_34 : fi S 34 = 0) (hrw : ∀ i, i < 6 → rw i = some (a (36 + 2 * i))) : Ct l D cy T0 tB tE yX11_clear cX11_clear 2 (some .boolean) 1 20 0 0 (cw cy tE a rw S) [.ref (a 0), .int 3] (QI D (U := GS) (fun r u => 1 = r ∧ S = u) (cw cy tE a rw)) := by
  refine Ct.ofZ RX11 "clear" [(0, .ref (a 0)), (1, .int 3)] rfl rfl rfl rfl (Nat.le_of_ble_eq_true rfl) ?_
  intro p e R s m args below meth c A b
  refine z_iload_n b dX11_clear_0 rfl rfl ?_
  refine z_calli b (z_runS (As := [.int 3]) (st := []) b (c_X11_isRow_6 S ) cf_X11_isRow wm_X11_169 ws_X11_isRow dX11_clear_1 rfl (Nat.le_of_ble_eq_true rfl) ⟨by decide, by decide, by decide, by decide⟩) (fun r4089 u4090 h4088 => ?_)
  obtain ⟨rfl, rfl⟩ := h4088
  refine z_if_ne_t (tgt := 9) b dX11_clear_4 (by decide) (by decide) ?_
  refine z_aload_n b dX11_clear_9 rfl rfl ?_
  refine z_get (q0 := 0) (k9 := 7) (v := .ref (a 35)) b (cw_0 cy tE a rw S) rfl in_X11 (by decide) wf_X11_58 rfl dX11_clear_10 ?_
  refine z_iload_n b dX11_clear_13 rfl rfl ?_
  refine y_aald (q0 := 35) (t0 := 4) (j := 3) (v := .ref (a 42)) b (cw_35 cy tE a rw S) rfl (by decide) (by rw [hrw 3 (by decide)]; rfl) dX11_clear_14 ?_
  refine z_iconst (v := 0) b dX11_clear_15 (by decide) ?_
  refine z_put (q0 := 42) (k9 := 1) tyX7 b (cw_42 cy tE a rw S) rfl in_X7 tyX7_ok nmX7 (by decide) wf_X11_175 rfl rfl rfl rfl (Nat.le_of_ble_eq_true rfl) dX11_clear_16 ((cwp_42_1 cy tE a rw S 0).trans (congrArg (cw cy tE a rw) (si_same h_i_33))) ?_
  refine z_aload_n b dX11_clear_19 rfl rfl ?_
  refine z_get (q0 := 0) (k9 := 7) (v := .ref (a 35)) b (cw_0 cy tE a rw S) rfl in_X11 (by decide) wf_X11_58 rfl dX11_clear_20 ?_
  refine z_iload_n b dX11_clear_23 rfl rfl ?_
  refine y_aald (q0 := 35) (t0 := 4) (j := 3) (v := .ref (a 42)) b (cw_35 cy tE a rw S) rfl (by decide) (by rw [hrw 3 (by decide)]; rfl) dX11_clear_24 ?_
  refine z_iconst (v := 0) b dX11_clear_25 (by decide) ?_
  refine z_put (q0 := 42) (k9 := 2) tyX7 b (cw_42 cy tE a rw S) rfl in_X7 tyX7_ok nmX7 (by decide) wf_X11_178 rfl rfl rfl rfl (Nat.le_of_ble_eq_true rfl) dX11_clear_26 ((cwp_42_2 cy tE a rw S 0).trans (congrArg (cw cy tE a rw) (si_same h_i_34))) ?_
  refine z_iconst (v := 1) b dX11_clear_29 (by decide) ?_
  exact z_zret (u := S) b rfl (by decide) dX11_clear_30 ⟨rfl, rfl⟩ rfl (by decide) (by decide)

set_option maxHeartbeats 4000000 in
set_option maxRecDepth 100000 in
theorem c_X12_clear_6 {l : Launch} {D : va_G} {cy : Nat → ClassId} {T0 tB tE : Nat} {a : Nat → Nat} (S : GS)  (h_a_38_3 : ar S 38 3 = 0) (h_a_39_3 : ar S 39 3 = 0) : Ct l D cy T0 tB tE yX12_clear cX12_clear 2 (some .boolean) 2 42 0 0 (mw cy a S) [.ref (a 0), .int 3] (QI D (U := GS) (fun r u => 1 = r ∧ S = u) (mw cy a)) := by
  refine Ct.ofZ RX12 "clear" [(0, .ref (a 0)), (1, .int 3)] rfl rfl rfl rfl (Nat.le_of_ble_eq_true rfl) ?_
  intro p e R s m args below meth c A b
  refine z_iload_n b dX12_clear_0 rfl rfl ?_
  refine z_calli b (z_runS (As := [.int 3]) (st := []) b (c_X12_isRow_6 S ) cf_X12_isRow wm_X12_452 ws_X12_isRow dX12_clear_1 rfl (Nat.le_of_ble_eq_true rfl) ⟨by decide, by decide, by decide, by decide⟩) (fun r4092 u4093 h4091 => ?_)
  obtain ⟨rfl, rfl⟩ := h4091
  refine z_if_ne_t (tgt := 9) b dX12_clear_4 (by decide) (by decide) ?_
  refine z_aload_n b dX12_clear_9 rfl rfl ?_
  refine z_get (q0 := 0) (k9 := 66) (v := .ref (a 41)) b (mw_0 cy a S) rfl in_X12 (by decide) wf_X12_140 rfl dX12_clear_10 ?_
  refine z_iload_n b dX12_clear_13 rfl rfl ?_
  refine z_iconst (v := 0) b dX12_clear_14 (by decide) ?_
  refine y_iast (q0 := 41) (j := 3) b (mw_41 cy a S) (by decide) dX12_clear_15 ((mwa_41 cy a S 3 0).trans (congrArg (mw cy a) (su_same h_a_38_3))) ?_
  refine z_aload_n b dX12_clear_16 rfl rfl ?_
  refine z_get (q0 := 0) (k9 := 67) (v := .ref (a 42)) b (mw_0 cy a S) rfl in_X12 (by decide) wf_X12_143 rfl dX12_clear_17 ?_
  refine z_iload_n b dX12_clear_20 rfl rfl ?_
  refine z_iconst (v := 0) b dX12_clear_21 (by decide) ?_
  refine y_zast (q0 := 42) (j := 3) b (mw_42 cy a S) (by decide) (by decide) dX12_clear_22 ((mwa_42 cy a S 3 0).trans (congrArg (mw cy a) (su_same h_a_39_3))) ?_
  refine z_iconst (v := 1) b dX12_clear_23 (by decide) ?_
  exact z_zret (u := S) b rfl (by decide) dX12_clear_24 ⟨rfl, rfl⟩ rfl (by decide) (by decide)

set_option maxHeartbeats 4000000 in
set_option maxRecDepth 100000 in
theorem c_X11_clear_7 {l : Launch} {D : va_G} {cy : Nat → ClassId} {T0 tB tE : Nat} {a : Nat → Nat} {rw : Nat → Option Nat} (S : GS)  (h_i_35 : fi S 35 = 0) (h_i_36 : fi S 36 = 0) (hrw : ∀ i, i < 6 → rw i = some (a (36 + 2 * i))) : Ct l D cy T0 tB tE yX11_clear cX11_clear 2 (some .boolean) 1 20 0 0 (cw cy tE a rw S) [.ref (a 0), .int 4] (QI D (U := GS) (fun r u => 1 = r ∧ S = u) (cw cy tE a rw)) := by
  refine Ct.ofZ RX11 "clear" [(0, .ref (a 0)), (1, .int 4)] rfl rfl rfl rfl (Nat.le_of_ble_eq_true rfl) ?_
  intro p e R s m args below meth c A b
  refine z_iload_n b dX11_clear_0 rfl rfl ?_
  refine z_calli b (z_runS (As := [.int 4]) (st := []) b (c_X11_isRow_7 S ) cf_X11_isRow wm_X11_169 ws_X11_isRow dX11_clear_1 rfl (Nat.le_of_ble_eq_true rfl) ⟨by decide, by decide, by decide, by decide⟩) (fun r4095 u4096 h4094 => ?_)
  obtain ⟨rfl, rfl⟩ := h4094
  refine z_if_ne_t (tgt := 9) b dX11_clear_4 (by decide) (by decide) ?_
  refine z_aload_n b dX11_clear_9 rfl rfl ?_
  refine z_get (q0 := 0) (k9 := 7) (v := .ref (a 35)) b (cw_0 cy tE a rw S) rfl in_X11 (by decide) wf_X11_58 rfl dX11_clear_10 ?_
  refine z_iload_n b dX11_clear_13 rfl rfl ?_
  refine y_aald (q0 := 35) (t0 := 4) (j := 4) (v := .ref (a 44)) b (cw_35 cy tE a rw S) rfl (by decide) (by rw [hrw 4 (by decide)]; rfl) dX11_clear_14 ?_
  refine z_iconst (v := 0) b dX11_clear_15 (by decide) ?_
  refine z_put (q0 := 44) (k9 := 1) tyX7 b (cw_44 cy tE a rw S) rfl in_X7 tyX7_ok nmX7 (by decide) wf_X11_175 rfl rfl rfl rfl (Nat.le_of_ble_eq_true rfl) dX11_clear_16 ((cwp_44_1 cy tE a rw S 0).trans (congrArg (cw cy tE a rw) (si_same h_i_35))) ?_
  refine z_aload_n b dX11_clear_19 rfl rfl ?_
  refine z_get (q0 := 0) (k9 := 7) (v := .ref (a 35)) b (cw_0 cy tE a rw S) rfl in_X11 (by decide) wf_X11_58 rfl dX11_clear_20 ?_
  refine z_iload_n b dX11_clear_23 rfl rfl ?_
  refine y_aald (q0 := 35) (t0 := 4) (j := 4) (v := .ref (a 44)) b (cw_35 cy tE a rw S) rfl (by decide) (by rw [hrw 4 (by decide)]; rfl) dX11_clear_24 ?_
  refine z_iconst (v := 0) b dX11_clear_25 (by decide) ?_
  refine z_put (q0 := 44) (k9 := 2) tyX7 b (cw_44 cy tE a rw S) rfl in_X7 tyX7_ok nmX7 (by decide) wf_X11_178 rfl rfl rfl rfl (Nat.le_of_ble_eq_true rfl) dX11_clear_26 ((cwp_44_2 cy tE a rw S 0).trans (congrArg (cw cy tE a rw) (si_same h_i_36))) ?_
  refine z_iconst (v := 1) b dX11_clear_29 (by decide) ?_
  exact z_zret (u := S) b rfl (by decide) dX11_clear_30 ⟨rfl, rfl⟩ rfl (by decide) (by decide)

set_option maxHeartbeats 4000000 in
set_option maxRecDepth 100000 in
theorem c_X12_clear_7 {l : Launch} {D : va_G} {cy : Nat → ClassId} {T0 tB tE : Nat} {a : Nat → Nat} (S : GS)  (h_a_38_4 : ar S 38 4 = 0) (h_a_39_4 : ar S 39 4 = 0) : Ct l D cy T0 tB tE yX12_clear cX12_clear 2 (some .boolean) 2 42 0 0 (mw cy a S) [.ref (a 0), .int 4] (QI D (U := GS) (fun r u => 1 = r ∧ S = u) (mw cy a)) := by
  refine Ct.ofZ RX12 "clear" [(0, .ref (a 0)), (1, .int 4)] rfl rfl rfl rfl (Nat.le_of_ble_eq_true rfl) ?_
  intro p e R s m args below meth c A b
  refine z_iload_n b dX12_clear_0 rfl rfl ?_
  refine z_calli b (z_runS (As := [.int 4]) (st := []) b (c_X12_isRow_7 S ) cf_X12_isRow wm_X12_452 ws_X12_isRow dX12_clear_1 rfl (Nat.le_of_ble_eq_true rfl) ⟨by decide, by decide, by decide, by decide⟩) (fun r4098 u4099 h4097 => ?_)
  obtain ⟨rfl, rfl⟩ := h4097
  refine z_if_ne_t (tgt := 9) b dX12_clear_4 (by decide) (by decide) ?_
  refine z_aload_n b dX12_clear_9 rfl rfl ?_
  refine z_get (q0 := 0) (k9 := 66) (v := .ref (a 41)) b (mw_0 cy a S) rfl in_X12 (by decide) wf_X12_140 rfl dX12_clear_10 ?_
  refine z_iload_n b dX12_clear_13 rfl rfl ?_
  refine z_iconst (v := 0) b dX12_clear_14 (by decide) ?_
  refine y_iast (q0 := 41) (j := 4) b (mw_41 cy a S) (by decide) dX12_clear_15 ((mwa_41 cy a S 4 0).trans (congrArg (mw cy a) (su_same h_a_38_4))) ?_
  refine z_aload_n b dX12_clear_16 rfl rfl ?_
  refine z_get (q0 := 0) (k9 := 67) (v := .ref (a 42)) b (mw_0 cy a S) rfl in_X12 (by decide) wf_X12_143 rfl dX12_clear_17 ?_
  refine z_iload_n b dX12_clear_20 rfl rfl ?_
  refine z_iconst (v := 0) b dX12_clear_21 (by decide) ?_
  refine y_zast (q0 := 42) (j := 4) b (mw_42 cy a S) (by decide) (by decide) dX12_clear_22 ((mwa_42 cy a S 4 0).trans (congrArg (mw cy a) (su_same h_a_39_4))) ?_
  refine z_iconst (v := 1) b dX12_clear_23 (by decide) ?_
  exact z_zret (u := S) b rfl (by decide) dX12_clear_24 ⟨rfl, rfl⟩ rfl (by decide) (by decide)

set_option maxHeartbeats 4000000 in
set_option maxRecDepth 100000 in
theorem c_X11_clear_8 {l : Launch} {D : va_G} {cy : Nat → ClassId} {T0 tB tE : Nat} {a : Nat → Nat} {rw : Nat → Option Nat} (S : GS)  (h_i_37 : fi S 37 = 0) (h_i_38 : fi S 38 = 0) (hrw : ∀ i, i < 6 → rw i = some (a (36 + 2 * i))) : Ct l D cy T0 tB tE yX11_clear cX11_clear 2 (some .boolean) 1 20 0 0 (cw cy tE a rw S) [.ref (a 0), .int 5] (QI D (U := GS) (fun r u => 1 = r ∧ S = u) (cw cy tE a rw)) := by
  refine Ct.ofZ RX11 "clear" [(0, .ref (a 0)), (1, .int 5)] rfl rfl rfl rfl (Nat.le_of_ble_eq_true rfl) ?_
  intro p e R s m args below meth c A b
  refine z_iload_n b dX11_clear_0 rfl rfl ?_
  refine z_calli b (z_runS (As := [.int 5]) (st := []) b (c_X11_isRow_8 S ) cf_X11_isRow wm_X11_169 ws_X11_isRow dX11_clear_1 rfl (Nat.le_of_ble_eq_true rfl) ⟨by decide, by decide, by decide, by decide⟩) (fun r4101 u4102 h4100 => ?_)
  obtain ⟨rfl, rfl⟩ := h4100
  refine z_if_ne_t (tgt := 9) b dX11_clear_4 (by decide) (by decide) ?_
  refine z_aload_n b dX11_clear_9 rfl rfl ?_
  refine z_get (q0 := 0) (k9 := 7) (v := .ref (a 35)) b (cw_0 cy tE a rw S) rfl in_X11 (by decide) wf_X11_58 rfl dX11_clear_10 ?_
  refine z_iload_n b dX11_clear_13 rfl rfl ?_
  refine y_aald (q0 := 35) (t0 := 4) (j := 5) (v := .ref (a 46)) b (cw_35 cy tE a rw S) rfl (by decide) (by rw [hrw 5 (by decide)]; rfl) dX11_clear_14 ?_
  refine z_iconst (v := 0) b dX11_clear_15 (by decide) ?_
  refine z_put (q0 := 46) (k9 := 1) tyX7 b (cw_46 cy tE a rw S) rfl in_X7 tyX7_ok nmX7 (by decide) wf_X11_175 rfl rfl rfl rfl (Nat.le_of_ble_eq_true rfl) dX11_clear_16 ((cwp_46_1 cy tE a rw S 0).trans (congrArg (cw cy tE a rw) (si_same h_i_37))) ?_
  refine z_aload_n b dX11_clear_19 rfl rfl ?_
  refine z_get (q0 := 0) (k9 := 7) (v := .ref (a 35)) b (cw_0 cy tE a rw S) rfl in_X11 (by decide) wf_X11_58 rfl dX11_clear_20 ?_
  refine z_iload_n b dX11_clear_23 rfl rfl ?_
  refine y_aald (q0 := 35) (t0 := 4) (j := 5) (v := .ref (a 46)) b (cw_35 cy tE a rw S) rfl (by decide) (by rw [hrw 5 (by decide)]; rfl) dX11_clear_24 ?_
  refine z_iconst (v := 0) b dX11_clear_25 (by decide) ?_
  refine z_put (q0 := 46) (k9 := 2) tyX7 b (cw_46 cy tE a rw S) rfl in_X7 tyX7_ok nmX7 (by decide) wf_X11_178 rfl rfl rfl rfl (Nat.le_of_ble_eq_true rfl) dX11_clear_26 ((cwp_46_2 cy tE a rw S 0).trans (congrArg (cw cy tE a rw) (si_same h_i_38))) ?_
  refine z_iconst (v := 1) b dX11_clear_29 (by decide) ?_
  exact z_zret (u := S) b rfl (by decide) dX11_clear_30 ⟨rfl, rfl⟩ rfl (by decide) (by decide)

set_option maxHeartbeats 4000000 in
set_option maxRecDepth 100000 in
theorem c_X12_clear_8 {l : Launch} {D : va_G} {cy : Nat → ClassId} {T0 tB tE : Nat} {a : Nat → Nat} (S : GS)  (h_a_38_5 : ar S 38 5 = 0) (h_a_39_5 : ar S 39 5 = 0) : Ct l D cy T0 tB tE yX12_clear cX12_clear 2 (some .boolean) 2 42 0 0 (mw cy a S) [.ref (a 0), .int 5] (QI D (U := GS) (fun r u => 1 = r ∧ S = u) (mw cy a)) := by
  refine Ct.ofZ RX12 "clear" [(0, .ref (a 0)), (1, .int 5)] rfl rfl rfl rfl (Nat.le_of_ble_eq_true rfl) ?_
  intro p e R s m args below meth c A b
  refine z_iload_n b dX12_clear_0 rfl rfl ?_
  refine z_calli b (z_runS (As := [.int 5]) (st := []) b (c_X12_isRow_8 S ) cf_X12_isRow wm_X12_452 ws_X12_isRow dX12_clear_1 rfl (Nat.le_of_ble_eq_true rfl) ⟨by decide, by decide, by decide, by decide⟩) (fun r4104 u4105 h4103 => ?_)
  obtain ⟨rfl, rfl⟩ := h4103
  refine z_if_ne_t (tgt := 9) b dX12_clear_4 (by decide) (by decide) ?_
  refine z_aload_n b dX12_clear_9 rfl rfl ?_
  refine z_get (q0 := 0) (k9 := 66) (v := .ref (a 41)) b (mw_0 cy a S) rfl in_X12 (by decide) wf_X12_140 rfl dX12_clear_10 ?_
  refine z_iload_n b dX12_clear_13 rfl rfl ?_
  refine z_iconst (v := 0) b dX12_clear_14 (by decide) ?_
  refine y_iast (q0 := 41) (j := 5) b (mw_41 cy a S) (by decide) dX12_clear_15 ((mwa_41 cy a S 5 0).trans (congrArg (mw cy a) (su_same h_a_38_5))) ?_
  refine z_aload_n b dX12_clear_16 rfl rfl ?_
  refine z_get (q0 := 0) (k9 := 67) (v := .ref (a 42)) b (mw_0 cy a S) rfl in_X12 (by decide) wf_X12_143 rfl dX12_clear_17 ?_
  refine z_iload_n b dX12_clear_20 rfl rfl ?_
  refine z_iconst (v := 0) b dX12_clear_21 (by decide) ?_
  refine y_zast (q0 := 42) (j := 5) b (mw_42 cy a S) (by decide) (by decide) dX12_clear_22 ((mwa_42 cy a S 5 0).trans (congrArg (mw cy a) (su_same h_a_39_5))) ?_
  refine z_iconst (v := 1) b dX12_clear_23 (by decide) ?_
  exact z_zret (u := S) b rfl (by decide) dX12_clear_24 ⟨rfl, rfl⟩ rfl (by decide) (by decide)

set_option maxHeartbeats 4000000 in
set_option maxRecDepth 100000 in
theorem c_X11_honest {l : Launch} {D : va_G} {cy : Nat → ClassId} {T0 tB tE : Nat} {a : Nat → Nat} {rw : Nat → Option Nat} (S : GS) (p0 : Int32)  (hr_p0 : (-2147483648) ≤ p0.toInt ∧ p0.toInt ≤ (-1)) : Ct l D cy T0 tB tE yX11_honest cX11_honest 3 (some .boolean) 1 20 0 0 (cw cy tE a rw S) [.ref (a 0), .int p0, .int 0] (QI D (U := GS) (fun r u => 0 = r ∧ S = u) (cw cy tE a rw)) := by
  refine Ct.ofZ RX11 "honest" [(0, .ref (a 0)), (1, .int p0), (2, .int 0)] rfl rfl rfl rfl (Nat.le_of_ble_eq_true rfl) ?_
  intro p e R s m args below meth c A b
  refine z_iload_n b dX11_honest_0 rfl rfl ?_
  refine z_calli b (z_runS (As := [.int p0]) (st := []) b (c_X11_isRow S p0 ⟨by omega, by omega⟩) cf_X11_isRow wm_X11_169 ws_X11_isRow dX11_honest_1 rfl (Nat.le_of_ble_eq_true rfl) ⟨by decide, by decide, by decide, by decide⟩) (fun r4107 u4108 h4106 => ?_)
  obtain ⟨rfl, rfl⟩ := h4106
  refine z_if_eq_t (tgt := 20) b dX11_honest_4 (by decide) (by decide) ?_
  refine z_iconst (v := 0) b dX11_honest_20 (by decide) ?_
  exact z_zret (u := S) b rfl (by decide) dX11_honest_21 ⟨rfl, rfl⟩ rfl (by decide) (by decide)

set_option maxHeartbeats 4000000 in
set_option maxRecDepth 100000 in
theorem c_X12_honest {l : Launch} {D : va_G} {cy : Nat → ClassId} {T0 tB tE : Nat} {a : Nat → Nat} (S : GS) (p0 : Int32)  (hr_p0 : (-2147483648) ≤ p0.toInt ∧ p0.toInt ≤ (-1)) : Ct l D cy T0 tB tE yX12_honest cX12_honest 3 (some .boolean) 2 42 0 0 (mw cy a S) [.ref (a 0), .int p0, .int 0] (QI D (U := GS) (fun r u => 0 = r ∧ S = u) (mw cy a)) := by
  refine Ct.ofZ RX12 "honest" [(0, .ref (a 0)), (1, .int p0), (2, .int 0)] rfl rfl rfl rfl (Nat.le_of_ble_eq_true rfl) ?_
  intro p e R s m args below meth c A b
  refine z_iload_n b dX12_honest_0 rfl rfl ?_
  refine z_calli b (z_runS (As := [.int p0]) (st := []) b (c_X12_isRow S p0 ⟨by omega, by omega⟩) cf_X12_isRow wm_X12_452 ws_X12_isRow dX12_honest_1 rfl (Nat.le_of_ble_eq_true rfl) ⟨by decide, by decide, by decide, by decide⟩) (fun r4110 u4111 h4109 => ?_)
  obtain ⟨rfl, rfl⟩ := h4109
  refine z_if_eq_t (tgt := 17) b dX12_honest_4 (by decide) (by decide) ?_
  refine z_iconst (v := 0) b dX12_honest_17 (by decide) ?_
  exact z_zret (u := S) b rfl (by decide) dX12_honest_18 ⟨rfl, rfl⟩ rfl (by decide) (by decide)

set_option maxHeartbeats 4000000 in
set_option maxRecDepth 100000 in
theorem c_X11_honest_2 {l : Launch} {D : va_G} {cy : Nat → ClassId} {T0 tB tE : Nat} {a : Nat → Nat} {rw : Nat → Option Nat} (S : GS) (p0 : Int32)  (hr_p0 : (-2147483648) ≤ p0.toInt ∧ p0.toInt ≤ (-1)) : Ct l D cy T0 tB tE yX11_honest cX11_honest 3 (some .boolean) 1 20 0 0 (cw cy tE a rw S) [.ref (a 0), .int p0, .int 1] (QI D (U := GS) (fun r u => 0 = r ∧ S = u) (cw cy tE a rw)) := by
  refine Ct.ofZ RX11 "honest" [(0, .ref (a 0)), (1, .int p0), (2, .int 1)] rfl rfl rfl rfl (Nat.le_of_ble_eq_true rfl) ?_
  intro p e R s m args below meth c A b
  refine z_iload_n b dX11_honest_0 rfl rfl ?_
  refine z_calli b (z_runS (As := [.int p0]) (st := []) b (c_X11_isRow S p0 ⟨by omega, by omega⟩) cf_X11_isRow wm_X11_169 ws_X11_isRow dX11_honest_1 rfl (Nat.le_of_ble_eq_true rfl) ⟨by decide, by decide, by decide, by decide⟩) (fun r4113 u4114 h4112 => ?_)
  obtain ⟨rfl, rfl⟩ := h4112
  refine z_if_eq_t (tgt := 20) b dX11_honest_4 (by decide) (by decide) ?_
  refine z_iconst (v := 0) b dX11_honest_20 (by decide) ?_
  exact z_zret (u := S) b rfl (by decide) dX11_honest_21 ⟨rfl, rfl⟩ rfl (by decide) (by decide)

set_option maxHeartbeats 4000000 in
set_option maxRecDepth 100000 in
theorem c_X12_honest_2 {l : Launch} {D : va_G} {cy : Nat → ClassId} {T0 tB tE : Nat} {a : Nat → Nat} (S : GS) (p0 : Int32)  (hr_p0 : (-2147483648) ≤ p0.toInt ∧ p0.toInt ≤ (-1)) : Ct l D cy T0 tB tE yX12_honest cX12_honest 3 (some .boolean) 2 42 0 0 (mw cy a S) [.ref (a 0), .int p0, .int 1] (QI D (U := GS) (fun r u => 0 = r ∧ S = u) (mw cy a)) := by
  refine Ct.ofZ RX12 "honest" [(0, .ref (a 0)), (1, .int p0), (2, .int 1)] rfl rfl rfl rfl (Nat.le_of_ble_eq_true rfl) ?_
  intro p e R s m args below meth c A b
  refine z_iload_n b dX12_honest_0 rfl rfl ?_
  refine z_calli b (z_runS (As := [.int p0]) (st := []) b (c_X12_isRow S p0 ⟨by omega, by omega⟩) cf_X12_isRow wm_X12_452 ws_X12_isRow dX12_honest_1 rfl (Nat.le_of_ble_eq_true rfl) ⟨by decide, by decide, by decide, by decide⟩) (fun r4116 u4117 h4115 => ?_)
  obtain ⟨rfl, rfl⟩ := h4115
  refine z_if_eq_t (tgt := 17) b dX12_honest_4 (by decide) (by decide) ?_
  refine z_iconst (v := 0) b dX12_honest_17 (by decide) ?_
  exact z_zret (u := S) b rfl (by decide) dX12_honest_18 ⟨rfl, rfl⟩ rfl (by decide) (by decide)

set_option maxHeartbeats 4000000 in
set_option maxRecDepth 100000 in
theorem c_X11_honest_3 {l : Launch} {D : va_G} {cy : Nat → ClassId} {T0 tB tE : Nat} {a : Nat → Nat} {rw : Nat → Option Nat} (S : GS) (p0 : Int32)  (hr_p0 : 6 ≤ p0.toInt ∧ p0.toInt ≤ 2147483647) : Ct l D cy T0 tB tE yX11_honest cX11_honest 3 (some .boolean) 1 20 0 0 (cw cy tE a rw S) [.ref (a 0), .int p0, .int 0] (QI D (U := GS) (fun r u => 0 = r ∧ S = u) (cw cy tE a rw)) := by
  refine Ct.ofZ RX11 "honest" [(0, .ref (a 0)), (1, .int p0), (2, .int 0)] rfl rfl rfl rfl (Nat.le_of_ble_eq_true rfl) ?_
  intro p e R s m args below meth c A b
  refine z_iload_n b dX11_honest_0 rfl rfl ?_
  refine z_calli b (z_runS (As := [.int p0]) (st := []) b (c_X11_isRow_2 S p0 ⟨by omega, by omega⟩) cf_X11_isRow wm_X11_169 ws_X11_isRow dX11_honest_1 rfl (Nat.le_of_ble_eq_true rfl) ⟨by decide, by decide, by decide, by decide⟩) (fun r4119 u4120 h4118 => ?_)
  obtain ⟨rfl, rfl⟩ := h4118
  refine z_if_eq_t (tgt := 20) b dX11_honest_4 (by decide) (by decide) ?_
  refine z_iconst (v := 0) b dX11_honest_20 (by decide) ?_
  exact z_zret (u := S) b rfl (by decide) dX11_honest_21 ⟨rfl, rfl⟩ rfl (by decide) (by decide)

set_option maxHeartbeats 4000000 in
set_option maxRecDepth 100000 in
theorem c_X12_honest_3 {l : Launch} {D : va_G} {cy : Nat → ClassId} {T0 tB tE : Nat} {a : Nat → Nat} (S : GS) (p0 : Int32)  (hr_p0 : 6 ≤ p0.toInt ∧ p0.toInt ≤ 2147483647) : Ct l D cy T0 tB tE yX12_honest cX12_honest 3 (some .boolean) 2 42 0 0 (mw cy a S) [.ref (a 0), .int p0, .int 0] (QI D (U := GS) (fun r u => 0 = r ∧ S = u) (mw cy a)) := by
  refine Ct.ofZ RX12 "honest" [(0, .ref (a 0)), (1, .int p0), (2, .int 0)] rfl rfl rfl rfl (Nat.le_of_ble_eq_true rfl) ?_
  intro p e R s m args below meth c A b
  refine z_iload_n b dX12_honest_0 rfl rfl ?_
  refine z_calli b (z_runS (As := [.int p0]) (st := []) b (c_X12_isRow_2 S p0 ⟨by omega, by omega⟩) cf_X12_isRow wm_X12_452 ws_X12_isRow dX12_honest_1 rfl (Nat.le_of_ble_eq_true rfl) ⟨by decide, by decide, by decide, by decide⟩) (fun r4122 u4123 h4121 => ?_)
  obtain ⟨rfl, rfl⟩ := h4121
  refine z_if_eq_t (tgt := 17) b dX12_honest_4 (by decide) (by decide) ?_
  refine z_iconst (v := 0) b dX12_honest_17 (by decide) ?_
  exact z_zret (u := S) b rfl (by decide) dX12_honest_18 ⟨rfl, rfl⟩ rfl (by decide) (by decide)

set_option maxHeartbeats 4000000 in
set_option maxRecDepth 100000 in
theorem c_X11_honest_4 {l : Launch} {D : va_G} {cy : Nat → ClassId} {T0 tB tE : Nat} {a : Nat → Nat} {rw : Nat → Option Nat} (S : GS) (p0 : Int32)  (hr_p0 : 6 ≤ p0.toInt ∧ p0.toInt ≤ 2147483647) : Ct l D cy T0 tB tE yX11_honest cX11_honest 3 (some .boolean) 1 20 0 0 (cw cy tE a rw S) [.ref (a 0), .int p0, .int 1] (QI D (U := GS) (fun r u => 0 = r ∧ S = u) (cw cy tE a rw)) := by
  refine Ct.ofZ RX11 "honest" [(0, .ref (a 0)), (1, .int p0), (2, .int 1)] rfl rfl rfl rfl (Nat.le_of_ble_eq_true rfl) ?_
  intro p e R s m args below meth c A b
  refine z_iload_n b dX11_honest_0 rfl rfl ?_
  refine z_calli b (z_runS (As := [.int p0]) (st := []) b (c_X11_isRow_2 S p0 ⟨by omega, by omega⟩) cf_X11_isRow wm_X11_169 ws_X11_isRow dX11_honest_1 rfl (Nat.le_of_ble_eq_true rfl) ⟨by decide, by decide, by decide, by decide⟩) (fun r4125 u4126 h4124 => ?_)
  obtain ⟨rfl, rfl⟩ := h4124
  refine z_if_eq_t (tgt := 20) b dX11_honest_4 (by decide) (by decide) ?_
  refine z_iconst (v := 0) b dX11_honest_20 (by decide) ?_
  exact z_zret (u := S) b rfl (by decide) dX11_honest_21 ⟨rfl, rfl⟩ rfl (by decide) (by decide)

set_option maxHeartbeats 4000000 in
set_option maxRecDepth 100000 in
theorem c_X12_honest_4 {l : Launch} {D : va_G} {cy : Nat → ClassId} {T0 tB tE : Nat} {a : Nat → Nat} (S : GS) (p0 : Int32)  (hr_p0 : 6 ≤ p0.toInt ∧ p0.toInt ≤ 2147483647) : Ct l D cy T0 tB tE yX12_honest cX12_honest 3 (some .boolean) 2 42 0 0 (mw cy a S) [.ref (a 0), .int p0, .int 1] (QI D (U := GS) (fun r u => 0 = r ∧ S = u) (mw cy a)) := by
  refine Ct.ofZ RX12 "honest" [(0, .ref (a 0)), (1, .int p0), (2, .int 1)] rfl rfl rfl rfl (Nat.le_of_ble_eq_true rfl) ?_
  intro p e R s m args below meth c A b
  refine z_iload_n b dX12_honest_0 rfl rfl ?_
  refine z_calli b (z_runS (As := [.int p0]) (st := []) b (c_X12_isRow_2 S p0 ⟨by omega, by omega⟩) cf_X12_isRow wm_X12_452 ws_X12_isRow dX12_honest_1 rfl (Nat.le_of_ble_eq_true rfl) ⟨by decide, by decide, by decide, by decide⟩) (fun r4128 u4129 h4127 => ?_)
  obtain ⟨rfl, rfl⟩ := h4127
  refine z_if_eq_t (tgt := 17) b dX12_honest_4 (by decide) (by decide) ?_
  refine z_iconst (v := 0) b dX12_honest_17 (by decide) ?_
  exact z_zret (u := S) b rfl (by decide) dX12_honest_18 ⟨rfl, rfl⟩ rfl (by decide) (by decide)

set_option maxHeartbeats 4000000 in
set_option maxRecDepth 100000 in
theorem c_X11_honest_5 {l : Launch} {D : va_G} {cy : Nat → ClassId} {T0 tB tE : Nat} {a : Nat → Nat} {rw : Nat → Option Nat} (S : GS)  (h_i_28 : fi S 28 = 0) (hrw : ∀ i, i < 6 → rw i = some (a (36 + 2 * i))) : Ct l D cy T0 tB tE yX11_honest cX11_honest 3 (some .boolean) 1 20 0 0 (cw cy tE a rw S) [.ref (a 0), .int 0, .int 0] (QI D (U := GS) (fun r u => 0 = r ∧ S = u) (cw cy tE a rw)) := by
  refine Ct.ofZ RX11 "honest" [(0, .ref (a 0)), (1, .int 0), (2, .int 0)] rfl rfl rfl rfl (Nat.le_of_ble_eq_true rfl) ?_
  intro p e R s m args below meth c A b
  refine z_iload_n b dX11_honest_0 rfl rfl ?_
  refine z_calli b (z_runS (As := [.int 0]) (st := []) b (c_X11_isRow_3 S ) cf_X11_isRow wm_X11_169 ws_X11_isRow dX11_honest_1 rfl (Nat.le_of_ble_eq_true rfl) ⟨by decide, by decide, by decide, by decide⟩) (fun r4131 u4132 h4130 => ?_)
  obtain ⟨rfl, rfl⟩ := h4130
  refine z_if_eq_f (tgt := 20) b dX11_honest_4 (by decide) (by decide) ?_
  refine z_aload_n b dX11_honest_7 rfl rfl ?_
  refine z_get (q0 := 0) (k9 := 7) (v := .ref (a 35)) b (cw_0 cy tE a rw S) rfl in_X11 (by decide) wf_X11_58 rfl dX11_honest_8 ?_
  refine z_iload_n b dX11_honest_11 rfl rfl ?_
  refine y_aald (q0 := 35) (t0 := 4) (j := 0) (v := .ref (a 36)) b (cw_35 cy tE a rw S) rfl (by decide) (by rw [hrw 0 (by decide)]; rfl) dX11_honest_12 ?_
  refine z_get (q0 := 36) (k9 := 2) (v := .int (fi S 28)) b (cw_36 cy tE a rw S) rfl in_X7 (by decide) wf_X11_178 rfl dX11_honest_13 ?_
  refine z_eqi h_i_28 ?_
  refine z_iload_n b dX11_honest_16 rfl rfl ?_
  refine z_icmp_ne_f (tgt := 22) b dX11_honest_17 (by decide) (by decide) ?_
  refine z_iconst (v := 0) b dX11_honest_20 (by decide) ?_
  exact z_zret (u := S) b rfl (by decide) dX11_honest_21 ⟨rfl, rfl⟩ rfl (by decide) (by decide)

set_option maxHeartbeats 4000000 in
set_option maxRecDepth 100000 in
theorem c_X12_honest_5 {l : Launch} {D : va_G} {cy : Nat → ClassId} {T0 tB tE : Nat} {a : Nat → Nat} (S : GS)  (h_a_39_0 : ar S 39 0 = 0) : Ct l D cy T0 tB tE yX12_honest cX12_honest 3 (some .boolean) 2 42 0 0 (mw cy a S) [.ref (a 0), .int 0, .int 0] (QI D (U := GS) (fun r u => 0 = r ∧ S = u) (mw cy a)) := by
  refine Ct.ofZ RX12 "honest" [(0, .ref (a 0)), (1, .int 0), (2, .int 0)] rfl rfl rfl rfl (Nat.le_of_ble_eq_true rfl) ?_
  intro p e R s m args below meth c A b
  refine z_iload_n b dX12_honest_0 rfl rfl ?_
  refine z_calli b (z_runS (As := [.int 0]) (st := []) b (c_X12_isRow_3 S ) cf_X12_isRow wm_X12_452 ws_X12_isRow dX12_honest_1 rfl (Nat.le_of_ble_eq_true rfl) ⟨by decide, by decide, by decide, by decide⟩) (fun r4134 u4135 h4133 => ?_)
  obtain ⟨rfl, rfl⟩ := h4133
  refine z_if_eq_f (tgt := 17) b dX12_honest_4 (by decide) (by decide) ?_
  refine z_aload_n b dX12_honest_7 rfl rfl ?_
  refine z_get (q0 := 0) (k9 := 67) (v := .ref (a 42)) b (mw_0 cy a S) rfl in_X12 (by decide) wf_X12_143 rfl dX12_honest_8 ?_
  refine z_iload_n b dX12_honest_11 rfl rfl ?_
  refine y_zald (q0 := 42) (j := 0) (v := (ar S 39 0)) b (mw_42 cy a S) (by decide) rfl dX12_honest_12 ?_
  refine z_eqi h_a_39_0 ?_
  refine z_iload_n b dX12_honest_13 rfl rfl ?_
  refine z_icmp_ne_f (tgt := 19) b dX12_honest_14 (by decide) (by decide) ?_
  refine z_iconst (v := 0) b dX12_honest_17 (by decide) ?_
  exact z_zret (u := S) b rfl (by decide) dX12_honest_18 ⟨rfl, rfl⟩ rfl (by decide) (by decide)

set_option maxHeartbeats 4000000 in
set_option maxRecDepth 100000 in
theorem c_X11_honest_6 {l : Launch} {D : va_G} {cy : Nat → ClassId} {T0 tB tE : Nat} {a : Nat → Nat} {rw : Nat → Option Nat} (S : GS)  (h_i_28 : fi S 28 = 0) (hrw : ∀ i, i < 6 → rw i = some (a (36 + 2 * i))) : Ct l D cy T0 tB tE yX11_honest cX11_honest 3 (some .boolean) 1 20 0 0 (cw cy tE a rw S) [.ref (a 0), .int 0, .int 1] (QI D (U := GS) (fun r u => 1 = r ∧ si S 28 1 = u) (cw cy tE a rw)) := by
  refine Ct.ofZ RX11 "honest" [(0, .ref (a 0)), (1, .int 0), (2, .int 1)] rfl rfl rfl rfl (Nat.le_of_ble_eq_true rfl) ?_
  intro p e R s m args below meth c A b
  refine z_iload_n b dX11_honest_0 rfl rfl ?_
  refine z_calli b (z_runS (As := [.int 0]) (st := []) b (c_X11_isRow_3 S ) cf_X11_isRow wm_X11_169 ws_X11_isRow dX11_honest_1 rfl (Nat.le_of_ble_eq_true rfl) ⟨by decide, by decide, by decide, by decide⟩) (fun r4137 u4138 h4136 => ?_)
  obtain ⟨rfl, rfl⟩ := h4136
  refine z_if_eq_f (tgt := 20) b dX11_honest_4 (by decide) (by decide) ?_
  refine z_aload_n b dX11_honest_7 rfl rfl ?_
  refine z_get (q0 := 0) (k9 := 7) (v := .ref (a 35)) b (cw_0 cy tE a rw S) rfl in_X11 (by decide) wf_X11_58 rfl dX11_honest_8 ?_
  refine z_iload_n b dX11_honest_11 rfl rfl ?_
  refine y_aald (q0 := 35) (t0 := 4) (j := 0) (v := .ref (a 36)) b (cw_35 cy tE a rw S) rfl (by decide) (by rw [hrw 0 (by decide)]; rfl) dX11_honest_12 ?_
  refine z_get (q0 := 36) (k9 := 2) (v := .int (fi S 28)) b (cw_36 cy tE a rw S) rfl in_X7 (by decide) wf_X11_178 rfl dX11_honest_13 ?_
  refine z_eqi h_i_28 ?_
  refine z_iload_n b dX11_honest_16 rfl rfl ?_
  refine z_icmp_ne_t (tgt := 22) b dX11_honest_17 (by decide) (by decide) ?_
  refine z_aload_n b dX11_honest_22 rfl rfl ?_
  refine z_get (q0 := 0) (k9 := 7) (v := .ref (a 35)) b (cw_0 cy tE a rw S) rfl in_X11 (by decide) wf_X11_58 rfl dX11_honest_23 ?_
  refine z_iload_n b dX11_honest_26 rfl rfl ?_
  refine y_aald (q0 := 35) (t0 := 4) (j := 0) (v := .ref (a 36)) b (cw_35 cy tE a rw S) rfl (by decide) (by rw [hrw 0 (by decide)]; rfl) dX11_honest_27 ?_
  refine z_iload_n b dX11_honest_28 rfl rfl ?_
  refine z_put (q0 := 36) (k9 := 2) tyX7 b (cw_36 cy tE a rw S) rfl in_X7 tyX7_ok nmX7 (by decide) wf_X11_178 rfl rfl rfl rfl (Nat.le_of_ble_eq_true rfl) dX11_honest_29 (cwp_36_2 cy tE a rw S 1) ?_
  refine z_iconst (v := 1) b dX11_honest_32 (by decide) ?_
  exact z_zret (u := (si S 28 1)) b rfl (by decide) dX11_honest_33 ⟨rfl, rfl⟩ rfl (by decide) (by decide)

set_option maxHeartbeats 4000000 in
set_option maxRecDepth 100000 in
theorem c_X12_honest_6 {l : Launch} {D : va_G} {cy : Nat → ClassId} {T0 tB tE : Nat} {a : Nat → Nat} (S : GS)  (h_a_39_0 : ar S 39 0 = 0) : Ct l D cy T0 tB tE yX12_honest cX12_honest 3 (some .boolean) 2 42 0 0 (mw cy a S) [.ref (a 0), .int 0, .int 1] (QI D (U := GS) (fun r u => 1 = r ∧ su S 39 0 1 = u) (mw cy a)) := by
  refine Ct.ofZ RX12 "honest" [(0, .ref (a 0)), (1, .int 0), (2, .int 1)] rfl rfl rfl rfl (Nat.le_of_ble_eq_true rfl) ?_
  intro p e R s m args below meth c A b
  refine z_iload_n b dX12_honest_0 rfl rfl ?_
  refine z_calli b (z_runS (As := [.int 0]) (st := []) b (c_X12_isRow_3 S ) cf_X12_isRow wm_X12_452 ws_X12_isRow dX12_honest_1 rfl (Nat.le_of_ble_eq_true rfl) ⟨by decide, by decide, by decide, by decide⟩) (fun r4140 u4141 h4139 => ?_)
  obtain ⟨rfl, rfl⟩ := h4139
  refine z_if_eq_f (tgt := 17) b dX12_honest_4 (by decide) (by decide) ?_
  refine z_aload_n b dX12_honest_7 rfl rfl ?_
  refine z_get (q0 := 0) (k9 := 67) (v := .ref (a 42)) b (mw_0 cy a S) rfl in_X12 (by decide) wf_X12_143 rfl dX12_honest_8 ?_
  refine z_iload_n b dX12_honest_11 rfl rfl ?_
  refine y_zald (q0 := 42) (j := 0) (v := (ar S 39 0)) b (mw_42 cy a S) (by decide) rfl dX12_honest_12 ?_
  refine z_eqi h_a_39_0 ?_
  refine z_iload_n b dX12_honest_13 rfl rfl ?_
  refine z_icmp_ne_t (tgt := 19) b dX12_honest_14 (by decide) (by decide) ?_
  refine z_aload_n b dX12_honest_19 rfl rfl ?_
  refine z_get (q0 := 0) (k9 := 67) (v := .ref (a 42)) b (mw_0 cy a S) rfl in_X12 (by decide) wf_X12_143 rfl dX12_honest_20 ?_
  refine z_iload_n b dX12_honest_23 rfl rfl ?_
  refine z_iload_n b dX12_honest_24 rfl rfl ?_
  refine y_zast (q0 := 42) (j := 0) b (mw_42 cy a S) (by decide) (by decide) dX12_honest_25 (mwa_42 cy a S 0 1) ?_
  refine z_iconst (v := 1) b dX12_honest_26 (by decide) ?_
  exact z_zret (u := (su S 39 0 1)) b rfl (by decide) dX12_honest_27 ⟨rfl, rfl⟩ rfl (by decide) (by decide)

set_option maxHeartbeats 4000000 in
set_option maxRecDepth 100000 in
theorem c_X11_honest_7 {l : Launch} {D : va_G} {cy : Nat → ClassId} {T0 tB tE : Nat} {a : Nat → Nat} {rw : Nat → Option Nat} (S : GS)  (h_i_30 : fi S 30 = 0) (hrw : ∀ i, i < 6 → rw i = some (a (36 + 2 * i))) : Ct l D cy T0 tB tE yX11_honest cX11_honest 3 (some .boolean) 1 20 0 0 (cw cy tE a rw S) [.ref (a 0), .int 1, .int 0] (QI D (U := GS) (fun r u => 0 = r ∧ S = u) (cw cy tE a rw)) := by
  refine Ct.ofZ RX11 "honest" [(0, .ref (a 0)), (1, .int 1), (2, .int 0)] rfl rfl rfl rfl (Nat.le_of_ble_eq_true rfl) ?_
  intro p e R s m args below meth c A b
  refine z_iload_n b dX11_honest_0 rfl rfl ?_
  refine z_calli b (z_runS (As := [.int 1]) (st := []) b (c_X11_isRow_4 S ) cf_X11_isRow wm_X11_169 ws_X11_isRow dX11_honest_1 rfl (Nat.le_of_ble_eq_true rfl) ⟨by decide, by decide, by decide, by decide⟩) (fun r4143 u4144 h4142 => ?_)
  obtain ⟨rfl, rfl⟩ := h4142
  refine z_if_eq_f (tgt := 20) b dX11_honest_4 (by decide) (by decide) ?_
  refine z_aload_n b dX11_honest_7 rfl rfl ?_
  refine z_get (q0 := 0) (k9 := 7) (v := .ref (a 35)) b (cw_0 cy tE a rw S) rfl in_X11 (by decide) wf_X11_58 rfl dX11_honest_8 ?_
  refine z_iload_n b dX11_honest_11 rfl rfl ?_
  refine y_aald (q0 := 35) (t0 := 4) (j := 1) (v := .ref (a 38)) b (cw_35 cy tE a rw S) rfl (by decide) (by rw [hrw 1 (by decide)]; rfl) dX11_honest_12 ?_
  refine z_get (q0 := 38) (k9 := 2) (v := .int (fi S 30)) b (cw_38 cy tE a rw S) rfl in_X7 (by decide) wf_X11_178 rfl dX11_honest_13 ?_
  refine z_eqi h_i_30 ?_
  refine z_iload_n b dX11_honest_16 rfl rfl ?_
  refine z_icmp_ne_f (tgt := 22) b dX11_honest_17 (by decide) (by decide) ?_
  refine z_iconst (v := 0) b dX11_honest_20 (by decide) ?_
  exact z_zret (u := S) b rfl (by decide) dX11_honest_21 ⟨rfl, rfl⟩ rfl (by decide) (by decide)

set_option maxHeartbeats 4000000 in
set_option maxRecDepth 100000 in
theorem c_X12_honest_7 {l : Launch} {D : va_G} {cy : Nat → ClassId} {T0 tB tE : Nat} {a : Nat → Nat} (S : GS)  (h_a_39_1 : ar S 39 1 = 0) : Ct l D cy T0 tB tE yX12_honest cX12_honest 3 (some .boolean) 2 42 0 0 (mw cy a S) [.ref (a 0), .int 1, .int 0] (QI D (U := GS) (fun r u => 0 = r ∧ S = u) (mw cy a)) := by
  refine Ct.ofZ RX12 "honest" [(0, .ref (a 0)), (1, .int 1), (2, .int 0)] rfl rfl rfl rfl (Nat.le_of_ble_eq_true rfl) ?_
  intro p e R s m args below meth c A b
  refine z_iload_n b dX12_honest_0 rfl rfl ?_
  refine z_calli b (z_runS (As := [.int 1]) (st := []) b (c_X12_isRow_4 S ) cf_X12_isRow wm_X12_452 ws_X12_isRow dX12_honest_1 rfl (Nat.le_of_ble_eq_true rfl) ⟨by decide, by decide, by decide, by decide⟩) (fun r4146 u4147 h4145 => ?_)
  obtain ⟨rfl, rfl⟩ := h4145
  refine z_if_eq_f (tgt := 17) b dX12_honest_4 (by decide) (by decide) ?_
  refine z_aload_n b dX12_honest_7 rfl rfl ?_
  refine z_get (q0 := 0) (k9 := 67) (v := .ref (a 42)) b (mw_0 cy a S) rfl in_X12 (by decide) wf_X12_143 rfl dX12_honest_8 ?_
  refine z_iload_n b dX12_honest_11 rfl rfl ?_
  refine y_zald (q0 := 42) (j := 1) (v := (ar S 39 1)) b (mw_42 cy a S) (by decide) rfl dX12_honest_12 ?_
  refine z_eqi h_a_39_1 ?_
  refine z_iload_n b dX12_honest_13 rfl rfl ?_
  refine z_icmp_ne_f (tgt := 19) b dX12_honest_14 (by decide) (by decide) ?_
  refine z_iconst (v := 0) b dX12_honest_17 (by decide) ?_
  exact z_zret (u := S) b rfl (by decide) dX12_honest_18 ⟨rfl, rfl⟩ rfl (by decide) (by decide)

set_option maxHeartbeats 4000000 in
set_option maxRecDepth 100000 in
theorem c_X11_honest_8 {l : Launch} {D : va_G} {cy : Nat → ClassId} {T0 tB tE : Nat} {a : Nat → Nat} {rw : Nat → Option Nat} (S : GS)  (h_i_30 : fi S 30 = 0) (hrw : ∀ i, i < 6 → rw i = some (a (36 + 2 * i))) : Ct l D cy T0 tB tE yX11_honest cX11_honest 3 (some .boolean) 1 20 0 0 (cw cy tE a rw S) [.ref (a 0), .int 1, .int 1] (QI D (U := GS) (fun r u => 1 = r ∧ si S 30 1 = u) (cw cy tE a rw)) := by
  refine Ct.ofZ RX11 "honest" [(0, .ref (a 0)), (1, .int 1), (2, .int 1)] rfl rfl rfl rfl (Nat.le_of_ble_eq_true rfl) ?_
  intro p e R s m args below meth c A b
  refine z_iload_n b dX11_honest_0 rfl rfl ?_
  refine z_calli b (z_runS (As := [.int 1]) (st := []) b (c_X11_isRow_4 S ) cf_X11_isRow wm_X11_169 ws_X11_isRow dX11_honest_1 rfl (Nat.le_of_ble_eq_true rfl) ⟨by decide, by decide, by decide, by decide⟩) (fun r4149 u4150 h4148 => ?_)
  obtain ⟨rfl, rfl⟩ := h4148
  refine z_if_eq_f (tgt := 20) b dX11_honest_4 (by decide) (by decide) ?_
  refine z_aload_n b dX11_honest_7 rfl rfl ?_
  refine z_get (q0 := 0) (k9 := 7) (v := .ref (a 35)) b (cw_0 cy tE a rw S) rfl in_X11 (by decide) wf_X11_58 rfl dX11_honest_8 ?_
  refine z_iload_n b dX11_honest_11 rfl rfl ?_
  refine y_aald (q0 := 35) (t0 := 4) (j := 1) (v := .ref (a 38)) b (cw_35 cy tE a rw S) rfl (by decide) (by rw [hrw 1 (by decide)]; rfl) dX11_honest_12 ?_
  refine z_get (q0 := 38) (k9 := 2) (v := .int (fi S 30)) b (cw_38 cy tE a rw S) rfl in_X7 (by decide) wf_X11_178 rfl dX11_honest_13 ?_
  refine z_eqi h_i_30 ?_
  refine z_iload_n b dX11_honest_16 rfl rfl ?_
  refine z_icmp_ne_t (tgt := 22) b dX11_honest_17 (by decide) (by decide) ?_
  refine z_aload_n b dX11_honest_22 rfl rfl ?_
  refine z_get (q0 := 0) (k9 := 7) (v := .ref (a 35)) b (cw_0 cy tE a rw S) rfl in_X11 (by decide) wf_X11_58 rfl dX11_honest_23 ?_
  refine z_iload_n b dX11_honest_26 rfl rfl ?_
  refine y_aald (q0 := 35) (t0 := 4) (j := 1) (v := .ref (a 38)) b (cw_35 cy tE a rw S) rfl (by decide) (by rw [hrw 1 (by decide)]; rfl) dX11_honest_27 ?_
  refine z_iload_n b dX11_honest_28 rfl rfl ?_
  refine z_put (q0 := 38) (k9 := 2) tyX7 b (cw_38 cy tE a rw S) rfl in_X7 tyX7_ok nmX7 (by decide) wf_X11_178 rfl rfl rfl rfl (Nat.le_of_ble_eq_true rfl) dX11_honest_29 (cwp_38_2 cy tE a rw S 1) ?_
  refine z_iconst (v := 1) b dX11_honest_32 (by decide) ?_
  exact z_zret (u := (si S 30 1)) b rfl (by decide) dX11_honest_33 ⟨rfl, rfl⟩ rfl (by decide) (by decide)

set_option maxHeartbeats 4000000 in
set_option maxRecDepth 100000 in
theorem c_X12_honest_8 {l : Launch} {D : va_G} {cy : Nat → ClassId} {T0 tB tE : Nat} {a : Nat → Nat} (S : GS)  (h_a_39_1 : ar S 39 1 = 0) : Ct l D cy T0 tB tE yX12_honest cX12_honest 3 (some .boolean) 2 42 0 0 (mw cy a S) [.ref (a 0), .int 1, .int 1] (QI D (U := GS) (fun r u => 1 = r ∧ su S 39 1 1 = u) (mw cy a)) := by
  refine Ct.ofZ RX12 "honest" [(0, .ref (a 0)), (1, .int 1), (2, .int 1)] rfl rfl rfl rfl (Nat.le_of_ble_eq_true rfl) ?_
  intro p e R s m args below meth c A b
  refine z_iload_n b dX12_honest_0 rfl rfl ?_
  refine z_calli b (z_runS (As := [.int 1]) (st := []) b (c_X12_isRow_4 S ) cf_X12_isRow wm_X12_452 ws_X12_isRow dX12_honest_1 rfl (Nat.le_of_ble_eq_true rfl) ⟨by decide, by decide, by decide, by decide⟩) (fun r4152 u4153 h4151 => ?_)
  obtain ⟨rfl, rfl⟩ := h4151
  refine z_if_eq_f (tgt := 17) b dX12_honest_4 (by decide) (by decide) ?_
  refine z_aload_n b dX12_honest_7 rfl rfl ?_
  refine z_get (q0 := 0) (k9 := 67) (v := .ref (a 42)) b (mw_0 cy a S) rfl in_X12 (by decide) wf_X12_143 rfl dX12_honest_8 ?_
  refine z_iload_n b dX12_honest_11 rfl rfl ?_
  refine y_zald (q0 := 42) (j := 1) (v := (ar S 39 1)) b (mw_42 cy a S) (by decide) rfl dX12_honest_12 ?_
  refine z_eqi h_a_39_1 ?_
  refine z_iload_n b dX12_honest_13 rfl rfl ?_
  refine z_icmp_ne_t (tgt := 19) b dX12_honest_14 (by decide) (by decide) ?_
  refine z_aload_n b dX12_honest_19 rfl rfl ?_
  refine z_get (q0 := 0) (k9 := 67) (v := .ref (a 42)) b (mw_0 cy a S) rfl in_X12 (by decide) wf_X12_143 rfl dX12_honest_20 ?_
  refine z_iload_n b dX12_honest_23 rfl rfl ?_
  refine z_iload_n b dX12_honest_24 rfl rfl ?_
  refine y_zast (q0 := 42) (j := 1) b (mw_42 cy a S) (by decide) (by decide) dX12_honest_25 (mwa_42 cy a S 1 1) ?_
  refine z_iconst (v := 1) b dX12_honest_26 (by decide) ?_
  exact z_zret (u := (su S 39 1 1)) b rfl (by decide) dX12_honest_27 ⟨rfl, rfl⟩ rfl (by decide) (by decide)

set_option maxHeartbeats 4000000 in
set_option maxRecDepth 100000 in
theorem c_X11_honest_9 {l : Launch} {D : va_G} {cy : Nat → ClassId} {T0 tB tE : Nat} {a : Nat → Nat} {rw : Nat → Option Nat} (S : GS)  (h_i_32 : fi S 32 = 0) (hrw : ∀ i, i < 6 → rw i = some (a (36 + 2 * i))) : Ct l D cy T0 tB tE yX11_honest cX11_honest 3 (some .boolean) 1 20 0 0 (cw cy tE a rw S) [.ref (a 0), .int 2, .int 0] (QI D (U := GS) (fun r u => 0 = r ∧ S = u) (cw cy tE a rw)) := by
  refine Ct.ofZ RX11 "honest" [(0, .ref (a 0)), (1, .int 2), (2, .int 0)] rfl rfl rfl rfl (Nat.le_of_ble_eq_true rfl) ?_
  intro p e R s m args below meth c A b
  refine z_iload_n b dX11_honest_0 rfl rfl ?_
  refine z_calli b (z_runS (As := [.int 2]) (st := []) b (c_X11_isRow_5 S ) cf_X11_isRow wm_X11_169 ws_X11_isRow dX11_honest_1 rfl (Nat.le_of_ble_eq_true rfl) ⟨by decide, by decide, by decide, by decide⟩) (fun r4155 u4156 h4154 => ?_)
  obtain ⟨rfl, rfl⟩ := h4154
  refine z_if_eq_f (tgt := 20) b dX11_honest_4 (by decide) (by decide) ?_
  refine z_aload_n b dX11_honest_7 rfl rfl ?_
  refine z_get (q0 := 0) (k9 := 7) (v := .ref (a 35)) b (cw_0 cy tE a rw S) rfl in_X11 (by decide) wf_X11_58 rfl dX11_honest_8 ?_
  refine z_iload_n b dX11_honest_11 rfl rfl ?_
  refine y_aald (q0 := 35) (t0 := 4) (j := 2) (v := .ref (a 40)) b (cw_35 cy tE a rw S) rfl (by decide) (by rw [hrw 2 (by decide)]; rfl) dX11_honest_12 ?_
  refine z_get (q0 := 40) (k9 := 2) (v := .int (fi S 32)) b (cw_40 cy tE a rw S) rfl in_X7 (by decide) wf_X11_178 rfl dX11_honest_13 ?_
  refine z_eqi h_i_32 ?_
  refine z_iload_n b dX11_honest_16 rfl rfl ?_
  refine z_icmp_ne_f (tgt := 22) b dX11_honest_17 (by decide) (by decide) ?_
  refine z_iconst (v := 0) b dX11_honest_20 (by decide) ?_
  exact z_zret (u := S) b rfl (by decide) dX11_honest_21 ⟨rfl, rfl⟩ rfl (by decide) (by decide)

set_option maxHeartbeats 4000000 in
set_option maxRecDepth 100000 in
theorem c_X12_honest_9 {l : Launch} {D : va_G} {cy : Nat → ClassId} {T0 tB tE : Nat} {a : Nat → Nat} (S : GS)  (h_a_39_2 : ar S 39 2 = 0) : Ct l D cy T0 tB tE yX12_honest cX12_honest 3 (some .boolean) 2 42 0 0 (mw cy a S) [.ref (a 0), .int 2, .int 0] (QI D (U := GS) (fun r u => 0 = r ∧ S = u) (mw cy a)) := by
  refine Ct.ofZ RX12 "honest" [(0, .ref (a 0)), (1, .int 2), (2, .int 0)] rfl rfl rfl rfl (Nat.le_of_ble_eq_true rfl) ?_
  intro p e R s m args below meth c A b
  refine z_iload_n b dX12_honest_0 rfl rfl ?_
  refine z_calli b (z_runS (As := [.int 2]) (st := []) b (c_X12_isRow_5 S ) cf_X12_isRow wm_X12_452 ws_X12_isRow dX12_honest_1 rfl (Nat.le_of_ble_eq_true rfl) ⟨by decide, by decide, by decide, by decide⟩) (fun r4158 u4159 h4157 => ?_)
  obtain ⟨rfl, rfl⟩ := h4157
  refine z_if_eq_f (tgt := 17) b dX12_honest_4 (by decide) (by decide) ?_
  refine z_aload_n b dX12_honest_7 rfl rfl ?_
  refine z_get (q0 := 0) (k9 := 67) (v := .ref (a 42)) b (mw_0 cy a S) rfl in_X12 (by decide) wf_X12_143 rfl dX12_honest_8 ?_
  refine z_iload_n b dX12_honest_11 rfl rfl ?_
  refine y_zald (q0 := 42) (j := 2) (v := (ar S 39 2)) b (mw_42 cy a S) (by decide) rfl dX12_honest_12 ?_
  refine z_eqi h_a_39_2 ?_
  refine z_iload_n b dX12_honest_13 rfl rfl ?_
  refine z_icmp_ne_f (tgt := 19) b dX12_honest_14 (by decide) (by decide) ?_
  refine z_iconst (v := 0) b dX12_honest_17 (by decide) ?_
  exact z_zret (u := S) b rfl (by decide) dX12_honest_18 ⟨rfl, rfl⟩ rfl (by decide) (by decide)

set_option maxHeartbeats 4000000 in
set_option maxRecDepth 100000 in
theorem c_X11_honest_10 {l : Launch} {D : va_G} {cy : Nat → ClassId} {T0 tB tE : Nat} {a : Nat → Nat} {rw : Nat → Option Nat} (S : GS)  (h_i_32 : fi S 32 = 0) (hrw : ∀ i, i < 6 → rw i = some (a (36 + 2 * i))) : Ct l D cy T0 tB tE yX11_honest cX11_honest 3 (some .boolean) 1 20 0 0 (cw cy tE a rw S) [.ref (a 0), .int 2, .int 1] (QI D (U := GS) (fun r u => 1 = r ∧ si S 32 1 = u) (cw cy tE a rw)) := by
  refine Ct.ofZ RX11 "honest" [(0, .ref (a 0)), (1, .int 2), (2, .int 1)] rfl rfl rfl rfl (Nat.le_of_ble_eq_true rfl) ?_
  intro p e R s m args below meth c A b
  refine z_iload_n b dX11_honest_0 rfl rfl ?_
  refine z_calli b (z_runS (As := [.int 2]) (st := []) b (c_X11_isRow_5 S ) cf_X11_isRow wm_X11_169 ws_X11_isRow dX11_honest_1 rfl (Nat.le_of_ble_eq_true rfl) ⟨by decide, by decide, by decide, by decide⟩) (fun r4161 u4162 h4160 => ?_)
  obtain ⟨rfl, rfl⟩ := h4160
  refine z_if_eq_f (tgt := 20) b dX11_honest_4 (by decide) (by decide) ?_
  refine z_aload_n b dX11_honest_7 rfl rfl ?_
  refine z_get (q0 := 0) (k9 := 7) (v := .ref (a 35)) b (cw_0 cy tE a rw S) rfl in_X11 (by decide) wf_X11_58 rfl dX11_honest_8 ?_
  refine z_iload_n b dX11_honest_11 rfl rfl ?_
  refine y_aald (q0 := 35) (t0 := 4) (j := 2) (v := .ref (a 40)) b (cw_35 cy tE a rw S) rfl (by decide) (by rw [hrw 2 (by decide)]; rfl) dX11_honest_12 ?_
  refine z_get (q0 := 40) (k9 := 2) (v := .int (fi S 32)) b (cw_40 cy tE a rw S) rfl in_X7 (by decide) wf_X11_178 rfl dX11_honest_13 ?_
  refine z_eqi h_i_32 ?_
  refine z_iload_n b dX11_honest_16 rfl rfl ?_
  refine z_icmp_ne_t (tgt := 22) b dX11_honest_17 (by decide) (by decide) ?_
  refine z_aload_n b dX11_honest_22 rfl rfl ?_
  refine z_get (q0 := 0) (k9 := 7) (v := .ref (a 35)) b (cw_0 cy tE a rw S) rfl in_X11 (by decide) wf_X11_58 rfl dX11_honest_23 ?_
  refine z_iload_n b dX11_honest_26 rfl rfl ?_
  refine y_aald (q0 := 35) (t0 := 4) (j := 2) (v := .ref (a 40)) b (cw_35 cy tE a rw S) rfl (by decide) (by rw [hrw 2 (by decide)]; rfl) dX11_honest_27 ?_
  refine z_iload_n b dX11_honest_28 rfl rfl ?_
  refine z_put (q0 := 40) (k9 := 2) tyX7 b (cw_40 cy tE a rw S) rfl in_X7 tyX7_ok nmX7 (by decide) wf_X11_178 rfl rfl rfl rfl (Nat.le_of_ble_eq_true rfl) dX11_honest_29 (cwp_40_2 cy tE a rw S 1) ?_
  refine z_iconst (v := 1) b dX11_honest_32 (by decide) ?_
  exact z_zret (u := (si S 32 1)) b rfl (by decide) dX11_honest_33 ⟨rfl, rfl⟩ rfl (by decide) (by decide)

set_option maxHeartbeats 4000000 in
set_option maxRecDepth 100000 in
theorem c_X12_honest_10 {l : Launch} {D : va_G} {cy : Nat → ClassId} {T0 tB tE : Nat} {a : Nat → Nat} (S : GS)  (h_a_39_2 : ar S 39 2 = 0) : Ct l D cy T0 tB tE yX12_honest cX12_honest 3 (some .boolean) 2 42 0 0 (mw cy a S) [.ref (a 0), .int 2, .int 1] (QI D (U := GS) (fun r u => 1 = r ∧ su S 39 2 1 = u) (mw cy a)) := by
  refine Ct.ofZ RX12 "honest" [(0, .ref (a 0)), (1, .int 2), (2, .int 1)] rfl rfl rfl rfl (Nat.le_of_ble_eq_true rfl) ?_
  intro p e R s m args below meth c A b
  refine z_iload_n b dX12_honest_0 rfl rfl ?_
  refine z_calli b (z_runS (As := [.int 2]) (st := []) b (c_X12_isRow_5 S ) cf_X12_isRow wm_X12_452 ws_X12_isRow dX12_honest_1 rfl (Nat.le_of_ble_eq_true rfl) ⟨by decide, by decide, by decide, by decide⟩) (fun r4164 u4165 h4163 => ?_)
  obtain ⟨rfl, rfl⟩ := h4163
  refine z_if_eq_f (tgt := 17) b dX12_honest_4 (by decide) (by decide) ?_
  refine z_aload_n b dX12_honest_7 rfl rfl ?_
  refine z_get (q0 := 0) (k9 := 67) (v := .ref (a 42)) b (mw_0 cy a S) rfl in_X12 (by decide) wf_X12_143 rfl dX12_honest_8 ?_
  refine z_iload_n b dX12_honest_11 rfl rfl ?_
  refine y_zald (q0 := 42) (j := 2) (v := (ar S 39 2)) b (mw_42 cy a S) (by decide) rfl dX12_honest_12 ?_
  refine z_eqi h_a_39_2 ?_
  refine z_iload_n b dX12_honest_13 rfl rfl ?_
  refine z_icmp_ne_t (tgt := 19) b dX12_honest_14 (by decide) (by decide) ?_
  refine z_aload_n b dX12_honest_19 rfl rfl ?_
  refine z_get (q0 := 0) (k9 := 67) (v := .ref (a 42)) b (mw_0 cy a S) rfl in_X12 (by decide) wf_X12_143 rfl dX12_honest_20 ?_
  refine z_iload_n b dX12_honest_23 rfl rfl ?_
  refine z_iload_n b dX12_honest_24 rfl rfl ?_
  refine y_zast (q0 := 42) (j := 2) b (mw_42 cy a S) (by decide) (by decide) dX12_honest_25 (mwa_42 cy a S 2 1) ?_
  refine z_iconst (v := 1) b dX12_honest_26 (by decide) ?_
  exact z_zret (u := (su S 39 2 1)) b rfl (by decide) dX12_honest_27 ⟨rfl, rfl⟩ rfl (by decide) (by decide)

set_option maxHeartbeats 4000000 in
set_option maxRecDepth 100000 in
theorem c_X11_honest_11 {l : Launch} {D : va_G} {cy : Nat → ClassId} {T0 tB tE : Nat} {a : Nat → Nat} {rw : Nat → Option Nat} (S : GS)  (h_i_34 : fi S 34 = 0) (hrw : ∀ i, i < 6 → rw i = some (a (36 + 2 * i))) : Ct l D cy T0 tB tE yX11_honest cX11_honest 3 (some .boolean) 1 20 0 0 (cw cy tE a rw S) [.ref (a 0), .int 3, .int 0] (QI D (U := GS) (fun r u => 0 = r ∧ S = u) (cw cy tE a rw)) := by
  refine Ct.ofZ RX11 "honest" [(0, .ref (a 0)), (1, .int 3), (2, .int 0)] rfl rfl rfl rfl (Nat.le_of_ble_eq_true rfl) ?_
  intro p e R s m args below meth c A b
  refine z_iload_n b dX11_honest_0 rfl rfl ?_
  refine z_calli b (z_runS (As := [.int 3]) (st := []) b (c_X11_isRow_6 S ) cf_X11_isRow wm_X11_169 ws_X11_isRow dX11_honest_1 rfl (Nat.le_of_ble_eq_true rfl) ⟨by decide, by decide, by decide, by decide⟩) (fun r4167 u4168 h4166 => ?_)
  obtain ⟨rfl, rfl⟩ := h4166
  refine z_if_eq_f (tgt := 20) b dX11_honest_4 (by decide) (by decide) ?_
  refine z_aload_n b dX11_honest_7 rfl rfl ?_
  refine z_get (q0 := 0) (k9 := 7) (v := .ref (a 35)) b (cw_0 cy tE a rw S) rfl in_X11 (by decide) wf_X11_58 rfl dX11_honest_8 ?_
  refine z_iload_n b dX11_honest_11 rfl rfl ?_
  refine y_aald (q0 := 35) (t0 := 4) (j := 3) (v := .ref (a 42)) b (cw_35 cy tE a rw S) rfl (by decide) (by rw [hrw 3 (by decide)]; rfl) dX11_honest_12 ?_
  refine z_get (q0 := 42) (k9 := 2) (v := .int (fi S 34)) b (cw_42 cy tE a rw S) rfl in_X7 (by decide) wf_X11_178 rfl dX11_honest_13 ?_
  refine z_eqi h_i_34 ?_
  refine z_iload_n b dX11_honest_16 rfl rfl ?_
  refine z_icmp_ne_f (tgt := 22) b dX11_honest_17 (by decide) (by decide) ?_
  refine z_iconst (v := 0) b dX11_honest_20 (by decide) ?_
  exact z_zret (u := S) b rfl (by decide) dX11_honest_21 ⟨rfl, rfl⟩ rfl (by decide) (by decide)

set_option maxHeartbeats 4000000 in
set_option maxRecDepth 100000 in
theorem c_X12_honest_11 {l : Launch} {D : va_G} {cy : Nat → ClassId} {T0 tB tE : Nat} {a : Nat → Nat} (S : GS)  (h_a_39_3 : ar S 39 3 = 0) : Ct l D cy T0 tB tE yX12_honest cX12_honest 3 (some .boolean) 2 42 0 0 (mw cy a S) [.ref (a 0), .int 3, .int 0] (QI D (U := GS) (fun r u => 0 = r ∧ S = u) (mw cy a)) := by
  refine Ct.ofZ RX12 "honest" [(0, .ref (a 0)), (1, .int 3), (2, .int 0)] rfl rfl rfl rfl (Nat.le_of_ble_eq_true rfl) ?_
  intro p e R s m args below meth c A b
  refine z_iload_n b dX12_honest_0 rfl rfl ?_
  refine z_calli b (z_runS (As := [.int 3]) (st := []) b (c_X12_isRow_6 S ) cf_X12_isRow wm_X12_452 ws_X12_isRow dX12_honest_1 rfl (Nat.le_of_ble_eq_true rfl) ⟨by decide, by decide, by decide, by decide⟩) (fun r4170 u4171 h4169 => ?_)
  obtain ⟨rfl, rfl⟩ := h4169
  refine z_if_eq_f (tgt := 17) b dX12_honest_4 (by decide) (by decide) ?_
  refine z_aload_n b dX12_honest_7 rfl rfl ?_
  refine z_get (q0 := 0) (k9 := 67) (v := .ref (a 42)) b (mw_0 cy a S) rfl in_X12 (by decide) wf_X12_143 rfl dX12_honest_8 ?_
  refine z_iload_n b dX12_honest_11 rfl rfl ?_
  refine y_zald (q0 := 42) (j := 3) (v := (ar S 39 3)) b (mw_42 cy a S) (by decide) rfl dX12_honest_12 ?_
  refine z_eqi h_a_39_3 ?_
  refine z_iload_n b dX12_honest_13 rfl rfl ?_
  refine z_icmp_ne_f (tgt := 19) b dX12_honest_14 (by decide) (by decide) ?_
  refine z_iconst (v := 0) b dX12_honest_17 (by decide) ?_
  exact z_zret (u := S) b rfl (by decide) dX12_honest_18 ⟨rfl, rfl⟩ rfl (by decide) (by decide)

set_option maxHeartbeats 4000000 in
set_option maxRecDepth 100000 in
theorem c_X11_honest_12 {l : Launch} {D : va_G} {cy : Nat → ClassId} {T0 tB tE : Nat} {a : Nat → Nat} {rw : Nat → Option Nat} (S : GS)  (h_i_34 : fi S 34 = 0) (hrw : ∀ i, i < 6 → rw i = some (a (36 + 2 * i))) : Ct l D cy T0 tB tE yX11_honest cX11_honest 3 (some .boolean) 1 20 0 0 (cw cy tE a rw S) [.ref (a 0), .int 3, .int 1] (QI D (U := GS) (fun r u => 1 = r ∧ si S 34 1 = u) (cw cy tE a rw)) := by
  refine Ct.ofZ RX11 "honest" [(0, .ref (a 0)), (1, .int 3), (2, .int 1)] rfl rfl rfl rfl (Nat.le_of_ble_eq_true rfl) ?_
  intro p e R s m args below meth c A b
  refine z_iload_n b dX11_honest_0 rfl rfl ?_
  refine z_calli b (z_runS (As := [.int 3]) (st := []) b (c_X11_isRow_6 S ) cf_X11_isRow wm_X11_169 ws_X11_isRow dX11_honest_1 rfl (Nat.le_of_ble_eq_true rfl) ⟨by decide, by decide, by decide, by decide⟩) (fun r4173 u4174 h4172 => ?_)
  obtain ⟨rfl, rfl⟩ := h4172
  refine z_if_eq_f (tgt := 20) b dX11_honest_4 (by decide) (by decide) ?_
  refine z_aload_n b dX11_honest_7 rfl rfl ?_
  refine z_get (q0 := 0) (k9 := 7) (v := .ref (a 35)) b (cw_0 cy tE a rw S) rfl in_X11 (by decide) wf_X11_58 rfl dX11_honest_8 ?_
  refine z_iload_n b dX11_honest_11 rfl rfl ?_
  refine y_aald (q0 := 35) (t0 := 4) (j := 3) (v := .ref (a 42)) b (cw_35 cy tE a rw S) rfl (by decide) (by rw [hrw 3 (by decide)]; rfl) dX11_honest_12 ?_
  refine z_get (q0 := 42) (k9 := 2) (v := .int (fi S 34)) b (cw_42 cy tE a rw S) rfl in_X7 (by decide) wf_X11_178 rfl dX11_honest_13 ?_
  refine z_eqi h_i_34 ?_
  refine z_iload_n b dX11_honest_16 rfl rfl ?_
  refine z_icmp_ne_t (tgt := 22) b dX11_honest_17 (by decide) (by decide) ?_
  refine z_aload_n b dX11_honest_22 rfl rfl ?_
  refine z_get (q0 := 0) (k9 := 7) (v := .ref (a 35)) b (cw_0 cy tE a rw S) rfl in_X11 (by decide) wf_X11_58 rfl dX11_honest_23 ?_
  refine z_iload_n b dX11_honest_26 rfl rfl ?_
  refine y_aald (q0 := 35) (t0 := 4) (j := 3) (v := .ref (a 42)) b (cw_35 cy tE a rw S) rfl (by decide) (by rw [hrw 3 (by decide)]; rfl) dX11_honest_27 ?_
  refine z_iload_n b dX11_honest_28 rfl rfl ?_
  refine z_put (q0 := 42) (k9 := 2) tyX7 b (cw_42 cy tE a rw S) rfl in_X7 tyX7_ok nmX7 (by decide) wf_X11_178 rfl rfl rfl rfl (Nat.le_of_ble_eq_true rfl) dX11_honest_29 (cwp_42_2 cy tE a rw S 1) ?_
  refine z_iconst (v := 1) b dX11_honest_32 (by decide) ?_
  exact z_zret (u := (si S 34 1)) b rfl (by decide) dX11_honest_33 ⟨rfl, rfl⟩ rfl (by decide) (by decide)

set_option maxHeartbeats 4000000 in
set_option maxRecDepth 100000 in
theorem c_X12_honest_12 {l : Launch} {D : va_G} {cy : Nat → ClassId} {T0 tB tE : Nat} {a : Nat → Nat} (S : GS)  (h_a_39_3 : ar S 39 3 = 0) : Ct l D cy T0 tB tE yX12_honest cX12_honest 3 (some .boolean) 2 42 0 0 (mw cy a S) [.ref (a 0), .int 3, .int 1] (QI D (U := GS) (fun r u => 1 = r ∧ su S 39 3 1 = u) (mw cy a)) := by
  refine Ct.ofZ RX12 "honest" [(0, .ref (a 0)), (1, .int 3), (2, .int 1)] rfl rfl rfl rfl (Nat.le_of_ble_eq_true rfl) ?_
  intro p e R s m args below meth c A b
  refine z_iload_n b dX12_honest_0 rfl rfl ?_
  refine z_calli b (z_runS (As := [.int 3]) (st := []) b (c_X12_isRow_6 S ) cf_X12_isRow wm_X12_452 ws_X12_isRow dX12_honest_1 rfl (Nat.le_of_ble_eq_true rfl) ⟨by decide, by decide, by decide, by decide⟩) (fun r4176 u4177 h4175 => ?_)
  obtain ⟨rfl, rfl⟩ := h4175
  refine z_if_eq_f (tgt := 17) b dX12_honest_4 (by decide) (by decide) ?_
  refine z_aload_n b dX12_honest_7 rfl rfl ?_
  refine z_get (q0 := 0) (k9 := 67) (v := .ref (a 42)) b (mw_0 cy a S) rfl in_X12 (by decide) wf_X12_143 rfl dX12_honest_8 ?_
  refine z_iload_n b dX12_honest_11 rfl rfl ?_
  refine y_zald (q0 := 42) (j := 3) (v := (ar S 39 3)) b (mw_42 cy a S) (by decide) rfl dX12_honest_12 ?_
  refine z_eqi h_a_39_3 ?_
  refine z_iload_n b dX12_honest_13 rfl rfl ?_
  refine z_icmp_ne_t (tgt := 19) b dX12_honest_14 (by decide) (by decide) ?_
  refine z_aload_n b dX12_honest_19 rfl rfl ?_
  refine z_get (q0 := 0) (k9 := 67) (v := .ref (a 42)) b (mw_0 cy a S) rfl in_X12 (by decide) wf_X12_143 rfl dX12_honest_20 ?_
  refine z_iload_n b dX12_honest_23 rfl rfl ?_
  refine z_iload_n b dX12_honest_24 rfl rfl ?_
  refine y_zast (q0 := 42) (j := 3) b (mw_42 cy a S) (by decide) (by decide) dX12_honest_25 (mwa_42 cy a S 3 1) ?_
  refine z_iconst (v := 1) b dX12_honest_26 (by decide) ?_
  exact z_zret (u := (su S 39 3 1)) b rfl (by decide) dX12_honest_27 ⟨rfl, rfl⟩ rfl (by decide) (by decide)

set_option maxHeartbeats 4000000 in
set_option maxRecDepth 100000 in
theorem c_X11_honest_13 {l : Launch} {D : va_G} {cy : Nat → ClassId} {T0 tB tE : Nat} {a : Nat → Nat} {rw : Nat → Option Nat} (S : GS)  (h_i_36 : fi S 36 = 0) (hrw : ∀ i, i < 6 → rw i = some (a (36 + 2 * i))) : Ct l D cy T0 tB tE yX11_honest cX11_honest 3 (some .boolean) 1 20 0 0 (cw cy tE a rw S) [.ref (a 0), .int 4, .int 0] (QI D (U := GS) (fun r u => 0 = r ∧ S = u) (cw cy tE a rw)) := by
  refine Ct.ofZ RX11 "honest" [(0, .ref (a 0)), (1, .int 4), (2, .int 0)] rfl rfl rfl rfl (Nat.le_of_ble_eq_true rfl) ?_
  intro p e R s m args below meth c A b
  refine z_iload_n b dX11_honest_0 rfl rfl ?_
  refine z_calli b (z_runS (As := [.int 4]) (st := []) b (c_X11_isRow_7 S ) cf_X11_isRow wm_X11_169 ws_X11_isRow dX11_honest_1 rfl (Nat.le_of_ble_eq_true rfl) ⟨by decide, by decide, by decide, by decide⟩) (fun r4179 u4180 h4178 => ?_)
  obtain ⟨rfl, rfl⟩ := h4178
  refine z_if_eq_f (tgt := 20) b dX11_honest_4 (by decide) (by decide) ?_
  refine z_aload_n b dX11_honest_7 rfl rfl ?_
  refine z_get (q0 := 0) (k9 := 7) (v := .ref (a 35)) b (cw_0 cy tE a rw S) rfl in_X11 (by decide) wf_X11_58 rfl dX11_honest_8 ?_
  refine z_iload_n b dX11_honest_11 rfl rfl ?_
  refine y_aald (q0 := 35) (t0 := 4) (j := 4) (v := .ref (a 44)) b (cw_35 cy tE a rw S) rfl (by decide) (by rw [hrw 4 (by decide)]; rfl) dX11_honest_12 ?_
  refine z_get (q0 := 44) (k9 := 2) (v := .int (fi S 36)) b (cw_44 cy tE a rw S) rfl in_X7 (by decide) wf_X11_178 rfl dX11_honest_13 ?_
  refine z_eqi h_i_36 ?_
  refine z_iload_n b dX11_honest_16 rfl rfl ?_
  refine z_icmp_ne_f (tgt := 22) b dX11_honest_17 (by decide) (by decide) ?_
  refine z_iconst (v := 0) b dX11_honest_20 (by decide) ?_
  exact z_zret (u := S) b rfl (by decide) dX11_honest_21 ⟨rfl, rfl⟩ rfl (by decide) (by decide)

set_option maxHeartbeats 4000000 in
set_option maxRecDepth 100000 in
theorem c_X12_honest_13 {l : Launch} {D : va_G} {cy : Nat → ClassId} {T0 tB tE : Nat} {a : Nat → Nat} (S : GS)  (h_a_39_4 : ar S 39 4 = 0) : Ct l D cy T0 tB tE yX12_honest cX12_honest 3 (some .boolean) 2 42 0 0 (mw cy a S) [.ref (a 0), .int 4, .int 0] (QI D (U := GS) (fun r u => 0 = r ∧ S = u) (mw cy a)) := by
  refine Ct.ofZ RX12 "honest" [(0, .ref (a 0)), (1, .int 4), (2, .int 0)] rfl rfl rfl rfl (Nat.le_of_ble_eq_true rfl) ?_
  intro p e R s m args below meth c A b
  refine z_iload_n b dX12_honest_0 rfl rfl ?_
  refine z_calli b (z_runS (As := [.int 4]) (st := []) b (c_X12_isRow_7 S ) cf_X12_isRow wm_X12_452 ws_X12_isRow dX12_honest_1 rfl (Nat.le_of_ble_eq_true rfl) ⟨by decide, by decide, by decide, by decide⟩) (fun r4182 u4183 h4181 => ?_)
  obtain ⟨rfl, rfl⟩ := h4181
  refine z_if_eq_f (tgt := 17) b dX12_honest_4 (by decide) (by decide) ?_
  refine z_aload_n b dX12_honest_7 rfl rfl ?_
  refine z_get (q0 := 0) (k9 := 67) (v := .ref (a 42)) b (mw_0 cy a S) rfl in_X12 (by decide) wf_X12_143 rfl dX12_honest_8 ?_
  refine z_iload_n b dX12_honest_11 rfl rfl ?_
  refine y_zald (q0 := 42) (j := 4) (v := (ar S 39 4)) b (mw_42 cy a S) (by decide) rfl dX12_honest_12 ?_
  refine z_eqi h_a_39_4 ?_
  refine z_iload_n b dX12_honest_13 rfl rfl ?_
  refine z_icmp_ne_f (tgt := 19) b dX12_honest_14 (by decide) (by decide) ?_
  refine z_iconst (v := 0) b dX12_honest_17 (by decide) ?_
  exact z_zret (u := S) b rfl (by decide) dX12_honest_18 ⟨rfl, rfl⟩ rfl (by decide) (by decide)

set_option maxHeartbeats 4000000 in
set_option maxRecDepth 100000 in
theorem c_X11_honest_14 {l : Launch} {D : va_G} {cy : Nat → ClassId} {T0 tB tE : Nat} {a : Nat → Nat} {rw : Nat → Option Nat} (S : GS)  (h_i_36 : fi S 36 = 0) (hrw : ∀ i, i < 6 → rw i = some (a (36 + 2 * i))) : Ct l D cy T0 tB tE yX11_honest cX11_honest 3 (some .boolean) 1 20 0 0 (cw cy tE a rw S) [.ref (a 0), .int 4, .int 1] (QI D (U := GS) (fun r u => 1 = r ∧ si S 36 1 = u) (cw cy tE a rw)) := by
  refine Ct.ofZ RX11 "honest" [(0, .ref (a 0)), (1, .int 4), (2, .int 1)] rfl rfl rfl rfl (Nat.le_of_ble_eq_true rfl) ?_
  intro p e R s m args below meth c A b
  refine z_iload_n b dX11_honest_0 rfl rfl ?_
  refine z_calli b (z_runS (As := [.int 4]) (st := []) b (c_X11_isRow_7 S ) cf_X11_isRow wm_X11_169 ws_X11_isRow dX11_honest_1 rfl (Nat.le_of_ble_eq_true rfl) ⟨by decide, by decide, by decide, by decide⟩) (fun r4185 u4186 h4184 => ?_)
  obtain ⟨rfl, rfl⟩ := h4184
  refine z_if_eq_f (tgt := 20) b dX11_honest_4 (by decide) (by decide) ?_
  refine z_aload_n b dX11_honest_7 rfl rfl ?_
  refine z_get (q0 := 0) (k9 := 7) (v := .ref (a 35)) b (cw_0 cy tE a rw S) rfl in_X11 (by decide) wf_X11_58 rfl dX11_honest_8 ?_
  refine z_iload_n b dX11_honest_11 rfl rfl ?_
  refine y_aald (q0 := 35) (t0 := 4) (j := 4) (v := .ref (a 44)) b (cw_35 cy tE a rw S) rfl (by decide) (by rw [hrw 4 (by decide)]; rfl) dX11_honest_12 ?_
  refine z_get (q0 := 44) (k9 := 2) (v := .int (fi S 36)) b (cw_44 cy tE a rw S) rfl in_X7 (by decide) wf_X11_178 rfl dX11_honest_13 ?_
  refine z_eqi h_i_36 ?_
  refine z_iload_n b dX11_honest_16 rfl rfl ?_
  refine z_icmp_ne_t (tgt := 22) b dX11_honest_17 (by decide) (by decide) ?_
  refine z_aload_n b dX11_honest_22 rfl rfl ?_
  refine z_get (q0 := 0) (k9 := 7) (v := .ref (a 35)) b (cw_0 cy tE a rw S) rfl in_X11 (by decide) wf_X11_58 rfl dX11_honest_23 ?_
  refine z_iload_n b dX11_honest_26 rfl rfl ?_
  refine y_aald (q0 := 35) (t0 := 4) (j := 4) (v := .ref (a 44)) b (cw_35 cy tE a rw S) rfl (by decide) (by rw [hrw 4 (by decide)]; rfl) dX11_honest_27 ?_
  refine z_iload_n b dX11_honest_28 rfl rfl ?_
  refine z_put (q0 := 44) (k9 := 2) tyX7 b (cw_44 cy tE a rw S) rfl in_X7 tyX7_ok nmX7 (by decide) wf_X11_178 rfl rfl rfl rfl (Nat.le_of_ble_eq_true rfl) dX11_honest_29 (cwp_44_2 cy tE a rw S 1) ?_
  refine z_iconst (v := 1) b dX11_honest_32 (by decide) ?_
  exact z_zret (u := (si S 36 1)) b rfl (by decide) dX11_honest_33 ⟨rfl, rfl⟩ rfl (by decide) (by decide)

set_option maxHeartbeats 4000000 in
set_option maxRecDepth 100000 in
theorem c_X12_honest_14 {l : Launch} {D : va_G} {cy : Nat → ClassId} {T0 tB tE : Nat} {a : Nat → Nat} (S : GS)  (h_a_39_4 : ar S 39 4 = 0) : Ct l D cy T0 tB tE yX12_honest cX12_honest 3 (some .boolean) 2 42 0 0 (mw cy a S) [.ref (a 0), .int 4, .int 1] (QI D (U := GS) (fun r u => 1 = r ∧ su S 39 4 1 = u) (mw cy a)) := by
  refine Ct.ofZ RX12 "honest" [(0, .ref (a 0)), (1, .int 4), (2, .int 1)] rfl rfl rfl rfl (Nat.le_of_ble_eq_true rfl) ?_
  intro p e R s m args below meth c A b
  refine z_iload_n b dX12_honest_0 rfl rfl ?_
  refine z_calli b (z_runS (As := [.int 4]) (st := []) b (c_X12_isRow_7 S ) cf_X12_isRow wm_X12_452 ws_X12_isRow dX12_honest_1 rfl (Nat.le_of_ble_eq_true rfl) ⟨by decide, by decide, by decide, by decide⟩) (fun r4188 u4189 h4187 => ?_)
  obtain ⟨rfl, rfl⟩ := h4187
  refine z_if_eq_f (tgt := 17) b dX12_honest_4 (by decide) (by decide) ?_
  refine z_aload_n b dX12_honest_7 rfl rfl ?_
  refine z_get (q0 := 0) (k9 := 67) (v := .ref (a 42)) b (mw_0 cy a S) rfl in_X12 (by decide) wf_X12_143 rfl dX12_honest_8 ?_
  refine z_iload_n b dX12_honest_11 rfl rfl ?_
  refine y_zald (q0 := 42) (j := 4) (v := (ar S 39 4)) b (mw_42 cy a S) (by decide) rfl dX12_honest_12 ?_
  refine z_eqi h_a_39_4 ?_
  refine z_iload_n b dX12_honest_13 rfl rfl ?_
  refine z_icmp_ne_t (tgt := 19) b dX12_honest_14 (by decide) (by decide) ?_
  refine z_aload_n b dX12_honest_19 rfl rfl ?_
  refine z_get (q0 := 0) (k9 := 67) (v := .ref (a 42)) b (mw_0 cy a S) rfl in_X12 (by decide) wf_X12_143 rfl dX12_honest_20 ?_
  refine z_iload_n b dX12_honest_23 rfl rfl ?_
  refine z_iload_n b dX12_honest_24 rfl rfl ?_
  refine y_zast (q0 := 42) (j := 4) b (mw_42 cy a S) (by decide) (by decide) dX12_honest_25 (mwa_42 cy a S 4 1) ?_
  refine z_iconst (v := 1) b dX12_honest_26 (by decide) ?_
  exact z_zret (u := (su S 39 4 1)) b rfl (by decide) dX12_honest_27 ⟨rfl, rfl⟩ rfl (by decide) (by decide)

set_option maxHeartbeats 4000000 in
set_option maxRecDepth 100000 in
theorem c_X11_honest_15 {l : Launch} {D : va_G} {cy : Nat → ClassId} {T0 tB tE : Nat} {a : Nat → Nat} {rw : Nat → Option Nat} (S : GS)  (h_i_38 : fi S 38 = 0) (hrw : ∀ i, i < 6 → rw i = some (a (36 + 2 * i))) : Ct l D cy T0 tB tE yX11_honest cX11_honest 3 (some .boolean) 1 20 0 0 (cw cy tE a rw S) [.ref (a 0), .int 5, .int 0] (QI D (U := GS) (fun r u => 0 = r ∧ S = u) (cw cy tE a rw)) := by
  refine Ct.ofZ RX11 "honest" [(0, .ref (a 0)), (1, .int 5), (2, .int 0)] rfl rfl rfl rfl (Nat.le_of_ble_eq_true rfl) ?_
  intro p e R s m args below meth c A b
  refine z_iload_n b dX11_honest_0 rfl rfl ?_
  refine z_calli b (z_runS (As := [.int 5]) (st := []) b (c_X11_isRow_8 S ) cf_X11_isRow wm_X11_169 ws_X11_isRow dX11_honest_1 rfl (Nat.le_of_ble_eq_true rfl) ⟨by decide, by decide, by decide, by decide⟩) (fun r4191 u4192 h4190 => ?_)
  obtain ⟨rfl, rfl⟩ := h4190
  refine z_if_eq_f (tgt := 20) b dX11_honest_4 (by decide) (by decide) ?_
  refine z_aload_n b dX11_honest_7 rfl rfl ?_
  refine z_get (q0 := 0) (k9 := 7) (v := .ref (a 35)) b (cw_0 cy tE a rw S) rfl in_X11 (by decide) wf_X11_58 rfl dX11_honest_8 ?_
  refine z_iload_n b dX11_honest_11 rfl rfl ?_
  refine y_aald (q0 := 35) (t0 := 4) (j := 5) (v := .ref (a 46)) b (cw_35 cy tE a rw S) rfl (by decide) (by rw [hrw 5 (by decide)]; rfl) dX11_honest_12 ?_
  refine z_get (q0 := 46) (k9 := 2) (v := .int (fi S 38)) b (cw_46 cy tE a rw S) rfl in_X7 (by decide) wf_X11_178 rfl dX11_honest_13 ?_
  refine z_eqi h_i_38 ?_
  refine z_iload_n b dX11_honest_16 rfl rfl ?_
  refine z_icmp_ne_f (tgt := 22) b dX11_honest_17 (by decide) (by decide) ?_
  refine z_iconst (v := 0) b dX11_honest_20 (by decide) ?_
  exact z_zret (u := S) b rfl (by decide) dX11_honest_21 ⟨rfl, rfl⟩ rfl (by decide) (by decide)

set_option maxHeartbeats 4000000 in
set_option maxRecDepth 100000 in
theorem c_X12_honest_15 {l : Launch} {D : va_G} {cy : Nat → ClassId} {T0 tB tE : Nat} {a : Nat → Nat} (S : GS)  (h_a_39_5 : ar S 39 5 = 0) : Ct l D cy T0 tB tE yX12_honest cX12_honest 3 (some .boolean) 2 42 0 0 (mw cy a S) [.ref (a 0), .int 5, .int 0] (QI D (U := GS) (fun r u => 0 = r ∧ S = u) (mw cy a)) := by
  refine Ct.ofZ RX12 "honest" [(0, .ref (a 0)), (1, .int 5), (2, .int 0)] rfl rfl rfl rfl (Nat.le_of_ble_eq_true rfl) ?_
  intro p e R s m args below meth c A b
  refine z_iload_n b dX12_honest_0 rfl rfl ?_
  refine z_calli b (z_runS (As := [.int 5]) (st := []) b (c_X12_isRow_8 S ) cf_X12_isRow wm_X12_452 ws_X12_isRow dX12_honest_1 rfl (Nat.le_of_ble_eq_true rfl) ⟨by decide, by decide, by decide, by decide⟩) (fun r4194 u4195 h4193 => ?_)
  obtain ⟨rfl, rfl⟩ := h4193
  refine z_if_eq_f (tgt := 17) b dX12_honest_4 (by decide) (by decide) ?_
  refine z_aload_n b dX12_honest_7 rfl rfl ?_
  refine z_get (q0 := 0) (k9 := 67) (v := .ref (a 42)) b (mw_0 cy a S) rfl in_X12 (by decide) wf_X12_143 rfl dX12_honest_8 ?_
  refine z_iload_n b dX12_honest_11 rfl rfl ?_
  refine y_zald (q0 := 42) (j := 5) (v := (ar S 39 5)) b (mw_42 cy a S) (by decide) rfl dX12_honest_12 ?_
  refine z_eqi h_a_39_5 ?_
  refine z_iload_n b dX12_honest_13 rfl rfl ?_
  refine z_icmp_ne_f (tgt := 19) b dX12_honest_14 (by decide) (by decide) ?_
  refine z_iconst (v := 0) b dX12_honest_17 (by decide) ?_
  exact z_zret (u := S) b rfl (by decide) dX12_honest_18 ⟨rfl, rfl⟩ rfl (by decide) (by decide)

set_option maxHeartbeats 4000000 in
set_option maxRecDepth 100000 in
theorem c_X11_honest_16 {l : Launch} {D : va_G} {cy : Nat → ClassId} {T0 tB tE : Nat} {a : Nat → Nat} {rw : Nat → Option Nat} (S : GS)  (h_i_38 : fi S 38 = 0) (hrw : ∀ i, i < 6 → rw i = some (a (36 + 2 * i))) : Ct l D cy T0 tB tE yX11_honest cX11_honest 3 (some .boolean) 1 20 0 0 (cw cy tE a rw S) [.ref (a 0), .int 5, .int 1] (QI D (U := GS) (fun r u => 1 = r ∧ si S 38 1 = u) (cw cy tE a rw)) := by
  refine Ct.ofZ RX11 "honest" [(0, .ref (a 0)), (1, .int 5), (2, .int 1)] rfl rfl rfl rfl (Nat.le_of_ble_eq_true rfl) ?_
  intro p e R s m args below meth c A b
  refine z_iload_n b dX11_honest_0 rfl rfl ?_
  refine z_calli b (z_runS (As := [.int 5]) (st := []) b (c_X11_isRow_8 S ) cf_X11_isRow wm_X11_169 ws_X11_isRow dX11_honest_1 rfl (Nat.le_of_ble_eq_true rfl) ⟨by decide, by decide, by decide, by decide⟩) (fun r4197 u4198 h4196 => ?_)
  obtain ⟨rfl, rfl⟩ := h4196
  refine z_if_eq_f (tgt := 20) b dX11_honest_4 (by decide) (by decide) ?_
  refine z_aload_n b dX11_honest_7 rfl rfl ?_
  refine z_get (q0 := 0) (k9 := 7) (v := .ref (a 35)) b (cw_0 cy tE a rw S) rfl in_X11 (by decide) wf_X11_58 rfl dX11_honest_8 ?_
  refine z_iload_n b dX11_honest_11 rfl rfl ?_
  refine y_aald (q0 := 35) (t0 := 4) (j := 5) (v := .ref (a 46)) b (cw_35 cy tE a rw S) rfl (by decide) (by rw [hrw 5 (by decide)]; rfl) dX11_honest_12 ?_
  refine z_get (q0 := 46) (k9 := 2) (v := .int (fi S 38)) b (cw_46 cy tE a rw S) rfl in_X7 (by decide) wf_X11_178 rfl dX11_honest_13 ?_
  refine z_eqi h_i_38 ?_
  refine z_iload_n b dX11_honest_16 rfl rfl ?_
  refine z_icmp_ne_t (tgt := 22) b dX11_honest_17 (by decide) (by decide) ?_
  refine z_aload_n b dX11_honest_22 rfl rfl ?_
  refine z_get (q0 := 0) (k9 := 7) (v := .ref (a 35)) b (cw_0 cy tE a rw S) rfl in_X11 (by decide) wf_X11_58 rfl dX11_honest_23 ?_
  refine z_iload_n b dX11_honest_26 rfl rfl ?_
  refine y_aald (q0 := 35) (t0 := 4) (j := 5) (v := .ref (a 46)) b (cw_35 cy tE a rw S) rfl (by decide) (by rw [hrw 5 (by decide)]; rfl) dX11_honest_27 ?_
  refine z_iload_n b dX11_honest_28 rfl rfl ?_
  refine z_put (q0 := 46) (k9 := 2) tyX7 b (cw_46 cy tE a rw S) rfl in_X7 tyX7_ok nmX7 (by decide) wf_X11_178 rfl rfl rfl rfl (Nat.le_of_ble_eq_true rfl) dX11_honest_29 (cwp_46_2 cy tE a rw S 1) ?_
  refine z_iconst (v := 1) b dX11_honest_32 (by decide) ?_
  exact z_zret (u := (si S 38 1)) b rfl (by decide) dX11_honest_33 ⟨rfl, rfl⟩ rfl (by decide) (by decide)

set_option maxHeartbeats 4000000 in
set_option maxRecDepth 100000 in
theorem c_X12_honest_16 {l : Launch} {D : va_G} {cy : Nat → ClassId} {T0 tB tE : Nat} {a : Nat → Nat} (S : GS)  (h_a_39_5 : ar S 39 5 = 0) : Ct l D cy T0 tB tE yX12_honest cX12_honest 3 (some .boolean) 2 42 0 0 (mw cy a S) [.ref (a 0), .int 5, .int 1] (QI D (U := GS) (fun r u => 1 = r ∧ su S 39 5 1 = u) (mw cy a)) := by
  refine Ct.ofZ RX12 "honest" [(0, .ref (a 0)), (1, .int 5), (2, .int 1)] rfl rfl rfl rfl (Nat.le_of_ble_eq_true rfl) ?_
  intro p e R s m args below meth c A b
  refine z_iload_n b dX12_honest_0 rfl rfl ?_
  refine z_calli b (z_runS (As := [.int 5]) (st := []) b (c_X12_isRow_8 S ) cf_X12_isRow wm_X12_452 ws_X12_isRow dX12_honest_1 rfl (Nat.le_of_ble_eq_true rfl) ⟨by decide, by decide, by decide, by decide⟩) (fun r4200 u4201 h4199 => ?_)
  obtain ⟨rfl, rfl⟩ := h4199
  refine z_if_eq_f (tgt := 17) b dX12_honest_4 (by decide) (by decide) ?_
  refine z_aload_n b dX12_honest_7 rfl rfl ?_
  refine z_get (q0 := 0) (k9 := 67) (v := .ref (a 42)) b (mw_0 cy a S) rfl in_X12 (by decide) wf_X12_143 rfl dX12_honest_8 ?_
  refine z_iload_n b dX12_honest_11 rfl rfl ?_
  refine y_zald (q0 := 42) (j := 5) (v := (ar S 39 5)) b (mw_42 cy a S) (by decide) rfl dX12_honest_12 ?_
  refine z_eqi h_a_39_5 ?_
  refine z_iload_n b dX12_honest_13 rfl rfl ?_
  refine z_icmp_ne_t (tgt := 19) b dX12_honest_14 (by decide) (by decide) ?_
  refine z_aload_n b dX12_honest_19 rfl rfl ?_
  refine z_get (q0 := 0) (k9 := 67) (v := .ref (a 42)) b (mw_0 cy a S) rfl in_X12 (by decide) wf_X12_143 rfl dX12_honest_20 ?_
  refine z_iload_n b dX12_honest_23 rfl rfl ?_
  refine z_iload_n b dX12_honest_24 rfl rfl ?_
  refine y_zast (q0 := 42) (j := 5) b (mw_42 cy a S) (by decide) (by decide) dX12_honest_25 (mwa_42 cy a S 5 1) ?_
  refine z_iconst (v := 1) b dX12_honest_26 (by decide) ?_
  exact z_zret (u := (su S 39 5 1)) b rfl (by decide) dX12_honest_27 ⟨rfl, rfl⟩ rfl (by decide) (by decide)

set_option maxHeartbeats 4000000 in
set_option maxRecDepth 100000 in
theorem c_X11_past {l : Launch} {D : va_G} {cy : Nat → ClassId} {T0 tB tE : Nat} {a : Nat → Nat} {rw : Nat → Option Nat} (S : GS) (p0 : Int32)  (hr_p0 : (-2147483648) ≤ p0.toInt ∧ p0.toInt ≤ (-1)) : Ct l D cy T0 tB tE yX11_past cX11_past 2 (some .int) 1 21 0 0 (cw cy tE a rw S) [.ref (a 0), .int p0] (QI D (U := GS) (fun r u => (-1) = r ∧ S = u) (cw cy tE a rw)) := by
  refine Ct.ofZ RX11 "past" [(0, .ref (a 0)), (1, .int p0)] rfl rfl rfl rfl (Nat.le_of_ble_eq_true rfl) ?_
  intro p e R s m args below meth c A b
  refine z_iload_n b dX11_past_0 rfl rfl ?_
  refine z_sipush (v := 767) b dX11_past_1 (by decide) ?_
  refine z_calli b (z_runS (As := [.int p0, .int 767]) (st := []) b (c_X11_isWithin_20 S p0 ⟨by omega, by omega⟩) cf_X11_isWithin wm_X11_73 ws_X11_isWithin dX11_past_4 rfl (Nat.le_of_ble_eq_true rfl) ⟨by decide, by decide, by decide, by decide⟩) (fun r4203 u4204 h4202 => ?_)
  obtain ⟨rfl, rfl⟩ := h4202
  refine z_if_eq_t (tgt := 21) b dX11_past_7 (by decide) (by decide) ?_
  refine z_iconst (v := (-1)) b dX11_past_21 (by decide) ?_
  exact z_iret (u := S) b rfl dX11_past_22 ⟨rfl, rfl⟩ rfl (by decide) (by decide)

set_option maxHeartbeats 4000000 in
set_option maxRecDepth 100000 in
theorem c_X12_past {l : Launch} {D : va_G} {cy : Nat → ClassId} {T0 tB tE : Nat} {a : Nat → Nat} (S : GS) (p0 : Int32)  (hr_p0 : (-2147483648) ≤ p0.toInt ∧ p0.toInt ≤ (-1)) : Ct l D cy T0 tB tE yX12_past cX12_past 2 (some .int) 2 42 0 0 (mw cy a S) [.ref (a 0), .int p0] (QI D (U := GS) (fun r u => (-1) = r ∧ S = u) (mw cy a)) := by
  refine Ct.ofZ RX12 "past" [(0, .ref (a 0)), (1, .int p0)] rfl rfl rfl rfl (Nat.le_of_ble_eq_true rfl) ?_
  intro p e R s m args below meth c A b
  refine z_iload_n b dX12_past_0 rfl rfl ?_
  refine z_calli b (z_runS (As := [.int p0]) (st := []) b (c_X12_isNumber S p0 ⟨by omega, by omega⟩) cf_X12_isNumber wm_X12_455 ws_X12_isNumber dX12_past_1 rfl (Nat.le_of_ble_eq_true rfl) ⟨by decide, by decide, by decide, by decide⟩) (fun r4206 u4207 h4205 => ?_)
  obtain ⟨rfl, rfl⟩ := h4205
  refine z_if_eq_t (tgt := 17) b dX12_past_4 (by decide) (by decide) ?_
  refine z_iconst (v := (-1)) b dX12_past_17 (by decide) ?_
  exact z_iret (u := S) b rfl dX12_past_18 ⟨rfl, rfl⟩ rfl (by decide) (by decide)

set_option maxHeartbeats 4000000 in
set_option maxRecDepth 100000 in
theorem c_X7_add_7 {l : Launch} {D : va_G} {cy : Nat → ClassId} {T0 tB tE : Nat} {a : Nat → Nat} {rw : Nat → Option Nat} (S : GS) (p0 : Int32) (h_i_39 : fi S 39 = 0) (hr_p0 : 0 ≤ p0.toInt ∧ p0.toInt ≤ 767) : Ct l D cy T0 tB tE yX7_add cX7_add 2 (some .int) 0 0 0 0 (cw cy tE a rw S) [.ref (a 48), .int p0] (QI D (U := GS) (fun r u => 1 = r ∧ si (su S 21 0 p0) 39 1 = u) (cw cy tE a rw)) := by
  refine Ct.ofZ RX7 "add" [(0, .ref (a 48)), (1, .int p0)] rfl rfl rfl rfl (Nat.le_of_ble_eq_true rfl) ?_
  intro p e R s m args below meth c A b
  refine z_aload_n b dX7_add_0 rfl rfl ?_
  refine z_get (q0 := 48) (k9 := 1) (v := .int (fi S 39)) b (cw_48 cy tE a rw S) rfl in_X7 (by decide) wf_X7_9 rfl dX7_add_1 ?_
  refine z_eqi h_i_39 ?_
  refine z_if_lt_f (tgt := 19) b dX7_add_4 (by decide) (by decide) ?_
  refine z_aload_n b dX7_add_7 rfl rfl ?_
  refine z_get (q0 := 48) (k9 := 1) (v := .int (fi S 39)) b (cw_48 cy tE a rw S) rfl in_X7 (by decide) wf_X7_9 rfl dX7_add_8 ?_
  refine z_eqi h_i_39 ?_
  refine z_aload_n b dX7_add_11 rfl rfl ?_
  refine z_get (q0 := 48) (k9 := 0) (v := .ref (a 49)) b (cw_48 cy tE a rw S) rfl in_X7 (by decide) wf_X7_25 rfl dX7_add_12 ?_
  refine z_alen (q0 := 49) (t0 := 0) (v := 200) b (cw_49 cy tE a rw S) rfl rfl dX7_add_15 ?_
  refine z_icmp_lt_t (tgt := 21) b dX7_add_16 (by decide) (by decide) ?_
  refine z_aload_n b dX7_add_21 rfl rfl ?_
  refine z_get (q0 := 48) (k9 := 0) (v := .ref (a 49)) b (cw_48 cy tE a rw S) rfl in_X7 (by decide) wf_X7_25 rfl dX7_add_22 ?_
  refine z_aload_n b dX7_add_25 rfl rfl ?_
  refine z_get (q0 := 48) (k9 := 1) (v := .int (fi S 39)) b (cw_48 cy tE a rw S) rfl in_X7 (by decide) wf_X7_9 rfl dX7_add_26 ?_
  refine z_eqi h_i_39 ?_
  refine z_iload_n b dX7_add_29 rfl rfl ?_
  refine y_iast (q0 := 49) (j := 0) b (cw_49 cy tE a rw S) (by decide) dX7_add_30 (cwa_49 cy tE a rw S 0 p0) ?_
  refine z_aload_n b dX7_add_31 rfl rfl ?_
  refine z_dup b dX7_add_32 rfl ?_
  refine z_get (q0 := 48) (k9 := 1) (v := .int (fi (su S 21 0 p0) 39)) b (cw_48 cy tE a rw (su S 21 0 p0)) rfl in_X7 (by decide) wf_X7_9 rfl dX7_add_33 ?_
  refine z_eqi h_i_39 ?_
  refine z_iconst (v := 1) b dX7_add_36 (by decide) ?_
  refine z_iadd (v := 1) b dX7_add_37 (by decide) ?_
  refine z_put (q0 := 48) (k9 := 1) tyX7 b (cw_48 cy tE a rw (su S 21 0 p0)) rfl in_X7 tyX7_ok nmX7 (by decide) wf_X7_9 rfl rfl rfl rfl (Nat.le_of_ble_eq_true rfl) dX7_add_38 (cwp_48_1 cy tE a rw (su S 21 0 p0) 1) ?_
  refine z_aload_n b dX7_add_41 rfl rfl ?_
  refine z_get (q0 := 48) (k9 := 1) (v := .int 1) b (cw_48 cy tE a rw (si (su S 21 0 p0) 39 1)) rfl in_X7 (by decide) wf_X7_9 rfl dX7_add_42 ?_
  exact z_iret (u := (si (su S 21 0 p0) 39 1)) b rfl dX7_add_45 ⟨rfl, rfl⟩ rfl (by decide) (by decide)

set_option maxHeartbeats 4000000 in
set_option maxRecDepth 100000 in
theorem c_X11_past_2 {l : Launch} {D : va_G} {cy : Nat → ClassId} {T0 tB tE : Nat} {a : Nat → Nat} {rw : Nat → Option Nat} (S : GS) (p0 : Int32) (h_i_39 : fi S 39 = 0) (hr_p0 : 0 ≤ p0.toInt ∧ p0.toInt ≤ 767) : Ct l D cy T0 tB tE yX11_past cX11_past 2 (some .int) 1 21 0 0 (cw cy tE a rw S) [.ref (a 0), .int p0] (QI D (U := GS) (fun r u => 1 = r ∧ si (su S 21 0 p0) 39 1 = u) (cw cy tE a rw)) := by
  refine Ct.ofZ RX11 "past" [(0, .ref (a 0)), (1, .int p0)] rfl rfl rfl rfl (Nat.le_of_ble_eq_true rfl) ?_
  intro p e R s m args below meth c A b
  refine z_iload_n b dX11_past_0 rfl rfl ?_
  refine z_sipush (v := 767) b dX11_past_1 (by decide) ?_
  refine z_calli b (z_runS (As := [.int p0, .int 767]) (st := []) b (c_X11_isWithin_21 S p0 ⟨by omega, by omega⟩) cf_X11_isWithin wm_X11_73 ws_X11_isWithin dX11_past_4 rfl (Nat.le_of_ble_eq_true rfl) ⟨by decide, by decide, by decide, by decide⟩) (fun r4209 u4210 h4208 => ?_)
  obtain ⟨rfl, rfl⟩ := h4208
  refine z_if_eq_f (tgt := 21) b dX11_past_7 (by decide) (by decide) ?_
  refine z_aload_n b dX11_past_10 rfl rfl ?_
  refine z_get (q0 := 0) (k9 := 8) (v := .ref (a 48)) b (cw_0 cy tE a rw S) rfl in_X11 (by decide) wf_X11_65 rfl dX11_past_11 ?_
  refine z_iload_n b dX11_past_14 rfl rfl ?_
  refine z_calli b (z_runV (q0 := 48) (As := [.int p0]) (st := []) b (c_X7_add_7 S p0 h_i_39 ⟨by omega, by omega⟩) cf_X7_add (cw_48 cy tE a rw S) rfl wm_X11_172 wi_X7_add ws_X7_add dX11_past_15 rfl (Nat.le_of_ble_eq_true rfl) ⟨by decide, by decide, by decide, by decide⟩) (fun r4212 u4213 h4211 => ?_)
  obtain ⟨rfl, rfl⟩ := h4211
  refine z_goto (tgt := 22) b dX11_past_18 (by decide) ?_
  exact z_iret (u := (si (su S 21 0 p0) 39 1)) b rfl dX11_past_22 ⟨rfl, rfl⟩ rfl (by decide) (by decide)

set_option maxHeartbeats 4000000 in
set_option maxRecDepth 100000 in
theorem c_X12_past_2 {l : Launch} {D : va_G} {cy : Nat → ClassId} {T0 tB tE : Nat} {a : Nat → Nat} (S : GS) (p0 : Int32) (h_i_25 : fi S 25 = 0) (hr_p0 : 0 ≤ p0.toInt ∧ p0.toInt ≤ 767) : Ct l D cy T0 tB tE yX12_past cX12_past 2 (some .int) 2 42 0 0 (mw cy a S) [.ref (a 0), .int p0] (QI D (U := GS) (fun r u => 1 = r ∧ si (su S 40 0 p0) 25 1 = u) (mw cy a)) := by
  refine Ct.ofZ RX12 "past" [(0, .ref (a 0)), (1, .int p0)] rfl rfl rfl rfl (Nat.le_of_ble_eq_true rfl) ?_
  intro p e R s m args below meth c A b
  refine z_iload_n b dX12_past_0 rfl rfl ?_
  refine z_calli b (z_runS (As := [.int p0]) (st := []) b (c_X12_isNumber_2 S p0 ⟨by omega, by omega⟩) cf_X12_isNumber wm_X12_455 ws_X12_isNumber dX12_past_1 rfl (Nat.le_of_ble_eq_true rfl) ⟨by decide, by decide, by decide, by decide⟩) (fun r4215 u4216 h4214 => ?_)
  obtain ⟨rfl, rfl⟩ := h4214
  refine z_if_eq_f (tgt := 17) b dX12_past_4 (by decide) (by decide) ?_
  refine z_aload_n b dX12_past_7 rfl rfl ?_
  refine z_get (q0 := 0) (k9 := 71) (v := .int (fi S 25)) b (mw_0 cy a S) rfl in_X12 (by decide) wf_X12_470 rfl dX12_past_8 ?_
  refine z_eqi h_i_25 ?_
  refine z_sipush (v := 200) b dX12_past_11 (by decide) ?_
  refine z_icmp_ne_t (tgt := 19) b dX12_past_14 (by decide) (by decide) ?_
  refine z_aload_n b dX12_past_19 rfl rfl ?_
  refine z_get (q0 := 0) (k9 := 70) (v := .ref (a 43)) b (mw_0 cy a S) rfl in_X12 (by decide) wf_X12_146 rfl dX12_past_20 ?_
  refine z_aload_n b dX12_past_23 rfl rfl ?_
  refine z_get (q0 := 0) (k9 := 71) (v := .int (fi S 25)) b (mw_0 cy a S) rfl in_X12 (by decide) wf_X12_470 rfl dX12_past_24 ?_
  refine z_eqi h_i_25 ?_
  refine z_iload_n b dX12_past_27 rfl rfl ?_
  refine y_iast (q0 := 43) (j := 0) b (mw_43 cy a S) (by decide) dX12_past_28 (mwa_43 cy a S 0 p0) ?_
  refine z_aload_n b dX12_past_29 rfl rfl ?_
  refine z_dup b dX12_past_30 rfl ?_
  refine z_get (q0 := 0) (k9 := 71) (v := .int (fi (su S 40 0 p0) 25)) b (mw_0 cy a (su S 40 0 p0)) rfl in_X12 (by decide) wf_X12_470 rfl dX12_past_31 ?_
  refine z_eqi h_i_25 ?_
  refine z_iconst (v := 1) b dX12_past_34 (by decide) ?_
  refine z_iadd (v := 1) b dX12_past_35 (by decide) ?_
  refine z_put (q0 := 0) (k9 := 71) tyX12 b (mw_0 cy a (su S 40 0 p0)) rfl in_X12 tyX12_ok nmX12 (by decide) wf_X12_470 rfl rfl rfl rfl (Nat.le_of_ble_eq_true rfl) dX12_past_36 (mwp_0_71 cy a (su S 40 0 p0) 1) ?_
  refine z_aload_n b dX12_past_39 rfl rfl ?_
  refine z_get (q0 := 0) (k9 := 71) (v := .int 1) b (mw_0 cy a (si (su S 40 0 p0) 25 1)) rfl in_X12 (by decide) wf_X12_470 rfl dX12_past_40 ?_
  exact z_iret (u := (si (su S 40 0 p0) 25 1)) b rfl dX12_past_43 ⟨rfl, rfl⟩ rfl (by decide) (by decide)

set_option maxHeartbeats 4000000 in
set_option maxRecDepth 100000 in
theorem c_X11_past_3 {l : Launch} {D : va_G} {cy : Nat → ClassId} {T0 tB tE : Nat} {a : Nat → Nat} {rw : Nat → Option Nat} (S : GS) (p0 : Int32)  (hr_p0 : 768 ≤ p0.toInt ∧ p0.toInt ≤ 2147483647) : Ct l D cy T0 tB tE yX11_past cX11_past 2 (some .int) 1 21 0 0 (cw cy tE a rw S) [.ref (a 0), .int p0] (QI D (U := GS) (fun r u => (-1) = r ∧ S = u) (cw cy tE a rw)) := by
  refine Ct.ofZ RX11 "past" [(0, .ref (a 0)), (1, .int p0)] rfl rfl rfl rfl (Nat.le_of_ble_eq_true rfl) ?_
  intro p e R s m args below meth c A b
  refine z_iload_n b dX11_past_0 rfl rfl ?_
  refine z_sipush (v := 767) b dX11_past_1 (by decide) ?_
  refine z_calli b (z_runS (As := [.int p0, .int 767]) (st := []) b (c_X11_isWithin_22 S p0 ⟨by omega, by omega⟩) cf_X11_isWithin wm_X11_73 ws_X11_isWithin dX11_past_4 rfl (Nat.le_of_ble_eq_true rfl) ⟨by decide, by decide, by decide, by decide⟩) (fun r4218 u4219 h4217 => ?_)
  obtain ⟨rfl, rfl⟩ := h4217
  refine z_if_eq_t (tgt := 21) b dX11_past_7 (by decide) (by decide) ?_
  refine z_iconst (v := (-1)) b dX11_past_21 (by decide) ?_
  exact z_iret (u := S) b rfl dX11_past_22 ⟨rfl, rfl⟩ rfl (by decide) (by decide)

set_option maxHeartbeats 4000000 in
set_option maxRecDepth 100000 in
theorem c_X12_past_3 {l : Launch} {D : va_G} {cy : Nat → ClassId} {T0 tB tE : Nat} {a : Nat → Nat} (S : GS) (p0 : Int32)  (hr_p0 : 768 ≤ p0.toInt ∧ p0.toInt ≤ 2147483647) : Ct l D cy T0 tB tE yX12_past cX12_past 2 (some .int) 2 42 0 0 (mw cy a S) [.ref (a 0), .int p0] (QI D (U := GS) (fun r u => (-1) = r ∧ S = u) (mw cy a)) := by
  refine Ct.ofZ RX12 "past" [(0, .ref (a 0)), (1, .int p0)] rfl rfl rfl rfl (Nat.le_of_ble_eq_true rfl) ?_
  intro p e R s m args below meth c A b
  refine z_iload_n b dX12_past_0 rfl rfl ?_
  refine z_calli b (z_runS (As := [.int p0]) (st := []) b (c_X12_isNumber_3 S p0 ⟨by omega, by omega⟩) cf_X12_isNumber wm_X12_455 ws_X12_isNumber dX12_past_1 rfl (Nat.le_of_ble_eq_true rfl) ⟨by decide, by decide, by decide, by decide⟩) (fun r4221 u4222 h4220 => ?_)
  obtain ⟨rfl, rfl⟩ := h4220
  refine z_if_eq_t (tgt := 17) b dX12_past_4 (by decide) (by decide) ?_
  refine z_iconst (v := (-1)) b dX12_past_17 (by decide) ?_
  exact z_iret (u := S) b rfl dX12_past_18 ⟨rfl, rfl⟩ rfl (by decide) (by decide)

set_option maxHeartbeats 4000000 in
set_option maxRecDepth 100000 in
theorem c_X11_through {l : Launch} {D : va_G} {cy : Nat → ClassId} {T0 tB tE : Nat} {a : Nat → Nat} {rw : Nat → Option Nat} (S : GS) (p0 : Int32) (p1 : Int32)  (hr_p0 : (-2147483648) ≤ p0.toInt ∧ p0.toInt ≤ (-1)) : Ct l D cy T0 tB tE yX11_through cX11_through 7 (some .int) 1 20 0 0 (cw cy tE a rw S) [.ref (a 0), .int p0, .int p1] (QI D (U := GS) (fun r u => (-1) = r ∧ S = u) (cw cy tE a rw)) := by
  refine Ct.ofZ RX11 "through" [(0, .ref (a 0)), (1, .int p0), (2, .int p1)] rfl rfl rfl rfl (Nat.le_of_ble_eq_true rfl) ?_
  intro p e R s m args below meth c A b
  refine z_iload_n b dX11_through_0 rfl rfl ?_
  refine z_calli b (z_runS (As := [.int p0]) (st := []) b (c_X11_isRow S p0 ⟨by omega, by omega⟩) cf_X11_isRow wm_X11_169 ws_X11_isRow dX11_through_1 rfl (Nat.le_of_ble_eq_true rfl) ⟨by decide, by decide, by decide, by decide⟩) (fun r4224 u4225 h4223 => ?_)
  obtain ⟨rfl, rfl⟩ := h4223
  refine z_if_eq_t (tgt := 27) b dX11_through_4 (by decide) (by decide) ?_
  refine z_iconst (v := (-1)) b dX11_through_27 (by decide) ?_
  exact z_iret (u := S) b rfl dX11_through_28 ⟨rfl, rfl⟩ rfl (by decide) (by decide)

set_option maxHeartbeats 4000000 in
set_option maxRecDepth 100000 in
theorem c_X12_through {l : Launch} {D : va_G} {cy : Nat → ClassId} {T0 tB tE : Nat} {a : Nat → Nat} (S : GS) (p0 : Int32) (p1 : Int32)  (hr_p0 : (-2147483648) ≤ p0.toInt ∧ p0.toInt ≤ (-1)) : Ct l D cy T0 tB tE yX12_through cX12_through 7 (some .int) 2 42 0 0 (mw cy a S) [.ref (a 0), .int p0, .int p1] (QI D (U := GS) (fun r u => (-1) = r ∧ S = u) (mw cy a)) := by
  refine Ct.ofZ RX12 "through" [(0, .ref (a 0)), (1, .int p0), (2, .int p1)] rfl rfl rfl rfl (Nat.le_of_ble_eq_true rfl) ?_
  intro p e R s m args below meth c A b
  refine z_iload_n b dX12_through_0 rfl rfl ?_
  refine z_calli b (z_runS (As := [.int p0]) (st := []) b (c_X12_isRow S p0 ⟨by omega, by omega⟩) cf_X12_isRow wm_X12_452 ws_X12_isRow dX12_through_1 rfl (Nat.le_of_ble_eq_true rfl) ⟨by decide, by decide, by decide, by decide⟩) (fun r4227 u4228 h4226 => ?_)
  obtain ⟨rfl, rfl⟩ := h4226
  refine z_if_eq_t (tgt := 25) b dX12_through_4 (by decide) (by decide) ?_
  refine z_iconst (v := (-1)) b dX12_through_25 (by decide) ?_
  exact z_iret (u := S) b rfl dX12_through_26 ⟨rfl, rfl⟩ rfl (by decide) (by decide)

set_option maxHeartbeats 4000000 in
set_option maxRecDepth 100000 in
theorem c_X11_through_2 {l : Launch} {D : va_G} {cy : Nat → ClassId} {T0 tB tE : Nat} {a : Nat → Nat} {rw : Nat → Option Nat} (S : GS) (p0 : Int32) (p1 : Int32)  (hr_p0 : 6 ≤ p0.toInt ∧ p0.toInt ≤ 2147483647) : Ct l D cy T0 tB tE yX11_through cX11_through 7 (some .int) 1 20 0 0 (cw cy tE a rw S) [.ref (a 0), .int p0, .int p1] (QI D (U := GS) (fun r u => (-1) = r ∧ S = u) (cw cy tE a rw)) := by
  refine Ct.ofZ RX11 "through" [(0, .ref (a 0)), (1, .int p0), (2, .int p1)] rfl rfl rfl rfl (Nat.le_of_ble_eq_true rfl) ?_
  intro p e R s m args below meth c A b
  refine z_iload_n b dX11_through_0 rfl rfl ?_
  refine z_calli b (z_runS (As := [.int p0]) (st := []) b (c_X11_isRow_2 S p0 ⟨by omega, by omega⟩) cf_X11_isRow wm_X11_169 ws_X11_isRow dX11_through_1 rfl (Nat.le_of_ble_eq_true rfl) ⟨by decide, by decide, by decide, by decide⟩) (fun r4230 u4231 h4229 => ?_)
  obtain ⟨rfl, rfl⟩ := h4229
  refine z_if_eq_t (tgt := 27) b dX11_through_4 (by decide) (by decide) ?_
  refine z_iconst (v := (-1)) b dX11_through_27 (by decide) ?_
  exact z_iret (u := S) b rfl dX11_through_28 ⟨rfl, rfl⟩ rfl (by decide) (by decide)

set_option maxHeartbeats 4000000 in
set_option maxRecDepth 100000 in
theorem c_X12_through_2 {l : Launch} {D : va_G} {cy : Nat → ClassId} {T0 tB tE : Nat} {a : Nat → Nat} (S : GS) (p0 : Int32) (p1 : Int32)  (hr_p0 : 6 ≤ p0.toInt ∧ p0.toInt ≤ 2147483647) : Ct l D cy T0 tB tE yX12_through cX12_through 7 (some .int) 2 42 0 0 (mw cy a S) [.ref (a 0), .int p0, .int p1] (QI D (U := GS) (fun r u => (-1) = r ∧ S = u) (mw cy a)) := by
  refine Ct.ofZ RX12 "through" [(0, .ref (a 0)), (1, .int p0), (2, .int p1)] rfl rfl rfl rfl (Nat.le_of_ble_eq_true rfl) ?_
  intro p e R s m args below meth c A b
  refine z_iload_n b dX12_through_0 rfl rfl ?_
  refine z_calli b (z_runS (As := [.int p0]) (st := []) b (c_X12_isRow_2 S p0 ⟨by omega, by omega⟩) cf_X12_isRow wm_X12_452 ws_X12_isRow dX12_through_1 rfl (Nat.le_of_ble_eq_true rfl) ⟨by decide, by decide, by decide, by decide⟩) (fun r4233 u4234 h4232 => ?_)
  obtain ⟨rfl, rfl⟩ := h4232
  refine z_if_eq_t (tgt := 25) b dX12_through_4 (by decide) (by decide) ?_
  refine z_iconst (v := (-1)) b dX12_through_25 (by decide) ?_
  exact z_iret (u := S) b rfl dX12_through_26 ⟨rfl, rfl⟩ rfl (by decide) (by decide)

set_option maxHeartbeats 4000000 in
set_option maxRecDepth 100000 in
theorem c_X11_through_3 {l : Launch} {D : va_G} {cy : Nat → ClassId} {T0 tB tE : Nat} {a : Nat → Nat} {rw : Nat → Option Nat} (S : GS) (p0 : Int32) (h_i_27 : fi S 27 = 0) (hrw : ∀ i, i < 6 → rw i = some (a (36 + 2 * i))) : Ct l D cy T0 tB tE yX11_through cX11_through 7 (some .int) 1 20 0 0 (cw cy tE a rw S) [.ref (a 0), .int 0, .int p0] (QI D (U := GS) (fun r u => (-1) = r ∧ S = u) (cw cy tE a rw)) := by
  refine Ct.ofZ RX11 "through" [(0, .ref (a 0)), (1, .int 0), (2, .int p0)] rfl rfl rfl rfl (Nat.le_of_ble_eq_true rfl) ?_
  intro p e R s m args below meth c A b
  refine z_iload_n b dX11_through_0 rfl rfl ?_
  refine z_calli b (z_runS (As := [.int 0]) (st := []) b (c_X11_isRow_3 S ) cf_X11_isRow wm_X11_169 ws_X11_isRow dX11_through_1 rfl (Nat.le_of_ble_eq_true rfl) ⟨by decide, by decide, by decide, by decide⟩) (fun r4236 u4237 h4235 => ?_)
  obtain ⟨rfl, rfl⟩ := h4235
  refine z_if_eq_f (tgt := 27) b dX11_through_4 (by decide) (by decide) ?_
  refine z_aload_n b dX11_through_7 rfl rfl ?_
  refine z_get (q0 := 0) (k9 := 7) (v := .ref (a 35)) b (cw_0 cy tE a rw S) rfl in_X11 (by decide) wf_X11_58 rfl dX11_through_8 ?_
  refine z_iload_n b dX11_through_11 rfl rfl ?_
  refine y_aald (q0 := 35) (t0 := 4) (j := 0) (v := .ref (a 36)) b (cw_35 cy tE a rw S) rfl (by decide) (by rw [hrw 0 (by decide)]; rfl) dX11_through_12 ?_
  refine z_get (q0 := 36) (k9 := 1) (v := .int (fi S 27)) b (cw_36 cy tE a rw S) rfl in_X7 (by decide) wf_X11_175 rfl dX11_through_13 ?_
  refine z_eqi h_i_27 ?_
  refine z_if_eq_t (tgt := 27) b dX11_through_16 (by decide) (by decide) ?_
  refine z_iconst (v := (-1)) b dX11_through_27 (by decide) ?_
  exact z_iret (u := S) b rfl dX11_through_28 ⟨rfl, rfl⟩ rfl (by decide) (by decide)

set_option maxHeartbeats 4000000 in
set_option maxRecDepth 100000 in
theorem c_X12_through_3 {l : Launch} {D : va_G} {cy : Nat → ClassId} {T0 tB tE : Nat} {a : Nat → Nat} (S : GS) (p0 : Int32) (h_a_38_0 : ar S 38 0 = 0) : Ct l D cy T0 tB tE yX12_through cX12_through 7 (some .int) 2 42 0 0 (mw cy a S) [.ref (a 0), .int 0, .int p0] (QI D (U := GS) (fun r u => (-1) = r ∧ S = u) (mw cy a)) := by
  refine Ct.ofZ RX12 "through" [(0, .ref (a 0)), (1, .int 0), (2, .int p0)] rfl rfl rfl rfl (Nat.le_of_ble_eq_true rfl) ?_
  intro p e R s m args below meth c A b
  refine z_iload_n b dX12_through_0 rfl rfl ?_
  refine z_calli b (z_runS (As := [.int 0]) (st := []) b (c_X12_isRow_3 S ) cf_X12_isRow wm_X12_452 ws_X12_isRow dX12_through_1 rfl (Nat.le_of_ble_eq_true rfl) ⟨by decide, by decide, by decide, by decide⟩) (fun r4239 u4240 h4238 => ?_)
  obtain ⟨rfl, rfl⟩ := h4238
  refine z_if_eq_f (tgt := 25) b dX12_through_4 (by decide) (by decide) ?_
  refine z_aload_n b dX12_through_7 rfl rfl ?_
  refine z_get (q0 := 0) (k9 := 66) (v := .ref (a 41)) b (mw_0 cy a S) rfl in_X12 (by decide) wf_X12_140 rfl dX12_through_8 ?_
  refine z_iload_n b dX12_through_11 rfl rfl ?_
  refine y_iald (q0 := 41) (j := 0) (v := (ar S 38 0)) b (mw_41 cy a S) (by decide) rfl dX12_through_12 ?_
  refine z_eqi h_a_38_0 ?_
  refine z_if_eq_t (tgt := 25) b dX12_through_13 (by decide) (by decide) ?_
  refine z_iconst (v := (-1)) b dX12_through_25 (by decide) ?_
  exact z_iret (u := S) b rfl dX12_through_26 ⟨rfl, rfl⟩ rfl (by decide) (by decide)

set_option maxHeartbeats 4000000 in
set_option maxRecDepth 100000 in
theorem c_X11_through_4 {l : Launch} {D : va_G} {cy : Nat → ClassId} {T0 tB tE : Nat} {a : Nat → Nat} {rw : Nat → Option Nat} (S : GS) (p0 : Int32) (h_i_29 : fi S 29 = 0) (hrw : ∀ i, i < 6 → rw i = some (a (36 + 2 * i))) : Ct l D cy T0 tB tE yX11_through cX11_through 7 (some .int) 1 20 0 0 (cw cy tE a rw S) [.ref (a 0), .int 1, .int p0] (QI D (U := GS) (fun r u => (-1) = r ∧ S = u) (cw cy tE a rw)) := by
  refine Ct.ofZ RX11 "through" [(0, .ref (a 0)), (1, .int 1), (2, .int p0)] rfl rfl rfl rfl (Nat.le_of_ble_eq_true rfl) ?_
  intro p e R s m args below meth c A b
  refine z_iload_n b dX11_through_0 rfl rfl ?_
  refine z_calli b (z_runS (As := [.int 1]) (st := []) b (c_X11_isRow_4 S ) cf_X11_isRow wm_X11_169 ws_X11_isRow dX11_through_1 rfl (Nat.le_of_ble_eq_true rfl) ⟨by decide, by decide, by decide, by decide⟩) (fun r4242 u4243 h4241 => ?_)
  obtain ⟨rfl, rfl⟩ := h4241
  refine z_if_eq_f (tgt := 27) b dX11_through_4 (by decide) (by decide) ?_
  refine z_aload_n b dX11_through_7 rfl rfl ?_
  refine z_get (q0 := 0) (k9 := 7) (v := .ref (a 35)) b (cw_0 cy tE a rw S) rfl in_X11 (by decide) wf_X11_58 rfl dX11_through_8 ?_
  refine z_iload_n b dX11_through_11 rfl rfl ?_
  refine y_aald (q0 := 35) (t0 := 4) (j := 1) (v := .ref (a 38)) b (cw_35 cy tE a rw S) rfl (by decide) (by rw [hrw 1 (by decide)]; rfl) dX11_through_12 ?_
  refine z_get (q0 := 38) (k9 := 1) (v := .int (fi S 29)) b (cw_38 cy tE a rw S) rfl in_X7 (by decide) wf_X11_175 rfl dX11_through_13 ?_
  refine z_eqi h_i_29 ?_
  refine z_if_eq_t (tgt := 27) b dX11_through_16 (by decide) (by decide) ?_
  refine z_iconst (v := (-1)) b dX11_through_27 (by decide) ?_
  exact z_iret (u := S) b rfl dX11_through_28 ⟨rfl, rfl⟩ rfl (by decide) (by decide)

set_option maxHeartbeats 4000000 in
set_option maxRecDepth 100000 in
theorem c_X12_through_4 {l : Launch} {D : va_G} {cy : Nat → ClassId} {T0 tB tE : Nat} {a : Nat → Nat} (S : GS) (p0 : Int32) (h_a_38_1 : ar S 38 1 = 0) : Ct l D cy T0 tB tE yX12_through cX12_through 7 (some .int) 2 42 0 0 (mw cy a S) [.ref (a 0), .int 1, .int p0] (QI D (U := GS) (fun r u => (-1) = r ∧ S = u) (mw cy a)) := by
  refine Ct.ofZ RX12 "through" [(0, .ref (a 0)), (1, .int 1), (2, .int p0)] rfl rfl rfl rfl (Nat.le_of_ble_eq_true rfl) ?_
  intro p e R s m args below meth c A b
  refine z_iload_n b dX12_through_0 rfl rfl ?_
  refine z_calli b (z_runS (As := [.int 1]) (st := []) b (c_X12_isRow_4 S ) cf_X12_isRow wm_X12_452 ws_X12_isRow dX12_through_1 rfl (Nat.le_of_ble_eq_true rfl) ⟨by decide, by decide, by decide, by decide⟩) (fun r4245 u4246 h4244 => ?_)
  obtain ⟨rfl, rfl⟩ := h4244
  refine z_if_eq_f (tgt := 25) b dX12_through_4 (by decide) (by decide) ?_
  refine z_aload_n b dX12_through_7 rfl rfl ?_
  refine z_get (q0 := 0) (k9 := 66) (v := .ref (a 41)) b (mw_0 cy a S) rfl in_X12 (by decide) wf_X12_140 rfl dX12_through_8 ?_
  refine z_iload_n b dX12_through_11 rfl rfl ?_
  refine y_iald (q0 := 41) (j := 1) (v := (ar S 38 1)) b (mw_41 cy a S) (by decide) rfl dX12_through_12 ?_
  refine z_eqi h_a_38_1 ?_
  refine z_if_eq_t (tgt := 25) b dX12_through_13 (by decide) (by decide) ?_
  refine z_iconst (v := (-1)) b dX12_through_25 (by decide) ?_
  exact z_iret (u := S) b rfl dX12_through_26 ⟨rfl, rfl⟩ rfl (by decide) (by decide)

set_option maxHeartbeats 4000000 in
set_option maxRecDepth 100000 in
theorem c_X11_through_5 {l : Launch} {D : va_G} {cy : Nat → ClassId} {T0 tB tE : Nat} {a : Nat → Nat} {rw : Nat → Option Nat} (S : GS) (p0 : Int32) (h_i_31 : fi S 31 = 0) (hrw : ∀ i, i < 6 → rw i = some (a (36 + 2 * i))) : Ct l D cy T0 tB tE yX11_through cX11_through 7 (some .int) 1 20 0 0 (cw cy tE a rw S) [.ref (a 0), .int 2, .int p0] (QI D (U := GS) (fun r u => (-1) = r ∧ S = u) (cw cy tE a rw)) := by
  refine Ct.ofZ RX11 "through" [(0, .ref (a 0)), (1, .int 2), (2, .int p0)] rfl rfl rfl rfl (Nat.le_of_ble_eq_true rfl) ?_
  intro p e R s m args below meth c A b
  refine z_iload_n b dX11_through_0 rfl rfl ?_
  refine z_calli b (z_runS (As := [.int 2]) (st := []) b (c_X11_isRow_5 S ) cf_X11_isRow wm_X11_169 ws_X11_isRow dX11_through_1 rfl (Nat.le_of_ble_eq_true rfl) ⟨by decide, by decide, by decide, by decide⟩) (fun r4248 u4249 h4247 => ?_)
  obtain ⟨rfl, rfl⟩ := h4247
  refine z_if_eq_f (tgt := 27) b dX11_through_4 (by decide) (by decide) ?_
  refine z_aload_n b dX11_through_7 rfl rfl ?_
  refine z_get (q0 := 0) (k9 := 7) (v := .ref (a 35)) b (cw_0 cy tE a rw S) rfl in_X11 (by decide) wf_X11_58 rfl dX11_through_8 ?_
  refine z_iload_n b dX11_through_11 rfl rfl ?_
  refine y_aald (q0 := 35) (t0 := 4) (j := 2) (v := .ref (a 40)) b (cw_35 cy tE a rw S) rfl (by decide) (by rw [hrw 2 (by decide)]; rfl) dX11_through_12 ?_
  refine z_get (q0 := 40) (k9 := 1) (v := .int (fi S 31)) b (cw_40 cy tE a rw S) rfl in_X7 (by decide) wf_X11_175 rfl dX11_through_13 ?_
  refine z_eqi h_i_31 ?_
  refine z_if_eq_t (tgt := 27) b dX11_through_16 (by decide) (by decide) ?_
  refine z_iconst (v := (-1)) b dX11_through_27 (by decide) ?_
  exact z_iret (u := S) b rfl dX11_through_28 ⟨rfl, rfl⟩ rfl (by decide) (by decide)

set_option maxHeartbeats 4000000 in
set_option maxRecDepth 100000 in
theorem c_X12_through_5 {l : Launch} {D : va_G} {cy : Nat → ClassId} {T0 tB tE : Nat} {a : Nat → Nat} (S : GS) (p0 : Int32) (h_a_38_2 : ar S 38 2 = 0) : Ct l D cy T0 tB tE yX12_through cX12_through 7 (some .int) 2 42 0 0 (mw cy a S) [.ref (a 0), .int 2, .int p0] (QI D (U := GS) (fun r u => (-1) = r ∧ S = u) (mw cy a)) := by
  refine Ct.ofZ RX12 "through" [(0, .ref (a 0)), (1, .int 2), (2, .int p0)] rfl rfl rfl rfl (Nat.le_of_ble_eq_true rfl) ?_
  intro p e R s m args below meth c A b
  refine z_iload_n b dX12_through_0 rfl rfl ?_
  refine z_calli b (z_runS (As := [.int 2]) (st := []) b (c_X12_isRow_5 S ) cf_X12_isRow wm_X12_452 ws_X12_isRow dX12_through_1 rfl (Nat.le_of_ble_eq_true rfl) ⟨by decide, by decide, by decide, by decide⟩) (fun r4251 u4252 h4250 => ?_)
  obtain ⟨rfl, rfl⟩ := h4250
  refine z_if_eq_f (tgt := 25) b dX12_through_4 (by decide) (by decide) ?_
  refine z_aload_n b dX12_through_7 rfl rfl ?_
  refine z_get (q0 := 0) (k9 := 66) (v := .ref (a 41)) b (mw_0 cy a S) rfl in_X12 (by decide) wf_X12_140 rfl dX12_through_8 ?_
  refine z_iload_n b dX12_through_11 rfl rfl ?_
  refine y_iald (q0 := 41) (j := 2) (v := (ar S 38 2)) b (mw_41 cy a S) (by decide) rfl dX12_through_12 ?_
  refine z_eqi h_a_38_2 ?_
  refine z_if_eq_t (tgt := 25) b dX12_through_13 (by decide) (by decide) ?_
  refine z_iconst (v := (-1)) b dX12_through_25 (by decide) ?_
  exact z_iret (u := S) b rfl dX12_through_26 ⟨rfl, rfl⟩ rfl (by decide) (by decide)

set_option maxHeartbeats 4000000 in
set_option maxRecDepth 100000 in
theorem c_X11_through_6 {l : Launch} {D : va_G} {cy : Nat → ClassId} {T0 tB tE : Nat} {a : Nat → Nat} {rw : Nat → Option Nat} (S : GS) (p0 : Int32) (h_i_33 : fi S 33 = 0) (hrw : ∀ i, i < 6 → rw i = some (a (36 + 2 * i))) : Ct l D cy T0 tB tE yX11_through cX11_through 7 (some .int) 1 20 0 0 (cw cy tE a rw S) [.ref (a 0), .int 3, .int p0] (QI D (U := GS) (fun r u => (-1) = r ∧ S = u) (cw cy tE a rw)) := by
  refine Ct.ofZ RX11 "through" [(0, .ref (a 0)), (1, .int 3), (2, .int p0)] rfl rfl rfl rfl (Nat.le_of_ble_eq_true rfl) ?_
  intro p e R s m args below meth c A b
  refine z_iload_n b dX11_through_0 rfl rfl ?_
  refine z_calli b (z_runS (As := [.int 3]) (st := []) b (c_X11_isRow_6 S ) cf_X11_isRow wm_X11_169 ws_X11_isRow dX11_through_1 rfl (Nat.le_of_ble_eq_true rfl) ⟨by decide, by decide, by decide, by decide⟩) (fun r4254 u4255 h4253 => ?_)
  obtain ⟨rfl, rfl⟩ := h4253
  refine z_if_eq_f (tgt := 27) b dX11_through_4 (by decide) (by decide) ?_
  refine z_aload_n b dX11_through_7 rfl rfl ?_
  refine z_get (q0 := 0) (k9 := 7) (v := .ref (a 35)) b (cw_0 cy tE a rw S) rfl in_X11 (by decide) wf_X11_58 rfl dX11_through_8 ?_
  refine z_iload_n b dX11_through_11 rfl rfl ?_
  refine y_aald (q0 := 35) (t0 := 4) (j := 3) (v := .ref (a 42)) b (cw_35 cy tE a rw S) rfl (by decide) (by rw [hrw 3 (by decide)]; rfl) dX11_through_12 ?_
  refine z_get (q0 := 42) (k9 := 1) (v := .int (fi S 33)) b (cw_42 cy tE a rw S) rfl in_X7 (by decide) wf_X11_175 rfl dX11_through_13 ?_
  refine z_eqi h_i_33 ?_
  refine z_if_eq_t (tgt := 27) b dX11_through_16 (by decide) (by decide) ?_
  refine z_iconst (v := (-1)) b dX11_through_27 (by decide) ?_
  exact z_iret (u := S) b rfl dX11_through_28 ⟨rfl, rfl⟩ rfl (by decide) (by decide)

set_option maxHeartbeats 4000000 in
set_option maxRecDepth 100000 in
theorem c_X12_through_6 {l : Launch} {D : va_G} {cy : Nat → ClassId} {T0 tB tE : Nat} {a : Nat → Nat} (S : GS) (p0 : Int32) (h_a_38_3 : ar S 38 3 = 0) : Ct l D cy T0 tB tE yX12_through cX12_through 7 (some .int) 2 42 0 0 (mw cy a S) [.ref (a 0), .int 3, .int p0] (QI D (U := GS) (fun r u => (-1) = r ∧ S = u) (mw cy a)) := by
  refine Ct.ofZ RX12 "through" [(0, .ref (a 0)), (1, .int 3), (2, .int p0)] rfl rfl rfl rfl (Nat.le_of_ble_eq_true rfl) ?_
  intro p e R s m args below meth c A b
  refine z_iload_n b dX12_through_0 rfl rfl ?_
  refine z_calli b (z_runS (As := [.int 3]) (st := []) b (c_X12_isRow_6 S ) cf_X12_isRow wm_X12_452 ws_X12_isRow dX12_through_1 rfl (Nat.le_of_ble_eq_true rfl) ⟨by decide, by decide, by decide, by decide⟩) (fun r4257 u4258 h4256 => ?_)
  obtain ⟨rfl, rfl⟩ := h4256
  refine z_if_eq_f (tgt := 25) b dX12_through_4 (by decide) (by decide) ?_
  refine z_aload_n b dX12_through_7 rfl rfl ?_
  refine z_get (q0 := 0) (k9 := 66) (v := .ref (a 41)) b (mw_0 cy a S) rfl in_X12 (by decide) wf_X12_140 rfl dX12_through_8 ?_
  refine z_iload_n b dX12_through_11 rfl rfl ?_
  refine y_iald (q0 := 41) (j := 3) (v := (ar S 38 3)) b (mw_41 cy a S) (by decide) rfl dX12_through_12 ?_
  refine z_eqi h_a_38_3 ?_
  refine z_if_eq_t (tgt := 25) b dX12_through_13 (by decide) (by decide) ?_
  refine z_iconst (v := (-1)) b dX12_through_25 (by decide) ?_
  exact z_iret (u := S) b rfl dX12_through_26 ⟨rfl, rfl⟩ rfl (by decide) (by decide)

set_option maxHeartbeats 4000000 in
set_option maxRecDepth 100000 in
theorem c_X11_through_7 {l : Launch} {D : va_G} {cy : Nat → ClassId} {T0 tB tE : Nat} {a : Nat → Nat} {rw : Nat → Option Nat} (S : GS) (p0 : Int32) (h_i_35 : fi S 35 = 0) (hrw : ∀ i, i < 6 → rw i = some (a (36 + 2 * i))) : Ct l D cy T0 tB tE yX11_through cX11_through 7 (some .int) 1 20 0 0 (cw cy tE a rw S) [.ref (a 0), .int 4, .int p0] (QI D (U := GS) (fun r u => (-1) = r ∧ S = u) (cw cy tE a rw)) := by
  refine Ct.ofZ RX11 "through" [(0, .ref (a 0)), (1, .int 4), (2, .int p0)] rfl rfl rfl rfl (Nat.le_of_ble_eq_true rfl) ?_
  intro p e R s m args below meth c A b
  refine z_iload_n b dX11_through_0 rfl rfl ?_
  refine z_calli b (z_runS (As := [.int 4]) (st := []) b (c_X11_isRow_7 S ) cf_X11_isRow wm_X11_169 ws_X11_isRow dX11_through_1 rfl (Nat.le_of_ble_eq_true rfl) ⟨by decide, by decide, by decide, by decide⟩) (fun r4260 u4261 h4259 => ?_)
  obtain ⟨rfl, rfl⟩ := h4259
  refine z_if_eq_f (tgt := 27) b dX11_through_4 (by decide) (by decide) ?_
  refine z_aload_n b dX11_through_7 rfl rfl ?_
  refine z_get (q0 := 0) (k9 := 7) (v := .ref (a 35)) b (cw_0 cy tE a rw S) rfl in_X11 (by decide) wf_X11_58 rfl dX11_through_8 ?_
  refine z_iload_n b dX11_through_11 rfl rfl ?_
  refine y_aald (q0 := 35) (t0 := 4) (j := 4) (v := .ref (a 44)) b (cw_35 cy tE a rw S) rfl (by decide) (by rw [hrw 4 (by decide)]; rfl) dX11_through_12 ?_
  refine z_get (q0 := 44) (k9 := 1) (v := .int (fi S 35)) b (cw_44 cy tE a rw S) rfl in_X7 (by decide) wf_X11_175 rfl dX11_through_13 ?_
  refine z_eqi h_i_35 ?_
  refine z_if_eq_t (tgt := 27) b dX11_through_16 (by decide) (by decide) ?_
  refine z_iconst (v := (-1)) b dX11_through_27 (by decide) ?_
  exact z_iret (u := S) b rfl dX11_through_28 ⟨rfl, rfl⟩ rfl (by decide) (by decide)

set_option maxHeartbeats 4000000 in
set_option maxRecDepth 100000 in
theorem c_X12_through_7 {l : Launch} {D : va_G} {cy : Nat → ClassId} {T0 tB tE : Nat} {a : Nat → Nat} (S : GS) (p0 : Int32) (h_a_38_4 : ar S 38 4 = 0) : Ct l D cy T0 tB tE yX12_through cX12_through 7 (some .int) 2 42 0 0 (mw cy a S) [.ref (a 0), .int 4, .int p0] (QI D (U := GS) (fun r u => (-1) = r ∧ S = u) (mw cy a)) := by
  refine Ct.ofZ RX12 "through" [(0, .ref (a 0)), (1, .int 4), (2, .int p0)] rfl rfl rfl rfl (Nat.le_of_ble_eq_true rfl) ?_
  intro p e R s m args below meth c A b
  refine z_iload_n b dX12_through_0 rfl rfl ?_
  refine z_calli b (z_runS (As := [.int 4]) (st := []) b (c_X12_isRow_7 S ) cf_X12_isRow wm_X12_452 ws_X12_isRow dX12_through_1 rfl (Nat.le_of_ble_eq_true rfl) ⟨by decide, by decide, by decide, by decide⟩) (fun r4263 u4264 h4262 => ?_)
  obtain ⟨rfl, rfl⟩ := h4262
  refine z_if_eq_f (tgt := 25) b dX12_through_4 (by decide) (by decide) ?_
  refine z_aload_n b dX12_through_7 rfl rfl ?_
  refine z_get (q0 := 0) (k9 := 66) (v := .ref (a 41)) b (mw_0 cy a S) rfl in_X12 (by decide) wf_X12_140 rfl dX12_through_8 ?_
  refine z_iload_n b dX12_through_11 rfl rfl ?_
  refine y_iald (q0 := 41) (j := 4) (v := (ar S 38 4)) b (mw_41 cy a S) (by decide) rfl dX12_through_12 ?_
  refine z_eqi h_a_38_4 ?_
  refine z_if_eq_t (tgt := 25) b dX12_through_13 (by decide) (by decide) ?_
  refine z_iconst (v := (-1)) b dX12_through_25 (by decide) ?_
  exact z_iret (u := S) b rfl dX12_through_26 ⟨rfl, rfl⟩ rfl (by decide) (by decide)

set_option maxHeartbeats 4000000 in
set_option maxRecDepth 100000 in
theorem c_X11_through_8 {l : Launch} {D : va_G} {cy : Nat → ClassId} {T0 tB tE : Nat} {a : Nat → Nat} {rw : Nat → Option Nat} (S : GS) (p0 : Int32) (h_i_37 : fi S 37 = 0) (hrw : ∀ i, i < 6 → rw i = some (a (36 + 2 * i))) : Ct l D cy T0 tB tE yX11_through cX11_through 7 (some .int) 1 20 0 0 (cw cy tE a rw S) [.ref (a 0), .int 5, .int p0] (QI D (U := GS) (fun r u => (-1) = r ∧ S = u) (cw cy tE a rw)) := by
  refine Ct.ofZ RX11 "through" [(0, .ref (a 0)), (1, .int 5), (2, .int p0)] rfl rfl rfl rfl (Nat.le_of_ble_eq_true rfl) ?_
  intro p e R s m args below meth c A b
  refine z_iload_n b dX11_through_0 rfl rfl ?_
  refine z_calli b (z_runS (As := [.int 5]) (st := []) b (c_X11_isRow_8 S ) cf_X11_isRow wm_X11_169 ws_X11_isRow dX11_through_1 rfl (Nat.le_of_ble_eq_true rfl) ⟨by decide, by decide, by decide, by decide⟩) (fun r4266 u4267 h4265 => ?_)
  obtain ⟨rfl, rfl⟩ := h4265
  refine z_if_eq_f (tgt := 27) b dX11_through_4 (by decide) (by decide) ?_
  refine z_aload_n b dX11_through_7 rfl rfl ?_
  refine z_get (q0 := 0) (k9 := 7) (v := .ref (a 35)) b (cw_0 cy tE a rw S) rfl in_X11 (by decide) wf_X11_58 rfl dX11_through_8 ?_
  refine z_iload_n b dX11_through_11 rfl rfl ?_
  refine y_aald (q0 := 35) (t0 := 4) (j := 5) (v := .ref (a 46)) b (cw_35 cy tE a rw S) rfl (by decide) (by rw [hrw 5 (by decide)]; rfl) dX11_through_12 ?_
  refine z_get (q0 := 46) (k9 := 1) (v := .int (fi S 37)) b (cw_46 cy tE a rw S) rfl in_X7 (by decide) wf_X11_175 rfl dX11_through_13 ?_
  refine z_eqi h_i_37 ?_
  refine z_if_eq_t (tgt := 27) b dX11_through_16 (by decide) (by decide) ?_
  refine z_iconst (v := (-1)) b dX11_through_27 (by decide) ?_
  exact z_iret (u := S) b rfl dX11_through_28 ⟨rfl, rfl⟩ rfl (by decide) (by decide)

set_option maxHeartbeats 4000000 in
set_option maxRecDepth 100000 in
theorem c_X12_through_8 {l : Launch} {D : va_G} {cy : Nat → ClassId} {T0 tB tE : Nat} {a : Nat → Nat} (S : GS) (p0 : Int32) (h_a_38_5 : ar S 38 5 = 0) : Ct l D cy T0 tB tE yX12_through cX12_through 7 (some .int) 2 42 0 0 (mw cy a S) [.ref (a 0), .int 5, .int p0] (QI D (U := GS) (fun r u => (-1) = r ∧ S = u) (mw cy a)) := by
  refine Ct.ofZ RX12 "through" [(0, .ref (a 0)), (1, .int 5), (2, .int p0)] rfl rfl rfl rfl (Nat.le_of_ble_eq_true rfl) ?_
  intro p e R s m args below meth c A b
  refine z_iload_n b dX12_through_0 rfl rfl ?_
  refine z_calli b (z_runS (As := [.int 5]) (st := []) b (c_X12_isRow_8 S ) cf_X12_isRow wm_X12_452 ws_X12_isRow dX12_through_1 rfl (Nat.le_of_ble_eq_true rfl) ⟨by decide, by decide, by decide, by decide⟩) (fun r4269 u4270 h4268 => ?_)
  obtain ⟨rfl, rfl⟩ := h4268
  refine z_if_eq_f (tgt := 25) b dX12_through_4 (by decide) (by decide) ?_
  refine z_aload_n b dX12_through_7 rfl rfl ?_
  refine z_get (q0 := 0) (k9 := 66) (v := .ref (a 41)) b (mw_0 cy a S) rfl in_X12 (by decide) wf_X12_140 rfl dX12_through_8 ?_
  refine z_iload_n b dX12_through_11 rfl rfl ?_
  refine y_iald (q0 := 41) (j := 5) (v := (ar S 38 5)) b (mw_41 cy a S) (by decide) rfl dX12_through_12 ?_
  refine z_eqi h_a_38_5 ?_
  refine z_if_eq_t (tgt := 25) b dX12_through_13 (by decide) (by decide) ?_
  refine z_iconst (v := (-1)) b dX12_through_25 (by decide) ?_
  exact z_iret (u := S) b rfl dX12_through_26 ⟨rfl, rfl⟩ rfl (by decide) (by decide)

set_option maxHeartbeats 4000000 in
set_option maxRecDepth 100000 in
theorem c_X11_isNever {l : Launch} {D : va_G} {cy : Nat → ClassId} {T0 tB tE : Nat} {a : Nat → Nat} {rw : Nat → Option Nat} (S : GS) (p0 : Int32) (h_i_11 : fi S 11 = 0) : Ct l D cy T0 tB tE yX11_isNever cX11_isNever 2 (some .boolean) 1 20 0 0 (cw cy tE a rw S) [.ref (a 0), .int p0] (QI D (U := GS) (fun r u => 0 = r ∧ S = u) (cw cy tE a rw)) := by
  refine Ct.ofZ RX11 "isNever" [(0, .ref (a 0)), (1, .int p0)] rfl rfl rfl rfl (Nat.le_of_ble_eq_true rfl) ?_
  intro p e R s m args below meth c A b
  refine z_iload_n b dX11_isNever_0 rfl rfl ?_
  refine y_if_lt (tgt := 22) (xl := p0.toInt) b rfl dX11_isNever_1 (by decide) (fun c4271 => ?_) (fun c4271 => ?_)
  · refine z_iconst (v := 0) b dX11_isNever_22 (by decide) ?_
    exact z_zret (u := S) b rfl (by decide) dX11_isNever_23 ⟨rfl, rfl⟩ rfl (by decide) (by decide)
  · refine z_iload_n b dX11_isNever_4 rfl rfl ?_
    refine z_aload_n b dX11_isNever_5 rfl rfl ?_
    refine z_get (q0 := 0) (k9 := 3) (v := .ref (a 10)) b (cw_0 cy tE a rw S) rfl in_X11 (by decide) wf_X11_27 rfl dX11_isNever_6 ?_
    refine z_get (q0 := 10) (k9 := 1) (v := .ref (a 12)) b (cw_10 cy tE a rw S) rfl in_X4 (by decide) wf_X11_122 rfl dX11_isNever_9 ?_
    refine z_calli b (z_runV (q0 := 12) (As := []) (st := [.int p0]) b (c_Jx4a65c_size_8abf5_2 S h_i_11) cf_Jx4a65c_size_8abf5 (cw_12 cy tE a rw S) rfl wm_X11_117 wi_Jx4a65c_size_8abf5 ws_Jx4a65c_size_8abf5 dX11_isNever_12 rfl (Nat.le_of_ble_eq_true rfl) ⟨by decide, by decide, by decide, by decide⟩) (fun r4273 u4274 h4272 => ?_)
    obtain ⟨rfl, rfl⟩ := h4272
    refine y_icmp_ge (tgt := 22) (xl := p0.toInt) (yl := 0) b rfl (by decide) dX11_isNever_15 (by decide) (fun c4275 => ?_) (fun c4275 => ?_)
    · refine z_iconst (v := 0) b dX11_isNever_22 (by decide) ?_
      exact z_zret (u := S) b rfl (by decide) dX11_isNever_23 ⟨rfl, rfl⟩ rfl (by decide) (by decide)
    · exfalso; omega

set_option maxHeartbeats 4000000 in
set_option maxRecDepth 100000 in
theorem c_X11_hole {l : Launch} {D : va_G} {cy : Nat → ClassId} {T0 tB tE : Nat} {a : Nat → Nat} {rw : Nat → Option Nat} (S : GS) (p0 : Int32) (p1 : Int32) (p2 : Int32) (p3 : Int32) (p4 : Int32) (h_i_11 : fi S 11 = 0) : Ct l D cy T0 tB tE yX11_hole cX11_hole 7 (some .int) 2 41 0 0 (cw cy tE a rw S) [.ref (a 0), .int p0, .int p1, .int p2, .int p3, .int p4] (QI D (U := GS) (fun r u => (-1) = r ∧ S = u) (cw cy tE a rw)) := by
  refine Ct.ofZ RX11 "hole" [(0, .ref (a 0)), (1, .int p0), (2, .int p1), (3, .int p2), (4, .int p3), (5, .int p4)] rfl rfl rfl rfl (Nat.le_of_ble_eq_true rfl) ?_
  intro p e R s m args below meth c A b
  refine z_aload_n b dX11_hole_0 rfl rfl ?_
  refine z_iload_n b dX11_hole_1 rfl rfl ?_
  refine z_calli b (z_runV (q0 := 0) (As := [.int p0]) (st := []) b (c_X11_isNever S p0 h_i_11) cf_X11_isNever (cw_0 cy tE a rw S) rfl wm_X11_200 wi_X11_isNever ws_X11_isNever dX11_hole_2 rfl (Nat.le_of_ble_eq_true rfl) ⟨by decide, by decide, by decide, by decide⟩) (fun r4277 u4278 h4276 => ?_)
  obtain ⟨rfl, rfl⟩ := h4276
  refine z_if_eq_t (tgt := 22) b dX11_hole_5 (by decide) (by decide) ?_
  refine z_iconst (v := (-1)) b dX11_hole_22 (by decide) ?_
  exact z_iret (u := S) b rfl dX11_hole_23 ⟨rfl, rfl⟩ rfl (by decide) (by decide)

set_option maxHeartbeats 4000000 in
set_option maxRecDepth 100000 in
theorem c_X12_isIn_48 {l : Launch} {D : va_G} {cy : Nat → ClassId} {T0 tB tE : Nat} {a : Nat → Nat} (S : GS) (p0 : Int32)  : Ct l D cy T0 tB tE yX12_isIn cX12_isIn 3 (some .boolean) 0 0 0 0 (mw cy a S) [.int p0, .int 0, .int (-1)] (QI D (U := GS) (fun r u => 0 = r ∧ S = u) (mw cy a)) := by
  refine Ct.ofZ RX12 "isIn" [(0, .int p0), (1, .int 0), (2, .int (-1))] rfl rfl rfl rfl (Nat.le_of_ble_eq_true rfl) ?_
  intro p e R s m args below meth c A b
  refine z_iload_n b dX12_isIn_0 rfl rfl ?_
  refine z_iload_n b dX12_isIn_1 rfl rfl ?_
  refine y_icmp_lt (tgt := 14) (xl := p0.toInt) (yl := 0) b rfl (by decide) dX12_isIn_2 (by decide) (fun c4279 => ?_) (fun c4279 => ?_)
  · refine z_iconst (v := 0) b dX12_isIn_14 (by decide) ?_
    exact z_zret (u := S) b rfl (by decide) dX12_isIn_15 ⟨rfl, rfl⟩ rfl (by decide) (by decide)
  · refine z_iload_n b dX12_isIn_5 rfl rfl ?_
    refine z_iload_n b dX12_isIn_6 rfl rfl ?_
    refine y_icmp_gt (tgt := 14) (xl := p0.toInt) (yl := (-1)) b rfl (by decide) dX12_isIn_7 (by decide) (fun c4280 => ?_) (fun c4280 => ?_)
    · refine z_iconst (v := 0) b dX12_isIn_14 (by decide) ?_
      exact z_zret (u := S) b rfl (by decide) dX12_isIn_15 ⟨rfl, rfl⟩ rfl (by decide) (by decide)
    · exfalso; omega

set_option maxHeartbeats 4000000 in
set_option maxRecDepth 100000 in
theorem c_X12_isNeverText {l : Launch} {D : va_G} {cy : Nat → ClassId} {T0 tB tE : Nat} {a : Nat → Nat} (S : GS) (p0 : Int32) (h_i_16 : fi S 16 = 0) : Ct l D cy T0 tB tE yX12_isNeverText cX12_isNeverText 2 (some .boolean) 1 22 0 0 (mw cy a S) [.ref (a 0), .int p0] (QI D (U := GS) (fun r u => 0 = r ∧ S = u) (mw cy a)) := by
  refine Ct.ofZ RX12 "isNeverText" [(0, .ref (a 0)), (1, .int p0)] rfl rfl rfl rfl (Nat.le_of_ble_eq_true rfl) ?_
  intro p e R s m args below meth c A b
  refine z_iload_n b dX12_isNeverText_0 rfl rfl ?_
  refine z_iconst (v := 0) b dX12_isNeverText_1 (by decide) ?_
  refine z_aload_n b dX12_isNeverText_2 rfl rfl ?_
  refine z_get (q0 := 0) (k9 := 40) (v := .int (fi S 16)) b (mw_0 cy a S) rfl in_X12 (by decide) wf_X12_352 rfl dX12_isNeverText_3 ?_
  refine z_eqi h_i_16 ?_
  refine z_iconst (v := 1) b dX12_isNeverText_6 (by decide) ?_
  refine z_isub (v := (-1)) b dX12_isNeverText_7 (by decide) ?_
  refine z_calli b (z_runS (As := [.int p0, .int 0, .int (-1)]) (st := []) b (c_X12_isIn_48 S p0 ) cf_X12_isIn wm_X12_1 ws_X12_isIn dX12_isNeverText_8 rfl (Nat.le_of_ble_eq_true rfl) ⟨by decide, by decide, by decide, by decide⟩) (fun r4282 u4283 h4281 => ?_)
  obtain ⟨rfl, rfl⟩ := h4281
  exact z_zret (u := S) b rfl (by decide) dX12_isNeverText_11 ⟨rfl, rfl⟩ rfl (by decide) (by decide)

set_option maxHeartbeats 4000000 in
set_option maxRecDepth 100000 in
theorem c_X12_hole {l : Launch} {D : va_G} {cy : Nat → ClassId} {T0 tB tE : Nat} {a : Nat → Nat} (S : GS) (p0 : Int32) (p1 : Int32) (p2 : Int32) (p3 : Int32) (p4 : Int32) (h_i_16 : fi S 16 = 0) : Ct l D cy T0 tB tE yX12_hole cX12_hole 6 (some .int) 2 43 0 0 (mw cy a S) [.ref (a 0), .int p0, .int p1, .int p2, .int p3, .int p4] (QI D (U := GS) (fun r u => (-1) = r ∧ S = u) (mw cy a)) := by
  refine Ct.ofZ RX12 "hole" [(0, .ref (a 0)), (1, .int p0), (2, .int p1), (3, .int p2), (4, .int p3), (5, .int p4)] rfl rfl rfl rfl (Nat.le_of_ble_eq_true rfl) ?_
  intro p e R s m args below meth c A b
  refine z_aload_n b dX12_hole_0 rfl rfl ?_
  refine z_iload_n b dX12_hole_1 rfl rfl ?_
  refine z_calli b (z_runV (q0 := 0) (As := [.int p0]) (st := []) b (c_X12_isNeverText S p0 h_i_16) cf_X12_isNeverText (mw_0 cy a S) rfl wm_X12_430 wi_X12_isNeverText ws_X12_isNeverText dX12_hole_2 rfl (Nat.le_of_ble_eq_true rfl) ⟨by decide, by decide, by decide, by decide⟩) (fun r4285 u4286 h4284 => ?_)
  obtain ⟨rfl, rfl⟩ := h4284
  refine z_if_eq_t (tgt := 46) b dX12_hole_5 (by decide) (by decide) ?_
  refine z_iconst (v := (-1)) b dX12_hole_46 (by decide) ?_
  exact z_iret (u := S) b rfl dX12_hole_47 ⟨rfl, rfl⟩ rfl (by decide) (by decide)

set_option maxHeartbeats 4000000 in
set_option maxRecDepth 100000 in
theorem c_X11_friends {l : Launch} {D : va_G} {cy : Nat → ClassId} {T0 tB tE : Nat} {a : Nat → Nat} {rw : Nat → Option Nat} (S : GS) (p0 : Int32) (p1 : Int32) (p2 : Int32) (h_i_11 : fi S 11 = 0) : Ct l D cy T0 tB tE yX11_friends cX11_friends 6 (some .int) 2 41 0 0 (cw cy tE a rw S) [.ref (a 0), .int p0, .int p1, .int p2] (QI D (U := GS) (fun r u => (-1) = r ∧ S = u) (cw cy tE a rw)) := by
  refine Ct.ofZ RX11 "friends" [(0, .ref (a 0)), (1, .int p0), (2, .int p1), (3, .int p2)] rfl rfl rfl rfl (Nat.le_of_ble_eq_true rfl) ?_
  intro p e R s m args below meth c A b
  refine z_aload_n b dX11_friends_0 rfl rfl ?_
  refine z_iload_n b dX11_friends_1 rfl rfl ?_
  refine z_calli b (z_runV (q0 := 0) (As := [.int p0]) (st := []) b (c_X11_isNever S p0 h_i_11) cf_X11_isNever (cw_0 cy tE a rw S) rfl wm_X11_200 wi_X11_isNever ws_X11_isNever dX11_friends_2 rfl (Nat.le_of_ble_eq_true rfl) ⟨by decide, by decide, by decide, by decide⟩) (fun r4288 u4289 h4287 => ?_)
  obtain ⟨rfl, rfl⟩ := h4287
  refine z_if_eq_t (tgt := 22) b dX11_friends_5 (by decide) (by decide) ?_
  refine z_iconst (v := (-1)) b dX11_friends_22 (by decide) ?_
  exact z_iret (u := S) b rfl dX11_friends_23 ⟨rfl, rfl⟩ rfl (by decide) (by decide)

set_option maxHeartbeats 4000000 in
set_option maxRecDepth 100000 in
theorem c_X12_friends {l : Launch} {D : va_G} {cy : Nat → ClassId} {T0 tB tE : Nat} {a : Nat → Nat} (S : GS) (p0 : Int32) (p1 : Int32) (p2 : Int32) (h_i_16 : fi S 16 = 0) : Ct l D cy T0 tB tE yX12_friends cX12_friends 6 (some .int) 2 43 0 0 (mw cy a S) [.ref (a 0), .int p0, .int p1, .int p2] (QI D (U := GS) (fun r u => (-1) = r ∧ S = u) (mw cy a)) := by
  refine Ct.ofZ RX12 "friends" [(0, .ref (a 0)), (1, .int p0), (2, .int p1), (3, .int p2)] rfl rfl rfl rfl (Nat.le_of_ble_eq_true rfl) ?_
  intro p e R s m args below meth c A b
  refine z_aload_n b dX12_friends_0 rfl rfl ?_
  refine z_iload_n b dX12_friends_1 rfl rfl ?_
  refine z_calli b (z_runV (q0 := 0) (As := [.int p0]) (st := []) b (c_X12_isNeverText S p0 h_i_16) cf_X12_isNeverText (mw_0 cy a S) rfl wm_X12_430 wi_X12_isNeverText ws_X12_isNeverText dX12_friends_2 rfl (Nat.le_of_ble_eq_true rfl) ⟨by decide, by decide, by decide, by decide⟩) (fun r4291 u4292 h4290 => ?_)
  obtain ⟨rfl, rfl⟩ := h4290
  refine z_if_eq_t (tgt := 17) b dX12_friends_5 (by decide) (by decide) ?_
  refine z_iconst (v := (-1)) b dX12_friends_17 (by decide) ?_
  exact z_iret (u := S) b rfl dX12_friends_18 ⟨rfl, rfl⟩ rfl (by decide) (by decide)

set_option maxHeartbeats 4000000 in
set_option maxRecDepth 100000 in
theorem c_X11_only {l : Launch} {D : va_G} {cy : Nat → ClassId} {T0 tB tE : Nat} {a : Nat → Nat} {rw : Nat → Option Nat} (S : GS) (p0 : Int32) (p1 : Int32) (h_i_11 : fi S 11 = 0) : Ct l D cy T0 tB tE yX11_only cX11_only 6 (some .int) 2 41 0 0 (cw cy tE a rw S) [.ref (a 0), .int p0, .int p1] (QI D (U := GS) (fun r u => (-1) = r ∧ S = u) (cw cy tE a rw)) := by
  refine Ct.ofZ RX11 "only" [(0, .ref (a 0)), (1, .int p0), (2, .int p1)] rfl rfl rfl rfl (Nat.le_of_ble_eq_true rfl) ?_
  intro p e R s m args below meth c A b
  refine z_aload_n b dX11_only_0 rfl rfl ?_
  refine z_iload_n b dX11_only_1 rfl rfl ?_
  refine z_calli b (z_runV (q0 := 0) (As := [.int p0]) (st := []) b (c_X11_isNever S p0 h_i_11) cf_X11_isNever (cw_0 cy tE a rw S) rfl wm_X11_200 wi_X11_isNever ws_X11_isNever dX11_only_2 rfl (Nat.le_of_ble_eq_true rfl) ⟨by decide, by decide, by decide, by decide⟩) (fun r4294 u4295 h4293 => ?_)
  obtain ⟨rfl, rfl⟩ := h4293
  refine z_if_eq_t (tgt := 15) b dX11_only_5 (by decide) (by decide) ?_
  refine z_iconst (v := (-1)) b dX11_only_15 (by decide) ?_
  exact z_iret (u := S) b rfl dX11_only_16 ⟨rfl, rfl⟩ rfl (by decide) (by decide)

set_option maxHeartbeats 4000000 in
set_option maxRecDepth 100000 in
theorem c_X12_only {l : Launch} {D : va_G} {cy : Nat → ClassId} {T0 tB tE : Nat} {a : Nat → Nat} (S : GS) (p0 : Int32) (p1 : Int32) (h_i_16 : fi S 16 = 0) : Ct l D cy T0 tB tE yX12_only cX12_only 6 (some .int) 2 43 0 0 (mw cy a S) [.ref (a 0), .int p0, .int p1] (QI D (U := GS) (fun r u => (-1) = r ∧ S = u) (mw cy a)) := by
  refine Ct.ofZ RX12 "only" [(0, .ref (a 0)), (1, .int p0), (2, .int p1)] rfl rfl rfl rfl (Nat.le_of_ble_eq_true rfl) ?_
  intro p e R s m args below meth c A b
  refine z_aload_n b dX12_only_0 rfl rfl ?_
  refine z_iload_n b dX12_only_1 rfl rfl ?_
  refine z_calli b (z_runV (q0 := 0) (As := [.int p0]) (st := []) b (c_X12_isNeverText S p0 h_i_16) cf_X12_isNeverText (mw_0 cy a S) rfl wm_X12_430 wi_X12_isNeverText ws_X12_isNeverText dX12_only_2 rfl (Nat.le_of_ble_eq_true rfl) ⟨by decide, by decide, by decide, by decide⟩) (fun r4297 u4298 h4296 => ?_)
  obtain ⟨rfl, rfl⟩ := h4296
  refine z_if_eq_t (tgt := 18) b dX12_only_5 (by decide) (by decide) ?_
  refine z_iconst (v := (-1)) b dX12_only_18 (by decide) ?_
  exact z_iret (u := S) b rfl dX12_only_19 ⟨rfl, rfl⟩ rfl (by decide) (by decide)

set_option maxHeartbeats 4000000 in
set_option maxRecDepth 100000 in
theorem c_X11_stop {l : Launch} {D : va_G} {cy : Nat → ClassId} {T0 tB tE : Nat} {a : Nat → Nat} {rw : Nat → Option Nat} (S : GS) (p0 : Int32) (p1 : Int32) (p2 : Int32) (h_i_11 : fi S 11 = 0) : Ct l D cy T0 tB tE yX11_stop cX11_stop 7 (some .int) 2 41 0 0 (cw cy tE a rw S) [.ref (a 0), .int p0, .int p1, .int p2] (QI D (U := GS) (fun r u => (-1) = r ∧ S = u) (cw cy tE a rw)) := by
  refine Ct.ofZ RX11 "stop" [(0, .ref (a 0)), (1, .int p0), (2, .int p1), (3, .int p2)] rfl rfl rfl rfl (Nat.le_of_ble_eq_true rfl) ?_
  intro p e R s m args below meth c A b
  refine z_aload_n b dX11_stop_0 rfl rfl ?_
  refine z_iload_n b dX11_stop_1 rfl rfl ?_
  refine z_calli b (z_runV (q0 := 0) (As := [.int p0]) (st := []) b (c_X11_isNever S p0 h_i_11) cf_X11_isNever (cw_0 cy tE a rw S) rfl wm_X11_200 wi_X11_isNever ws_X11_isNever dX11_stop_2 rfl (Nat.le_of_ble_eq_true rfl) ⟨by decide, by decide, by decide, by decide⟩) (fun r4300 u4301 h4299 => ?_)
  obtain ⟨rfl, rfl⟩ := h4299
  refine z_if_eq_t (tgt := 23) b dX11_stop_5 (by decide) (by decide) ?_
  refine z_iconst (v := (-1)) b dX11_stop_23 (by decide) ?_
  exact z_iret (u := S) b rfl dX11_stop_24 ⟨rfl, rfl⟩ rfl (by decide) (by decide)

set_option maxHeartbeats 4000000 in
set_option maxRecDepth 100000 in
theorem c_X12_stop {l : Launch} {D : va_G} {cy : Nat → ClassId} {T0 tB tE : Nat} {a : Nat → Nat} (S : GS) (p0 : Int32) (p1 : Int32) (p2 : Int32) (h_i_16 : fi S 16 = 0) : Ct l D cy T0 tB tE yX12_stop cX12_stop 6 (some .int) 2 43 0 0 (mw cy a S) [.ref (a 0), .int p0, .int p1, .int p2] (QI D (U := GS) (fun r u => (-1) = r ∧ S = u) (mw cy a)) := by
  refine Ct.ofZ RX12 "stop" [(0, .ref (a 0)), (1, .int p0), (2, .int p1), (3, .int p2)] rfl rfl rfl rfl (Nat.le_of_ble_eq_true rfl) ?_
  intro p e R s m args below meth c A b
  refine z_aload_n b dX12_stop_0 rfl rfl ?_
  refine z_iload_n b dX12_stop_1 rfl rfl ?_
  refine z_calli b (z_runV (q0 := 0) (As := [.int p0]) (st := []) b (c_X12_isNeverText S p0 h_i_16) cf_X12_isNeverText (mw_0 cy a S) rfl wm_X12_430 wi_X12_isNeverText ws_X12_isNeverText dX12_stop_2 rfl (Nat.le_of_ble_eq_true rfl) ⟨by decide, by decide, by decide, by decide⟩) (fun r4303 u4304 h4302 => ?_)
  obtain ⟨rfl, rfl⟩ := h4302
  refine z_if_eq_t (tgt := 27) b dX12_stop_5 (by decide) (by decide) ?_
  refine z_iconst (v := (-1)) b dX12_stop_27 (by decide) ?_
  exact z_iret (u := S) b rfl dX12_stop_28 ⟨rfl, rfl⟩ rfl (by decide) (by decide)

