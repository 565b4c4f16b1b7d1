theorem wm_X11_238 : Cond.methodLink RX11 238 yX8_richest ∈ gT := gT_of 1128 (by decide +kernel) (by decide +kernel)
theorem wm_X8_163 : Cond.methodLink RX8 163 yX8_wealth ∈ gT := gT_of 1132 (by decide +kernel) (by decide +kernel)
theorem wm_X8_161 : Cond.methodLink RX8 161 yX9_get ∈ gT := gT_of 1136 (by decide +kernel) (by decide +kernel)
theorem cf_X9_get : Cf yX9_get cX9_get 2 (some .int) 1 := ⟨gT_of 966 (by decide +kernel) (by decide +kernel), gT_of 95 (by decide +kernel) (by decide +kernel), by decide +kernel, by decide +kernel, by decide +kernel⟩
theorem wi_X9_get : Cond.instanceMethod yX9_get ∈ gT := gT_of 964 (by decide +kernel) (by decide +kernel)
theorem ws_X9_get : Cond.selects yX9_get.cls yX9_get yX9_get ∈ gT := gT_of 965 (by decide +kernel) (by decide +kernel)
theorem cf_X8_wealth : Cf yX8_wealth cX8_wealth 5 (some .int) 2 := ⟨gT_of 1135 (by decide +kernel) (by decide +kernel), gT_of 98 (by decide +kernel) (by decide +kernel), by decide +kernel, by decide +kernel, by decide +kernel⟩
theorem wi_X8_wealth : Cond.instanceMethod yX8_wealth ∈ gT := gT_of 1133 (by decide +kernel) (by decide +kernel)
theorem ws_X8_wealth : Cond.selects yX8_wealth.cls yX8_wealth yX8_wealth ∈ gT := gT_of 1134 (by decide +kernel) (by decide +kernel)
theorem cf_X8_richest : Cf yX8_richest cX8_richest 6 (some .int) 1 := ⟨gT_of 1131 (by decide +kernel) (by decide +kernel), gT_of 98 (by decide +kernel) (by decide +kernel), by decide +kernel, by decide +kernel, by decide +kernel⟩
theorem wi_X8_richest : Cond.instanceMethod yX8_richest ∈ gT := gT_of 1129 (by decide +kernel) (by decide +kernel)
theorem ws_X8_richest : Cond.selects yX8_richest.cls yX8_richest yX8_richest ∈ gT := gT_of 1130 (by decide +kernel) (by decide +kernel)
theorem wm_X11_241 : Cond.methodLink RX11 241 yX8_wealth ∈ gT := gT_of 1137 (by decide +kernel) (by decide +kernel)
theorem wm_X11_217 : Cond.methodLink RX11 217 yX8_acts ∈ gT := gT_of 1082 (by decide +kernel) (by decide +kernel)
theorem cf_X8_acts : Cf yX8_acts cX8_acts 2 (some .int) 1 := ⟨gT_of 1054 (by decide +kernel) (by decide +kernel), gT_of 98 (by decide +kernel) (by decide +kernel), by decide +kernel, by decide +kernel, by decide +kernel⟩
theorem wi_X8_acts : Cond.instanceMethod yX8_acts ∈ gT := gT_of 1052 (by decide +kernel) (by decide +kernel)
theorem ws_X8_acts : Cond.selects yX8_acts.cls yX8_acts yX8_acts ∈ gT := gT_of 1053 (by decide +kernel) (by decide +kernel)
theorem wm_X11_219 : Cond.methodLink RX11 219 yX8_code ∈ gT := gT_of 1083 (by decide +kernel) (by decide +kernel)
theorem wm_X8_117 : Cond.methodLink RX8 117 yX8_acts ∈ gT := gT_of 1051 (by decide +kernel) (by decide +kernel)
theorem cf_X8_code : Cf yX8_code cX8_code 5 (some .int) 2 := ⟨gT_of 1086 (by decide +kernel) (by decide +kernel), gT_of 98 (by decide +kernel) (by decide +kernel), by decide +kernel, by decide +kernel, by decide +kernel⟩
theorem wi_X8_code : Cond.instanceMethod yX8_code ∈ gT := gT_of 1084 (by decide +kernel) (by decide +kernel)
theorem ws_X8_code : Cond.selects yX8_code.cls yX8_code yX8_code ∈ gT := gT_of 1085 (by decide +kernel) (by decide +kernel)
theorem dX11_gain_0 : decode cX11_gain 0 = .ok (.iload_n 1, 1) := by decide +kernel
theorem dX11_gain_1 : decode cX11_gain 1 = .ok (.invokestatic 69, 3) := by decide +kernel
theorem dX11_gain_4 : decode cX11_gain 4 = .ok (.ifCond .eq 22, 3) := by decide +kernel
theorem dX11_gain_7 : decode cX11_gain 7 = .ok (.iload_n 2, 1) := by decide +kernel
theorem dX11_gain_8 : decode cX11_gain 8 = .ok (.invokestatic 181, 3) := by decide +kernel
theorem dX11_gain_11 : decode cX11_gain 11 = .ok (.ifCond .eq 15, 3) := by decide +kernel
theorem dX11_gain_14 : decode cX11_gain 14 = .ok (.iload_n 3, 1) := by decide +kernel
theorem dX11_gain_15 : decode cX11_gain 15 = .ok (.invokestatic 203, 3) := by decide +kernel
theorem dX11_gain_18 : decode cX11_gain 18 = .ok (.ifCond .eq 8, 3) := by decide +kernel
theorem dX11_gain_21 : decode cX11_gain 21 = .ok (.iload 4, 2) := by decide +kernel
theorem dX11_gain_23 : decode cX11_gain 23 = .ok (.ifCond .ge 6, 3) := by decide +kernel
theorem dX11_gain_26 : decode cX11_gain 26 = .ok (.bipush (-100), 2) := by decide +kernel
theorem dX11_gain_28 : decode cX11_gain 28 = .ok (.ireturn, 1) := by decide +kernel
theorem dX11_gain_29 : decode cX11_gain 29 = .ok (.aload_n 0, 1) := by decide +kernel
theorem dX11_gain_30 : decode cX11_gain 30 = .ok (.getfield 52, 3) := by decide +kernel
theorem dX11_gain_33 : decode cX11_gain 33 = .ok (.iload_n 2, 1) := by decide +kernel
theorem dX11_gain_34 : decode cX11_gain 34 = .ok (.iload_n 3, 1) := by decide +kernel
theorem dX11_gain_35 : decode cX11_gain 35 = .ok (.bipush 7, 2) := by decide +kernel
theorem dX11_gain_37 : decode cX11_gain 37 = .ok (.iconst 0, 1) := by decide +kernel
theorem dX11_gain_38 : decode cX11_gain 38 = .ok (.invokevirtual 206, 3) := by decide +kernel
theorem dX11_gain_41 : decode cX11_gain 41 = .ok (.aload_n 0, 1) := by decide +kernel
theorem dX11_gain_42 : decode cX11_gain 42 = .ok (.getfield 52, 3) := by decide +kernel
theorem dX11_gain_45 : decode cX11_gain 45 = .ok (.invokevirtual 232, 3) := by decide +kernel
theorem dX11_gain_48 : decode cX11_gain 48 = .ok (.aload_n 0, 1) := by decide +kernel
theorem dX11_gain_49 : decode cX11_gain 49 = .ok (.getfield 52, 3) := by decide +kernel
theorem dX11_gain_52 : decode cX11_gain 52 = .ok (.getfield 214, 3) := by decide +kernel
theorem dX11_gain_55 : decode cX11_gain 55 = .ok (.ifCond .eq 6, 3) := by decide +kernel
theorem dX11_gain_58 : decode cX11_gain 58 = .ok (.bipush (-101), 2) := by decide +kernel
theorem dX11_gain_60 : decode cX11_gain 60 = .ok (.ireturn, 1) := by decide +kernel
theorem dX11_gain_61 : decode cX11_gain 61 = .ok (.aload_n 0, 1) := by decide +kernel
theorem dX11_gain_62 : decode cX11_gain 62 = .ok (.getfield 52, 3) := by decide +kernel
theorem dX11_gain_65 : decode cX11_gain 65 = .ok (.iload_n 1, 1) := by decide +kernel
theorem dX11_gain_66 : decode cX11_gain 66 = .ok (.invokevirtual 238, 3) := by decide +kernel
theorem dX11_gain_69 : decode cX11_gain 69 = .ok (.istore 5, 2) := by decide +kernel
theorem dX11_gain_71 : decode cX11_gain 71 = .ok (.iload 4, 2) := by decide +kernel
theorem dX11_gain_73 : decode cX11_gain 73 = .ok (.ifCond .ne 14, 3) := by decide +kernel
theorem dX11_gain_76 : decode cX11_gain 76 = .ok (.aload_n 0, 1) := by decide +kernel
theorem dX11_gain_77 : decode cX11_gain 77 = .ok (.getfield 52, 3) := by decide +kernel
theorem dX11_gain_80 : decode cX11_gain 80 = .ok (.iload 5, 2) := by decide +kernel
theorem dX11_gain_82 : decode cX11_gain 82 = .ok (.iload_n 1, 1) := by decide +kernel
theorem dX11_gain_83 : decode cX11_gain 83 = .ok (.invokevirtual 241, 3) := by decide +kernel
theorem dX11_gain_86 : decode cX11_gain 86 = .ok (.ireturn, 1) := by decide +kernel
theorem dX11_gain_87 : decode cX11_gain 87 = .ok (.iload 4, 2) := by decide +kernel
theorem dX11_gain_89 : decode cX11_gain 89 = .ok (.iconst 1, 1) := by decide +kernel
theorem dX11_gain_90 : decode cX11_gain 90 = .ok (.if_icmp .ne 13, 3) := by decide +kernel
theorem dX11_gain_93 : decode cX11_gain 93 = .ok (.aload_n 0, 1) := by decide +kernel
theorem dX11_gain_94 : decode cX11_gain 94 = .ok (.getfield 52, 3) := by decide +kernel
theorem dX11_gain_97 : decode cX11_gain 97 = .ok (.iload 5, 2) := by decide +kernel
theorem dX11_gain_99 : decode cX11_gain 99 = .ok (.invokevirtual 217, 3) := by decide +kernel
theorem dX11_gain_102 : decode cX11_gain 102 = .ok (.ireturn, 1) := by decide +kernel
theorem dX11_gain_103 : decode cX11_gain 103 = .ok (.aload_n 0, 1) := by decide +kernel
theorem dX11_gain_104 : decode cX11_gain 104 = .ok (.getfield 52, 3) := by decide +kernel
theorem dX11_gain_107 : decode cX11_gain 107 = .ok (.iload 5, 2) := by decide +kernel
theorem dX11_gain_109 : decode cX11_gain 109 = .ok (.iload 4, 2) := by decide +kernel
theorem dX11_gain_111 : decode cX11_gain 111 = .ok (.iconst 2, 1) := by decide +kernel
theorem dX11_gain_112 : decode cX11_gain 112 = .ok (.isub, 1) := by decide +kernel
theorem dX11_gain_113 : decode cX11_gain 113 = .ok (.invokevirtual 219, 3) := by decide +kernel
theorem dX11_gain_116 : decode cX11_gain 116 = .ok (.istore 6, 2) := by decide +kernel
theorem dX11_gain_118 : decode cX11_gain 118 = .ok (.iload 6, 2) := by decide +kernel
theorem dX11_gain_120 : decode cX11_gain 120 = .ok (.iconst (-1), 1) := by decide +kernel
theorem dX11_gain_121 : decode cX11_gain 121 = .ok (.if_icmp .ne 8, 3) := by decide +kernel
theorem dX11_gain_124 : decode cX11_gain 124 = .ok (.bipush (-100), 2) := by decide +kernel
theorem dX11_gain_126 : decode cX11_gain 126 = .ok (.goto 5, 3) := by decide +kernel
theorem dX11_gain_129 : decode cX11_gain 129 = .ok (.iload 6, 2) := by decide +kernel
theorem dX11_gain_131 : decode cX11_gain 131 = .ok (.ireturn, 1) := by decide +kernel
theorem dX12_gain_0 : decode cX12_gain 0 = .ok (.iload_n 1, 1) := by decide +kernel
theorem dX12_gain_1 : decode cX12_gain 1 = .ok (.invokestatic 170, 3) := by decide +kernel
theorem dX12_gain_4 : decode cX12_gain 4 = .ok (.ifCond .eq 23, 3) := by decide +kernel
theorem dX12_gain_7 : decode cX12_gain 7 = .ok (.aload_n 0, 1) := by decide +kernel
theorem dX12_gain_8 : decode cX12_gain 8 = .ok (.iload_n 2, 1) := by decide +kernel
theorem dX12_gain_9 : decode cX12_gain 9 = .ok (.iload_n 3, 1) := by decide +kernel
theorem dX12_gain_10 : decode cX12_gain 10 = .ok (.invokevirtual 433, 3) := by decide +kernel
theorem dX12_gain_13 : decode cX12_gain 13 = .ok (.ifCond .eq 14, 3) := by decide +kernel
theorem dX12_gain_16 : decode cX12_gain 16 = .ok (.iload 4, 2) := by decide +kernel
theorem dX12_gain_18 : decode cX12_gain 18 = .ok (.iconst 0, 1) := by decide +kernel
theorem dX12_gain_19 : decode cX12_gain 19 = .ok (.bipush 7, 2) := by decide +kernel
theorem dX12_gain_21 : decode cX12_gain 21 = .ok (.invokestatic 1, 3) := by decide +kernel
theorem dX12_gain_24 : decode cX12_gain 24 = .ok (.ifCond .ne 6, 3) := by decide +kernel
theorem dX12_gain_27 : decode cX12_gain 27 = .ok (.bipush (-100), 2) := by decide +kernel
theorem dX12_gain_29 : decode cX12_gain 29 = .ok (.ireturn, 1) := by decide +kernel
theorem dX12_gain_30 : decode cX12_gain 30 = .ok (.aload_n 0, 1) := by decide +kernel
theorem dX12_gain_31 : decode cX12_gain 31 = .ok (.iconst (-1), 1) := by decide +kernel
theorem dX12_gain_32 : decode cX12_gain 32 = .ok (.iload_n 2, 1) := by decide +kernel
theorem dX12_gain_33 : decode cX12_gain 33 = .ok (.iload_n 3, 1) := by decide +kernel
theorem dX12_gain_34 : decode cX12_gain 34 = .ok (.bipush 7, 2) := by decide +kernel
theorem dX12_gain_36 : decode cX12_gain 36 = .ok (.iconst 0, 1) := by decide +kernel
theorem dX12_gain_37 : decode cX12_gain 37 = .ok (.invokevirtual 436, 3) := by decide +kernel
theorem dX12_gain_40 : decode cX12_gain 40 = .ok (.aload_n 0, 1) := by decide +kernel
theorem dX12_gain_41 : decode cX12_gain 41 = .ok (.getfield 408, 3) := by decide +kernel
theorem dX12_gain_44 : decode cX12_gain 44 = .ok (.ifCond .eq 6, 3) := by decide +kernel
theorem dX12_gain_47 : decode cX12_gain 47 = .ok (.bipush (-101), 2) := by decide +kernel
theorem dX12_gain_49 : decode cX12_gain 49 = .ok (.ireturn, 1) := by decide +kernel
theorem dX12_gain_50 : decode cX12_gain 50 = .ok (.iconst (-1), 1) := by decide +kernel
theorem dX12_gain_51 : decode cX12_gain 51 = .ok (.istore 5, 2) := by decide +kernel
theorem dX12_gain_53 : decode cX12_gain 53 = .ok (.iconst 0, 1) := by decide +kernel
theorem dX12_gain_54 : decode cX12_gain 54 = .ok (.istore 6, 2) := by decide +kernel
theorem dX12_gain_56 : decode cX12_gain 56 = .ok (.iconst 0, 1) := by decide +kernel
theorem dX12_gain_57 : decode cX12_gain 57 = .ok (.istore 7, 2) := by decide +kernel
theorem dX12_gain_59 : decode cX12_gain 59 = .ok (.iload 7, 2) := by decide +kernel
theorem dX12_gain_61 : decode cX12_gain 61 = .ok (.aload_n 0, 1) := by decide +kernel
theorem dX12_gain_62 : decode cX12_gain 62 = .ok (.getfield 405, 3) := by decide +kernel
theorem dX12_gain_65 : decode cX12_gain 65 = .ok (.if_icmp .ge 82, 3) := by decide +kernel
theorem dX12_gain_68 : decode cX12_gain 68 = .ok (.aload_n 0, 1) := by decide +kernel
theorem dX12_gain_69 : decode cX12_gain 69 = .ok (.aload_n 0, 1) := by decide +kernel
theorem dX12_gain_70 : decode cX12_gain 70 = .ok (.getfield 97, 3) := by decide +kernel
theorem dX12_gain_73 : decode cX12_gain 73 = .ok (.iload 7, 2) := by decide +kernel
theorem dX12_gain_75 : decode cX12_gain 75 = .ok (.laload, 1) := by decide +kernel
theorem dX12_gain_76 : decode cX12_gain 76 = .ok (.invokevirtual 174, 3) := by decide +kernel
theorem dX12_gain_79 : decode cX12_gain 79 = .ok (.aload_n 0, 1) := by decide +kernel
theorem dX12_gain_80 : decode cX12_gain 80 = .ok (.getfield 13, 3) := by decide +kernel
theorem dX12_gain_83 : decode cX12_gain 83 = .ok (.iload_n 1, 1) := by decide +kernel
theorem dX12_gain_84 : decode cX12_gain 84 = .ok (.iaload, 1) := by decide +kernel
theorem dX12_gain_85 : decode cX12_gain 85 = .ok (.aload_n 0, 1) := by decide +kernel
theorem dX12_gain_86 : decode cX12_gain 86 = .ok (.getfield 17, 3) := by decide +kernel
theorem dX12_gain_89 : decode cX12_gain 89 = .ok (.iconst 3, 1) := by decide +kernel
theorem dX12_gain_90 : decode cX12_gain 90 = .ok (.iload_n 1, 1) := by decide +kernel
theorem dX12_gain_91 : decode cX12_gain 91 = .ok (.imul, 1) := by decide +kernel
theorem dX12_gain_92 : decode cX12_gain 92 = .ok (.iload_n 1, 1) := by decide +kernel
theorem dX12_gain_93 : decode cX12_gain 93 = .ok (.iconst 0, 1) := by decide +kernel
theorem dX12_gain_94 : decode cX12_gain 94 = .ok (.invokestatic 160, 3) := by decide +kernel
theorem dX12_gain_97 : decode cX12_gain 97 = .ok (.iadd, 1) := by decide +kernel
theorem dX12_gain_98 : decode cX12_gain 98 = .ok (.iaload, 1) := by decide +kernel
theorem dX12_gain_99 : decode cX12_gain 99 = .ok (.isub, 1) := by decide +kernel
theorem dX12_gain_100 : decode cX12_gain 100 = .ok (.aload_n 0, 1) := by decide +kernel
theorem dX12_gain_101 : decode cX12_gain 101 = .ok (.getfield 17, 3) := by decide +kernel
theorem dX12_gain_104 : decode cX12_gain 104 = .ok (.iconst 3, 1) := by decide +kernel
theorem dX12_gain_105 : decode cX12_gain 105 = .ok (.iload_n 1, 1) := by decide +kernel
theorem dX12_gain_106 : decode cX12_gain 106 = .ok (.imul, 1) := by decide +kernel
theorem dX12_gain_107 : decode cX12_gain 107 = .ok (.iload_n 1, 1) := by decide +kernel
theorem dX12_gain_108 : decode cX12_gain 108 = .ok (.iconst 1, 1) := by decide +kernel
theorem dX12_gain_109 : decode cX12_gain 109 = .ok (.invokestatic 160, 3) := by decide +kernel
theorem dX12_gain_112 : decode cX12_gain 112 = .ok (.iadd, 1) := by decide +kernel
theorem dX12_gain_113 : decode cX12_gain 113 = .ok (.iaload, 1) := by decide +kernel
theorem dX12_gain_114 : decode cX12_gain 114 = .ok (.isub, 1) := by decide +kernel
theorem dX12_gain_115 : decode cX12_gain 115 = .ok (.istore 8, 2) := by decide +kernel
theorem dX12_gain_117 : decode cX12_gain 117 = .ok (.iload 5, 2) := by decide +kernel
theorem dX12_gain_119 : decode cX12_gain 119 = .ok (.iconst (-1), 1) := by decide +kernel
theorem dX12_gain_120 : decode cX12_gain 120 = .ok (.if_icmp .eq 13, 3) := by decide +kernel
theorem dX12_gain_123 : decode cX12_gain 123 = .ok (.iload 8, 2) := by decide +kernel
theorem dX12_gain_125 : decode cX12_gain 125 = .ok (.iload 6, 2) := by decide +kernel
theorem dX12_gain_127 : decode cX12_gain 127 = .ok (.if_icmp .gt 6, 3) := by decide +kernel
theorem dX12_gain_130 : decode cX12_gain 130 = .ok (.goto 11, 3) := by decide +kernel
theorem dX12_gain_133 : decode cX12_gain 133 = .ok (.iload 7, 2) := by decide +kernel
theorem dX12_gain_135 : decode cX12_gain 135 = .ok (.istore 5, 2) := by decide +kernel
theorem dX12_gain_137 : decode cX12_gain 137 = .ok (.iload 8, 2) := by decide +kernel
theorem dX12_gain_139 : decode cX12_gain 139 = .ok (.istore 6, 2) := by decide +kernel
theorem dX12_gain_141 : decode cX12_gain 141 = .ok (.iinc 7 1, 3) := by decide +kernel
theorem dX12_gain_144 : decode cX12_gain 144 = .ok (.goto (-85), 3) := by decide +kernel
theorem dX12_gain_147 : decode cX12_gain 147 = .ok (.iload 4, 2) := by decide +kernel
theorem dX12_gain_149 : decode cX12_gain 149 = .ok (.iconst 2, 1) := by decide +kernel
theorem dX12_gain_150 : decode cX12_gain 150 = .ok (.if_icmp .ge 21, 3) := by decide +kernel
theorem dX12_gain_153 : decode cX12_gain 153 = .ok (.iload 4, 2) := by decide +kernel
theorem dX12_gain_155 : decode cX12_gain 155 = .ok (.ifCond .ne 8, 3) := by decide +kernel
theorem dX12_gain_158 : decode cX12_gain 158 = .ok (.iload 6, 2) := by decide +kernel
theorem dX12_gain_160 : decode cX12_gain 160 = .ok (.goto 10, 3) := by decide +kernel
theorem dX12_gain_163 : decode cX12_gain 163 = .ok (.aload_n 0, 1) := by decide +kernel
theorem dX12_gain_164 : decode cX12_gain 164 = .ok (.getfield 107, 3) := by decide +kernel
theorem dX12_gain_167 : decode cX12_gain 167 = .ok (.iload 5, 2) := by decide +kernel
theorem dX12_gain_169 : decode cX12_gain 169 = .ok (.iaload, 1) := by decide +kernel
theorem dX12_gain_170 : decode cX12_gain 170 = .ok (.ireturn, 1) := by decide +kernel
theorem dX12_gain_171 : decode cX12_gain 171 = .ok (.iload 4, 2) := by decide +kernel
theorem dX12_gain_173 : decode cX12_gain 173 = .ok (.iconst 2, 1) := by decide +kernel
theorem dX12_gain_174 : decode cX12_gain 174 = .ok (.isub, 1) := by decide +kernel
theorem dX12_gain_175 : decode cX12_gain 175 = .ok (.aload_n 0, 1) := by decide +kernel
theorem dX12_gain_176 : decode cX12_gain 176 = .ok (.getfield 107, 3) := by decide +kernel
theorem dX12_gain_179 : decode cX12_gain 179 = .ok (.iload 5, 2) := by decide +kernel
theorem dX12_gain_181 : decode cX12_gain 181 = .ok (.iaload, 1) := by decide +kernel
theorem dX12_gain_182 : decode cX12_gain 182 = .ok (.if_icmp .ge 16, 3) := by decide +kernel
theorem dX12_gain_185 : decode cX12_gain 185 = .ok (.aload_n 0, 1) := by decide +kernel
theorem dX12_gain_186 : decode cX12_gain 186 = .ok (.iload 5, 2) := by decide +kernel
theorem dX12_gain_188 : decode cX12_gain 188 = .ok (.iload 4, 2) := by decide +kernel
theorem dX12_gain_190 : decode cX12_gain 190 = .ok (.iconst 2, 1) := by decide +kernel
theorem dX12_gain_191 : decode cX12_gain 191 = .ok (.isub, 1) := by decide +kernel
theorem dX12_gain_192 : decode cX12_gain 192 = .ok (.invokevirtual 439, 3) := by decide +kernel
theorem dX12_gain_195 : decode cX12_gain 195 = .ok (.goto 5, 3) := by decide +kernel
theorem dX12_gain_198 : decode cX12_gain 198 = .ok (.bipush (-100), 2) := by decide +kernel
theorem dX12_gain_200 : decode cX12_gain 200 = .ok (.ireturn, 1) := by decide +kernel
theorem dX8_acts_0 : decode cX8_acts 0 = .ok (.iload_n 1, 1) := by decide +kernel
theorem dX8_acts_1 : decode cX8_acts 1 = .ok (.ifCond .lt 20, 3) := by decide +kernel
theorem dX8_acts_4 : decode cX8_acts 4 = .ok (.iload_n 1, 1) := by decide +kernel
theorem dX8_acts_5 : decode cX8_acts 5 = .ok (.aload_n 0, 1) := by decide +kernel
theorem dX8_acts_6 : decode cX8_acts 6 = .ok (.getfield 64, 3) := by decide +kernel
theorem dX8_acts_9 : decode cX8_acts 9 = .ok (.if_icmp .ge 12, 3) := by decide +kernel
theorem dX8_acts_12 : decode cX8_acts 12 = .ok (.aload_n 0, 1) := by decide +kernel
theorem dX8_acts_13 : decode cX8_acts 13 = .ok (.getfield 22, 3) := by decide +kernel
theorem dX8_acts_16 : decode cX8_acts 16 = .ok (.iload_n 1, 1) := by decide +kernel
theorem dX8_acts_17 : decode cX8_acts 17 = .ok (.iaload, 1) := by decide +kernel
theorem dX8_acts_18 : decode cX8_acts 18 = .ok (.goto 4, 3) := by decide +kernel
theorem dX8_acts_21 : decode cX8_acts 21 = .ok (.iconst 0, 1) := by decide +kernel
theorem dX8_acts_22 : decode cX8_acts 22 = .ok (.ireturn, 1) := by decide +kernel
theorem dX8_code_0 : decode cX8_code 0 = .ok (.iload_n 2, 1) := by decide +kernel
theorem dX8_code_1 : decode cX8_code 1 = .ok (.ifCond .lt 12, 3) := by decide +kernel
theorem dX8_code_4 : decode cX8_code 4 = .ok (.iload_n 2, 1) := by decide +kernel
theorem dX8_code_5 : decode cX8_code 5 = .ok (.aload_n 0, 1) := by decide +kernel
theorem dX8_code_6 : decode cX8_code 6 = .ok (.iload_n 1, 1) := by decide +kernel
theorem dX8_code_7 : decode cX8_code 7 = .ok (.invokevirtual 117, 3) := by decide +kernel
theorem dX8_code_10 : decode cX8_code 10 = .ok (.if_icmp .lt 5, 3) := by decide +kernel
theorem dX8_code_13 : decode cX8_code 13 = .ok (.iconst (-1), 1) := by decide +kernel
theorem dX8_code_14 : decode cX8_code 14 = .ok (.ireturn, 1) := by decide +kernel
theorem dX8_code_15 : decode cX8_code 15 = .ok (.iload_n 1, 1) := by decide +kernel
theorem dX8_code_16 : decode cX8_code 16 = .ok (.istore_n 3, 1) := by decide +kernel
theorem dX8_code_17 : decode cX8_code 17 = .ok (.aload_n 0, 1) := by decide +kernel
theorem dX8_code_18 : decode cX8_code 18 = .ok (.iload_n 1, 1) := by decide +kernel
theorem dX8_code_19 : decode cX8_code 19 = .ok (.invokevirtual 117, 3) := by decide +kernel
theorem dX8_code_22 : decode cX8_code 22 = .ok (.iconst 1, 1) := by decide +kernel
theorem dX8_code_23 : decode cX8_code 23 = .ok (.isub, 1) := by decide +kernel
theorem dX8_code_24 : decode cX8_code 24 = .ok (.iload_n 2, 1) := by decide +kernel
theorem dX8_code_25 : decode cX8_code 25 = .ok (.isub, 1) := by decide +kernel
theorem dX8_code_26 : decode cX8_code 26 = .ok (.istore 4, 2) := by decide +kernel
theorem dX8_code_28 : decode cX8_code 28 = .ok (.iload 4, 2) := by decide +kernel
theorem dX8_code_30 : decode cX8_code 30 = .ok (.ifCond .le 28, 3) := by decide +kernel
theorem dX8_code_33 : decode cX8_code 33 = .ok (.iload_n 3, 1) := by decide +kernel
theorem dX8_code_34 : decode cX8_code 34 = .ok (.ifCond .lt 24, 3) := by decide +kernel
theorem dX8_code_37 : decode cX8_code 37 = .ok (.iload_n 3, 1) := by decide +kernel
theorem dX8_code_38 : decode cX8_code 38 = .ok (.aload_n 0, 1) := by decide +kernel
theorem dX8_code_39 : decode cX8_code 39 = .ok (.getfield 64, 3) := by decide +kernel
theorem dX8_code_42 : decode cX8_code 42 = .ok (.if_icmp .ge 16, 3) := by decide +kernel
theorem dX8_code_45 : decode cX8_code 45 = .ok (.aload_n 0, 1) := by decide +kernel
theorem dX8_code_46 : decode cX8_code 46 = .ok (.getfield 26, 3) := by decide +kernel
theorem dX8_code_49 : decode cX8_code 49 = .ok (.iload_n 3, 1) := by decide +kernel
theorem dX8_code_50 : decode cX8_code 50 = .ok (.iaload, 1) := by decide +kernel
theorem dX8_code_51 : decode cX8_code 51 = .ok (.istore_n 3, 1) := by decide +kernel
theorem dX8_code_52 : decode cX8_code 52 = .ok (.iinc 4 (-1), 3) := by decide +kernel
theorem dX8_code_55 : decode cX8_code 55 = .ok (.goto (-27), 3) := by decide +kernel
theorem dX8_code_58 : decode cX8_code 58 = .ok (.iload_n 3, 1) := by decide +kernel
theorem dX8_code_59 : decode cX8_code 59 = .ok (.ifCond .lt 20, 3) := by decide +kernel
theorem dX8_code_62 : decode cX8_code 62 = .ok (.iload_n 3, 1) := by decide +kernel
theorem dX8_code_63 : decode cX8_code 63 = .ok (.aload_n 0, 1) := by decide +kernel
theorem dX8_code_64 : decode cX8_code 64 = .ok (.getfield 64, 3) := by decide +kernel
theorem dX8_code_67 : decode cX8_code 67 = .ok (.if_icmp .ge 12, 3) := by decide +kernel
theorem dX8_code_70 : decode cX8_code 70 = .ok (.aload_n 0, 1) := by decide +kernel
theorem dX8_code_71 : decode cX8_code 71 = .ok (.getfield 29, 3) := by decide +kernel
theorem dX8_code_74 : decode cX8_code 74 = .ok (.iload_n 3, 1) := by decide +kernel
theorem dX8_code_75 : decode cX8_code 75 = .ok (.iaload, 1) := by decide +kernel
theorem dX8_code_76 : decode cX8_code 76 = .ok (.goto 4, 3) := by decide +kernel
theorem dX8_code_79 : decode cX8_code 79 = .ok (.iconst (-1), 1) := by decide +kernel
theorem dX8_code_80 : decode cX8_code 80 = .ok (.ireturn, 1) := by decide +kernel
theorem dX8_richest_0 : decode cX8_richest 0 = .ok (.iconst 0, 1) := by decide +kernel
theorem dX8_richest_1 : decode cX8_richest 1 = .ok (.istore_n 2, 1) := by decide +kernel
theorem dX8_richest_2 : decode cX8_richest 2 = .ok (.aload_n 0, 1) := by decide +kernel
theorem dX8_richest_3 : decode cX8_richest 3 = .ok (.iconst 0, 1) := by decide +kernel
theorem dX8_richest_4 : decode cX8_richest 4 = .ok (.iload_n 1, 1) := by decide +kernel
theorem dX8_richest_5 : decode cX8_richest 5 = .ok (.invokevirtual 163, 3) := by decide +kernel
theorem dX8_richest_8 : decode cX8_richest 8 = .ok (.istore_n 3, 1) := by decide +kernel
theorem dX8_richest_9 : decode cX8_richest 9 = .ok (.iconst 1, 1) := by decide +kernel
theorem dX8_richest_10 : decode cX8_richest 10 = .ok (.istore 4, 2) := by decide +kernel
theorem dX8_richest_12 : decode cX8_richest 12 = .ok (.iload 4, 2) := by decide +kernel
theorem dX8_richest_14 : decode cX8_richest 14 = .ok (.aload_n 0, 1) := by decide +kernel
theorem dX8_richest_15 : decode cX8_richest 15 = .ok (.getfield 64, 3) := by decide +kernel
theorem dX8_richest_18 : decode cX8_richest 18 = .ok (.if_icmp .ge 38, 3) := by decide +kernel
theorem dX8_richest_21 : decode cX8_richest 21 = .ok (.iload 4, 2) := by decide +kernel
theorem dX8_richest_23 : decode cX8_richest 23 = .ok (.sipush 400, 3) := by decide +kernel
theorem dX8_richest_26 : decode cX8_richest 26 = .ok (.if_icmp .ge 30, 3) := by decide +kernel
theorem dX8_richest_29 : decode cX8_richest 29 = .ok (.aload_n 0, 1) := by decide +kernel
theorem dX8_richest_30 : decode cX8_richest 30 = .ok (.iload 4, 2) := by decide +kernel
theorem dX8_richest_32 : decode cX8_richest 32 = .ok (.iload_n 1, 1) := by decide +kernel
theorem dX8_richest_33 : decode cX8_richest 33 = .ok (.invokevirtual 163, 3) := by decide +kernel
theorem dX8_richest_36 : decode cX8_richest 36 = .ok (.istore 5, 2) := by decide +kernel
theorem dX8_richest_38 : decode cX8_richest 38 = .ok (.iload 5, 2) := by decide +kernel
theorem dX8_richest_40 : decode cX8_richest 40 = .ok (.iload_n 3, 1) := by decide +kernel
theorem dX8_richest_41 : decode cX8_richest 41 = .ok (.if_icmp .le 9, 3) := by decide +kernel
theorem dX8_richest_44 : decode cX8_richest 44 = .ok (.iload 5, 2) := by decide +kernel
theorem dX8_richest_46 : decode cX8_richest 46 = .ok (.istore_n 3, 1) := by decide +kernel
theorem dX8_richest_47 : decode cX8_richest 47 = .ok (.iload 4, 2) := by decide +kernel
theorem dX8_richest_49 : decode cX8_richest 49 = .ok (.istore_n 2, 1) := by decide +kernel
theorem dX8_richest_50 : decode cX8_richest 50 = .ok (.iinc 4 1, 3) := by decide +kernel
theorem dX8_richest_53 : decode cX8_richest 53 = .ok (.goto (-41), 3) := by decide +kernel
theorem dX8_richest_56 : decode cX8_richest 56 = .ok (.iload_n 2, 1) := by decide +kernel
theorem dX8_richest_57 : decode cX8_richest 57 = .ok (.ireturn, 1) := by decide +kernel
theorem dX8_wealth_0 : decode cX8_wealth 0 = .ok (.aload_n 0, 1) := by decide +kernel
theorem dX8_wealth_1 : decode cX8_wealth 1 = .ok (.iload_n 1, 1) := by decide +kernel
theorem dX8_wealth_2 : decode cX8_wealth 2 = .ok (.invokevirtual 153, 3) := by decide +kernel
theorem dX8_wealth_5 : decode cX8_wealth 5 = .ok (.aload_n 0, 1) := by decide +kernel
theorem dX8_wealth_6 : decode cX8_wealth 6 = .ok (.getfield 12, 3) := by decide +kernel
theorem dX8_wealth_9 : decode cX8_wealth 9 = .ok (.iload_n 2, 1) := by decide +kernel
theorem dX8_wealth_10 : decode cX8_wealth 10 = .ok (.invokevirtual 161, 3) := by decide +kernel
theorem dX8_wealth_13 : decode cX8_wealth 13 = .ok (.istore_n 3, 1) := by decide +kernel
theorem dX8_wealth_14 : decode cX8_wealth 14 = .ok (.iconst 0, 1) := by decide +kernel
theorem dX8_wealth_15 : decode cX8_wealth 15 = .ok (.istore 4, 2) := by decide +kernel
theorem dX8_wealth_17 : decode cX8_wealth 17 = .ok (.iload 4, 2) := by decide +kernel
theorem dX8_wealth_19 : decode cX8_wealth 19 = .ok (.iconst 3, 1) := by decide +kernel
theorem dX8_wealth_20 : decode cX8_wealth 20 = .ok (.if_icmp .ge 34, 3) := by decide +kernel
theorem dX8_wealth_23 : decode cX8_wealth 23 = .ok (.iload 4, 2) := by decide +kernel
theorem dX8_wealth_25 : decode cX8_wealth 25 = .ok (.iload_n 2, 1) := by decide +kernel
theorem dX8_wealth_26 : decode cX8_wealth 26 = .ok (.if_icmp .eq 22, 3) := by decide +kernel
theorem dX8_wealth_29 : decode cX8_wealth 29 = .ok (.iload_n 3, 1) := by decide +kernel
theorem dX8_wealth_30 : decode cX8_wealth 30 = .ok (.aload_n 0, 1) := by decide +kernel
theorem dX8_wealth_31 : decode cX8_wealth 31 = .ok (.getfield 12, 3) := by decide +kernel
theorem dX8_wealth_34 : decode cX8_wealth 34 = .ok (.bipush 10, 2) := by decide +kernel
theorem dX8_wealth_36 : decode cX8_wealth 36 = .ok (.iconst 3, 1) := by decide +kernel
theorem dX8_wealth_37 : decode cX8_wealth 37 = .ok (.iload_n 2, 1) := by decide +kernel
theorem dX8_wealth_38 : decode cX8_wealth 38 = .ok (.imul, 1) := by decide +kernel
theorem dX8_wealth_39 : decode cX8_wealth 39 = .ok (.iadd, 1) := by decide +kernel
theorem dX8_wealth_40 : decode cX8_wealth 40 = .ok (.iload 4, 2) := by decide +kernel
theorem dX8_wealth_42 : decode cX8_wealth 42 = .ok (.iadd, 1) := by decide +kernel
theorem dX8_wealth_43 : decode cX8_wealth 43 = .ok (.invokevirtual 161, 3) := by decide +kernel
theorem dX8_wealth_46 : decode cX8_wealth 46 = .ok (.isub, 1) := by decide +kernel
theorem dX8_wealth_47 : decode cX8_wealth 47 = .ok (.istore_n 3, 1) := by decide +kernel
theorem dX8_wealth_48 : decode cX8_wealth 48 = .ok (.iinc 4 1, 3) := by decide +kernel
theorem dX8_wealth_51 : decode cX8_wealth 51 = .ok (.goto (-34), 3) := by decide +kernel
theorem dX8_wealth_54 : decode cX8_wealth 54 = .ok (.iload_n 3, 1) := by decide +kernel
theorem dX8_wealth_55 : decode cX8_wealth 55 = .ok (.ireturn, 1) := by decide +kernel
theorem dX9_get_0 : decode cX9_get 0 = .ok (.iload_n 1, 1) := by decide +kernel
theorem dX9_get_1 : decode cX9_get 1 = .ok (.ifCond .lt 21, 3) := by decide +kernel
theorem dX9_get_4 : decode cX9_get 4 = .ok (.iload_n 1, 1) := by decide +kernel
theorem dX9_get_5 : decode cX9_get 5 = .ok (.aload_n 0, 1) := by decide +kernel
theorem dX9_get_6 : decode cX9_get 6 = .ok (.getfield 11, 3) := by decide +kernel
theorem dX9_get_9 : decode cX9_get 9 = .ok (.arraylength, 1) := by decide +kernel
theorem dX9_get_10 : decode cX9_get 10 = .ok (.if_icmp .ge 12, 3) := by decide +kernel
theorem dX9_get_13 : decode cX9_get 13 = .ok (.aload_n 0, 1) := by decide +kernel
theorem dX9_get_14 : decode cX9_get 14 = .ok (.getfield 11, 3) := by decide +kernel
theorem dX9_get_17 : decode cX9_get 17 = .ok (.iload_n 1, 1) := by decide +kernel
theorem dX9_get_18 : decode cX9_get 18 = .ok (.iaload, 1) := by decide +kernel
theorem dX9_get_19 : decode cX9_get 19 = .ok (.goto 4, 3) := by decide +kernel
theorem dX9_get_22 : decode cX9_get 22 = .ok (.iconst 0, 1) := by decide +kernel
theorem dX9_get_23 : decode cX9_get 23 = .ok (.ireturn, 1) := by decide +kernel
set_option maxHeartbeats 4000000 in
set_option maxRecDepth 100000 in
theorem c_X11_gain {l : Launch} {D : va_G} {cy : Nat → ClassId} {T0 tB tE : Nat} {a : Nat → Nat} {rw : Nat → Option Nat} (S : GS) (p0 : Int32) (p1 : Int32) (p2 : Int32) (p3 : Int32)  (hr_p0 : (-2147483648) ≤ p0.toInt ∧ p0.toInt ≤ (-1)) : Ct l D cy T0 tB tE yX11_gain cX11_gain 7 (some .int) 1 20 0 0 (cw cy tE a rw S) [.ref (a 0), .int p0, .int p1, .int p2, .int p3] (QI D (U := GS) (fun r u => (-100) = r ∧ S = u) (cw cy tE a rw)) := by
  refine Ct.ofZ RX11 "gain" [(0, .ref (a 0)), (1, .int p0), (2, .int p1), (3, .int p2), (4, .int p3)] rfl rfl rfl rfl (Nat.le_of_ble_eq_true rfl) ?_
  intro p e R s m args below meth c A b
  refine z_iload_n b dX11_gain_0 rfl rfl ?_
  refine z_calli b (z_runS (As := [.int p0]) (st := []) b (c_X11_isPerson S p0 ⟨by omega, by omega⟩) cf_X11_isPerson wm_X11_69 ws_X11_isPerson dX11_gain_1 rfl (Nat.le_of_ble_eq_true rfl) ⟨by decide, by decide, by decide, by decide⟩) (fun r11823 u11824 h11822 => ?_)
  obtain ⟨rfl, rfl⟩ := h11822
  refine z_if_eq_t (tgt := 26) b dX11_gain_4 (by decide) (by decide) ?_
  refine z_bipush (v := (-100)) b dX11_gain_26 (by decide) ?_
  exact z_iret (u := S) b rfl dX11_gain_28 ⟨rfl, rfl⟩ rfl (by decide) (by decide)

set_option maxHeartbeats 4000000 in
set_option maxRecDepth 100000 in
theorem c_X12_gain {l : Launch} {D : va_G} {cy : Nat → ClassId} {T0 tB tE : Nat} {a : Nat → Nat} (S : GS) (p0 : Int32) (p1 : Int32) (p2 : Int32) (p3 : Int32)  (hr_p0 : (-2147483648) ≤ p0.toInt ∧ p0.toInt ≤ (-1)) : Ct l D cy T0 tB tE yX12_gain cX12_gain 9 (some .int) 2 42 0 0 (mw cy a S) [.ref (a 0), .int p0, .int p1, .int p2, .int p3] (QI D (U := GS) (fun r u => (-100) = r ∧ S = u) (mw cy a)) := by
  refine Ct.ofZ RX12 "gain" [(0, .ref (a 0)), (1, .int p0), (2, .int p1), (3, .int p2), (4, .int p3)] rfl rfl rfl rfl (Nat.le_of_ble_eq_true rfl) ?_
  intro p e R s m args below meth c A b
  refine z_iload_n b dX12_gain_0 rfl rfl ?_
  refine z_calli b (z_runS (As := [.int p0]) (st := []) b (c_X12_isOne S p0 ⟨by omega, by omega⟩) cf_X12_isOne wm_X12_170 ws_X12_isOne dX12_gain_1 rfl (Nat.le_of_ble_eq_true rfl) ⟨by decide, by decide, by decide, by decide⟩) (fun r11826 u11827 h11825 => ?_)
  obtain ⟨rfl, rfl⟩ := h11825
  refine z_if_eq_t (tgt := 27) b dX12_gain_4 (by decide) (by decide) ?_
  refine z_bipush (v := (-100)) b dX12_gain_27 (by decide) ?_
  exact z_iret (u := S) b rfl dX12_gain_29 ⟨rfl, rfl⟩ rfl (by decide) (by decide)

set_option maxHeartbeats 4000000 in
set_option maxRecDepth 100000 in
theorem c_X11_gain_2 {l : Launch} {D : va_G} {cy : Nat → ClassId} {T0 tB tE : Nat} {a : Nat → Nat} {rw : Nat → Option Nat} (S : GS) (p0 : Int32) (p1 : Int32) (p2 : Int32) (p3 : Int32)  (hr_p0 : 3 ≤ p0.toInt ∧ p0.toInt ≤ 2147483647) : Ct l D cy T0 tB tE yX11_gain cX11_gain 7 (some .int) 1 20 0 0 (cw cy tE a rw S) [.ref (a 0), .int p0, .int p1, .int p2, .int p3] (QI D (U := GS) (fun r u => (-100) = r ∧ S = u) (cw cy tE a rw)) := by
  refine Ct.ofZ RX11 "gain" [(0, .ref (a 0)), (1, .int p0), (2, .int p1), (3, .int p2), (4, .int p3)] rfl rfl rfl rfl (Nat.le_of_ble_eq_true rfl) ?_
  intro p e R s m args below meth c A b
  refine z_iload_n b dX11_gain_0 rfl rfl ?_
  refine z_calli b (z_runS (As := [.int p0]) (st := []) b (c_X11_isPerson_2 S p0 ⟨by omega, by omega⟩) cf_X11_isPerson wm_X11_69 ws_X11_isPerson dX11_gain_1 rfl (Nat.le_of_ble_eq_true rfl) ⟨by decide, by decide, by decide, by decide⟩) (fun r11829 u11830 h11828 => ?_)
  obtain ⟨rfl, rfl⟩ := h11828
  refine z_if_eq_t (tgt := 26) b dX11_gain_4 (by decide) (by decide) ?_
  refine z_bipush (v := (-100)) b dX11_gain_26 (by decide) ?_
  exact z_iret (u := S) b rfl dX11_gain_28 ⟨rfl, rfl⟩ rfl (by decide) (by decide)

set_option maxHeartbeats 4000000 in
set_option maxRecDepth 100000 in
theorem c_X12_gain_2 {l : Launch} {D : va_G} {cy : Nat → ClassId} {T0 tB tE : Nat} {a : Nat → Nat} (S : GS) (p0 : Int32) (p1 : Int32) (p2 : Int32) (p3 : Int32)  (hr_p0 : 3 ≤ p0.toInt ∧ p0.toInt ≤ 2147483647) : Ct l D cy T0 tB tE yX12_gain cX12_gain 9 (some .int) 2 42 0 0 (mw cy a S) [.ref (a 0), .int p0, .int p1, .int p2, .int p3] (QI D (U := GS) (fun r u => (-100) = r ∧ S = u) (mw cy a)) := by
  refine Ct.ofZ RX12 "gain" [(0, .ref (a 0)), (1, .int p0), (2, .int p1), (3, .int p2), (4, .int p3)] rfl rfl rfl rfl (Nat.le_of_ble_eq_true rfl) ?_
  intro p e R s m args below meth c A b
  refine z_iload_n b dX12_gain_0 rfl rfl ?_
  refine z_calli b (z_runS (As := [.int p0]) (st := []) b (c_X12_isOne_2 S p0 ⟨by omega, by omega⟩) cf_X12_isOne wm_X12_170 ws_X12_isOne dX12_gain_1 rfl (Nat.le_of_ble_eq_true rfl) ⟨by decide, by decide, by decide, by decide⟩) (fun r11832 u11833 h11831 => ?_)
  obtain ⟨rfl, rfl⟩ := h11831
  refine z_if_eq_t (tgt := 27) b dX12_gain_4 (by decide) (by decide) ?_
  refine z_bipush (v := (-100)) b dX12_gain_27 (by decide) ?_
  exact z_iret (u := S) b rfl dX12_gain_29 ⟨rfl, rfl⟩ rfl (by decide) (by decide)

set_option maxHeartbeats 4000000 in
set_option maxRecDepth 100000 in
theorem c_X11_gain_3 {l : Launch} {D : va_G} {cy : Nat → ClassId} {T0 tB tE : Nat} {a : Nat → Nat} {rw : Nat → Option Nat} (S : GS) (p0 : Int32) (p1 : Int32) (p2 : Int32)  (hr_p0 : (-2147483648) ≤ p0.toInt ∧ p0.toInt ≤ 0) : Ct l D cy T0 tB tE yX11_gain cX11_gain 7 (some .int) 1 20 0 0 (cw cy tE a rw S) [.ref (a 0), .int 0, .int p0, .int p1, .int p2] (QI D (U := GS) (fun r u => (-100) = r ∧ S = u) (cw cy tE a rw)) := by
  refine Ct.ofZ RX11 "gain" [(0, .ref (a 0)), (1, .int 0), (2, .int p0), (3, .int p1), (4, .int p2)] rfl rfl rfl rfl (Nat.le_of_ble_eq_true rfl) ?_
  intro p e R s m args below meth c A b
  refine z_iload_n b dX11_gain_0 rfl rfl ?_
  refine z_calli b (z_runS (As := [.int 0]) (st := []) b (c_X11_isPerson_3 S ) cf_X11_isPerson wm_X11_69 ws_X11_isPerson dX11_gain_1 rfl (Nat.le_of_ble_eq_true rfl) ⟨by decide, by decide, by decide, by decide⟩) (fun r11835 u11836 h11834 => ?_)
  obtain ⟨rfl, rfl⟩ := h11834
  refine z_if_eq_f (tgt := 26) b dX11_gain_4 (by decide) (by decide) ?_
  refine z_iload_n b dX11_gain_7 rfl rfl ?_
  refine z_calli b (z_runS (As := [.int p0]) (st := []) b (c_X11_areLaws S p0 ⟨by omega, by omega⟩) cf_X11_areLaws wm_X11_181 ws_X11_areLaws dX11_gain_8 rfl (Nat.le_of_ble_eq_true rfl) ⟨by decide, by decide, by decide, by decide⟩) (fun r11838 u11839 h11837 => ?_)
  obtain ⟨rfl, rfl⟩ := h11837
  refine z_if_eq_t (tgt := 26) b dX11_gain_11 (by decide) (by decide) ?_
  refine z_bipush (v := (-100)) b dX11_gain_26 (by decide) ?_
  exact z_iret (u := S) b rfl dX11_gain_28 ⟨rfl, rfl⟩ rfl (by decide) (by decide)

set_option maxHeartbeats 4000000 in
set_option maxRecDepth 100000 in
theorem c_X12_gain_3 {l : Launch} {D : va_G} {cy : Nat → ClassId} {T0 tB tE : Nat} {a : Nat → Nat} (S : GS) (p0 : Int32) (p1 : Int32) (p2 : Int32)  (hr_p0 : (-2147483648) ≤ p0.toInt ∧ p0.toInt ≤ 0) : Ct l D cy T0 tB tE yX12_gain cX12_gain 9 (some .int) 2 44 0 0 (mw cy a S) [.ref (a 0), .int 0, .int p0, .int p1, .int p2] (QI D (U := GS) (fun r u => (-100) = r ∧ S = u) (mw cy a)) := by
  refine Ct.ofZ RX12 "gain" [(0, .ref (a 0)), (1, .int 0), (2, .int p0), (3, .int p1), (4, .int p2)] rfl rfl rfl rfl (Nat.le_of_ble_eq_true rfl) ?_
  intro p e R s m args below meth c A b
  refine z_iload_n b dX12_gain_0 rfl rfl ?_
  refine z_calli b (z_runS (As := [.int 0]) (st := []) b (c_X12_isOne_3 S ) cf_X12_isOne wm_X12_170 ws_X12_isOne dX12_gain_1 rfl (Nat.le_of_ble_eq_true rfl) ⟨by decide, by decide, by decide, by decide⟩) (fun r11841 u11842 h11840 => ?_)
  obtain ⟨rfl, rfl⟩ := h11840
  refine z_if_eq_f (tgt := 27) b dX12_gain_4 (by decide) (by decide) ?_
  refine z_aload_n b dX12_gain_7 rfl rfl ?_
  refine z_iload_n b dX12_gain_8 rfl rfl ?_
  refine z_iload_n b dX12_gain_9 rfl rfl ?_
  refine z_calli b (z_runV (q0 := 0) (As := [.int p0, .int p1]) (st := []) b (c_X12_canSearch S p0 p1 ⟨by omega, by omega⟩) cf_X12_canSearch (mw_0 cy a S) rfl wm_X12_433 wi_X12_canSearch ws_X12_canSearch dX12_gain_10 rfl (Nat.le_of_ble_eq_true rfl) ⟨by decide, by decide, by decide, by decide⟩) (fun r11844 u11845 h11843 => ?_)
  obtain ⟨rfl, rfl⟩ := h11843
  refine z_if_eq_t (tgt := 27) b dX12_gain_13 (by decide) (by decide) ?_
  refine z_bipush (v := (-100)) b dX12_gain_27 (by decide) ?_
  exact z_iret (u := S) b rfl dX12_gain_29 ⟨rfl, rfl⟩ rfl (by decide) (by decide)

set_option maxHeartbeats 4000000 in
set_option maxRecDepth 100000 in
theorem c_X11_gain_4 {l : Launch} {D : va_G} {cy : Nat → ClassId} {T0 tB tE : Nat} {a : Nat → Nat} {rw : Nat → Option Nat} (S : GS) (p0 : Int32) (p1 : Int32) (p2 : Int32)  (hr_p0 : 4 ≤ p0.toInt ∧ p0.toInt ≤ 2147483647) : Ct l D cy T0 tB tE yX11_gain cX11_gain 7 (some .int) 1 20 0 0 (cw cy tE a rw S) [.ref (a 0), .int 0, .int p0, .int p1, .int p2] (QI D (U := GS) (fun r u => (-100) = r ∧ S = u) (cw cy tE a rw)) := by
  refine Ct.ofZ RX11 "gain" [(0, .ref (a 0)), (1, .int 0), (2, .int p0), (3, .int p1), (4, .int p2)] rfl rfl rfl rfl (Nat.le_of_ble_eq_true rfl) ?_
  intro p e R s m args below meth c A b
  refine z_iload_n b dX11_gain_0 rfl rfl ?_
  refine z_calli b (z_runS (As := [.int 0]) (st := []) b (c_X11_isPerson_3 S ) cf_X11_isPerson wm_X11_69 ws_X11_isPerson dX11_gain_1 rfl (Nat.le_of_ble_eq_true rfl) ⟨by decide, by decide, by decide, by decide⟩) (fun r11847 u11848 h11846 => ?_)
  obtain ⟨rfl, rfl⟩ := h11846
  refine z_if_eq_f (tgt := 26) b dX11_gain_4 (by decide) (by decide) ?_
  refine z_iload_n b dX11_gain_7 rfl rfl ?_
  refine z_calli b (z_runS (As := [.int p0]) (st := []) b (c_X11_areLaws_2 S p0 ⟨by omega, by omega⟩) cf_X11_areLaws wm_X11_181 ws_X11_areLaws dX11_gain_8 rfl (Nat.le_of_ble_eq_true rfl) ⟨by decide, by decide, by decide, by decide⟩) (fun r11850 u11851 h11849 => ?_)
  obtain ⟨rfl, rfl⟩ := h11849
  refine z_if_eq_t (tgt := 26) b dX11_gain_11 (by decide) (by decide) ?_
  refine z_bipush (v := (-100)) b dX11_gain_26 (by decide) ?_
  exact z_iret (u := S) b rfl dX11_gain_28 ⟨rfl, rfl⟩ rfl (by decide) (by decide)

set_option maxHeartbeats 4000000 in
set_option maxRecDepth 100000 in
theorem c_X12_gain_4 {l : Launch} {D : va_G} {cy : Nat → ClassId} {T0 tB tE : Nat} {a : Nat → Nat} (S : GS) (p0 : Int32) (p1 : Int32) (p2 : Int32)  (hr_p0 : 4 ≤ p0.toInt ∧ p0.toInt ≤ 2147483647) : Ct l D cy T0 tB tE yX12_gain cX12_gain 9 (some .int) 2 44 0 0 (mw cy a S) [.ref (a 0), .int 0, .int p0, .int p1, .int p2] (QI D (U := GS) (fun r u => (-100) = r ∧ S = u) (mw cy a)) := by
  refine Ct.ofZ RX12 "gain" [(0, .ref (a 0)), (1, .int 0), (2, .int p0), (3, .int p1), (4, .int p2)] rfl rfl rfl rfl (Nat.le_of_ble_eq_true rfl) ?_
  intro p e R s m args below meth c A b
  refine z_iload_n b dX12_gain_0 rfl rfl ?_
  refine z_calli b (z_runS (As := [.int 0]) (st := []) b (c_X12_isOne_3 S ) cf_X12_isOne wm_X12_170 ws_X12_isOne dX12_gain_1 rfl (Nat.le_of_ble_eq_true rfl) ⟨by decide, by decide, by decide, by decide⟩) (fun r11853 u11854 h11852 => ?_)
  obtain ⟨rfl, rfl⟩ := h11852
  refine z_if_eq_f (tgt := 27) b dX12_gain_4 (by decide) (by decide) ?_
  refine z_aload_n b dX12_gain_7 rfl rfl ?_
  refine z_iload_n b dX12_gain_8 rfl rfl ?_
  refine z_iload_n b dX12_gain_9 rfl rfl ?_
  refine z_calli b (z_runV (q0 := 0) (As := [.int p0, .int p1]) (st := []) b (c_X12_canSearch_2 S p0 p1 ⟨by omega, by omega⟩) cf_X12_canSearch (mw_0 cy a S) rfl wm_X12_433 wi_X12_canSearch ws_X12_canSearch dX12_gain_10 rfl (Nat.le_of_ble_eq_true rfl) ⟨by decide, by decide, by decide, by decide⟩) (fun r11856 u11857 h11855 => ?_)
  obtain ⟨rfl, rfl⟩ := h11855
  refine z_if_eq_t (tgt := 27) b dX12_gain_13 (by decide) (by decide) ?_
  refine z_bipush (v := (-100)) b dX12_gain_27 (by decide) ?_
  exact z_iret (u := S) b rfl dX12_gain_29 ⟨rfl, rfl⟩ rfl (by decide) (by decide)

set_option maxHeartbeats 4000000 in
set_option maxRecDepth 100000 in
theorem c_X11_gain_5 {l : Launch} {D : va_G} {cy : Nat → ClassId} {T0 tB tE : Nat} {a : Nat → Nat} {rw : Nat → Option Nat} (S : GS) (p0 : Int32) (p1 : Int32) (p2 : Int32)  (hr_p0 : (-2147483648) ≤ p0.toInt ∧ p0.toInt ≤ 0) : Ct l D cy T0 tB tE yX11_gain cX11_gain 7 (some .int) 1 20 0 0 (cw cy tE a rw S) [.ref (a 0), .int 1, .int p0, .int p1, .int p2] (QI D (U := GS) (fun r u => (-100) = r ∧ S = u) (cw cy tE a rw)) := by
  refine Ct.ofZ RX11 "gain" [(0, .ref (a 0)), (1, .int 1), (2, .int p0), (3, .int p1), (4, .int p2)] rfl rfl rfl rfl (Nat.le_of_ble_eq_true rfl) ?_
  intro p e R s m args below meth c A b
  refine z_iload_n b dX11_gain_0 rfl rfl ?_
  refine z_calli b (z_runS (As := [.int 1]) (st := []) b (c_X11_isPerson_4 S ) cf_X11_isPerson wm_X11_69 ws_X11_isPerson dX11_gain_1 rfl (Nat.le_of_ble_eq_true rfl) ⟨by decide, by decide, by decide, by decide⟩) (fun r11859 u11860 h11858 => ?_)
  obtain ⟨rfl, rfl⟩ := h11858
  refine z_if_eq_f (tgt := 26) b dX11_gain_4 (by decide) (by decide) ?_
  refine z_iload_n b dX11_gain_7 rfl rfl ?_
  refine z_calli b (z_runS (As := [.int p0]) (st := []) b (c_X11_areLaws S p0 ⟨by omega, by omega⟩) cf_X11_areLaws wm_X11_181 ws_X11_areLaws dX11_gain_8 rfl (Nat.le_of_ble_eq_true rfl) ⟨by decide, by decide, by decide, by decide⟩) (fun r11862 u11863 h11861 => ?_)
  obtain ⟨rfl, rfl⟩ := h11861
  refine z_if_eq_t (tgt := 26) b dX11_gain_11 (by decide) (by decide) ?_
  refine z_bipush (v := (-100)) b dX11_gain_26 (by decide) ?_
  exact z_iret (u := S) b rfl dX11_gain_28 ⟨rfl, rfl⟩ rfl (by decide) (by decide)

set_option maxHeartbeats 4000000 in
set_option maxRecDepth 100000 in
theorem c_X12_gain_5 {l : Launch} {D : va_G} {cy : Nat → ClassId} {T0 tB tE : Nat} {a : Nat → Nat} (S : GS) (p0 : Int32) (p1 : Int32) (p2 : Int32)  (hr_p0 : (-2147483648) ≤ p0.toInt ∧ p0.toInt ≤ 0) : Ct l D cy T0 tB tE yX12_gain cX12_gain 9 (some .int) 2 44 0 0 (mw cy a S) [.ref (a 0), .int 1, .int p0, .int p1, .int p2] (QI D (U := GS) (fun r u => (-100) = r ∧ S = u) (mw cy a)) := by
  refine Ct.ofZ RX12 "gain" [(0, .ref (a 0)), (1, .int 1), (2, .int p0), (3, .int p1), (4, .int p2)] rfl rfl rfl rfl (Nat.le_of_ble_eq_true rfl) ?_
  intro p e R s m args below meth c A b
  refine z_iload_n b dX12_gain_0 rfl rfl ?_
  refine z_calli b (z_runS (As := [.int 1]) (st := []) b (c_X12_isOne_4 S ) cf_X12_isOne wm_X12_170 ws_X12_isOne dX12_gain_1 rfl (Nat.le_of_ble_eq_true rfl) ⟨by decide, by decide, by decide, by decide⟩) (fun r11865 u11866 h11864 => ?_)
  obtain ⟨rfl, rfl⟩ := h11864
  refine z_if_eq_f (tgt := 27) b dX12_gain_4 (by decide) (by decide) ?_
  refine z_aload_n b dX12_gain_7 rfl rfl ?_
  refine z_iload_n b dX12_gain_8 rfl rfl ?_
  refine z_iload_n b dX12_gain_9 rfl rfl ?_
  refine z_calli b (z_runV (q0 := 0) (As := [.int p0, .int p1]) (st := []) b (c_X12_canSearch S p0 p1 ⟨by omega, by omega⟩) cf_X12_canSearch (mw_0 cy a S) rfl wm_X12_433 wi_X12_canSearch ws_X12_canSearch dX12_gain_10 rfl (Nat.le_of_ble_eq_true rfl) ⟨by decide, by decide, by decide, by decide⟩) (fun r11868 u11869 h11867 => ?_)
  obtain ⟨rfl, rfl⟩ := h11867
  refine z_if_eq_t (tgt := 27) b dX12_gain_13 (by decide) (by decide) ?_
  refine z_bipush (v := (-100)) b dX12_gain_27 (by decide) ?_
  exact z_iret (u := S) b rfl dX12_gain_29 ⟨rfl, rfl⟩ rfl (by decide) (by decide)

set_option maxHeartbeats 4000000 in
set_option maxRecDepth 100000 in
theorem c_X11_gain_6 {l : Launch} {D : va_G} {cy : Nat → ClassId} {T0 tB tE : Nat} {a : Nat → Nat} {rw : Nat → Option Nat} (S : GS) (p0 : Int32) (p1 : Int32) (p2 : Int32)  (hr_p0 : 4 ≤ p0.toInt ∧ p0.toInt ≤ 2147483647) : Ct l D cy T0 tB tE yX11_gain cX11_gain 7 (some .int) 1 20 0 0 (cw cy tE a rw S) [.ref (a 0), .int 1, .int p0, .int p1, .int p2] (QI D (U := GS) (fun r u => (-100) = r ∧ S = u) (cw cy tE a rw)) := by
  refine Ct.ofZ RX11 "gain" [(0, .ref (a 0)), (1, .int 1), (2, .int p0), (3, .int p1), (4, .int p2)] rfl rfl rfl rfl (Nat.le_of_ble_eq_true rfl) ?_
  intro p e R s m args below meth c A b
  refine z_iload_n b dX11_gain_0 rfl rfl ?_
  refine z_calli b (z_runS (As := [.int 1]) (st := []) b (c_X11_isPerson_4 S ) cf_X11_isPerson wm_X11_69 ws_X11_isPerson dX11_gain_1 rfl (Nat.le_of_ble_eq_true rfl) ⟨by decide, by decide, by decide, by decide⟩) (fun r11871 u11872 h11870 => ?_)
  obtain ⟨rfl, rfl⟩ := h11870
  refine z_if_eq_f (tgt := 26) b dX11_gain_4 (by decide) (by decide) ?_
  refine z_iload_n b dX11_gain_7 rfl rfl ?_
  refine z_calli b (z_runS (As := [.int p0]) (st := []) b (c_X11_areLaws_2 S p0 ⟨by omega, by omega⟩) cf_X11_areLaws wm_X11_181 ws_X11_areLaws dX11_gain_8 rfl (Nat.le_of_ble_eq_true rfl) ⟨by decide, by decide, by decide, by decide⟩) (fun r11874 u11875 h11873 => ?_)
  obtain ⟨rfl, rfl⟩ := h11873
  refine z_if_eq_t (tgt := 26) b dX11_gain_11 (by decide) (by decide) ?_
  refine z_bipush (v := (-100)) b dX11_gain_26 (by decide) ?_
  exact z_iret (u := S) b rfl dX11_gain_28 ⟨rfl, rfl⟩ rfl (by decide) (by decide)

set_option maxHeartbeats 4000000 in
set_option maxRecDepth 100000 in
theorem c_X12_gain_6 {l : Launch} {D : va_G} {cy : Nat → ClassId} {T0 tB tE : Nat} {a : Nat → Nat} (S : GS) (p0 : Int32) (p1 : Int32) (p2 : Int32)  (hr_p0 : 4 ≤ p0.toInt ∧ p0.toInt ≤ 2147483647) : Ct l D cy T0 tB tE yX12_gain cX12_gain 9 (some .int) 2 44 0 0 (mw cy a S) [.ref (a 0), .int 1, .int p0, .int p1, .int p2] (QI D (U := GS) (fun r u => (-100) = r ∧ S = u) (mw cy a)) := by
  refine Ct.ofZ RX12 "gain" [(0, .ref (a 0)), (1, .int 1), (2, .int p0), (3, .int p1), (4, .int p2)] rfl rfl rfl rfl (Nat.le_of_ble_eq_true rfl) ?_
  intro p e R s m args below meth c A b
  refine z_iload_n b dX12_gain_0 rfl rfl ?_
  refine z_calli b (z_runS (As := [.int 1]) (st := []) b (c_X12_isOne_4 S ) cf_X12_isOne wm_X12_170 ws_X12_isOne dX12_gain_1 rfl (Nat.le_of_ble_eq_true rfl) ⟨by decide, by decide, by decide, by decide⟩) (fun r11877 u11878 h11876 => ?_)
  obtain ⟨rfl, rfl⟩ := h11876
  refine z_if_eq_f (tgt := 27) b dX12_gain_4 (by decide) (by decide) ?_
  refine z_aload_n b dX12_gain_7 rfl rfl ?_
  refine z_iload_n b dX12_gain_8 rfl rfl ?_
  refine z_iload_n b dX12_gain_9 rfl rfl ?_
  refine z_calli b (z_runV (q0 := 0) (As := [.int p0, .int p1]) (st := []) b (c_X12_canSearch_2 S p0 p1 ⟨by omega, by omega⟩) cf_X12_canSearch (mw_0 cy a S) rfl wm_X12_433 wi_X12_canSearch ws_X12_canSearch dX12_gain_10 rfl (Nat.le_of_ble_eq_true rfl) ⟨by decide, by decide, by decide, by decide⟩) (fun r11880 u11881 h11879 => ?_)
  obtain ⟨rfl, rfl⟩ := h11879
  refine z_if_eq_t (tgt := 27) b dX12_gain_13 (by decide) (by decide) ?_
  refine z_bipush (v := (-100)) b dX12_gain_27 (by decide) ?_
  exact z_iret (u := S) b rfl dX12_gain_29 ⟨rfl, rfl⟩ rfl (by decide) (by decide)

set_option maxHeartbeats 4000000 in
set_option maxRecDepth 100000 in
theorem c_X11_gain_7 {l : Launch} {D : va_G} {cy : Nat → ClassId} {T0 tB tE : Nat} {a : Nat → Nat} {rw : Nat → Option Nat} (S : GS) (p0 : Int32) (p1 : Int32) (p2 : Int32)  (hr_p0 : (-2147483648) ≤ p0.toInt ∧ p0.toInt ≤ 0) : Ct l D cy T0 tB tE yX11_gain cX11_gain 7 (some .int) 1 20 0 0 (cw cy tE a rw S) [.ref (a 0), .int 2, .int p0, .int p1, .int p2] (QI D (U := GS) (fun r u => (-100) = r ∧ S = u) (cw cy tE a rw)) := by
  refine Ct.ofZ RX11 "gain" [(0, .ref (a 0)), (1, .int 2), (2, .int p0), (3, .int p1), (4, .int p2)] rfl rfl rfl rfl (Nat.le_of_ble_eq_true rfl) ?_
  intro p e R s m args below meth c A b
  refine z_iload_n b dX11_gain_0 rfl rfl ?_
  refine z_calli b (z_runS (As := [.int 2]) (st := []) b (c_X11_isPerson_5 S ) cf_X11_isPerson wm_X11_69 ws_X11_isPerson dX11_gain_1 rfl (Nat.le_of_ble_eq_true rfl) ⟨by decide, by decide, by decide, by decide⟩) (fun r11883 u11884 h11882 => ?_)
  obtain ⟨rfl, rfl⟩ := h11882
  refine z_if_eq_f (tgt := 26) b dX11_gain_4 (by decide) (by decide) ?_
  refine z_iload_n b dX11_gain_7 rfl rfl ?_
  refine z_calli b (z_runS (As := [.int p0]) (st := []) b (c_X11_areLaws S p0 ⟨by omega, by omega⟩) cf_X11_areLaws wm_X11_181 ws_X11_areLaws dX11_gain_8 rfl (Nat.le_of_ble_eq_true rfl) ⟨by decide, by decide, by decide, by decide⟩) (fun r11886 u11887 h11885 => ?_)
  obtain ⟨rfl, rfl⟩ := h11885
  refine z_if_eq_t (tgt := 26) b dX11_gain_11 (by decide) (by decide) ?_
  refine z_bipush (v := (-100)) b dX11_gain_26 (by decide) ?_
  exact z_iret (u := S) b rfl dX11_gain_28 ⟨rfl, rfl⟩ rfl (by decide) (by decide)

set_option maxHeartbeats 4000000 in
set_option maxRecDepth 100000 in
theorem c_X12_gain_7 {l : Launch} {D : va_G} {cy : Nat → ClassId} {T0 tB tE : Nat} {a : Nat → Nat} (S : GS) (p0 : Int32) (p1 : Int32) (p2 : Int32)  (hr_p0 : (-2147483648) ≤ p0.toInt ∧ p0.toInt ≤ 0) : Ct l D cy T0 tB tE yX12_gain cX12_gain 9 (some .int) 2 44 0 0 (mw cy a S) [.ref (a 0), .int 2, .int p0, .int p1, .int p2] (QI D (U := GS) (fun r u => (-100) = r ∧ S = u) (mw cy a)) := by
  refine Ct.ofZ RX12 "gain" [(0, .ref (a 0)), (1, .int 2), (2, .int p0), (3, .int p1), (4, .int p2)] rfl rfl rfl rfl (Nat.le_of_ble_eq_true rfl) ?_
  intro p e R s m args below meth c A b
  refine z_iload_n b dX12_gain_0 rfl rfl ?_
  refine z_calli b (z_runS (As := [.int 2]) (st := []) b (c_X12_isOne_5 S ) cf_X12_isOne wm_X12_170 ws_X12_isOne dX12_gain_1 rfl (Nat.le_of_ble_eq_true rfl) ⟨by decide, by decide, by decide, by decide⟩) (fun r11889 u11890 h11888 => ?_)
  obtain ⟨rfl, rfl⟩ := h11888
  refine z_if_eq_f (tgt := 27) b dX12_gain_4 (by decide) (by decide) ?_
  refine z_aload_n b dX12_gain_7 rfl rfl ?_
  refine z_iload_n b dX12_gain_8 rfl rfl ?_
  refine z_iload_n b dX12_gain_9 rfl rfl ?_
  refine z_calli b (z_runV (q0 := 0) (As := [.int p0, .int p1]) (st := []) b (c_X12_canSearch S p0 p1 ⟨by omega, by omega⟩) cf_X12_canSearch (mw_0 cy a S) rfl wm_X12_433 wi_X12_canSearch ws_X12_canSearch dX12_gain_10 rfl (Nat.le_of_ble_eq_true rfl) ⟨by decide, by decide, by decide, by decide⟩) (fun r11892 u11893 h11891 => ?_)
  obtain ⟨rfl, rfl⟩ := h11891
  refine z_if_eq_t (tgt := 27) b dX12_gain_13 (by decide) (by decide) ?_
  refine z_bipush (v := (-100)) b dX12_gain_27 (by decide) ?_
  exact z_iret (u := S) b rfl dX12_gain_29 ⟨rfl, rfl⟩ rfl (by decide) (by decide)

set_option maxHeartbeats 4000000 in
set_option maxRecDepth 100000 in
theorem c_X11_gain_8 {l : Launch} {D : va_G} {cy : Nat → ClassId} {T0 tB tE : Nat} {a : Nat → Nat} {rw : Nat → Option Nat} (S : GS) (p0 : Int32) (p1 : Int32) (p2 : Int32)  (hr_p0 : 4 ≤ p0.toInt ∧ p0.toInt ≤ 2147483647) : Ct l D cy T0 tB tE yX11_gain cX11_gain 7 (some .int) 1 20 0 0 (cw cy tE a rw S) [.ref (a 0), .int 2, .int p0, .int p1, .int p2] (QI D (U := GS) (fun r u => (-100) = r ∧ S = u) (cw cy tE a rw)) := by
  refine Ct.ofZ RX11 "gain" [(0, .ref (a 0)), (1, .int 2), (2, .int p0), (3, .int p1), (4, .int p2)] rfl rfl rfl rfl (Nat.le_of_ble_eq_true rfl) ?_
  intro p e R s m args below meth c A b
  refine z_iload_n b dX11_gain_0 rfl rfl ?_
  refine z_calli b (z_runS (As := [.int 2]) (st := []) b (c_X11_isPerson_5 S ) cf_X11_isPerson wm_X11_69 ws_X11_isPerson dX11_gain_1 rfl (Nat.le_of_ble_eq_true rfl) ⟨by decide, by decide, by decide, by decide⟩) (fun r11895 u11896 h11894 => ?_)
  obtain ⟨rfl, rfl⟩ := h11894
  refine z_if_eq_f (tgt := 26) b dX11_gain_4 (by decide) (by decide) ?_
  refine z_iload_n b dX11_gain_7 rfl rfl ?_
  refine z_calli b (z_runS (As := [.int p0]) (st := []) b (c_X11_areLaws_2 S p0 ⟨by omega, by omega⟩) cf_X11_areLaws wm_X11_181 ws_X11_areLaws dX11_gain_8 rfl (Nat.le_of_ble_eq_true rfl) ⟨by decide, by decide, by decide, by decide⟩) (fun r11898 u11899 h11897 => ?_)
  obtain ⟨rfl, rfl⟩ := h11897
  refine z_if_eq_t (tgt := 26) b dX11_gain_11 (by decide) (by decide) ?_
  refine z_bipush (v := (-100)) b dX11_gain_26 (by decide) ?_
  exact z_iret (u := S) b rfl dX11_gain_28 ⟨rfl, rfl⟩ rfl (by decide) (by decide)

set_option maxHeartbeats 4000000 in
set_option maxRecDepth 100000 in
theorem c_X12_gain_8 {l : Launch} {D : va_G} {cy : Nat → ClassId} {T0 tB tE : Nat} {a : Nat → Nat} (S : GS) (p0 : Int32) (p1 : Int32) (p2 : Int32)  (hr_p0 : 4 ≤ p0.toInt ∧ p0.toInt ≤ 2147483647) : Ct l D cy T0 tB tE yX12_gain cX12_gain 9 (some .int) 2 44 0 0 (mw cy a S) [.ref (a 0), .int 2, .int p0, .int p1, .int p2] (QI D (U := GS) (fun r u => (-100) = r ∧ S = u) (mw cy a)) := by
  refine Ct.ofZ RX12 "gain" [(0, .ref (a 0)), (1, .int 2), (2, .int p0), (3, .int p1), (4, .int p2)] rfl rfl rfl rfl (Nat.le_of_ble_eq_true rfl) ?_
  intro p e R s m args below meth c A b
  refine z_iload_n b dX12_gain_0 rfl rfl ?_
  refine z_calli b (z_runS (As := [.int 2]) (st := []) b (c_X12_isOne_5 S ) cf_X12_isOne wm_X12_170 ws_X12_isOne dX12_gain_1 rfl (Nat.le_of_ble_eq_true rfl) ⟨by decide, by decide, by decide, by decide⟩) (fun r11901 u11902 h11900 => ?_)
  obtain ⟨rfl, rfl⟩ := h11900
  refine z_if_eq_f (tgt := 27) b dX12_gain_4 (by decide) (by decide) ?_
  refine z_aload_n b dX12_gain_7 rfl rfl ?_
  refine z_iload_n b dX12_gain_8 rfl rfl ?_
  refine z_iload_n b dX12_gain_9 rfl rfl ?_
  refine z_calli b (z_runV (q0 := 0) (As := [.int p0, .int p1]) (st := []) b (c_X12_canSearch_2 S p0 p1 ⟨by omega, by omega⟩) cf_X12_canSearch (mw_0 cy a S) rfl wm_X12_433 wi_X12_canSearch ws_X12_canSearch dX12_gain_10 rfl (Nat.le_of_ble_eq_true rfl) ⟨by decide, by decide, by decide, by decide⟩) (fun r11904 u11905 h11903 => ?_)
  obtain ⟨rfl, rfl⟩ := h11903
  refine z_if_eq_t (tgt := 27) b dX12_gain_13 (by decide) (by decide) ?_
  refine z_bipush (v := (-100)) b dX12_gain_27 (by decide) ?_
  exact z_iret (u := S) b rfl dX12_gain_29 ⟨rfl, rfl⟩ rfl (by decide) (by decide)

set_option maxHeartbeats 4000000 in
set_option maxRecDepth 100000 in
theorem c_X11_gain_9 {l : Launch} {D : va_G} {cy : Nat → ClassId} {T0 tB tE : Nat} {a : Nat → Nat} {rw : Nat → Option Nat} (S : GS) (p0 : Int32) (p1 : Int32) (p2 : Int32)  (hr_p0 : 1 ≤ p0.toInt ∧ p0.toInt ≤ 3) (hr_p1 : (-2147483648) ≤ p1.toInt ∧ p1.toInt ≤ (-1)) : Ct l D cy T0 tB tE yX11_gain cX11_gain 7 (some .int) 1 20 0 0 (cw cy tE a rw S) [.ref (a 0), .int 0, .int p0, .int p1, .int p2] (QI D (U := GS) (fun r u => (-100) = r ∧ S = u) (cw cy tE a rw)) := by
  refine Ct.ofZ RX11 "gain" [(0, .ref (a 0)), (1, .int 0), (2, .int p0), (3, .int p1), (4, .int p2)] rfl rfl rfl rfl (Nat.le_of_ble_eq_true rfl) ?_
  intro p e R s m args below meth c A b
  refine z_iload_n b dX11_gain_0 rfl rfl ?_
  refine z_calli b (z_runS (As := [.int 0]) (st := []) b (c_X11_isPerson_3 S ) cf_X11_isPerson wm_X11_69 ws_X11_isPerson dX11_gain_1 rfl (Nat.le_of_ble_eq_true rfl) ⟨by decide, by decide, by decide, by decide⟩) (fun r11907 u11908 h11906 => ?_)
  obtain ⟨rfl, rfl⟩ := h11906
  refine z_if_eq_f (tgt := 26) b dX11_gain_4 (by decide) (by decide) ?_
  refine z_iload_n b dX11_gain_7 rfl rfl ?_
  refine z_calli b (z_runS (As := [.int p0]) (st := []) b (c_X11_areLaws_3 S p0 ⟨by omega, by omega⟩) cf_X11_areLaws wm_X11_181 ws_X11_areLaws dX11_gain_8 rfl (Nat.le_of_ble_eq_true rfl) ⟨by decide, by decide, by decide, by decide⟩) (fun r11910 u11911 h11909 => ?_)
  obtain ⟨rfl, rfl⟩ := h11909
  refine z_if_eq_f (tgt := 26) b dX11_gain_11 (by decide) (by decide) ?_
  refine z_iload_n b dX11_gain_14 rfl rfl ?_
  refine z_calli b (z_runS (As := [.int p1]) (st := []) b (c_X11_isDepth S p1 ⟨by omega, by omega⟩) cf_X11_isDepth wm_X11_203 ws_X11_isDepth dX11_gain_15 rfl (Nat.le_of_ble_eq_true rfl) ⟨by decide, by decide, by decide, by decide⟩) (fun r11913 u11914 h11912 => ?_)
  obtain ⟨rfl, rfl⟩ := h11912
  refine z_if_eq_t (tgt := 26) b dX11_gain_18 (by decide) (by decide) ?_
  refine z_bipush (v := (-100)) b dX11_gain_26 (by decide) ?_
  exact z_iret (u := S) b rfl dX11_gain_28 ⟨rfl, rfl⟩ rfl (by decide) (by decide)

set_option maxHeartbeats 4000000 in
set_option maxRecDepth 100000 in
theorem c_X12_gain_9 {l : Launch} {D : va_G} {cy : Nat → ClassId} {T0 tB tE : Nat} {a : Nat → Nat} (S : GS) (p0 : Int32) (p1 : Int32) (p2 : Int32)  (hr_p0 : 1 ≤ p0.toInt ∧ p0.toInt ≤ 3) (hr_p1 : (-2147483648) ≤ p1.toInt ∧ p1.toInt ≤ (-1)) : Ct l D cy T0 tB tE yX12_gain cX12_gain 9 (some .int) 2 44 0 0 (mw cy a S) [.ref (a 0), .int 0, .int p0, .int p1, .int p2] (QI D (U := GS) (fun r u => (-100) = r ∧ S = u) (mw cy a)) := by
  refine Ct.ofZ RX12 "gain" [(0, .ref (a 0)), (1, .int 0), (2, .int p0), (3, .int p1), (4, .int p2)] rfl rfl rfl rfl (Nat.le_of_ble_eq_true rfl) ?_
  intro p e R s m args below meth c A b
  refine z_iload_n b dX12_gain_0 rfl rfl ?_
  refine z_calli b (z_runS (As := [.int 0]) (st := []) b (c_X12_isOne_3 S ) cf_X12_isOne wm_X12_170 ws_X12_isOne dX12_gain_1 rfl (Nat.le_of_ble_eq_true rfl) ⟨by decide, by decide, by decide, by decide⟩) (fun r11916 u11917 h11915 => ?_)
  obtain ⟨rfl, rfl⟩ := h11915
  refine z_if_eq_f (tgt := 27) b dX12_gain_4 (by decide) (by decide) ?_
  refine z_aload_n b dX12_gain_7 rfl rfl ?_
  refine z_iload_n b dX12_gain_8 rfl rfl ?_
  refine z_iload_n b dX12_gain_9 rfl rfl ?_
  refine z_calli b (z_runV (q0 := 0) (As := [.int p0, .int p1]) (st := []) b (c_X12_canSearch_3 S p0 p1 ⟨by omega, by omega⟩ ⟨by omega, by omega⟩) cf_X12_canSearch (mw_0 cy a S) rfl wm_X12_433 wi_X12_canSearch ws_X12_canSearch dX12_gain_10 rfl (Nat.le_of_ble_eq_true rfl) ⟨by decide, by decide, by decide, by decide⟩) (fun r11919 u11920 h11918 => ?_)
  obtain ⟨rfl, rfl⟩ := h11918
  refine z_if_eq_t (tgt := 27) b dX12_gain_13 (by decide) (by decide) ?_
  refine z_bipush (v := (-100)) b dX12_gain_27 (by decide) ?_
  exact z_iret (u := S) b rfl dX12_gain_29 ⟨rfl, rfl⟩ rfl (by decide) (by decide)

set_option maxHeartbeats 4000000 in
set_option maxRecDepth 100000 in
theorem c_X11_gain_10 {l : Launch} {D : va_G} {cy : Nat → ClassId} {T0 tB tE : Nat} {a : Nat → Nat} {rw : Nat → Option Nat} (S : GS) (p0 : Int32) (p1 : Int32) (p2 : Int32)  (hr_p0 : 1 ≤ p0.toInt ∧ p0.toInt ≤ 3) (hr_p1 : 7 ≤ p1.toInt ∧ p1.toInt ≤ 2147483647) : Ct l D cy T0 tB tE yX11_gain cX11_gain 7 (some .int) 1 20 0 0 (cw cy tE a rw S) [.ref (a 0), .int 0, .int p0, .int p1, .int p2] (QI D (U := GS) (fun r u => (-100) = r ∧ S = u) (cw cy tE a rw)) := by
  refine Ct.ofZ RX11 "gain" [(0, .ref (a 0)), (1, .int 0), (2, .int p0), (3, .int p1), (4, .int p2)] rfl rfl rfl rfl (Nat.le_of_ble_eq_true rfl) ?_
  intro p e R s m args below meth c A b
  refine z_iload_n b dX11_gain_0 rfl rfl ?_
  refine z_calli b (z_runS (As := [.int 0]) (st := []) b (c_X11_isPerson_3 S ) cf_X11_isPerson wm_X11_69 ws_X11_isPerson dX11_gain_1 rfl (Nat.le_of_ble_eq_true rfl) ⟨by decide, by decide, by decide, by decide⟩) (fun r11922 u11923 h11921 => ?_)
  obtain ⟨rfl, rfl⟩ := h11921
  refine z_if_eq_f (tgt := 26) b dX11_gain_4 (by decide) (by decide) ?_
  refine z_iload_n b dX11_gain_7 rfl rfl ?_
  refine z_calli b (z_runS (As := [.int p0]) (st := []) b (c_X11_areLaws_3 S p0 ⟨by omega, by omega⟩) cf_X11_areLaws wm_X11_181 ws_X11_areLaws dX11_gain_8 rfl (Nat.le_of_ble_eq_true rfl) ⟨by decide, by decide, by decide, by decide⟩) (fun r11925 u11926 h11924 => ?_)
  obtain ⟨rfl, rfl⟩ := h11924
  refine z_if_eq_f (tgt := 26) b dX11_gain_11 (by decide) (by decide) ?_
  refine z_iload_n b dX11_gain_14 rfl rfl ?_
  refine z_calli b (z_runS (As := [.int p1]) (st := []) b (c_X11_isDepth_4 S p1 ⟨by omega, by omega⟩) cf_X11_isDepth wm_X11_203 ws_X11_isDepth dX11_gain_15 rfl (Nat.le_of_ble_eq_true rfl) ⟨by decide, by decide, by decide, by decide⟩) (fun r11928 u11929 h11927 => ?_)
  obtain ⟨rfl, rfl⟩ := h11927
  refine z_if_eq_t (tgt := 26) b dX11_gain_18 (by decide) (by decide) ?_
  refine z_bipush (v := (-100)) b dX11_gain_26 (by decide) ?_
  exact z_iret (u := S) b rfl dX11_gain_28 ⟨rfl, rfl⟩ rfl (by decide) (by decide)

set_option maxHeartbeats 4000000 in
set_option maxRecDepth 100000 in
theorem c_X12_gain_10 {l : Launch} {D : va_G} {cy : Nat → ClassId} {T0 tB tE : Nat} {a : Nat → Nat} (S : GS) (p0 : Int32) (p1 : Int32) (p2 : Int32)  (hr_p0 : 1 ≤ p0.toInt ∧ p0.toInt ≤ 3) (hr_p1 : 7 ≤ p1.toInt ∧ p1.toInt ≤ 2147483647) : Ct l D cy T0 tB tE yX12_gain cX12_gain 9 (some .int) 2 44 0 0 (mw cy a S) [.ref (a 0), .int 0, .int p0, .int p1, .int p2] (QI D (U := GS) (fun r u => (-100) = r ∧ S = u) (mw cy a)) := by
  refine Ct.ofZ RX12 "gain" [(0, .ref (a 0)), (1, .int 0), (2, .int p0), (3, .int p1), (4, .int p2)] rfl rfl rfl rfl (Nat.le_of_ble_eq_true rfl) ?_
  intro p e R s m args below meth c A b
  refine z_iload_n b dX12_gain_0 rfl rfl ?_
  refine z_calli b (z_runS (As := [.int 0]) (st := []) b (c_X12_isOne_3 S ) cf_X12_isOne wm_X12_170 ws_X12_isOne dX12_gain_1 rfl (Nat.le_of_ble_eq_true rfl) ⟨by decide, by decide, by decide, by decide⟩) (fun r11931 u11932 h11930 => ?_)
  obtain ⟨rfl, rfl⟩ := h11930
  refine z_if_eq_f (tgt := 27) b dX12_gain_4 (by decide) (by decide) ?_
  refine z_aload_n b dX12_gain_7 rfl rfl ?_
  refine z_iload_n b dX12_gain_8 rfl rfl ?_
  refine z_iload_n b dX12_gain_9 rfl rfl ?_
  refine z_calli b (z_runV (q0 := 0) (As := [.int p0, .int p1]) (st := []) b (c_X12_canSearch_6 S p0 p1 ⟨by omega, by omega⟩ ⟨by omega, by omega⟩) cf_X12_canSearch (mw_0 cy a S) rfl wm_X12_433 wi_X12_canSearch ws_X12_canSearch dX12_gain_10 rfl (Nat.le_of_ble_eq_true rfl) ⟨by decide, by decide, by decide, by decide⟩) (fun r11934 u11935 h11933 => ?_)
  obtain ⟨rfl, rfl⟩ := h11933
  refine z_if_eq_t (tgt := 27) b dX12_gain_13 (by decide) (by decide) ?_
  refine z_bipush (v := (-100)) b dX12_gain_27 (by decide) ?_
  exact z_iret (u := S) b rfl dX12_gain_29 ⟨rfl, rfl⟩ rfl (by decide) (by decide)

set_option maxHeartbeats 4000000 in
set_option maxRecDepth 100000 in
theorem c_X11_gain_11 {l : Launch} {D : va_G} {cy : Nat → ClassId} {T0 tB tE : Nat} {a : Nat → Nat} {rw : Nat → Option Nat} (S : GS) (p0 : Int32) (p1 : Int32) (p2 : Int32)  (hr_p0 : 1 ≤ p0.toInt ∧ p0.toInt ≤ 3) (hr_p1 : (-2147483648) ≤ p1.toInt ∧ p1.toInt ≤ (-1)) : Ct l D cy T0 tB tE yX11_gain cX11_gain 7 (some .int) 1 20 0 0 (cw cy tE a rw S) [.ref (a 0), .int 1, .int p0, .int p1, .int p2] (QI D (U := GS) (fun r u => (-100) = r ∧ S = u) (cw cy tE a rw)) := by
  refine Ct.ofZ RX11 "gain" [(0, .ref (a 0)), (1, .int 1), (2, .int p0), (3, .int p1), (4, .int p2)] rfl rfl rfl rfl (Nat.le_of_ble_eq_true rfl) ?_
  intro p e R s m args below meth c A b
  refine z_iload_n b dX11_gain_0 rfl rfl ?_
  refine z_calli b (z_runS (As := [.int 1]) (st := []) b (c_X11_isPerson_4 S ) cf_X11_isPerson wm_X11_69 ws_X11_isPerson dX11_gain_1 rfl (Nat.le_of_ble_eq_true rfl) ⟨by decide, by decide, by decide, by decide⟩) (fun r11937 u11938 h11936 => ?_)
  obtain ⟨rfl, rfl⟩ := h11936
  refine z_if_eq_f (tgt := 26) b dX11_gain_4 (by decide) (by decide) ?_
  refine z_iload_n b dX11_gain_7 rfl rfl ?_
  refine z_calli b (z_runS (As := [.int p0]) (st := []) b (c_X11_areLaws_3 S p0 ⟨by omega, by omega⟩) cf_X11_areLaws wm_X11_181 ws_X11_areLaws dX11_gain_8 rfl (Nat.le_of_ble_eq_true rfl) ⟨by decide, by decide, by decide, by decide⟩) (fun r11940 u11941 h11939 => ?_)
  obtain ⟨rfl, rfl⟩ := h11939
  refine z_if_eq_f (tgt := 26) b dX11_gain_11 (by decide) (by decide) ?_
  refine z_iload_n b dX11_gain_14 rfl rfl ?_
  refine z_calli b (z_runS (As := [.int p1]) (st := []) b (c_X11_isDepth S p1 ⟨by omega, by omega⟩) cf_X11_isDepth wm_X11_203 ws_X11_isDepth dX11_gain_15 rfl (Nat.le_of_ble_eq_true rfl) ⟨by decide, by decide, by decide, by decide⟩) (fun r11943 u11944 h11942 => ?_)
  obtain ⟨rfl, rfl⟩ := h11942
  refine z_if_eq_t (tgt := 26) b dX11_gain_18 (by decide) (by decide) ?_
  refine z_bipush (v := (-100)) b dX11_gain_26 (by decide) ?_
  exact z_iret (u := S) b rfl dX11_gain_28 ⟨rfl, rfl⟩ rfl (by decide) (by decide)

set_option maxHeartbeats 4000000 in
set_option maxRecDepth 100000 in
theorem c_X12_gain_11 {l : Launch} {D : va_G} {cy : Nat → ClassId} {T0 tB tE : Nat} {a : Nat → Nat} (S : GS) (p0 : Int32) (p1 : Int32) (p2 : Int32)  (hr_p0 : 1 ≤ p0.toInt ∧ p0.toInt ≤ 3) (hr_p1 : (-2147483648) ≤ p1.toInt ∧ p1.toInt ≤ (-1)) : Ct l D cy T0 tB tE yX12_gain cX12_gain 9 (some .int) 2 44 0 0 (mw cy a S) [.ref (a 0), .int 1, .int p0, .int p1, .int p2] (QI D (U := GS) (fun r u => (-100) = r ∧ S = u) (mw cy a)) := by
  refine Ct.ofZ RX12 "gain" [(0, .ref (a 0)), (1, .int 1), (2, .int p0), (3, .int p1), (4, .int p2)] rfl rfl rfl rfl (Nat.le_of_ble_eq_true rfl) ?_
  intro p e R s m args below meth c A b
  refine z_iload_n b dX12_gain_0 rfl rfl ?_
  refine z_calli b (z_runS (As := [.int 1]) (st := []) b (c_X12_isOne_4 S ) cf_X12_isOne wm_X12_170 ws_X12_isOne dX12_gain_1 rfl (Nat.le_of_ble_eq_true rfl) ⟨by decide, by decide, by decide, by decide⟩) (fun r11946 u11947 h11945 => ?_)
  obtain ⟨rfl, rfl⟩ := h11945
  refine z_if_eq_f (tgt := 27) b dX12_gain_4 (by decide) (by decide) ?_
  refine z_aload_n b dX12_gain_7 rfl rfl ?_
  refine z_iload_n b dX12_gain_8 rfl rfl ?_
  refine z_iload_n b dX12_gain_9 rfl rfl ?_
  refine z_calli b (z_runV (q0 := 0) (As := [.int p0, .int p1]) (st := []) b (c_X12_canSearch_3 S p0 p1 ⟨by omega, by omega⟩ ⟨by omega, by omega⟩) cf_X12_canSearch (mw_0 cy a S) rfl wm_X12_433 wi_X12_canSearch ws_X12_canSearch dX12_gain_10 rfl (Nat.le_of_ble_eq_true rfl) ⟨by decide, by decide, by decide, by decide⟩) (fun r11949 u11950 h11948 => ?_)
  obtain ⟨rfl, rfl⟩ := h11948
  refine z_if_eq_t (tgt := 27) b dX12_gain_13 (by decide) (by decide) ?_
  refine z_bipush (v := (-100)) b dX12_gain_27 (by decide) ?_
  exact z_iret (u := S) b rfl dX12_gain_29 ⟨rfl, rfl⟩ rfl (by decide) (by decide)

set_option maxHeartbeats 4000000 in
set_option maxRecDepth 100000 in
theorem c_X11_gain_12 {l : Launch} {D : va_G} {cy : Nat → ClassId} {T0 tB tE : Nat} {a : Nat → Nat} {rw : Nat → Option Nat} (S : GS) (p0 : Int32) (p1 : Int32) (p2 : Int32)  (hr_p0 : 1 ≤ p0.toInt ∧ p0.toInt ≤ 3) (hr_p1 : 7 ≤ p1.toInt ∧ p1.toInt ≤ 2147483647) : Ct l D cy T0 tB tE yX11_gain cX11_gain 7 (some .int) 1 20 0 0 (cw cy tE a rw S) [.ref (a 0), .int 1, .int p0, .int p1, .int p2] (QI D (U := GS) (fun r u => (-100) = r ∧ S = u) (cw cy tE a rw)) := by
  refine Ct.ofZ RX11 "gain" [(0, .ref (a 0)), (1, .int 1), (2, .int p0), (3, .int p1), (4, .int p2)] rfl rfl rfl rfl (Nat.le_of_ble_eq_true rfl) ?_
  intro p e R s m args below meth c A b
  refine z_iload_n b dX11_gain_0 rfl rfl ?_
  refine z_calli b (z_runS (As := [.int 1]) (st := []) b (c_X11_isPerson_4 S ) cf_X11_isPerson wm_X11_69 ws_X11_isPerson dX11_gain_1 rfl (Nat.le_of_ble_eq_true rfl) ⟨by decide, by decide, by decide, by decide⟩) (fun r11952 u11953 h11951 => ?_)
  obtain ⟨rfl, rfl⟩ := h11951
  refine z_if_eq_f (tgt := 26) b dX11_gain_4 (by decide) (by decide) ?_
  refine z_iload_n b dX11_gain_7 rfl rfl ?_
  refine z_calli b (z_runS (As := [.int p0]) (st := []) b (c_X11_areLaws_3 S p0 ⟨by omega, by omega⟩) cf_X11_areLaws wm_X11_181 ws_X11_areLaws dX11_gain_8 rfl (Nat.le_of_ble_eq_true rfl) ⟨by decide, by decide, by decide, by decide⟩) (fun r11955 u11956 h11954 => ?_)
  obtain ⟨rfl, rfl⟩ := h11954
  refine z_if_eq_f (tgt := 26) b dX11_gain_11 (by decide) (by decide) ?_
  refine z_iload_n b dX11_gain_14 rfl rfl ?_
  refine z_calli b (z_runS (As := [.int p1]) (st := []) b (c_X11_isDepth_4 S p1 ⟨by omega, by omega⟩) cf_X11_isDepth wm_X11_203 ws_X11_isDepth dX11_gain_15 rfl (Nat.le_of_ble_eq_true rfl) ⟨by decide, by decide, by decide, by decide⟩) (fun r11958 u11959 h11957 => ?_)
  obtain ⟨rfl, rfl⟩ := h11957
  refine z_if_eq_t (tgt := 26) b dX11_gain_18 (by decide) (by decide) ?_
  refine z_bipush (v := (-100)) b dX11_gain_26 (by decide) ?_
  exact z_iret (u := S) b rfl dX11_gain_28 ⟨rfl, rfl⟩ rfl (by decide) (by decide)

set_option maxHeartbeats 4000000 in
set_option maxRecDepth 100000 in
theorem c_X12_gain_12 {l : Launch} {D : va_G} {cy : Nat → ClassId} {T0 tB tE : Nat} {a : Nat → Nat} (S : GS) (p0 : Int32) (p1 : Int32) (p2 : Int32)  (hr_p0 : 1 ≤ p0.toInt ∧ p0.toInt ≤ 3) (hr_p1 : 7 ≤ p1.toInt ∧ p1.toInt ≤ 2147483647) : Ct l D cy T0 tB tE yX12_gain cX12_gain 9 (some .int) 2 44 0 0 (mw cy a S) [.ref (a 0), .int 1, .int p0, .int p1, .int p2] (QI D (U := GS) (fun r u => (-100) = r ∧ S = u) (mw cy a)) := by
  refine Ct.ofZ RX12 "gain" [(0, .ref (a 0)), (1, .int 1), (2, .int p0), (3, .int p1), (4, .int p2)] rfl rfl rfl rfl (Nat.le_of_ble_eq_true rfl) ?_
  intro p e R s m args below meth c A b
  refine z_iload_n b dX12_gain_0 rfl rfl ?_
  refine z_calli b (z_runS (As := [.int 1]) (st := []) b (c_X12_isOne_4 S ) cf_X12_isOne wm_X12_170 ws_X12_isOne dX12_gain_1 rfl (Nat.le_of_ble_eq_true rfl) ⟨by decide, by decide, by decide, by decide⟩) (fun r11961 u11962 h11960 => ?_)
  obtain ⟨rfl, rfl⟩ := h11960
  refine z_if_eq_f (tgt := 27) b dX12_gain_4 (by decide) (by decide) ?_
  refine z_aload_n b dX12_gain_7 rfl rfl ?_
  refine z_iload_n b dX12_gain_8 rfl rfl ?_
  refine z_iload_n b dX12_gain_9 rfl rfl ?_
  refine z_calli b (z_runV (q0 := 0) (As := [.int p0, .int p1]) (st := []) b (c_X12_canSearch_6 S p0 p1 ⟨by omega, by omega⟩ ⟨by omega, by omega⟩) cf_X12_canSearch (mw_0 cy a S) rfl wm_X12_433 wi_X12_canSearch ws_X12_canSearch dX12_gain_10 rfl (Nat.le_of_ble_eq_true rfl) ⟨by decide, by decide, by decide, by decide⟩) (fun r11964 u11965 h11963 => ?_)
  obtain ⟨rfl, rfl⟩ := h11963
  refine z_if_eq_t (tgt := 27) b dX12_gain_13 (by decide) (by decide) ?_
  refine z_bipush (v := (-100)) b dX12_gain_27 (by decide) ?_
  exact z_iret (u := S) b rfl dX12_gain_29 ⟨rfl, rfl⟩ rfl (by decide) (by decide)

set_option maxHeartbeats 4000000 in
set_option maxRecDepth 100000 in
theorem c_X11_gain_13 {l : Launch} {D : va_G} {cy : Nat → ClassId} {T0 tB tE : Nat} {a : Nat → Nat} {rw : Nat → Option Nat} (S : GS) (p0 : Int32) (p1 : Int32) (p2 : Int32)  (hr_p0 : 1 ≤ p0.toInt ∧ p0.toInt ≤ 3) (hr_p1 : (-2147483648) ≤ p1.toInt ∧ p1.toInt ≤ (-1)) : Ct l D cy T0 tB tE yX11_gain cX11_gain 7 (some .int) 1 20 0 0 (cw cy tE a rw S) [.ref (a 0), .int 2, .int p0, .int p1, .int p2] (QI D (U := GS) (fun r u => (-100) = r ∧ S = u) (cw cy tE a rw)) := by
  refine Ct.ofZ RX11 "gain" [(0, .ref (a 0)), (1, .int 2), (2, .int p0), (3, .int p1), (4, .int p2)] rfl rfl rfl rfl (Nat.le_of_ble_eq_true rfl) ?_
  intro p e R s m args below meth c A b
  refine z_iload_n b dX11_gain_0 rfl rfl ?_
  refine z_calli b (z_runS (As := [.int 2]) (st := []) b (c_X11_isPerson_5 S ) cf_X11_isPerson wm_X11_69 ws_X11_isPerson dX11_gain_1 rfl (Nat.le_of_ble_eq_true rfl) ⟨by decide, by decide, by decide, by decide⟩) (fun r11967 u11968 h11966 => ?_)
  obtain ⟨rfl, rfl⟩ := h11966
  refine z_if_eq_f (tgt := 26) b dX11_gain_4 (by decide) (by decide) ?_
  refine z_iload_n b dX11_gain_7 rfl rfl ?_
  refine z_calli b (z_runS (As := [.int p0]) (st := []) b (c_X11_areLaws_3 S p0 ⟨by omega, by omega⟩) cf_X11_areLaws wm_X11_181 ws_X11_areLaws dX11_gain_8 rfl (Nat.le_of_ble_eq_true rfl) ⟨by decide, by decide, by decide, by decide⟩) (fun r11970 u11971 h11969 => ?_)
  obtain ⟨rfl, rfl⟩ := h11969
  refine z_if_eq_f (tgt := 26) b dX11_gain_11 (by decide) (by decide) ?_
  refine z_iload_n b dX11_gain_14 rfl rfl ?_
  refine z_calli b (z_runS (As := [.int p1]) (st := []) b (c_X11_isDepth S p1 ⟨by omega, by omega⟩) cf_X11_isDepth wm_X11_203 ws_X11_isDepth dX11_gain_15 rfl (Nat.le_of_ble_eq_true rfl) ⟨by decide, by decide, by decide, by decide⟩) (fun r11973 u11974 h11972 => ?_)
  obtain ⟨rfl, rfl⟩ := h11972
  refine z_if_eq_t (tgt := 26) b dX11_gain_18 (by decide) (by decide) ?_
  refine z_bipush (v := (-100)) b dX11_gain_26 (by decide) ?_
  exact z_iret (u := S) b rfl dX11_gain_28 ⟨rfl, rfl⟩ rfl (by decide) (by decide)

set_option maxHeartbeats 4000000 in
set_option maxRecDepth 100000 in
theorem c_X12_gain_13 {l : Launch} {D : va_G} {cy : Nat → ClassId} {T0 tB tE : Nat} {a : Nat → Nat} (S : GS) (p0 : Int32) (p1 : Int32) (p2 : Int32)  (hr_p0 : 1 ≤ p0.toInt ∧ p0.toInt ≤ 3) (hr_p1 : (-2147483648) ≤ p1.toInt ∧ p1.toInt ≤ (-1)) : Ct l D cy T0 tB tE yX12_gain cX12_gain 9 (some .int) 2 44 0 0 (mw cy a S) [.ref (a 0), .int 2, .int p0, .int p1, .int p2] (QI D (U := GS) (fun r u => (-100) = r ∧ S = u) (mw cy a)) := by
  refine Ct.ofZ RX12 "gain" [(0, .ref (a 0)), (1, .int 2), (2, .int p0), (3, .int p1), (4, .int p2)] rfl rfl rfl rfl (Nat.le_of_ble_eq_true rfl) ?_
  intro p e R s m args below meth c A b
  refine z_iload_n b dX12_gain_0 rfl rfl ?_
  refine z_calli b (z_runS (As := [.int 2]) (st := []) b (c_X12_isOne_5 S ) cf_X12_isOne wm_X12_170 ws_X12_isOne dX12_gain_1 rfl (Nat.le_of_ble_eq_true rfl) ⟨by decide, by decide, by decide, by decide⟩) (fun r11976 u11977 h11975 => ?_)
  obtain ⟨rfl, rfl⟩ := h11975
  refine z_if_eq_f (tgt := 27) b dX12_gain_4 (by decide) (by decide) ?_
  refine z_aload_n b dX12_gain_7 rfl rfl ?_
  refine z_iload_n b dX12_gain_8 rfl rfl ?_
  refine z_iload_n b dX12_gain_9 rfl rfl ?_
  refine z_calli b (z_runV (q0 := 0) (As := [.int p0, .int p1]) (st := []) b (c_X12_canSearch_3 S p0 p1 ⟨by omega, by omega⟩ ⟨by omega, by omega⟩) cf_X12_canSearch (mw_0 cy a S) rfl wm_X12_433 wi_X12_canSearch ws_X12_canSearch dX12_gain_10 rfl (Nat.le_of_ble_eq_true rfl) ⟨by decide, by decide, by decide, by decide⟩) (fun r11979 u11980 h11978 => ?_)
  obtain ⟨rfl, rfl⟩ := h11978
  refine z_if_eq_t (tgt := 27) b dX12_gain_13 (by decide) (by decide) ?_
  refine z_bipush (v := (-100)) b dX12_gain_27 (by decide) ?_
  exact z_iret (u := S) b rfl dX12_gain_29 ⟨rfl, rfl⟩ rfl (by decide) (by decide)

set_option maxHeartbeats 4000000 in
set_option maxRecDepth 100000 in
theorem c_X11_gain_14 {l : Launch} {D : va_G} {cy : Nat → ClassId} {T0 tB tE : Nat} {a : Nat → Nat} {rw : Nat → Option Nat} (S : GS) (p0 : Int32) (p1 : Int32) (p2 : Int32)  (hr_p0 : 1 ≤ p0.toInt ∧ p0.toInt ≤ 3) (hr_p1 : 7 ≤ p1.toInt ∧ p1.toInt ≤ 2147483647) : Ct l D cy T0 tB tE yX11_gain cX11_gain 7 (some .int) 1 20 0 0 (cw cy tE a rw S) [.ref (a 0), .int 2, .int p0, .int p1, .int p2] (QI D (U := GS) (fun r u => (-100) = r ∧ S = u) (cw cy tE a rw)) := by
  refine Ct.ofZ RX11 "gain" [(0, .ref (a 0)), (1, .int 2), (2, .int p0), (3, .int p1), (4, .int p2)] rfl rfl rfl rfl (Nat.le_of_ble_eq_true rfl) ?_
  intro p e R s m args below meth c A b
  refine z_iload_n b dX11_gain_0 rfl rfl ?_
  refine z_calli b (z_runS (As := [.int 2]) (st := []) b (c_X11_isPerson_5 S ) cf_X11_isPerson wm_X11_69 ws_X11_isPerson dX11_gain_1 rfl (Nat.le_of_ble_eq_true rfl) ⟨by decide, by decide, by decide, by decide⟩) (fun r11982 u11983 h11981 => ?_)
  obtain ⟨rfl, rfl⟩ := h11981
  refine z_if_eq_f (tgt := 26) b dX11_gain_4 (by decide) (by decide) ?_
  refine z_iload_n b dX11_gain_7 rfl rfl ?_
  refine z_calli b (z_runS (As := [.int p0]) (st := []) b (c_X11_areLaws_3 S p0 ⟨by omega, by omega⟩) cf_X11_areLaws wm_X11_181 ws_X11_areLaws dX11_gain_8 rfl (Nat.le_of_ble_eq_true rfl) ⟨by decide, by decide, by decide, by decide⟩) (fun r11985 u11986 h11984 => ?_)
  obtain ⟨rfl, rfl⟩ := h11984
  refine z_if_eq_f (tgt := 26) b dX11_gain_11 (by decide) (by decide) ?_
  refine z_iload_n b dX11_gain_14 rfl rfl ?_
  refine z_calli b (z_runS (As := [.int p1]) (st := []) b (c_X11_isDepth_4 S p1 ⟨by omega, by omega⟩) cf_X11_isDepth wm_X11_203 ws_X11_isDepth dX11_gain_15 rfl (Nat.le_of_ble_eq_true rfl) ⟨by decide, by decide, by decide, by decide⟩) (fun r11988 u11989 h11987 => ?_)
  obtain ⟨rfl, rfl⟩ := h11987
  refine z_if_eq_t (tgt := 26) b dX11_gain_18 (by decide) (by decide) ?_
  refine z_bipush (v := (-100)) b dX11_gain_26 (by decide) ?_
  exact z_iret (u := S) b rfl dX11_gain_28 ⟨rfl, rfl⟩ rfl (by decide) (by decide)

set_option maxHeartbeats 4000000 in
set_option maxRecDepth 100000 in
theorem c_X12_gain_14 {l : Launch} {D : va_G} {cy : Nat → ClassId} {T0 tB tE : Nat} {a : Nat → Nat} (S : GS) (p0 : Int32) (p1 : Int32) (p2 : Int32)  (hr_p0 : 1 ≤ p0.toInt ∧ p0.toInt ≤ 3) (hr_p1 : 7 ≤ p1.toInt ∧ p1.toInt ≤ 2147483647) : Ct l D cy T0 tB tE yX12_gain cX12_gain 9 (some .int) 2 44 0 0 (mw cy a S) [.ref (a 0), .int 2, .int p0, .int p1, .int p2] (QI D (U := GS) (fun r u => (-100) = r ∧ S = u) (mw cy a)) := by
  refine Ct.ofZ RX12 "gain" [(0, .ref (a 0)), (1, .int 2), (2, .int p0), (3, .int p1), (4, .int p2)] rfl rfl rfl rfl (Nat.le_of_ble_eq_true rfl) ?_
  intro p e R s m args below meth c A b
  refine z_iload_n b dX12_gain_0 rfl rfl ?_
  refine z_calli b (z_runS (As := [.int 2]) (st := []) b (c_X12_isOne_5 S ) cf_X12_isOne wm_X12_170 ws_X12_isOne dX12_gain_1 rfl (Nat.le_of_ble_eq_true rfl) ⟨by decide, by decide, by decide, by decide⟩) (fun r11991 u11992 h11990 => ?_)
  obtain ⟨rfl, rfl⟩ := h11990
  refine z_if_eq_f (tgt := 27) b dX12_gain_4 (by decide) (by decide) ?_
  refine z_aload_n b dX12_gain_7 rfl rfl ?_
  refine z_iload_n b dX12_gain_8 rfl rfl ?_
  refine z_iload_n b dX12_gain_9 rfl rfl ?_
  refine z_calli b (z_runV (q0 := 0) (As := [.int p0, .int p1]) (st := []) b (c_X12_canSearch_6 S p0 p1 ⟨by omega, by omega⟩ ⟨by omega, by omega⟩) cf_X12_canSearch (mw_0 cy a S) rfl wm_X12_433 wi_X12_canSearch ws_X12_canSearch dX12_gain_10 rfl (Nat.le_of_ble_eq_true rfl) ⟨by decide, by decide, by decide, by decide⟩) (fun r11994 u11995 h11993 => ?_)
  obtain ⟨rfl, rfl⟩ := h11993
  refine z_if_eq_t (tgt := 27) b dX12_gain_13 (by decide) (by decide) ?_
  refine z_bipush (v := (-100)) b dX12_gain_27 (by decide) ?_
  exact z_iret (u := S) b rfl dX12_gain_29 ⟨rfl, rfl⟩ rfl (by decide) (by decide)

set_option maxHeartbeats 4000000 in
set_option maxRecDepth 100000 in
theorem c_X11_gain_15 {l : Launch} {D : va_G} {cy : Nat → ClassId} {T0 tB tE : Nat} {a : Nat → Nat} {rw : Nat → Option Nat} (S : GS) (p0 : Int32) (p1 : Int32)  (hr_p0 : 1 ≤ p0.toInt ∧ p0.toInt ≤ 3) (hr_p1 : (-2147483648) ≤ p1.toInt ∧ p1.toInt ≤ (-1)) : Ct l D cy T0 tB tE yX11_gain cX11_gain 7 (some .int) 1 20 0 0 (cw cy tE a rw S) [.ref (a 0), .int 0, .int p0, .int 0, .int p1] (QI D (U := GS) (fun r u => (-100) = r ∧ S = u) (cw cy tE a rw)) := by
  refine Ct.ofZ RX11 "gain" [(0, .ref (a 0)), (1, .int 0), (2, .int p0), (3, .int 0), (4, .int p1)] rfl rfl rfl rfl (Nat.le_of_ble_eq_true rfl) ?_
  intro p e R s m args below meth c A b
  refine z_iload_n b dX11_gain_0 rfl rfl ?_
  refine z_calli b (z_runS (As := [.int 0]) (st := []) b (c_X11_isPerson_3 S ) cf_X11_isPerson wm_X11_69 ws_X11_isPerson dX11_gain_1 rfl (Nat.le_of_ble_eq_true rfl) ⟨by decide, by decide, by decide, by decide⟩) (fun r11997 u11998 h11996 => ?_)
  obtain ⟨rfl, rfl⟩ := h11996
  refine z_if_eq_f (tgt := 26) b dX11_gain_4 (by decide) (by decide) ?_
  refine z_iload_n b dX11_gain_7 rfl rfl ?_
  refine z_calli b (z_runS (As := [.int p0]) (st := []) b (c_X11_areLaws_3 S p0 ⟨by omega, by omega⟩) cf_X11_areLaws wm_X11_181 ws_X11_areLaws dX11_gain_8 rfl (Nat.le_of_ble_eq_true rfl) ⟨by decide, by decide, by decide, by decide⟩) (fun r12000 u12001 h11999 => ?_)
  obtain ⟨rfl, rfl⟩ := h11999
  refine z_if_eq_f (tgt := 26) b dX11_gain_11 (by decide) (by decide) ?_
  refine z_iload_n b dX11_gain_14 rfl rfl ?_
  refine z_calli b (z_runS (As := [.int 0]) (st := []) b (c_X11_isDepth_2 S ) cf_X11_isDepth wm_X11_203 ws_X11_isDepth dX11_gain_15 rfl (Nat.le_of_ble_eq_true rfl) ⟨by decide, by decide, by decide, by decide⟩) (fun r12003 u12004 h12002 => ?_)
  obtain ⟨rfl, rfl⟩ := h12002
  refine z_if_eq_f (tgt := 26) b dX11_gain_18 (by decide) (by decide) ?_
  refine z_iload b dX11_gain_21 rfl ?_
  refine y_if_ge (tgt := 29) (xl := p1.toInt) b rfl dX11_gain_23 (by decide) (fun c12005 => ?_) (fun c12005 => ?_)
  · exfalso; omega
  · refine z_bipush (v := (-100)) b dX11_gain_26 (by decide) ?_
    exact z_iret (u := S) b rfl dX11_gain_28 ⟨rfl, rfl⟩ rfl (by decide) (by decide)

set_option maxHeartbeats 4000000 in
set_option maxRecDepth 100000 in
theorem c_X12_gain_15 {l : Launch} {D : va_G} {cy : Nat → ClassId} {T0 tB tE : Nat} {a : Nat → Nat} (S : GS) (p0 : Int32) (p1 : Int32)  (hr_p0 : 1 ≤ p0.toInt ∧ p0.toInt ≤ 3) (hr_p1 : (-2147483648) ≤ p1.toInt ∧ p1.toInt ≤ (-1)) : Ct l D cy T0 tB tE yX12_gain cX12_gain 9 (some .int) 2 44 0 0 (mw cy a S) [.ref (a 0), .int 0, .int p0, .int 0, .int p1] (QI D (U := GS) (fun r u => (-100) = r ∧ S = u) (mw cy a)) := by
  refine Ct.ofZ RX12 "gain" [(0, .ref (a 0)), (1, .int 0), (2, .int p0), (3, .int 0), (4, .int p1)] rfl rfl rfl rfl (Nat.le_of_ble_eq_true rfl) ?_
  intro p e R s m args below meth c A b
  refine z_iload_n b dX12_gain_0 rfl rfl ?_
  refine z_calli b (z_runS (As := [.int 0]) (st := []) b (c_X12_isOne_3 S ) cf_X12_isOne wm_X12_170 ws_X12_isOne dX12_gain_1 rfl (Nat.le_of_ble_eq_true rfl) ⟨by decide, by decide, by decide, by decide⟩) (fun r12007 u12008 h12006 => ?_)
  obtain ⟨rfl, rfl⟩ := h12006
  refine z_if_eq_f (tgt := 27) b dX12_gain_4 (by decide) (by decide) ?_
  refine z_aload_n b dX12_gain_7 rfl rfl ?_
  refine z_iload_n b dX12_gain_8 rfl rfl ?_
  refine z_iload_n b dX12_gain_9 rfl rfl ?_
  refine z_calli b (z_runV (q0 := 0) (As := [.int p0, .int 0]) (st := []) b (c_X12_canSearch_4 S p0 ⟨by omega, by omega⟩) cf_X12_canSearch (mw_0 cy a S) rfl wm_X12_433 wi_X12_canSearch ws_X12_canSearch dX12_gain_10 rfl (Nat.le_of_ble_eq_true rfl) ⟨by decide, by decide, by decide, by decide⟩) (fun r12010 u12011 h12009 => ?_)
  obtain ⟨rfl, rfl⟩ := h12009
  refine z_if_eq_f (tgt := 27) b dX12_gain_13 (by decide) (by decide) ?_
  refine z_iload b dX12_gain_16 rfl ?_
  refine z_iconst (v := 0) b dX12_gain_18 (by decide) ?_
  refine z_bipush (v := 7) b dX12_gain_19 (by decide) ?_
  refine z_calli b (z_runS (As := [.int p1, .int 0, .int 7]) (st := []) b (c_X12_isIn_12 S p1 ⟨by omega, by omega⟩) cf_X12_isIn wm_X12_1 ws_X12_isIn dX12_gain_21 rfl (Nat.le_of_ble_eq_true rfl) ⟨by decide, by decide, by decide, by decide⟩) (fun r12013 u12014 h12012 => ?_)
  obtain ⟨rfl, rfl⟩ := h12012
  refine z_if_ne_f (tgt := 30) b dX12_gain_24 (by decide) (by decide) ?_
  refine z_bipush (v := (-100)) b dX12_gain_27 (by decide) ?_
  exact z_iret (u := S) b rfl dX12_gain_29 ⟨rfl, rfl⟩ rfl (by decide) (by decide)

set_option maxHeartbeats 4000000 in
set_option maxRecDepth 100000 in
theorem c_X9_get {l : Launch} {D : va_G} {cy : Nat → ClassId} {T0 tB tE : Nat} {a : Nat → Nat} {rw : Nat → Option Nat} (S : GS)  (h_a_9_0 : ar S 9 0 = 0) : Ct l D cy T0 tB tE yX9_get cX9_get 2 (some .int) 0 0 0 0 (cw cy tE a rw S) [.ref (a 26), .int 0] (QI D (U := GS) (fun r u => 0 = r ∧ S = u) (cw cy tE a rw)) := by
  refine Ct.ofZ RX9 "get" [(0, .ref (a 26)), (1, .int 0)] rfl rfl rfl rfl (Nat.le_of_ble_eq_true rfl) ?_
  intro p e R s m args below meth c A b
  refine z_iload_n b dX9_get_0 rfl rfl ?_
  refine z_if_lt_f (tgt := 22) b dX9_get_1 (by decide) (by decide) ?_
  refine z_iload_n b dX9_get_4 rfl rfl ?_
  refine z_aload_n b dX9_get_5 rfl rfl ?_
  refine z_get (q0 := 26) (k9 := 0) (v := .ref (a 27)) b (cw_26 cy tE a rw S) rfl in_X9 (by decide) wf_X9_11 rfl dX9_get_6 ?_
  refine z_alen (q0 := 27) (t0 := 0) (v := 51) b (cw_27 cy tE a rw S) rfl rfl dX9_get_9 ?_
  refine z_icmp_ge_f (tgt := 22) b dX9_get_10 (by decide) (by decide) ?_
  refine z_aload_n b dX9_get_13 rfl rfl ?_
  refine z_get (q0 := 26) (k9 := 0) (v := .ref (a 27)) b (cw_26 cy tE a rw S) rfl in_X9 (by decide) wf_X9_11 rfl dX9_get_14 ?_
  refine z_iload_n b dX9_get_17 rfl rfl ?_
  refine y_iald (q0 := 27) (j := 0) (v := (ar S 9 0)) b (cw_27 cy tE a rw S) (by decide) rfl dX9_get_18 ?_
  refine z_eqi h_a_9_0 ?_
  refine z_goto (tgt := 23) b dX9_get_19 (by decide) ?_
  exact z_iret (u := S) b rfl dX9_get_23 ⟨rfl, rfl⟩ rfl (by decide) (by decide)

set_option maxHeartbeats 4000000 in
set_option maxRecDepth 100000 in
theorem c_X9_get_2 {l : Launch} {D : va_G} {cy : Nat → ClassId} {T0 tB tE : Nat} {a : Nat → Nat} {rw : Nat → Option Nat} (S : GS)  (h_a_9_11 : ar S 9 11 = 0) : Ct l D cy T0 tB tE yX9_get cX9_get 2 (some .int) 0 0 0 0 (cw cy tE a rw S) [.ref (a 26), .int 11] (QI D (U := GS) (fun r u => 0 = r ∧ S = u) (cw cy tE a rw)) := by
  refine Ct.ofZ RX9 "get" [(0, .ref (a 26)), (1, .int 11)] rfl rfl rfl rfl (Nat.le_of_ble_eq_true rfl) ?_
  intro p e R s m args below meth c A b
  refine z_iload_n b dX9_get_0 rfl rfl ?_
  refine z_if_lt_f (tgt := 22) b dX9_get_1 (by decide) (by decide) ?_
  refine z_iload_n b dX9_get_4 rfl rfl ?_
  refine z_aload_n b dX9_get_5 rfl rfl ?_
  refine z_get (q0 := 26) (k9 := 0) (v := .ref (a 27)) b (cw_26 cy tE a rw S) rfl in_X9 (by decide) wf_X9_11 rfl dX9_get_6 ?_
  refine z_alen (q0 := 27) (t0 := 0) (v := 51) b (cw_27 cy tE a rw S) rfl rfl dX9_get_9 ?_
  refine z_icmp_ge_f (tgt := 22) b dX9_get_10 (by decide) (by decide) ?_
  refine z_aload_n b dX9_get_13 rfl rfl ?_
  refine z_get (q0 := 26) (k9 := 0) (v := .ref (a 27)) b (cw_26 cy tE a rw S) rfl in_X9 (by decide) wf_X9_11 rfl dX9_get_14 ?_
  refine z_iload_n b dX9_get_17 rfl rfl ?_
  refine y_iald (q0 := 27) (j := 11) (v := (ar S 9 11)) b (cw_27 cy tE a rw S) (by decide) rfl dX9_get_18 ?_
  refine z_eqi h_a_9_11 ?_
  refine z_goto (tgt := 23) b dX9_get_19 (by decide) ?_
  exact z_iret (u := S) b rfl dX9_get_23 ⟨rfl, rfl⟩ rfl (by decide) (by decide)

set_option maxHeartbeats 4000000 in
set_option maxRecDepth 100000 in
theorem c_X9_get_3 {l : Launch} {D : va_G} {cy : Nat → ClassId} {T0 tB tE : Nat} {a : Nat → Nat} {rw : Nat → Option Nat} (S : GS)  (h_a_9_12 : ar S 9 12 = 0) : Ct l D cy T0 tB tE yX9_get cX9_get 2 (some .int) 0 0 0 0 (cw cy tE a rw S) [.ref (a 26), .int 12] (QI D (U := GS) (fun r u => 0 = r ∧ S = u) (cw cy tE a rw)) := by
  refine Ct.ofZ RX9 "get" [(0, .ref (a 26)), (1, .int 12)] rfl rfl rfl rfl (Nat.le_of_ble_eq_true rfl) ?_
  intro p e R s m args below meth c A b
  refine z_iload_n b dX9_get_0 rfl rfl ?_
  refine z_if_lt_f (tgt := 22) b dX9_get_1 (by decide) (by decide) ?_
  refine z_iload_n b dX9_get_4 rfl rfl ?_
  refine z_aload_n b dX9_get_5 rfl rfl ?_
  refine z_get (q0 := 26) (k9 := 0) (v := .ref (a 27)) b (cw_26 cy tE a rw S) rfl in_X9 (by decide) wf_X9_11 rfl dX9_get_6 ?_
  refine z_alen (q0 := 27) (t0 := 0) (v := 51) b (cw_27 cy tE a rw S) rfl rfl dX9_get_9 ?_
  refine z_icmp_ge_f (tgt := 22) b dX9_get_10 (by decide) (by decide) ?_
  refine z_aload_n b dX9_get_13 rfl rfl ?_
  refine z_get (q0 := 26) (k9 := 0) (v := .ref (a 27)) b (cw_26 cy tE a rw S) rfl in_X9 (by decide) wf_X9_11 rfl dX9_get_14 ?_
  refine z_iload_n b dX9_get_17 rfl rfl ?_
  refine y_iald (q0 := 27) (j := 12) (v := (ar S 9 12)) b (cw_27 cy tE a rw S) (by decide) rfl dX9_get_18 ?_
  refine z_eqi h_a_9_12 ?_
  refine z_goto (tgt := 23) b dX9_get_19 (by decide) ?_
  exact z_iret (u := S) b rfl dX9_get_23 ⟨rfl, rfl⟩ rfl (by decide) (by decide)

set_option maxHeartbeats 4000000 in
set_option maxRecDepth 100000 in
theorem c_X8_wealth {l : Launch} {D : va_G} {cy : Nat → ClassId} {T0 tB tE : Nat} {a : Nat → Nat} {rw : Nat → Option Nat} (S : GS)  (h_i_25 : fi S 25 = 1) (h_A_2_0 : al S 2 0 = 4128768) (h_a_9_50 : ar S 9 50 = 0) (h_a_9_40 : ar S 9 40 = 3) (h_a_9_41 : ar S 9 41 = 3) (h_a_9_42 : ar S 9 42 = 3) (h_a_9_0 : ar S 9 0 = 0) (h_a_9_11 : ar S 9 11 = 0) (h_a_9_21 : ar S 9 21 = 0) (h_a_9_31 : ar S 9 31 = 0) (h_a_9_12 : ar S 9 12 = 0) (h_a_9_22 : ar S 9 22 = 0) (h_a_9_32 : ar S 9 32 = 0) (h_a_9_1 : ar S 9 1 = 0) (h_a_9_13 : ar S 9 13 = 0) (h_a_9_23 : ar S 9 23 = 0) (h_a_9_33 : ar S 9 33 = 0) (h_a_9_15 : ar S 9 15 = 0) (h_a_9_25 : ar S 9 25 = 0) (h_a_9_35 : ar S 9 35 = 0) (h_a_9_2 : ar S 9 2 = 0) (h_a_9_16 : ar S 9 16 = 0) (h_a_9_26 : ar S 9 26 = 0) (h_a_9_36 : ar S 9 36 = 0) (h_a_9_17 : ar S 9 17 = 0) (h_a_9_27 : ar S 9 27 = 0) (h_a_9_37 : ar S 9 37 = 0) : Ct l D cy T0 tB tE yX8_wealth cX8_wealth 5 (some .int) 3 68 0 0 (cw cy tE a rw S) [.ref (a 25), .int 0, .int 0] (QI D (U := GS) (fun r u => 0 = r ∧ S = u) (cw cy tE a rw)) := by
  refine Ct.ofZ RX8 "wealth" [(0, .ref (a 25)), (1, .int 0), (2, .int 0)] rfl rfl rfl rfl (Nat.le_of_ble_eq_true rfl) ?_
  intro p e R s m args below meth c A b
  refine z_aload_n b dX8_wealth_0 rfl rfl ?_
  refine z_iload_n b dX8_wealth_1 rfl rfl ?_
  refine z_callv b (z_runV (q0 := 25) (As := [.int 0]) (st := []) b (c_X8_load S h_i_25 h_A_2_0 h_a_9_50 h_a_9_40 h_a_9_41 h_a_9_42 h_a_9_0 h_a_9_11 h_a_9_21 h_a_9_31 h_a_9_12 h_a_9_22 h_a_9_32 h_a_9_1 h_a_9_13 h_a_9_23 h_a_9_33 h_a_9_15 h_a_9_25 h_a_9_35 h_a_9_2 h_a_9_16 h_a_9_26 h_a_9_36 h_a_9_17 h_a_9_27 h_a_9_37) cf_X8_load (cw_25 cy tE a rw S) rfl wm_X8_153 wi_X8_load ws_X8_load dX8_wealth_2 rfl (Nat.le_of_ble_eq_true rfl) ⟨by decide, by decide, by decide, by decide⟩) (fun u12032 h12030 => ?_)
  obtain rfl := h12030
  refine z_aload_n b dX8_wealth_5 rfl rfl ?_
  refine z_get (q0 := 25) (k9 := 2) (v := .ref (a 26)) b (cw_25 cy tE a rw S) rfl in_X8 (by decide) wf_X8_12 rfl dX8_wealth_6 ?_
  refine z_iload_n b dX8_wealth_9 rfl rfl ?_
  refine z_calli b (z_runV (q0 := 26) (As := [.int 0]) (st := []) b (c_X9_get S h_a_9_0) cf_X9_get (cw_26 cy tE a rw S) rfl wm_X8_161 wi_X9_get ws_X9_get dX8_wealth_10 rfl (Nat.le_of_ble_eq_true rfl) ⟨by decide, by decide, by decide, by decide⟩) (fun r12034 u12035 h12033 => ?_)
  obtain ⟨rfl, rfl⟩ := h12033
  refine z_istore_n (lv' := [(3, .int 0), (0, .ref (a 25)), (1, .int 0), (2, .int 0)]) b dX8_wealth_13 rfl (by decide) rfl ?_
  refine z_iconst (v := 0) b dX8_wealth_14 (by decide) ?_
  refine z_istore (lv' := [(4, .int 0), (3, .int 0), (0, .ref (a 25)), (1, .int 0), (2, .int 0)]) b dX8_wealth_15 (by decide) rfl ?_
  refine z_iload b dX8_wealth_17 rfl ?_
  refine z_iconst (v := 3) b dX8_wealth_19 (by decide) ?_
  refine z_icmp_ge_f (tgt := 54) b dX8_wealth_20 (by decide) (by decide) ?_
  refine z_iload b dX8_wealth_23 rfl ?_
  refine z_iload_n b dX8_wealth_25 rfl rfl ?_
  refine z_icmp_eq_t (tgt := 48) b dX8_wealth_26 (by decide) (by decide) ?_
  refine z_iinc (k9 := 0) (v := 1) (lv' := [(4, .int 1), (3, .int 0), (0, .ref (a 25)), (1, .int 0), (2, .int 0)]) b dX8_wealth_48 rfl (by decide) (by decide) rfl ?_
  refine z_goto (tgt := 17) b dX8_wealth_51 (by decide) ?_
  refine z_iload b dX8_wealth_17 rfl ?_
  refine z_iconst (v := 3) b dX8_wealth_19 (by decide) ?_
  refine z_icmp_ge_f (tgt := 54) b dX8_wealth_20 (by decide) (by decide) ?_
  refine z_iload b dX8_wealth_23 rfl ?_
  refine z_iload_n b dX8_wealth_25 rfl rfl ?_
  refine z_icmp_eq_f (tgt := 48) b dX8_wealth_26 (by decide) (by decide) ?_
  refine z_iload_n b dX8_wealth_29 rfl rfl ?_
  refine z_aload_n b dX8_wealth_30 rfl rfl ?_
  refine z_get (q0 := 25) (k9 := 2) (v := .ref (a 26)) b (cw_25 cy tE a rw S) rfl in_X8 (by decide) wf_X8_12 rfl dX8_wealth_31 ?_
  refine z_bipush (v := 10) b dX8_wealth_34 (by decide) ?_
  refine z_iconst (v := 3) b dX8_wealth_36 (by decide) ?_
  refine z_iload_n b dX8_wealth_37 rfl rfl ?_
  refine z_imul (v := 0) b dX8_wealth_38 (by decide) ?_
  refine z_iadd (v := 10) b dX8_wealth_39 (by decide) ?_
  refine z_iload b dX8_wealth_40 rfl ?_
  refine z_iadd (v := 11) b dX8_wealth_42 (by decide) ?_
  refine z_calli b (z_runV (q0 := 26) (As := [.int 11]) (st := [.int 0]) b (c_X9_get_2 S h_a_9_11) cf_X9_get (cw_26 cy tE a rw S) rfl wm_X8_161 wi_X9_get ws_X9_get dX8_wealth_43 rfl (Nat.le_of_ble_eq_true rfl) ⟨by decide, by decide, by decide, by decide⟩) (fun r12037 u12038 h12036 => ?_)
  obtain ⟨rfl, rfl⟩ := h12036
  refine z_isub (v := 0) b dX8_wealth_46 (by decide) ?_
  refine z_istore_n (lv' := [(3, .int 0), (4, .int 1), (0, .ref (a 25)), (1, .int 0), (2, .int 0)]) b dX8_wealth_47 rfl (by decide) rfl ?_
  refine z_iinc (k9 := 1) (v := 2) (lv' := [(4, .int 2), (3, .int 0), (0, .ref (a 25)), (1, .int 0), (2, .int 0)]) b dX8_wealth_48 rfl (by decide) (by decide) rfl ?_
  refine z_goto (tgt := 17) b dX8_wealth_51 (by decide) ?_
  refine z_iload b dX8_wealth_17 rfl ?_
  refine z_iconst (v := 3) b dX8_wealth_19 (by decide) ?_
  refine z_icmp_ge_f (tgt := 54) b dX8_wealth_20 (by decide) (by decide) ?_
  refine z_iload b dX8_wealth_23 rfl ?_
  refine z_iload_n b dX8_wealth_25 rfl rfl ?_
  refine z_icmp_eq_f (tgt := 48) b dX8_wealth_26 (by decide) (by decide) ?_
  refine z_iload_n b dX8_wealth_29 rfl rfl ?_
  refine z_aload_n b dX8_wealth_30 rfl rfl ?_
  refine z_get (q0 := 25) (k9 := 2) (v := .ref (a 26)) b (cw_25 cy tE a rw S) rfl in_X8 (by decide) wf_X8_12 rfl dX8_wealth_31 ?_
  refine z_bipush (v := 10) b dX8_wealth_34 (by decide) ?_
  refine z_iconst (v := 3) b dX8_wealth_36 (by decide) ?_
  refine z_iload_n b dX8_wealth_37 rfl rfl ?_
  refine z_imul (v := 0) b dX8_wealth_38 (by decide) ?_
  refine z_iadd (v := 10) b dX8_wealth_39 (by decide) ?_
  refine z_iload b dX8_wealth_40 rfl ?_
  refine z_iadd (v := 12) b dX8_wealth_42 (by decide) ?_
  refine z_calli b (z_runV (q0 := 26) (As := [.int 12]) (st := [.int 0]) b (c_X9_get_3 S h_a_9_12) cf_X9_get (cw_26 cy tE a rw S) rfl wm_X8_161 wi_X9_get ws_X9_get dX8_wealth_43 rfl (Nat.le_of_ble_eq_true rfl) ⟨by decide, by decide, by decide, by decide⟩) (fun r12040 u12041 h12039 => ?_)
  obtain ⟨rfl, rfl⟩ := h12039
  refine z_isub (v := 0) b dX8_wealth_46 (by decide) ?_
  refine z_istore_n (lv' := [(3, .int 0), (4, .int 2), (0, .ref (a 25)), (1, .int 0), (2, .int 0)]) b dX8_wealth_47 rfl (by decide) rfl ?_
  refine z_iinc (k9 := 1) (v := 3) (lv' := [(4, .int 3), (3, .int 0), (0, .ref (a 25)), (1, .int 0), (2, .int 0)]) b dX8_wealth_48 rfl (by decide) (by decide) rfl ?_
  refine z_goto (tgt := 17) b dX8_wealth_51 (by decide) ?_
  refine z_iload b dX8_wealth_17 rfl ?_
  refine z_iconst (v := 3) b dX8_wealth_19 (by decide) ?_
  refine z_icmp_ge_t (tgt := 54) b dX8_wealth_20 (by decide) (by decide) ?_
  refine z_iload_n b dX8_wealth_54 rfl rfl ?_
  exact z_iret (u := S) b rfl dX8_wealth_55 ⟨rfl, rfl⟩ rfl (by decide) (by decide)

set_option maxHeartbeats 4000000 in
set_option maxRecDepth 100000 in
theorem c_X8_richest {l : Launch} {D : va_G} {cy : Nat → ClassId} {T0 tB tE : Nat} {a : Nat → Nat} {rw : Nat → Option Nat} (S : GS)  (h_i_25 : fi S 25 = 1) (h_A_2_0 : al S 2 0 = 4128768) (h_a_9_50 : ar S 9 50 = 0) (h_a_9_40 : ar S 9 40 = 3) (h_a_9_41 : ar S 9 41 = 3) (h_a_9_42 : ar S 9 42 = 3) (h_a_9_0 : ar S 9 0 = 0) (h_a_9_11 : ar S 9 11 = 0) (h_a_9_21 : ar S 9 21 = 0) (h_a_9_31 : ar S 9 31 = 0) (h_a_9_12 : ar S 9 12 = 0) (h_a_9_22 : ar S 9 22 = 0) (h_a_9_32 : ar S 9 32 = 0) (h_a_9_1 : ar S 9 1 = 0) (h_a_9_13 : ar S 9 13 = 0) (h_a_9_23 : ar S 9 23 = 0) (h_a_9_33 : ar S 9 33 = 0) (h_a_9_15 : ar S 9 15 = 0) (h_a_9_25 : ar S 9 25 = 0) (h_a_9_35 : ar S 9 35 = 0) (h_a_9_2 : ar S 9 2 = 0) (h_a_9_16 : ar S 9 16 = 0) (h_a_9_26 : ar S 9 26 = 0) (h_a_9_36 : ar S 9 36 = 0) (h_a_9_17 : ar S 9 17 = 0) (h_a_9_27 : ar S 9 27 = 0) (h_a_9_37 : ar S 9 37 = 0) : Ct l D cy T0 tB tE yX8_richest cX8_richest 6 (some .int) 4 92 0 0 (cw cy tE a rw S) [.ref (a 25), .int 0] (QI D (U := GS) (fun r u => 0 = r ∧ S = u) (cw cy tE a rw)) := by
  refine Ct.ofZ RX8 "richest" [(0, .ref (a 25)), (1, .int 0)] rfl rfl rfl rfl (Nat.le_of_ble_eq_true rfl) ?_
  intro p e R s m args below meth c A b
  refine z_iconst (v := 0) b dX8_richest_0 (by decide) ?_
  refine z_istore_n (lv' := [(2, .int 0), (0, .ref (a 25)), (1, .int 0)]) b dX8_richest_1 rfl (by decide) rfl ?_
  refine z_aload_n b dX8_richest_2 rfl rfl ?_
  refine z_iconst (v := 0) b dX8_richest_3 (by decide) ?_
  refine z_iload_n b dX8_richest_4 rfl rfl ?_
  refine z_calli b (z_runV (q0 := 25) (As := [.int 0, .int 0]) (st := []) b (c_X8_wealth S h_i_25 h_A_2_0 h_a_9_50 h_a_9_40 h_a_9_41 h_a_9_42 h_a_9_0 h_a_9_11 h_a_9_21 h_a_9_31 h_a_9_12 h_a_9_22 h_a_9_32 h_a_9_1 h_a_9_13 h_a_9_23 h_a_9_33 h_a_9_15 h_a_9_25 h_a_9_35 h_a_9_2 h_a_9_16 h_a_9_26 h_a_9_36 h_a_9_17 h_a_9_27 h_a_9_37) cf_X8_wealth (cw_25 cy tE a rw S) rfl wm_X8_163 wi_X8_wealth ws_X8_wealth dX8_richest_5 rfl (Nat.le_of_ble_eq_true rfl) ⟨by decide, by decide, by decide, by decide⟩) (fun r12043 u12044 h12042 => ?_)
  obtain ⟨rfl, rfl⟩ := h12042
  refine z_istore_n (lv' := [(3, .int 0), (2, .int 0), (0, .ref (a 25)), (1, .int 0)]) b dX8_richest_8 rfl (by decide) rfl ?_
  refine z_iconst (v := 1) b dX8_richest_9 (by decide) ?_
  refine z_istore (lv' := [(4, .int 1), (3, .int 0), (2, .int 0), (0, .ref (a 25)), (1, .int 0)]) b dX8_richest_10 (by decide) rfl ?_
  refine z_iload b dX8_richest_12 rfl ?_
  refine z_aload_n b dX8_richest_14 rfl rfl ?_
  refine z_get (q0 := 25) (k9 := 17) (v := .int (fi S 25)) b (cw_25 cy tE a rw S) rfl in_X8 (by decide) wf_X8_64 rfl dX8_richest_15 ?_
  refine z_eqi h_i_25 ?_
  refine z_icmp_ge_t (tgt := 56) b dX8_richest_18 (by decide) (by decide) ?_
  refine z_iload_n b dX8_richest_56 rfl rfl ?_
  exact z_iret (u := S) b rfl dX8_richest_57 ⟨rfl, rfl⟩ rfl (by decide) (by decide)

set_option maxHeartbeats 4000000 in
set_option maxRecDepth 100000 in
theorem c_X11_gain_16 {l : Launch} {D : va_G} {cy : Nat → ClassId} {T0 tB tE : Nat} {a : Nat → Nat} {rw : Nat → Option Nat} (S : GS) (p0 : Int32) (h_i_19 : fi S 19 = 0) (h_i_24 : fi S 24 = 0) (h_i_20 : fi S 20 = 0) (h_i_22 : fi S 22 = 0) (h_i_18 : fi S 18 = 0) (h_i_25 : fi S 25 = 0) (h_i_23 : fi S 23 = 0) (h_i_26 : fi S 26 = 0) (h_a_4_50 : ar S 4 50 = 0) (h_a_4_40 : ar S 4 40 = 3) (h_a_4_41 : ar S 4 41 = 3) (h_a_4_42 : ar S 4 42 = 3) (h_a_4_0 : ar S 4 0 = 0) (h_a_4_11 : ar S 4 11 = 0) (h_a_4_21 : ar S 4 21 = 0) (h_a_4_31 : ar S 4 31 = 0) (h_a_4_12 : ar S 4 12 = 0) (h_a_4_22 : ar S 4 22 = 0) (h_a_4_32 : ar S 4 32 = 0) (h_a_4_1 : ar S 4 1 = 0) (h_a_4_13 : ar S 4 13 = 0) (h_a_4_23 : ar S 4 23 = 0) (h_a_4_33 : ar S 4 33 = 0) (h_a_4_15 : ar S 4 15 = 0) (h_a_4_25 : ar S 4 25 = 0) (h_a_4_35 : ar S 4 35 = 0) (h_a_4_2 : ar S 4 2 = 0) (h_a_4_16 : ar S 4 16 = 0) (h_a_4_26 : ar S 4 26 = 0) (h_a_4_36 : ar S 4 36 = 0) (h_a_4_17 : ar S 4 17 = 0) (h_a_4_27 : ar S 4 27 = 0) (h_a_4_37 : ar S 4 37 = 0) (h_a_10_0 : ar S 10 0 = 0) (h_a_9_50 : ar S 9 50 = 0) (h_a_9_40 : ar S 9 40 = 3) (h_a_9_41 : ar S 9 41 = 3) (h_a_9_42 : ar S 9 42 = 3) (h_a_9_0 : ar S 9 0 = 0) (h_a_9_11 : ar S 9 11 = 0) (h_a_9_21 : ar S 9 21 = 0) (h_a_9_31 : ar S 9 31 = 0) (h_a_9_12 : ar S 9 12 = 0) (h_a_9_22 : ar S 9 22 = 0) (h_a_9_32 : ar S 9 32 = 0) (h_a_9_1 : ar S 9 1 = 0) (h_a_9_13 : ar S 9 13 = 0) (h_a_9_23 : ar S 9 23 = 0) (h_a_9_33 : ar S 9 33 = 0) (h_a_9_15 : ar S 9 15 = 0) (h_a_9_25 : ar S 9 25 = 0) (h_a_9_35 : ar S 9 35 = 0) (h_a_9_2 : ar S 9 2 = 0) (h_a_9_16 : ar S 9 16 = 0) (h_a_9_26 : ar S 9 26 = 0) (h_a_9_36 : ar S 9 36 = 0) (h_a_9_17 : ar S 9 17 = 0) (h_a_9_27 : ar S 9 27 = 0) (h_a_9_37 : ar S 9 37 = 0) (hr_p0 : 1 ≤ p0.toInt ∧ p0.toInt ≤ 3) : Ct l D cy T0 tB tE yX11_gain cX11_gain 7 (some .int) 5 117 0 0 (cw cy tE a rw S) [.ref (a 0), .int 0, .int p0, .int 0, .int 0] (QI D (U := GS) (fun r u => 0 = r ∧ (su (si (su (su (sv (sa (si (si (si S 24 1) 19 p0) 21 7) 13 (fil 1024 0 (ar (si (si (si S 24 1) 19 p0) 21 7) 13))) 2 0 4128768) 11 0 (-1)) 12 0 (-1)) 25 1) 13 978 1) = u) (cw cy tE a rw)) := by
  refine Ct.ofZ RX11 "gain" [(0, .ref (a 0)), (1, .int 0), (2, .int p0), (3, .int 0), (4, .int 0)] rfl rfl rfl rfl (Nat.le_of_ble_eq_true rfl) ?_
  intro p e R s m args below meth c A b
  refine z_iload_n b dX11_gain_0 rfl rfl ?_
  refine z_calli b (z_runS (As := [.int 0]) (st := []) b (c_X11_isPerson_3 S ) cf_X11_isPerson wm_X11_69 ws_X11_isPerson dX11_gain_1 rfl (Nat.le_of_ble_eq_true rfl) ⟨by decide, by decide, by decide, by decide⟩) (fun r12016 u12017 h12015 => ?_)
  obtain ⟨rfl, rfl⟩ := h12015
  refine z_if_eq_f (tgt := 26) b dX11_gain_4 (by decide) (by decide) ?_
  refine z_iload_n b dX11_gain_7 rfl rfl ?_
  refine z_calli b (z_runS (As := [.int p0]) (st := []) b (c_X11_areLaws_3 S p0 ⟨by omega, by omega⟩) cf_X11_areLaws wm_X11_181 ws_X11_areLaws dX11_gain_8 rfl (Nat.le_of_ble_eq_true rfl) ⟨by decide, by decide, by decide, by decide⟩) (fun r12019 u12020 h12018 => ?_)
  obtain ⟨rfl, rfl⟩ := h12018
  refine z_if_eq_f (tgt := 26) b dX11_gain_11 (by decide) (by decide) ?_
  refine z_iload_n b dX11_gain_14 rfl rfl ?_
  refine z_calli b (z_runS (As := [.int 0]) (st := []) b (c_X11_isDepth_2 S ) cf_X11_isDepth wm_X11_203 ws_X11_isDepth dX11_gain_15 rfl (Nat.le_of_ble_eq_true rfl) ⟨by decide, by decide, by decide, by decide⟩) (fun r12022 u12023 h12021 => ?_)
  obtain ⟨rfl, rfl⟩ := h12021
  refine z_if_eq_f (tgt := 26) b dX11_gain_18 (by decide) (by decide) ?_
  refine z_iload b dX11_gain_21 rfl ?_
  refine z_if_ge_t (tgt := 29) b dX11_gain_23 (by decide) (by decide) ?_
  refine z_aload_n b dX11_gain_29 rfl rfl ?_
  refine z_get (q0 := 0) (k9 := 6) (v := .ref (a 25)) b (cw_0 cy tE a rw S) rfl in_X11 (by decide) wf_X11_52 rfl dX11_gain_30 ?_
  refine z_iload_n b dX11_gain_33 rfl rfl ?_
  refine z_iload_n b dX11_gain_34 rfl rfl ?_
  refine z_bipush (v := 7) b dX11_gain_35 (by decide) ?_
  refine z_iconst (v := 0) b dX11_gain_37 (by decide) ?_
  refine z_callv b (z_runV (q0 := 25) (As := [.int p0, .int 0, .int 7, .int 0]) (st := []) b (c_X8_begin S p0 h_i_19 h_i_24 h_i_20 h_i_22 h_i_18 h_i_25 h_i_23 h_i_26 h_a_4_50 h_a_4_40 h_a_4_41 h_a_4_42 h_a_4_0 h_a_4_11 h_a_4_21 h_a_4_31 h_a_4_12 h_a_4_22 h_a_4_32 h_a_4_1 h_a_4_13 h_a_4_23 h_a_4_33 h_a_4_15 h_a_4_25 h_a_4_35 h_a_4_2 h_a_4_16 h_a_4_26 h_a_4_36 h_a_4_17 h_a_4_27 h_a_4_37 h_a_10_0 ⟨by omega, by omega⟩) cf_X8_begin (cw_25 cy tE a rw S) rfl wm_X11_206 wi_X8_begin ws_X8_begin dX11_gain_38 rfl (Nat.le_of_ble_eq_true rfl) ⟨by decide, by decide, by decide, by decide⟩) (fun u12026 h12024 => ?_)
  obtain rfl := h12024
  refine z_aload_n b dX11_gain_41 rfl rfl ?_
  refine z_get (q0 := 0) (k9 := 6) (v := .ref (a 25)) b (cw_0 cy tE a rw (su (si (su (su (sv (sa (si (si (si S 24 1) 19 p0) 21 7) 13 (fil 1024 0 (ar (si (si (si S 24 1) 19 p0) 21 7) 13))) 2 0 4128768) 11 0 (-1)) 12 0 (-1)) 25 1) 13 978 1)) rfl in_X11 (by decide) wf_X11_52 rfl dX11_gain_42 ?_
  refine z_callv b (z_runV (q0 := 25) (As := []) (st := []) b (c_X8_finish (su (si (su (su (sv (sa (si (si (si S 24 1) 19 p0) 21 7) 13 (fil 1024 0 (ar (si (si (si S 24 1) 19 p0) 21 7) 13))) 2 0 4128768) 11 0 (-1)) 12 0 (-1)) 25 1) 13 978 1) h_i_26 h_i_23 rfl h_a_10_0 h_i_20) cf_X8_finish (cw_25 cy tE a rw (su (si (su (su (sv (sa (si (si (si S 24 1) 19 p0) 21 7) 13 (fil 1024 0 (ar (si (si (si S 24 1) 19 p0) 21 7) 13))) 2 0 4128768) 11 0 (-1)) 12 0 (-1)) 25 1) 13 978 1)) rfl wm_X11_232 wi_X8_finish ws_X8_finish dX11_gain_45 rfl (Nat.le_of_ble_eq_true rfl) ⟨by decide, by decide, by decide, by decide⟩) (fun u12029 h12027 => ?_)
  obtain rfl := h12027
  refine z_aload_n b dX11_gain_48 rfl rfl ?_
  refine z_get (q0 := 0) (k9 := 6) (v := .ref (a 25)) b (cw_0 cy tE a rw (su (si (su (su (sv (sa (si (si (si S 24 1) 19 p0) 21 7) 13 (fil 1024 0 (ar (si (si (si S 24 1) 19 p0) 21 7) 13))) 2 0 4128768) 11 0 (-1)) 12 0 (-1)) 25 1) 13 978 1)) rfl in_X11 (by decide) wf_X11_52 rfl dX11_gain_49 ?_
  refine z_get (q0 := 25) (k9 := 18) (v := .int (fi (su (si (su (su (sv (sa (si (si (si S 24 1) 19 p0) 21 7) 13 (fil 1024 0 (ar (si (si (si S 24 1) 19 p0) 21 7) 13))) 2 0 4128768) 11 0 (-1)) 12 0 (-1)) 25 1) 13 978 1) 26)) b (cw_25 cy tE a rw (su (si (su (su (sv (sa (si (si (si S 24 1) 19 p0) 21 7) 13 (fil 1024 0 (ar (si (si (si S 24 1) 19 p0) 21 7) 13))) 2 0 4128768) 11 0 (-1)) 12 0 (-1)) 25 1) 13 978 1)) rfl in_X8 (by decide) wf_X11_214 rfl dX11_gain_52 ?_
  refine z_eqi h_i_26 ?_
  refine z_if_eq_t (tgt := 61) b dX11_gain_55 (by decide) (by decide) ?_
  refine z_aload_n b dX11_gain_61 rfl rfl ?_
  refine z_get (q0 := 0) (k9 := 6) (v := .ref (a 25)) b (cw_0 cy tE a rw (su (si (su (su (sv (sa (si (si (si S 24 1) 19 p0) 21 7) 13 (fil 1024 0 (ar (si (si (si S 24 1) 19 p0) 21 7) 13))) 2 0 4128768) 11 0 (-1)) 12 0 (-1)) 25 1) 13 978 1)) rfl in_X11 (by decide) wf_X11_52 rfl dX11_gain_62 ?_
  refine z_iload_n b dX11_gain_65 rfl rfl ?_
  refine z_calli b (z_runV (q0 := 25) (As := [.int 0]) (st := []) b (c_X8_richest (su (si (su (su (sv (sa (si (si (si S 24 1) 19 p0) 21 7) 13 (fil 1024 0 (ar (si (si (si S 24 1) 19 p0) 21 7) 13))) 2 0 4128768) 11 0 (-1)) 12 0 (-1)) 25 1) 13 978 1) rfl rfl h_a_9_50 h_a_9_40 h_a_9_41 h_a_9_42 h_a_9_0 h_a_9_11 h_a_9_21 h_a_9_31 h_a_9_12 h_a_9_22 h_a_9_32 h_a_9_1 h_a_9_13 h_a_9_23 h_a_9_33 h_a_9_15 h_a_9_25 h_a_9_35 h_a_9_2 h_a_9_16 h_a_9_26 h_a_9_36 h_a_9_17 h_a_9_27 h_a_9_37) cf_X8_richest (cw_25 cy tE a rw (su (si (su (su (sv (sa (si (si (si S 24 1) 19 p0) 21 7) 13 (fil 1024 0 (ar (si (si (si S 24 1) 19 p0) 21 7) 13))) 2 0 4128768) 11 0 (-1)) 12 0 (-1)) 25 1) 13 978 1)) rfl wm_X11_238 wi_X8_richest ws_X8_richest dX11_gain_66 rfl (Nat.le_of_ble_eq_true rfl) ⟨by decide, by decide, by decide, by decide⟩) (fun r12046 u12047 h12045 => ?_)
  obtain ⟨rfl, rfl⟩ := h12045
  refine z_istore (lv' := [(5, .int 0), (0, .ref (a 0)), (1, .int 0), (2, .int p0), (3, .int 0), (4, .int 0)]) b dX11_gain_69 (by decide) rfl ?_
  refine z_iload b dX11_gain_71 rfl ?_
  refine z_if_ne_f (tgt := 87) b dX11_gain_73 (by decide) (by decide) ?_
  refine z_aload_n b dX11_gain_76 rfl rfl ?_
  refine z_get (q0 := 0) (k9 := 6) (v := .ref (a 25)) b (cw_0 cy tE a rw (su (si (su (su (sv (sa (si (si (si S 24 1) 19 p0) 21 7) 13 (fil 1024 0 (ar (si (si (si S 24 1) 19 p0) 21 7) 13))) 2 0 4128768) 11 0 (-1)) 12 0 (-1)) 25 1) 13 978 1)) rfl in_X11 (by decide) wf_X11_52 rfl dX11_gain_77 ?_
  refine z_iload b dX11_gain_80 rfl ?_
  refine z_iload_n b dX11_gain_82 rfl rfl ?_
  refine z_calli b (z_runV (q0 := 25) (As := [.int 0, .int 0]) (st := []) b (c_X8_wealth (su (si (su (su (sv (sa (si (si (si S 24 1) 19 p0) 21 7) 13 (fil 1024 0 (ar (si (si (si S 24 1) 19 p0) 21 7) 13))) 2 0 4128768) 11 0 (-1)) 12 0 (-1)) 25 1) 13 978 1) rfl rfl h_a_9_50 h_a_9_40 h_a_9_41 h_a_9_42 h_a_9_0 h_a_9_11 h_a_9_21 h_a_9_31 h_a_9_12 h_a_9_22 h_a_9_32 h_a_9_1 h_a_9_13 h_a_9_23 h_a_9_33 h_a_9_15 h_a_9_25 h_a_9_35 h_a_9_2 h_a_9_16 h_a_9_26 h_a_9_36 h_a_9_17 h_a_9_27 h_a_9_37) cf_X8_wealth (cw_25 cy tE a rw (su (si (su (su (sv (sa (si (si (si S 24 1) 19 p0) 21 7) 13 (fil 1024 0 (ar (si (si (si S 24 1) 19 p0) 21 7) 13))) 2 0 4128768) 11 0 (-1)) 12 0 (-1)) 25 1) 13 978 1)) rfl wm_X11_241 wi_X8_wealth ws_X8_wealth dX11_gain_83 rfl (Nat.le_of_ble_eq_true rfl) ⟨by decide, by decide, by decide, by decide⟩) (fun r12049 u12050 h12048 => ?_)
  obtain ⟨rfl, rfl⟩ := h12048
  exact z_iret (u := (su (si (su (su (sv (sa (si (si (si S 24 1) 19 p0) 21 7) 13 (fil 1024 0 (ar (si (si (si S 24 1) 19 p0) 21 7) 13))) 2 0 4128768) 11 0 (-1)) 12 0 (-1)) 25 1) 13 978 1)) b rfl dX11_gain_86 ⟨rfl, rfl⟩ rfl (by decide) (by decide)

set_option maxHeartbeats 4000000 in
set_option maxRecDepth 100000 in
theorem c_X12_isIn_59 {l : Launch} {D : va_G} {cy : Nat → ClassId} {T0 tB tE : Nat} {a : Nat → Nat} (S : GS)   : Ct l D cy T0 tB tE yX12_isIn cX12_isIn 3 (some .boolean) 0 0 0 0 (mw cy a S) [.int 0, .int 0, .int 7] (QI D (U := GS) (fun r u => 1 = r ∧ S = u) (mw cy a)) := by
  refine Ct.ofZ RX12 "isIn" [(0, .int 0), (1, .int 0), (2, .int 7)] rfl rfl rfl rfl (Nat.le_of_ble_eq_true rfl) ?_
  intro p e R s m args below meth c A b
  refine z_iload_n b dX12_isIn_0 rfl rfl ?_
  refine z_iload_n b dX12_isIn_1 rfl rfl ?_
  refine z_icmp_lt_f (tgt := 14) b dX12_isIn_2 (by decide) (by decide) ?_
  refine z_iload_n b dX12_isIn_5 rfl rfl ?_
  refine z_iload_n b dX12_isIn_6 rfl rfl ?_
  refine z_icmp_gt_f (tgt := 14) b dX12_isIn_7 (by decide) (by decide) ?_
  refine z_iconst (v := 1) b dX12_isIn_10 (by decide) ?_
  refine z_goto (tgt := 15) b dX12_isIn_11 (by decide) ?_
  exact z_zret (u := S) b rfl (by decide) dX12_isIn_15 ⟨rfl, rfl⟩ rfl (by decide) (by decide)

set_option maxHeartbeats 4000000 in
set_option maxRecDepth 100000 in
theorem c_X12_gain_16 {l : Launch} {D : va_G} {cy : Nat → ClassId} {T0 tB tE : Nat} {a : Nat → Nat} (S : GS) (p0 : Int32) (h_i_21 : fi S 21 = 0) (h_i_23 : fi S 23 = 0) (h_l_0 : fl S 0 = 1649317774848) (h_a_29_992 : ar S 29 992 = (-1)) (h_a_28_0 : ar S 28 0 = 0) (h_a_4_7 : ar S 4 7 = 0) (h_a_1_7 : ar S 1 7 = 0) (h_a_4_6 : ar S 4 6 = 0) (h_a_1_6 : ar S 1 6 = 0) (h_a_3_6 : ar S 3 6 = 0) (h_a_3_2 : ar S 3 2 = 0) (h_a_2_2 : ar S 2 2 = 3) (h_a_0_2 : ar S 0 2 = 0) (h_a_4_3 : ar S 4 3 = 0) (h_a_1_3 : ar S 1 3 = 0) (h_a_4_5 : ar S 4 5 = 0) (h_a_1_5 : ar S 1 5 = 0) (h_a_3_5 : ar S 3 5 = 0) (h_a_3_7 : ar S 3 7 = 0) (h_a_2_1 : ar S 2 1 = 3) (h_a_0_1 : ar S 0 1 = 0) (h_a_4_2 : ar S 4 2 = 0) (h_a_1_2 : ar S 1 2 = 0) (h_a_4_1 : ar S 4 1 = 0) (h_a_1_1 : ar S 1 1 = 0) (h_a_3_1 : ar S 3 1 = 0) (h_a_3_3 : ar S 3 3 = 0) (h_a_2_0 : ar S 2 0 = 3) (h_a_0_0 : ar S 0 0 = 0) (h_i_0 : fi S 0 = 0) (hr_p0 : 1 ≤ p0.toInt ∧ p0.toInt ≤ 3) : Ct l D cy T0 tB tE yX12_gain cX12_gain 9 (some .int) 3 74 0 0 (mw cy a S) [.ref (a 0), .int 0, .int p0, .int 0, .int 0] (QI D (U := GS) (fun r u => 0 = r ∧ (si (su (su (sv (su (su (si S 22 (-1)) 29 992 0) 30 0 992) 0 0 1649317774848) 26 0 (-1)) 27 0 (-1)) 21 1) = u) (mw cy a)) := by
  refine Ct.ofZ RX12 "gain" [(0, .ref (a 0)), (1, .int 0), (2, .int p0), (3, .int 0), (4, .int 0)] rfl rfl rfl rfl (Nat.le_of_ble_eq_true rfl) ?_
  intro p e R s m args below meth c A b
  refine z_iload_n b dX12_gain_0 rfl rfl ?_
  refine z_calli b (z_runS (As := [.int 0]) (st := []) b (c_X12_isOne_3 S ) cf_X12_isOne wm_X12_170 ws_X12_isOne dX12_gain_1 rfl (Nat.le_of_ble_eq_true rfl) ⟨by decide, by decide, by decide, by decide⟩) (fun r12052 u12053 h12051 => ?_)
  obtain ⟨rfl, rfl⟩ := h12051
  refine z_if_eq_f (tgt := 27) b dX12_gain_4 (by decide) (by decide) ?_
  refine z_aload_n b dX12_gain_7 rfl rfl ?_
  refine z_iload_n b dX12_gain_8 rfl rfl ?_
  refine z_iload_n b dX12_gain_9 rfl rfl ?_
  refine z_calli b (z_runV (q0 := 0) (As := [.int p0, .int 0]) (st := []) b (c_X12_canSearch_4 S p0 ⟨by omega, by omega⟩) cf_X12_canSearch (mw_0 cy a S) rfl wm_X12_433 wi_X12_canSearch ws_X12_canSearch dX12_gain_10 rfl (Nat.le_of_ble_eq_true rfl) ⟨by decide, by decide, by decide, by decide⟩) (fun r12055 u12056 h12054 => ?_)
  obtain ⟨rfl, rfl⟩ := h12054
  refine z_if_eq_f (tgt := 27) b dX12_gain_13 (by decide) (by decide) ?_
  refine z_iload b dX12_gain_16 rfl ?_
  refine z_iconst (v := 0) b dX12_gain_18 (by decide) ?_
  refine z_bipush (v := 7) b dX12_gain_19 (by decide) ?_
  refine z_calli b (z_runS (As := [.int 0, .int 0, .int 7]) (st := []) b (c_X12_isIn_59 S ) cf_X12_isIn wm_X12_1 ws_X12_isIn dX12_gain_21 rfl (Nat.le_of_ble_eq_true rfl) ⟨by decide, by decide, by decide, by decide⟩) (fun r12058 u12059 h12057 => ?_)
  obtain ⟨rfl, rfl⟩ := h12057
  refine z_if_ne_t (tgt := 30) b dX12_gain_24 (by decide) (by decide) ?_
  refine z_aload_n b dX12_gain_30 rfl rfl ?_
  refine z_iconst (v := (-1)) b dX12_gain_31 (by decide) ?_
  refine z_iload_n b dX12_gain_32 rfl rfl ?_
  refine z_iload_n b dX12_gain_33 rfl rfl ?_
  refine z_bipush (v := 7) b dX12_gain_34 (by decide) ?_
  refine z_iconst (v := 0) b dX12_gain_36 (by decide) ?_
  refine z_callv b (z_runV (q0 := 0) (As := [.int (-1), .int p0, .int 0, .int 7, .int 0]) (st := []) b (c_X12_searches S p0 h_i_21 h_i_23 h_l_0 h_a_29_992 h_a_28_0 ⟨by omega, by omega⟩) cf_X12_searches (mw_0 cy a S) rfl wm_X12_436 wi_X12_searches ws_X12_searches dX12_gain_37 rfl (Nat.le_of_ble_eq_true rfl) ⟨by decide, by decide, by decide, by decide⟩) (fun u12062 h12060 => ?_)
  obtain rfl := h12060
  refine z_aload_n b dX12_gain_40 rfl rfl ?_
  refine z_get (q0 := 0) (k9 := 57) (v := .int (fi (si (su (su (sv (su (su (si S 22 (-1)) 29 992 0) 30 0 992) 0 0 1649317774848) 26 0 (-1)) 27 0 (-1)) 21 1) 23)) b (mw_0 cy a (si (su (su (sv (su (su (si S 22 (-1)) 29 992 0) 30 0 992) 0 0 1649317774848) 26 0 (-1)) 27 0 (-1)) 21 1)) rfl in_X12 (by decide) wf_X12_408 rfl dX12_gain_41 ?_
  refine z_eqi h_i_23 ?_
  refine z_if_eq_t (tgt := 50) b dX12_gain_44 (by decide) (by decide) ?_
  refine z_iconst (v := (-1)) b dX12_gain_50 (by decide) ?_
  refine z_istore (lv' := [(5, .int (-1)), (0, .ref (a 0)), (1, .int 0), (2, .int p0), (3, .int 0), (4, .int 0)]) b dX12_gain_51 (by decide) rfl ?_
  refine z_iconst (v := 0) b dX12_gain_53 (by decide) ?_
  refine z_istore (lv' := [(6, .int 0), (5, .int (-1)), (0, .ref (a 0)), (1, .int 0), (2, .int p0), (3, .int 0), (4, .int 0)]) b dX12_gain_54 (by decide) rfl ?_
  refine z_iconst (v := 0) b dX12_gain_56 (by decide) ?_
  refine z_istore (lv' := [(7, .int 0), (6, .int 0), (5, .int (-1)), (0, .ref (a 0)), (1, .int 0), (2, .int p0), (3, .int 0), (4, .int 0)]) b dX12_gain_57 (by decide) rfl ?_
  refine z_iload b dX12_gain_59 rfl ?_
  refine z_aload_n b dX12_gain_61 rfl rfl ?_
  refine z_get (q0 := 0) (k9 := 55) (v := .int 1) b (mw_0 cy a (si (su (su (sv (su (su (si S 22 (-1)) 29 992 0) 30 0 992) 0 0 1649317774848) 26 0 (-1)) 27 0 (-1)) 21 1)) rfl in_X12 (by decide) wf_X12_405 rfl dX12_gain_62 ?_
  refine z_icmp_ge_f (tgt := 147) b dX12_gain_65 (by decide) (by decide) ?_
  refine z_aload_n b dX12_gain_68 rfl rfl ?_
  refine z_aload_n b dX12_gain_69 rfl rfl ?_
  refine z_get (q0 := 0) (k9 := 49) (v := .ref (a 27)) b (mw_0 cy a (si (su (su (sv (su (su (si S 22 (-1)) 29 992 0) 30 0 992) 0 0 1649317774848) 26 0 (-1)) 27 0 (-1)) 21 1)) rfl in_X12 (by decide) wf_X12_97 rfl dX12_gain_70 ?_
  refine z_iload b dX12_gain_73 rfl ?_
  refine y_lald (q0 := 27) (j := 0) (v := 1649317774848) b (mw_27 cy a (si (su (su (sv (su (su (si S 22 (-1)) 29 992 0) 30 0 992) 0 0 1649317774848) 26 0 (-1)) 27 0 (-1)) 21 1)) (by decide) rfl dX12_gain_75 ?_
  refine z_callv b (z_runV (q0 := 0) (As := [.long 1649317774848]) (st := []) b (c_X12_takes (si (su (su (sv (su (su (si S 22 (-1)) 29 992 0) 30 0 992) 0 0 1649317774848) 26 0 (-1)) 27 0 (-1)) 21 1) h_a_4_7 h_a_1_7 h_a_4_6 h_a_1_6 h_a_3_6 h_a_3_2 h_a_2_2 h_a_0_2 h_a_4_3 h_a_1_3 h_a_4_5 h_a_1_5 h_a_3_5 h_a_3_7 h_a_2_1 h_a_0_1 h_a_4_2 h_a_1_2 h_a_4_1 h_a_1_1 h_a_3_1 h_a_3_3 h_a_2_0 h_a_0_0 h_i_0) cf_X12_takes (mw_0 cy a (si (su (su (sv (su (su (si S 22 (-1)) 29 992 0) 30 0 992) 0 0 1649317774848) 26 0 (-1)) 27 0 (-1)) 21 1)) rfl wm_X12_174 wi_X12_takes ws_X12_takes dX12_gain_76 rfl (Nat.le_of_ble_eq_true rfl) ⟨by decide, by decide, by decide, by decide⟩) (fun u12065 h12063 => ?_)
  obtain rfl := h12063
  refine z_aload_n b dX12_gain_79 rfl rfl ?_
  refine z_get (q0 := 0) (k9 := 0) (v := .ref (a 1)) b (mw_0 cy a (si (su (su (sv (su (su (si S 22 (-1)) 29 992 0) 30 0 992) 0 0 1649317774848) 26 0 (-1)) 27 0 (-1)) 21 1)) rfl in_X12 (by decide) wf_X12_13 rfl dX12_gain_80 ?_
  refine z_iload_n b dX12_gain_83 rfl rfl ?_
  refine y_iald (q0 := 1) (j := 0) (v := (ar (si (su (su (sv (su (su (si S 22 (-1)) 29 992 0) 30 0 992) 0 0 1649317774848) 26 0 (-1)) 27 0 (-1)) 21 1) 0 0)) b (mw_1 cy a (si (su (su (sv (su (su (si S 22 (-1)) 29 992 0) 30 0 992) 0 0 1649317774848) 26 0 (-1)) 27 0 (-1)) 21 1)) (by decide) rfl dX12_gain_84 ?_
  refine z_eqi h_a_0_0 ?_
  refine z_aload_n b dX12_gain_85 rfl rfl ?_
  refine z_get (q0 := 0) (k9 := 1) (v := .ref (a 2)) b (mw_0 cy a (si (su (su (sv (su (su (si S 22 (-1)) 29 992 0) 30 0 992) 0 0 1649317774848) 26 0 (-1)) 27 0 (-1)) 21 1)) rfl in_X12 (by decide) wf_X12_17 rfl dX12_gain_86 ?_
  refine z_iconst (v := 3) b dX12_gain_89 (by decide) ?_
  refine z_iload_n b dX12_gain_90 rfl rfl ?_
  refine z_imul (v := 0) b dX12_gain_91 (by decide) ?_
  refine z_iload_n b dX12_gain_92 rfl rfl ?_
  refine z_iconst (v := 0) b dX12_gain_93 (by decide) ?_
  refine z_calli b (z_runS (As := [.int 0, .int 0]) (st := [.int 0, .ref (a 2), .int 0]) b (c_X12_other_6 (si (su (su (sv (su (su (si S 22 (-1)) 29 992 0) 30 0 992) 0 0 1649317774848) 26 0 (-1)) 27 0 (-1)) 21 1) ) cf_X12_other wm_X12_160 ws_X12_other dX12_gain_94 rfl (Nat.le_of_ble_eq_true rfl) ⟨by decide, by decide, by decide, by decide⟩) (fun r12067 u12068 h12066 => ?_)
  obtain ⟨rfl, rfl⟩ := h12066
  refine z_iadd (v := 1) b dX12_gain_97 (by decide) ?_
  refine y_iald (q0 := 2) (j := 1) (v := (ar (si (su (su (sv (su (su (si S 22 (-1)) 29 992 0) 30 0 992) 0 0 1649317774848) 26 0 (-1)) 27 0 (-1)) 21 1) 1 1)) b (mw_2 cy a (si (su (su (sv (su (su (si S 22 (-1)) 29 992 0) 30 0 992) 0 0 1649317774848) 26 0 (-1)) 27 0 (-1)) 21 1)) (by decide) rfl dX12_gain_98 ?_
  refine z_eqi h_a_1_1 ?_
  refine z_isub (v := 0) b dX12_gain_99 (by decide) ?_
  refine z_aload_n b dX12_gain_100 rfl rfl ?_
  refine z_get (q0 := 0) (k9 := 1) (v := .ref (a 2)) b (mw_0 cy a (si (su (su (sv (su (su (si S 22 (-1)) 29 992 0) 30 0 992) 0 0 1649317774848) 26 0 (-1)) 27 0 (-1)) 21 1)) rfl in_X12 (by decide) wf_X12_17 rfl dX12_gain_101 ?_
  refine z_iconst (v := 3) b dX12_gain_104 (by decide) ?_
  refine z_iload_n b dX12_gain_105 rfl rfl ?_
  refine z_imul (v := 0) b dX12_gain_106 (by decide) ?_
  refine z_iload_n b dX12_gain_107 rfl rfl ?_
  refine z_iconst (v := 1) b dX12_gain_108 (by decide) ?_
  refine z_calli b (z_runS (As := [.int 0, .int 1]) (st := [.int 0, .ref (a 2), .int 0]) b (c_X12_other_5 (si (su (su (sv (su (su (si S 22 (-1)) 29 992 0) 30 0 992) 0 0 1649317774848) 26 0 (-1)) 27 0 (-1)) 21 1) ) cf_X12_other wm_X12_160 ws_X12_other dX12_gain_109 rfl (Nat.le_of_ble_eq_true rfl) ⟨by decide, by decide, by decide, by decide⟩) (fun r12070 u12071 h12069 => ?_)
  obtain ⟨rfl, rfl⟩ := h12069
  refine z_iadd (v := 2) b dX12_gain_112 (by decide) ?_
  refine y_iald (q0 := 2) (j := 2) (v := (ar (si (su (su (sv (su (su (si S 22 (-1)) 29 992 0) 30 0 992) 0 0 1649317774848) 26 0 (-1)) 27 0 (-1)) 21 1) 1 2)) b (mw_2 cy a (si (su (su (sv (su (su (si S 22 (-1)) 29 992 0) 30 0 992) 0 0 1649317774848) 26 0 (-1)) 27 0 (-1)) 21 1)) (by decide) rfl dX12_gain_113 ?_
  refine z_eqi h_a_1_2 ?_
  refine z_isub (v := 0) b dX12_gain_114 (by decide) ?_
  refine z_istore (lv' := [(8, .int 0), (7, .int 0), (6, .int 0), (5, .int (-1)), (0, .ref (a 0)), (1, .int 0), (2, .int p0), (3, .int 0), (4, .int 0)]) b dX12_gain_115 (by decide) rfl ?_
  refine z_iload b dX12_gain_117 rfl ?_
  refine z_iconst (v := (-1)) b dX12_gain_119 (by decide) ?_
  refine z_icmp_eq_t (tgt := 133) b dX12_gain_120 (by decide) (by decide) ?_
  refine z_iload b dX12_gain_133 rfl ?_
  refine z_istore (lv' := [(5, .int 0), (8, .int 0), (7, .int 0), (6, .int 0), (0, .ref (a 0)), (1, .int 0), (2, .int p0), (3, .int 0), (4, .int 0)]) b dX12_gain_135 (by decide) rfl ?_
  refine z_iload b dX12_gain_137 rfl ?_
  refine z_istore (lv' := [(6, .int 0), (5, .int 0), (8, .int 0), (7, .int 0), (0, .ref (a 0)), (1, .int 0), (2, .int p0), (3, .int 0), (4, .int 0)]) b dX12_gain_139 (by decide) rfl ?_
  refine z_iinc (k9 := 3) (v := 1) (lv' := [(7, .int 1), (6, .int 0), (5, .int 0), (8, .int 0), (0, .ref (a 0)), (1, .int 0), (2, .int p0), (3, .int 0), (4, .int 0)]) b dX12_gain_141 rfl (by decide) (by decide) rfl ?_
  refine z_goto (tgt := 59) b dX12_gain_144 (by decide) ?_
  refine z_iload b dX12_gain_59 rfl ?_
  refine z_aload_n b dX12_gain_61 rfl rfl ?_
  refine z_get (q0 := 0) (k9 := 55) (v := .int 1) b (mw_0 cy a (si (su (su (sv (su (su (si S 22 (-1)) 29 992 0) 30 0 992) 0 0 1649317774848) 26 0 (-1)) 27 0 (-1)) 21 1)) rfl in_X12 (by decide) wf_X12_405 rfl dX12_gain_62 ?_
  refine z_icmp_ge_t (tgt := 147) b dX12_gain_65 (by decide) (by decide) ?_
  refine z_iload b dX12_gain_147 rfl ?_
  refine z_iconst (v := 2) b dX12_gain_149 (by decide) ?_
  refine z_icmp_ge_f (tgt := 171) b dX12_gain_150 (by decide) (by decide) ?_
  refine z_iload b dX12_gain_153 rfl ?_
  refine z_if_ne_f (tgt := 163) b dX12_gain_155 (by decide) (by decide) ?_
  refine z_iload b dX12_gain_158 rfl ?_
  refine z_goto (tgt := 170) b dX12_gain_160 (by decide) ?_
  exact z_iret (u := (si (su (su (sv (su (su (si S 22 (-1)) 29 992 0) 30 0 992) 0 0 1649317774848) 26 0 (-1)) 27 0 (-1)) 21 1)) b rfl dX12_gain_170 ⟨rfl, rfl⟩ rfl (by decide) (by decide)

set_option maxHeartbeats 4000000 in
set_option maxRecDepth 100000 in
theorem c_X8_acts {l : Launch} {D : va_G} {cy : Nat → ClassId} {T0 tB tE : Nat} {a : Nat → Nat} {rw : Nat → Option Nat} (S : GS)  (h_i_25 : fi S 25 = 1) (h_a_10_0 : ar S 10 0 = 0) : Ct l D cy T0 tB tE yX8_acts cX8_acts 2 (some .int) 0 0 0 0 (cw cy tE a rw S) [.ref (a 25), .int 0] (QI D (U := GS) (fun r u => 0 = r ∧ S = u) (cw cy tE a rw)) := by
  refine Ct.ofZ RX8 "acts" [(0, .ref (a 25)), (1, .int 0)] rfl rfl rfl rfl (Nat.le_of_ble_eq_true rfl) ?_
  intro p e R s m args below meth c A b
  refine z_iload_n b dX8_acts_0 rfl rfl ?_
  refine z_if_lt_f (tgt := 21) b dX8_acts_1 (by decide) (by decide) ?_
  refine z_iload_n b dX8_acts_4 rfl rfl ?_
  refine z_aload_n b dX8_acts_5 rfl rfl ?_
  refine z_get (q0 := 25) (k9 := 17) (v := .int (fi S 25)) b (cw_25 cy tE a rw S) rfl in_X8 (by decide) wf_X8_64 rfl dX8_acts_6 ?_
  refine z_eqi h_i_25 ?_
  refine z_icmp_ge_f (tgt := 21) b dX8_acts_9 (by decide) (by decide) ?_
  refine z_aload_n b dX8_acts_12 rfl rfl ?_
  refine z_get (q0 := 25) (k9 := 4) (v := .ref (a 29)) b (cw_25 cy tE a rw S) rfl in_X8 (by decide) wf_X8_22 rfl dX8_acts_13 ?_
  refine z_iload_n b dX8_acts_16 rfl rfl ?_
  refine y_iald (q0 := 29) (j := 0) (v := (ar S 10 0)) b (cw_29 cy tE a rw S) (by decide) rfl dX8_acts_17 ?_
  refine z_eqi h_a_10_0 ?_
  refine z_goto (tgt := 22) b dX8_acts_18 (by decide) ?_
  exact z_iret (u := S) b rfl dX8_acts_22 ⟨rfl, rfl⟩ rfl (by decide) (by decide)

set_option maxHeartbeats 4000000 in
set_option maxRecDepth 100000 in
theorem c_X11_gain_17 {l : Launch} {D : va_G} {cy : Nat → ClassId} {T0 tB tE : Nat} {a : Nat → Nat} {rw : Nat → Option Nat} (S : GS) (p0 : Int32) (h_i_19 : fi S 19 = 0) (h_i_24 : fi S 24 = 0) (h_i_20 : fi S 20 = 0) (h_i_22 : fi S 22 = 0) (h_i_18 : fi S 18 = 0) (h_i_25 : fi S 25 = 0) (h_i_23 : fi S 23 = 0) (h_i_26 : fi S 26 = 0) (h_a_4_50 : ar S 4 50 = 0) (h_a_4_40 : ar S 4 40 = 3) (h_a_4_41 : ar S 4 41 = 3) (h_a_4_42 : ar S 4 42 = 3) (h_a_4_0 : ar S 4 0 = 0) (h_a_4_11 : ar S 4 11 = 0) (h_a_4_21 : ar S 4 21 = 0) (h_a_4_31 : ar S 4 31 = 0) (h_a_4_12 : ar S 4 12 = 0) (h_a_4_22 : ar S 4 22 = 0) (h_a_4_32 : ar S 4 32 = 0) (h_a_4_1 : ar S 4 1 = 0) (h_a_4_13 : ar S 4 13 = 0) (h_a_4_23 : ar S 4 23 = 0) (h_a_4_33 : ar S 4 33 = 0) (h_a_4_15 : ar S 4 15 = 0) (h_a_4_25 : ar S 4 25 = 0) (h_a_4_35 : ar S 4 35 = 0) (h_a_4_2 : ar S 4 2 = 0) (h_a_4_16 : ar S 4 16 = 0) (h_a_4_26 : ar S 4 26 = 0) (h_a_4_36 : ar S 4 36 = 0) (h_a_4_17 : ar S 4 17 = 0) (h_a_4_27 : ar S 4 27 = 0) (h_a_4_37 : ar S 4 37 = 0) (h_a_10_0 : ar S 10 0 = 0) (h_a_9_50 : ar S 9 50 = 0) (h_a_9_40 : ar S 9 40 = 3) (h_a_9_41 : ar S 9 41 = 3) (h_a_9_42 : ar S 9 42 = 3) (h_a_9_0 : ar S 9 0 = 0) (h_a_9_11 : ar S 9 11 = 0) (h_a_9_21 : ar S 9 21 = 0) (h_a_9_31 : ar S 9 31 = 0) (h_a_9_12 : ar S 9 12 = 0) (h_a_9_22 : ar S 9 22 = 0) (h_a_9_32 : ar S 9 32 = 0) (h_a_9_1 : ar S 9 1 = 0) (h_a_9_13 : ar S 9 13 = 0) (h_a_9_23 : ar S 9 23 = 0) (h_a_9_33 : ar S 9 33 = 0) (h_a_9_15 : ar S 9 15 = 0) (h_a_9_25 : ar S 9 25 = 0) (h_a_9_35 : ar S 9 35 = 0) (h_a_9_2 : ar S 9 2 = 0) (h_a_9_16 : ar S 9 16 = 0) (h_a_9_26 : ar S 9 26 = 0) (h_a_9_36 : ar S 9 36 = 0) (h_a_9_17 : ar S 9 17 = 0) (h_a_9_27 : ar S 9 27 = 0) (h_a_9_37 : ar S 9 37 = 0) (hr_p0 : 1 ≤ p0.toInt ∧ p0.toInt ≤ 3) : Ct l D cy T0 tB tE yX11_gain cX11_gain 7 (some .int) 5 117 0 0 (cw cy tE a rw S) [.ref (a 0), .int 0, .int p0, .int 0, .int 1] (QI D (U := GS) (fun r u => 0 = r ∧ (su (si (su (su (sv (sa (si (si (si S 24 1) 19 p0) 21 7) 13 (fil 1024 0 (ar (si (si (si S 24 1) 19 p0) 21 7) 13))) 2 0 4128768) 11 0 (-1)) 12 0 (-1)) 25 1) 13 978 1) = u) (cw cy tE a rw)) := by
  refine Ct.ofZ RX11 "gain" [(0, .ref (a 0)), (1, .int 0), (2, .int p0), (3, .int 0), (4, .int 1)] rfl rfl rfl rfl (Nat.le_of_ble_eq_true rfl) ?_
  intro p e R s m args below meth c A b
  refine z_iload_n b dX11_gain_0 rfl rfl ?_
  refine z_calli b (z_runS (As := [.int 0]) (st := []) b (c_X11_isPerson_3 S ) cf_X11_isPerson wm_X11_69 ws_X11_isPerson dX11_gain_1 rfl (Nat.le_of_ble_eq_true rfl) ⟨by decide, by decide, by decide, by decide⟩) (fun r12073 u12074 h12072 => ?_)
  obtain ⟨rfl, rfl⟩ := h12072
  refine z_if_eq_f (tgt := 26) b dX11_gain_4 (by decide) (by decide) ?_
  refine z_iload_n b dX11_gain_7 rfl rfl ?_
  refine z_calli b (z_runS (As := [.int p0]) (st := []) b (c_X11_areLaws_3 S p0 ⟨by omega, by omega⟩) cf_X11_areLaws wm_X11_181 ws_X11_areLaws dX11_gain_8 rfl (Nat.le_of_ble_eq_true rfl) ⟨by decide, by decide, by decide, by decide⟩) (fun r12076 u12077 h12075 => ?_)
  obtain ⟨rfl, rfl⟩ := h12075
  refine z_if_eq_f (tgt := 26) b dX11_gain_11 (by decide) (by decide) ?_
  refine z_iload_n b dX11_gain_14 rfl rfl ?_
  refine z_calli b (z_runS (As := [.int 0]) (st := []) b (c_X11_isDepth_2 S ) cf_X11_isDepth wm_X11_203 ws_X11_isDepth dX11_gain_15 rfl (Nat.le_of_ble_eq_true rfl) ⟨by decide, by decide, by decide, by decide⟩) (fun r12079 u12080 h12078 => ?_)
  obtain ⟨rfl, rfl⟩ := h12078
  refine z_if_eq_f (tgt := 26) b dX11_gain_18 (by decide) (by decide) ?_
  refine z_iload b dX11_gain_21 rfl ?_
  refine z_if_ge_t (tgt := 29) b dX11_gain_23 (by decide) (by decide) ?_
  refine z_aload_n b dX11_gain_29 rfl rfl ?_
  refine z_get (q0 := 0) (k9 := 6) (v := .ref (a 25)) b (cw_0 cy tE a rw S) rfl in_X11 (by decide) wf_X11_52 rfl dX11_gain_30 ?_
  refine z_iload_n b dX11_gain_33 rfl rfl ?_
  refine z_iload_n b dX11_gain_34 rfl rfl ?_
  refine z_bipush (v := 7) b dX11_gain_35 (by decide) ?_
  refine z_iconst (v := 0) b dX11_gain_37 (by decide) ?_
  refine z_callv b (z_runV (q0 := 25) (As := [.int p0, .int 0, .int 7, .int 0]) (st := []) b (c_X8_begin S p0 h_i_19 h_i_24 h_i_20 h_i_22 h_i_18 h_i_25 h_i_23 h_i_26 h_a_4_50 h_a_4_40 h_a_4_41 h_a_4_42 h_a_4_0 h_a_4_11 h_a_4_21 h_a_4_31 h_a_4_12 h_a_4_22 h_a_4_32 h_a_4_1 h_a_4_13 h_a_4_23 h_a_4_33 h_a_4_15 h_a_4_25 h_a_4_35 h_a_4_2 h_a_4_16 h_a_4_26 h_a_4_36 h_a_4_17 h_a_4_27 h_a_4_37 h_a_10_0 ⟨by omega, by omega⟩) cf_X8_begin (cw_25 cy tE a rw S) rfl wm_X11_206 wi_X8_begin ws_X8_begin dX11_gain_38 rfl (Nat.le_of_ble_eq_true rfl) ⟨by decide, by decide, by decide, by decide⟩) (fun u12083 h12081 => ?_)
  obtain rfl := h12081
  refine z_aload_n b dX11_gain_41 rfl rfl ?_
  refine z_get (q0 := 0) (k9 := 6) (v := .ref (a 25)) b (cw_0 cy tE a rw (su (si (su (su (sv (sa (si (si (si S 24 1) 19 p0) 21 7) 13 (fil 1024 0 (ar (si (si (si S 24 1) 19 p0) 21 7) 13))) 2 0 4128768) 11 0 (-1)) 12 0 (-1)) 25 1) 13 978 1)) rfl in_X11 (by decide) wf_X11_52 rfl dX11_gain_42 ?_
  refine z_callv b (z_runV (q0 := 25) (As := []) (st := []) b (c_X8_finish (su (si (su (su (sv (sa (si (si (si S 24 1) 19 p0) 21 7) 13 (fil 1024 0 (ar (si (si (si S 24 1) 19 p0) 21 7) 13))) 2 0 4128768) 11 0 (-1)) 12 0 (-1)) 25 1) 13 978 1) h_i_26 h_i_23 rfl h_a_10_0 h_i_20) cf_X8_finish (cw_25 cy tE a rw (su (si (su (su (sv (sa (si (si (si S 24 1) 19 p0) 21 7) 13 (fil 1024 0 (ar (si (si (si S 24 1) 19 p0) 21 7) 13))) 2 0 4128768) 11 0 (-1)) 12 0 (-1)) 25 1) 13 978 1)) rfl wm_X11_232 wi_X8_finish ws_X8_finish dX11_gain_45 rfl (Nat.le_of_ble_eq_true rfl) ⟨by decide, by decide, by decide, by decide⟩) (fun u12086 h12084 => ?_)
  obtain rfl := h12084
  refine z_aload_n b dX11_gain_48 rfl rfl ?_
  refine z_get (q0 := 0) (k9 := 6) (v := .ref (a 25)) b (cw_0 cy tE a rw (su (si (su (su (sv (sa (si (si (si S 24 1) 19 p0) 21 7) 13 (fil 1024 0 (ar (si (si (si S 24 1) 19 p0) 21 7) 13))) 2 0 4128768) 11 0 (-1)) 12 0 (-1)) 25 1) 13 978 1)) rfl in_X11 (by decide) wf_X11_52 rfl dX11_gain_49 ?_
  refine z_get (q0 := 25) (k9 := 18) (v := .int (fi (su (si (su (su (sv (sa (si (si (si S 24 1) 19 p0) 21 7) 13 (fil 1024 0 (ar (si (si (si S 24 1) 19 p0) 21 7) 13))) 2 0 4128768) 11 0 (-1)) 12 0 (-1)) 25 1) 13 978 1) 26)) b (cw_25 cy tE a rw (su (si (su (su (sv (sa (si (si (si S 24 1) 19 p0) 21 7) 13 (fil 1024 0 (ar (si (si (si S 24 1) 19 p0) 21 7) 13))) 2 0 4128768) 11 0 (-1)) 12 0 (-1)) 25 1) 13 978 1)) rfl in_X8 (by decide) wf_X11_214 rfl dX11_gain_52 ?_
  refine z_eqi h_i_26 ?_
  refine z_if_eq_t (tgt := 61) b dX11_gain_55 (by decide) (by decide) ?_
  refine z_aload_n b dX11_gain_61 rfl rfl ?_
  refine z_get (q0 := 0) (k9 := 6) (v := .ref (a 25)) b (cw_0 cy tE a rw (su (si (su (su (sv (sa (si (si (si S 24 1) 19 p0) 21 7) 13 (fil 1024 0 (ar (si (si (si S 24 1) 19 p0) 21 7) 13))) 2 0 4128768) 11 0 (-1)) 12 0 (-1)) 25 1) 13 978 1)) rfl in_X11 (by decide) wf_X11_52 rfl dX11_gain_62 ?_
  refine z_iload_n b dX11_gain_65 rfl rfl ?_
  refine z_calli b (z_runV (q0 := 25) (As := [.int 0]) (st := []) b (c_X8_richest (su (si (su (su (sv (sa (si (si (si S 24 1) 19 p0) 21 7) 13 (fil 1024 0 (ar (si (si (si S 24 1) 19 p0) 21 7) 13))) 2 0 4128768) 11 0 (-1)) 12 0 (-1)) 25 1) 13 978 1) rfl rfl h_a_9_50 h_a_9_40 h_a_9_41 h_a_9_42 h_a_9_0 h_a_9_11 h_a_9_21 h_a_9_31 h_a_9_12 h_a_9_22 h_a_9_32 h_a_9_1 h_a_9_13 h_a_9_23 h_a_9_33 h_a_9_15 h_a_9_25 h_a_9_35 h_a_9_2 h_a_9_16 h_a_9_26 h_a_9_36 h_a_9_17 h_a_9_27 h_a_9_37) cf_X8_richest (cw_25 cy tE a rw (su (si (su (su (sv (sa (si (si (si S 24 1) 19 p0) 21 7) 13 (fil 1024 0 (ar (si (si (si S 24 1) 19 p0) 21 7) 13))) 2 0 4128768) 11 0 (-1)) 12 0 (-1)) 25 1) 13 978 1)) rfl wm_X11_238 wi_X8_richest ws_X8_richest dX11_gain_66 rfl (Nat.le_of_ble_eq_true rfl) ⟨by decide, by decide, by decide, by decide⟩) (fun r12088 u12089 h12087 => ?_)
  obtain ⟨rfl, rfl⟩ := h12087
  refine z_istore (lv' := [(5, .int 0), (0, .ref (a 0)), (1, .int 0), (2, .int p0), (3, .int 0), (4, .int 1)]) b dX11_gain_69 (by decide) rfl ?_
  refine z_iload b dX11_gain_71 rfl ?_
  refine z_if_ne_t (tgt := 87) b dX11_gain_73 (by decide) (by decide) ?_
  refine z_iload b dX11_gain_87 rfl ?_
  refine z_iconst (v := 1) b dX11_gain_89 (by decide) ?_
  refine z_icmp_ne_f (tgt := 103) b dX11_gain_90 (by decide) (by decide) ?_
  refine z_aload_n b dX11_gain_93 rfl rfl ?_
  refine z_get (q0 := 0) (k9 := 6) (v := .ref (a 25)) b (cw_0 cy tE a rw (su (si (su (su (sv (sa (si (si (si S 24 1) 19 p0) 21 7) 13 (fil 1024 0 (ar (si (si (si S 24 1) 19 p0) 21 7) 13))) 2 0 4128768) 11 0 (-1)) 12 0 (-1)) 25 1) 13 978 1)) rfl in_X11 (by decide) wf_X11_52 rfl dX11_gain_94 ?_
  refine z_iload b dX11_gain_97 rfl ?_
  refine z_calli b (z_runV (q0 := 25) (As := [.int 0]) (st := []) b (c_X8_acts (su (si (su (su (sv (sa (si (si (si S 24 1) 19 p0) 21 7) 13 (fil 1024 0 (ar (si (si (si S 24 1) 19 p0) 21 7) 13))) 2 0 4128768) 11 0 (-1)) 12 0 (-1)) 25 1) 13 978 1) rfl h_a_10_0) cf_X8_acts (cw_25 cy tE a rw (su (si (su (su (sv (sa (si (si (si S 24 1) 19 p0) 21 7) 13 (fil 1024 0 (ar (si (si (si S 24 1) 19 p0) 21 7) 13))) 2 0 4128768) 11 0 (-1)) 12 0 (-1)) 25 1) 13 978 1)) rfl wm_X11_217 wi_X8_acts ws_X8_acts dX11_gain_99 rfl (Nat.le_of_ble_eq_true rfl) ⟨by decide, by decide, by decide, by decide⟩) (fun r12091 u12092 h12090 => ?_)
  obtain ⟨rfl, rfl⟩ := h12090
  exact z_iret (u := (su (si (su (su (sv (sa (si (si (si S 24 1) 19 p0) 21 7) 13 (fil 1024 0 (ar (si (si (si S 24 1) 19 p0) 21 7) 13))) 2 0 4128768) 11 0 (-1)) 12 0 (-1)) 25 1) 13 978 1)) b rfl dX11_gain_102 ⟨rfl, rfl⟩ rfl (by decide) (by decide)

set_option maxHeartbeats 4000000 in
set_option maxRecDepth 100000 in
theorem c_X12_isIn_60 {l : Launch} {D : va_G} {cy : Nat → ClassId} {T0 tB tE : Nat} {a : Nat → Nat} (S : GS)   : Ct l D cy T0 tB tE yX12_isIn cX12_isIn 3 (some .boolean) 0 0 0 0 (mw cy a S) [.int 1, .int 0, .int 7] (QI D (U := GS) (fun r u => 1 = r ∧ S = u) (mw cy a)) := by
  refine Ct.ofZ RX12 "isIn" [(0, .int 1), (1, .int 0), (2, .int 7)] rfl rfl rfl rfl (Nat.le_of_ble_eq_true rfl) ?_
  intro p e R s m args below meth c A b
  refine z_iload_n b dX12_isIn_0 rfl rfl ?_
  refine z_iload_n b dX12_isIn_1 rfl rfl ?_
  refine z_icmp_lt_f (tgt := 14) b dX12_isIn_2 (by decide) (by decide) ?_
  refine z_iload_n b dX12_isIn_5 rfl rfl ?_
  refine z_iload_n b dX12_isIn_6 rfl rfl ?_
  refine z_icmp_gt_f (tgt := 14) b dX12_isIn_7 (by decide) (by decide) ?_
  refine z_iconst (v := 1) b dX12_isIn_10 (by decide) ?_
  refine z_goto (tgt := 15) b dX12_isIn_11 (by decide) ?_
  exact z_zret (u := S) b rfl (by decide) dX12_isIn_15 ⟨rfl, rfl⟩ rfl (by decide) (by decide)

set_option maxHeartbeats 4000000 in
set_option maxRecDepth 100000 in
theorem c_X12_gain_17 {l : Launch} {D : va_G} {cy : Nat → ClassId} {T0 tB tE : Nat} {a : Nat → Nat} (S : GS) (p0 : Int32) (h_i_21 : fi S 21 = 0) (h_i_23 : fi S 23 = 0) (h_l_0 : fl S 0 = 1649317774848) (h_a_29_992 : ar S 29 992 = (-1)) (h_a_28_0 : ar S 28 0 = 0) (h_a_4_7 : ar S 4 7 = 0) (h_a_1_7 : ar S 1 7 = 0) (h_a_4_6 : ar S 4 6 = 0) (h_a_1_6 : ar S 1 6 = 0) (h_a_3_6 : ar S 3 6 = 0) (h_a_3_2 : ar S 3 2 = 0) (h_a_2_2 : ar S 2 2 = 3) (h_a_0_2 : ar S 0 2 = 0) (h_a_4_3 : ar S 4 3 = 0) (h_a_1_3 : ar S 1 3 = 0) (h_a_4_5 : ar S 4 5 = 0) (h_a_1_5 : ar S 1 5 = 0) (h_a_3_5 : ar S 3 5 = 0) (h_a_3_7 : ar S 3 7 = 0) (h_a_2_1 : ar S 2 1 = 3) (h_a_0_1 : ar S 0 1 = 0) (h_a_4_2 : ar S 4 2 = 0) (h_a_1_2 : ar S 1 2 = 0) (h_a_4_1 : ar S 4 1 = 0) (h_a_1_1 : ar S 1 1 = 0) (h_a_3_1 : ar S 3 1 = 0) (h_a_3_3 : ar S 3 3 = 0) (h_a_2_0 : ar S 2 0 = 3) (h_a_0_0 : ar S 0 0 = 0) (h_i_0 : fi S 0 = 0) (hr_p0 : 1 ≤ p0.toInt ∧ p0.toInt ≤ 3) : Ct l D cy T0 tB tE yX12_gain cX12_gain 9 (some .int) 3 74 0 0 (mw cy a S) [.ref (a 0), .int 0, .int p0, .int 0, .int 1] (QI D (U := GS) (fun r u => 0 = r ∧ (si (su (su (sv (su (su (si S 22 (-1)) 29 992 0) 30 0 992) 0 0 1649317774848) 26 0 (-1)) 27 0 (-1)) 21 1) = u) (mw cy a)) := by
  refine Ct.ofZ RX12 "gain" [(0, .ref (a 0)), (1, .int 0), (2, .int p0), (3, .int 0), (4, .int 1)] rfl rfl rfl rfl (Nat.le_of_ble_eq_true rfl) ?_
  intro p e R s m args below meth c A b
  refine z_iload_n b dX12_gain_0 rfl rfl ?_
  refine z_calli b (z_runS (As := [.int 0]) (st := []) b (c_X12_isOne_3 S ) cf_X12_isOne wm_X12_170 ws_X12_isOne dX12_gain_1 rfl (Nat.le_of_ble_eq_true rfl) ⟨by decide, by decide, by decide, by decide⟩) (fun r12094 u12095 h12093 => ?_)
  obtain ⟨rfl, rfl⟩ := h12093
  refine z_if_eq_f (tgt := 27) b dX12_gain_4 (by decide) (by decide) ?_
  refine z_aload_n b dX12_gain_7 rfl rfl ?_
  refine z_iload_n b dX12_gain_8 rfl rfl ?_
  refine z_iload_n b dX12_gain_9 rfl rfl ?_
  refine z_calli b (z_runV (q0 := 0) (As := [.int p0, .int 0]) (st := []) b (c_X12_canSearch_4 S p0 ⟨by omega, by omega⟩) cf_X12_canSearch (mw_0 cy a S) rfl wm_X12_433 wi_X12_canSearch ws_X12_canSearch dX12_gain_10 rfl (Nat.le_of_ble_eq_true rfl) ⟨by decide, by decide, by decide, by decide⟩) (fun r12097 u12098 h12096 => ?_)
  obtain ⟨rfl, rfl⟩ := h12096
  refine z_if_eq_f (tgt := 27) b dX12_gain_13 (by decide) (by decide) ?_
  refine z_iload b dX12_gain_16 rfl ?_
  refine z_iconst (v := 0) b dX12_gain_18 (by decide) ?_
  refine z_bipush (v := 7) b dX12_gain_19 (by decide) ?_
  refine z_calli b (z_runS (As := [.int 1, .int 0, .int 7]) (st := []) b (c_X12_isIn_60 S ) cf_X12_isIn wm_X12_1 ws_X12_isIn dX12_gain_21 rfl (Nat.le_of_ble_eq_true rfl) ⟨by decide, by decide, by decide, by decide⟩) (fun r12100 u12101 h12099 => ?_)
  obtain ⟨rfl, rfl⟩ := h12099
  refine z_if_ne_t (tgt := 30) b dX12_gain_24 (by decide) (by decide) ?_
  refine z_aload_n b dX12_gain_30 rfl rfl ?_
  refine z_iconst (v := (-1)) b dX12_gain_31 (by decide) ?_
  refine z_iload_n b dX12_gain_32 rfl rfl ?_
  refine z_iload_n b dX12_gain_33 rfl rfl ?_
  refine z_bipush (v := 7) b dX12_gain_34 (by decide) ?_
  refine z_iconst (v := 0) b dX12_gain_36 (by decide) ?_
  refine z_callv b (z_runV (q0 := 0) (As := [.int (-1), .int p0, .int 0, .int 7, .int 0]) (st := []) b (c_X12_searches S p0 h_i_21 h_i_23 h_l_0 h_a_29_992 h_a_28_0 ⟨by omega, by omega⟩) cf_X12_searches (mw_0 cy a S) rfl wm_X12_436 wi_X12_searches ws_X12_searches dX12_gain_37 rfl (Nat.le_of_ble_eq_true rfl) ⟨by decide, by decide, by decide, by decide⟩) (fun u12104 h12102 => ?_)
  obtain rfl := h12102
  refine z_aload_n b dX12_gain_40 rfl rfl ?_
  refine z_get (q0 := 0) (k9 := 57) (v := .int (fi (si (su (su (sv (su (su (si S 22 (-1)) 29 992 0) 30 0 992) 0 0 1649317774848) 26 0 (-1)) 27 0 (-1)) 21 1) 23)) b (mw_0 cy a (si (su (su (sv (su (su (si S 22 (-1)) 29 992 0) 30 0 992) 0 0 1649317774848) 26 0 (-1)) 27 0 (-1)) 21 1)) rfl in_X12 (by decide) wf_X12_408 rfl dX12_gain_41 ?_
  refine z_eqi h_i_23 ?_
  refine z_if_eq_t (tgt := 50) b dX12_gain_44 (by decide) (by decide) ?_
  refine z_iconst (v := (-1)) b dX12_gain_50 (by decide) ?_
  refine z_istore (lv' := [(5, .int (-1)), (0, .ref (a 0)), (1, .int 0), (2, .int p0), (3, .int 0), (4, .int 1)]) b dX12_gain_51 (by decide) rfl ?_
  refine z_iconst (v := 0) b dX12_gain_53 (by decide) ?_
  refine z_istore (lv' := [(6, .int 0), (5, .int (-1)), (0, .ref (a 0)), (1, .int 0), (2, .int p0), (3, .int 0), (4, .int 1)]) b dX12_gain_54 (by decide) rfl ?_
  refine z_iconst (v := 0) b dX12_gain_56 (by decide) ?_
  refine z_istore (lv' := [(7, .int 0), (6, .int 0), (5, .int (-1)), (0, .ref (a 0)), (1, .int 0), (2, .int p0), (3, .int 0), (4, .int 1)]) b dX12_gain_57 (by decide) rfl ?_
  refine z_iload b dX12_gain_59 rfl ?_
  refine z_aload_n b dX12_gain_61 rfl rfl ?_
  refine z_get (q0 := 0) (k9 := 55) (v := .int 1) b (mw_0 cy a (si (su (su (sv (su (su (si S 22 (-1)) 29 992 0) 30 0 992) 0 0 1649317774848) 26 0 (-1)) 27 0 (-1)) 21 1)) rfl in_X12 (by decide) wf_X12_405 rfl dX12_gain_62 ?_
  refine z_icmp_ge_f (tgt := 147) b dX12_gain_65 (by decide) (by decide) ?_
  refine z_aload_n b dX12_gain_68 rfl rfl ?_
  refine z_aload_n b dX12_gain_69 rfl rfl ?_
  refine z_get (q0 := 0) (k9 := 49) (v := .ref (a 27)) b (mw_0 cy a (si (su (su (sv (su (su (si S 22 (-1)) 29 992 0) 30 0 992) 0 0 1649317774848) 26 0 (-1)) 27 0 (-1)) 21 1)) rfl in_X12 (by decide) wf_X12_97 rfl dX12_gain_70 ?_
  refine z_iload b dX12_gain_73 rfl ?_
  refine y_lald (q0 := 27) (j := 0) (v := 1649317774848) b (mw_27 cy a (si (su (su (sv (su (su (si S 22 (-1)) 29 992 0) 30 0 992) 0 0 1649317774848) 26 0 (-1)) 27 0 (-1)) 21 1)) (by decide) rfl dX12_gain_75 ?_
  refine z_callv b (z_runV (q0 := 0) (As := [.long 1649317774848]) (st := []) b (c_X12_takes (si (su (su (sv (su (su (si S 22 (-1)) 29 992 0) 30 0 992) 0 0 1649317774848) 26 0 (-1)) 27 0 (-1)) 21 1) h_a_4_7 h_a_1_7 h_a_4_6 h_a_1_6 h_a_3_6 h_a_3_2 h_a_2_2 h_a_0_2 h_a_4_3 h_a_1_3 h_a_4_5 h_a_1_5 h_a_3_5 h_a_3_7 h_a_2_1 h_a_0_1 h_a_4_2 h_a_1_2 h_a_4_1 h_a_1_1 h_a_3_1 h_a_3_3 h_a_2_0 h_a_0_0 h_i_0) cf_X12_takes (mw_0 cy a (si (su (su (sv (su (su (si S 22 (-1)) 29 992 0) 30 0 992) 0 0 1649317774848) 26 0 (-1)) 27 0 (-1)) 21 1)) rfl wm_X12_174 wi_X12_takes ws_X12_takes dX12_gain_76 rfl (Nat.le_of_ble_eq_true rfl) ⟨by decide, by decide, by decide, by decide⟩) (fun u12107 h12105 => ?_)
  obtain rfl := h12105
  refine z_aload_n b dX12_gain_79 rfl rfl ?_
  refine z_get (q0 := 0) (k9 := 0) (v := .ref (a 1)) b (mw_0 cy a (si (su (su (sv (su (su (si S 22 (-1)) 29 992 0) 30 0 992) 0 0 1649317774848) 26 0 (-1)) 27 0 (-1)) 21 1)) rfl in_X12 (by decide) wf_X12_13 rfl dX12_gain_80 ?_
  refine z_iload_n b dX12_gain_83 rfl rfl ?_
  refine y_iald (q0 := 1) (j := 0) (v := (ar (si (su (su (sv (su (su (si S 22 (-1)) 29 992 0) 30 0 992) 0 0 1649317774848) 26 0 (-1)) 27 0 (-1)) 21 1) 0 0)) b (mw_1 cy a (si (su (su (sv (su (su (si S 22 (-1)) 29 992 0) 30 0 992) 0 0 1649317774848) 26 0 (-1)) 27 0 (-1)) 21 1)) (by decide) rfl dX12_gain_84 ?_
  refine z_eqi h_a_0_0 ?_
  refine z_aload_n b dX12_gain_85 rfl rfl ?_
  refine z_get (q0 := 0) (k9 := 1) (v := .ref (a 2)) b (mw_0 cy a (si (su (su (sv (su (su (si S 22 (-1)) 29 992 0) 30 0 992) 0 0 1649317774848) 26 0 (-1)) 27 0 (-1)) 21 1)) rfl in_X12 (by decide) wf_X12_17 rfl dX12_gain_86 ?_
  refine z_iconst (v := 3) b dX12_gain_89 (by decide) ?_
  refine z_iload_n b dX12_gain_90 rfl rfl ?_
  refine z_imul (v := 0) b dX12_gain_91 (by decide) ?_
  refine z_iload_n b dX12_gain_92 rfl rfl ?_
  refine z_iconst (v := 0) b dX12_gain_93 (by decide) ?_
  refine z_calli b (z_runS (As := [.int 0, .int 0]) (st := [.int 0, .ref (a 2), .int 0]) b (c_X12_other_6 (si (su (su (sv (su (su (si S 22 (-1)) 29 992 0) 30 0 992) 0 0 1649317774848) 26 0 (-1)) 27 0 (-1)) 21 1) ) cf_X12_other wm_X12_160 ws_X12_other dX12_gain_94 rfl (Nat.le_of_ble_eq_true rfl) ⟨by decide, by decide, by decide, by decide⟩) (fun r12109 u12110 h12108 => ?_)
  obtain ⟨rfl, rfl⟩ := h12108
  refine z_iadd (v := 1) b dX12_gain_97 (by decide) ?_
  refine y_iald (q0 := 2) (j := 1) (v := (ar (si (su (su (sv (su (su (si S 22 (-1)) 29 992 0) 30 0 992) 0 0 1649317774848) 26 0 (-1)) 27 0 (-1)) 21 1) 1 1)) b (mw_2 cy a (si (su (su (sv (su (su (si S 22 (-1)) 29 992 0) 30 0 992) 0 0 1649317774848) 26 0 (-1)) 27 0 (-1)) 21 1)) (by decide) rfl dX12_gain_98 ?_
  refine z_eqi h_a_1_1 ?_
  refine z_isub (v := 0) b dX12_gain_99 (by decide) ?_
  refine z_aload_n b dX12_gain_100 rfl rfl ?_
  refine z_get (q0 := 0) (k9 := 1) (v := .ref (a 2)) b (mw_0 cy a (si (su (su (sv (su (su (si S 22 (-1)) 29 992 0) 30 0 992) 0 0 1649317774848) 26 0 (-1)) 27 0 (-1)) 21 1)) rfl in_X12 (by decide) wf_X12_17 rfl dX12_gain_101 ?_
  refine z_iconst (v := 3) b dX12_gain_104 (by decide) ?_
  refine z_iload_n b dX12_gain_105 rfl rfl ?_
  refine z_imul (v := 0) b dX12_gain_106 (by decide) ?_
  refine z_iload_n b dX12_gain_107 rfl rfl ?_
  refine z_iconst (v := 1) b dX12_gain_108 (by decide) ?_
  refine z_calli b (z_runS (As := [.int 0, .int 1]) (st := [.int 0, .ref (a 2), .int 0]) b (c_X12_other_5 (si (su (su (sv (su (su (si S 22 (-1)) 29 992 0) 30 0 992) 0 0 1649317774848) 26 0 (-1)) 27 0 (-1)) 21 1) ) cf_X12_other wm_X12_160 ws_X12_other dX12_gain_109 rfl (Nat.le_of_ble_eq_true rfl) ⟨by decide, by decide, by decide, by decide⟩) (fun r12112 u12113 h12111 => ?_)
  obtain ⟨rfl, rfl⟩ := h12111
  refine z_iadd (v := 2) b dX12_gain_112 (by decide) ?_
  refine y_iald (q0 := 2) (j := 2) (v := (ar (si (su (su (sv (su (su (si S 22 (-1)) 29 992 0) 30 0 992) 0 0 1649317774848) 26 0 (-1)) 27 0 (-1)) 21 1) 1 2)) b (mw_2 cy a (si (su (su (sv (su (su (si S 22 (-1)) 29 992 0) 30 0 992) 0 0 1649317774848) 26 0 (-1)) 27 0 (-1)) 21 1)) (by decide) rfl dX12_gain_113 ?_
  refine z_eqi h_a_1_2 ?_
  refine z_isub (v := 0) b dX12_gain_114 (by decide) ?_
  refine z_istore (lv' := [(8, .int 0), (7, .int 0), (6, .int 0), (5, .int (-1)), (0, .ref (a 0)), (1, .int 0), (2, .int p0), (3, .int 0), (4, .int 1)]) b dX12_gain_115 (by decide) rfl ?_
  refine z_iload b dX12_gain_117 rfl ?_
  refine z_iconst (v := (-1)) b dX12_gain_119 (by decide) ?_
  refine z_icmp_eq_t (tgt := 133) b dX12_gain_120 (by decide) (by decide) ?_
  refine z_iload b dX12_gain_133 rfl ?_
  refine z_istore (lv' := [(5, .int 0), (8, .int 0), (7, .int 0), (6, .int 0), (0, .ref (a 0)), (1, .int 0), (2, .int p0), (3, .int 0), (4, .int 1)]) b dX12_gain_135 (by decide) rfl ?_
  refine z_iload b dX12_gain_137 rfl ?_
  refine z_istore (lv' := [(6, .int 0), (5, .int 0), (8, .int 0), (7, .int 0), (0, .ref (a 0)), (1, .int 0), (2, .int p0), (3, .int 0), (4, .int 1)]) b dX12_gain_139 (by decide) rfl ?_
  refine z_iinc (k9 := 3) (v := 1) (lv' := [(7, .int 1), (6, .int 0), (5, .int 0), (8, .int 0), (0, .ref (a 0)), (1, .int 0), (2, .int p0), (3, .int 0), (4, .int 1)]) b dX12_gain_141 rfl (by decide) (by decide) rfl ?_
  refine z_goto (tgt := 59) b dX12_gain_144 (by decide) ?_
  refine z_iload b dX12_gain_59 rfl ?_
  refine z_aload_n b dX12_gain_61 rfl rfl ?_
  refine z_get (q0 := 0) (k9 := 55) (v := .int 1) b (mw_0 cy a (si (su (su (sv (su (su (si S 22 (-1)) 29 992 0) 30 0 992) 0 0 1649317774848) 26 0 (-1)) 27 0 (-1)) 21 1)) rfl in_X12 (by decide) wf_X12_405 rfl dX12_gain_62 ?_
  refine z_icmp_ge_t (tgt := 147) b dX12_gain_65 (by decide) (by decide) ?_
  refine z_iload b dX12_gain_147 rfl ?_
  refine z_iconst (v := 2) b dX12_gain_149 (by decide) ?_
  refine z_icmp_ge_f (tgt := 171) b dX12_gain_150 (by decide) (by decide) ?_
  refine z_iload b dX12_gain_153 rfl ?_
  refine z_if_ne_t (tgt := 163) b dX12_gain_155 (by decide) (by decide) ?_
  refine z_aload_n b dX12_gain_163 rfl rfl ?_
  refine z_get (q0 := 0) (k9 := 52) (v := .ref (a 30)) b (mw_0 cy a (si (su (su (sv (su (su (si S 22 (-1)) 29 992 0) 30 0 992) 0 0 1649317774848) 26 0 (-1)) 27 0 (-1)) 21 1)) rfl in_X12 (by decide) wf_X12_107 rfl dX12_gain_164 ?_
  refine z_iload b dX12_gain_167 rfl ?_
  refine y_iald (q0 := 30) (j := 0) (v := (ar (si (su (su (sv (su (su (si S 22 (-1)) 29 992 0) 30 0 992) 0 0 1649317774848) 26 0 (-1)) 27 0 (-1)) 21 1) 28 0)) b (mw_30 cy a (si (su (su (sv (su (su (si S 22 (-1)) 29 992 0) 30 0 992) 0 0 1649317774848) 26 0 (-1)) 27 0 (-1)) 21 1)) (by decide) rfl dX12_gain_169 ?_
  refine z_eqi h_a_28_0 ?_
  exact z_iret (u := (si (su (su (sv (su (su (si S 22 (-1)) 29 992 0) 30 0 992) 0 0 1649317774848) 26 0 (-1)) 27 0 (-1)) 21 1)) b rfl dX12_gain_170 ⟨rfl, rfl⟩ rfl (by decide) (by decide)

set_option maxHeartbeats 4000000 in
set_option maxRecDepth 100000 in
theorem c_X8_code {l : Launch} {D : va_G} {cy : Nat → ClassId} {T0 tB tE : Nat} {a : Nat → Nat} {rw : Nat → Option Nat} (S : GS) (p0 : Int32) (h_i_25 : fi S 25 = 1) (h_a_10_0 : ar S 10 0 = 0) (hr_p0 : 0 ≤ p0.toInt ∧ p0.toInt ≤ 5) : Ct l D cy T0 tB tE yX8_code cX8_code 5 (some .int) 1 21 0 0 (cw cy tE a rw S) [.ref (a 25), .int 0, .int p0] (QI D (U := GS) (fun r u => (-1) = r ∧ S = u) (cw cy tE a rw)) := by
  refine Ct.ofZ RX8 "code" [(0, .ref (a 25)), (1, .int 0), (2, .int p0)] rfl rfl rfl rfl (Nat.le_of_ble_eq_true rfl) ?_
  intro p e R s m args below meth c A b
  refine z_iload_n b dX8_code_0 rfl rfl ?_
  refine y_if_lt (tgt := 13) (xl := p0.toInt) b rfl dX8_code_1 (by decide) (fun c12136 => ?_) (fun c12136 => ?_)
  · exfalso; omega
  · refine z_iload_n b dX8_code_4 rfl rfl ?_
    refine z_aload_n b dX8_code_5 rfl rfl ?_
    refine z_iload_n b dX8_code_6 rfl rfl ?_
    refine z_calli b (z_runV (q0 := 25) (As := [.int 0]) (st := [.int p0]) b (c_X8_acts S h_i_25 h_a_10_0) cf_X8_acts (cw_25 cy tE a rw S) rfl wm_X8_117 wi_X8_acts ws_X8_acts dX8_code_7 rfl (Nat.le_of_ble_eq_true rfl) ⟨by decide, by decide, by decide, by decide⟩) (fun r12138 u12139 h12137 => ?_)
    obtain ⟨rfl, rfl⟩ := h12137
    refine y_icmp_lt (tgt := 15) (xl := p0.toInt) (yl := 0) b rfl (by decide) dX8_code_10 (by decide) (fun c12140 => ?_) (fun c12140 => ?_)
    · exfalso; omega
    · refine z_iconst (v := (-1)) b dX8_code_13 (by decide) ?_
      exact z_iret (u := S) b rfl dX8_code_14 ⟨rfl, rfl⟩ rfl (by decide) (by decide)

set_option maxHeartbeats 4000000 in
set_option maxRecDepth 100000 in
theorem c_X11_gain_18 {l : Launch} {D : va_G} {cy : Nat → ClassId} {T0 tB tE : Nat} {a : Nat → Nat} {rw : Nat → Option Nat} (S : GS) (p0 : Int32) (p1 : Int32) (h_i_19 : fi S 19 = 0) (h_i_24 : fi S 24 = 0) (h_i_20 : fi S 20 = 0) (h_i_22 : fi S 22 = 0) (h_i_18 : fi S 18 = 0) (h_i_25 : fi S 25 = 0) (h_i_23 : fi S 23 = 0) (h_i_26 : fi S 26 = 0) (h_a_4_50 : ar S 4 50 = 0) (h_a_4_40 : ar S 4 40 = 3) (h_a_4_41 : ar S 4 41 = 3) (h_a_4_42 : ar S 4 42 = 3) (h_a_4_0 : ar S 4 0 = 0) (h_a_4_11 : ar S 4 11 = 0) (h_a_4_21 : ar S 4 21 = 0) (h_a_4_31 : ar S 4 31 = 0) (h_a_4_12 : ar S 4 12 = 0) (h_a_4_22 : ar S 4 22 = 0) (h_a_4_32 : ar S 4 32 = 0) (h_a_4_1 : ar S 4 1 = 0) (h_a_4_13 : ar S 4 13 = 0) (h_a_4_23 : ar S 4 23 = 0) (h_a_4_33 : ar S 4 33 = 0) (h_a_4_15 : ar S 4 15 = 0) (h_a_4_25 : ar S 4 25 = 0) (h_a_4_35 : ar S 4 35 = 0) (h_a_4_2 : ar S 4 2 = 0) (h_a_4_16 : ar S 4 16 = 0) (h_a_4_26 : ar S 4 26 = 0) (h_a_4_36 : ar S 4 36 = 0) (h_a_4_17 : ar S 4 17 = 0) (h_a_4_27 : ar S 4 27 = 0) (h_a_4_37 : ar S 4 37 = 0) (h_a_10_0 : ar S 10 0 = 0) (h_a_9_50 : ar S 9 50 = 0) (h_a_9_40 : ar S 9 40 = 3) (h_a_9_41 : ar S 9 41 = 3) (h_a_9_42 : ar S 9 42 = 3) (h_a_9_0 : ar S 9 0 = 0) (h_a_9_11 : ar S 9 11 = 0) (h_a_9_21 : ar S 9 21 = 0) (h_a_9_31 : ar S 9 31 = 0) (h_a_9_12 : ar S 9 12 = 0) (h_a_9_22 : ar S 9 22 = 0) (h_a_9_32 : ar S 9 32 = 0) (h_a_9_1 : ar S 9 1 = 0) (h_a_9_13 : ar S 9 13 = 0) (h_a_9_23 : ar S 9 23 = 0) (h_a_9_33 : ar S 9 33 = 0) (h_a_9_15 : ar S 9 15 = 0) (h_a_9_25 : ar S 9 25 = 0) (h_a_9_35 : ar S 9 35 = 0) (h_a_9_2 : ar S 9 2 = 0) (h_a_9_16 : ar S 9 16 = 0) (h_a_9_26 : ar S 9 26 = 0) (h_a_9_36 : ar S 9 36 = 0) (h_a_9_17 : ar S 9 17 = 0) (h_a_9_27 : ar S 9 27 = 0) (h_a_9_37 : ar S 9 37 = 0) (hr_p0 : 1 ≤ p0.toInt ∧ p0.toInt ≤ 3) (hr_p1 : 2 ≤ p1.toInt ∧ p1.toInt ≤ 7) : Ct l D cy T0 tB tE yX11_gain cX11_gain 7 (some .int) 5 117 0 0 (cw cy tE a rw S) [.ref (a 0), .int 0, .int p0, .int 0, .int p1] (QI D (U := GS) (fun r u => (-100) = r ∧ (su (si (su (su (sv (sa (si (si (si S 24 1) 19 p0) 21 7) 13 (fil 1024 0 (ar (si (si (si S 24 1) 19 p0) 21 7) 13))) 2 0 4128768) 11 0 (-1)) 12 0 (-1)) 25 1) 13 978 1) = u) (cw cy tE a rw)) := by
  refine Ct.ofZ RX11 "gain" [(0, .ref (a 0)), (1, .int 0), (2, .int p0), (3, .int 0), (4, .int p1)] rfl rfl rfl rfl (Nat.le_of_ble_eq_true rfl) ?_
  intro p e R s m args below meth c A b
  refine z_iload_n b dX11_gain_0 rfl rfl ?_
  refine z_calli b (z_runS (As := [.int 0]) (st := []) b (c_X11_isPerson_3 S ) cf_X11_isPerson wm_X11_69 ws_X11_isPerson dX11_gain_1 rfl (Nat.le_of_ble_eq_true rfl) ⟨by decide, by decide, by decide, by decide⟩) (fun r12115 u12116 h12114 => ?_)
  obtain ⟨rfl, rfl⟩ := h12114
  refine z_if_eq_f (tgt := 26) b dX11_gain_4 (by decide) (by decide) ?_
  refine z_iload_n b dX11_gain_7 rfl rfl ?_
  refine z_calli b (z_runS (As := [.int p0]) (st := []) b (c_X11_areLaws_3 S p0 ⟨by omega, by omega⟩) cf_X11_areLaws wm_X11_181 ws_X11_areLaws dX11_gain_8 rfl (Nat.le_of_ble_eq_true rfl) ⟨by decide, by decide, by decide, by decide⟩) (fun r12118 u12119 h12117 => ?_)
  obtain ⟨rfl, rfl⟩ := h12117
  refine z_if_eq_f (tgt := 26) b dX11_gain_11 (by decide) (by decide) ?_
  refine z_iload_n b dX11_gain_14 rfl rfl ?_
  refine z_calli b (z_runS (As := [.int 0]) (st := []) b (c_X11_isDepth_2 S ) cf_X11_isDepth wm_X11_203 ws_X11_isDepth dX11_gain_15 rfl (Nat.le_of_ble_eq_true rfl) ⟨by decide, by decide, by decide, by decide⟩) (fun r12121 u12122 h12120 => ?_)
  obtain ⟨rfl, rfl⟩ := h12120
  refine z_if_eq_f (tgt := 26) b dX11_gain_18 (by decide) (by decide) ?_
  refine z_iload b dX11_gain_21 rfl ?_
  refine y_if_ge (tgt := 29) (xl := p1.toInt) b rfl dX11_gain_23 (by decide) (fun c12123 => ?_) (fun c12123 => ?_)
  · refine z_aload_n b dX11_gain_29 rfl rfl ?_
    refine z_get (q0 := 0) (k9 := 6) (v := .ref (a 25)) b (cw_0 cy tE a rw S) rfl in_X11 (by decide) wf_X11_52 rfl dX11_gain_30 ?_
    refine z_iload_n b dX11_gain_33 rfl rfl ?_
    refine z_iload_n b dX11_gain_34 rfl rfl ?_
    refine z_bipush (v := 7) b dX11_gain_35 (by decide) ?_
    refine z_iconst (v := 0) b dX11_gain_37 (by decide) ?_
    refine z_callv b (z_runV (q0 := 25) (As := [.int p0, .int 0, .int 7, .int 0]) (st := []) b (c_X8_begin S p0 h_i_19 h_i_24 h_i_20 h_i_22 h_i_18 h_i_25 h_i_23 h_i_26 h_a_4_50 h_a_4_40 h_a_4_41 h_a_4_42 h_a_4_0 h_a_4_11 h_a_4_21 h_a_4_31 h_a_4_12 h_a_4_22 h_a_4_32 h_a_4_1 h_a_4_13 h_a_4_23 h_a_4_33 h_a_4_15 h_a_4_25 h_a_4_35 h_a_4_2 h_a_4_16 h_a_4_26 h_a_4_36 h_a_4_17 h_a_4_27 h_a_4_37 h_a_10_0 ⟨by omega, by omega⟩) cf_X8_begin (cw_25 cy tE a rw S) rfl wm_X11_206 wi_X8_begin ws_X8_begin dX11_gain_38 rfl (Nat.le_of_ble_eq_true rfl) ⟨by decide, by decide, by decide, by decide⟩) (fun u12126 h12124 => ?_)
    obtain rfl := h12124
    refine z_aload_n b dX11_gain_41 rfl rfl ?_
    refine z_get (q0 := 0) (k9 := 6) (v := .ref (a 25)) b (cw_0 cy tE a rw (su (si (su (su (sv (sa (si (si (si S 24 1) 19 p0) 21 7) 13 (fil 1024 0 (ar (si (si (si S 24 1) 19 p0) 21 7) 13))) 2 0 4128768) 11 0 (-1)) 12 0 (-1)) 25 1) 13 978 1)) rfl in_X11 (by decide) wf_X11_52 rfl dX11_gain_42 ?_
    refine z_callv b (z_runV (q0 := 25) (As := []) (st := []) b (c_X8_finish (su (si (su (su (sv (sa (si (si (si S 24 1) 19 p0) 21 7) 13 (fil 1024 0 (ar (si (si (si S 24 1) 19 p0) 21 7) 13))) 2 0 4128768) 11 0 (-1)) 12 0 (-1)) 25 1) 13 978 1) h_i_26 h_i_23 rfl h_a_10_0 h_i_20) cf_X8_finish (cw_25 cy tE a rw (su (si (su (su (sv (sa (si (si (si S 24 1) 19 p0) 21 7) 13 (fil 1024 0 (ar (si (si (si S 24 1) 19 p0) 21 7) 13))) 2 0 4128768) 11 0 (-1)) 12 0 (-1)) 25 1) 13 978 1)) rfl wm_X11_232 wi_X8_finish ws_X8_finish dX11_gain_45 rfl (Nat.le_of_ble_eq_true rfl) ⟨by decide, by decide, by decide, by decide⟩) (fun u12129 h12127 => ?_)
    obtain rfl := h12127
    refine z_aload_n b dX11_gain_48 rfl rfl ?_
    refine z_get (q0 := 0) (k9 := 6) (v := .ref (a 25)) b (cw_0 cy tE a rw (su (si (su (su (sv (sa (si (si (si S 24 1) 19 p0) 21 7) 13 (fil 1024 0 (ar (si (si (si S 24 1) 19 p0) 21 7) 13))) 2 0 4128768) 11 0 (-1)) 12 0 (-1)) 25 1) 13 978 1)) rfl in_X11 (by decide) wf_X11_52 rfl dX11_gain_49 ?_
    refine z_get (q0 := 25) (k9 := 18) (v := .int (fi (su (si (su (su (sv (sa (si (si (si S 24 1) 19 p0) 21 7) 13 (fil 1024 0 (ar (si (si (si S 24 1) 19 p0) 21 7) 13))) 2 0 4128768) 11 0 (-1)) 12 0 (-1)) 25 1) 13 978 1) 26)) b (cw_25 cy tE a rw (su (si (su (su (sv (sa (si (si (si S 24 1) 19 p0) 21 7) 13 (fil 1024 0 (ar (si (si (si S 24 1) 19 p0) 21 7) 13))) 2 0 4128768) 11 0 (-1)) 12 0 (-1)) 25 1) 13 978 1)) rfl in_X8 (by decide) wf_X11_214 rfl dX11_gain_52 ?_
    refine z_eqi h_i_26 ?_
    refine z_if_eq_t (tgt := 61) b dX11_gain_55 (by decide) (by decide) ?_
    refine z_aload_n b dX11_gain_61 rfl rfl ?_
    refine z_get (q0 := 0) (k9 := 6) (v := .ref (a 25)) b (cw_0 cy tE a rw (su (si (su (su (sv (sa (si (si (si S 24 1) 19 p0) 21 7) 13 (fil 1024 0 (ar (si (si (si S 24 1) 19 p0) 21 7) 13))) 2 0 4128768) 11 0 (-1)) 12 0 (-1)) 25 1) 13 978 1)) rfl in_X11 (by decide) wf_X11_52 rfl dX11_gain_62 ?_
    refine z_iload_n b dX11_gain_65 rfl rfl ?_
    refine z_calli b (z_runV (q0 := 25) (As := [.int 0]) (st := []) b (c_X8_richest (su (si (su (su (sv (sa (si (si (si S 24 1) 19 p0) 21 7) 13 (fil 1024 0 (ar (si (si (si S 24 1) 19 p0) 21 7) 13))) 2 0 4128768) 11 0 (-1)) 12 0 (-1)) 25 1) 13 978 1) rfl rfl h_a_9_50 h_a_9_40 h_a_9_41 h_a_9_42 h_a_9_0 h_a_9_11 h_a_9_21 h_a_9_31 h_a_9_12 h_a_9_22 h_a_9_32 h_a_9_1 h_a_9_13 h_a_9_23 h_a_9_33 h_a_9_15 h_a_9_25 h_a_9_35 h_a_9_2 h_a_9_16 h_a_9_26 h_a_9_36 h_a_9_17 h_a_9_27 h_a_9_37) cf_X8_richest (cw_25 cy tE a rw (su (si (su (su (sv (sa (si (si (si S 24 1) 19 p0) 21 7) 13 (fil 1024 0 (ar (si (si (si S 24 1) 19 p0) 21 7) 13))) 2 0 4128768) 11 0 (-1)) 12 0 (-1)) 25 1) 13 978 1)) rfl wm_X11_238 wi_X8_richest ws_X8_richest dX11_gain_66 rfl (Nat.le_of_ble_eq_true rfl) ⟨by decide, by decide, by decide, by decide⟩) (fun r12131 u12132 h12130 => ?_)
    obtain ⟨rfl, rfl⟩ := h12130
    refine z_istore (lv' := [(5, .int 0), (0, .ref (a 0)), (1, .int 0), (2, .int p0), (3, .int 0), (4, .int p1)]) b dX11_gain_69 (by decide) rfl ?_
    refine z_iload b dX11_gain_71 rfl ?_
    refine y_if_ne (tgt := 87) (xl := p1.toInt) b rfl dX11_gain_73 (by decide) (fun c12133 => ?_) (fun c12133 => ?_)
    · refine z_iload b dX11_gain_87 rfl ?_
      refine z_iconst (v := 1) b dX11_gain_89 (by decide) ?_
      refine y_icmp_ne (tgt := 103) (xl := p1.toInt) (yl := 1) b rfl (by decide) dX11_gain_90 (by decide) (fun c12134 => ?_) (fun c12134 => ?_)
      · refine z_aload_n b dX11_gain_103 rfl rfl ?_
        refine z_get (q0 := 0) (k9 := 6) (v := .ref (a 25)) b (cw_0 cy tE a rw (su (si (su (su (sv (sa (si (si (si S 24 1) 19 p0) 21 7) 13 (fil 1024 0 (ar (si (si (si S 24 1) 19 p0) 21 7) 13))) 2 0 4128768) 11 0 (-1)) 12 0 (-1)) 25 1) 13 978 1)) rfl in_X11 (by decide) wf_X11_52 rfl dX11_gain_104 ?_
        refine z_iload b dX11_gain_107 rfl ?_
        refine z_iload b dX11_gain_109 rfl ?_
        refine z_iconst (v := 2) b dX11_gain_111 (by decide) ?_
        refine z_isub b dX11_gain_112 rfl ?_
        have f12135 : ((p1 - 2) : Int32).toInt = p1.toInt + (-2) := zisub (k := 2) (by decide) (by omega) (by omega)
        refine z_calli b (z_runV (q0 := 25) (As := [.int 0, .int (p1 - 2)]) (st := []) b (c_X8_code (su (si (su (su (sv (sa (si (si (si S 24 1) 19 p0) 21 7) 13 (fil 1024 0 (ar (si (si (si S 24 1) 19 p0) 21 7) 13))) 2 0 4128768) 11 0 (-1)) 12 0 (-1)) 25 1) 13 978 1) (p1 - 2) rfl h_a_10_0 ⟨by omega, by omega⟩) cf_X8_code (cw_25 cy tE a rw (su (si (su (su (sv (sa (si (si (si S 24 1) 19 p0) 21 7) 13 (fil 1024 0 (ar (si (si (si S 24 1) 19 p0) 21 7) 13))) 2 0 4128768) 11 0 (-1)) 12 0 (-1)) 25 1) 13 978 1)) rfl wm_X11_219 wi_X8_code ws_X8_code dX11_gain_113 rfl (Nat.le_of_ble_eq_true rfl) ⟨by decide, by decide, by decide, by decide⟩) (fun r12142 u12143 h12141 => ?_)
        obtain ⟨rfl, rfl⟩ := h12141
        refine z_istore (lv' := [(6, .int (-1)), (5, .int 0), (0, .ref (a 0)), (1, .int 0), (2, .int p0), (3, .int 0), (4, .int p1)]) b dX11_gain_116 (by decide) rfl ?_
        refine z_iload b dX11_gain_118 rfl ?_
        refine z_iconst (v := (-1)) b dX11_gain_120 (by decide) ?_
        refine z_icmp_ne_f (tgt := 129) b dX11_gain_121 (by decide) (by decide) ?_
        refine z_bipush (v := (-100)) b dX11_gain_124 (by decide) ?_
        refine z_goto (tgt := 131) b dX11_gain_126 (by decide) ?_
        exact z_iret (u := (su (si (su (su (sv (sa (si (si (si S 24 1) 19 p0) 21 7) 13 (fil 1024 0 (ar (si (si (si S 24 1) 19 p0) 21 7) 13))) 2 0 4128768) 11 0 (-1)) 12 0 (-1)) 25 1) 13 978 1)) b rfl dX11_gain_131 ⟨rfl, rfl⟩ rfl (by decide) (by decide)
      · exfalso; omega
    · exfalso; omega
  · exfalso; omega

set_option maxHeartbeats 4000000 in
set_option maxRecDepth 100000 in
theorem c_X12_isIn_61 {l : Launch} {D : va_G} {cy : Nat → ClassId} {T0 tB tE : Nat} {a : Nat → Nat} (S : GS) (p0 : Int32)  (hr_p0 : 2 ≤ p0.toInt ∧ p0.toInt ≤ 7) : Ct l D cy T0 tB tE yX12_isIn cX12_isIn 3 (some .boolean) 0 0 0 0 (mw cy a S) [.int p0, .int 0, .int 7] (QI D (U := GS) (fun r u => 1 = r ∧ S = u) (mw cy a)) := by
  refine Ct.ofZ RX12 "isIn" [(0, .int p0), (1, .int 0), (2, .int 7)] rfl rfl rfl rfl (Nat.le_of_ble_eq_true rfl) ?_
  intro p e R s m args below meth c A b
  refine z_iload_n b dX12_isIn_0 rfl rfl ?_
  refine z_iload_n b dX12_isIn_1 rfl rfl ?_
  refine y_icmp_lt (tgt := 14) (xl := p0.toInt) (yl := 0) b rfl (by decide) dX12_isIn_2 (by decide) (fun c12150 => ?_) (fun c12150 => ?_)
  · exfalso; omega
  · refine z_iload_n b dX12_isIn_5 rfl rfl ?_
    refine z_iload_n b dX12_isIn_6 rfl rfl ?_
    refine y_icmp_gt (tgt := 14) (xl := p0.toInt) (yl := 7) b rfl (by decide) dX12_isIn_7 (by decide) (fun c12151 => ?_) (fun c12151 => ?_)
    · exfalso; omega
    · refine z_iconst (v := 1) b dX12_isIn_10 (by decide) ?_
      refine z_goto (tgt := 15) b dX12_isIn_11 (by decide) ?_
      exact z_zret (u := S) b rfl (by decide) dX12_isIn_15 ⟨rfl, rfl⟩ rfl (by decide) (by decide)

set_option maxHeartbeats 4000000 in
set_option maxRecDepth 100000 in
theorem c_X12_gain_18 {l : Launch} {D : va_G} {cy : Nat → ClassId} {T0 tB tE : Nat} {a : Nat → Nat} (S : GS) (p0 : Int32) (p1 : Int32) (h_i_21 : fi S 21 = 0) (h_i_23 : fi S 23 = 0) (h_l_0 : fl S 0 = 1649317774848) (h_a_29_992 : ar S 29 992 = (-1)) (h_a_28_0 : ar S 28 0 = 0) (h_a_4_7 : ar S 4 7 = 0) (h_a_1_7 : ar S 1 7 = 0) (h_a_4_6 : ar S 4 6 = 0) (h_a_1_6 : ar S 1 6 = 0) (h_a_3_6 : ar S 3 6 = 0) (h_a_3_2 : ar S 3 2 = 0) (h_a_2_2 : ar S 2 2 = 3) (h_a_0_2 : ar S 0 2 = 0) (h_a_4_3 : ar S 4 3 = 0) (h_a_1_3 : ar S 1 3 = 0) (h_a_4_5 : ar S 4 5 = 0) (h_a_1_5 : ar S 1 5 = 0) (h_a_3_5 : ar S 3 5 = 0) (h_a_3_7 : ar S 3 7 = 0) (h_a_2_1 : ar S 2 1 = 3) (h_a_0_1 : ar S 0 1 = 0) (h_a_4_2 : ar S 4 2 = 0) (h_a_1_2 : ar S 1 2 = 0) (h_a_4_1 : ar S 4 1 = 0) (h_a_1_1 : ar S 1 1 = 0) (h_a_3_1 : ar S 3 1 = 0) (h_a_3_3 : ar S 3 3 = 0) (h_a_2_0 : ar S 2 0 = 3) (h_a_0_0 : ar S 0 0 = 0) (h_i_0 : fi S 0 = 0) (hr_p0 : 1 ≤ p0.toInt ∧ p0.toInt ≤ 3) (hr_p1 : 2 ≤ p1.toInt ∧ p1.toInt ≤ 7) : Ct l D cy T0 tB tE yX12_gain cX12_gain 9 (some .int) 3 74 0 0 (mw cy a S) [.ref (a 0), .int 0, .int p0, .int 0, .int p1] (QI D (U := GS) (fun r u => (-100) = r ∧ (si (su (su (sv (su (su (si S 22 (-1)) 29 992 0) 30 0 992) 0 0 1649317774848) 26 0 (-1)) 27 0 (-1)) 21 1) = u) (mw cy a)) := by
  refine Ct.ofZ RX12 "gain" [(0, .ref (a 0)), (1, .int 0), (2, .int p0), (3, .int 0), (4, .int p1)] rfl rfl rfl rfl (Nat.le_of_ble_eq_true rfl) ?_
  intro p e R s m args below meth c A b
  refine z_iload_n b dX12_gain_0 rfl rfl ?_
  refine z_calli b (z_runS (As := [.int 0]) (st := []) b (c_X12_isOne_3 S ) cf_X12_isOne wm_X12_170 ws_X12_isOne dX12_gain_1 rfl (Nat.le_of_ble_eq_true rfl) ⟨by decide, by decide, by decide, by decide⟩) (fun r12145 u12146 h12144 => ?_)
  obtain ⟨rfl, rfl⟩ := h12144
  refine z_if_eq_f (tgt := 27) b dX12_gain_4 (by decide) (by decide) ?_
  refine z_aload_n b dX12_gain_7 rfl rfl ?_
  refine z_iload_n b dX12_gain_8 rfl rfl ?_
  refine z_iload_n b dX12_gain_9 rfl rfl ?_
  refine z_calli b (z_runV (q0 := 0) (As := [.int p0, .int 0]) (st := []) b (c_X12_canSearch_4 S p0 ⟨by omega, by omega⟩) cf_X12_canSearch (mw_0 cy a S) rfl wm_X12_433 wi_X12_canSearch ws_X12_canSearch dX12_gain_10 rfl (Nat.le_of_ble_eq_true rfl) ⟨by decide, by decide, by decide, by decide⟩) (fun r12148 u12149 h12147 => ?_)
  obtain ⟨rfl, rfl⟩ := h12147
  refine z_if_eq_f (tgt := 27) b dX12_gain_13 (by decide) (by decide) ?_
  refine z_iload b dX12_gain_16 rfl ?_
  refine z_iconst (v := 0) b dX12_gain_18 (by decide) ?_
  refine z_bipush (v := 7) b dX12_gain_19 (by decide) ?_
  refine z_calli b (z_runS (As := [.int p1, .int 0, .int 7]) (st := []) b (c_X12_isIn_61 S p1 ⟨by omega, by omega⟩) cf_X12_isIn wm_X12_1 ws_X12_isIn dX12_gain_21 rfl (Nat.le_of_ble_eq_true rfl) ⟨by decide, by decide, by decide, by decide⟩) (fun r12153 u12154 h12152 => ?_)
  obtain ⟨rfl, rfl⟩ := h12152
  refine z_if_ne_t (tgt := 30) b dX12_gain_24 (by decide) (by decide) ?_
  refine z_aload_n b dX12_gain_30 rfl rfl ?_
  refine z_iconst (v := (-1)) b dX12_gain_31 (by decide) ?_
  refine z_iload_n b dX12_gain_32 rfl rfl ?_
  refine z_iload_n b dX12_gain_33 rfl rfl ?_
  refine z_bipush (v := 7) b dX12_gain_34 (by decide) ?_
  refine z_iconst (v := 0) b dX12_gain_36 (by decide) ?_
  refine z_callv b (z_runV (q0 := 0) (As := [.int (-1), .int p0, .int 0, .int 7, .int 0]) (st := []) b (c_X12_searches S p0 h_i_21 h_i_23 h_l_0 h_a_29_992 h_a_28_0 ⟨by omega, by omega⟩) cf_X12_searches (mw_0 cy a S) rfl wm_X12_436 wi_X12_searches ws_X12_searches dX12_gain_37 rfl (Nat.le_of_ble_eq_true rfl) ⟨by decide, by decide, by decide, by decide⟩) (fun u12157 h12155 => ?_)
  obtain rfl := h12155
  refine z_aload_n b dX12_gain_40 rfl rfl ?_
  refine z_get (q0 := 0) (k9 := 57) (v := .int (fi (si (su (su (sv (su (su (si S 22 (-1)) 29 992 0) 30 0 992) 0 0 1649317774848) 26 0 (-1)) 27 0 (-1)) 21 1) 23)) b (mw_0 cy a (si (su (su (sv (su (su (si S 22 (-1)) 29 992 0) 30 0 992) 0 0 1649317774848) 26 0 (-1)) 27 0 (-1)) 21 1)) rfl in_X12 (by decide) wf_X12_408 rfl dX12_gain_41 ?_
  refine z_eqi h_i_23 ?_
  refine z_if_eq_t (tgt := 50) b dX12_gain_44 (by decide) (by decide) ?_
  refine z_iconst (v := (-1)) b dX12_gain_50 (by decide) ?_
  refine z_istore (lv' := [(5, .int (-1)), (0, .ref (a 0)), (1, .int 0), (2, .int p0), (3, .int 0), (4, .int p1)]) b dX12_gain_51 (by decide) rfl ?_
  refine z_iconst (v := 0) b dX12_gain_53 (by decide) ?_
  refine z_istore (lv' := [(6, .int 0), (5, .int (-1)), (0, .ref (a 0)), (1, .int 0), (2, .int p0), (3, .int 0), (4, .int p1)]) b dX12_gain_54 (by decide) rfl ?_
  refine z_iconst (v := 0) b dX12_gain_56 (by decide) ?_
  refine z_istore (lv' := [(7, .int 0), (6, .int 0), (5, .int (-1)), (0, .ref (a 0)), (1, .int 0), (2, .int p0), (3, .int 0), (4, .int p1)]) b dX12_gain_57 (by decide) rfl ?_
  refine z_iload b dX12_gain_59 rfl ?_
  refine z_aload_n b dX12_gain_61 rfl rfl ?_
  refine z_get (q0 := 0) (k9 := 55) (v := .int 1) b (mw_0 cy a (si (su (su (sv (su (su (si S 22 (-1)) 29 992 0) 30 0 992) 0 0 1649317774848) 26 0 (-1)) 27 0 (-1)) 21 1)) rfl in_X12 (by decide) wf_X12_405 rfl dX12_gain_62 ?_
  refine z_icmp_ge_f (tgt := 147) b dX12_gain_65 (by decide) (by decide) ?_
  refine z_aload_n b dX12_gain_68 rfl rfl ?_
  refine z_aload_n b dX12_gain_69 rfl rfl ?_
  refine z_get (q0 := 0) (k9 := 49) (v := .ref (a 27)) b (mw_0 cy a (si (su (su (sv (su (su (si S 22 (-1)) 29 992 0) 30 0 992) 0 0 1649317774848) 26 0 (-1)) 27 0 (-1)) 21 1)) rfl in_X12 (by decide) wf_X12_97 rfl dX12_gain_70 ?_
  refine z_iload b dX12_gain_73 rfl ?_
  refine y_lald (q0 := 27) (j := 0) (v := 1649317774848) b (mw_27 cy a (si (su (su (sv (su (su (si S 22 (-1)) 29 992 0) 30 0 992) 0 0 1649317774848) 26 0 (-1)) 27 0 (-1)) 21 1)) (by decide) rfl dX12_gain_75 ?_
  refine z_callv b (z_runV (q0 := 0) (As := [.long 1649317774848]) (st := []) b (c_X12_takes (si (su (su (sv (su (su (si S 22 (-1)) 29 992 0) 30 0 992) 0 0 1649317774848) 26 0 (-1)) 27 0 (-1)) 21 1) h_a_4_7 h_a_1_7 h_a_4_6 h_a_1_6 h_a_3_6 h_a_3_2 h_a_2_2 h_a_0_2 h_a_4_3 h_a_1_3 h_a_4_5 h_a_1_5 h_a_3_5 h_a_3_7 h_a_2_1 h_a_0_1 h_a_4_2 h_a_1_2 h_a_4_1 h_a_1_1 h_a_3_1 h_a_3_3 h_a_2_0 h_a_0_0 h_i_0) cf_X12_takes (mw_0 cy a (si (su (su (sv (su (su (si S 22 (-1)) 29 992 0) 30 0 992) 0 0 1649317774848) 26 0 (-1)) 27 0 (-1)) 21 1)) rfl wm_X12_174 wi_X12_takes ws_X12_takes dX12_gain_76 rfl (Nat.le_of_ble_eq_true rfl) ⟨by decide, by decide, by decide, by decide⟩) (fun u12160 h12158 => ?_)
  obtain rfl := h12158
  refine z_aload_n b dX12_gain_79 rfl rfl ?_
  refine z_get (q0 := 0) (k9 := 0) (v := .ref (a 1)) b (mw_0 cy a (si (su (su (sv (su (su (si S 22 (-1)) 29 992 0) 30 0 992) 0 0 1649317774848) 26 0 (-1)) 27 0 (-1)) 21 1)) rfl in_X12 (by decide) wf_X12_13 rfl dX12_gain_80 ?_
  refine z_iload_n b dX12_gain_83 rfl rfl ?_
  refine y_iald (q0 := 1) (j := 0) (v := (ar (si (su (su (sv (su (su (si S 22 (-1)) 29 992 0) 30 0 992) 0 0 1649317774848) 26 0 (-1)) 27 0 (-1)) 21 1) 0 0)) b (mw_1 cy a (si (su (su (sv (su (su (si S 22 (-1)) 29 992 0) 30 0 992) 0 0 1649317774848) 26 0 (-1)) 27 0 (-1)) 21 1)) (by decide) rfl dX12_gain_84 ?_
  refine z_eqi h_a_0_0 ?_
  refine z_aload_n b dX12_gain_85 rfl rfl ?_
  refine z_get (q0 := 0) (k9 := 1) (v := .ref (a 2)) b (mw_0 cy a (si (su (su (sv (su (su (si S 22 (-1)) 29 992 0) 30 0 992) 0 0 1649317774848) 26 0 (-1)) 27 0 (-1)) 21 1)) rfl in_X12 (by decide) wf_X12_17 rfl dX12_gain_86 ?_
  refine z_iconst (v := 3) b dX12_gain_89 (by decide) ?_
  refine z_iload_n b dX12_gain_90 rfl rfl ?_
  refine z_imul (v := 0) b dX12_gain_91 (by decide) ?_
  refine z_iload_n b dX12_gain_92 rfl rfl ?_
  refine z_iconst (v := 0) b dX12_gain_93 (by decide) ?_
  refine z_calli b (z_runS (As := [.int 0, .int 0]) (st := [.int 0, .ref (a 2), .int 0]) b (c_X12_other_6 (si (su (su (sv (su (su (si S 22 (-1)) 29 992 0) 30 0 992) 0 0 1649317774848) 26 0 (-1)) 27 0 (-1)) 21 1) ) cf_X12_other wm_X12_160 ws_X12_other dX12_gain_94 rfl (Nat.le_of_ble_eq_true rfl) ⟨by decide, by decide, by decide, by decide⟩) (fun r12162 u12163 h12161 => ?_)
  obtain ⟨rfl, rfl⟩ := h12161
  refine z_iadd (v := 1) b dX12_gain_97 (by decide) ?_
  refine y_iald (q0 := 2) (j := 1) (v := (ar (si (su (su (sv (su (su (si S 22 (-1)) 29 992 0) 30 0 992) 0 0 1649317774848) 26 0 (-1)) 27 0 (-1)) 21 1) 1 1)) b (mw_2 cy a (si (su (su (sv (su (su (si S 22 (-1)) 29 992 0) 30 0 992) 0 0 1649317774848) 26 0 (-1)) 27 0 (-1)) 21 1)) (by decide) rfl dX12_gain_98 ?_
  refine z_eqi h_a_1_1 ?_
  refine z_isub (v := 0) b dX12_gain_99 (by decide) ?_
  refine z_aload_n b dX12_gain_100 rfl rfl ?_
  refine z_get (q0 := 0) (k9 := 1) (v := .ref (a 2)) b (mw_0 cy a (si (su (su (sv (su (su (si S 22 (-1)) 29 992 0) 30 0 992) 0 0 1649317774848) 26 0 (-1)) 27 0 (-1)) 21 1)) rfl in_X12 (by decide) wf_X12_17 rfl dX12_gain_101 ?_
  refine z_iconst (v := 3) b dX12_gain_104 (by decide) ?_
  refine z_iload_n b dX12_gain_105 rfl rfl ?_
  refine z_imul (v := 0) b dX12_gain_106 (by decide) ?_
  refine z_iload_n b dX12_gain_107 rfl rfl ?_
  refine z_iconst (v := 1) b dX12_gain_108 (by decide) ?_
  refine z_calli b (z_runS (As := [.int 0, .int 1]) (st := [.int 0, .ref (a 2), .int 0]) b (c_X12_other_5 (si (su (su (sv (su (su (si S 22 (-1)) 29 992 0) 30 0 992) 0 0 1649317774848) 26 0 (-1)) 27 0 (-1)) 21 1) ) cf_X12_other wm_X12_160 ws_X12_other dX12_gain_109 rfl (Nat.le_of_ble_eq_true rfl) ⟨by decide, by decide, by decide, by decide⟩) (fun r12165 u12166 h12164 => ?_)
  obtain ⟨rfl, rfl⟩ := h12164
  refine z_iadd (v := 2) b dX12_gain_112 (by decide) ?_
  refine y_iald (q0 := 2) (j := 2) (v := (ar (si (su (su (sv (su (su (si S 22 (-1)) 29 992 0) 30 0 992) 0 0 1649317774848) 26 0 (-1)) 27 0 (-1)) 21 1) 1 2)) b (mw_2 cy a (si (su (su (sv (su (su (si S 22 (-1)) 29 992 0) 30 0 992) 0 0 1649317774848) 26 0 (-1)) 27 0 (-1)) 21 1)) (by decide) rfl dX12_gain_113 ?_
  refine z_eqi h_a_1_2 ?_
  refine z_isub (v := 0) b dX12_gain_114 (by decide) ?_
  refine z_istore (lv' := [(8, .int 0), (7, .int 0), (6, .int 0), (5, .int (-1)), (0, .ref (a 0)), (1, .int 0), (2, .int p0), (3, .int 0), (4, .int p1)]) b dX12_gain_115 (by decide) rfl ?_
  refine z_iload b dX12_gain_117 rfl ?_
  refine z_iconst (v := (-1)) b dX12_gain_119 (by decide) ?_
  refine z_icmp_eq_t (tgt := 133) b dX12_gain_120 (by decide) (by decide) ?_
  refine z_iload b dX12_gain_133 rfl ?_
  refine z_istore (lv' := [(5, .int 0), (8, .int 0), (7, .int 0), (6, .int 0), (0, .ref (a 0)), (1, .int 0), (2, .int p0), (3, .int 0), (4, .int p1)]) b dX12_gain_135 (by decide) rfl ?_
  refine z_iload b dX12_gain_137 rfl ?_
  refine z_istore (lv' := [(6, .int 0), (5, .int 0), (8, .int 0), (7, .int 0), (0, .ref (a 0)), (1, .int 0), (2, .int p0), (3, .int 0), (4, .int p1)]) b dX12_gain_139 (by decide) rfl ?_
  refine z_iinc (k9 := 3) (v := 1) (lv' := [(7, .int 1), (6, .int 0), (5, .int 0), (8, .int 0), (0, .ref (a 0)), (1, .int 0), (2, .int p0), (3, .int 0), (4, .int p1)]) b dX12_gain_141 rfl (by decide) (by decide) rfl ?_
  refine z_goto (tgt := 59) b dX12_gain_144 (by decide) ?_
  refine z_iload b dX12_gain_59 rfl ?_
  refine z_aload_n b dX12_gain_61 rfl rfl ?_
  refine z_get (q0 := 0) (k9 := 55) (v := .int 1) b (mw_0 cy a (si (su (su (sv (su (su (si S 22 (-1)) 29 992 0) 30 0 992) 0 0 1649317774848) 26 0 (-1)) 27 0 (-1)) 21 1)) rfl in_X12 (by decide) wf_X12_405 rfl dX12_gain_62 ?_
  refine z_icmp_ge_t (tgt := 147) b dX12_gain_65 (by decide) (by decide) ?_
  refine z_iload b dX12_gain_147 rfl ?_
  refine z_iconst (v := 2) b dX12_gain_149 (by decide) ?_
  refine y_icmp_ge (tgt := 171) (xl := p1.toInt) (yl := 2) b rfl (by decide) dX12_gain_150 (by decide) (fun c12167 => ?_) (fun c12167 => ?_)
  · refine z_iload b dX12_gain_171 rfl ?_
    refine z_iconst (v := 2) b dX12_gain_173 (by decide) ?_
    refine z_isub b dX12_gain_174 rfl ?_
    have f12168 : ((p1 - 2) : Int32).toInt = p1.toInt + (-2) := zisub (k := 2) (by decide) (by omega) (by omega)
    refine z_aload_n b dX12_gain_175 rfl rfl ?_
    refine z_get (q0 := 0) (k9 := 52) (v := .ref (a 30)) b (mw_0 cy a (si (su (su (sv (su (su (si S 22 (-1)) 29 992 0) 30 0 992) 0 0 1649317774848) 26 0 (-1)) 27 0 (-1)) 21 1)) rfl in_X12 (by decide) wf_X12_107 rfl dX12_gain_176 ?_
    refine z_iload b dX12_gain_179 rfl ?_
    refine y_iald (q0 := 30) (j := 0) (v := (ar (si (su (su (sv (su (su (si S 22 (-1)) 29 992 0) 30 0 992) 0 0 1649317774848) 26 0 (-1)) 27 0 (-1)) 21 1) 28 0)) b (mw_30 cy a (si (su (su (sv (su (su (si S 22 (-1)) 29 992 0) 30 0 992) 0 0 1649317774848) 26 0 (-1)) 27 0 (-1)) 21 1)) (by decide) rfl dX12_gain_181 ?_
    refine z_eqi h_a_28_0 ?_
    refine y_icmp_ge (tgt := 198) (xl := ((p1 - 2) : Int32).toInt) (yl := 0) b rfl (by decide) dX12_gain_182 (by decide) (fun c12169 => ?_) (fun c12169 => ?_)
    · refine z_bipush (v := (-100)) b dX12_gain_198 (by decide) ?_
      exact z_iret (u := (si (su (su (sv (su (su (si S 22 (-1)) 29 992 0) 30 0 992) 0 0 1649317774848) 26 0 (-1)) 27 0 (-1)) 21 1)) b rfl dX12_gain_200 ⟨rfl, rfl⟩ rfl (by decide) (by decide)
    · exfalso; omega
  · exfalso; omega

set_option maxHeartbeats 4000000 in
set_option maxRecDepth 100000 in
theorem c_X8_code_2 {l : Launch} {D : va_G} {cy : Nat → ClassId} {T0 tB tE : Nat} {a : Nat → Nat} {rw : Nat → Option Nat} (S : GS) (p0 : Int32) (h_i_25 : fi S 25 = 1) (h_a_10_0 : ar S 10 0 = 0) (hr_p0 : 6 ≤ p0.toInt ∧ p0.toInt ≤ 2147483645) : Ct l D cy T0 tB tE yX8_code cX8_code 5 (some .int) 1 21 0 0 (cw cy tE a rw S) [.ref (a 25), .int 0, .int p0] (QI D (U := GS) (fun r u => (-1) = r ∧ S = u) (cw cy tE a rw)) := by
  refine Ct.ofZ RX8 "code" [(0, .ref (a 25)), (1, .int 0), (2, .int p0)] rfl rfl rfl rfl (Nat.le_of_ble_eq_true rfl) ?_
  intro p e R s m args below meth c A b
  refine z_iload_n b dX8_code_0 rfl rfl ?_
  refine y_if_lt (tgt := 13) (xl := p0.toInt) b rfl dX8_code_1 (by decide) (fun c12192 => ?_) (fun c12192 => ?_)
  · exfalso; omega
  · refine z_iload_n b dX8_code_4 rfl rfl ?_
    refine z_aload_n b dX8_code_5 rfl rfl ?_
    refine z_iload_n b dX8_code_6 rfl rfl ?_
    refine z_calli b (z_runV (q0 := 25) (As := [.int 0]) (st := [.int p0]) b (c_X8_acts S h_i_25 h_a_10_0) cf_X8_acts (cw_25 cy tE a rw S) rfl wm_X8_117 wi_X8_acts ws_X8_acts dX8_code_7 rfl (Nat.le_of_ble_eq_true rfl) ⟨by decide, by decide, by decide, by decide⟩) (fun r12194 u12195 h12193 => ?_)
    obtain ⟨rfl, rfl⟩ := h12193
    refine y_icmp_lt (tgt := 15) (xl := p0.toInt) (yl := 0) b rfl (by decide) dX8_code_10 (by decide) (fun c12196 => ?_) (fun c12196 => ?_)
    · exfalso; omega
    · refine z_iconst (v := (-1)) b dX8_code_13 (by decide) ?_
      exact z_iret (u := S) b rfl dX8_code_14 ⟨rfl, rfl⟩ rfl (by decide) (by decide)

set_option maxHeartbeats 4000000 in
set_option maxRecDepth 100000 in
theorem c_X11_gain_19 {l : Launch} {D : va_G} {cy : Nat → ClassId} {T0 tB tE : Nat} {a : Nat → Nat} {rw : Nat → Option Nat} (S : GS) (p0 : Int32) (p1 : Int32) (h_i_19 : fi S 19 = 0) (h_i_24 : fi S 24 = 0) (h_i_20 : fi S 20 = 0) (h_i_22 : fi S 22 = 0) (h_i_18 : fi S 18 = 0) (h_i_25 : fi S 25 = 0) (h_i_23 : fi S 23 = 0) (h_i_26 : fi S 26 = 0) (h_a_4_50 : ar S 4 50 = 0) (h_a_4_40 : ar S 4 40 = 3) (h_a_4_41 : ar S 4 41 = 3) (h_a_4_42 : ar S 4 42 = 3) (h_a_4_0 : ar S 4 0 = 0) (h_a_4_11 : ar S 4 11 = 0) (h_a_4_21 : ar S 4 21 = 0) (h_a_4_31 : ar S 4 31 = 0) (h_a_4_12 : ar S 4 12 = 0) (h_a_4_22 : ar S 4 22 = 0) (h_a_4_32 : ar S 4 32 = 0) (h_a_4_1 : ar S 4 1 = 0) (h_a_4_13 : ar S 4 13 = 0) (h_a_4_23 : ar S 4 23 = 0) (h_a_4_33 : ar S 4 33 = 0) (h_a_4_15 : ar S 4 15 = 0) (h_a_4_25 : ar S 4 25 = 0) (h_a_4_35 : ar S 4 35 = 0) (h_a_4_2 : ar S 4 2 = 0) (h_a_4_16 : ar S 4 16 = 0) (h_a_4_26 : ar S 4 26 = 0) (h_a_4_36 : ar S 4 36 = 0) (h_a_4_17 : ar S 4 17 = 0) (h_a_4_27 : ar S 4 27 = 0) (h_a_4_37 : ar S 4 37 = 0) (h_a_10_0 : ar S 10 0 = 0) (h_a_9_50 : ar S 9 50 = 0) (h_a_9_40 : ar S 9 40 = 3) (h_a_9_41 : ar S 9 41 = 3) (h_a_9_42 : ar S 9 42 = 3) (h_a_9_0 : ar S 9 0 = 0) (h_a_9_11 : ar S 9 11 = 0) (h_a_9_21 : ar S 9 21 = 0) (h_a_9_31 : ar S 9 31 = 0) (h_a_9_12 : ar S 9 12 = 0) (h_a_9_22 : ar S 9 22 = 0) (h_a_9_32 : ar S 9 32 = 0) (h_a_9_1 : ar S 9 1 = 0) (h_a_9_13 : ar S 9 13 = 0) (h_a_9_23 : ar S 9 23 = 0) (h_a_9_33 : ar S 9 33 = 0) (h_a_9_15 : ar S 9 15 = 0) (h_a_9_25 : ar S 9 25 = 0) (h_a_9_35 : ar S 9 35 = 0) (h_a_9_2 : ar S 9 2 = 0) (h_a_9_16 : ar S 9 16 = 0) (h_a_9_26 : ar S 9 26 = 0) (h_a_9_36 : ar S 9 36 = 0) (h_a_9_17 : ar S 9 17 = 0) (h_a_9_27 : ar S 9 27 = 0) (h_a_9_37 : ar S 9 37 = 0) (hr_p0 : 1 ≤ p0.toInt ∧ p0.toInt ≤ 3) (hr_p1 : 8 ≤ p1.toInt ∧ p1.toInt ≤ 2147483647) : Ct l D cy T0 tB tE yX11_gain cX11_gain 7 (some .int) 5 117 0 0 (cw cy tE a rw S) [.ref (a 0), .int 0, .int p0, .int 0, .int p1] (QI D (U := GS) (fun r u => (-100) = r ∧ (su (si (su (su (sv (sa (si (si (si S 24 1) 19 p0) 21 7) 13 (fil 1024 0 (ar (si (si (si S 24 1) 19 p0) 21 7) 13))) 2 0 4128768) 11 0 (-1)) 12 0 (-1)) 25 1) 13 978 1) = u) (cw cy tE a rw)) := by
  refine Ct.ofZ RX11 "gain" [(0, .ref (a 0)), (1, .int 0), (2, .int p0), (3, .int 0), (4, .int p1)] rfl rfl rfl rfl (Nat.le_of_ble_eq_true rfl) ?_
  intro p e R s m args below meth c A b
  refine z_iload_n b dX11_gain_0 rfl rfl ?_
  refine z_calli b (z_runS (As := [.int 0]) (st := []) b (c_X11_isPerson_3 S ) cf_X11_isPerson wm_X11_69 ws_X11_isPerson dX11_gain_1 rfl (Nat.le_of_ble_eq_true rfl) ⟨by decide, by decide, by decide, by decide⟩) (fun r12171 u12172 h12170 => ?_)
  obtain ⟨rfl, rfl⟩ := h12170
  refine z_if_eq_f (tgt := 26) b dX11_gain_4 (by decide) (by decide) ?_
  refine z_iload_n b dX11_gain_7 rfl rfl ?_
  refine z_calli b (z_runS (As := [.int p0]) (st := []) b (c_X11_areLaws_3 S p0 ⟨by omega, by omega⟩) cf_X11_areLaws wm_X11_181 ws_X11_areLaws dX11_gain_8 rfl (Nat.le_of_ble_eq_true rfl) ⟨by decide, by decide, by decide, by decide⟩) (fun r12174 u12175 h12173 => ?_)
  obtain ⟨rfl, rfl⟩ := h12173
  refine z_if_eq_f (tgt := 26) b dX11_gain_11 (by decide) (by decide) ?_
  refine z_iload_n b dX11_gain_14 rfl rfl ?_
  refine z_calli b (z_runS (As := [.int 0]) (st := []) b (c_X11_isDepth_2 S ) cf_X11_isDepth wm_X11_203 ws_X11_isDepth dX11_gain_15 rfl (Nat.le_of_ble_eq_true rfl) ⟨by decide, by decide, by decide, by decide⟩) (fun r12177 u12178 h12176 => ?_)
  obtain ⟨rfl, rfl⟩ := h12176
  refine z_if_eq_f (tgt := 26) b dX11_gain_18 (by decide) (by decide) ?_
  refine z_iload b dX11_gain_21 rfl ?_
  refine y_if_ge (tgt := 29) (xl := p1.toInt) b rfl dX11_gain_23 (by decide) (fun c12179 => ?_) (fun c12179 => ?_)
  · refine z_aload_n b dX11_gain_29 rfl rfl ?_
    refine z_get (q0 := 0) (k9 := 6) (v := .ref (a 25)) b (cw_0 cy tE a rw S) rfl in_X11 (by decide) wf_X11_52 rfl dX11_gain_30 ?_
    refine z_iload_n b dX11_gain_33 rfl rfl ?_
    refine z_iload_n b dX11_gain_34 rfl rfl ?_
    refine z_bipush (v := 7) b dX11_gain_35 (by decide) ?_
    refine z_iconst (v := 0) b dX11_gain_37 (by decide) ?_
    refine z_callv b (z_runV (q0 := 25) (As := [.int p0, .int 0, .int 7, .int 0]) (st := []) b (c_X8_begin S p0 h_i_19 h_i_24 h_i_20 h_i_22 h_i_18 h_i_25 h_i_23 h_i_26 h_a_4_50 h_a_4_40 h_a_4_41 h_a_4_42 h_a_4_0 h_a_4_11 h_a_4_21 h_a_4_31 h_a_4_12 h_a_4_22 h_a_4_32 h_a_4_1 h_a_4_13 h_a_4_23 h_a_4_33 h_a_4_15 h_a_4_25 h_a_4_35 h_a_4_2 h_a_4_16 h_a_4_26 h_a_4_36 h_a_4_17 h_a_4_27 h_a_4_37 h_a_10_0 ⟨by omega, by omega⟩) cf_X8_begin (cw_25 cy tE a rw S) rfl wm_X11_206 wi_X8_begin ws_X8_begin dX11_gain_38 rfl (Nat.le_of_ble_eq_true rfl) ⟨by decide, by decide, by decide, by decide⟩) (fun u12182 h12180 => ?_)
    obtain rfl := h12180
    refine z_aload_n b dX11_gain_41 rfl rfl ?_
    refine z_get (q0 := 0) (k9 := 6) (v := .ref (a 25)) b (cw_0 cy tE a rw (su (si (su (su (sv (sa (si (si (si S 24 1) 19 p0) 21 7) 13 (fil 1024 0 (ar (si (si (si S 24 1) 19 p0) 21 7) 13))) 2 0 4128768) 11 0 (-1)) 12 0 (-1)) 25 1) 13 978 1)) rfl in_X11 (by decide) wf_X11_52 rfl dX11_gain_42 ?_
    refine z_callv b (z_runV (q0 := 25) (As := []) (st := []) b (c_X8_finish (su (si (su (su (sv (sa (si (si (si S 24 1) 19 p0) 21 7) 13 (fil 1024 0 (ar (si (si (si S 24 1) 19 p0) 21 7) 13))) 2 0 4128768) 11 0 (-1)) 12 0 (-1)) 25 1) 13 978 1) h_i_26 h_i_23 rfl h_a_10_0 h_i_20) cf_X8_finish (cw_25 cy tE a rw (su (si (su (su (sv (sa (si (si (si S 24 1) 19 p0) 21 7) 13 (fil 1024 0 (ar (si (si (si S 24 1) 19 p0) 21 7) 13))) 2 0 4128768) 11 0 (-1)) 12 0 (-1)) 25 1) 13 978 1)) rfl wm_X11_232 wi_X8_finish ws_X8_finish dX11_gain_45 rfl (Nat.le_of_ble_eq_true rfl) ⟨by decide, by decide, by decide, by decide⟩) (fun u12185 h12183 => ?_)
    obtain rfl := h12183
    refine z_aload_n b dX11_gain_48 rfl rfl ?_
    refine z_get (q0 := 0) (k9 := 6) (v := .ref (a 25)) b (cw_0 cy tE a rw (su (si (su (su (sv (sa (si (si (si S 24 1) 19 p0) 21 7) 13 (fil 1024 0 (ar (si (si (si S 24 1) 19 p0) 21 7) 13))) 2 0 4128768) 11 0 (-1)) 12 0 (-1)) 25 1) 13 978 1)) rfl in_X11 (by decide) wf_X11_52 rfl dX11_gain_49 ?_
    refine z_get (q0 := 25) (k9 := 18) (v := .int (fi (su (si (su (su (sv (sa (si (si (si S 24 1) 19 p0) 21 7) 13 (fil 1024 0 (ar (si (si (si S 24 1) 19 p0) 21 7) 13))) 2 0 4128768) 11 0 (-1)) 12 0 (-1)) 25 1) 13 978 1) 26)) b (cw_25 cy tE a rw (su (si (su (su (sv (sa (si (si (si S 24 1) 19 p0) 21 7) 13 (fil 1024 0 (ar (si (si (si S 24 1) 19 p0) 21 7) 13))) 2 0 4128768) 11 0 (-1)) 12 0 (-1)) 25 1) 13 978 1)) rfl in_X8 (by decide) wf_X11_214 rfl dX11_gain_52 ?_
    refine z_eqi h_i_26 ?_
    refine z_if_eq_t (tgt := 61) b dX11_gain_55 (by decide) (by decide) ?_
    refine z_aload_n b dX11_gain_61 rfl rfl ?_
    refine z_get (q0 := 0) (k9 := 6) (v := .ref (a 25)) b (cw_0 cy tE a rw (su (si (su (su (sv (sa (si (si (si S 24 1) 19 p0) 21 7) 13 (fil 1024 0 (ar (si (si (si S 24 1) 19 p0) 21 7) 13))) 2 0 4128768) 11 0 (-1)) 12 0 (-1)) 25 1) 13 978 1)) rfl in_X11 (by decide) wf_X11_52 rfl dX11_gain_62 ?_
    refine z_iload_n b dX11_gain_65 rfl rfl ?_
    refine z_calli b (z_runV (q0 := 25) (As := [.int 0]) (st := []) b (c_X8_richest (su (si (su (su (sv (sa (si (si (si S 24 1) 19 p0) 21 7) 13 (fil 1024 0 (ar (si (si (si S 24 1) 19 p0) 21 7) 13))) 2 0 4128768) 11 0 (-1)) 12 0 (-1)) 25 1) 13 978 1) rfl rfl h_a_9_50 h_a_9_40 h_a_9_41 h_a_9_42 h_a_9_0 h_a_9_11 h_a_9_21 h_a_9_31 h_a_9_12 h_a_9_22 h_a_9_32 h_a_9_1 h_a_9_13 h_a_9_23 h_a_9_33 h_a_9_15 h_a_9_25 h_a_9_35 h_a_9_2 h_a_9_16 h_a_9_26 h_a_9_36 h_a_9_17 h_a_9_27 h_a_9_37) cf_X8_richest (cw_25 cy tE a rw (su (si (su (su (sv (sa (si (si (si S 24 1) 19 p0) 21 7) 13 (fil 1024 0 (ar (si (si (si S 24 1) 19 p0) 21 7) 13))) 2 0 4128768) 11 0 (-1)) 12 0 (-1)) 25 1) 13 978 1)) rfl wm_X11_238 wi_X8_richest ws_X8_richest dX11_gain_66 rfl (Nat.le_of_ble_eq_true rfl) ⟨by decide, by decide, by decide, by decide⟩) (fun r12187 u12188 h12186 => ?_)
    obtain ⟨rfl, rfl⟩ := h12186
    refine z_istore (lv' := [(5, .int 0), (0, .ref (a 0)), (1, .int 0), (2, .int p0), (3, .int 0), (4, .int p1)]) b dX11_gain_69 (by decide) rfl ?_
    refine z_iload b dX11_gain_71 rfl ?_
    refine y_if_ne (tgt := 87) (xl := p1.toInt) b rfl dX11_gain_73 (by decide) (fun c12189 => ?_) (fun c12189 => ?_)
    · refine z_iload b dX11_gain_87 rfl ?_
      refine z_iconst (v := 1) b dX11_gain_89 (by decide) ?_
      refine y_icmp_ne (tgt := 103) (xl := p1.toInt) (yl := 1) b rfl (by decide) dX11_gain_90 (by decide) (fun c12190 => ?_) (fun c12190 => ?_)
      · refine z_aload_n b dX11_gain_103 rfl rfl ?_
        refine z_get (q0 := 0) (k9 := 6) (v := .ref (a 25)) b (cw_0 cy tE a rw (su (si (su (su (sv (sa (si (si (si S 24 1) 19 p0) 21 7) 13 (fil 1024 0 (ar (si (si (si S 24 1) 19 p0) 21 7) 13))) 2 0 4128768) 11 0 (-1)) 12 0 (-1)) 25 1) 13 978 1)) rfl in_X11 (by decide) wf_X11_52 rfl dX11_gain_104 ?_
        refine z_iload b dX11_gain_107 rfl ?_
        refine z_iload b dX11_gain_109 rfl ?_
        refine z_iconst (v := 2) b dX11_gain_111 (by decide) ?_
        refine z_isub b dX11_gain_112 rfl ?_
        have f12191 : ((p1 - 2) : Int32).toInt = p1.toInt + (-2) := zisub (k := 2) (by decide) (by omega) (by omega)
        refine z_calli b (z_runV (q0 := 25) (As := [.int 0, .int (p1 - 2)]) (st := []) b (c_X8_code_2 (su (si (su (su (sv (sa (si (si (si S 24 1) 19 p0) 21 7) 13 (fil 1024 0 (ar (si (si (si S 24 1) 19 p0) 21 7) 13))) 2 0 4128768) 11 0 (-1)) 12 0 (-1)) 25 1) 13 978 1) (p1 - 2) rfl h_a_10_0 ⟨by omega, by omega⟩) cf_X8_code (cw_25 cy tE a rw (su (si (su (su (sv (sa (si (si (si S 24 1) 19 p0) 21 7) 13 (fil 1024 0 (ar (si (si (si S 24 1) 19 p0) 21 7) 13))) 2 0 4128768) 11 0 (-1)) 12 0 (-1)) 25 1) 13 978 1)) rfl wm_X11_219 wi_X8_code ws_X8_code dX11_gain_113 rfl (Nat.le_of_ble_eq_true rfl) ⟨by decide, by decide, by decide, by decide⟩) (fun r12198 u12199 h12197 => ?_)
        obtain ⟨rfl, rfl⟩ := h12197
        refine z_istore (lv' := [(6, .int (-1)), (5, .int 0), (0, .ref (a 0)), (1, .int 0), (2, .int p0), (3, .int 0), (4, .int p1)]) b dX11_gain_116 (by decide) rfl ?_
        refine z_iload b dX11_gain_118 rfl ?_
        refine z_iconst (v := (-1)) b dX11_gain_120 (by decide) ?_
        refine z_icmp_ne_f (tgt := 129) b dX11_gain_121 (by decide) (by decide) ?_
        refine z_bipush (v := (-100)) b dX11_gain_124 (by decide) ?_
        refine z_goto (tgt := 131) b dX11_gain_126 (by decide) ?_
        exact z_iret (u := (su (si (su (su (sv (sa (si (si (si S 24 1) 19 p0) 21 7) 13 (fil 1024 0 (ar (si (si (si S 24 1) 19 p0) 21 7) 13))) 2 0 4128768) 11 0 (-1)) 12 0 (-1)) 25 1) 13 978 1)) b rfl dX11_gain_131 ⟨rfl, rfl⟩ rfl (by decide) (by decide)
      · exfalso; omega
    · exfalso; omega
  · exfalso; omega

set_option maxHeartbeats 4000000 in
set_option maxRecDepth 100000 in
theorem c_X12_gain_19 {l : Launch} {D : va_G} {cy : Nat → ClassId} {T0 tB tE : Nat} {a : Nat → Nat} (S : GS) (p0 : Int32) (p1 : Int32)  (hr_p0 : 1 ≤ p0.toInt ∧ p0.toInt ≤ 3) (hr_p1 : 8 ≤ p1.toInt ∧ p1.toInt ≤ 2147483647) : Ct l D cy T0 tB tE yX12_gain cX12_gain 9 (some .int) 2 44 0 0 (mw cy a S) [.ref (a 0), .int 0, .int p0, .int 0, .int p1] (QI D (U := GS) (fun r u => (-100) = r ∧ S = u) (mw cy a)) := by
  refine Ct.ofZ RX12 "gain" [(0, .ref (a 0)), (1, .int 0), (2, .int p0), (3, .int 0), (4, .int p1)] rfl rfl rfl rfl (Nat.le_of_ble_eq_true rfl) ?_
  intro p e R s m args below meth c A b
  refine z_iload_n b dX12_gain_0 rfl rfl ?_
  refine z_calli b (z_runS (As := [.int 0]) (st := []) b (c_X12_isOne_3 S ) cf_X12_isOne wm_X12_170 ws_X12_isOne dX12_gain_1 rfl (Nat.le_of_ble_eq_true rfl) ⟨by decide, by decide, by decide, by decide⟩) (fun r12201 u12202 h12200 => ?_)
  obtain ⟨rfl, rfl⟩ := h12200
  refine z_if_eq_f (tgt := 27) b dX12_gain_4 (by decide) (by decide) ?_
  refine z_aload_n b dX12_gain_7 rfl rfl ?_
  refine z_iload_n b dX12_gain_8 rfl rfl ?_
  refine z_iload_n b dX12_gain_9 rfl rfl ?_
  refine z_calli b (z_runV (q0 := 0) (As := [.int p0, .int 0]) (st := []) b (c_X12_canSearch_4 S p0 ⟨by omega, by omega⟩) cf_X12_canSearch (mw_0 cy a S) rfl wm_X12_433 wi_X12_canSearch ws_X12_canSearch dX12_gain_10 rfl (Nat.le_of_ble_eq_true rfl) ⟨by decide, by decide, by decide, by decide⟩) (fun r12204 u12205 h12203 => ?_)
  obtain ⟨rfl, rfl⟩ := h12203
  refine z_if_eq_f (tgt := 27) b dX12_gain_13 (by decide) (by decide) ?_
  refine z_iload b dX12_gain_16 rfl ?_
  refine z_iconst (v := 0) b dX12_gain_18 (by decide) ?_
  refine z_bipush (v := 7) b dX12_gain_19 (by decide) ?_
  refine z_calli b (z_runS (As := [.int p1, .int 0, .int 7]) (st := []) b (c_X12_isIn_14 S p1 ⟨by omega, by omega⟩) cf_X12_isIn wm_X12_1 ws_X12_isIn dX12_gain_21 rfl (Nat.le_of_ble_eq_true rfl) ⟨by decide, by decide, by decide, by decide⟩) (fun r12207 u12208 h12206 => ?_)
  obtain ⟨rfl, rfl⟩ := h12206
  refine z_if_ne_f (tgt := 30) b dX12_gain_24 (by decide) (by decide) ?_
  refine z_bipush (v := (-100)) b dX12_gain_27 (by decide) ?_
  exact z_iret (u := S) b rfl dX12_gain_29 ⟨rfl, rfl⟩ rfl (by decide) (by decide)

set_option maxHeartbeats 4000000 in
set_option maxRecDepth 100000 in
theorem c_X11_gain_20 {l : Launch} {D : va_G} {cy : Nat → ClassId} {T0 tB tE : Nat} {a : Nat → Nat} {rw : Nat → Option Nat} (S : GS) (p0 : Int32) (p1 : Int32) (p2 : Int32)  (hr_p0 : 1 ≤ p0.toInt ∧ p0.toInt ≤ 3) (hr_p1 : 1 ≤ p1.toInt ∧ p1.toInt ≤ 6) (hr_p2 : (-2147483648) ≤ p2.toInt ∧ p2.toInt ≤ (-1)) : Ct l D cy T0 tB tE yX11_gain cX11_gain 7 (some .int) 1 20 0 0 (cw cy tE a rw S) [.ref (a 0), .int 0, .int p0, .int p1, .int p2] (QI D (U := GS) (fun r u => (-100) = r ∧ S = u) (cw cy tE a rw)) := by
  refine Ct.ofZ RX11 "gain" [(0, .ref (a 0)), (1, .int 0), (2, .int p0), (3, .int p1), (4, .int p2)] rfl rfl rfl rfl (Nat.le_of_ble_eq_true rfl) ?_
  intro p e R s m args below meth c A b
  refine z_iload_n b dX11_gain_0 rfl rfl ?_
  refine z_calli b (z_runS (As := [.int 0]) (st := []) b (c_X11_isPerson_3 S ) cf_X11_isPerson wm_X11_69 ws_X11_isPerson dX11_gain_1 rfl (Nat.le_of_ble_eq_true rfl) ⟨by decide, by decide, by decide, by decide⟩) (fun r12210 u12211 h12209 => ?_)
  obtain ⟨rfl, rfl⟩ := h12209
  refine z_if_eq_f (tgt := 26) b dX11_gain_4 (by decide) (by decide) ?_
  refine z_iload_n b dX11_gain_7 rfl rfl ?_
  refine z_calli b (z_runS (As := [.int p0]) (st := []) b (c_X11_areLaws_3 S p0 ⟨by omega, by omega⟩) cf_X11_areLaws wm_X11_181 ws_X11_areLaws dX11_gain_8 rfl (Nat.le_of_ble_eq_true rfl) ⟨by decide, by decide, by decide, by decide⟩) (fun r12213 u12214 h12212 => ?_)
  obtain ⟨rfl, rfl⟩ := h12212
  refine z_if_eq_f (tgt := 26) b dX11_gain_11 (by decide) (by decide) ?_
  refine z_iload_n b dX11_gain_14 rfl rfl ?_
  refine z_calli b (z_runS (As := [.int p1]) (st := []) b (c_X11_isDepth_3 S p1 ⟨by omega, by omega⟩) cf_X11_isDepth wm_X11_203 ws_X11_isDepth dX11_gain_15 rfl (Nat.le_of_ble_eq_true rfl) ⟨by decide, by decide, by decide, by decide⟩) (fun r12216 u12217 h12215 => ?_)
  obtain ⟨rfl, rfl⟩ := h12215
  refine z_if_eq_f (tgt := 26) b dX11_gain_18 (by decide) (by decide) ?_
  refine z_iload b dX11_gain_21 rfl ?_
  refine y_if_ge (tgt := 29) (xl := p2.toInt) b rfl dX11_gain_23 (by decide) (fun c12218 => ?_) (fun c12218 => ?_)
  · exfalso; omega
  · refine z_bipush (v := (-100)) b dX11_gain_26 (by decide) ?_
    exact z_iret (u := S) b rfl dX11_gain_28 ⟨rfl, rfl⟩ rfl (by decide) (by decide)

set_option maxHeartbeats 4000000 in
set_option maxRecDepth 100000 in
theorem c_X12_gain_20 {l : Launch} {D : va_G} {cy : Nat → ClassId} {T0 tB tE : Nat} {a : Nat → Nat} (S : GS) (p0 : Int32) (p1 : Int32) (p2 : Int32)  (hr_p0 : 1 ≤ p0.toInt ∧ p0.toInt ≤ 3) (hr_p1 : 1 ≤ p1.toInt ∧ p1.toInt ≤ 6) (hr_p2 : (-2147483648) ≤ p2.toInt ∧ p2.toInt ≤ (-1)) : Ct l D cy T0 tB tE yX12_gain cX12_gain 9 (some .int) 2 44 0 0 (mw cy a S) [.ref (a 0), .int 0, .int p0, .int p1, .int p2] (QI D (U := GS) (fun r u => (-100) = r ∧ S = u) (mw cy a)) := by
  refine Ct.ofZ RX12 "gain" [(0, .ref (a 0)), (1, .int 0), (2, .int p0), (3, .int p1), (4, .int p2)] rfl rfl rfl rfl (Nat.le_of_ble_eq_true rfl) ?_
  intro p e R s m args below meth c A b
  refine z_iload_n b dX12_gain_0 rfl rfl ?_
  refine z_calli b (z_runS (As := [.int 0]) (st := []) b (c_X12_isOne_3 S ) cf_X12_isOne wm_X12_170 ws_X12_isOne dX12_gain_1 rfl (Nat.le_of_ble_eq_true rfl) ⟨by decide, by decide, by decide, by decide⟩) (fun r12220 u12221 h12219 => ?_)
  obtain ⟨rfl, rfl⟩ := h12219
  refine z_if_eq_f (tgt := 27) b dX12_gain_4 (by decide) (by decide) ?_
  refine z_aload_n b dX12_gain_7 rfl rfl ?_
  refine z_iload_n b dX12_gain_8 rfl rfl ?_
  refine z_iload_n b dX12_gain_9 rfl rfl ?_
  refine z_calli b (z_runV (q0 := 0) (As := [.int p0, .int p1]) (st := []) b (c_X12_canSearch_5 S p0 p1 ⟨by omega, by omega⟩ ⟨by omega, by omega⟩) cf_X12_canSearch (mw_0 cy a S) rfl wm_X12_433 wi_X12_canSearch ws_X12_canSearch dX12_gain_10 rfl (Nat.le_of_ble_eq_true rfl) ⟨by decide, by decide, by decide, by decide⟩) (fun r12223 u12224 h12222 => ?_)
  obtain ⟨rfl, rfl⟩ := h12222
  refine z_if_eq_f (tgt := 27) b dX12_gain_13 (by decide) (by decide) ?_
  refine z_iload b dX12_gain_16 rfl ?_
  refine z_iconst (v := 0) b dX12_gain_18 (by decide) ?_
  refine z_bipush (v := 7) b dX12_gain_19 (by decide) ?_
  refine z_calli b (z_runS (As := [.int p2, .int 0, .int 7]) (st := []) b (c_X12_isIn_12 S p2 ⟨by omega, by omega⟩) cf_X12_isIn wm_X12_1 ws_X12_isIn dX12_gain_21 rfl (Nat.le_of_ble_eq_true rfl) ⟨by decide, by decide, by decide, by decide⟩) (fun r12226 u12227 h12225 => ?_)
  obtain ⟨rfl, rfl⟩ := h12225
  refine z_if_ne_f (tgt := 30) b dX12_gain_24 (by decide) (by decide) ?_
  refine z_bipush (v := (-100)) b dX12_gain_27 (by decide) ?_
  exact z_iret (u := S) b rfl dX12_gain_29 ⟨rfl, rfl⟩ rfl (by decide) (by decide)

set_option maxHeartbeats 4000000 in
set_option maxRecDepth 100000 in
theorem c_X11_gain_21 {l : Launch} {D : va_G} {cy : Nat → ClassId} {T0 tB tE : Nat} {a : Nat → Nat} {rw : Nat → Option Nat} (S : GS) (p0 : Int32) (p1 : Int32) (h_i_19 : fi S 19 = 0) (h_i_24 : fi S 24 = 0) (h_i_22 : fi S 22 = 0) (h_i_18 : fi S 18 = 0) (h_i_25 : fi S 25 = 0) (h_i_23 : fi S 23 = 0) (h_i_26 : fi S 26 = 0) (h_a_4_50 : ar S 4 50 = 0) (h_a_4_40 : ar S 4 40 = 3) (h_a_4_41 : ar S 4 41 = 3) (h_a_4_42 : ar S 4 42 = 3) (h_a_4_0 : ar S 4 0 = 0) (h_a_4_11 : ar S 4 11 = 0) (h_a_4_21 : ar S 4 21 = 0) (h_a_4_31 : ar S 4 31 = 0) (h_a_4_12 : ar S 4 12 = 0) (h_a_4_22 : ar S 4 22 = 0) (h_a_4_32 : ar S 4 32 = 0) (h_a_4_1 : ar S 4 1 = 0) (h_a_4_13 : ar S 4 13 = 0) (h_a_4_23 : ar S 4 23 = 0) (h_a_4_33 : ar S 4 33 = 0) (h_a_4_15 : ar S 4 15 = 0) (h_a_4_25 : ar S 4 25 = 0) (h_a_4_35 : ar S 4 35 = 0) (h_a_4_2 : ar S 4 2 = 0) (h_a_4_16 : ar S 4 16 = 0) (h_a_4_26 : ar S 4 26 = 0) (h_a_4_36 : ar S 4 36 = 0) (h_a_4_17 : ar S 4 17 = 0) (h_a_4_27 : ar S 4 27 = 0) (h_a_4_37 : ar S 4 37 = 0) (h_a_10_0 : ar S 10 0 = 0) (h_a_9_50 : ar S 9 50 = 0) (h_a_9_40 : ar S 9 40 = 3) (h_a_9_41 : ar S 9 41 = 3) (h_a_9_42 : ar S 9 42 = 3) (h_a_9_0 : ar S 9 0 = 0) (h_a_9_11 : ar S 9 11 = 0) (h_a_9_21 : ar S 9 21 = 0) (h_a_9_31 : ar S 9 31 = 0) (h_a_9_12 : ar S 9 12 = 0) (h_a_9_22 : ar S 9 22 = 0) (h_a_9_32 : ar S 9 32 = 0) (h_a_9_1 : ar S 9 1 = 0) (h_a_9_13 : ar S 9 13 = 0) (h_a_9_23 : ar S 9 23 = 0) (h_a_9_33 : ar S 9 33 = 0) (h_a_9_15 : ar S 9 15 = 0) (h_a_9_25 : ar S 9 25 = 0) (h_a_9_35 : ar S 9 35 = 0) (h_a_9_2 : ar S 9 2 = 0) (h_a_9_16 : ar S 9 16 = 0) (h_a_9_26 : ar S 9 26 = 0) (h_a_9_36 : ar S 9 36 = 0) (h_a_9_17 : ar S 9 17 = 0) (h_a_9_27 : ar S 9 27 = 0) (h_a_9_37 : ar S 9 37 = 0) (hr_p0 : 1 ≤ p0.toInt ∧ p0.toInt ≤ 3) (hr_p1 : 1 ≤ p1.toInt ∧ p1.toInt ≤ 6) : Ct l D cy T0 tB tE yX11_gain cX11_gain 7 (some .int) 5 117 0 0 (cw cy tE a rw S) [.ref (a 0), .int 0, .int p0, .int p1, .int 0] (QI D (U := GS) (fun r u => (((((0 < ((fi (su (si (su (su (sv (sa (si (si (si (si S 24 1) 19 p0) 20 p1) 21 7) 13 (fil 1024 0 (ar (si (si (si (si S 24 1) 19 p0) 20 p1) 21 7) 13))) 2 0 4128768) 11 0 (-1)) 12 0 (-1)) 25 1) 13 978 1) 20) : Int32).toInt)))) ∧ 0 = r ∧ (si (su (si (su (su (sv (sa (si (si (si (si S 24 1) 19 p0) 20 p1) 21 7) 13 (fil 1024 0 (ar (si (si (si (si S 24 1) 19 p0) 20 p1) 21 7) 13))) 2 0 4128768) 11 0 (-1)) 12 0 (-1)) 25 1) 13 978 1) 23 1) = u) ∨ (((((((fi (su (si (su (su (sv (sa (si (si (si (si S 24 1) 19 p0) 20 p1) 21 7) 13 (fil 1024 0 (ar (si (si (si (si S 24 1) 19 p0) 20 p1) 21 7) 13))) 2 0 4128768) 11 0 (-1)) 12 0 (-1)) 25 1) 13 978 1) 20) : Int32).toInt ≤ 0)))) ∧ 0 = r ∧ (su (si (su (su (sv (sa (si (si (si (si S 24 1) 19 p0) 20 p1) 21 7) 13 (fil 1024 0 (ar (si (si (si (si S 24 1) 19 p0) 20 p1) 21 7) 13))) 2 0 4128768) 11 0 (-1)) 12 0 (-1)) 25 1) 13 978 1) = u)) (cw cy tE a rw)) := by
  refine Ct.ofZ RX11 "gain" [(0, .ref (a 0)), (1, .int 0), (2, .int p0), (3, .int p1), (4, .int 0)] rfl rfl rfl rfl (Nat.le_of_ble_eq_true rfl) ?_
  intro p e R s m args below meth c A b
  refine z_iload_n b dX11_gain_0 rfl rfl ?_
  refine z_calli b (z_runS (As := [.int 0]) (st := []) b (c_X11_isPerson_3 S ) cf_X11_isPerson wm_X11_69 ws_X11_isPerson dX11_gain_1 rfl (Nat.le_of_ble_eq_true rfl) ⟨by decide, by decide, by decide, by decide⟩) (fun r12229 u12230 h12228 => ?_)
  obtain ⟨rfl, rfl⟩ := h12228
  refine z_if_eq_f (tgt := 26) b dX11_gain_4 (by decide) (by decide) ?_
  refine z_iload_n b dX11_gain_7 rfl rfl ?_
  refine z_calli b (z_runS (As := [.int p0]) (st := []) b (c_X11_areLaws_3 S p0 ⟨by omega, by omega⟩) cf_X11_areLaws wm_X11_181 ws_X11_areLaws dX11_gain_8 rfl (Nat.le_of_ble_eq_true rfl) ⟨by decide, by decide, by decide, by decide⟩) (fun r12232 u12233 h12231 => ?_)
  obtain ⟨rfl, rfl⟩ := h12231
  refine z_if_eq_f (tgt := 26) b dX11_gain_11 (by decide) (by decide) ?_
  refine z_iload_n b dX11_gain_14 rfl rfl ?_
  refine z_calli b (z_runS (As := [.int p1]) (st := []) b (c_X11_isDepth_3 S p1 ⟨by omega, by omega⟩) cf_X11_isDepth wm_X11_203 ws_X11_isDepth dX11_gain_15 rfl (Nat.le_of_ble_eq_true rfl) ⟨by decide, by decide, by decide, by decide⟩) (fun r12235 u12236 h12234 => ?_)
  obtain ⟨rfl, rfl⟩ := h12234
  refine z_if_eq_f (tgt := 26) b dX11_gain_18 (by decide) (by decide) ?_
  refine z_iload b dX11_gain_21 rfl ?_
  refine z_if_ge_t (tgt := 29) b dX11_gain_23 (by decide) (by decide) ?_
  refine z_aload_n b dX11_gain_29 rfl rfl ?_
  refine z_get (q0 := 0) (k9 := 6) (v := .ref (a 25)) b (cw_0 cy tE a rw S) rfl in_X11 (by decide) wf_X11_52 rfl dX11_gain_30 ?_
  refine z_iload_n b dX11_gain_33 rfl rfl ?_
  refine z_iload_n b dX11_gain_34 rfl rfl ?_
  refine z_bipush (v := 7) b dX11_gain_35 (by decide) ?_
  refine z_iconst (v := 0) b dX11_gain_37 (by decide) ?_
  refine z_callv b (z_runV (q0 := 25) (As := [.int p0, .int p1, .int 7, .int 0]) (st := []) b (c_X8_begin_2 S p0 p1 h_i_19 h_i_24 h_i_22 h_i_18 h_i_25 h_i_23 h_i_26 h_a_4_50 h_a_4_40 h_a_4_41 h_a_4_42 h_a_4_0 h_a_4_11 h_a_4_21 h_a_4_31 h_a_4_12 h_a_4_22 h_a_4_32 h_a_4_1 h_a_4_13 h_a_4_23 h_a_4_33 h_a_4_15 h_a_4_25 h_a_4_35 h_a_4_2 h_a_4_16 h_a_4_26 h_a_4_36 h_a_4_17 h_a_4_27 h_a_4_37 h_a_10_0 ⟨by omega, by omega⟩ ⟨by omega, by omega⟩) cf_X8_begin (cw_25 cy tE a rw S) rfl wm_X11_206 wi_X8_begin ws_X8_begin dX11_gain_38 rfl (Nat.le_of_ble_eq_true rfl) ⟨by decide, by decide, by decide, by decide⟩) (fun u12239 h12237 => ?_)
  obtain rfl := h12237
  refine z_aload_n b dX11_gain_41 rfl rfl ?_
  refine z_get (q0 := 0) (k9 := 6) (v := .ref (a 25)) b (cw_0 cy tE a rw (su (si (su (su (sv (sa (si (si (si (si S 24 1) 19 p0) 20 p1) 21 7) 13 (fil 1024 0 (ar (si (si (si (si S 24 1) 19 p0) 20 p1) 21 7) 13))) 2 0 4128768) 11 0 (-1)) 12 0 (-1)) 25 1) 13 978 1)) rfl in_X11 (by decide) wf_X11_52 rfl dX11_gain_42 ?_
  refine z_callv b (z_runV (q0 := 25) (As := []) (st := []) b (c_X8_finish_2 (su (si (su (su (sv (sa (si (si (si (si S 24 1) 19 p0) 20 p1) 21 7) 13 (fil 1024 0 (ar (si (si (si (si S 24 1) 19 p0) 20 p1) 21 7) 13))) 2 0 4128768) 11 0 (-1)) 12 0 (-1)) 25 1) 13 978 1) h_i_26 h_i_23 rfl h_a_10_0 rfl h_a_9_50 h_a_9_40 h_a_9_41 h_a_9_42 h_a_9_0 h_a_9_11 h_a_9_21 h_a_9_31 h_a_9_12 h_a_9_22 h_a_9_32 h_a_9_1 h_a_9_13 h_a_9_23 h_a_9_33 h_a_9_15 h_a_9_25 h_a_9_35 h_a_9_2 h_a_9_16 h_a_9_26 h_a_9_36 h_a_9_17 h_a_9_27 h_a_9_37 h_i_18) cf_X8_finish (cw_25 cy tE a rw (su (si (su (su (sv (sa (si (si (si (si S 24 1) 19 p0) 20 p1) 21 7) 13 (fil 1024 0 (ar (si (si (si (si S 24 1) 19 p0) 20 p1) 21 7) 13))) 2 0 4128768) 11 0 (-1)) 12 0 (-1)) 25 1) 13 978 1)) rfl wm_X11_232 wi_X8_finish ws_X8_finish dX11_gain_45 rfl (Nat.le_of_ble_eq_true rfl) ⟨by decide, by decide, by decide, by decide⟩) (fun u12242 h12240 => ?_)
  rcases h12240 with ⟨c12243, rfl⟩ | ⟨c12244, rfl⟩
  · refine z_aload_n b dX11_gain_48 rfl rfl ?_
    refine z_get (q0 := 0) (k9 := 6) (v := .ref (a 25)) b (cw_0 cy tE a rw (si (su (si (su (su (sv (sa (si (si (si (si S 24 1) 19 p0) 20 p1) 21 7) 13 (fil 1024 0 (ar (si (si (si (si S 24 1) 19 p0) 20 p1) 21 7) 13))) 2 0 4128768) 11 0 (-1)) 12 0 (-1)) 25 1) 13 978 1) 23 1)) rfl in_X11 (by decide) wf_X11_52 rfl dX11_gain_49 ?_
    refine z_get (q0 := 25) (k9 := 18) (v := .int (fi (si (su (si (su (su (sv (sa (si (si (si (si S 24 1) 19 p0) 20 p1) 21 7) 13 (fil 1024 0 (ar (si (si (si (si S 24 1) 19 p0) 20 p1) 21 7) 13))) 2 0 4128768) 11 0 (-1)) 12 0 (-1)) 25 1) 13 978 1) 23 1) 26)) b (cw_25 cy tE a rw (si (su (si (su (su (sv (sa (si (si (si (si S 24 1) 19 p0) 20 p1) 21 7) 13 (fil 1024 0 (ar (si (si (si (si S 24 1) 19 p0) 20 p1) 21 7) 13))) 2 0 4128768) 11 0 (-1)) 12 0 (-1)) 25 1) 13 978 1) 23 1)) rfl in_X8 (by decide) wf_X11_214 rfl dX11_gain_52 ?_
    refine z_eqi h_i_26 ?_
    refine z_if_eq_t (tgt := 61) b dX11_gain_55 (by decide) (by decide) ?_
    refine z_aload_n b dX11_gain_61 rfl rfl ?_
    refine z_get (q0 := 0) (k9 := 6) (v := .ref (a 25)) b (cw_0 cy tE a rw (si (su (si (su (su (sv (sa (si (si (si (si S 24 1) 19 p0) 20 p1) 21 7) 13 (fil 1024 0 (ar (si (si (si (si S 24 1) 19 p0) 20 p1) 21 7) 13))) 2 0 4128768) 11 0 (-1)) 12 0 (-1)) 25 1) 13 978 1) 23 1)) rfl in_X11 (by decide) wf_X11_52 rfl dX11_gain_62 ?_
    refine z_iload_n b dX11_gain_65 rfl rfl ?_
    refine z_calli b (z_runV (q0 := 25) (As := [.int 0]) (st := []) b (c_X8_richest (si (su (si (su (su (sv (sa (si (si (si (si S 24 1) 19 p0) 20 p1) 21 7) 13 (fil 1024 0 (ar (si (si (si (si S 24 1) 19 p0) 20 p1) 21 7) 13))) 2 0 4128768) 11 0 (-1)) 12 0 (-1)) 25 1) 13 978 1) 23 1) rfl rfl h_a_9_50 h_a_9_40 h_a_9_41 h_a_9_42 h_a_9_0 h_a_9_11 h_a_9_21 h_a_9_31 h_a_9_12 h_a_9_22 h_a_9_32 h_a_9_1 h_a_9_13 h_a_9_23 h_a_9_33 h_a_9_15 h_a_9_25 h_a_9_35 h_a_9_2 h_a_9_16 h_a_9_26 h_a_9_36 h_a_9_17 h_a_9_27 h_a_9_37) cf_X8_richest (cw_25 cy tE a rw (si (su (si (su (su (sv (sa (si (si (si (si S 24 1) 19 p0) 20 p1) 21 7) 13 (fil 1024 0 (ar (si (si (si (si S 24 1) 19 p0) 20 p1) 21 7) 13))) 2 0 4128768) 11 0 (-1)) 12 0 (-1)) 25 1) 13 978 1) 23 1)) rfl wm_X11_238 wi_X8_richest ws_X8_richest dX11_gain_66 rfl (Nat.le_of_ble_eq_true rfl) ⟨by decide, by decide, by decide, by decide⟩) (fun r12246 u12247 h12245 => ?_)
    obtain ⟨rfl, rfl⟩ := h12245
    refine z_istore (lv' := [(5, .int 0), (0, .ref (a 0)), (1, .int 0), (2, .int p0), (3, .int p1), (4, .int 0)]) b dX11_gain_69 (by decide) rfl ?_
    refine z_iload b dX11_gain_71 rfl ?_
    refine z_if_ne_f (tgt := 87) b dX11_gain_73 (by decide) (by decide) ?_
    refine z_aload_n b dX11_gain_76 rfl rfl ?_
    refine z_get (q0 := 0) (k9 := 6) (v := .ref (a 25)) b (cw_0 cy tE a rw (si (su (si (su (su (sv (sa (si (si (si (si S 24 1) 19 p0) 20 p1) 21 7) 13 (fil 1024 0 (ar (si (si (si (si S 24 1) 19 p0) 20 p1) 21 7) 13))) 2 0 4128768) 11 0 (-1)) 12 0 (-1)) 25 1) 13 978 1) 23 1)) rfl in_X11 (by decide) wf_X11_52 rfl dX11_gain_77 ?_
    refine z_iload b dX11_gain_80 rfl ?_
    refine z_iload_n b dX11_gain_82 rfl rfl ?_
    refine z_calli b (z_runV (q0 := 25) (As := [.int 0, .int 0]) (st := []) b (c_X8_wealth (si (su (si (su (su (sv (sa (si (si (si (si S 24 1) 19 p0) 20 p1) 21 7) 13 (fil 1024 0 (ar (si (si (si (si S 24 1) 19 p0) 20 p1) 21 7) 13))) 2 0 4128768) 11 0 (-1)) 12 0 (-1)) 25 1) 13 978 1) 23 1) rfl rfl h_a_9_50 h_a_9_40 h_a_9_41 h_a_9_42 h_a_9_0 h_a_9_11 h_a_9_21 h_a_9_31 h_a_9_12 h_a_9_22 h_a_9_32 h_a_9_1 h_a_9_13 h_a_9_23 h_a_9_33 h_a_9_15 h_a_9_25 h_a_9_35 h_a_9_2 h_a_9_16 h_a_9_26 h_a_9_36 h_a_9_17 h_a_9_27 h_a_9_37) cf_X8_wealth (cw_25 cy tE a rw (si (su (si (su (su (sv (sa (si (si (si (si S 24 1) 19 p0) 20 p1) 21 7) 13 (fil 1024 0 (ar (si (si (si (si S 24 1) 19 p0) 20 p1) 21 7) 13))) 2 0 4128768) 11 0 (-1)) 12 0 (-1)) 25 1) 13 978 1) 23 1)) rfl wm_X11_241 wi_X8_wealth ws_X8_wealth dX11_gain_83 rfl (Nat.le_of_ble_eq_true rfl) ⟨by decide, by decide, by decide, by decide⟩) (fun r12249 u12250 h12248 => ?_)
    obtain ⟨rfl, rfl⟩ := h12248
    exact z_iret (u := (si (su (si (su (su (sv (sa (si (si (si (si S 24 1) 19 p0) 20 p1) 21 7) 13 (fil 1024 0 (ar (si (si (si (si S 24 1) 19 p0) 20 p1) 21 7) 13))) 2 0 4128768) 11 0 (-1)) 12 0 (-1)) 25 1) 13 978 1) 23 1)) b rfl dX11_gain_86 (Or.inl ⟨c12243, rfl, rfl⟩) rfl (by decide) (by decide)
  · refine z_aload_n b dX11_gain_48 rfl rfl ?_
    refine z_get (q0 := 0) (k9 := 6) (v := .ref (a 25)) b (cw_0 cy tE a rw (su (si (su (su (sv (sa (si (si (si (si S 24 1) 19 p0) 20 p1) 21 7) 13 (fil 1024 0 (ar (si (si (si (si S 24 1) 19 p0) 20 p1) 21 7) 13))) 2 0 4128768) 11 0 (-1)) 12 0 (-1)) 25 1) 13 978 1)) rfl in_X11 (by decide) wf_X11_52 rfl dX11_gain_49 ?_
    refine z_get (q0 := 25) (k9 := 18) (v := .int (fi (su (si (su (su (sv (sa (si (si (si (si S 24 1) 19 p0) 20 p1) 21 7) 13 (fil 1024 0 (ar (si (si (si (si S 24 1) 19 p0) 20 p1) 21 7) 13))) 2 0 4128768) 11 0 (-1)) 12 0 (-1)) 25 1) 13 978 1) 26)) b (cw_25 cy tE a rw (su (si (su (su (sv (sa (si (si (si (si S 24 1) 19 p0) 20 p1) 21 7) 13 (fil 1024 0 (ar (si (si (si (si S 24 1) 19 p0) 20 p1) 21 7) 13))) 2 0 4128768) 11 0 (-1)) 12 0 (-1)) 25 1) 13 978 1)) rfl in_X8 (by decide) wf_X11_214 rfl dX11_gain_52 ?_
    refine z_eqi h_i_26 ?_
    refine z_if_eq_t (tgt := 61) b dX11_gain_55 (by decide) (by decide) ?_
    refine z_aload_n b dX11_gain_61 rfl rfl ?_
    refine z_get (q0 := 0) (k9 := 6) (v := .ref (a 25)) b (cw_0 cy tE a rw (su (si (su (su (sv (sa (si (si (si (si S 24 1) 19 p0) 20 p1) 21 7) 13 (fil 1024 0 (ar (si (si (si (si S 24 1) 19 p0) 20 p1) 21 7) 13))) 2 0 4128768) 11 0 (-1)) 12 0 (-1)) 25 1) 13 978 1)) rfl in_X11 (by decide) wf_X11_52 rfl dX11_gain_62 ?_
    refine z_iload_n b dX11_gain_65 rfl rfl ?_
    refine z_calli b (z_runV (q0 := 25) (As := [.int 0]) (st := []) b (c_X8_richest (su (si (su (su (sv (sa (si (si (si (si S 24 1) 19 p0) 20 p1) 21 7) 13 (fil 1024 0 (ar (si (si (si (si S 24 1) 19 p0) 20 p1) 21 7) 13))) 2 0 4128768) 11 0 (-1)) 12 0 (-1)) 25 1) 13 978 1) rfl rfl h_a_9_50 h_a_9_40 h_a_9_41 h_a_9_42 h_a_9_0 h_a_9_11 h_a_9_21 h_a_9_31 h_a_9_12 h_a_9_22 h_a_9_32 h_a_9_1 h_a_9_13 h_a_9_23 h_a_9_33 h_a_9_15 h_a_9_25 h_a_9_35 h_a_9_2 h_a_9_16 h_a_9_26 h_a_9_36 h_a_9_17 h_a_9_27 h_a_9_37) cf_X8_richest (cw_25 cy tE a rw (su (si (su (su (sv (sa (si (si (si (si S 24 1) 19 p0) 20 p1) 21 7) 13 (fil 1024 0 (ar (si (si (si (si S 24 1) 19 p0) 20 p1) 21 7) 13))) 2 0 4128768) 11 0 (-1)) 12 0 (-1)) 25 1) 13 978 1)) rfl wm_X11_238 wi_X8_richest ws_X8_richest dX11_gain_66 rfl (Nat.le_of_ble_eq_true rfl) ⟨by decide, by decide, by decide, by decide⟩) (fun r12252 u12253 h12251 => ?_)
    obtain ⟨rfl, rfl⟩ := h12251
    refine z_istore (lv' := [(5, .int 0), (0, .ref (a 0)), (1, .int 0), (2, .int p0), (3, .int p1), (4, .int 0)]) b dX11_gain_69 (by decide) rfl ?_
    refine z_iload b dX11_gain_71 rfl ?_
    refine z_if_ne_f (tgt := 87) b dX11_gain_73 (by decide) (by decide) ?_
    refine z_aload_n b dX11_gain_76 rfl rfl ?_
    refine z_get (q0 := 0) (k9 := 6) (v := .ref (a 25)) b (cw_0 cy tE a rw (su (si (su (su (sv (sa (si (si (si (si S 24 1) 19 p0) 20 p1) 21 7) 13 (fil 1024 0 (ar (si (si (si (si S 24 1) 19 p0) 20 p1) 21 7) 13))) 2 0 4128768) 11 0 (-1)) 12 0 (-1)) 25 1) 13 978 1)) rfl in_X11 (by decide) wf_X11_52 rfl dX11_gain_77 ?_
    refine z_iload b dX11_gain_80 rfl ?_
    refine z_iload_n b dX11_gain_82 rfl rfl ?_
    refine z_calli b (z_runV (q0 := 25) (As := [.int 0, .int 0]) (st := []) b (c_X8_wealth (su (si (su (su (sv (sa (si (si (si (si S 24 1) 19 p0) 20 p1) 21 7) 13 (fil 1024 0 (ar (si (si (si (si S 24 1) 19 p0) 20 p1) 21 7) 13))) 2 0 4128768) 11 0 (-1)) 12 0 (-1)) 25 1) 13 978 1) rfl rfl h_a_9_50 h_a_9_40 h_a_9_41 h_a_9_42 h_a_9_0 h_a_9_11 h_a_9_21 h_a_9_31 h_a_9_12 h_a_9_22 h_a_9_32 h_a_9_1 h_a_9_13 h_a_9_23 h_a_9_33 h_a_9_15 h_a_9_25 h_a_9_35 h_a_9_2 h_a_9_16 h_a_9_26 h_a_9_36 h_a_9_17 h_a_9_27 h_a_9_37) cf_X8_wealth (cw_25 cy tE a rw (su (si (su (su (sv (sa (si (si (si (si S 24 1) 19 p0) 20 p1) 21 7) 13 (fil 1024 0 (ar (si (si (si (si S 24 1) 19 p0) 20 p1) 21 7) 13))) 2 0 4128768) 11 0 (-1)) 12 0 (-1)) 25 1) 13 978 1)) rfl wm_X11_241 wi_X8_wealth ws_X8_wealth dX11_gain_83 rfl (Nat.le_of_ble_eq_true rfl) ⟨by decide, by decide, by decide, by decide⟩) (fun r12255 u12256 h12254 => ?_)
    obtain ⟨rfl, rfl⟩ := h12254
    exact z_iret (u := (su (si (su (su (sv (sa (si (si (si (si S 24 1) 19 p0) 20 p1) 21 7) 13 (fil 1024 0 (ar (si (si (si (si S 24 1) 19 p0) 20 p1) 21 7) 13))) 2 0 4128768) 11 0 (-1)) 12 0 (-1)) 25 1) 13 978 1)) b rfl dX11_gain_86 (Or.inr ⟨c12244, rfl, rfl⟩) rfl (by decide) (by decide)

set_option maxHeartbeats 4000000 in
set_option maxRecDepth 100000 in
theorem c_X12_gain_21 {l : Launch} {D : va_G} {cy : Nat → ClassId} {T0 tB tE : Nat} {a : Nat → Nat} (S : GS) (p0 : Int32) (p1 : Int32) (h_i_21 : fi S 21 = 0) (h_i_23 : fi S 23 = 0) (h_l_0 : fl S 0 = 1649317774848) (h_a_29_992 : ar S 29 992 = (-1)) (h_a_28_0 : ar S 28 0 = 0) (h_a_7_0 : ar S 7 0 = 0) (h_a_7_1 : ar S 7 1 = 0) (h_a_4_7 : ar S 4 7 = 0) (h_a_1_7 : ar S 1 7 = 0) (h_a_4_6 : ar S 4 6 = 0) (h_a_1_6 : ar S 1 6 = 0) (h_a_3_6 : ar S 3 6 = 0) (h_a_3_2 : ar S 3 2 = 0) (h_a_2_2 : ar S 2 2 = 3) (h_a_0_2 : ar S 0 2 = 0) (h_a_4_3 : ar S 4 3 = 0) (h_a_1_3 : ar S 1 3 = 0) (h_a_4_5 : ar S 4 5 = 0) (h_a_1_5 : ar S 1 5 = 0) (h_a_3_5 : ar S 3 5 = 0) (h_a_3_7 : ar S 3 7 = 0) (h_a_2_1 : ar S 2 1 = 3) (h_a_0_1 : ar S 0 1 = 0) (h_a_4_2 : ar S 4 2 = 0) (h_a_1_2 : ar S 1 2 = 0) (h_a_4_1 : ar S 4 1 = 0) (h_a_1_1 : ar S 1 1 = 0) (h_a_3_1 : ar S 3 1 = 0) (h_a_3_3 : ar S 3 3 = 0) (h_a_2_0 : ar S 2 0 = 3) (h_a_0_0 : ar S 0 0 = 0) (h_i_0 : fi S 0 = 0) (hr_p0 : 1 ≤ p0.toInt ∧ p0.toInt ≤ 3) (hr_p1 : 1 ≤ p1.toInt ∧ p1.toInt ≤ 6) : Ct l D cy T0 tB tE yX12_gain cX12_gain 9 (some .int) 4 99 0 0 (mw cy a S) [.ref (a 0), .int 0, .int p0, .int p1, .int 0] (QI D (U := GS) (fun r u => 0 = r ∧ (si (su (su (sv (su (su (si S 22 (-1)) 29 992 0) 30 0 992) 0 0 1649317774848) 26 0 (-1)) 27 0 (-1)) 21 1) = u) (mw cy a)) := by
  refine Ct.ofZ RX12 "gain" [(0, .ref (a 0)), (1, .int 0), (2, .int p0), (3, .int p1), (4, .int 0)] rfl rfl rfl rfl (Nat.le_of_ble_eq_true rfl) ?_
  intro p e R s m args below meth c A b
  refine z_iload_n b dX12_gain_0 rfl rfl ?_
  refine z_calli b (z_runS (As := [.int 0]) (st := []) b (c_X12_isOne_3 S ) cf_X12_isOne wm_X12_170 ws_X12_isOne dX12_gain_1 rfl (Nat.le_of_ble_eq_true rfl) ⟨by decide, by decide, by decide, by decide⟩) (fun r12258 u12259 h12257 => ?_)
  obtain ⟨rfl, rfl⟩ := h12257
  refine z_if_eq_f (tgt := 27) b dX12_gain_4 (by decide) (by decide) ?_
  refine z_aload_n b dX12_gain_7 rfl rfl ?_
  refine z_iload_n b dX12_gain_8 rfl rfl ?_
  refine z_iload_n b dX12_gain_9 rfl rfl ?_
  refine z_calli b (z_runV (q0 := 0) (As := [.int p0, .int p1]) (st := []) b (c_X12_canSearch_5 S p0 p1 ⟨by omega, by omega⟩ ⟨by omega, by omega⟩) cf_X12_canSearch (mw_0 cy a S) rfl wm_X12_433 wi_X12_canSearch ws_X12_canSearch dX12_gain_10 rfl (Nat.le_of_ble_eq_true rfl) ⟨by decide, by decide, by decide, by decide⟩) (fun r12261 u12262 h12260 => ?_)
  obtain ⟨rfl, rfl⟩ := h12260
  refine z_if_eq_f (tgt := 27) b dX12_gain_13 (by decide) (by decide) ?_
  refine z_iload b dX12_gain_16 rfl ?_
  refine z_iconst (v := 0) b dX12_gain_18 (by decide) ?_
  refine z_bipush (v := 7) b dX12_gain_19 (by decide) ?_
  refine z_calli b (z_runS (As := [.int 0, .int 0, .int 7]) (st := []) b (c_X12_isIn_59 S ) cf_X12_isIn wm_X12_1 ws_X12_isIn dX12_gain_21 rfl (Nat.le_of_ble_eq_true rfl) ⟨by decide, by decide, by decide, by decide⟩) (fun r12264 u12265 h12263 => ?_)
  obtain ⟨rfl, rfl⟩ := h12263
  refine z_if_ne_t (tgt := 30) b dX12_gain_24 (by decide) (by decide) ?_
  refine z_aload_n b dX12_gain_30 rfl rfl ?_
  refine z_iconst (v := (-1)) b dX12_gain_31 (by decide) ?_
  refine z_iload_n b dX12_gain_32 rfl rfl ?_
  refine z_iload_n b dX12_gain_33 rfl rfl ?_
  refine z_bipush (v := 7) b dX12_gain_34 (by decide) ?_
  refine z_iconst (v := 0) b dX12_gain_36 (by decide) ?_
  refine z_callv b (z_runV (q0 := 0) (As := [.int (-1), .int p0, .int p1, .int 7, .int 0]) (st := []) b (c_X12_searches_2 S p0 p1 h_i_21 h_i_23 h_l_0 h_a_29_992 h_a_28_0 h_a_7_0 h_a_7_1 ⟨by omega, by omega⟩ ⟨by omega, by omega⟩) cf_X12_searches (mw_0 cy a S) rfl wm_X12_436 wi_X12_searches ws_X12_searches dX12_gain_37 rfl (Nat.le_of_ble_eq_true rfl) ⟨by decide, by decide, by decide, by decide⟩) (fun u12268 h12266 => ?_)
  obtain rfl := h12266
  refine z_aload_n b dX12_gain_40 rfl rfl ?_
  refine z_get (q0 := 0) (k9 := 57) (v := .int (fi (si (su (su (sv (su (su (si S 22 (-1)) 29 992 0) 30 0 992) 0 0 1649317774848) 26 0 (-1)) 27 0 (-1)) 21 1) 23)) b (mw_0 cy a (si (su (su (sv (su (su (si S 22 (-1)) 29 992 0) 30 0 992) 0 0 1649317774848) 26 0 (-1)) 27 0 (-1)) 21 1)) rfl in_X12 (by decide) wf_X12_408 rfl dX12_gain_41 ?_
  refine z_eqi h_i_23 ?_
  refine z_if_eq_t (tgt := 50) b dX12_gain_44 (by decide) (by decide) ?_
  refine z_iconst (v := (-1)) b dX12_gain_50 (by decide) ?_
  refine z_istore (lv' := [(5, .int (-1)), (0, .ref (a 0)), (1, .int 0), (2, .int p0), (3, .int p1), (4, .int 0)]) b dX12_gain_51 (by decide) rfl ?_
  refine z_iconst (v := 0) b dX12_gain_53 (by decide) ?_
  refine z_istore (lv' := [(6, .int 0), (5, .int (-1)), (0, .ref (a 0)), (1, .int 0), (2, .int p0), (3, .int p1), (4, .int 0)]) b dX12_gain_54 (by decide) rfl ?_
  refine z_iconst (v := 0) b dX12_gain_56 (by decide) ?_
  refine z_istore (lv' := [(7, .int 0), (6, .int 0), (5, .int (-1)), (0, .ref (a 0)), (1, .int 0), (2, .int p0), (3, .int p1), (4, .int 0)]) b dX12_gain_57 (by decide) rfl ?_
  refine z_iload b dX12_gain_59 rfl ?_
  refine z_aload_n b dX12_gain_61 rfl rfl ?_
  refine z_get (q0 := 0) (k9 := 55) (v := .int 1) b (mw_0 cy a (si (su (su (sv (su (su (si S 22 (-1)) 29 992 0) 30 0 992) 0 0 1649317774848) 26 0 (-1)) 27 0 (-1)) 21 1)) rfl in_X12 (by decide) wf_X12_405 rfl dX12_gain_62 ?_
  refine z_icmp_ge_f (tgt := 147) b dX12_gain_65 (by decide) (by decide) ?_
  refine z_aload_n b dX12_gain_68 rfl rfl ?_
  refine z_aload_n b dX12_gain_69 rfl rfl ?_
  refine z_get (q0 := 0) (k9 := 49) (v := .ref (a 27)) b (mw_0 cy a (si (su (su (sv (su (su (si S 22 (-1)) 29 992 0) 30 0 992) 0 0 1649317774848) 26 0 (-1)) 27 0 (-1)) 21 1)) rfl in_X12 (by decide) wf_X12_97 rfl dX12_gain_70 ?_
  refine z_iload b dX12_gain_73 rfl ?_
  refine y_lald (q0 := 27) (j := 0) (v := 1649317774848) b (mw_27 cy a (si (su (su (sv (su (su (si S 22 (-1)) 29 992 0) 30 0 992) 0 0 1649317774848) 26 0 (-1)) 27 0 (-1)) 21 1)) (by decide) rfl dX12_gain_75 ?_
  refine z_callv b (z_runV (q0 := 0) (As := [.long 1649317774848]) (st := []) b (c_X12_takes (si (su (su (sv (su (su (si S 22 (-1)) 29 992 0) 30 0 992) 0 0 1649317774848) 26 0 (-1)) 27 0 (-1)) 21 1) h_a_4_7 h_a_1_7 h_a_4_6 h_a_1_6 h_a_3_6 h_a_3_2 h_a_2_2 h_a_0_2 h_a_4_3 h_a_1_3 h_a_4_5 h_a_1_5 h_a_3_5 h_a_3_7 h_a_2_1 h_a_0_1 h_a_4_2 h_a_1_2 h_a_4_1 h_a_1_1 h_a_3_1 h_a_3_3 h_a_2_0 h_a_0_0 h_i_0) cf_X12_takes (mw_0 cy a (si (su (su (sv (su (su (si S 22 (-1)) 29 992 0) 30 0 992) 0 0 1649317774848) 26 0 (-1)) 27 0 (-1)) 21 1)) rfl wm_X12_174 wi_X12_takes ws_X12_takes dX12_gain_76 rfl (Nat.le_of_ble_eq_true rfl) ⟨by decide, by decide, by decide, by decide⟩) (fun u12271 h12269 => ?_)
  obtain rfl := h12269
  refine z_aload_n b dX12_gain_79 rfl rfl ?_
  refine z_get (q0 := 0) (k9 := 0) (v := .ref (a 1)) b (mw_0 cy a (si (su (su (sv (su (su (si S 22 (-1)) 29 992 0) 30 0 992) 0 0 1649317774848) 26 0 (-1)) 27 0 (-1)) 21 1)) rfl in_X12 (by decide) wf_X12_13 rfl dX12_gain_80 ?_
  refine z_iload_n b dX12_gain_83 rfl rfl ?_
  refine y_iald (q0 := 1) (j := 0) (v := (ar (si (su (su (sv (su (su (si S 22 (-1)) 29 992 0) 30 0 992) 0 0 1649317774848) 26 0 (-1)) 27 0 (-1)) 21 1) 0 0)) b (mw_1 cy a (si (su (su (sv (su (su (si S 22 (-1)) 29 992 0) 30 0 992) 0 0 1649317774848) 26 0 (-1)) 27 0 (-1)) 21 1)) (by decide) rfl dX12_gain_84 ?_
  refine z_eqi h_a_0_0 ?_
  refine z_aload_n b dX12_gain_85 rfl rfl ?_
  refine z_get (q0 := 0) (k9 := 1) (v := .ref (a 2)) b (mw_0 cy a (si (su (su (sv (su (su (si S 22 (-1)) 29 992 0) 30 0 992) 0 0 1649317774848) 26 0 (-1)) 27 0 (-1)) 21 1)) rfl in_X12 (by decide) wf_X12_17 rfl dX12_gain_86 ?_
  refine z_iconst (v := 3) b dX12_gain_89 (by decide) ?_
  refine z_iload_n b dX12_gain_90 rfl rfl ?_
  refine z_imul (v := 0) b dX12_gain_91 (by decide) ?_
  refine z_iload_n b dX12_gain_92 rfl rfl ?_
  refine z_iconst (v := 0) b dX12_gain_93 (by decide) ?_
  refine z_calli b (z_runS (As := [.int 0, .int 0]) (st := [.int 0, .ref (a 2), .int 0]) b (c_X12_other_6 (si (su (su (sv (su (su (si S 22 (-1)) 29 992 0) 30 0 992) 0 0 1649317774848) 26 0 (-1)) 27 0 (-1)) 21 1) ) cf_X12_other wm_X12_160 ws_X12_other dX12_gain_94 rfl (Nat.le_of_ble_eq_true rfl) ⟨by decide, by decide, by decide, by decide⟩) (fun r12273 u12274 h12272 => ?_)
  obtain ⟨rfl, rfl⟩ := h12272
  refine z_iadd (v := 1) b dX12_gain_97 (by decide) ?_
  refine y_iald (q0 := 2) (j := 1) (v := (ar (si (su (su (sv (su (su (si S 22 (-1)) 29 992 0) 30 0 992) 0 0 1649317774848) 26 0 (-1)) 27 0 (-1)) 21 1) 1 1)) b (mw_2 cy a (si (su (su (sv (su (su (si S 22 (-1)) 29 992 0) 30 0 992) 0 0 1649317774848) 26 0 (-1)) 27 0 (-1)) 21 1)) (by decide) rfl dX12_gain_98 ?_
  refine z_eqi h_a_1_1 ?_
  refine z_isub (v := 0) b dX12_gain_99 (by decide) ?_
  refine z_aload_n b dX12_gain_100 rfl rfl ?_
  refine z_get (q0 := 0) (k9 := 1) (v := .ref (a 2)) b (mw_0 cy a (si (su (su (sv (su (su (si S 22 (-1)) 29 992 0) 30 0 992) 0 0 1649317774848) 26 0 (-1)) 27 0 (-1)) 21 1)) rfl in_X12 (by decide) wf_X12_17 rfl dX12_gain_101 ?_
  refine z_iconst (v := 3) b dX12_gain_104 (by decide) ?_
  refine z_iload_n b dX12_gain_105 rfl rfl ?_
  refine z_imul (v := 0) b dX12_gain_106 (by decide) ?_
  refine z_iload_n b dX12_gain_107 rfl rfl ?_
  refine z_iconst (v := 1) b dX12_gain_108 (by decide) ?_
  refine z_calli b (z_runS (As := [.int 0, .int 1]) (st := [.int 0, .ref (a 2), .int 0]) b (c_X12_other_5 (si (su (su (sv (su (su (si S 22 (-1)) 29 992 0) 30 0 992) 0 0 1649317774848) 26 0 (-1)) 27 0 (-1)) 21 1) ) cf_X12_other wm_X12_160 ws_X12_other dX12_gain_109 rfl (Nat.le_of_ble_eq_true rfl) ⟨by decide, by decide, by decide, by decide⟩) (fun r12276 u12277 h12275 => ?_)
  obtain ⟨rfl, rfl⟩ := h12275
  refine z_iadd (v := 2) b dX12_gain_112 (by decide) ?_
  refine y_iald (q0 := 2) (j := 2) (v := (ar (si (su (su (sv (su (su (si S 22 (-1)) 29 992 0) 30 0 992) 0 0 1649317774848) 26 0 (-1)) 27 0 (-1)) 21 1) 1 2)) b (mw_2 cy a (si (su (su (sv (su (su (si S 22 (-1)) 29 992 0) 30 0 992) 0 0 1649317774848) 26 0 (-1)) 27 0 (-1)) 21 1)) (by decide) rfl dX12_gain_113 ?_
  refine z_eqi h_a_1_2 ?_
  refine z_isub (v := 0) b dX12_gain_114 (by decide) ?_
  refine z_istore (lv' := [(8, .int 0), (7, .int 0), (6, .int 0), (5, .int (-1)), (0, .ref (a 0)), (1, .int 0), (2, .int p0), (3, .int p1), (4, .int 0)]) b dX12_gain_115 (by decide) rfl ?_
  refine z_iload b dX12_gain_117 rfl ?_
  refine z_iconst (v := (-1)) b dX12_gain_119 (by decide) ?_
  refine z_icmp_eq_t (tgt := 133) b dX12_gain_120 (by decide) (by decide) ?_
  refine z_iload b dX12_gain_133 rfl ?_
  refine z_istore (lv' := [(5, .int 0), (8, .int 0), (7, .int 0), (6, .int 0), (0, .ref (a 0)), (1, .int 0), (2, .int p0), (3, .int p1), (4, .int 0)]) b dX12_gain_135 (by decide) rfl ?_
  refine z_iload b dX12_gain_137 rfl ?_
  refine z_istore (lv' := [(6, .int 0), (5, .int 0), (8, .int 0), (7, .int 0), (0, .ref (a 0)), (1, .int 0), (2, .int p0), (3, .int p1), (4, .int 0)]) b dX12_gain_139 (by decide) rfl ?_
  refine z_iinc (k9 := 3) (v := 1) (lv' := [(7, .int 1), (6, .int 0), (5, .int 0), (8, .int 0), (0, .ref (a 0)), (1, .int 0), (2, .int p0), (3, .int p1), (4, .int 0)]) b dX12_gain_141 rfl (by decide) (by decide) rfl ?_
  refine z_goto (tgt := 59) b dX12_gain_144 (by decide) ?_
  refine z_iload b dX12_gain_59 rfl ?_
  refine z_aload_n b dX12_gain_61 rfl rfl ?_
  refine z_get (q0 := 0) (k9 := 55) (v := .int 1) b (mw_0 cy a (si (su (su (sv (su (su (si S 22 (-1)) 29 992 0) 30 0 992) 0 0 1649317774848) 26 0 (-1)) 27 0 (-1)) 21 1)) rfl in_X12 (by decide) wf_X12_405 rfl dX12_gain_62 ?_
  refine z_icmp_ge_t (tgt := 147) b dX12_gain_65 (by decide) (by decide) ?_
  refine z_iload b dX12_gain_147 rfl ?_
  refine z_iconst (v := 2) b dX12_gain_149 (by decide) ?_
  refine z_icmp_ge_f (tgt := 171) b dX12_gain_150 (by decide) (by decide) ?_
  refine z_iload b dX12_gain_153 rfl ?_
  refine z_if_ne_f (tgt := 163) b dX12_gain_155 (by decide) (by decide) ?_
  refine z_iload b dX12_gain_158 rfl ?_
  refine z_goto (tgt := 170) b dX12_gain_160 (by decide) ?_
  exact z_iret (u := (si (su (su (sv (su (su (si S 22 (-1)) 29 992 0) 30 0 992) 0 0 1649317774848) 26 0 (-1)) 27 0 (-1)) 21 1)) b rfl dX12_gain_170 ⟨rfl, rfl⟩ rfl (by decide) (by decide)

set_option maxHeartbeats 4000000 in
set_option maxRecDepth 100000 in
theorem c_X11_gain_22 {l : Launch} {D : va_G} {cy : Nat → ClassId} {T0 tB tE : Nat} {a : Nat → Nat} {rw : Nat → Option Nat} (S : GS) (p0 : Int32) (p1 : Int32) (h_i_19 : fi S 19 = 0) (h_i_24 : fi S 24 = 0) (h_i_22 : fi S 22 = 0) (h_i_18 : fi S 18 = 0) (h_i_25 : fi S 25 = 0) (h_i_23 : fi S 23 = 0) (h_i_26 : fi S 26 = 0) (h_a_4_50 : ar S 4 50 = 0) (h_a_4_40 : ar S 4 40 = 3) (h_a_4_41 : ar S 4 41 = 3) (h_a_4_42 : ar S 4 42 = 3) (h_a_4_0 : ar S 4 0 = 0) (h_a_4_11 : ar S 4 11 = 0) (h_a_4_21 : ar S 4 21 = 0) (h_a_4_31 : ar S 4 31 = 0) (h_a_4_12 : ar S 4 12 = 0) (h_a_4_22 : ar S 4 22 = 0) (h_a_4_32 : ar S 4 32 = 0) (h_a_4_1 : ar S 4 1 = 0) (h_a_4_13 : ar S 4 13 = 0) (h_a_4_23 : ar S 4 23 = 0) (h_a_4_33 : ar S 4 33 = 0) (h_a_4_15 : ar S 4 15 = 0) (h_a_4_25 : ar S 4 25 = 0) (h_a_4_35 : ar S 4 35 = 0) (h_a_4_2 : ar S 4 2 = 0) (h_a_4_16 : ar S 4 16 = 0) (h_a_4_26 : ar S 4 26 = 0) (h_a_4_36 : ar S 4 36 = 0) (h_a_4_17 : ar S 4 17 = 0) (h_a_4_27 : ar S 4 27 = 0) (h_a_4_37 : ar S 4 37 = 0) (h_a_10_0 : ar S 10 0 = 0) (h_a_9_50 : ar S 9 50 = 0) (h_a_9_40 : ar S 9 40 = 3) (h_a_9_41 : ar S 9 41 = 3) (h_a_9_42 : ar S 9 42 = 3) (h_a_9_0 : ar S 9 0 = 0) (h_a_9_11 : ar S 9 11 = 0) (h_a_9_21 : ar S 9 21 = 0) (h_a_9_31 : ar S 9 31 = 0) (h_a_9_12 : ar S 9 12 = 0) (h_a_9_22 : ar S 9 22 = 0) (h_a_9_32 : ar S 9 32 = 0) (h_a_9_1 : ar S 9 1 = 0) (h_a_9_13 : ar S 9 13 = 0) (h_a_9_23 : ar S 9 23 = 0) (h_a_9_33 : ar S 9 33 = 0) (h_a_9_15 : ar S 9 15 = 0) (h_a_9_25 : ar S 9 25 = 0) (h_a_9_35 : ar S 9 35 = 0) (h_a_9_2 : ar S 9 2 = 0) (h_a_9_16 : ar S 9 16 = 0) (h_a_9_26 : ar S 9 26 = 0) (h_a_9_36 : ar S 9 36 = 0) (h_a_9_17 : ar S 9 17 = 0) (h_a_9_27 : ar S 9 27 = 0) (h_a_9_37 : ar S 9 37 = 0) (hr_p0 : 1 ≤ p0.toInt ∧ p0.toInt ≤ 3) (hr_p1 : 1 ≤ p1.toInt ∧ p1.toInt ≤ 6) : Ct l D cy T0 tB tE yX11_gain cX11_gain 7 (some .int) 5 117 0 0 (cw cy tE a rw S) [.ref (a 0), .int 0, .int p0, .int p1, .int 1] (QI D (U := GS) (fun r u => (((((0 < ((fi (su (si (su (su (sv (sa (si (si (si (si S 24 1) 19 p0) 20 p1) 21 7) 13 (fil 1024 0 (ar (si (si (si (si S 24 1) 19 p0) 20 p1) 21 7) 13))) 2 0 4128768) 11 0 (-1)) 12 0 (-1)) 25 1) 13 978 1) 20) : Int32).toInt)))) ∧ 0 = r ∧ (si (su (si (su (su (sv (sa (si (si (si (si S 24 1) 19 p0) 20 p1) 21 7) 13 (fil 1024 0 (ar (si (si (si (si S 24 1) 19 p0) 20 p1) 21 7) 13))) 2 0 4128768) 11 0 (-1)) 12 0 (-1)) 25 1) 13 978 1) 23 1) = u) ∨ (((((((fi (su (si (su (su (sv (sa (si (si (si (si S 24 1) 19 p0) 20 p1) 21 7) 13 (fil 1024 0 (ar (si (si (si (si S 24 1) 19 p0) 20 p1) 21 7) 13))) 2 0 4128768) 11 0 (-1)) 12 0 (-1)) 25 1) 13 978 1) 20) : Int32).toInt ≤ 0)))) ∧ 0 = r ∧ (su (si (su (su (sv (sa (si (si (si (si S 24 1) 19 p0) 20 p1) 21 7) 13 (fil 1024 0 (ar (si (si (si (si S 24 1) 19 p0) 20 p1) 21 7) 13))) 2 0 4128768) 11 0 (-1)) 12 0 (-1)) 25 1) 13 978 1) = u)) (cw cy tE a rw)) := by
  refine Ct.ofZ RX11 "gain" [(0, .ref (a 0)), (1, .int 0), (2, .int p0), (3, .int p1), (4, .int 1)] rfl rfl rfl rfl (Nat.le_of_ble_eq_true rfl) ?_
  intro p e R s m args below meth c A b
  refine z_iload_n b dX11_gain_0 rfl rfl ?_
  refine z_calli b (z_runS (As := [.int 0]) (st := []) b (c_X11_isPerson_3 S ) cf_X11_isPerson wm_X11_69 ws_X11_isPerson dX11_gain_1 rfl (Nat.le_of_ble_eq_true rfl) ⟨by decide, by decide, by decide, by decide⟩) (fun r12279 u12280 h12278 => ?_)
  obtain ⟨rfl, rfl⟩ := h12278
  refine z_if_eq_f (tgt := 26) b dX11_gain_4 (by decide) (by decide) ?_
  refine z_iload_n b dX11_gain_7 rfl rfl ?_
  refine z_calli b (z_runS (As := [.int p0]) (st := []) b (c_X11_areLaws_3 S p0 ⟨by omega, by omega⟩) cf_X11_areLaws wm_X11_181 ws_X11_areLaws dX11_gain_8 rfl (Nat.le_of_ble_eq_true rfl) ⟨by decide, by decide, by decide, by decide⟩) (fun r12282 u12283 h12281 => ?_)
  obtain ⟨rfl, rfl⟩ := h12281
  refine z_if_eq_f (tgt := 26) b dX11_gain_11 (by decide) (by decide) ?_
  refine z_iload_n b dX11_gain_14 rfl rfl ?_
  refine z_calli b (z_runS (As := [.int p1]) (st := []) b (c_X11_isDepth_3 S p1 ⟨by omega, by omega⟩) cf_X11_isDepth wm_X11_203 ws_X11_isDepth dX11_gain_15 rfl (Nat.le_of_ble_eq_true rfl) ⟨by decide, by decide, by decide, by decide⟩) (fun r12285 u12286 h12284 => ?_)
  obtain ⟨rfl, rfl⟩ := h12284
  refine z_if_eq_f (tgt := 26) b dX11_gain_18 (by decide) (by decide) ?_
  refine z_iload b dX11_gain_21 rfl ?_
  refine z_if_ge_t (tgt := 29) b dX11_gain_23 (by decide) (by decide) ?_
  refine z_aload_n b dX11_gain_29 rfl rfl ?_
  refine z_get (q0 := 0) (k9 := 6) (v := .ref (a 25)) b (cw_0 cy tE a rw S) rfl in_X11 (by decide) wf_X11_52 rfl dX11_gain_30 ?_
  refine z_iload_n b dX11_gain_33 rfl rfl ?_
  refine z_iload_n b dX11_gain_34 rfl rfl ?_
  refine z_bipush (v := 7) b dX11_gain_35 (by decide) ?_
  refine z_iconst (v := 0) b dX11_gain_37 (by decide) ?_
  refine z_callv b (z_runV (q0 := 25) (As := [.int p0, .int p1, .int 7, .int 0]) (st := []) b (c_X8_begin_2 S p0 p1 h_i_19 h_i_24 h_i_22 h_i_18 h_i_25 h_i_23 h_i_26 h_a_4_50 h_a_4_40 h_a_4_41 h_a_4_42 h_a_4_0 h_a_4_11 h_a_4_21 h_a_4_31 h_a_4_12 h_a_4_22 h_a_4_32 h_a_4_1 h_a_4_13 h_a_4_23 h_a_4_33 h_a_4_15 h_a_4_25 h_a_4_35 h_a_4_2 h_a_4_16 h_a_4_26 h_a_4_36 h_a_4_17 h_a_4_27 h_a_4_37 h_a_10_0 ⟨by omega, by omega⟩ ⟨by omega, by omega⟩) cf_X8_begin (cw_25 cy tE a rw S) rfl wm_X11_206 wi_X8_begin ws_X8_begin dX11_gain_38 rfl (Nat.le_of_ble_eq_true rfl) ⟨by decide, by decide, by decide, by decide⟩) (fun u12289 h12287 => ?_)
  obtain rfl := h12287
  refine z_aload_n b dX11_gain_41 rfl rfl ?_
  refine z_get (q0 := 0) (k9 := 6) (v := .ref (a 25)) b (cw_0 cy tE a rw (su (si (su (su (sv (sa (si (si (si (si S 24 1) 19 p0) 20 p1) 21 7) 13 (fil 1024 0 (ar (si (si (si (si S 24 1) 19 p0) 20 p1) 21 7) 13))) 2 0 4128768) 11 0 (-1)) 12 0 (-1)) 25 1) 13 978 1)) rfl in_X11 (by decide) wf_X11_52 rfl dX11_gain_42 ?_
  refine z_callv b (z_runV (q0 := 25) (As := []) (st := []) b (c_X8_finish_2 (su (si (su (su (sv (sa (si (si (si (si S 24 1) 19 p0) 20 p1) 21 7) 13 (fil 1024 0 (ar (si (si (si (si S 24 1) 19 p0) 20 p1) 21 7) 13))) 2 0 4128768) 11 0 (-1)) 12 0 (-1)) 25 1) 13 978 1) h_i_26 h_i_23 rfl h_a_10_0 rfl h_a_9_50 h_a_9_40 h_a_9_41 h_a_9_42 h_a_9_0 h_a_9_11 h_a_9_21 h_a_9_31 h_a_9_12 h_a_9_22 h_a_9_32 h_a_9_1 h_a_9_13 h_a_9_23 h_a_9_33 h_a_9_15 h_a_9_25 h_a_9_35 h_a_9_2 h_a_9_16 h_a_9_26 h_a_9_36 h_a_9_17 h_a_9_27 h_a_9_37 h_i_18) cf_X8_finish (cw_25 cy tE a rw (su (si (su (su (sv (sa (si (si (si (si S 24 1) 19 p0) 20 p1) 21 7) 13 (fil 1024 0 (ar (si (si (si (si S 24 1) 19 p0) 20 p1) 21 7) 13))) 2 0 4128768) 11 0 (-1)) 12 0 (-1)) 25 1) 13 978 1)) rfl wm_X11_232 wi_X8_finish ws_X8_finish dX11_gain_45 rfl (Nat.le_of_ble_eq_true rfl) ⟨by decide, by decide, by decide, by decide⟩) (fun u12292 h12290 => ?_)
  rcases h12290 with ⟨c12293, rfl⟩ | ⟨c12294, rfl⟩
  · refine z_aload_n b dX11_gain_48 rfl rfl ?_
    refine z_get (q0 := 0) (k9 := 6) (v := .ref (a 25)) b (cw_0 cy tE a rw (si (su (si (su (su (sv (sa (si (si (si (si S 24 1) 19 p0) 20 p1) 21 7) 13 (fil 1024 0 (ar (si (si (si (si S 24 1) 19 p0) 20 p1) 21 7) 13))) 2 0 4128768) 11 0 (-1)) 12 0 (-1)) 25 1) 13 978 1) 23 1)) rfl in_X11 (by decide) wf_X11_52 rfl dX11_gain_49 ?_
    refine z_get (q0 := 25) (k9 := 18) (v := .int (fi (si (su (si (su (su (sv (sa (si (si (si (si S 24 1) 19 p0) 20 p1) 21 7) 13 (fil 1024 0 (ar (si (si (si (si S 24 1) 19 p0) 20 p1) 21 7) 13))) 2 0 4128768) 11 0 (-1)) 12 0 (-1)) 25 1) 13 978 1) 23 1) 26)) b (cw_25 cy tE a rw (si (su (si (su (su (sv (sa (si (si (si (si S 24 1) 19 p0) 20 p1) 21 7) 13 (fil 1024 0 (ar (si (si (si (si S 24 1) 19 p0) 20 p1) 21 7) 13))) 2 0 4128768) 11 0 (-1)) 12 0 (-1)) 25 1) 13 978 1) 23 1)) rfl in_X8 (by decide) wf_X11_214 rfl dX11_gain_52 ?_
    refine z_eqi h_i_26 ?_
    refine z_if_eq_t (tgt := 61) b dX11_gain_55 (by decide) (by decide) ?_
    refine z_aload_n b dX11_gain_61 rfl rfl ?_
    refine z_get (q0 := 0) (k9 := 6) (v := .ref (a 25)) b (cw_0 cy tE a rw (si (su (si (su (su (sv (sa (si (si (si (si S 24 1) 19 p0) 20 p1) 21 7) 13 (fil 1024 0 (ar (si (si (si (si S 24 1) 19 p0) 20 p1) 21 7) 13))) 2 0 4128768) 11 0 (-1)) 12 0 (-1)) 25 1) 13 978 1) 23 1)) rfl in_X11 (by decide) wf_X11_52 rfl dX11_gain_62 ?_
    refine z_iload_n b dX11_gain_65 rfl rfl ?_
    refine z_calli b (z_runV (q0 := 25) (As := [.int 0]) (st := []) b (c_X8_richest (si (su (si (su (su (sv (sa (si (si (si (si S 24 1) 19 p0) 20 p1) 21 7) 13 (fil 1024 0 (ar (si (si (si (si S 24 1) 19 p0) 20 p1) 21 7) 13))) 2 0 4128768) 11 0 (-1)) 12 0 (-1)) 25 1) 13 978 1) 23 1) rfl rfl h_a_9_50 h_a_9_40 h_a_9_41 h_a_9_42 h_a_9_0 h_a_9_11 h_a_9_21 h_a_9_31 h_a_9_12 h_a_9_22 h_a_9_32 h_a_9_1 h_a_9_13 h_a_9_23 h_a_9_33 h_a_9_15 h_a_9_25 h_a_9_35 h_a_9_2 h_a_9_16 h_a_9_26 h_a_9_36 h_a_9_17 h_a_9_27 h_a_9_37) cf_X8_richest (cw_25 cy tE a rw (si (su (si (su (su (sv (sa (si (si (si (si S 24 1) 19 p0) 20 p1) 21 7) 13 (fil 1024 0 (ar (si (si (si (si S 24 1) 19 p0) 20 p1) 21 7) 13))) 2 0 4128768) 11 0 (-1)) 12 0 (-1)) 25 1) 13 978 1) 23 1)) rfl wm_X11_238 wi_X8_richest ws_X8_richest dX11_gain_66 rfl (Nat.le_of_ble_eq_true rfl) ⟨by decide, by decide, by decide, by decide⟩) (fun r12296 u12297 h12295 => ?_)
    obtain ⟨rfl, rfl⟩ := h12295
    refine z_istore (lv' := [(5, .int 0), (0, .ref (a 0)), (1, .int 0), (2, .int p0), (3, .int p1), (4, .int 1)]) b dX11_gain_69 (by decide) rfl ?_
    refine z_iload b dX11_gain_71 rfl ?_
    refine z_if_ne_t (tgt := 87) b dX11_gain_73 (by decide) (by decide) ?_
    refine z_iload b dX11_gain_87 rfl ?_
    refine z_iconst (v := 1) b dX11_gain_89 (by decide) ?_
    refine z_icmp_ne_f (tgt := 103) b dX11_gain_90 (by decide) (by decide) ?_
    refine z_aload_n b dX11_gain_93 rfl rfl ?_
    refine z_get (q0 := 0) (k9 := 6) (v := .ref (a 25)) b (cw_0 cy tE a rw (si (su (si (su (su (sv (sa (si (si (si (si S 24 1) 19 p0) 20 p1) 21 7) 13 (fil 1024 0 (ar (si (si (si (si S 24 1) 19 p0) 20 p1) 21 7) 13))) 2 0 4128768) 11 0 (-1)) 12 0 (-1)) 25 1) 13 978 1) 23 1)) rfl in_X11 (by decide) wf_X11_52 rfl dX11_gain_94 ?_
    refine z_iload b dX11_gain_97 rfl ?_
    refine z_calli b (z_runV (q0 := 25) (As := [.int 0]) (st := []) b (c_X8_acts (si (su (si (su (su (sv (sa (si (si (si (si S 24 1) 19 p0) 20 p1) 21 7) 13 (fil 1024 0 (ar (si (si (si (si S 24 1) 19 p0) 20 p1) 21 7) 13))) 2 0 4128768) 11 0 (-1)) 12 0 (-1)) 25 1) 13 978 1) 23 1) rfl h_a_10_0) cf_X8_acts (cw_25 cy tE a rw (si (su (si (su (su (sv (sa (si (si (si (si S 24 1) 19 p0) 20 p1) 21 7) 13 (fil 1024 0 (ar (si (si (si (si S 24 1) 19 p0) 20 p1) 21 7) 13))) 2 0 4128768) 11 0 (-1)) 12 0 (-1)) 25 1) 13 978 1) 23 1)) rfl wm_X11_217 wi_X8_acts ws_X8_acts dX11_gain_99 rfl (Nat.le_of_ble_eq_true rfl) ⟨by decide, by decide, by decide, by decide⟩) (fun r12299 u12300 h12298 => ?_)
    obtain ⟨rfl, rfl⟩ := h12298
    exact z_iret (u := (si (su (si (su (su (sv (sa (si (si (si (si S 24 1) 19 p0) 20 p1) 21 7) 13 (fil 1024 0 (ar (si (si (si (si S 24 1) 19 p0) 20 p1) 21 7) 13))) 2 0 4128768) 11 0 (-1)) 12 0 (-1)) 25 1) 13 978 1) 23 1)) b rfl dX11_gain_102 (Or.inl ⟨c12293, rfl, rfl⟩) rfl (by decide) (by decide)
  · refine z_aload_n b dX11_gain_48 rfl rfl ?_
    refine z_get (q0 := 0) (k9 := 6) (v := .ref (a 25)) b (cw_0 cy tE a rw (su (si (su (su (sv (sa (si (si (si (si S 24 1) 19 p0) 20 p1) 21 7) 13 (fil 1024 0 (ar (si (si (si (si S 24 1) 19 p0) 20 p1) 21 7) 13))) 2 0 4128768) 11 0 (-1)) 12 0 (-1)) 25 1) 13 978 1)) rfl in_X11 (by decide) wf_X11_52 rfl dX11_gain_49 ?_
    refine z_get (q0 := 25) (k9 := 18) (v := .int (fi (su (si (su (su (sv (sa (si (si (si (si S 24 1) 19 p0) 20 p1) 21 7) 13 (fil 1024 0 (ar (si (si (si (si S 24 1) 19 p0) 20 p1) 21 7) 13))) 2 0 4128768) 11 0 (-1)) 12 0 (-1)) 25 1) 13 978 1) 26)) b (cw_25 cy tE a rw (su (si (su (su (sv (sa (si (si (si (si S 24 1) 19 p0) 20 p1) 21 7) 13 (fil 1024 0 (ar (si (si (si (si S 24 1) 19 p0) 20 p1) 21 7) 13))) 2 0 4128768) 11 0 (-1)) 12 0 (-1)) 25 1) 13 978 1)) rfl in_X8 (by decide) wf_X11_214 rfl dX11_gain_52 ?_
    refine z_eqi h_i_26 ?_
    refine z_if_eq_t (tgt := 61) b dX11_gain_55 (by decide) (by decide) ?_
    refine z_aload_n b dX11_gain_61 rfl rfl ?_
    refine z_get (q0 := 0) (k9 := 6) (v := .ref (a 25)) b (cw_0 cy tE a rw (su (si (su (su (sv (sa (si (si (si (si S 24 1) 19 p0) 20 p1) 21 7) 13 (fil 1024 0 (ar (si (si (si (si S 24 1) 19 p0) 20 p1) 21 7) 13))) 2 0 4128768) 11 0 (-1)) 12 0 (-1)) 25 1) 13 978 1)) rfl in_X11 (by decide) wf_X11_52 rfl dX11_gain_62 ?_
    refine z_iload_n b dX11_gain_65 rfl rfl ?_
    refine z_calli b (z_runV (q0 := 25) (As := [.int 0]) (st := []) b (c_X8_richest (su (si (su (su (sv (sa (si (si (si (si S 24 1) 19 p0) 20 p1) 21 7) 13 (fil 1024 0 (ar (si (si (si (si S 24 1) 19 p0) 20 p1) 21 7) 13))) 2 0 4128768) 11 0 (-1)) 12 0 (-1)) 25 1) 13 978 1) rfl rfl h_a_9_50 h_a_9_40 h_a_9_41 h_a_9_42 h_a_9_0 h_a_9_11 h_a_9_21 h_a_9_31 h_a_9_12 h_a_9_22 h_a_9_32 h_a_9_1 h_a_9_13 h_a_9_23 h_a_9_33 h_a_9_15 h_a_9_25 h_a_9_35 h_a_9_2 h_a_9_16 h_a_9_26 h_a_9_36 h_a_9_17 h_a_9_27 h_a_9_37) cf_X8_richest (cw_25 cy tE a rw (su (si (su (su (sv (sa (si (si (si (si S 24 1) 19 p0) 20 p1) 21 7) 13 (fil 1024 0 (ar (si (si (si (si S 24 1) 19 p0) 20 p1) 21 7) 13))) 2 0 4128768) 11 0 (-1)) 12 0 (-1)) 25 1) 13 978 1)) rfl wm_X11_238 wi_X8_richest ws_X8_richest dX11_gain_66 rfl (Nat.le_of_ble_eq_true rfl) ⟨by decide, by decide, by decide, by decide⟩) (fun r12302 u12303 h12301 => ?_)
    obtain ⟨rfl, rfl⟩ := h12301
    refine z_istore (lv' := [(5, .int 0), (0, .ref (a 0)), (1, .int 0), (2, .int p0), (3, .int p1), (4, .int 1)]) b dX11_gain_69 (by decide) rfl ?_
    refine z_iload b dX11_gain_71 rfl ?_
    refine z_if_ne_t (tgt := 87) b dX11_gain_73 (by decide) (by decide) ?_
    refine z_iload b dX11_gain_87 rfl ?_
    refine z_iconst (v := 1) b dX11_gain_89 (by decide) ?_
    refine z_icmp_ne_f (tgt := 103) b dX11_gain_90 (by decide) (by decide) ?_
    refine z_aload_n b dX11_gain_93 rfl rfl ?_
    refine z_get (q0 := 0) (k9 := 6) (v := .ref (a 25)) b (cw_0 cy tE a rw (su (si (su (su (sv (sa (si (si (si (si S 24 1) 19 p0) 20 p1) 21 7) 13 (fil 1024 0 (ar (si (si (si (si S 24 1) 19 p0) 20 p1) 21 7) 13))) 2 0 4128768) 11 0 (-1)) 12 0 (-1)) 25 1) 13 978 1)) rfl in_X11 (by decide) wf_X11_52 rfl dX11_gain_94 ?_
    refine z_iload b dX11_gain_97 rfl ?_
    refine z_calli b (z_runV (q0 := 25) (As := [.int 0]) (st := []) b (c_X8_acts (su (si (su (su (sv (sa (si (si (si (si S 24 1) 19 p0) 20 p1) 21 7) 13 (fil 1024 0 (ar (si (si (si (si S 24 1) 19 p0) 20 p1) 21 7) 13))) 2 0 4128768) 11 0 (-1)) 12 0 (-1)) 25 1) 13 978 1) rfl h_a_10_0) cf_X8_acts (cw_25 cy tE a rw (su (si (su (su (sv (sa (si (si (si (si S 24 1) 19 p0) 20 p1) 21 7) 13 (fil 1024 0 (ar (si (si (si (si S 24 1) 19 p0) 20 p1) 21 7) 13))) 2 0 4128768) 11 0 (-1)) 12 0 (-1)) 25 1) 13 978 1)) rfl wm_X11_217 wi_X8_acts ws_X8_acts dX11_gain_99 rfl (Nat.le_of_ble_eq_true rfl) ⟨by decide, by decide, by decide, by decide⟩) (fun r12305 u12306 h12304 => ?_)
    obtain ⟨rfl, rfl⟩ := h12304
    exact z_iret (u := (su (si (su (su (sv (sa (si (si (si (si S 24 1) 19 p0) 20 p1) 21 7) 13 (fil 1024 0 (ar (si (si (si (si S 24 1) 19 p0) 20 p1) 21 7) 13))) 2 0 4128768) 11 0 (-1)) 12 0 (-1)) 25 1) 13 978 1)) b rfl dX11_gain_102 (Or.inr ⟨c12294, rfl, rfl⟩) rfl (by decide) (by decide)

set_option maxHeartbeats 4000000 in
set_option maxRecDepth 100000 in
theorem c_X12_gain_22 {l : Launch} {D : va_G} {cy : Nat → ClassId} {T0 tB tE : Nat} {a : Nat → Nat} (S : GS) (p0 : Int32) (p1 : Int32) (h_i_21 : fi S 21 = 0) (h_i_23 : fi S 23 = 0) (h_l_0 : fl S 0 = 1649317774848) (h_a_29_992 : ar S 29 992 = (-1)) (h_a_28_0 : ar S 28 0 = 0) (h_a_7_0 : ar S 7 0 = 0) (h_a_7_1 : ar S 7 1 = 0) (h_a_4_7 : ar S 4 7 = 0) (h_a_1_7 : ar S 1 7 = 0) (h_a_4_6 : ar S 4 6 = 0) (h_a_1_6 : ar S 1 6 = 0) (h_a_3_6 : ar S 3 6 = 0) (h_a_3_2 : ar S 3 2 = 0) (h_a_2_2 : ar S 2 2 = 3) (h_a_0_2 : ar S 0 2 = 0) (h_a_4_3 : ar S 4 3 = 0) (h_a_1_3 : ar S 1 3 = 0) (h_a_4_5 : ar S 4 5 = 0) (h_a_1_5 : ar S 1 5 = 0) (h_a_3_5 : ar S 3 5 = 0) (h_a_3_7 : ar S 3 7 = 0) (h_a_2_1 : ar S 2 1 = 3) (h_a_0_1 : ar S 0 1 = 0) (h_a_4_2 : ar S 4 2 = 0) (h_a_1_2 : ar S 1 2 = 0) (h_a_4_1 : ar S 4 1 = 0) (h_a_1_1 : ar S 1 1 = 0) (h_a_3_1 : ar S 3 1 = 0) (h_a_3_3 : ar S 3 3 = 0) (h_a_2_0 : ar S 2 0 = 3) (h_a_0_0 : ar S 0 0 = 0) (h_i_0 : fi S 0 = 0) (hr_p0 : 1 ≤ p0.toInt ∧ p0.toInt ≤ 3) (hr_p1 : 1 ≤ p1.toInt ∧ p1.toInt ≤ 6) : Ct l D cy T0 tB tE yX12_gain cX12_gain 9 (some .int) 4 99 0 0 (mw cy a S) [.ref (a 0), .int 0, .int p0, .int p1, .int 1] (QI D (U := GS) (fun r u => 0 = r ∧ (si (su (su (sv (su (su (si S 22 (-1)) 29 992 0) 30 0 992) 0 0 1649317774848) 26 0 (-1)) 27 0 (-1)) 21 1) = u) (mw cy a)) := by
  refine Ct.ofZ RX12 "gain" [(0, .ref (a 0)), (1, .int 0), (2, .int p0), (3, .int p1), (4, .int 1)] rfl rfl rfl rfl (Nat.le_of_ble_eq_true rfl) ?_
  intro p e R s m args below meth c A b
  refine z_iload_n b dX12_gain_0 rfl rfl ?_
  refine z_calli b (z_runS (As := [.int 0]) (st := []) b (c_X12_isOne_3 S ) cf_X12_isOne wm_X12_170 ws_X12_isOne dX12_gain_1 rfl (Nat.le_of_ble_eq_true rfl) ⟨by decide, by decide, by decide, by decide⟩) (fun r12308 u12309 h12307 => ?_)
  obtain ⟨rfl, rfl⟩ := h12307
  refine z_if_eq_f (tgt := 27) b dX12_gain_4 (by decide) (by decide) ?_
  refine z_aload_n b dX12_gain_7 rfl rfl ?_
  refine z_iload_n b dX12_gain_8 rfl rfl ?_
  refine z_iload_n b dX12_gain_9 rfl rfl ?_
  refine z_calli b (z_runV (q0 := 0) (As := [.int p0, .int p1]) (st := []) b (c_X12_canSearch_5 S p0 p1 ⟨by omega, by omega⟩ ⟨by omega, by omega⟩) cf_X12_canSearch (mw_0 cy a S) rfl wm_X12_433 wi_X12_canSearch ws_X12_canSearch dX12_gain_10 rfl (Nat.le_of_ble_eq_true rfl) ⟨by decide, by decide, by decide, by decide⟩) (fun r12311 u12312 h12310 => ?_)
  obtain ⟨rfl, rfl⟩ := h12310
  refine z_if_eq_f (tgt := 27) b dX12_gain_13 (by decide) (by decide) ?_
  refine z_iload b dX12_gain_16 rfl ?_
  refine z_iconst (v := 0) b dX12_gain_18 (by decide) ?_
  refine z_bipush (v := 7) b dX12_gain_19 (by decide) ?_
  refine z_calli b (z_runS (As := [.int 1, .int 0, .int 7]) (st := []) b (c_X12_isIn_60 S ) cf_X12_isIn wm_X12_1 ws_X12_isIn dX12_gain_21 rfl (Nat.le_of_ble_eq_true rfl) ⟨by decide, by decide, by decide, by decide⟩) (fun r12314 u12315 h12313 => ?_)
  obtain ⟨rfl, rfl⟩ := h12313
  refine z_if_ne_t (tgt := 30) b dX12_gain_24 (by decide) (by decide) ?_
  refine z_aload_n b dX12_gain_30 rfl rfl ?_
  refine z_iconst (v := (-1)) b dX12_gain_31 (by decide) ?_
  refine z_iload_n b dX12_gain_32 rfl rfl ?_
  refine z_iload_n b dX12_gain_33 rfl rfl ?_
  refine z_bipush (v := 7) b dX12_gain_34 (by decide) ?_
  refine z_iconst (v := 0) b dX12_gain_36 (by decide) ?_
  refine z_callv b (z_runV (q0 := 0) (As := [.int (-1), .int p0, .int p1, .int 7, .int 0]) (st := []) b (c_X12_searches_2 S p0 p1 h_i_21 h_i_23 h_l_0 h_a_29_992 h_a_28_0 h_a_7_0 h_a_7_1 ⟨by omega, by omega⟩ ⟨by omega, by omega⟩) cf_X12_searches (mw_0 cy a S) rfl wm_X12_436 wi_X12_searches ws_X12_searches dX12_gain_37 rfl (Nat.le_of_ble_eq_true rfl) ⟨by decide, by decide, by decide, by decide⟩) (fun u12318 h12316 => ?_)
  obtain rfl := h12316
  refine z_aload_n b dX12_gain_40 rfl rfl ?_
  refine z_get (q0 := 0) (k9 := 57) (v := .int (fi (si (su (su (sv (su (su (si S 22 (-1)) 29 992 0) 30 0 992) 0 0 1649317774848) 26 0 (-1)) 27 0 (-1)) 21 1) 23)) b (mw_0 cy a (si (su (su (sv (su (su (si S 22 (-1)) 29 992 0) 30 0 992) 0 0 1649317774848) 26 0 (-1)) 27 0 (-1)) 21 1)) rfl in_X12 (by decide) wf_X12_408 rfl dX12_gain_41 ?_
  refine z_eqi h_i_23 ?_
  refine z_if_eq_t (tgt := 50) b dX12_gain_44 (by decide) (by decide) ?_
  refine z_iconst (v := (-1)) b dX12_gain_50 (by decide) ?_
  refine z_istore (lv' := [(5, .int (-1)), (0, .ref (a 0)), (1, .int 0), (2, .int p0), (3, .int p1), (4, .int 1)]) b dX12_gain_51 (by decide) rfl ?_
  refine z_iconst (v := 0) b dX12_gain_53 (by decide) ?_
  refine z_istore (lv' := [(6, .int 0), (5, .int (-1)), (0, .ref (a 0)), (1, .int 0), (2, .int p0), (3, .int p1), (4, .int 1)]) b dX12_gain_54 (by decide) rfl ?_
  refine z_iconst (v := 0) b dX12_gain_56 (by decide) ?_
  refine z_istore (lv' := [(7, .int 0), (6, .int 0), (5, .int (-1)), (0, .ref (a 0)), (1, .int 0), (2, .int p0), (3, .int p1), (4, .int 1)]) b dX12_gain_57 (by decide) rfl ?_
  refine z_iload b dX12_gain_59 rfl ?_
  refine z_aload_n b dX12_gain_61 rfl rfl ?_
  refine z_get (q0 := 0) (k9 := 55) (v := .int 1) b (mw_0 cy a (si (su (su (sv (su (su (si S 22 (-1)) 29 992 0) 30 0 992) 0 0 1649317774848) 26 0 (-1)) 27 0 (-1)) 21 1)) rfl in_X12 (by decide) wf_X12_405 rfl dX12_gain_62 ?_
  refine z_icmp_ge_f (tgt := 147) b dX12_gain_65 (by decide) (by decide) ?_
  refine z_aload_n b dX12_gain_68 rfl rfl ?_
  refine z_aload_n b dX12_gain_69 rfl rfl ?_
  refine z_get (q0 := 0) (k9 := 49) (v := .ref (a 27)) b (mw_0 cy a (si (su (su (sv (su (su (si S 22 (-1)) 29 992 0) 30 0 992) 0 0 1649317774848) 26 0 (-1)) 27 0 (-1)) 21 1)) rfl in_X12 (by decide) wf_X12_97 rfl dX12_gain_70 ?_
  refine z_iload b dX12_gain_73 rfl ?_
  refine y_lald (q0 := 27) (j := 0) (v := 1649317774848) b (mw_27 cy a (si (su (su (sv (su (su (si S 22 (-1)) 29 992 0) 30 0 992) 0 0 1649317774848) 26 0 (-1)) 27 0 (-1)) 21 1)) (by decide) rfl dX12_gain_75 ?_
  refine z_callv b (z_runV (q0 := 0) (As := [.long 1649317774848]) (st := []) b (c_X12_takes (si (su (su (sv (su (su (si S 22 (-1)) 29 992 0) 30 0 992) 0 0 1649317774848) 26 0 (-1)) 27 0 (-1)) 21 1) h_a_4_7 h_a_1_7 h_a_4_6 h_a_1_6 h_a_3_6 h_a_3_2 h_a_2_2 h_a_0_2 h_a_4_3 h_a_1_3 h_a_4_5 h_a_1_5 h_a_3_5 h_a_3_7 h_a_2_1 h_a_0_1 h_a_4_2 h_a_1_2 h_a_4_1 h_a_1_1 h_a_3_1 h_a_3_3 h_a_2_0 h_a_0_0 h_i_0) cf_X12_takes (mw_0 cy a (si (su (su (sv (su (su (si S 22 (-1)) 29 992 0) 30 0 992) 0 0 1649317774848) 26 0 (-1)) 27 0 (-1)) 21 1)) rfl wm_X12_174 wi_X12_takes ws_X12_takes dX12_gain_76 rfl (Nat.le_of_ble_eq_true rfl) ⟨by decide, by decide, by decide, by decide⟩) (fun u12321 h12319 => ?_)
  obtain rfl := h12319
  refine z_aload_n b dX12_gain_79 rfl rfl ?_
  refine z_get (q0 := 0) (k9 := 0) (v := .ref (a 1)) b (mw_0 cy a (si (su (su (sv (su (su (si S 22 (-1)) 29 992 0) 30 0 992) 0 0 1649317774848) 26 0 (-1)) 27 0 (-1)) 21 1)) rfl in_X12 (by decide) wf_X12_13 rfl dX12_gain_80 ?_
  refine z_iload_n b dX12_gain_83 rfl rfl ?_
  refine y_iald (q0 := 1) (j := 0) (v := (ar (si (su (su (sv (su (su (si S 22 (-1)) 29 992 0) 30 0 992) 0 0 1649317774848) 26 0 (-1)) 27 0 (-1)) 21 1) 0 0)) b (mw_1 cy a (si (su (su (sv (su (su (si S 22 (-1)) 29 992 0) 30 0 992) 0 0 1649317774848) 26 0 (-1)) 27 0 (-1)) 21 1)) (by decide) rfl dX12_gain_84 ?_
  refine z_eqi h_a_0_0 ?_
  refine z_aload_n b dX12_gain_85 rfl rfl ?_
  refine z_get (q0 := 0) (k9 := 1) (v := .ref (a 2)) b (mw_0 cy a (si (su (su (sv (su (su (si S 22 (-1)) 29 992 0) 30 0 992) 0 0 1649317774848) 26 0 (-1)) 27 0 (-1)) 21 1)) rfl in_X12 (by decide) wf_X12_17 rfl dX12_gain_86 ?_
  refine z_iconst (v := 3) b dX12_gain_89 (by decide) ?_
  refine z_iload_n b dX12_gain_90 rfl rfl ?_
  refine z_imul (v := 0) b dX12_gain_91 (by decide) ?_
  refine z_iload_n b dX12_gain_92 rfl rfl ?_
  refine z_iconst (v := 0) b dX12_gain_93 (by decide) ?_
  refine z_calli b (z_runS (As := [.int 0, .int 0]) (st := [.int 0, .ref (a 2), .int 0]) b (c_X12_other_6 (si (su (su (sv (su (su (si S 22 (-1)) 29 992 0) 30 0 992) 0 0 1649317774848) 26 0 (-1)) 27 0 (-1)) 21 1) ) cf_X12_other wm_X12_160 ws_X12_other dX12_gain_94 rfl (Nat.le_of_ble_eq_true rfl) ⟨by decide, by decide, by decide, by decide⟩) (fun r12323 u12324 h12322 => ?_)
  obtain ⟨rfl, rfl⟩ := h12322
  refine z_iadd (v := 1) b dX12_gain_97 (by decide) ?_
  refine y_iald (q0 := 2) (j := 1) (v := (ar (si (su (su (sv (su (su (si S 22 (-1)) 29 992 0) 30 0 992) 0 0 1649317774848) 26 0 (-1)) 27 0 (-1)) 21 1) 1 1)) b (mw_2 cy a (si (su (su (sv (su (su (si S 22 (-1)) 29 992 0) 30 0 992) 0 0 1649317774848) 26 0 (-1)) 27 0 (-1)) 21 1)) (by decide) rfl dX12_gain_98 ?_
  refine z_eqi h_a_1_1 ?_
  refine z_isub (v := 0) b dX12_gain_99 (by decide) ?_
  refine z_aload_n b dX12_gain_100 rfl rfl ?_
  refine z_get (q0 := 0) (k9 := 1) (v := .ref (a 2)) b (mw_0 cy a (si (su (su (sv (su (su (si S 22 (-1)) 29 992 0) 30 0 992) 0 0 1649317774848) 26 0 (-1)) 27 0 (-1)) 21 1)) rfl in_X12 (by decide) wf_X12_17 rfl dX12_gain_101 ?_
  refine z_iconst (v := 3) b dX12_gain_104 (by decide) ?_
  refine z_iload_n b dX12_gain_105 rfl rfl ?_
  refine z_imul (v := 0) b dX12_gain_106 (by decide) ?_
  refine z_iload_n b dX12_gain_107 rfl rfl ?_
  refine z_iconst (v := 1) b dX12_gain_108 (by decide) ?_
  refine z_calli b (z_runS (As := [.int 0, .int 1]) (st := [.int 0, .ref (a 2), .int 0]) b (c_X12_other_5 (si (su (su (sv (su (su (si S 22 (-1)) 29 992 0) 30 0 992) 0 0 1649317774848) 26 0 (-1)) 27 0 (-1)) 21 1) ) cf_X12_other wm_X12_160 ws_X12_other dX12_gain_109 rfl (Nat.le_of_ble_eq_true rfl) ⟨by decide, by decide, by decide, by decide⟩) (fun r12326 u12327 h12325 => ?_)
  obtain ⟨rfl, rfl⟩ := h12325
  refine z_iadd (v := 2) b dX12_gain_112 (by decide) ?_
  refine y_iald (q0 := 2) (j := 2) (v := (ar (si (su (su (sv (su (su (si S 22 (-1)) 29 992 0) 30 0 992) 0 0 1649317774848) 26 0 (-1)) 27 0 (-1)) 21 1) 1 2)) b (mw_2 cy a (si (su (su (sv (su (su (si S 22 (-1)) 29 992 0) 30 0 992) 0 0 1649317774848) 26 0 (-1)) 27 0 (-1)) 21 1)) (by decide) rfl dX12_gain_113 ?_
  refine z_eqi h_a_1_2 ?_
  refine z_isub (v := 0) b dX12_gain_114 (by decide) ?_
  refine z_istore (lv' := [(8, .int 0), (7, .int 0), (6, .int 0), (5, .int (-1)), (0, .ref (a 0)), (1, .int 0), (2, .int p0), (3, .int p1), (4, .int 1)]) b dX12_gain_115 (by decide) rfl ?_
  refine z_iload b dX12_gain_117 rfl ?_
  refine z_iconst (v := (-1)) b dX12_gain_119 (by decide) ?_
  refine z_icmp_eq_t (tgt := 133) b dX12_gain_120 (by decide) (by decide) ?_
  refine z_iload b dX12_gain_133 rfl ?_
  refine z_istore (lv' := [(5, .int 0), (8, .int 0), (7, .int 0), (6, .int 0), (0, .ref (a 0)), (1, .int 0), (2, .int p0), (3, .int p1), (4, .int 1)]) b dX12_gain_135 (by decide) rfl ?_
  refine z_iload b dX12_gain_137 rfl ?_
  refine z_istore (lv' := [(6, .int 0), (5, .int 0), (8, .int 0), (7, .int 0), (0, .ref (a 0)), (1, .int 0), (2, .int p0), (3, .int p1), (4, .int 1)]) b dX12_gain_139 (by decide) rfl ?_
  refine z_iinc (k9 := 3) (v := 1) (lv' := [(7, .int 1), (6, .int 0), (5, .int 0), (8, .int 0), (0, .ref (a 0)), (1, .int 0), (2, .int p0), (3, .int p1), (4, .int 1)]) b dX12_gain_141 rfl (by decide) (by decide) rfl ?_
  refine z_goto (tgt := 59) b dX12_gain_144 (by decide) ?_
  refine z_iload b dX12_gain_59 rfl ?_
  refine z_aload_n b dX12_gain_61 rfl rfl ?_
  refine z_get (q0 := 0) (k9 := 55) (v := .int 1) b (mw_0 cy a (si (su (su (sv (su (su (si S 22 (-1)) 29 992 0) 30 0 992) 0 0 1649317774848) 26 0 (-1)) 27 0 (-1)) 21 1)) rfl in_X12 (by decide) wf_X12_405 rfl dX12_gain_62 ?_
  refine z_icmp_ge_t (tgt := 147) b dX12_gain_65 (by decide) (by decide) ?_
  refine z_iload b dX12_gain_147 rfl ?_
  refine z_iconst (v := 2) b dX12_gain_149 (by decide) ?_
  refine z_icmp_ge_f (tgt := 171) b dX12_gain_150 (by decide) (by decide) ?_
  refine z_iload b dX12_gain_153 rfl ?_
  refine z_if_ne_t (tgt := 163) b dX12_gain_155 (by decide) (by decide) ?_
  refine z_aload_n b dX12_gain_163 rfl rfl ?_
  refine z_get (q0 := 0) (k9 := 52) (v := .ref (a 30)) b (mw_0 cy a (si (su (su (sv (su (su (si S 22 (-1)) 29 992 0) 30 0 992) 0 0 1649317774848) 26 0 (-1)) 27 0 (-1)) 21 1)) rfl in_X12 (by decide) wf_X12_107 rfl dX12_gain_164 ?_
  refine z_iload b dX12_gain_167 rfl ?_
  refine y_iald (q0 := 30) (j := 0) (v := (ar (si (su (su (sv (su (su (si S 22 (-1)) 29 992 0) 30 0 992) 0 0 1649317774848) 26 0 (-1)) 27 0 (-1)) 21 1) 28 0)) b (mw_30 cy a (si (su (su (sv (su (su (si S 22 (-1)) 29 992 0) 30 0 992) 0 0 1649317774848) 26 0 (-1)) 27 0 (-1)) 21 1)) (by decide) rfl dX12_gain_169 ?_
  refine z_eqi h_a_28_0 ?_
  exact z_iret (u := (si (su (su (sv (su (su (si S 22 (-1)) 29 992 0) 30 0 992) 0 0 1649317774848) 26 0 (-1)) 27 0 (-1)) 21 1)) b rfl dX12_gain_170 ⟨rfl, rfl⟩ rfl (by decide) (by decide)

set_option maxHeartbeats 4000000 in
set_option maxRecDepth 100000 in
theorem c_X11_gain_23 {l : Launch} {D : va_G} {cy : Nat → ClassId} {T0 tB tE : Nat} {a : Nat → Nat} {rw : Nat → Option Nat} (S : GS) (p0 : Int32) (p1 : Int32) (p2 : Int32) (h_i_19 : fi S 19 = 0) (h_i_24 : fi S 24 = 0) (h_i_22 : fi S 22 = 0) (h_i_18 : fi S 18 = 0) (h_i_25 : fi S 25 = 0) (h_i_23 : fi S 23 = 0) (h_i_26 : fi S 26 = 0) (h_a_4_50 : ar S 4 50 = 0) (h_a_4_40 : ar S 4 40 = 3) (h_a_4_41 : ar S 4 41 = 3) (h_a_4_42 : ar S 4 42 = 3) (h_a_4_0 : ar S 4 0 = 0) (h_a_4_11 : ar S 4 11 = 0) (h_a_4_21 : ar S 4 21 = 0) (h_a_4_31 : ar S 4 31 = 0) (h_a_4_12 : ar S 4 12 = 0) (h_a_4_22 : ar S 4 22 = 0) (h_a_4_32 : ar S 4 32 = 0) (h_a_4_1 : ar S 4 1 = 0) (h_a_4_13 : ar S 4 13 = 0) (h_a_4_23 : ar S 4 23 = 0) (h_a_4_33 : ar S 4 33 = 0) (h_a_4_15 : ar S 4 15 = 0) (h_a_4_25 : ar S 4 25 = 0) (h_a_4_35 : ar S 4 35 = 0) (h_a_4_2 : ar S 4 2 = 0) (h_a_4_16 : ar S 4 16 = 0) (h_a_4_26 : ar S 4 26 = 0) (h_a_4_36 : ar S 4 36 = 0) (h_a_4_17 : ar S 4 17 = 0) (h_a_4_27 : ar S 4 27 = 0) (h_a_4_37 : ar S 4 37 = 0) (h_a_10_0 : ar S 10 0 = 0) (h_a_9_50 : ar S 9 50 = 0) (h_a_9_40 : ar S 9 40 = 3) (h_a_9_41 : ar S 9 41 = 3) (h_a_9_42 : ar S 9 42 = 3) (h_a_9_0 : ar S 9 0 = 0) (h_a_9_11 : ar S 9 11 = 0) (h_a_9_21 : ar S 9 21 = 0) (h_a_9_31 : ar S 9 31 = 0) (h_a_9_12 : ar S 9 12 = 0) (h_a_9_22 : ar S 9 22 = 0) (h_a_9_32 : ar S 9 32 = 0) (h_a_9_1 : ar S 9 1 = 0) (h_a_9_13 : ar S 9 13 = 0) (h_a_9_23 : ar S 9 23 = 0) (h_a_9_33 : ar S 9 33 = 0) (h_a_9_15 : ar S 9 15 = 0) (h_a_9_25 : ar S 9 25 = 0) (h_a_9_35 : ar S 9 35 = 0) (h_a_9_2 : ar S 9 2 = 0) (h_a_9_16 : ar S 9 16 = 0) (h_a_9_26 : ar S 9 26 = 0) (h_a_9_36 : ar S 9 36 = 0) (h_a_9_17 : ar S 9 17 = 0) (h_a_9_27 : ar S 9 27 = 0) (h_a_9_37 : ar S 9 37 = 0) (hr_p0 : 1 ≤ p0.toInt ∧ p0.toInt ≤ 3) (hr_p1 : 1 ≤ p1.toInt ∧ p1.toInt ≤ 6) (hr_p2 : 2 ≤ p2.toInt ∧ p2.toInt ≤ 7) : Ct l D cy T0 tB tE yX11_gain cX11_gain 7 (some .int) 5 117 0 0 (cw cy tE a rw S) [.ref (a 0), .int 0, .int p0, .int p1, .int p2] (QI D (U := GS) (fun r u => (((0 ≤ p2.toInt) ∧ (((0 < ((fi (su (si (su (su (sv (sa (si (si (si (si S 24 1) 19 p0) 20 p1) 21 7) 13 (fil 1024 0 (ar (si (si (si (si S 24 1) 19 p0) 20 p1) 21 7) 13))) 2 0 4128768) 11 0 (-1)) 12 0 (-1)) 25 1) 13 978 1) 20) : Int32).toInt))) ∧ (p2.toInt ≠ 0) ∧ (p2.toInt ≠ 1)) ∧ (-100) = r ∧ (si (su (si (su (su (sv (sa (si (si (si (si S 24 1) 19 p0) 20 p1) 21 7) 13 (fil 1024 0 (ar (si (si (si (si S 24 1) 19 p0) 20 p1) 21 7) 13))) 2 0 4128768) 11 0 (-1)) 12 0 (-1)) 25 1) 13 978 1) 23 1) = u) ∨ (((0 ≤ p2.toInt) ∧ (((((fi (su (si (su (su (sv (sa (si (si (si (si S 24 1) 19 p0) 20 p1) 21 7) 13 (fil 1024 0 (ar (si (si (si (si S 24 1) 19 p0) 20 p1) 21 7) 13))) 2 0 4128768) 11 0 (-1)) 12 0 (-1)) 25 1) 13 978 1) 20) : Int32).toInt ≤ 0))) ∧ (p2.toInt ≠ 0) ∧ (p2.toInt ≠ 1)) ∧ (-100) = r ∧ (su (si (su (su (sv (sa (si (si (si (si S 24 1) 19 p0) 20 p1) 21 7) 13 (fil 1024 0 (ar (si (si (si (si S 24 1) 19 p0) 20 p1) 21 7) 13))) 2 0 4128768) 11 0 (-1)) 12 0 (-1)) 25 1) 13 978 1) = u)) (cw cy tE a rw)) := by
  refine Ct.ofZ RX11 "gain" [(0, .ref (a 0)), (1, .int 0), (2, .int p0), (3, .int p1), (4, .int p2)] rfl rfl rfl rfl (Nat.le_of_ble_eq_true rfl) ?_
  intro p e R s m args below meth c A b
  refine z_iload_n b dX11_gain_0 rfl rfl ?_
  refine z_calli b (z_runS (As := [.int 0]) (st := []) b (c_X11_isPerson_3 S ) cf_X11_isPerson wm_X11_69 ws_X11_isPerson dX11_gain_1 rfl (Nat.le_of_ble_eq_true rfl) ⟨by decide, by decide, by decide, by decide⟩) (fun r12329 u12330 h12328 => ?_)
  obtain ⟨rfl, rfl⟩ := h12328
  refine z_if_eq_f (tgt := 26) b dX11_gain_4 (by decide) (by decide) ?_
  refine z_iload_n b dX11_gain_7 rfl rfl ?_
  refine z_calli b (z_runS (As := [.int p0]) (st := []) b (c_X11_areLaws_3 S p0 ⟨by omega, by omega⟩) cf_X11_areLaws wm_X11_181 ws_X11_areLaws dX11_gain_8 rfl (Nat.le_of_ble_eq_true rfl) ⟨by decide, by decide, by decide, by decide⟩) (fun r12332 u12333 h12331 => ?_)
  obtain ⟨rfl, rfl⟩ := h12331
  refine z_if_eq_f (tgt := 26) b dX11_gain_11 (by decide) (by decide) ?_
  refine z_iload_n b dX11_gain_14 rfl rfl ?_
  refine z_calli b (z_runS (As := [.int p1]) (st := []) b (c_X11_isDepth_3 S p1 ⟨by omega, by omega⟩) cf_X11_isDepth wm_X11_203 ws_X11_isDepth dX11_gain_15 rfl (Nat.le_of_ble_eq_true rfl) ⟨by decide, by decide, by decide, by decide⟩) (fun r12335 u12336 h12334 => ?_)
  obtain ⟨rfl, rfl⟩ := h12334
  refine z_if_eq_f (tgt := 26) b dX11_gain_18 (by decide) (by decide) ?_
  refine z_iload b dX11_gain_21 rfl ?_
  refine y_if_ge (tgt := 29) (xl := p2.toInt) b rfl dX11_gain_23 (by decide) (fun c12337 => ?_) (fun c12337 => ?_)
  · refine z_aload_n b dX11_gain_29 rfl rfl ?_
    refine z_get (q0 := 0) (k9 := 6) (v := .ref (a 25)) b (cw_0 cy tE a rw S) rfl in_X11 (by decide) wf_X11_52 rfl dX11_gain_30 ?_
    refine z_iload_n b dX11_gain_33 rfl rfl ?_
    refine z_iload_n b dX11_gain_34 rfl rfl ?_
    refine z_bipush (v := 7) b dX11_gain_35 (by decide) ?_
    refine z_iconst (v := 0) b dX11_gain_37 (by decide) ?_
    refine z_callv b (z_runV (q0 := 25) (As := [.int p0, .int p1, .int 7, .int 0]) (st := []) b (c_X8_begin_2 S p0 p1 h_i_19 h_i_24 h_i_22 h_i_18 h_i_25 h_i_23 h_i_26 h_a_4_50 h_a_4_40 h_a_4_41 h_a_4_42 h_a_4_0 h_a_4_11 h_a_4_21 h_a_4_31 h_a_4_12 h_a_4_22 h_a_4_32 h_a_4_1 h_a_4_13 h_a_4_23 h_a_4_33 h_a_4_15 h_a_4_25 h_a_4_35 h_a_4_2 h_a_4_16 h_a_4_26 h_a_4_36 h_a_4_17 h_a_4_27 h_a_4_37 h_a_10_0 ⟨by omega, by omega⟩ ⟨by omega, by omega⟩) cf_X8_begin (cw_25 cy tE a rw S) rfl wm_X11_206 wi_X8_begin ws_X8_begin dX11_gain_38 rfl (Nat.le_of_ble_eq_true rfl) ⟨by decide, by decide, by decide, by decide⟩) (fun u12340 h12338 => ?_)
    obtain rfl := h12338
    refine z_aload_n b dX11_gain_41 rfl rfl ?_
    refine z_get (q0 := 0) (k9 := 6) (v := .ref (a 25)) b (cw_0 cy tE a rw (su (si (su (su (sv (sa (si (si (si (si S 24 1) 19 p0) 20 p1) 21 7) 13 (fil 1024 0 (ar (si (si (si (si S 24 1) 19 p0) 20 p1) 21 7) 13))) 2 0 4128768) 11 0 (-1)) 12 0 (-1)) 25 1) 13 978 1)) rfl in_X11 (by decide) wf_X11_52 rfl dX11_gain_42 ?_
    refine z_callv b (z_runV (q0 := 25) (As := []) (st := []) b (c_X8_finish_2 (su (si (su (su (sv (sa (si (si (si (si S 24 1) 19 p0) 20 p1) 21 7) 13 (fil 1024 0 (ar (si (si (si (si S 24 1) 19 p0) 20 p1) 21 7) 13))) 2 0 4128768) 11 0 (-1)) 12 0 (-1)) 25 1) 13 978 1) h_i_26 h_i_23 rfl h_a_10_0 rfl h_a_9_50 h_a_9_40 h_a_9_41 h_a_9_42 h_a_9_0 h_a_9_11 h_a_9_21 h_a_9_31 h_a_9_12 h_a_9_22 h_a_9_32 h_a_9_1 h_a_9_13 h_a_9_23 h_a_9_33 h_a_9_15 h_a_9_25 h_a_9_35 h_a_9_2 h_a_9_16 h_a_9_26 h_a_9_36 h_a_9_17 h_a_9_27 h_a_9_37 h_i_18) cf_X8_finish (cw_25 cy tE a rw (su (si (su (su (sv (sa (si (si (si (si S 24 1) 19 p0) 20 p1) 21 7) 13 (fil 1024 0 (ar (si (si (si (si S 24 1) 19 p0) 20 p1) 21 7) 13))) 2 0 4128768) 11 0 (-1)) 12 0 (-1)) 25 1) 13 978 1)) rfl wm_X11_232 wi_X8_finish ws_X8_finish dX11_gain_45 rfl (Nat.le_of_ble_eq_true rfl) ⟨by decide, by decide, by decide, by decide⟩) (fun u12343 h12341 => ?_)
    rcases h12341 with ⟨c12344, rfl⟩ | ⟨c12345, rfl⟩
    · refine z_aload_n b dX11_gain_48 rfl rfl ?_
      refine z_get (q0 := 0) (k9 := 6) (v := .ref (a 25)) b (cw_0 cy tE a rw (si (su (si (su (su (sv (sa (si (si (si (si S 24 1) 19 p0) 20 p1) 21 7) 13 (fil 1024 0 (ar (si (si (si (si S 24 1) 19 p0) 20 p1) 21 7) 13))) 2 0 4128768) 11 0 (-1)) 12 0 (-1)) 25 1) 13 978 1) 23 1)) rfl in_X11 (by decide) wf_X11_52 rfl dX11_gain_49 ?_
      refine z_get (q0 := 25) (k9 := 18) (v := .int (fi (si (su (si (su (su (sv (sa (si (si (si (si S 24 1) 19 p0) 20 p1) 21 7) 13 (fil 1024 0 (ar (si (si (si (si S 24 1) 19 p0) 20 p1) 21 7) 13))) 2 0 4128768) 11 0 (-1)) 12 0 (-1)) 25 1) 13 978 1) 23 1) 26)) b (cw_25 cy tE a rw (si (su (si (su (su (sv (sa (si (si (si (si S 24 1) 19 p0) 20 p1) 21 7) 13 (fil 1024 0 (ar (si (si (si (si S 24 1) 19 p0) 20 p1) 21 7) 13))) 2 0 4128768) 11 0 (-1)) 12 0 (-1)) 25 1) 13 978 1) 23 1)) rfl in_X8 (by decide) wf_X11_214 rfl dX11_gain_52 ?_
      refine z_eqi h_i_26 ?_
      refine z_if_eq_t (tgt := 61) b dX11_gain_55 (by decide) (by decide) ?_
      refine z_aload_n b dX11_gain_61 rfl rfl ?_
      refine z_get (q0 := 0) (k9 := 6) (v := .ref (a 25)) b (cw_0 cy tE a rw (si (su (si (su (su (sv (sa (si (si (si (si S 24 1) 19 p0) 20 p1) 21 7) 13 (fil 1024 0 (ar (si (si (si (si S 24 1) 19 p0) 20 p1) 21 7) 13))) 2 0 4128768) 11 0 (-1)) 12 0 (-1)) 25 1) 13 978 1) 23 1)) rfl in_X11 (by decide) wf_X11_52 rfl dX11_gain_62 ?_
      refine z_iload_n b dX11_gain_65 rfl rfl ?_
      refine z_calli b (z_runV (q0 := 25) (As := [.int 0]) (st := []) b (c_X8_richest (si (su (si (su (su (sv (sa (si (si (si (si S 24 1) 19 p0) 20 p1) 21 7) 13 (fil 1024 0 (ar (si (si (si (si S 24 1) 19 p0) 20 p1) 21 7) 13))) 2 0 4128768) 11 0 (-1)) 12 0 (-1)) 25 1) 13 978 1) 23 1) rfl rfl h_a_9_50 h_a_9_40 h_a_9_41 h_a_9_42 h_a_9_0 h_a_9_11 h_a_9_21 h_a_9_31 h_a_9_12 h_a_9_22 h_a_9_32 h_a_9_1 h_a_9_13 h_a_9_23 h_a_9_33 h_a_9_15 h_a_9_25 h_a_9_35 h_a_9_2 h_a_9_16 h_a_9_26 h_a_9_36 h_a_9_17 h_a_9_27 h_a_9_37) cf_X8_richest (cw_25 cy tE a rw (si (su (si (su (su (sv (sa (si (si (si (si S 24 1) 19 p0) 20 p1) 21 7) 13 (fil 1024 0 (ar (si (si (si (si S 24 1) 19 p0) 20 p1) 21 7) 13))) 2 0 4128768) 11 0 (-1)) 12 0 (-1)) 25 1) 13 978 1) 23 1)) rfl wm_X11_238 wi_X8_richest ws_X8_richest dX11_gain_66 rfl (Nat.le_of_ble_eq_true rfl) ⟨by decide, by decide, by decide, by decide⟩) (fun r12347 u12348 h12346 => ?_)
      obtain ⟨rfl, rfl⟩ := h12346
      refine z_istore (lv' := [(5, .int 0), (0, .ref (a 0)), (1, .int 0), (2, .int p0), (3, .int p1), (4, .int p2)]) b dX11_gain_69 (by decide) rfl ?_
      refine z_iload b dX11_gain_71 rfl ?_
      refine y_if_ne (tgt := 87) (xl := p2.toInt) b rfl dX11_gain_73 (by decide) (fun c12349 => ?_) (fun c12349 => ?_)
      · refine z_iload b dX11_gain_87 rfl ?_
        refine z_iconst (v := 1) b dX11_gain_89 (by decide) ?_
        refine y_icmp_ne (tgt := 103) (xl := p2.toInt) (yl := 1) b rfl (by decide) dX11_gain_90 (by decide) (fun c12350 => ?_) (fun c12350 => ?_)
        · refine z_aload_n b dX11_gain_103 rfl rfl ?_
          refine z_get (q0 := 0) (k9 := 6) (v := .ref (a 25)) b (cw_0 cy tE a rw (si (su (si (su (su (sv (sa (si (si (si (si S 24 1) 19 p0) 20 p1) 21 7) 13 (fil 1024 0 (ar (si (si (si (si S 24 1) 19 p0) 20 p1) 21 7) 13))) 2 0 4128768) 11 0 (-1)) 12 0 (-1)) 25 1) 13 978 1) 23 1)) rfl in_X11 (by decide) wf_X11_52 rfl dX11_gain_104 ?_
          refine z_iload b dX11_gain_107 rfl ?_
          refine z_iload b dX11_gain_109 rfl ?_
          refine z_iconst (v := 2) b dX11_gain_111 (by decide) ?_
          refine z_isub b dX11_gain_112 rfl ?_
          have f12351 : ((p2 - 2) : Int32).toInt = p2.toInt + (-2) := zisub (k := 2) (by decide) (by omega) (by omega)
          refine z_calli b (z_runV (q0 := 25) (As := [.int 0, .int (p2 - 2)]) (st := []) b (c_X8_code (si (su (si (su (su (sv (sa (si (si (si (si S 24 1) 19 p0) 20 p1) 21 7) 13 (fil 1024 0 (ar (si (si (si (si S 24 1) 19 p0) 20 p1) 21 7) 13))) 2 0 4128768) 11 0 (-1)) 12 0 (-1)) 25 1) 13 978 1) 23 1) (p2 - 2) rfl h_a_10_0 ⟨by omega, by omega⟩) cf_X8_code (cw_25 cy tE a rw (si (su (si (su (su (sv (sa (si (si (si (si S 24 1) 19 p0) 20 p1) 21 7) 13 (fil 1024 0 (ar (si (si (si (si S 24 1) 19 p0) 20 p1) 21 7) 13))) 2 0 4128768) 11 0 (-1)) 12 0 (-1)) 25 1) 13 978 1) 23 1)) rfl wm_X11_219 wi_X8_code ws_X8_code dX11_gain_113 rfl (Nat.le_of_ble_eq_true rfl) ⟨by decide, by decide, by decide, by decide⟩) (fun r12353 u12354 h12352 => ?_)
          obtain ⟨rfl, rfl⟩ := h12352
          refine z_istore (lv' := [(6, .int (-1)), (5, .int 0), (0, .ref (a 0)), (1, .int 0), (2, .int p0), (3, .int p1), (4, .int p2)]) b dX11_gain_116 (by decide) rfl ?_
          refine z_iload b dX11_gain_118 rfl ?_
          refine z_iconst (v := (-1)) b dX11_gain_120 (by decide) ?_
          refine z_icmp_ne_f (tgt := 129) b dX11_gain_121 (by decide) (by decide) ?_
          refine z_bipush (v := (-100)) b dX11_gain_124 (by decide) ?_
          refine z_goto (tgt := 131) b dX11_gain_126 (by decide) ?_
          exact z_iret (u := (si (su (si (su (su (sv (sa (si (si (si (si S 24 1) 19 p0) 20 p1) 21 7) 13 (fil 1024 0 (ar (si (si (si (si S 24 1) 19 p0) 20 p1) 21 7) 13))) 2 0 4128768) 11 0 (-1)) 12 0 (-1)) 25 1) 13 978 1) 23 1)) b rfl dX11_gain_131 (Or.inl ⟨⟨c12337, c12344, c12349, c12350⟩, rfl, rfl⟩) rfl (by decide) (by decide)
        · exfalso; omega
      · exfalso; omega
    · refine z_aload_n b dX11_gain_48 rfl rfl ?_
      refine z_get (q0 := 0) (k9 := 6) (v := .ref (a 25)) b (cw_0 cy tE a rw (su (si (su (su (sv (sa (si (si (si (si S 24 1) 19 p0) 20 p1) 21 7) 13 (fil 1024 0 (ar (si (si (si (si S 24 1) 19 p0) 20 p1) 21 7) 13))) 2 0 4128768) 11 0 (-1)) 12 0 (-1)) 25 1) 13 978 1)) rfl in_X11 (by decide) wf_X11_52 rfl dX11_gain_49 ?_
      refine z_get (q0 := 25) (k9 := 18) (v := .int (fi (su (si (su (su (sv (sa (si (si (si (si S 24 1) 19 p0) 20 p1) 21 7) 13 (fil 1024 0 (ar (si (si (si (si S 24 1) 19 p0) 20 p1) 21 7) 13))) 2 0 4128768) 11 0 (-1)) 12 0 (-1)) 25 1) 13 978 1) 26)) b (cw_25 cy tE a rw (su (si (su (su (sv (sa (si (si (si (si S 24 1) 19 p0) 20 p1) 21 7) 13 (fil 1024 0 (ar (si (si (si (si S 24 1) 19 p0) 20 p1) 21 7) 13))) 2 0 4128768) 11 0 (-1)) 12 0 (-1)) 25 1) 13 978 1)) rfl in_X8 (by decide) wf_X11_214 rfl dX11_gain_52 ?_
      refine z_eqi h_i_26 ?_
      refine z_if_eq_t (tgt := 61) b dX11_gain_55 (by decide) (by decide) ?_
      refine z_aload_n b dX11_gain_61 rfl rfl ?_
      refine z_get (q0 := 0) (k9 := 6) (v := .ref (a 25)) b (cw_0 cy tE a rw (su (si (su (su (sv (sa (si (si (si (si S 24 1) 19 p0) 20 p1) 21 7) 13 (fil 1024 0 (ar (si (si (si (si S 24 1) 19 p0) 20 p1) 21 7) 13))) 2 0 4128768) 11 0 (-1)) 12 0 (-1)) 25 1) 13 978 1)) rfl in_X11 (by decide) wf_X11_52 rfl dX11_gain_62 ?_
      refine z_iload_n b dX11_gain_65 rfl rfl ?_
      refine z_calli b (z_runV (q0 := 25) (As := [.int 0]) (st := []) b (c_X8_richest (su (si (su (su (sv (sa (si (si (si (si S 24 1) 19 p0) 20 p1) 21 7) 13 (fil 1024 0 (ar (si (si (si (si S 24 1) 19 p0) 20 p1) 21 7) 13))) 2 0 4128768) 11 0 (-1)) 12 0 (-1)) 25 1) 13 978 1) rfl rfl h_a_9_50 h_a_9_40 h_a_9_41 h_a_9_42 h_a_9_0 h_a_9_11 h_a_9_21 h_a_9_31 h_a_9_12 h_a_9_22 h_a_9_32 h_a_9_1 h_a_9_13 h_a_9_23 h_a_9_33 h_a_9_15 h_a_9_25 h_a_9_35 h_a_9_2 h_a_9_16 h_a_9_26 h_a_9_36 h_a_9_17 h_a_9_27 h_a_9_37) cf_X8_richest (cw_25 cy tE a rw (su (si (su (su (sv (sa (si (si (si (si S 24 1) 19 p0) 20 p1) 21 7) 13 (fil 1024 0 (ar (si (si (si (si S 24 1) 19 p0) 20 p1) 21 7) 13))) 2 0 4128768) 11 0 (-1)) 12 0 (-1)) 25 1) 13 978 1)) rfl wm_X11_238 wi_X8_richest ws_X8_richest dX11_gain_66 rfl (Nat.le_of_ble_eq_true rfl) ⟨by decide, by decide, by decide, by decide⟩) (fun r12356 u12357 h12355 => ?_)
      obtain ⟨rfl, rfl⟩ := h12355
      refine z_istore (lv' := [(5, .int 0), (0, .ref (a 0)), (1, .int 0), (2, .int p0), (3, .int p1), (4, .int p2)]) b dX11_gain_69 (by decide) rfl ?_
      refine z_iload b dX11_gain_71 rfl ?_
      refine y_if_ne (tgt := 87) (xl := p2.toInt) b rfl dX11_gain_73 (by decide) (fun c12358 => ?_) (fun c12358 => ?_)
      · refine z_iload b dX11_gain_87 rfl ?_
        refine z_iconst (v := 1) b dX11_gain_89 (by decide) ?_
        refine y_icmp_ne (tgt := 103) (xl := p2.toInt) (yl := 1) b rfl (by decide) dX11_gain_90 (by decide) (fun c12359 => ?_) (fun c12359 => ?_)
        · refine z_aload_n b dX11_gain_103 rfl rfl ?_
          refine z_get (q0 := 0) (k9 := 6) (v := .ref (a 25)) b (cw_0 cy tE a rw (su (si (su (su (sv (sa (si (si (si (si S 24 1) 19 p0) 20 p1) 21 7) 13 (fil 1024 0 (ar (si (si (si (si S 24 1) 19 p0) 20 p1) 21 7) 13))) 2 0 4128768) 11 0 (-1)) 12 0 (-1)) 25 1) 13 978 1)) rfl in_X11 (by decide) wf_X11_52 rfl dX11_gain_104 ?_
          refine z_iload b dX11_gain_107 rfl ?_
          refine z_iload b dX11_gain_109 rfl ?_
          refine z_iconst (v := 2) b dX11_gain_111 (by decide) ?_
          refine z_isub b dX11_gain_112 rfl ?_
          have f12360 : ((p2 - 2) : Int32).toInt = p2.toInt + (-2) := zisub (k := 2) (by decide) (by omega) (by omega)
          refine z_calli b (z_runV (q0 := 25) (As := [.int 0, .int (p2 - 2)]) (st := []) b (c_X8_code (su (si (su (su (sv (sa (si (si (si (si S 24 1) 19 p0) 20 p1) 21 7) 13 (fil 1024 0 (ar (si (si (si (si S 24 1) 19 p0) 20 p1) 21 7) 13))) 2 0 4128768) 11 0 (-1)) 12 0 (-1)) 25 1) 13 978 1) (p2 - 2) rfl h_a_10_0 ⟨by omega, by omega⟩) cf_X8_code (cw_25 cy tE a rw (su (si (su (su (sv (sa (si (si (si (si S 24 1) 19 p0) 20 p1) 21 7) 13 (fil 1024 0 (ar (si (si (si (si S 24 1) 19 p0) 20 p1) 21 7) 13))) 2 0 4128768) 11 0 (-1)) 12 0 (-1)) 25 1) 13 978 1)) rfl wm_X11_219 wi_X8_code ws_X8_code dX11_gain_113 rfl (Nat.le_of_ble_eq_true rfl) ⟨by decide, by decide, by decide, by decide⟩) (fun r12362 u12363 h12361 => ?_)
          obtain ⟨rfl, rfl⟩ := h12361
          refine z_istore (lv' := [(6, .int (-1)), (5, .int 0), (0, .ref (a 0)), (1, .int 0), (2, .int p0), (3, .int p1), (4, .int p2)]) b dX11_gain_116 (by decide) rfl ?_
          refine z_iload b dX11_gain_118 rfl ?_
          refine z_iconst (v := (-1)) b dX11_gain_120 (by decide) ?_
          refine z_icmp_ne_f (tgt := 129) b dX11_gain_121 (by decide) (by decide) ?_
          refine z_bipush (v := (-100)) b dX11_gain_124 (by decide) ?_
          refine z_goto (tgt := 131) b dX11_gain_126 (by decide) ?_
          exact z_iret (u := (su (si (su (su (sv (sa (si (si (si (si S 24 1) 19 p0) 20 p1) 21 7) 13 (fil 1024 0 (ar (si (si (si (si S 24 1) 19 p0) 20 p1) 21 7) 13))) 2 0 4128768) 11 0 (-1)) 12 0 (-1)) 25 1) 13 978 1)) b rfl dX11_gain_131 (Or.inr ⟨⟨c12337, c12345, c12358, c12359⟩, rfl, rfl⟩) rfl (by decide) (by decide)
        · exfalso; omega
      · exfalso; omega
  · exfalso; omega

set_option maxHeartbeats 4000000 in
set_option maxRecDepth 100000 in
theorem c_X12_gain_23 {l : Launch} {D : va_G} {cy : Nat → ClassId} {T0 tB tE : Nat} {a : Nat → Nat} (S : GS) (p0 : Int32) (p1 : Int32) (p2 : Int32) (h_i_21 : fi S 21 = 0) (h_i_23 : fi S 23 = 0) (h_l_0 : fl S 0 = 1649317774848) (h_a_29_992 : ar S 29 992 = (-1)) (h_a_28_0 : ar S 28 0 = 0) (h_a_7_0 : ar S 7 0 = 0) (h_a_7_1 : ar S 7 1 = 0) (h_a_4_7 : ar S 4 7 = 0) (h_a_1_7 : ar S 1 7 = 0) (h_a_4_6 : ar S 4 6 = 0) (h_a_1_6 : ar S 1 6 = 0) (h_a_3_6 : ar S 3 6 = 0) (h_a_3_2 : ar S 3 2 = 0) (h_a_2_2 : ar S 2 2 = 3) (h_a_0_2 : ar S 0 2 = 0) (h_a_4_3 : ar S 4 3 = 0) (h_a_1_3 : ar S 1 3 = 0) (h_a_4_5 : ar S 4 5 = 0) (h_a_1_5 : ar S 1 5 = 0) (h_a_3_5 : ar S 3 5 = 0) (h_a_3_7 : ar S 3 7 = 0) (h_a_2_1 : ar S 2 1 = 3) (h_a_0_1 : ar S 0 1 = 0) (h_a_4_2 : ar S 4 2 = 0) (h_a_1_2 : ar S 1 2 = 0) (h_a_4_1 : ar S 4 1 = 0) (h_a_1_1 : ar S 1 1 = 0) (h_a_3_1 : ar S 3 1 = 0) (h_a_3_3 : ar S 3 3 = 0) (h_a_2_0 : ar S 2 0 = 3) (h_a_0_0 : ar S 0 0 = 0) (h_i_0 : fi S 0 = 0) (hr_p0 : 1 ≤ p0.toInt ∧ p0.toInt ≤ 3) (hr_p1 : 1 ≤ p1.toInt ∧ p1.toInt ≤ 6) (hr_p2 : 2 ≤ p2.toInt ∧ p2.toInt ≤ 7) : Ct l D cy T0 tB tE yX12_gain cX12_gain 9 (some .int) 4 99 0 0 (mw cy a S) [.ref (a 0), .int 0, .int p0, .int p1, .int p2] (QI D (U := GS) (fun r u => (-100) = r ∧ (si (su (su (sv (su (su (si S 22 (-1)) 29 992 0) 30 0 992) 0 0 1649317774848) 26 0 (-1)) 27 0 (-1)) 21 1) = u) (mw cy a)) := by
  refine Ct.ofZ RX12 "gain" [(0, .ref (a 0)), (1, .int 0), (2, .int p0), (3, .int p1), (4, .int p2)] rfl rfl rfl rfl (Nat.le_of_ble_eq_true rfl) ?_
  intro p e R s m args below meth c A b
  refine z_iload_n b dX12_gain_0 rfl rfl ?_
  refine z_calli b (z_runS (As := [.int 0]) (st := []) b (c_X12_isOne_3 S ) cf_X12_isOne wm_X12_170 ws_X12_isOne dX12_gain_1 rfl (Nat.le_of_ble_eq_true rfl) ⟨by decide, by decide, by decide, by decide⟩) (fun r12365 u12366 h12364 => ?_)
  obtain ⟨rfl, rfl⟩ := h12364
  refine z_if_eq_f (tgt := 27) b dX12_gain_4 (by decide) (by decide) ?_
  refine z_aload_n b dX12_gain_7 rfl rfl ?_
  refine z_iload_n b dX12_gain_8 rfl rfl ?_
  refine z_iload_n b dX12_gain_9 rfl rfl ?_
  refine z_calli b (z_runV (q0 := 0) (As := [.int p0, .int p1]) (st := []) b (c_X12_canSearch_5 S p0 p1 ⟨by omega, by omega⟩ ⟨by omega, by omega⟩) cf_X12_canSearch (mw_0 cy a S) rfl wm_X12_433 wi_X12_canSearch ws_X12_canSearch dX12_gain_10 rfl (Nat.le_of_ble_eq_true rfl) ⟨by decide, by decide, by decide, by decide⟩) (fun r12368 u12369 h12367 => ?_)
  obtain ⟨rfl, rfl⟩ := h12367
  refine z_if_eq_f (tgt := 27) b dX12_gain_13 (by decide) (by decide) ?_
  refine z_iload b dX12_gain_16 rfl ?_
  refine z_iconst (v := 0) b dX12_gain_18 (by decide) ?_
  refine z_bipush (v := 7) b dX12_gain_19 (by decide) ?_
  refine z_calli b (z_runS (As := [.int p2, .int 0, .int 7]) (st := []) b (c_X12_isIn_61 S p2 ⟨by omega, by omega⟩) cf_X12_isIn wm_X12_1 ws_X12_isIn dX12_gain_21 rfl (Nat.le_of_ble_eq_true rfl) ⟨by decide, by decide, by decide, by decide⟩) (fun r12371 u12372 h12370 => ?_)
  obtain ⟨rfl, rfl⟩ := h12370
  refine z_if_ne_t (tgt := 30) b dX12_gain_24 (by decide) (by decide) ?_
  refine z_aload_n b dX12_gain_30 rfl rfl ?_
  refine z_iconst (v := (-1)) b dX12_gain_31 (by decide) ?_
  refine z_iload_n b dX12_gain_32 rfl rfl ?_
  refine z_iload_n b dX12_gain_33 rfl rfl ?_
  refine z_bipush (v := 7) b dX12_gain_34 (by decide) ?_
  refine z_iconst (v := 0) b dX12_gain_36 (by decide) ?_
  refine z_callv b (z_runV (q0 := 0) (As := [.int (-1), .int p0, .int p1, .int 7, .int 0]) (st := []) b (c_X12_searches_2 S p0 p1 h_i_21 h_i_23 h_l_0 h_a_29_992 h_a_28_0 h_a_7_0 h_a_7_1 ⟨by omega, by omega⟩ ⟨by omega, by omega⟩) cf_X12_searches (mw_0 cy a S) rfl wm_X12_436 wi_X12_searches ws_X12_searches dX12_gain_37 rfl (Nat.le_of_ble_eq_true rfl) ⟨by decide, by decide, by decide, by decide⟩) (fun u12375 h12373 => ?_)
  obtain rfl := h12373
  refine z_aload_n b dX12_gain_40 rfl rfl ?_
  refine z_get (q0 := 0) (k9 := 57) (v := .int (fi (si (su (su (sv (su (su (si S 22 (-1)) 29 992 0) 30 0 992) 0 0 1649317774848) 26 0 (-1)) 27 0 (-1)) 21 1) 23)) b (mw_0 cy a (si (su (su (sv (su (su (si S 22 (-1)) 29 992 0) 30 0 992) 0 0 1649317774848) 26 0 (-1)) 27 0 (-1)) 21 1)) rfl in_X12 (by decide) wf_X12_408 rfl dX12_gain_41 ?_
  refine z_eqi h_i_23 ?_
  refine z_if_eq_t (tgt := 50) b dX12_gain_44 (by decide) (by decide) ?_
  refine z_iconst (v := (-1)) b dX12_gain_50 (by decide) ?_
  refine z_istore (lv' := [(5, .int (-1)), (0, .ref (a 0)), (1, .int 0), (2, .int p0), (3, .int p1), (4, .int p2)]) b dX12_gain_51 (by decide) rfl ?_
  refine z_iconst (v := 0) b dX12_gain_53 (by decide) ?_
  refine z_istore (lv' := [(6, .int 0), (5, .int (-1)), (0, .ref (a 0)), (1, .int 0), (2, .int p0), (3, .int p1), (4, .int p2)]) b dX12_gain_54 (by decide) rfl ?_
  refine z_iconst (v := 0) b dX12_gain_56 (by decide) ?_
  refine z_istore (lv' := [(7, .int 0), (6, .int 0), (5, .int (-1)), (0, .ref (a 0)), (1, .int 0), (2, .int p0), (3, .int p1), (4, .int p2)]) b dX12_gain_57 (by decide) rfl ?_
  refine z_iload b dX12_gain_59 rfl ?_
  refine z_aload_n b dX12_gain_61 rfl rfl ?_
  refine z_get (q0 := 0) (k9 := 55) (v := .int 1) b (mw_0 cy a (si (su (su (sv (su (su (si S 22 (-1)) 29 992 0) 30 0 992) 0 0 1649317774848) 26 0 (-1)) 27 0 (-1)) 21 1)) rfl in_X12 (by decide) wf_X12_405 rfl dX12_gain_62 ?_
  refine z_icmp_ge_f (tgt := 147) b dX12_gain_65 (by decide) (by decide) ?_
  refine z_aload_n b dX12_gain_68 rfl rfl ?_
  refine z_aload_n b dX12_gain_69 rfl rfl ?_
  refine z_get (q0 := 0) (k9 := 49) (v := .ref (a 27)) b (mw_0 cy a (si (su (su (sv (su (su (si S 22 (-1)) 29 992 0) 30 0 992) 0 0 1649317774848) 26 0 (-1)) 27 0 (-1)) 21 1)) rfl in_X12 (by decide) wf_X12_97 rfl dX12_gain_70 ?_
  refine z_iload b dX12_gain_73 rfl ?_
  refine y_lald (q0 := 27) (j := 0) (v := 1649317774848) b (mw_27 cy a (si (su (su (sv (su (su (si S 22 (-1)) 29 992 0) 30 0 992) 0 0 1649317774848) 26 0 (-1)) 27 0 (-1)) 21 1)) (by decide) rfl dX12_gain_75 ?_
  refine z_callv b (z_runV (q0 := 0) (As := [.long 1649317774848]) (st := []) b (c_X12_takes (si (su (su (sv (su (su (si S 22 (-1)) 29 992 0) 30 0 992) 0 0 1649317774848) 26 0 (-1)) 27 0 (-1)) 21 1) h_a_4_7 h_a_1_7 h_a_4_6 h_a_1_6 h_a_3_6 h_a_3_2 h_a_2_2 h_a_0_2 h_a_4_3 h_a_1_3 h_a_4_5 h_a_1_5 h_a_3_5 h_a_3_7 h_a_2_1 h_a_0_1 h_a_4_2 h_a_1_2 h_a_4_1 h_a_1_1 h_a_3_1 h_a_3_3 h_a_2_0 h_a_0_0 h_i_0) cf_X12_takes (mw_0 cy a (si (su (su (sv (su (su (si S 22 (-1)) 29 992 0) 30 0 992) 0 0 1649317774848) 26 0 (-1)) 27 0 (-1)) 21 1)) rfl wm_X12_174 wi_X12_takes ws_X12_takes dX12_gain_76 rfl (Nat.le_of_ble_eq_true rfl) ⟨by decide, by decide, by decide, by decide⟩) (fun u12378 h12376 => ?_)
  obtain rfl := h12376
  refine z_aload_n b dX12_gain_79 rfl rfl ?_
  refine z_get (q0 := 0) (k9 := 0) (v := .ref (a 1)) b (mw_0 cy a (si (su (su (sv (su (su (si S 22 (-1)) 29 992 0) 30 0 992) 0 0 1649317774848) 26 0 (-1)) 27 0 (-1)) 21 1)) rfl in_X12 (by decide) wf_X12_13 rfl dX12_gain_80 ?_
  refine z_iload_n b dX12_gain_83 rfl rfl ?_
  refine y_iald (q0 := 1) (j := 0) (v := (ar (si (su (su (sv (su (su (si S 22 (-1)) 29 992 0) 30 0 992) 0 0 1649317774848) 26 0 (-1)) 27 0 (-1)) 21 1) 0 0)) b (mw_1 cy a (si (su (su (sv (su (su (si S 22 (-1)) 29 992 0) 30 0 992) 0 0 1649317774848) 26 0 (-1)) 27 0 (-1)) 21 1)) (by decide) rfl dX12_gain_84 ?_
  refine z_eqi h_a_0_0 ?_
  refine z_aload_n b dX12_gain_85 rfl rfl ?_
  refine z_get (q0 := 0) (k9 := 1) (v := .ref (a 2)) b (mw_0 cy a (si (su (su (sv (su (su (si S 22 (-1)) 29 992 0) 30 0 992) 0 0 1649317774848) 26 0 (-1)) 27 0 (-1)) 21 1)) rfl in_X12 (by decide) wf_X12_17 rfl dX12_gain_86 ?_
  refine z_iconst (v := 3) b dX12_gain_89 (by decide) ?_
  refine z_iload_n b dX12_gain_90 rfl rfl ?_
  refine z_imul (v := 0) b dX12_gain_91 (by decide) ?_
  refine z_iload_n b dX12_gain_92 rfl rfl ?_
  refine z_iconst (v := 0) b dX12_gain_93 (by decide) ?_
  refine z_calli b (z_runS (As := [.int 0, .int 0]) (st := [.int 0, .ref (a 2), .int 0]) b (c_X12_other_6 (si (su (su (sv (su (su (si S 22 (-1)) 29 992 0) 30 0 992) 0 0 1649317774848) 26 0 (-1)) 27 0 (-1)) 21 1) ) cf_X12_other wm_X12_160 ws_X12_other dX12_gain_94 rfl (Nat.le_of_ble_eq_true rfl) ⟨by decide, by decide, by decide, by decide⟩) (fun r12380 u12381 h12379 => ?_)
  obtain ⟨rfl, rfl⟩ := h12379
  refine z_iadd (v := 1) b dX12_gain_97 (by decide) ?_
  refine y_iald (q0 := 2) (j := 1) (v := (ar (si (su (su (sv (su (su (si S 22 (-1)) 29 992 0) 30 0 992) 0 0 1649317774848) 26 0 (-1)) 27 0 (-1)) 21 1) 1 1)) b (mw_2 cy a (si (su (su (sv (su (su (si S 22 (-1)) 29 992 0) 30 0 992) 0 0 1649317774848) 26 0 (-1)) 27 0 (-1)) 21 1)) (by decide) rfl dX12_gain_98 ?_
  refine z_eqi h_a_1_1 ?_
  refine z_isub (v := 0) b dX12_gain_99 (by decide) ?_
  refine z_aload_n b dX12_gain_100 rfl rfl ?_
  refine z_get (q0 := 0) (k9 := 1) (v := .ref (a 2)) b (mw_0 cy a (si (su (su (sv (su (su (si S 22 (-1)) 29 992 0) 30 0 992) 0 0 1649317774848) 26 0 (-1)) 27 0 (-1)) 21 1)) rfl in_X12 (by decide) wf_X12_17 rfl dX12_gain_101 ?_
  refine z_iconst (v := 3) b dX12_gain_104 (by decide) ?_
  refine z_iload_n b dX12_gain_105 rfl rfl ?_
  refine z_imul (v := 0) b dX12_gain_106 (by decide) ?_
  refine z_iload_n b dX12_gain_107 rfl rfl ?_
  refine z_iconst (v := 1) b dX12_gain_108 (by decide) ?_
  refine z_calli b (z_runS (As := [.int 0, .int 1]) (st := [.int 0, .ref (a 2), .int 0]) b (c_X12_other_5 (si (su (su (sv (su (su (si S 22 (-1)) 29 992 0) 30 0 992) 0 0 1649317774848) 26 0 (-1)) 27 0 (-1)) 21 1) ) cf_X12_other wm_X12_160 ws_X12_other dX12_gain_109 rfl (Nat.le_of_ble_eq_true rfl) ⟨by decide, by decide, by decide, by decide⟩) (fun r12383 u12384 h12382 => ?_)
  obtain ⟨rfl, rfl⟩ := h12382
  refine z_iadd (v := 2) b dX12_gain_112 (by decide) ?_
  refine y_iald (q0 := 2) (j := 2) (v := (ar (si (su (su (sv (su (su (si S 22 (-1)) 29 992 0) 30 0 992) 0 0 1649317774848) 26 0 (-1)) 27 0 (-1)) 21 1) 1 2)) b (mw_2 cy a (si (su (su (sv (su (su (si S 22 (-1)) 29 992 0) 30 0 992) 0 0 1649317774848) 26 0 (-1)) 27 0 (-1)) 21 1)) (by decide) rfl dX12_gain_113 ?_
  refine z_eqi h_a_1_2 ?_
  refine z_isub (v := 0) b dX12_gain_114 (by decide) ?_
  refine z_istore (lv' := [(8, .int 0), (7, .int 0), (6, .int 0), (5, .int (-1)), (0, .ref (a 0)), (1, .int 0), (2, .int p0), (3, .int p1), (4, .int p2)]) b dX12_gain_115 (by decide) rfl ?_
  refine z_iload b dX12_gain_117 rfl ?_
  refine z_iconst (v := (-1)) b dX12_gain_119 (by decide) ?_
  refine z_icmp_eq_t (tgt := 133) b dX12_gain_120 (by decide) (by decide) ?_
  refine z_iload b dX12_gain_133 rfl ?_
  refine z_istore (lv' := [(5, .int 0), (8, .int 0), (7, .int 0), (6, .int 0), (0, .ref (a 0)), (1, .int 0), (2, .int p0), (3, .int p1), (4, .int p2)]) b dX12_gain_135 (by decide) rfl ?_
  refine z_iload b dX12_gain_137 rfl ?_
  refine z_istore (lv' := [(6, .int 0), (5, .int 0), (8, .int 0), (7, .int 0), (0, .ref (a 0)), (1, .int 0), (2, .int p0), (3, .int p1), (4, .int p2)]) b dX12_gain_139 (by decide) rfl ?_
  refine z_iinc (k9 := 3) (v := 1) (lv' := [(7, .int 1), (6, .int 0), (5, .int 0), (8, .int 0), (0, .ref (a 0)), (1, .int 0), (2, .int p0), (3, .int p1), (4, .int p2)]) b dX12_gain_141 rfl (by decide) (by decide) rfl ?_
  refine z_goto (tgt := 59) b dX12_gain_144 (by decide) ?_
  refine z_iload b dX12_gain_59 rfl ?_
  refine z_aload_n b dX12_gain_61 rfl rfl ?_
  refine z_get (q0 := 0) (k9 := 55) (v := .int 1) b (mw_0 cy a (si (su (su (sv (su (su (si S 22 (-1)) 29 992 0) 30 0 992) 0 0 1649317774848) 26 0 (-1)) 27 0 (-1)) 21 1)) rfl in_X12 (by decide) wf_X12_405 rfl dX12_gain_62 ?_
  refine z_icmp_ge_t (tgt := 147) b dX12_gain_65 (by decide) (by decide) ?_
  refine z_iload b dX12_gain_147 rfl ?_
  refine z_iconst (v := 2) b dX12_gain_149 (by decide) ?_
  refine y_icmp_ge (tgt := 171) (xl := p2.toInt) (yl := 2) b rfl (by decide) dX12_gain_150 (by decide) (fun c12385 => ?_) (fun c12385 => ?_)
  · refine z_iload b dX12_gain_171 rfl ?_
    refine z_iconst (v := 2) b dX12_gain_173 (by decide) ?_
    refine z_isub b dX12_gain_174 rfl ?_
    have f12386 : ((p2 - 2) : Int32).toInt = p2.toInt + (-2) := zisub (k := 2) (by decide) (by omega) (by omega)
    refine z_aload_n b dX12_gain_175 rfl rfl ?_
    refine z_get (q0 := 0) (k9 := 52) (v := .ref (a 30)) b (mw_0 cy a (si (su (su (sv (su (su (si S 22 (-1)) 29 992 0) 30 0 992) 0 0 1649317774848) 26 0 (-1)) 27 0 (-1)) 21 1)) rfl in_X12 (by decide) wf_X12_107 rfl dX12_gain_176 ?_
    refine z_iload b dX12_gain_179 rfl ?_
    refine y_iald (q0 := 30) (j := 0) (v := (ar (si (su (su (sv (su (su (si S 22 (-1)) 29 992 0) 30 0 992) 0 0 1649317774848) 26 0 (-1)) 27 0 (-1)) 21 1) 28 0)) b (mw_30 cy a (si (su (su (sv (su (su (si S 22 (-1)) 29 992 0) 30 0 992) 0 0 1649317774848) 26 0 (-1)) 27 0 (-1)) 21 1)) (by decide) rfl dX12_gain_181 ?_
    refine z_eqi h_a_28_0 ?_
    refine y_icmp_ge (tgt := 198) (xl := ((p2 - 2) : Int32).toInt) (yl := 0) b rfl (by decide) dX12_gain_182 (by decide) (fun c12387 => ?_) (fun c12387 => ?_)
    · refine z_bipush (v := (-100)) b dX12_gain_198 (by decide) ?_
      exact z_iret (u := (si (su (su (sv (su (su (si S 22 (-1)) 29 992 0) 30 0 992) 0 0 1649317774848) 26 0 (-1)) 27 0 (-1)) 21 1)) b rfl dX12_gain_200 ⟨rfl, rfl⟩ rfl (by decide) (by decide)
    · exfalso; omega
  · exfalso; omega

set_option maxHeartbeats 4000000 in
set_option maxRecDepth 100000 in
theorem c_X11_gain_24 {l : Launch} {D : va_G} {cy : Nat → ClassId} {T0 tB tE : Nat} {a : Nat → Nat} {rw : Nat → Option Nat} (S : GS) (p0 : Int32) (p1 : Int32) (p2 : Int32) (h_i_19 : fi S 19 = 0) (h_i_24 : fi S 24 = 0) (h_i_22 : fi S 22 = 0) (h_i_18 : fi S 18 = 0) (h_i_25 : fi S 25 = 0) (h_i_23 : fi S 23 = 0) (h_i_26 : fi S 26 = 0) (h_a_4_50 : ar S 4 50 = 0) (h_a_4_40 : ar S 4 40 = 3) (h_a_4_41 : ar S 4 41 = 3) (h_a_4_42 : ar S 4 42 = 3) (h_a_4_0 : ar S 4 0 = 0) (h_a_4_11 : ar S 4 11 = 0) (h_a_4_21 : ar S 4 21 = 0) (h_a_4_31 : ar S 4 31 = 0) (h_a_4_12 : ar S 4 12 = 0) (h_a_4_22 : ar S 4 22 = 0) (h_a_4_32 : ar S 4 32 = 0) (h_a_4_1 : ar S 4 1 = 0) (h_a_4_13 : ar S 4 13 = 0) (h_a_4_23 : ar S 4 23 = 0) (h_a_4_33 : ar S 4 33 = 0) (h_a_4_15 : ar S 4 15 = 0) (h_a_4_25 : ar S 4 25 = 0) (h_a_4_35 : ar S 4 35 = 0) (h_a_4_2 : ar S 4 2 = 0) (h_a_4_16 : ar S 4 16 = 0) (h_a_4_26 : ar S 4 26 = 0) (h_a_4_36 : ar S 4 36 = 0) (h_a_4_17 : ar S 4 17 = 0) (h_a_4_27 : ar S 4 27 = 0) (h_a_4_37 : ar S 4 37 = 0) (h_a_10_0 : ar S 10 0 = 0) (h_a_9_50 : ar S 9 50 = 0) (h_a_9_40 : ar S 9 40 = 3) (h_a_9_41 : ar S 9 41 = 3) (h_a_9_42 : ar S 9 42 = 3) (h_a_9_0 : ar S 9 0 = 0) (h_a_9_11 : ar S 9 11 = 0) (h_a_9_21 : ar S 9 21 = 0) (h_a_9_31 : ar S 9 31 = 0) (h_a_9_12 : ar S 9 12 = 0) (h_a_9_22 : ar S 9 22 = 0) (h_a_9_32 : ar S 9 32 = 0) (h_a_9_1 : ar S 9 1 = 0) (h_a_9_13 : ar S 9 13 = 0) (h_a_9_23 : ar S 9 23 = 0) (h_a_9_33 : ar S 9 33 = 0) (h_a_9_15 : ar S 9 15 = 0) (h_a_9_25 : ar S 9 25 = 0) (h_a_9_35 : ar S 9 35 = 0) (h_a_9_2 : ar S 9 2 = 0) (h_a_9_16 : ar S 9 16 = 0) (h_a_9_26 : ar S 9 26 = 0) (h_a_9_36 : ar S 9 36 = 0) (h_a_9_17 : ar S 9 17 = 0) (h_a_9_27 : ar S 9 27 = 0) (h_a_9_37 : ar S 9 37 = 0) (hr_p0 : 1 ≤ p0.toInt ∧ p0.toInt ≤ 3) (hr_p1 : 1 ≤ p1.toInt ∧ p1.toInt ≤ 6) (hr_p2 : 8 ≤ p2.toInt ∧ p2.toInt ≤ 2147483647) : Ct l D cy T0 tB tE yX11_gain cX11_gain 7 (some .int) 5 117 0 0 (cw cy tE a rw S) [.ref (a 0), .int 0, .int p0, .int p1, .int p2] (QI D (U := GS) (fun r u => (((0 ≤ p2.toInt) ∧ (((0 < ((fi (su (si (su (su (sv (sa (si (si (si (si S 24 1) 19 p0) 20 p1) 21 7) 13 (fil 1024 0 (ar (si (si (si (si S 24 1) 19 p0) 20 p1) 21 7) 13))) 2 0 4128768) 11 0 (-1)) 12 0 (-1)) 25 1) 13 978 1) 20) : Int32).toInt))) ∧ (p2.toInt ≠ 0) ∧ (p2.toInt ≠ 1)) ∧ (-100) = r ∧ (si (su (si (su (su (sv (sa (si (si (si (si S 24 1) 19 p0) 20 p1) 21 7) 13 (fil 1024 0 (ar (si (si (si (si S 24 1) 19 p0) 20 p1) 21 7) 13))) 2 0 4128768) 11 0 (-1)) 12 0 (-1)) 25 1) 13 978 1) 23 1) = u) ∨ (((0 ≤ p2.toInt) ∧ (((((fi (su (si (su (su (sv (sa (si (si (si (si S 24 1) 19 p0) 20 p1) 21 7) 13 (fil 1024 0 (ar (si (si (si (si S 24 1) 19 p0) 20 p1) 21 7) 13))) 2 0 4128768) 11 0 (-1)) 12 0 (-1)) 25 1) 13 978 1) 20) : Int32).toInt ≤ 0))) ∧ (p2.toInt ≠ 0) ∧ (p2.toInt ≠ 1)) ∧ (-100) = r ∧ (su (si (su (su (sv (sa (si (si (si (si S 24 1) 19 p0) 20 p1) 21 7) 13 (fil 1024 0 (ar (si (si (si (si S 24 1) 19 p0) 20 p1) 21 7) 13))) 2 0 4128768) 11 0 (-1)) 12 0 (-1)) 25 1) 13 978 1) = u)) (cw cy tE a rw)) := by
  refine Ct.ofZ RX11 "gain" [(0, .ref (a 0)), (1, .int 0), (2, .int p0), (3, .int p1), (4, .int p2)] rfl rfl rfl rfl (Nat.le_of_ble_eq_true rfl) ?_
  intro p e R s m args below meth c A b
  refine z_iload_n b dX11_gain_0 rfl rfl ?_
  refine z_calli b (z_runS (As := [.int 0]) (st := []) b (c_X11_isPerson_3 S ) cf_X11_isPerson wm_X11_69 ws_X11_isPerson dX11_gain_1 rfl (Nat.le_of_ble_eq_true rfl) ⟨by decide, by decide, by decide, by decide⟩) (fun r12389 u12390 h12388 => ?_)
  obtain ⟨rfl, rfl⟩ := h12388
  refine z_if_eq_f (tgt := 26) b dX11_gain_4 (by decide) (by decide) ?_
  refine z_iload_n b dX11_gain_7 rfl rfl ?_
  refine z_calli b (z_runS (As := [.int p0]) (st := []) b (c_X11_areLaws_3 S p0 ⟨by omega, by omega⟩) cf_X11_areLaws wm_X11_181 ws_X11_areLaws dX11_gain_8 rfl (Nat.le_of_ble_eq_true rfl) ⟨by decide, by decide, by decide, by decide⟩) (fun r12392 u12393 h12391 => ?_)
  obtain ⟨rfl, rfl⟩ := h12391
  refine z_if_eq_f (tgt := 26) b dX11_gain_11 (by decide) (by decide) ?_
  refine z_iload_n b dX11_gain_14 rfl rfl ?_
  refine z_calli b (z_runS (As := [.int p1]) (st := []) b (c_X11_isDepth_3 S p1 ⟨by omega, by omega⟩) cf_X11_isDepth wm_X11_203 ws_X11_isDepth dX11_gain_15 rfl (Nat.le_of_ble_eq_true rfl) ⟨by decide, by decide, by decide, by decide⟩) (fun r12395 u12396 h12394 => ?_)
  obtain ⟨rfl, rfl⟩ := h12394
  refine z_if_eq_f (tgt := 26) b dX11_gain_18 (by decide) (by decide) ?_
  refine z_iload b dX11_gain_21 rfl ?_
  refine y_if_ge (tgt := 29) (xl := p2.toInt) b rfl dX11_gain_23 (by decide) (fun c12397 => ?_) (fun c12397 => ?_)
  · refine z_aload_n b dX11_gain_29 rfl rfl ?_
    refine z_get (q0 := 0) (k9 := 6) (v := .ref (a 25)) b (cw_0 cy tE a rw S) rfl in_X11 (by decide) wf_X11_52 rfl dX11_gain_30 ?_
    refine z_iload_n b dX11_gain_33 rfl rfl ?_
    refine z_iload_n b dX11_gain_34 rfl rfl ?_
    refine z_bipush (v := 7) b dX11_gain_35 (by decide) ?_
    refine z_iconst (v := 0) b dX11_gain_37 (by decide) ?_
    refine z_callv b (z_runV (q0 := 25) (As := [.int p0, .int p1, .int 7, .int 0]) (st := []) b (c_X8_begin_2 S p0 p1 h_i_19 h_i_24 h_i_22 h_i_18 h_i_25 h_i_23 h_i_26 h_a_4_50 h_a_4_40 h_a_4_41 h_a_4_42 h_a_4_0 h_a_4_11 h_a_4_21 h_a_4_31 h_a_4_12 h_a_4_22 h_a_4_32 h_a_4_1 h_a_4_13 h_a_4_23 h_a_4_33 h_a_4_15 h_a_4_25 h_a_4_35 h_a_4_2 h_a_4_16 h_a_4_26 h_a_4_36 h_a_4_17 h_a_4_27 h_a_4_37 h_a_10_0 ⟨by omega, by omega⟩ ⟨by omega, by omega⟩) cf_X8_begin (cw_25 cy tE a rw S) rfl wm_X11_206 wi_X8_begin ws_X8_begin dX11_gain_38 rfl (Nat.le_of_ble_eq_true rfl) ⟨by decide, by decide, by decide, by decide⟩) (fun u12400 h12398 => ?_)
    obtain rfl := h12398
    refine z_aload_n b dX11_gain_41 rfl rfl ?_
    refine z_get (q0 := 0) (k9 := 6) (v := .ref (a 25)) b (cw_0 cy tE a rw (su (si (su (su (sv (sa (si (si (si (si S 24 1) 19 p0) 20 p1) 21 7) 13 (fil 1024 0 (ar (si (si (si (si S 24 1) 19 p0) 20 p1) 21 7) 13))) 2 0 4128768) 11 0 (-1)) 12 0 (-1)) 25 1) 13 978 1)) rfl in_X11 (by decide) wf_X11_52 rfl dX11_gain_42 ?_
    refine z_callv b (z_runV (q0 := 25) (As := []) (st := []) b (c_X8_finish_2 (su (si (su (su (sv (sa (si (si (si (si S 24 1) 19 p0) 20 p1) 21 7) 13 (fil 1024 0 (ar (si (si (si (si S 24 1) 19 p0) 20 p1) 21 7) 13))) 2 0 4128768) 11 0 (-1)) 12 0 (-1)) 25 1) 13 978 1) h_i_26 h_i_23 rfl h_a_10_0 rfl h_a_9_50 h_a_9_40 h_a_9_41 h_a_9_42 h_a_9_0 h_a_9_11 h_a_9_21 h_a_9_31 h_a_9_12 h_a_9_22 h_a_9_32 h_a_9_1 h_a_9_13 h_a_9_23 h_a_9_33 h_a_9_15 h_a_9_25 h_a_9_35 h_a_9_2 h_a_9_16 h_a_9_26 h_a_9_36 h_a_9_17 h_a_9_27 h_a_9_37 h_i_18) cf_X8_finish (cw_25 cy tE a rw (su (si (su (su (sv (sa (si (si (si (si S 24 1) 19 p0) 20 p1) 21 7) 13 (fil 1024 0 (ar (si (si (si (si S 24 1) 19 p0) 20 p1) 21 7) 13))) 2 0 4128768) 11 0 (-1)) 12 0 (-1)) 25 1) 13 978 1)) rfl wm_X11_232 wi_X8_finish ws_X8_finish dX11_gain_45 rfl (Nat.le_of_ble_eq_true rfl) ⟨by decide, by decide, by decide, by decide⟩) (fun u12403 h12401 => ?_)
    rcases h12401 with ⟨c12404, rfl⟩ | ⟨c12405, rfl⟩
    · refine z_aload_n b dX11_gain_48 rfl rfl ?_
      refine z_get (q0 := 0) (k9 := 6) (v := .ref (a 25)) b (cw_0 cy tE a rw (si (su (si (su (su (sv (sa (si (si (si (si S 24 1) 19 p0) 20 p1) 21 7) 13 (fil 1024 0 (ar (si (si (si (si S 24 1) 19 p0) 20 p1) 21 7) 13))) 2 0 4128768) 11 0 (-1)) 12 0 (-1)) 25 1) 13 978 1) 23 1)) rfl in_X11 (by decide) wf_X11_52 rfl dX11_gain_49 ?_
      refine z_get (q0 := 25) (k9 := 18) (v := .int (fi (si (su (si (su (su (sv (sa (si (si (si (si S 24 1) 19 p0) 20 p1) 21 7) 13 (fil 1024 0 (ar (si (si (si (si S 24 1) 19 p0) 20 p1) 21 7) 13))) 2 0 4128768) 11 0 (-1)) 12 0 (-1)) 25 1) 13 978 1) 23 1) 26)) b (cw_25 cy tE a rw (si (su (si (su (su (sv (sa (si (si (si (si S 24 1) 19 p0) 20 p1) 21 7) 13 (fil 1024 0 (ar (si (si (si (si S 24 1) 19 p0) 20 p1) 21 7) 13))) 2 0 4128768) 11 0 (-1)) 12 0 (-1)) 25 1) 13 978 1) 23 1)) rfl in_X8 (by decide) wf_X11_214 rfl dX11_gain_52 ?_
      refine z_eqi h_i_26 ?_
      refine z_if_eq_t (tgt := 61) b dX11_gain_55 (by decide) (by decide) ?_
      refine z_aload_n b dX11_gain_61 rfl rfl ?_
      refine z_get (q0 := 0) (k9 := 6) (v := .ref (a 25)) b (cw_0 cy tE a rw (si (su (si (su (su (sv (sa (si (si (si (si S 24 1) 19 p0) 20 p1) 21 7) 13 (fil 1024 0 (ar (si (si (si (si S 24 1) 19 p0) 20 p1) 21 7) 13))) 2 0 4128768) 11 0 (-1)) 12 0 (-1)) 25 1) 13 978 1) 23 1)) rfl in_X11 (by decide) wf_X11_52 rfl dX11_gain_62 ?_
      refine z_iload_n b dX11_gain_65 rfl rfl ?_
      refine z_calli b (z_runV (q0 := 25) (As := [.int 0]) (st := []) b (c_X8_richest (si (su (si (su (su (sv (sa (si (si (si (si S 24 1) 19 p0) 20 p1) 21 7) 13 (fil 1024 0 (ar (si (si (si (si S 24 1) 19 p0) 20 p1) 21 7) 13))) 2 0 4128768) 11 0 (-1)) 12 0 (-1)) 25 1) 13 978 1) 23 1) rfl rfl h_a_9_50 h_a_9_40 h_a_9_41 h_a_9_42 h_a_9_0 h_a_9_11 h_a_9_21 h_a_9_31 h_a_9_12 h_a_9_22 h_a_9_32 h_a_9_1 h_a_9_13 h_a_9_23 h_a_9_33 h_a_9_15 h_a_9_25 h_a_9_35 h_a_9_2 h_a_9_16 h_a_9_26 h_a_9_36 h_a_9_17 h_a_9_27 h_a_9_37) cf_X8_richest (cw_25 cy tE a rw (si (su (si (su (su (sv (sa (si (si (si (si S 24 1) 19 p0) 20 p1) 21 7) 13 (fil 1024 0 (ar (si (si (si (si S 24 1) 19 p0) 20 p1) 21 7) 13))) 2 0 4128768) 11 0 (-1)) 12 0 (-1)) 25 1) 13 978 1) 23 1)) rfl wm_X11_238 wi_X8_richest ws_X8_richest dX11_gain_66 rfl (Nat.le_of_ble_eq_true rfl) ⟨by decide, by decide, by decide, by decide⟩) (fun r12407 u12408 h12406 => ?_)
      obtain ⟨rfl, rfl⟩ := h12406
      refine z_istore (lv' := [(5, .int 0), (0, .ref (a 0)), (1, .int 0), (2, .int p0), (3, .int p1), (4, .int p2)]) b dX11_gain_69 (by decide) rfl ?_
      refine z_iload b dX11_gain_71 rfl ?_
      refine y_if_ne (tgt := 87) (xl := p2.toInt) b rfl dX11_gain_73 (by decide) (fun c12409 => ?_) (fun c12409 => ?_)
      · refine z_iload b dX11_gain_87 rfl ?_
        refine z_iconst (v := 1) b dX11_gain_89 (by decide) ?_
        refine y_icmp_ne (tgt := 103) (xl := p2.toInt) (yl := 1) b rfl (by decide) dX11_gain_90 (by decide) (fun c12410 => ?_) (fun c12410 => ?_)
        · refine z_aload_n b dX11_gain_103 rfl rfl ?_
          refine z_get (q0 := 0) (k9 := 6) (v := .ref (a 25)) b (cw_0 cy tE a rw (si (su (si (su (su (sv (sa (si (si (si (si S 24 1) 19 p0) 20 p1) 21 7) 13 (fil 1024 0 (ar (si (si (si (si S 24 1) 19 p0) 20 p1) 21 7) 13))) 2 0 4128768) 11 0 (-1)) 12 0 (-1)) 25 1) 13 978 1) 23 1)) rfl in_X11 (by decide) wf_X11_52 rfl dX11_gain_104 ?_
          refine z_iload b dX11_gain_107 rfl ?_
          refine z_iload b dX11_gain_109 rfl ?_
          refine z_iconst (v := 2) b dX11_gain_111 (by decide) ?_
          refine z_isub b dX11_gain_112 rfl ?_
          have f12411 : ((p2 - 2) : Int32).toInt = p2.toInt + (-2) := zisub (k := 2) (by decide) (by omega) (by omega)
          refine z_calli b (z_runV (q0 := 25) (As := [.int 0, .int (p2 - 2)]) (st := []) b (c_X8_code_2 (si (su (si (su (su (sv (sa (si (si (si (si S 24 1) 19 p0) 20 p1) 21 7) 13 (fil 1024 0 (ar (si (si (si (si S 24 1) 19 p0) 20 p1) 21 7) 13))) 2 0 4128768) 11 0 (-1)) 12 0 (-1)) 25 1) 13 978 1) 23 1) (p2 - 2) rfl h_a_10_0 ⟨by omega, by omega⟩) cf_X8_code (cw_25 cy tE a rw (si (su (si (su (su (sv (sa (si (si (si (si S 24 1) 19 p0) 20 p1) 21 7) 13 (fil 1024 0 (ar (si (si (si (si S 24 1) 19 p0) 20 p1) 21 7) 13))) 2 0 4128768) 11 0 (-1)) 12 0 (-1)) 25 1) 13 978 1) 23 1)) rfl wm_X11_219 wi_X8_code ws_X8_code dX11_gain_113 rfl (Nat.le_of_ble_eq_true rfl) ⟨by decide, by decide, by decide, by decide⟩) (fun r12413 u12414 h12412 => ?_)
          obtain ⟨rfl, rfl⟩ := h12412
          refine z_istore (lv' := [(6, .int (-1)), (5, .int 0), (0, .ref (a 0)), (1, .int 0), (2, .int p0), (3, .int p1), (4, .int p2)]) b dX11_gain_116 (by decide) rfl ?_
          refine z_iload b dX11_gain_118 rfl ?_
          refine z_iconst (v := (-1)) b dX11_gain_120 (by decide) ?_
          refine z_icmp_ne_f (tgt := 129) b dX11_gain_121 (by decide) (by decide) ?_
          refine z_bipush (v := (-100)) b dX11_gain_124 (by decide) ?_
          refine z_goto (tgt := 131) b dX11_gain_126 (by decide) ?_
          exact z_iret (u := (si (su (si (su (su (sv (sa (si (si (si (si S 24 1) 19 p0) 20 p1) 21 7) 13 (fil 1024 0 (ar (si (si (si (si S 24 1) 19 p0) 20 p1) 21 7) 13))) 2 0 4128768) 11 0 (-1)) 12 0 (-1)) 25 1) 13 978 1) 23 1)) b rfl dX11_gain_131 (Or.inl ⟨⟨c12397, c12404, c12409, c12410⟩, rfl, rfl⟩) rfl (by decide) (by decide)
        · exfalso; omega
      · exfalso; omega
    · refine z_aload_n b dX11_gain_48 rfl rfl ?_
      refine z_get (q0 := 0) (k9 := 6) (v := .ref (a 25)) b (cw_0 cy tE a rw (su (si (su (su (sv (sa (si (si (si (si S 24 1) 19 p0) 20 p1) 21 7) 13 (fil 1024 0 (ar (si (si (si (si S 24 1) 19 p0) 20 p1) 21 7) 13))) 2 0 4128768) 11 0 (-1)) 12 0 (-1)) 25 1) 13 978 1)) rfl in_X11 (by decide) wf_X11_52 rfl dX11_gain_49 ?_
      refine z_get (q0 := 25) (k9 := 18) (v := .int (fi (su (si (su (su (sv (sa (si (si (si (si S 24 1) 19 p0) 20 p1) 21 7) 13 (fil 1024 0 (ar (si (si (si (si S 24 1) 19 p0) 20 p1) 21 7) 13))) 2 0 4128768) 11 0 (-1)) 12 0 (-1)) 25 1) 13 978 1) 26)) b (cw_25 cy tE a rw (su (si (su (su (sv (sa (si (si (si (si S 24 1) 19 p0) 20 p1) 21 7) 13 (fil 1024 0 (ar (si (si (si (si S 24 1) 19 p0) 20 p1) 21 7) 13))) 2 0 4128768) 11 0 (-1)) 12 0 (-1)) 25 1) 13 978 1)) rfl in_X8 (by decide) wf_X11_214 rfl dX11_gain_52 ?_
      refine z_eqi h_i_26 ?_
      refine z_if_eq_t (tgt := 61) b dX11_gain_55 (by decide) (by decide) ?_
      refine z_aload_n b dX11_gain_61 rfl rfl ?_
      refine z_get (q0 := 0) (k9 := 6) (v := .ref (a 25)) b (cw_0 cy tE a rw (su (si (su (su (sv (sa (si (si (si (si S 24 1) 19 p0) 20 p1) 21 7) 13 (fil 1024 0 (ar (si (si (si (si S 24 1) 19 p0) 20 p1) 21 7) 13))) 2 0 4128768) 11 0 (-1)) 12 0 (-1)) 25 1) 13 978 1)) rfl in_X11 (by decide) wf_X11_52 rfl dX11_gain_62 ?_
      refine z_iload_n b dX11_gain_65 rfl rfl ?_
      refine z_calli b (z_runV (q0 := 25) (As := [.int 0]) (st := []) b (c_X8_richest (su (si (su (su (sv (sa (si (si (si (si S 24 1) 19 p0) 20 p1) 21 7) 13 (fil 1024 0 (ar (si (si (si (si S 24 1) 19 p0) 20 p1) 21 7) 13))) 2 0 4128768) 11 0 (-1)) 12 0 (-1)) 25 1) 13 978 1) rfl rfl h_a_9_50 h_a_9_40 h_a_9_41 h_a_9_42 h_a_9_0 h_a_9_11 h_a_9_21 h_a_9_31 h_a_9_12 h_a_9_22 h_a_9_32 h_a_9_1 h_a_9_13 h_a_9_23 h_a_9_33 h_a_9_15 h_a_9_25 h_a_9_35 h_a_9_2 h_a_9_16 h_a_9_26 h_a_9_36 h_a_9_17 h_a_9_27 h_a_9_37) cf_X8_richest (cw_25 cy tE a rw (su (si (su (su (sv (sa (si (si (si (si S 24 1) 19 p0) 20 p1) 21 7) 13 (fil 1024 0 (ar (si (si (si (si S 24 1) 19 p0) 20 p1) 21 7) 13))) 2 0 4128768) 11 0 (-1)) 12 0 (-1)) 25 1) 13 978 1)) rfl wm_X11_238 wi_X8_richest ws_X8_richest dX11_gain_66 rfl (Nat.le_of_ble_eq_true rfl) ⟨by decide, by decide, by decide, by decide⟩) (fun r12416 u12417 h12415 => ?_)
      obtain ⟨rfl, rfl⟩ := h12415
      refine z_istore (lv' := [(5, .int 0), (0, .ref (a 0)), (1, .int 0), (2, .int p0), (3, .int p1), (4, .int p2)]) b dX11_gain_69 (by decide) rfl ?_
      refine z_iload b dX11_gain_71 rfl ?_
      refine y_if_ne (tgt := 87) (xl := p2.toInt) b rfl dX11_gain_73 (by decide) (fun c12418 => ?_) (fun c12418 => ?_)
      · refine z_iload b dX11_gain_87 rfl ?_
        refine z_iconst (v := 1) b dX11_gain_89 (by decide) ?_
        refine y_icmp_ne (tgt := 103) (xl := p2.toInt) (yl := 1) b rfl (by decide) dX11_gain_90 (by decide) (fun c12419 => ?_) (fun c12419 => ?_)
        · refine z_aload_n b dX11_gain_103 rfl rfl ?_
          refine z_get (q0 := 0) (k9 := 6) (v := .ref (a 25)) b (cw_0 cy tE a rw (su (si (su (su (sv (sa (si (si (si (si S 24 1) 19 p0) 20 p1) 21 7) 13 (fil 1024 0 (ar (si (si (si (si S 24 1) 19 p0) 20 p1) 21 7) 13))) 2 0 4128768) 11 0 (-1)) 12 0 (-1)) 25 1) 13 978 1)) rfl in_X11 (by decide) wf_X11_52 rfl dX11_gain_104 ?_
          refine z_iload b dX11_gain_107 rfl ?_
          refine z_iload b dX11_gain_109 rfl ?_
          refine z_iconst (v := 2) b dX11_gain_111 (by decide) ?_
          refine z_isub b dX11_gain_112 rfl ?_
          have f12420 : ((p2 - 2) : Int32).toInt = p2.toInt + (-2) := zisub (k := 2) (by decide) (by omega) (by omega)
          refine z_calli b (z_runV (q0 := 25) (As := [.int 0, .int (p2 - 2)]) (st := []) b (c_X8_code_2 (su (si (su (su (sv (sa (si (si (si (si S 24 1) 19 p0) 20 p1) 21 7) 13 (fil 1024 0 (ar (si (si (si (si S 24 1) 19 p0) 20 p1) 21 7) 13))) 2 0 4128768) 11 0 (-1)) 12 0 (-1)) 25 1) 13 978 1) (p2 - 2) rfl h_a_10_0 ⟨by omega, by omega⟩) cf_X8_code (cw_25 cy tE a rw (su (si (su (su (sv (sa (si (si (si (si S 24 1) 19 p0) 20 p1) 21 7) 13 (fil 1024 0 (ar (si (si (si (si S 24 1) 19 p0) 20 p1) 21 7) 13))) 2 0 4128768) 11 0 (-1)) 12 0 (-1)) 25 1) 13 978 1)) rfl wm_X11_219 wi_X8_code ws_X8_code dX11_gain_113 rfl (Nat.le_of_ble_eq_true rfl) ⟨by decide, by decide, by decide, by decide⟩) (fun r12422 u12423 h12421 => ?_)
          obtain ⟨rfl, rfl⟩ := h12421
          refine z_istore (lv' := [(6, .int (-1)), (5, .int 0), (0, .ref (a 0)), (1, .int 0), (2, .int p0), (3, .int p1), (4, .int p2)]) b dX11_gain_116 (by decide) rfl ?_
          refine z_iload b dX11_gain_118 rfl ?_
          refine z_iconst (v := (-1)) b dX11_gain_120 (by decide) ?_
          refine z_icmp_ne_f (tgt := 129) b dX11_gain_121 (by decide) (by decide) ?_
          refine z_bipush (v := (-100)) b dX11_gain_124 (by decide) ?_
          refine z_goto (tgt := 131) b dX11_gain_126 (by decide) ?_
          exact z_iret (u := (su (si (su (su (sv (sa (si (si (si (si S 24 1) 19 p0) 20 p1) 21 7) 13 (fil 1024 0 (ar (si (si (si (si S 24 1) 19 p0) 20 p1) 21 7) 13))) 2 0 4128768) 11 0 (-1)) 12 0 (-1)) 25 1) 13 978 1)) b rfl dX11_gain_131 (Or.inr ⟨⟨c12397, c12405, c12418, c12419⟩, rfl, rfl⟩) rfl (by decide) (by decide)
        · exfalso; omega
      · exfalso; omega
  · exfalso; omega

set_option maxHeartbeats 4000000 in
set_option maxRecDepth 100000 in
theorem c_X12_gain_24 {l : Launch} {D : va_G} {cy : Nat → ClassId} {T0 tB tE : Nat} {a : Nat → Nat} (S : GS) (p0 : Int32) (p1 : Int32) (p2 : Int32)  (hr_p0 : 1 ≤ p0.toInt ∧ p0.toInt ≤ 3) (hr_p1 : 1 ≤ p1.toInt ∧ p1.toInt ≤ 6) (hr_p2 : 8 ≤ p2.toInt ∧ p2.toInt ≤ 2147483647) : Ct l D cy T0 tB tE yX12_gain cX12_gain 9 (some .int) 2 44 0 0 (mw cy a S) [.ref (a 0), .int 0, .int p0, .int p1, .int p2] (QI D (U := GS) (fun r u => (-100) = r ∧ S = u) (mw cy a)) := by
  refine Ct.ofZ RX12 "gain" [(0, .ref (a 0)), (1, .int 0), (2, .int p0), (3, .int p1), (4, .int p2)] rfl rfl rfl rfl (Nat.le_of_ble_eq_true rfl) ?_
  intro p e R s m args below meth c A b
  refine z_iload_n b dX12_gain_0 rfl rfl ?_
  refine z_calli b (z_runS (As := [.int 0]) (st := []) b (c_X12_isOne_3 S ) cf_X12_isOne wm_X12_170 ws_X12_isOne dX12_gain_1 rfl (Nat.le_of_ble_eq_true rfl) ⟨by decide, by decide, by decide, by decide⟩) (fun r12425 u12426 h12424 => ?_)
  obtain ⟨rfl, rfl⟩ := h12424
  refine z_if_eq_f (tgt := 27) b dX12_gain_4 (by decide) (by decide) ?_
  refine z_aload_n b dX12_gain_7 rfl rfl ?_
  refine z_iload_n b dX12_gain_8 rfl rfl ?_
  refine z_iload_n b dX12_gain_9 rfl rfl ?_
  refine z_calli b (z_runV (q0 := 0) (As := [.int p0, .int p1]) (st := []) b (c_X12_canSearch_5 S p0 p1 ⟨by omega, by omega⟩ ⟨by omega, by omega⟩) cf_X12_canSearch (mw_0 cy a S) rfl wm_X12_433 wi_X12_canSearch ws_X12_canSearch dX12_gain_10 rfl (Nat.le_of_ble_eq_true rfl) ⟨by decide, by decide, by decide, by decide⟩) (fun r12428 u12429 h12427 => ?_)
  obtain ⟨rfl, rfl⟩ := h12427
  refine z_if_eq_f (tgt := 27) b dX12_gain_13 (by decide) (by decide) ?_
  refine z_iload b dX12_gain_16 rfl ?_
  refine z_iconst (v := 0) b dX12_gain_18 (by decide) ?_
  refine z_bipush (v := 7) b dX12_gain_19 (by decide) ?_
  refine z_calli b (z_runS (As := [.int p2, .int 0, .int 7]) (st := []) b (c_X12_isIn_14 S p2 ⟨by omega, by omega⟩) cf_X12_isIn wm_X12_1 ws_X12_isIn dX12_gain_21 rfl (Nat.le_of_ble_eq_true rfl) ⟨by decide, by decide, by decide, by decide⟩) (fun r12431 u12432 h12430 => ?_)
  obtain ⟨rfl, rfl⟩ := h12430
  refine z_if_ne_f (tgt := 30) b dX12_gain_24 (by decide) (by decide) ?_
  refine z_bipush (v := (-100)) b dX12_gain_27 (by decide) ?_
  exact z_iret (u := S) b rfl dX12_gain_29 ⟨rfl, rfl⟩ rfl (by decide) (by decide)

set_option maxHeartbeats 4000000 in
set_option maxRecDepth 100000 in
theorem c_X11_gain_25 {l : Launch} {D : va_G} {cy : Nat → ClassId} {T0 tB tE : Nat} {a : Nat → Nat} {rw : Nat → Option Nat} (S : GS) (p0 : Int32) (p1 : Int32)  (hr_p0 : 1 ≤ p0.toInt ∧ p0.toInt ≤ 3) (hr_p1 : (-2147483648) ≤ p1.toInt ∧ p1.toInt ≤ (-1)) : Ct l D cy T0 tB tE yX11_gain cX11_gain 7 (some .int) 1 20 0 0 (cw cy tE a rw S) [.ref (a 0), .int 1, .int p0, .int 0, .int p1] (QI D (U := GS) (fun r u => (-100) = r ∧ S = u) (cw cy tE a rw)) := by
  refine Ct.ofZ RX11 "gain" [(0, .ref (a 0)), (1, .int 1), (2, .int p0), (3, .int 0), (4, .int p1)] rfl rfl rfl rfl (Nat.le_of_ble_eq_true rfl) ?_
  intro p e R s m args below meth c A b
  refine z_iload_n b dX11_gain_0 rfl rfl ?_
  refine z_calli b (z_runS (As := [.int 1]) (st := []) b (c_X11_isPerson_4 S ) cf_X11_isPerson wm_X11_69 ws_X11_isPerson dX11_gain_1 rfl (Nat.le_of_ble_eq_true rfl) ⟨by decide, by decide, by decide, by decide⟩) (fun r12434 u12435 h12433 => ?_)
  obtain ⟨rfl, rfl⟩ := h12433
  refine z_if_eq_f (tgt := 26) b dX11_gain_4 (by decide) (by decide) ?_
  refine z_iload_n b dX11_gain_7 rfl rfl ?_
  refine z_calli b (z_runS (As := [.int p0]) (st := []) b (c_X11_areLaws_3 S p0 ⟨by omega, by omega⟩) cf_X11_areLaws wm_X11_181 ws_X11_areLaws dX11_gain_8 rfl (Nat.le_of_ble_eq_true rfl) ⟨by decide, by decide, by decide, by decide⟩) (fun r12437 u12438 h12436 => ?_)
  obtain ⟨rfl, rfl⟩ := h12436
  refine z_if_eq_f (tgt := 26) b dX11_gain_11 (by decide) (by decide) ?_
  refine z_iload_n b dX11_gain_14 rfl rfl ?_
  refine z_calli b (z_runS (As := [.int 0]) (st := []) b (c_X11_isDepth_2 S ) cf_X11_isDepth wm_X11_203 ws_X11_isDepth dX11_gain_15 rfl (Nat.le_of_ble_eq_true rfl) ⟨by decide, by decide, by decide, by decide⟩) (fun r12440 u12441 h12439 => ?_)
  obtain ⟨rfl, rfl⟩ := h12439
  refine z_if_eq_f (tgt := 26) b dX11_gain_18 (by decide) (by decide) ?_
  refine z_iload b dX11_gain_21 rfl ?_
  refine y_if_ge (tgt := 29) (xl := p1.toInt) b rfl dX11_gain_23 (by decide) (fun c12442 => ?_) (fun c12442 => ?_)
  · exfalso; omega
  · refine z_bipush (v := (-100)) b dX11_gain_26 (by decide) ?_
    exact z_iret (u := S) b rfl dX11_gain_28 ⟨rfl, rfl⟩ rfl (by decide) (by decide)

set_option maxHeartbeats 4000000 in
set_option maxRecDepth 100000 in
theorem c_X12_gain_25 {l : Launch} {D : va_G} {cy : Nat → ClassId} {T0 tB tE : Nat} {a : Nat → Nat} (S : GS) (p0 : Int32) (p1 : Int32)  (hr_p0 : 1 ≤ p0.toInt ∧ p0.toInt ≤ 3) (hr_p1 : (-2147483648) ≤ p1.toInt ∧ p1.toInt ≤ (-1)) : Ct l D cy T0 tB tE yX12_gain cX12_gain 9 (some .int) 2 44 0 0 (mw cy a S) [.ref (a 0), .int 1, .int p0, .int 0, .int p1] (QI D (U := GS) (fun r u => (-100) = r ∧ S = u) (mw cy a)) := by
  refine Ct.ofZ RX12 "gain" [(0, .ref (a 0)), (1, .int 1), (2, .int p0), (3, .int 0), (4, .int p1)] rfl rfl rfl rfl (Nat.le_of_ble_eq_true rfl) ?_
  intro p e R s m args below meth c A b
  refine z_iload_n b dX12_gain_0 rfl rfl ?_
  refine z_calli b (z_runS (As := [.int 1]) (st := []) b (c_X12_isOne_4 S ) cf_X12_isOne wm_X12_170 ws_X12_isOne dX12_gain_1 rfl (Nat.le_of_ble_eq_true rfl) ⟨by decide, by decide, by decide, by decide⟩) (fun r12444 u12445 h12443 => ?_)
  obtain ⟨rfl, rfl⟩ := h12443
  refine z_if_eq_f (tgt := 27) b dX12_gain_4 (by decide) (by decide) ?_
  refine z_aload_n b dX12_gain_7 rfl rfl ?_
  refine z_iload_n b dX12_gain_8 rfl rfl ?_
  refine z_iload_n b dX12_gain_9 rfl rfl ?_
  refine z_calli b (z_runV (q0 := 0) (As := [.int p0, .int 0]) (st := []) b (c_X12_canSearch_4 S p0 ⟨by omega, by omega⟩) cf_X12_canSearch (mw_0 cy a S) rfl wm_X12_433 wi_X12_canSearch ws_X12_canSearch dX12_gain_10 rfl (Nat.le_of_ble_eq_true rfl) ⟨by decide, by decide, by decide, by decide⟩) (fun r12447 u12448 h12446 => ?_)
  obtain ⟨rfl, rfl⟩ := h12446
  refine z_if_eq_f (tgt := 27) b dX12_gain_13 (by decide) (by decide) ?_
  refine z_iload b dX12_gain_16 rfl ?_
  refine z_iconst (v := 0) b dX12_gain_18 (by decide) ?_
  refine z_bipush (v := 7) b dX12_gain_19 (by decide) ?_
  refine z_calli b (z_runS (As := [.int p1, .int 0, .int 7]) (st := []) b (c_X12_isIn_12 S p1 ⟨by omega, by omega⟩) cf_X12_isIn wm_X12_1 ws_X12_isIn dX12_gain_21 rfl (Nat.le_of_ble_eq_true rfl) ⟨by decide, by decide, by decide, by decide⟩) (fun r12450 u12451 h12449 => ?_)
  obtain ⟨rfl, rfl⟩ := h12449
  refine z_if_ne_f (tgt := 30) b dX12_gain_24 (by decide) (by decide) ?_
  refine z_bipush (v := (-100)) b dX12_gain_27 (by decide) ?_
  exact z_iret (u := S) b rfl dX12_gain_29 ⟨rfl, rfl⟩ rfl (by decide) (by decide)

set_option maxHeartbeats 4000000 in
set_option maxRecDepth 100000 in
theorem c_X9_get_4 {l : Launch} {D : va_G} {cy : Nat → ClassId} {T0 tB tE : Nat} {a : Nat → Nat} {rw : Nat → Option Nat} (S : GS)  (h_a_9_1 : ar S 9 1 = 0) : Ct l D cy T0 tB tE yX9_get cX9_get 2 (some .int) 0 0 0 0 (cw cy tE a rw S) [.ref (a 26), .int 1] (QI D (U := GS) (fun r u => 0 = r ∧ S = u) (cw cy tE a rw)) := by
  refine Ct.ofZ RX9 "get" [(0, .ref (a 26)), (1, .int 1)] rfl rfl rfl rfl (Nat.le_of_ble_eq_true rfl) ?_
  intro p e R s m args below meth c A b
  refine z_iload_n b dX9_get_0 rfl rfl ?_
  refine z_if_lt_f (tgt := 22) b dX9_get_1 (by decide) (by decide) ?_
  refine z_iload_n b dX9_get_4 rfl rfl ?_
  refine z_aload_n b dX9_get_5 rfl rfl ?_
  refine z_get (q0 := 26) (k9 := 0) (v := .ref (a 27)) b (cw_26 cy tE a rw S) rfl in_X9 (by decide) wf_X9_11 rfl dX9_get_6 ?_
  refine z_alen (q0 := 27) (t0 := 0) (v := 51) b (cw_27 cy tE a rw S) rfl rfl dX9_get_9 ?_
  refine z_icmp_ge_f (tgt := 22) b dX9_get_10 (by decide) (by decide) ?_
  refine z_aload_n b dX9_get_13 rfl rfl ?_
  refine z_get (q0 := 26) (k9 := 0) (v := .ref (a 27)) b (cw_26 cy tE a rw S) rfl in_X9 (by decide) wf_X9_11 rfl dX9_get_14 ?_
  refine z_iload_n b dX9_get_17 rfl rfl ?_
  refine y_iald (q0 := 27) (j := 1) (v := (ar S 9 1)) b (cw_27 cy tE a rw S) (by decide) rfl dX9_get_18 ?_
  refine z_eqi h_a_9_1 ?_
  refine z_goto (tgt := 23) b dX9_get_19 (by decide) ?_
  exact z_iret (u := S) b rfl dX9_get_23 ⟨rfl, rfl⟩ rfl (by decide) (by decide)

set_option maxHeartbeats 4000000 in
set_option maxRecDepth 100000 in
theorem c_X9_get_5 {l : Launch} {D : va_G} {cy : Nat → ClassId} {T0 tB tE : Nat} {a : Nat → Nat} {rw : Nat → Option Nat} (S : GS)  (h_a_9_13 : ar S 9 13 = 0) : Ct l D cy T0 tB tE yX9_get cX9_get 2 (some .int) 0 0 0 0 (cw cy tE a rw S) [.ref (a 26), .int 13] (QI D (U := GS) (fun r u => 0 = r ∧ S = u) (cw cy tE a rw)) := by
  refine Ct.ofZ RX9 "get" [(0, .ref (a 26)), (1, .int 13)] rfl rfl rfl rfl (Nat.le_of_ble_eq_true rfl) ?_
  intro p e R s m args below meth c A b
  refine z_iload_n b dX9_get_0 rfl rfl ?_
  refine z_if_lt_f (tgt := 22) b dX9_get_1 (by decide) (by decide) ?_
  refine z_iload_n b dX9_get_4 rfl rfl ?_
  refine z_aload_n b dX9_get_5 rfl rfl ?_
  refine z_get (q0 := 26) (k9 := 0) (v := .ref (a 27)) b (cw_26 cy tE a rw S) rfl in_X9 (by decide) wf_X9_11 rfl dX9_get_6 ?_
  refine z_alen (q0 := 27) (t0 := 0) (v := 51) b (cw_27 cy tE a rw S) rfl rfl dX9_get_9 ?_
  refine z_icmp_ge_f (tgt := 22) b dX9_get_10 (by decide) (by decide) ?_
  refine z_aload_n b dX9_get_13 rfl rfl ?_
  refine z_get (q0 := 26) (k9 := 0) (v := .ref (a 27)) b (cw_26 cy tE a rw S) rfl in_X9 (by decide) wf_X9_11 rfl dX9_get_14 ?_
  refine z_iload_n b dX9_get_17 rfl rfl ?_
  refine y_iald (q0 := 27) (j := 13) (v := (ar S 9 13)) b (cw_27 cy tE a rw S) (by decide) rfl dX9_get_18 ?_
  refine z_eqi h_a_9_13 ?_
  refine z_goto (tgt := 23) b dX9_get_19 (by decide) ?_
  exact z_iret (u := S) b rfl dX9_get_23 ⟨rfl, rfl⟩ rfl (by decide) (by decide)

set_option maxHeartbeats 4000000 in
set_option maxRecDepth 100000 in
theorem c_X9_get_6 {l : Launch} {D : va_G} {cy : Nat → ClassId} {T0 tB tE : Nat} {a : Nat → Nat} {rw : Nat → Option Nat} (S : GS)  (h_a_9_15 : ar S 9 15 = 0) : Ct l D cy T0 tB tE yX9_get cX9_get 2 (some .int) 0 0 0 0 (cw cy tE a rw S) [.ref (a 26), .int 15] (QI D (U := GS) (fun r u => 0 = r ∧ S = u) (cw cy tE a rw)) := by
  refine Ct.ofZ RX9 "get" [(0, .ref (a 26)), (1, .int 15)] rfl rfl rfl rfl (Nat.le_of_ble_eq_true rfl) ?_
  intro p e R s m args below meth c A b
  refine z_iload_n b dX9_get_0 rfl rfl ?_
  refine z_if_lt_f (tgt := 22) b dX9_get_1 (by decide) (by decide) ?_
  refine z_iload_n b dX9_get_4 rfl rfl ?_
  refine z_aload_n b dX9_get_5 rfl rfl ?_
  refine z_get (q0 := 26) (k9 := 0) (v := .ref (a 27)) b (cw_26 cy tE a rw S) rfl in_X9 (by decide) wf_X9_11 rfl dX9_get_6 ?_
  refine z_alen (q0 := 27) (t0 := 0) (v := 51) b (cw_27 cy tE a rw S) rfl rfl dX9_get_9 ?_
  refine z_icmp_ge_f (tgt := 22) b dX9_get_10 (by decide) (by decide) ?_
  refine z_aload_n b dX9_get_13 rfl rfl ?_
  refine z_get (q0 := 26) (k9 := 0) (v := .ref (a 27)) b (cw_26 cy tE a rw S) rfl in_X9 (by decide) wf_X9_11 rfl dX9_get_14 ?_
  refine z_iload_n b dX9_get_17 rfl rfl ?_
  refine y_iald (q0 := 27) (j := 15) (v := (ar S 9 15)) b (cw_27 cy tE a rw S) (by decide) rfl dX9_get_18 ?_
  refine z_eqi h_a_9_15 ?_
  refine z_goto (tgt := 23) b dX9_get_19 (by decide) ?_
  exact z_iret (u := S) b rfl dX9_get_23 ⟨rfl, rfl⟩ rfl (by decide) (by decide)

set_option maxHeartbeats 4000000 in
set_option maxRecDepth 100000 in
theorem c_X8_wealth_2 {l : Launch} {D : va_G} {cy : Nat → ClassId} {T0 tB tE : Nat} {a : Nat → Nat} {rw : Nat → Option Nat} (S : GS)  (h_i_25 : fi S 25 = 1) (h_A_2_0 : al S 2 0 = 4128768) (h_a_9_50 : ar S 9 50 = 0) (h_a_9_40 : ar S 9 40 = 3) (h_a_9_41 : ar S 9 41 = 3) (h_a_9_42 : ar S 9 42 = 3) (h_a_9_0 : ar S 9 0 = 0) (h_a_9_11 : ar S 9 11 = 0) (h_a_9_21 : ar S 9 21 = 0) (h_a_9_31 : ar S 9 31 = 0) (h_a_9_12 : ar S 9 12 = 0) (h_a_9_22 : ar S 9 22 = 0) (h_a_9_32 : ar S 9 32 = 0) (h_a_9_1 : ar S 9 1 = 0) (h_a_9_13 : ar S 9 13 = 0) (h_a_9_23 : ar S 9 23 = 0) (h_a_9_33 : ar S 9 33 = 0) (h_a_9_15 : ar S 9 15 = 0) (h_a_9_25 : ar S 9 25 = 0) (h_a_9_35 : ar S 9 35 = 0) (h_a_9_2 : ar S 9 2 = 0) (h_a_9_16 : ar S 9 16 = 0) (h_a_9_26 : ar S 9 26 = 0) (h_a_9_36 : ar S 9 36 = 0) (h_a_9_17 : ar S 9 17 = 0) (h_a_9_27 : ar S 9 27 = 0) (h_a_9_37 : ar S 9 37 = 0) : Ct l D cy T0 tB tE yX8_wealth cX8_wealth 5 (some .int) 3 68 0 0 (cw cy tE a rw S) [.ref (a 25), .int 0, .int 1] (QI D (U := GS) (fun r u => 0 = r ∧ S = u) (cw cy tE a rw)) := by
  refine Ct.ofZ RX8 "wealth" [(0, .ref (a 25)), (1, .int 0), (2, .int 1)] rfl rfl rfl rfl (Nat.le_of_ble_eq_true rfl) ?_
  intro p e R s m args below meth c A b
  refine z_aload_n b dX8_wealth_0 rfl rfl ?_
  refine z_iload_n b dX8_wealth_1 rfl rfl ?_
  refine z_callv b (z_runV (q0 := 25) (As := [.int 0]) (st := []) b (c_X8_load S h_i_25 h_A_2_0 h_a_9_50 h_a_9_40 h_a_9_41 h_a_9_42 h_a_9_0 h_a_9_11 h_a_9_21 h_a_9_31 h_a_9_12 h_a_9_22 h_a_9_32 h_a_9_1 h_a_9_13 h_a_9_23 h_a_9_33 h_a_9_15 h_a_9_25 h_a_9_35 h_a_9_2 h_a_9_16 h_a_9_26 h_a_9_36 h_a_9_17 h_a_9_27 h_a_9_37) cf_X8_load (cw_25 cy tE a rw S) rfl wm_X8_153 wi_X8_load ws_X8_load dX8_wealth_2 rfl (Nat.le_of_ble_eq_true rfl) ⟨by decide, by decide, by decide, by decide⟩) (fun u12469 h12467 => ?_)
  obtain rfl := h12467
  refine z_aload_n b dX8_wealth_5 rfl rfl ?_
  refine z_get (q0 := 25) (k9 := 2) (v := .ref (a 26)) b (cw_25 cy tE a rw S) rfl in_X8 (by decide) wf_X8_12 rfl dX8_wealth_6 ?_
  refine z_iload_n b dX8_wealth_9 rfl rfl ?_
  refine z_calli b (z_runV (q0 := 26) (As := [.int 1]) (st := []) b (c_X9_get_4 S h_a_9_1) cf_X9_get (cw_26 cy tE a rw S) rfl wm_X8_161 wi_X9_get ws_X9_get dX8_wealth_10 rfl (Nat.le_of_ble_eq_true rfl) ⟨by decide, by decide, by decide, by decide⟩) (fun r12471 u12472 h12470 => ?_)
  obtain ⟨rfl, rfl⟩ := h12470
  refine z_istore_n (lv' := [(3, .int 0), (0, .ref (a 25)), (1, .int 0), (2, .int 1)]) b dX8_wealth_13 rfl (by decide) rfl ?_
  refine z_iconst (v := 0) b dX8_wealth_14 (by decide) ?_
  refine z_istore (lv' := [(4, .int 0), (3, .int 0), (0, .ref (a 25)), (1, .int 0), (2, .int 1)]) b dX8_wealth_15 (by decide) rfl ?_
  refine z_iload b dX8_wealth_17 rfl ?_
  refine z_iconst (v := 3) b dX8_wealth_19 (by decide) ?_
  refine z_icmp_ge_f (tgt := 54) b dX8_wealth_20 (by decide) (by decide) ?_
  refine z_iload b dX8_wealth_23 rfl ?_
  refine z_iload_n b dX8_wealth_25 rfl rfl ?_
  refine z_icmp_eq_f (tgt := 48) b dX8_wealth_26 (by decide) (by decide) ?_
  refine z_iload_n b dX8_wealth_29 rfl rfl ?_
  refine z_aload_n b dX8_wealth_30 rfl rfl ?_
  refine z_get (q0 := 25) (k9 := 2) (v := .ref (a 26)) b (cw_25 cy tE a rw S) rfl in_X8 (by decide) wf_X8_12 rfl dX8_wealth_31 ?_
  refine z_bipush (v := 10) b dX8_wealth_34 (by decide) ?_
  refine z_iconst (v := 3) b dX8_wealth_36 (by decide) ?_
  refine z_iload_n b dX8_wealth_37 rfl rfl ?_
  refine z_imul (v := 3) b dX8_wealth_38 (by decide) ?_
  refine z_iadd (v := 13) b dX8_wealth_39 (by decide) ?_
  refine z_iload b dX8_wealth_40 rfl ?_
  refine z_iadd (v := 13) b dX8_wealth_42 (by decide) ?_
  refine z_calli b (z_runV (q0 := 26) (As := [.int 13]) (st := [.int 0]) b (c_X9_get_5 S h_a_9_13) cf_X9_get (cw_26 cy tE a rw S) rfl wm_X8_161 wi_X9_get ws_X9_get dX8_wealth_43 rfl (Nat.le_of_ble_eq_true rfl) ⟨by decide, by decide, by decide, by decide⟩) (fun r12474 u12475 h12473 => ?_)
  obtain ⟨rfl, rfl⟩ := h12473
  refine z_isub (v := 0) b dX8_wealth_46 (by decide) ?_
  refine z_istore_n (lv' := [(3, .int 0), (4, .int 0), (0, .ref (a 25)), (1, .int 0), (2, .int 1)]) b dX8_wealth_47 rfl (by decide) rfl ?_
  refine z_iinc (k9 := 1) (v := 1) (lv' := [(4, .int 1), (3, .int 0), (0, .ref (a 25)), (1, .int 0), (2, .int 1)]) b dX8_wealth_48 rfl (by decide) (by decide) rfl ?_
  refine z_goto (tgt := 17) b dX8_wealth_51 (by decide) ?_
  refine z_iload b dX8_wealth_17 rfl ?_
  refine z_iconst (v := 3) b dX8_wealth_19 (by decide) ?_
  refine z_icmp_ge_f (tgt := 54) b dX8_wealth_20 (by decide) (by decide) ?_
  refine z_iload b dX8_wealth_23 rfl ?_
  refine z_iload_n b dX8_wealth_25 rfl rfl ?_
  refine z_icmp_eq_t (tgt := 48) b dX8_wealth_26 (by decide) (by decide) ?_
  refine z_iinc (k9 := 0) (v := 2) (lv' := [(4, .int 2), (3, .int 0), (0, .ref (a 25)), (1, .int 0), (2, .int 1)]) b dX8_wealth_48 rfl (by decide) (by decide) rfl ?_
  refine z_goto (tgt := 17) b dX8_wealth_51 (by decide) ?_
  refine z_iload b dX8_wealth_17 rfl ?_
  refine z_iconst (v := 3) b dX8_wealth_19 (by decide) ?_
  refine z_icmp_ge_f (tgt := 54) b dX8_wealth_20 (by decide) (by decide) ?_
  refine z_iload b dX8_wealth_23 rfl ?_
  refine z_iload_n b dX8_wealth_25 rfl rfl ?_
  refine z_icmp_eq_f (tgt := 48) b dX8_wealth_26 (by decide) (by decide) ?_
  refine z_iload_n b dX8_wealth_29 rfl rfl ?_
  refine z_aload_n b dX8_wealth_30 rfl rfl ?_
  refine z_get (q0 := 25) (k9 := 2) (v := .ref (a 26)) b (cw_25 cy tE a rw S) rfl in_X8 (by decide) wf_X8_12 rfl dX8_wealth_31 ?_
  refine z_bipush (v := 10) b dX8_wealth_34 (by decide) ?_
  refine z_iconst (v := 3) b dX8_wealth_36 (by decide) ?_
  refine z_iload_n b dX8_wealth_37 rfl rfl ?_
  refine z_imul (v := 3) b dX8_wealth_38 (by decide) ?_
  refine z_iadd (v := 13) b dX8_wealth_39 (by decide) ?_
  refine z_iload b dX8_wealth_40 rfl ?_
  refine z_iadd (v := 15) b dX8_wealth_42 (by decide) ?_
  refine z_calli b (z_runV (q0 := 26) (As := [.int 15]) (st := [.int 0]) b (c_X9_get_6 S h_a_9_15) cf_X9_get (cw_26 cy tE a rw S) rfl wm_X8_161 wi_X9_get ws_X9_get dX8_wealth_43 rfl (Nat.le_of_ble_eq_true rfl) ⟨by decide, by decide, by decide, by decide⟩) (fun r12477 u12478 h12476 => ?_)
  obtain ⟨rfl, rfl⟩ := h12476
  refine z_isub (v := 0) b dX8_wealth_46 (by decide) ?_
  refine z_istore_n (lv' := [(3, .int 0), (4, .int 2), (0, .ref (a 25)), (1, .int 0), (2, .int 1)]) b dX8_wealth_47 rfl (by decide) rfl ?_
  refine z_iinc (k9 := 1) (v := 3) (lv' := [(4, .int 3), (3, .int 0), (0, .ref (a 25)), (1, .int 0), (2, .int 1)]) b dX8_wealth_48 rfl (by decide) (by decide) rfl ?_
  refine z_goto (tgt := 17) b dX8_wealth_51 (by decide) ?_
  refine z_iload b dX8_wealth_17 rfl ?_
  refine z_iconst (v := 3) b dX8_wealth_19 (by decide) ?_
  refine z_icmp_ge_t (tgt := 54) b dX8_wealth_20 (by decide) (by decide) ?_
  refine z_iload_n b dX8_wealth_54 rfl rfl ?_
  exact z_iret (u := S) b rfl dX8_wealth_55 ⟨rfl, rfl⟩ rfl (by decide) (by decide)

set_option maxHeartbeats 4000000 in
set_option maxRecDepth 100000 in
theorem c_X8_richest_2 {l : Launch} {D : va_G} {cy : Nat → ClassId} {T0 tB tE : Nat} {a : Nat → Nat} {rw : Nat → Option Nat} (S : GS)  (h_i_25 : fi S 25 = 1) (h_A_2_0 : al S 2 0 = 4128768) (h_a_9_50 : ar S 9 50 = 0) (h_a_9_40 : ar S 9 40 = 3) (h_a_9_41 : ar S 9 41 = 3) (h_a_9_42 : ar S 9 42 = 3) (h_a_9_0 : ar S 9 0 = 0) (h_a_9_11 : ar S 9 11 = 0) (h_a_9_21 : ar S 9 21 = 0) (h_a_9_31 : ar S 9 31 = 0) (h_a_9_12 : ar S 9 12 = 0) (h_a_9_22 : ar S 9 22 = 0) (h_a_9_32 : ar S 9 32 = 0) (h_a_9_1 : ar S 9 1 = 0) (h_a_9_13 : ar S 9 13 = 0) (h_a_9_23 : ar S 9 23 = 0) (h_a_9_33 : ar S 9 33 = 0) (h_a_9_15 : ar S 9 15 = 0) (h_a_9_25 : ar S 9 25 = 0) (h_a_9_35 : ar S 9 35 = 0) (h_a_9_2 : ar S 9 2 = 0) (h_a_9_16 : ar S 9 16 = 0) (h_a_9_26 : ar S 9 26 = 0) (h_a_9_36 : ar S 9 36 = 0) (h_a_9_17 : ar S 9 17 = 0) (h_a_9_27 : ar S 9 27 = 0) (h_a_9_37 : ar S 9 37 = 0) : Ct l D cy T0 tB tE yX8_richest cX8_richest 6 (some .int) 4 92 0 0 (cw cy tE a rw S) [.ref (a 25), .int 1] (QI D (U := GS) (fun r u => 0 = r ∧ S = u) (cw cy tE a rw)) := by
  refine Ct.ofZ RX8 "richest" [(0, .ref (a 25)), (1, .int 1)] rfl rfl rfl rfl (Nat.le_of_ble_eq_true rfl) ?_
  intro p e R s m args below meth c A b
  refine z_iconst (v := 0) b dX8_richest_0 (by decide) ?_
  refine z_istore_n (lv' := [(2, .int 0), (0, .ref (a 25)), (1, .int 1)]) b dX8_richest_1 rfl (by decide) rfl ?_
  refine z_aload_n b dX8_richest_2 rfl rfl ?_
  refine z_iconst (v := 0) b dX8_richest_3 (by decide) ?_
  refine z_iload_n b dX8_richest_4 rfl rfl ?_
  refine z_calli b (z_runV (q0 := 25) (As := [.int 0, .int 1]) (st := []) b (c_X8_wealth_2 S h_i_25 h_A_2_0 h_a_9_50 h_a_9_40 h_a_9_41 h_a_9_42 h_a_9_0 h_a_9_11 h_a_9_21 h_a_9_31 h_a_9_12 h_a_9_22 h_a_9_32 h_a_9_1 h_a_9_13 h_a_9_23 h_a_9_33 h_a_9_15 h_a_9_25 h_a_9_35 h_a_9_2 h_a_9_16 h_a_9_26 h_a_9_36 h_a_9_17 h_a_9_27 h_a_9_37) cf_X8_wealth (cw_25 cy tE a rw S) rfl wm_X8_163 wi_X8_wealth ws_X8_wealth dX8_richest_5 rfl (Nat.le_of_ble_eq_true rfl) ⟨by decide, by decide, by decide, by decide⟩) (fun r12480 u12481 h12479 => ?_)
  obtain ⟨rfl, rfl⟩ := h12479
  refine z_istore_n (lv' := [(3, .int 0), (2, .int 0), (0, .ref (a 25)), (1, .int 1)]) b dX8_richest_8 rfl (by decide) rfl ?_
  refine z_iconst (v := 1) b dX8_richest_9 (by decide) ?_
  refine z_istore (lv' := [(4, .int 1), (3, .int 0), (2, .int 0), (0, .ref (a 25)), (1, .int 1)]) b dX8_richest_10 (by decide) rfl ?_
  refine z_iload b dX8_richest_12 rfl ?_
  refine z_aload_n b dX8_richest_14 rfl rfl ?_
  refine z_get (q0 := 25) (k9 := 17) (v := .int (fi S 25)) b (cw_25 cy tE a rw S) rfl in_X8 (by decide) wf_X8_64 rfl dX8_richest_15 ?_
  refine z_eqi h_i_25 ?_
  refine z_icmp_ge_t (tgt := 56) b dX8_richest_18 (by decide) (by decide) ?_
  refine z_iload_n b dX8_richest_56 rfl rfl ?_
  exact z_iret (u := S) b rfl dX8_richest_57 ⟨rfl, rfl⟩ rfl (by decide) (by decide)

set_option maxHeartbeats 4000000 in
set_option maxRecDepth 100000 in
theorem c_X11_gain_26 {l : Launch} {D : va_G} {cy : Nat → ClassId} {T0 tB tE : Nat} {a : Nat → Nat} {rw : Nat → Option Nat} (S : GS) (p0 : Int32) (h_i_19 : fi S 19 = 0) (h_i_24 : fi S 24 = 0) (h_i_20 : fi S 20 = 0) (h_i_22 : fi S 22 = 0) (h_i_18 : fi S 18 = 0) (h_i_25 : fi S 25 = 0) (h_i_23 : fi S 23 = 0) (h_i_26 : fi S 26 = 0) (h_a_4_50 : ar S 4 50 = 0) (h_a_4_40 : ar S 4 40 = 3) (h_a_4_41 : ar S 4 41 = 3) (h_a_4_42 : ar S 4 42 = 3) (h_a_4_0 : ar S 4 0 = 0) (h_a_4_11 : ar S 4 11 = 0) (h_a_4_21 : ar S 4 21 = 0) (h_a_4_31 : ar S 4 31 = 0) (h_a_4_12 : ar S 4 12 = 0) (h_a_4_22 : ar S 4 22 = 0) (h_a_4_32 : ar S 4 32 = 0) (h_a_4_1 : ar S 4 1 = 0) (h_a_4_13 : ar S 4 13 = 0) (h_a_4_23 : ar S 4 23 = 0) (h_a_4_33 : ar S 4 33 = 0) (h_a_4_15 : ar S 4 15 = 0) (h_a_4_25 : ar S 4 25 = 0) (h_a_4_35 : ar S 4 35 = 0) (h_a_4_2 : ar S 4 2 = 0) (h_a_4_16 : ar S 4 16 = 0) (h_a_4_26 : ar S 4 26 = 0) (h_a_4_36 : ar S 4 36 = 0) (h_a_4_17 : ar S 4 17 = 0) (h_a_4_27 : ar S 4 27 = 0) (h_a_4_37 : ar S 4 37 = 0) (h_a_10_0 : ar S 10 0 = 0) (h_a_9_50 : ar S 9 50 = 0) (h_a_9_40 : ar S 9 40 = 3) (h_a_9_41 : ar S 9 41 = 3) (h_a_9_42 : ar S 9 42 = 3) (h_a_9_0 : ar S 9 0 = 0) (h_a_9_11 : ar S 9 11 = 0) (h_a_9_21 : ar S 9 21 = 0) (h_a_9_31 : ar S 9 31 = 0) (h_a_9_12 : ar S 9 12 = 0) (h_a_9_22 : ar S 9 22 = 0) (h_a_9_32 : ar S 9 32 = 0) (h_a_9_1 : ar S 9 1 = 0) (h_a_9_13 : ar S 9 13 = 0) (h_a_9_23 : ar S 9 23 = 0) (h_a_9_33 : ar S 9 33 = 0) (h_a_9_15 : ar S 9 15 = 0) (h_a_9_25 : ar S 9 25 = 0) (h_a_9_35 : ar S 9 35 = 0) (h_a_9_2 : ar S 9 2 = 0) (h_a_9_16 : ar S 9 16 = 0) (h_a_9_26 : ar S 9 26 = 0) (h_a_9_36 : ar S 9 36 = 0) (h_a_9_17 : ar S 9 17 = 0) (h_a_9_27 : ar S 9 27 = 0) (h_a_9_37 : ar S 9 37 = 0) (hr_p0 : 1 ≤ p0.toInt ∧ p0.toInt ≤ 3) : Ct l D cy T0 tB tE yX11_gain cX11_gain 7 (some .int) 5 117 0 0 (cw cy tE a rw S) [.ref (a 0), .int 1, .int p0, .int 0, .int 0] (QI D (U := GS) (fun r u => 0 = r ∧ (su (si (su (su (sv (sa (si (si (si S 24 1) 19 p0) 21 7) 13 (fil 1024 0 (ar (si (si (si S 24 1) 19 p0) 21 7) 13))) 2 0 4128768) 11 0 (-1)) 12 0 (-1)) 25 1) 13 978 1) = u) (cw cy tE a rw)) := by
  refine Ct.ofZ RX11 "gain" [(0, .ref (a 0)), (1, .int 1), (2, .int p0), (3, .int 0), (4, .int 0)] rfl rfl rfl rfl (Nat.le_of_ble_eq_true rfl) ?_
  intro p e R s m args below meth c A b
  refine z_iload_n b dX11_gain_0 rfl rfl ?_
  refine z_calli b (z_runS (As := [.int 1]) (st := []) b (c_X11_isPerson_4 S ) cf_X11_isPerson wm_X11_69 ws_X11_isPerson dX11_gain_1 rfl (Nat.le_of_ble_eq_true rfl) ⟨by decide, by decide, by decide, by decide⟩) (fun r12453 u12454 h12452 => ?_)
  obtain ⟨rfl, rfl⟩ := h12452
  refine z_if_eq_f (tgt := 26) b dX11_gain_4 (by decide) (by decide) ?_
  refine z_iload_n b dX11_gain_7 rfl rfl ?_
  refine z_calli b (z_runS (As := [.int p0]) (st := []) b (c_X11_areLaws_3 S p0 ⟨by omega, by omega⟩) cf_X11_areLaws wm_X11_181 ws_X11_areLaws dX11_gain_8 rfl (Nat.le_of_ble_eq_true rfl) ⟨by decide, by decide, by decide, by decide⟩) (fun r12456 u12457 h12455 => ?_)
  obtain ⟨rfl, rfl⟩ := h12455
  refine z_if_eq_f (tgt := 26) b dX11_gain_11 (by decide) (by decide) ?_
  refine z_iload_n b dX11_gain_14 rfl rfl ?_
  refine z_calli b (z_runS (As := [.int 0]) (st := []) b (c_X11_isDepth_2 S ) cf_X11_isDepth wm_X11_203 ws_X11_isDepth dX11_gain_15 rfl (Nat.le_of_ble_eq_true rfl) ⟨by decide, by decide, by decide, by decide⟩) (fun r12459 u12460 h12458 => ?_)
  obtain ⟨rfl, rfl⟩ := h12458
  refine z_if_eq_f (tgt := 26) b dX11_gain_18 (by decide) (by decide) ?_
  refine z_iload b dX11_gain_21 rfl ?_
  refine z_if_ge_t (tgt := 29) b dX11_gain_23 (by decide) (by decide) ?_
  refine z_aload_n b dX11_gain_29 rfl rfl ?_
  refine z_get (q0 := 0) (k9 := 6) (v := .ref (a 25)) b (cw_0 cy tE a rw S) rfl in_X11 (by decide) wf_X11_52 rfl dX11_gain_30 ?_
  refine z_iload_n b dX11_gain_33 rfl rfl ?_
  refine z_iload_n b dX11_gain_34 rfl rfl ?_
  refine z_bipush (v := 7) b dX11_gain_35 (by decide) ?_
  refine z_iconst (v := 0) b dX11_gain_37 (by decide) ?_
  refine z_callv b (z_runV (q0 := 25) (As := [.int p0, .int 0, .int 7, .int 0]) (st := []) b (c_X8_begin S p0 h_i_19 h_i_24 h_i_20 h_i_22 h_i_18 h_i_25 h_i_23 h_i_26 h_a_4_50 h_a_4_40 h_a_4_41 h_a_4_42 h_a_4_0 h_a_4_11 h_a_4_21 h_a_4_31 h_a_4_12 h_a_4_22 h_a_4_32 h_a_4_1 h_a_4_13 h_a_4_23 h_a_4_33 h_a_4_15 h_a_4_25 h_a_4_35 h_a_4_2 h_a_4_16 h_a_4_26 h_a_4_36 h_a_4_17 h_a_4_27 h_a_4_37 h_a_10_0 ⟨by omega, by omega⟩) cf_X8_begin (cw_25 cy tE a rw S) rfl wm_X11_206 wi_X8_begin ws_X8_begin dX11_gain_38 rfl (Nat.le_of_ble_eq_true rfl) ⟨by decide, by decide, by decide, by decide⟩) (fun u12463 h12461 => ?_)
  obtain rfl := h12461
  refine z_aload_n b dX11_gain_41 rfl rfl ?_
  refine z_get (q0 := 0) (k9 := 6) (v := .ref (a 25)) b (cw_0 cy tE a rw (su (si (su (su (sv (sa (si (si (si S 24 1) 19 p0) 21 7) 13 (fil 1024 0 (ar (si (si (si S 24 1) 19 p0) 21 7) 13))) 2 0 4128768) 11 0 (-1)) 12 0 (-1)) 25 1) 13 978 1)) rfl in_X11 (by decide) wf_X11_52 rfl dX11_gain_42 ?_
  refine z_callv b (z_runV (q0 := 25) (As := []) (st := []) b (c_X8_finish (su (si (su (su (sv (sa (si (si (si S 24 1) 19 p0) 21 7) 13 (fil 1024 0 (ar (si (si (si S 24 1) 19 p0) 21 7) 13))) 2 0 4128768) 11 0 (-1)) 12 0 (-1)) 25 1) 13 978 1) h_i_26 h_i_23 rfl h_a_10_0 h_i_20) cf_X8_finish (cw_25 cy tE a rw (su (si (su (su (sv (sa (si (si (si S 24 1) 19 p0) 21 7) 13 (fil 1024 0 (ar (si (si (si S 24 1) 19 p0) 21 7) 13))) 2 0 4128768) 11 0 (-1)) 12 0 (-1)) 25 1) 13 978 1)) rfl wm_X11_232 wi_X8_finish ws_X8_finish dX11_gain_45 rfl (Nat.le_of_ble_eq_true rfl) ⟨by decide, by decide, by decide, by decide⟩) (fun u12466 h12464 => ?_)
  obtain rfl := h12464
  refine z_aload_n b dX11_gain_48 rfl rfl ?_
  refine z_get (q0 := 0) (k9 := 6) (v := .ref (a 25)) b (cw_0 cy tE a rw (su (si (su (su (sv (sa (si (si (si S 24 1) 19 p0) 21 7) 13 (fil 1024 0 (ar (si (si (si S 24 1) 19 p0) 21 7) 13))) 2 0 4128768) 11 0 (-1)) 12 0 (-1)) 25 1) 13 978 1)) rfl in_X11 (by decide) wf_X11_52 rfl dX11_gain_49 ?_
  refine z_get (q0 := 25) (k9 := 18) (v := .int (fi (su (si (su (su (sv (sa (si (si (si S 24 1) 19 p0) 21 7) 13 (fil 1024 0 (ar (si (si (si S 24 1) 19 p0) 21 7) 13))) 2 0 4128768) 11 0 (-1)) 12 0 (-1)) 25 1) 13 978 1) 26)) b (cw_25 cy tE a rw (su (si (su (su (sv (sa (si (si (si S 24 1) 19 p0) 21 7) 13 (fil 1024 0 (ar (si (si (si S 24 1) 19 p0) 21 7) 13))) 2 0 4128768) 11 0 (-1)) 12 0 (-1)) 25 1) 13 978 1)) rfl in_X8 (by decide) wf_X11_214 rfl dX11_gain_52 ?_
  refine z_eqi h_i_26 ?_
  refine z_if_eq_t (tgt := 61) b dX11_gain_55 (by decide) (by decide) ?_
  refine z_aload_n b dX11_gain_61 rfl rfl ?_
  refine z_get (q0 := 0) (k9 := 6) (v := .ref (a 25)) b (cw_0 cy tE a rw (su (si (su (su (sv (sa (si (si (si S 24 1) 19 p0) 21 7) 13 (fil 1024 0 (ar (si (si (si S 24 1) 19 p0) 21 7) 13))) 2 0 4128768) 11 0 (-1)) 12 0 (-1)) 25 1) 13 978 1)) rfl in_X11 (by decide) wf_X11_52 rfl dX11_gain_62 ?_
  refine z_iload_n b dX11_gain_65 rfl rfl ?_
  refine z_calli b (z_runV (q0 := 25) (As := [.int 1]) (st := []) b (c_X8_richest_2 (su (si (su (su (sv (sa (si (si (si S 24 1) 19 p0) 21 7) 13 (fil 1024 0 (ar (si (si (si S 24 1) 19 p0) 21 7) 13))) 2 0 4128768) 11 0 (-1)) 12 0 (-1)) 25 1) 13 978 1) rfl rfl h_a_9_50 h_a_9_40 h_a_9_41 h_a_9_42 h_a_9_0 h_a_9_11 h_a_9_21 h_a_9_31 h_a_9_12 h_a_9_22 h_a_9_32 h_a_9_1 h_a_9_13 h_a_9_23 h_a_9_33 h_a_9_15 h_a_9_25 h_a_9_35 h_a_9_2 h_a_9_16 h_a_9_26 h_a_9_36 h_a_9_17 h_a_9_27 h_a_9_37) cf_X8_richest (cw_25 cy tE a rw (su (si (su (su (sv (sa (si (si (si S 24 1) 19 p0) 21 7) 13 (fil 1024 0 (ar (si (si (si S 24 1) 19 p0) 21 7) 13))) 2 0 4128768) 11 0 (-1)) 12 0 (-1)) 25 1) 13 978 1)) rfl wm_X11_238 wi_X8_richest ws_X8_richest dX11_gain_66 rfl (Nat.le_of_ble_eq_true rfl) ⟨by decide, by decide, by decide, by decide⟩) (fun r12483 u12484 h12482 => ?_)
  obtain ⟨rfl, rfl⟩ := h12482
  refine z_istore (lv' := [(5, .int 0), (0, .ref (a 0)), (1, .int 1), (2, .int p0), (3, .int 0), (4, .int 0)]) b dX11_gain_69 (by decide) rfl ?_
  refine z_iload b dX11_gain_71 rfl ?_
  refine z_if_ne_f (tgt := 87) b dX11_gain_73 (by decide) (by decide) ?_
  refine z_aload_n b dX11_gain_76 rfl rfl ?_
  refine z_get (q0 := 0) (k9 := 6) (v := .ref (a 25)) b (cw_0 cy tE a rw (su (si (su (su (sv (sa (si (si (si S 24 1) 19 p0) 21 7) 13 (fil 1024 0 (ar (si (si (si S 24 1) 19 p0) 21 7) 13))) 2 0 4128768) 11 0 (-1)) 12 0 (-1)) 25 1) 13 978 1)) rfl in_X11 (by decide) wf_X11_52 rfl dX11_gain_77 ?_
  refine z_iload b dX11_gain_80 rfl ?_
  refine z_iload_n b dX11_gain_82 rfl rfl ?_
  refine z_calli b (z_runV (q0 := 25) (As := [.int 0, .int 1]) (st := []) b (c_X8_wealth_2 (su (si (su (su (sv (sa (si (si (si S 24 1) 19 p0) 21 7) 13 (fil 1024 0 (ar (si (si (si S 24 1) 19 p0) 21 7) 13))) 2 0 4128768) 11 0 (-1)) 12 0 (-1)) 25 1) 13 978 1) rfl rfl h_a_9_50 h_a_9_40 h_a_9_41 h_a_9_42 h_a_9_0 h_a_9_11 h_a_9_21 h_a_9_31 h_a_9_12 h_a_9_22 h_a_9_32 h_a_9_1 h_a_9_13 h_a_9_23 h_a_9_33 h_a_9_15 h_a_9_25 h_a_9_35 h_a_9_2 h_a_9_16 h_a_9_26 h_a_9_36 h_a_9_17 h_a_9_27 h_a_9_37) cf_X8_wealth (cw_25 cy tE a rw (su (si (su (su (sv (sa (si (si (si S 24 1) 19 p0) 21 7) 13 (fil 1024 0 (ar (si (si (si S 24 1) 19 p0) 21 7) 13))) 2 0 4128768) 11 0 (-1)) 12 0 (-1)) 25 1) 13 978 1)) rfl wm_X11_241 wi_X8_wealth ws_X8_wealth dX11_gain_83 rfl (Nat.le_of_ble_eq_true rfl) ⟨by decide, by decide, by decide, by decide⟩) (fun r12486 u12487 h12485 => ?_)
  obtain ⟨rfl, rfl⟩ := h12485
  exact z_iret (u := (su (si (su (su (sv (sa (si (si (si S 24 1) 19 p0) 21 7) 13 (fil 1024 0 (ar (si (si (si S 24 1) 19 p0) 21 7) 13))) 2 0 4128768) 11 0 (-1)) 12 0 (-1)) 25 1) 13 978 1)) b rfl dX11_gain_86 ⟨rfl, rfl⟩ rfl (by decide) (by decide)

set_option maxHeartbeats 4000000 in
set_option maxRecDepth 100000 in
theorem c_X12_gain_26 {l : Launch} {D : va_G} {cy : Nat → ClassId} {T0 tB tE : Nat} {a : Nat → Nat} (S : GS) (p0 : Int32) (h_i_21 : fi S 21 = 0) (h_i_23 : fi S 23 = 0) (h_l_0 : fl S 0 = 1649317774848) (h_a_29_992 : ar S 29 992 = (-1)) (h_a_28_0 : ar S 28 0 = 0) (h_a_4_7 : ar S 4 7 = 0) (h_a_1_7 : ar S 1 7 = 0) (h_a_4_6 : ar S 4 6 = 0) (h_a_1_6 : ar S 1 6 = 0) (h_a_3_6 : ar S 3 6 = 0) (h_a_3_2 : ar S 3 2 = 0) (h_a_2_2 : ar S 2 2 = 3) (h_a_0_2 : ar S 0 2 = 0) (h_a_4_3 : ar S 4 3 = 0) (h_a_1_3 : ar S 1 3 = 0) (h_a_4_5 : ar S 4 5 = 0) (h_a_1_5 : ar S 1 5 = 0) (h_a_3_5 : ar S 3 5 = 0) (h_a_3_7 : ar S 3 7 = 0) (h_a_2_1 : ar S 2 1 = 3) (h_a_0_1 : ar S 0 1 = 0) (h_a_4_2 : ar S 4 2 = 0) (h_a_1_2 : ar S 1 2 = 0) (h_a_4_1 : ar S 4 1 = 0) (h_a_1_1 : ar S 1 1 = 0) (h_a_3_1 : ar S 3 1 = 0) (h_a_3_3 : ar S 3 3 = 0) (h_a_2_0 : ar S 2 0 = 3) (h_a_0_0 : ar S 0 0 = 0) (h_i_0 : fi S 0 = 0) (hr_p0 : 1 ≤ p0.toInt ∧ p0.toInt ≤ 3) : Ct l D cy T0 tB tE yX12_gain cX12_gain 9 (some .int) 3 74 0 0 (mw cy a S) [.ref (a 0), .int 1, .int p0, .int 0, .int 0] (QI D (U := GS) (fun r u => 0 = r ∧ (si (su (su (sv (su (su (si S 22 (-1)) 29 992 0) 30 0 992) 0 0 1649317774848) 26 0 (-1)) 27 0 (-1)) 21 1) = u) (mw cy a)) := by
  refine Ct.ofZ RX12 "gain" [(0, .ref (a 0)), (1, .int 1), (2, .int p0), (3, .int 0), (4, .int 0)] rfl rfl rfl rfl (Nat.le_of_ble_eq_true rfl) ?_
  intro p e R s m args below meth c A b
  refine z_iload_n b dX12_gain_0 rfl rfl ?_
  refine z_calli b (z_runS (As := [.int 1]) (st := []) b (c_X12_isOne_4 S ) cf_X12_isOne wm_X12_170 ws_X12_isOne dX12_gain_1 rfl (Nat.le_of_ble_eq_true rfl) ⟨by decide, by decide, by decide, by decide⟩) (fun r12489 u12490 h12488 => ?_)
  obtain ⟨rfl, rfl⟩ := h12488
  refine z_if_eq_f (tgt := 27) b dX12_gain_4 (by decide) (by decide) ?_
  refine z_aload_n b dX12_gain_7 rfl rfl ?_
  refine z_iload_n b dX12_gain_8 rfl rfl ?_
  refine z_iload_n b dX12_gain_9 rfl rfl ?_
  refine z_calli b (z_runV (q0 := 0) (As := [.int p0, .int 0]) (st := []) b (c_X12_canSearch_4 S p0 ⟨by omega, by omega⟩) cf_X12_canSearch (mw_0 cy a S) rfl wm_X12_433 wi_X12_canSearch ws_X12_canSearch dX12_gain_10 rfl (Nat.le_of_ble_eq_true rfl) ⟨by decide, by decide, by decide, by decide⟩) (fun r12492 u12493 h12491 => ?_)
  obtain ⟨rfl, rfl⟩ := h12491
  refine z_if_eq_f (tgt := 27) b dX12_gain_13 (by decide) (by decide) ?_
  refine z_iload b dX12_gain_16 rfl ?_
  refine z_iconst (v := 0) b dX12_gain_18 (by decide) ?_
  refine z_bipush (v := 7) b dX12_gain_19 (by decide) ?_
  refine z_calli b (z_runS (As := [.int 0, .int 0, .int 7]) (st := []) b (c_X12_isIn_59 S ) cf_X12_isIn wm_X12_1 ws_X12_isIn dX12_gain_21 rfl (Nat.le_of_ble_eq_true rfl) ⟨by decide, by decide, by decide, by decide⟩) (fun r12495 u12496 h12494 => ?_)
  obtain ⟨rfl, rfl⟩ := h12494
  refine z_if_ne_t (tgt := 30) b dX12_gain_24 (by decide) (by decide) ?_
  refine z_aload_n b dX12_gain_30 rfl rfl ?_
  refine z_iconst (v := (-1)) b dX12_gain_31 (by decide) ?_
  refine z_iload_n b dX12_gain_32 rfl rfl ?_
  refine z_iload_n b dX12_gain_33 rfl rfl ?_
  refine z_bipush (v := 7) b dX12_gain_34 (by decide) ?_
  refine z_iconst (v := 0) b dX12_gain_36 (by decide) ?_
  refine z_callv b (z_runV (q0 := 0) (As := [.int (-1), .int p0, .int 0, .int 7, .int 0]) (st := []) b (c_X12_searches S p0 h_i_21 h_i_23 h_l_0 h_a_29_992 h_a_28_0 ⟨by omega, by omega⟩) cf_X12_searches (mw_0 cy a S) rfl wm_X12_436 wi_X12_searches ws_X12_searches dX12_gain_37 rfl (Nat.le_of_ble_eq_true rfl) ⟨by decide, by decide, by decide, by decide⟩) (fun u12499 h12497 => ?_)
  obtain rfl := h12497
  refine z_aload_n b dX12_gain_40 rfl rfl ?_
  refine z_get (q0 := 0) (k9 := 57) (v := .int (fi (si (su (su (sv (su (su (si S 22 (-1)) 29 992 0) 30 0 992) 0 0 1649317774848) 26 0 (-1)) 27 0 (-1)) 21 1) 23)) b (mw_0 cy a (si (su (su (sv (su (su (si S 22 (-1)) 29 992 0) 30 0 992) 0 0 1649317774848) 26 0 (-1)) 27 0 (-1)) 21 1)) rfl in_X12 (by decide) wf_X12_408 rfl dX12_gain_41 ?_
  refine z_eqi h_i_23 ?_
  refine z_if_eq_t (tgt := 50) b dX12_gain_44 (by decide) (by decide) ?_
  refine z_iconst (v := (-1)) b dX12_gain_50 (by decide) ?_
  refine z_istore (lv' := [(5, .int (-1)), (0, .ref (a 0)), (1, .int 1), (2, .int p0), (3, .int 0), (4, .int 0)]) b dX12_gain_51 (by decide) rfl ?_
  refine z_iconst (v := 0) b dX12_gain_53 (by decide) ?_
  refine z_istore (lv' := [(6, .int 0), (5, .int (-1)), (0, .ref (a 0)), (1, .int 1), (2, .int p0), (3, .int 0), (4, .int 0)]) b dX12_gain_54 (by decide) rfl ?_
  refine z_iconst (v := 0) b dX12_gain_56 (by decide) ?_
  refine z_istore (lv' := [(7, .int 0), (6, .int 0), (5, .int (-1)), (0, .ref (a 0)), (1, .int 1), (2, .int p0), (3, .int 0), (4, .int 0)]) b dX12_gain_57 (by decide) rfl ?_
  refine z_iload b dX12_gain_59 rfl ?_
  refine z_aload_n b dX12_gain_61 rfl rfl ?_
  refine z_get (q0 := 0) (k9 := 55) (v := .int 1) b (mw_0 cy a (si (su (su (sv (su (su (si S 22 (-1)) 29 992 0) 30 0 992) 0 0 1649317774848) 26 0 (-1)) 27 0 (-1)) 21 1)) rfl in_X12 (by decide) wf_X12_405 rfl dX12_gain_62 ?_
  refine z_icmp_ge_f (tgt := 147) b dX12_gain_65 (by decide) (by decide) ?_
  refine z_aload_n b dX12_gain_68 rfl rfl ?_
  refine z_aload_n b dX12_gain_69 rfl rfl ?_
  refine z_get (q0 := 0) (k9 := 49) (v := .ref (a 27)) b (mw_0 cy a (si (su (su (sv (su (su (si S 22 (-1)) 29 992 0) 30 0 992) 0 0 1649317774848) 26 0 (-1)) 27 0 (-1)) 21 1)) rfl in_X12 (by decide) wf_X12_97 rfl dX12_gain_70 ?_
  refine z_iload b dX12_gain_73 rfl ?_
  refine y_lald (q0 := 27) (j := 0) (v := 1649317774848) b (mw_27 cy a (si (su (su (sv (su (su (si S 22 (-1)) 29 992 0) 30 0 992) 0 0 1649317774848) 26 0 (-1)) 27 0 (-1)) 21 1)) (by decide) rfl dX12_gain_75 ?_
  refine z_callv b (z_runV (q0 := 0) (As := [.long 1649317774848]) (st := []) b (c_X12_takes (si (su (su (sv (su (su (si S 22 (-1)) 29 992 0) 30 0 992) 0 0 1649317774848) 26 0 (-1)) 27 0 (-1)) 21 1) h_a_4_7 h_a_1_7 h_a_4_6 h_a_1_6 h_a_3_6 h_a_3_2 h_a_2_2 h_a_0_2 h_a_4_3 h_a_1_3 h_a_4_5 h_a_1_5 h_a_3_5 h_a_3_7 h_a_2_1 h_a_0_1 h_a_4_2 h_a_1_2 h_a_4_1 h_a_1_1 h_a_3_1 h_a_3_3 h_a_2_0 h_a_0_0 h_i_0) cf_X12_takes (mw_0 cy a (si (su (su (sv (su (su (si S 22 (-1)) 29 992 0) 30 0 992) 0 0 1649317774848) 26 0 (-1)) 27 0 (-1)) 21 1)) rfl wm_X12_174 wi_X12_takes ws_X12_takes dX12_gain_76 rfl (Nat.le_of_ble_eq_true rfl) ⟨by decide, by decide, by decide, by decide⟩) (fun u12502 h12500 => ?_)
  obtain rfl := h12500
  refine z_aload_n b dX12_gain_79 rfl rfl ?_
  refine z_get (q0 := 0) (k9 := 0) (v := .ref (a 1)) b (mw_0 cy a (si (su (su (sv (su (su (si S 22 (-1)) 29 992 0) 30 0 992) 0 0 1649317774848) 26 0 (-1)) 27 0 (-1)) 21 1)) rfl in_X12 (by decide) wf_X12_13 rfl dX12_gain_80 ?_
  refine z_iload_n b dX12_gain_83 rfl rfl ?_
  refine y_iald (q0 := 1) (j := 1) (v := (ar (si (su (su (sv (su (su (si S 22 (-1)) 29 992 0) 30 0 992) 0 0 1649317774848) 26 0 (-1)) 27 0 (-1)) 21 1) 0 1)) b (mw_1 cy a (si (su (su (sv (su (su (si S 22 (-1)) 29 992 0) 30 0 992) 0 0 1649317774848) 26 0 (-1)) 27 0 (-1)) 21 1)) (by decide) rfl dX12_gain_84 ?_
  refine z_eqi h_a_0_1 ?_
  refine z_aload_n b dX12_gain_85 rfl rfl ?_
  refine z_get (q0 := 0) (k9 := 1) (v := .ref (a 2)) b (mw_0 cy a (si (su (su (sv (su (su (si S 22 (-1)) 29 992 0) 30 0 992) 0 0 1649317774848) 26 0 (-1)) 27 0 (-1)) 21 1)) rfl in_X12 (by decide) wf_X12_17 rfl dX12_gain_86 ?_
  refine z_iconst (v := 3) b dX12_gain_89 (by decide) ?_
  refine z_iload_n b dX12_gain_90 rfl rfl ?_
  refine z_imul (v := 3) b dX12_gain_91 (by decide) ?_
  refine z_iload_n b dX12_gain_92 rfl rfl ?_
  refine z_iconst (v := 0) b dX12_gain_93 (by decide) ?_
  refine z_calli b (z_runS (As := [.int 1, .int 0]) (st := [.int 3, .ref (a 2), .int 0]) b (c_X12_other_4 (si (su (su (sv (su (su (si S 22 (-1)) 29 992 0) 30 0 992) 0 0 1649317774848) 26 0 (-1)) 27 0 (-1)) 21 1) ) cf_X12_other wm_X12_160 ws_X12_other dX12_gain_94 rfl (Nat.le_of_ble_eq_true rfl) ⟨by decide, by decide, by decide, by decide⟩) (fun r12504 u12505 h12503 => ?_)
  obtain ⟨rfl, rfl⟩ := h12503
  refine z_iadd (v := 5) b dX12_gain_97 (by decide) ?_
  refine y_iald (q0 := 2) (j := 5) (v := (ar (si (su (su (sv (su (su (si S 22 (-1)) 29 992 0) 30 0 992) 0 0 1649317774848) 26 0 (-1)) 27 0 (-1)) 21 1) 1 5)) b (mw_2 cy a (si (su (su (sv (su (su (si S 22 (-1)) 29 992 0) 30 0 992) 0 0 1649317774848) 26 0 (-1)) 27 0 (-1)) 21 1)) (by decide) rfl dX12_gain_98 ?_
  refine z_eqi h_a_1_5 ?_
  refine z_isub (v := 0) b dX12_gain_99 (by decide) ?_
  refine z_aload_n b dX12_gain_100 rfl rfl ?_
  refine z_get (q0 := 0) (k9 := 1) (v := .ref (a 2)) b (mw_0 cy a (si (su (su (sv (su (su (si S 22 (-1)) 29 992 0) 30 0 992) 0 0 1649317774848) 26 0 (-1)) 27 0 (-1)) 21 1)) rfl in_X12 (by decide) wf_X12_17 rfl dX12_gain_101 ?_
  refine z_iconst (v := 3) b dX12_gain_104 (by decide) ?_
  refine z_iload_n b dX12_gain_105 rfl rfl ?_
  refine z_imul (v := 3) b dX12_gain_106 (by decide) ?_
  refine z_iload_n b dX12_gain_107 rfl rfl ?_
  refine z_iconst (v := 1) b dX12_gain_108 (by decide) ?_
  refine z_calli b (z_runS (As := [.int 1, .int 1]) (st := [.int 3, .ref (a 2), .int 0]) b (c_X12_other_3 (si (su (su (sv (su (su (si S 22 (-1)) 29 992 0) 30 0 992) 0 0 1649317774848) 26 0 (-1)) 27 0 (-1)) 21 1) ) cf_X12_other wm_X12_160 ws_X12_other dX12_gain_109 rfl (Nat.le_of_ble_eq_true rfl) ⟨by decide, by decide, by decide, by decide⟩) (fun r12507 u12508 h12506 => ?_)
  obtain ⟨rfl, rfl⟩ := h12506
  refine z_iadd (v := 3) b dX12_gain_112 (by decide) ?_
  refine y_iald (q0 := 2) (j := 3) (v := (ar (si (su (su (sv (su (su (si S 22 (-1)) 29 992 0) 30 0 992) 0 0 1649317774848) 26 0 (-1)) 27 0 (-1)) 21 1) 1 3)) b (mw_2 cy a (si (su (su (sv (su (su (si S 22 (-1)) 29 992 0) 30 0 992) 0 0 1649317774848) 26 0 (-1)) 27 0 (-1)) 21 1)) (by decide) rfl dX12_gain_113 ?_
  refine z_eqi h_a_1_3 ?_
  refine z_isub (v := 0) b dX12_gain_114 (by decide) ?_
  refine z_istore (lv' := [(8, .int 0), (7, .int 0), (6, .int 0), (5, .int (-1)), (0, .ref (a 0)), (1, .int 1), (2, .int p0), (3, .int 0), (4, .int 0)]) b dX12_gain_115 (by decide) rfl ?_
  refine z_iload b dX12_gain_117 rfl ?_
  refine z_iconst (v := (-1)) b dX12_gain_119 (by decide) ?_
  refine z_icmp_eq_t (tgt := 133) b dX12_gain_120 (by decide) (by decide) ?_
  refine z_iload b dX12_gain_133 rfl ?_
  refine z_istore (lv' := [(5, .int 0), (8, .int 0), (7, .int 0), (6, .int 0), (0, .ref (a 0)), (1, .int 1), (2, .int p0), (3, .int 0), (4, .int 0)]) b dX12_gain_135 (by decide) rfl ?_
  refine z_iload b dX12_gain_137 rfl ?_
  refine z_istore (lv' := [(6, .int 0), (5, .int 0), (8, .int 0), (7, .int 0), (0, .ref (a 0)), (1, .int 1), (2, .int p0), (3, .int 0), (4, .int 0)]) b dX12_gain_139 (by decide) rfl ?_
  refine z_iinc (k9 := 3) (v := 1) (lv' := [(7, .int 1), (6, .int 0), (5, .int 0), (8, .int 0), (0, .ref (a 0)), (1, .int 1), (2, .int p0), (3, .int 0), (4, .int 0)]) b dX12_gain_141 rfl (by decide) (by decide) rfl ?_
  refine z_goto (tgt := 59) b dX12_gain_144 (by decide) ?_
  refine z_iload b dX12_gain_59 rfl ?_
  refine z_aload_n b dX12_gain_61 rfl rfl ?_
  refine z_get (q0 := 0) (k9 := 55) (v := .int 1) b (mw_0 cy a (si (su (su (sv (su (su (si S 22 (-1)) 29 992 0) 30 0 992) 0 0 1649317774848) 26 0 (-1)) 27 0 (-1)) 21 1)) rfl in_X12 (by decide) wf_X12_405 rfl dX12_gain_62 ?_
  refine z_icmp_ge_t (tgt := 147) b dX12_gain_65 (by decide) (by decide) ?_
  refine z_iload b dX12_gain_147 rfl ?_
  refine z_iconst (v := 2) b dX12_gain_149 (by decide) ?_
  refine z_icmp_ge_f (tgt := 171) b dX12_gain_150 (by decide) (by decide) ?_
  refine z_iload b dX12_gain_153 rfl ?_
  refine z_if_ne_f (tgt := 163) b dX12_gain_155 (by decide) (by decide) ?_
  refine z_iload b dX12_gain_158 rfl ?_
  refine z_goto (tgt := 170) b dX12_gain_160 (by decide) ?_
  exact z_iret (u := (si (su (su (sv (su (su (si S 22 (-1)) 29 992 0) 30 0 992) 0 0 1649317774848) 26 0 (-1)) 27 0 (-1)) 21 1)) b rfl dX12_gain_170 ⟨rfl, rfl⟩ rfl (by decide) (by decide)

set_option maxHeartbeats 4000000 in
set_option maxRecDepth 100000 in
theorem c_X11_gain_27 {l : Launch} {D : va_G} {cy : Nat → ClassId} {T0 tB tE : Nat} {a : Nat → Nat} {rw : Nat → Option Nat} (S : GS) (p0 : Int32) (h_i_19 : fi S 19 = 0) (h_i_24 : fi S 24 = 0) (h_i_20 : fi S 20 = 0) (h_i_22 : fi S 22 = 0) (h_i_18 : fi S 18 = 0) (h_i_25 : fi S 25 = 0) (h_i_23 : fi S 23 = 0) (h_i_26 : fi S 26 = 0) (h_a_4_50 : ar S 4 50 = 0) (h_a_4_40 : ar S 4 40 = 3) (h_a_4_41 : ar S 4 41 = 3) (h_a_4_42 : ar S 4 42 = 3) (h_a_4_0 : ar S 4 0 = 0) (h_a_4_11 : ar S 4 11 = 0) (h_a_4_21 : ar S 4 21 = 0) (h_a_4_31 : ar S 4 31 = 0) (h_a_4_12 : ar S 4 12 = 0) (h_a_4_22 : ar S 4 22 = 0) (h_a_4_32 : ar S 4 32 = 0) (h_a_4_1 : ar S 4 1 = 0) (h_a_4_13 : ar S 4 13 = 0) (h_a_4_23 : ar S 4 23 = 0) (h_a_4_33 : ar S 4 33 = 0) (h_a_4_15 : ar S 4 15 = 0) (h_a_4_25 : ar S 4 25 = 0) (h_a_4_35 : ar S 4 35 = 0) (h_a_4_2 : ar S 4 2 = 0) (h_a_4_16 : ar S 4 16 = 0) (h_a_4_26 : ar S 4 26 = 0) (h_a_4_36 : ar S 4 36 = 0) (h_a_4_17 : ar S 4 17 = 0) (h_a_4_27 : ar S 4 27 = 0) (h_a_4_37 : ar S 4 37 = 0) (h_a_10_0 : ar S 10 0 = 0) (h_a_9_50 : ar S 9 50 = 0) (h_a_9_40 : ar S 9 40 = 3) (h_a_9_41 : ar S 9 41 = 3) (h_a_9_42 : ar S 9 42 = 3) (h_a_9_0 : ar S 9 0 = 0) (h_a_9_11 : ar S 9 11 = 0) (h_a_9_21 : ar S 9 21 = 0) (h_a_9_31 : ar S 9 31 = 0) (h_a_9_12 : ar S 9 12 = 0) (h_a_9_22 : ar S 9 22 = 0) (h_a_9_32 : ar S 9 32 = 0) (h_a_9_1 : ar S 9 1 = 0) (h_a_9_13 : ar S 9 13 = 0) (h_a_9_23 : ar S 9 23 = 0) (h_a_9_33 : ar S 9 33 = 0) (h_a_9_15 : ar S 9 15 = 0) (h_a_9_25 : ar S 9 25 = 0) (h_a_9_35 : ar S 9 35 = 0) (h_a_9_2 : ar S 9 2 = 0) (h_a_9_16 : ar S 9 16 = 0) (h_a_9_26 : ar S 9 26 = 0) (h_a_9_36 : ar S 9 36 = 0) (h_a_9_17 : ar S 9 17 = 0) (h_a_9_27 : ar S 9 27 = 0) (h_a_9_37 : ar S 9 37 = 0) (hr_p0 : 1 ≤ p0.toInt ∧ p0.toInt ≤ 3) : Ct l D cy T0 tB tE yX11_gain cX11_gain 7 (some .int) 5 117 0 0 (cw cy tE a rw S) [.ref (a 0), .int 1, .int p0, .int 0, .int 1] (QI D (U := GS) (fun r u => 0 = r ∧ (su (si (su (su (sv (sa (si (si (si S 24 1) 19 p0) 21 7) 13 (fil 1024 0 (ar (si (si (si S 24 1) 19 p0) 21 7) 13))) 2 0 4128768) 11 0 (-1)) 12 0 (-1)) 25 1) 13 978 1) = u) (cw cy tE a rw)) := by
  refine Ct.ofZ RX11 "gain" [(0, .ref (a 0)), (1, .int 1), (2, .int p0), (3, .int 0), (4, .int 1)] rfl rfl rfl rfl (Nat.le_of_ble_eq_true rfl) ?_
  intro p e R s m args below meth c A b
  refine z_iload_n b dX11_gain_0 rfl rfl ?_
  refine z_calli b (z_runS (As := [.int 1]) (st := []) b (c_X11_isPerson_4 S ) cf_X11_isPerson wm_X11_69 ws_X11_isPerson dX11_gain_1 rfl (Nat.le_of_ble_eq_true rfl) ⟨by decide, by decide, by decide, by decide⟩) (fun r12510 u12511 h12509 => ?_)
  obtain ⟨rfl, rfl⟩ := h12509
  refine z_if_eq_f (tgt := 26) b dX11_gain_4 (by decide) (by decide) ?_
  refine z_iload_n b dX11_gain_7 rfl rfl ?_
  refine z_calli b (z_runS (As := [.int p0]) (st := []) b (c_X11_areLaws_3 S p0 ⟨by omega, by omega⟩) cf_X11_areLaws wm_X11_181 ws_X11_areLaws dX11_gain_8 rfl (Nat.le_of_ble_eq_true rfl) ⟨by decide, by decide, by decide, by decide⟩) (fun r12513 u12514 h12512 => ?_)
  obtain ⟨rfl, rfl⟩ := h12512
  refine z_if_eq_f (tgt := 26) b dX11_gain_11 (by decide) (by decide) ?_
  refine z_iload_n b dX11_gain_14 rfl rfl ?_
  refine z_calli b (z_runS (As := [.int 0]) (st := []) b (c_X11_isDepth_2 S ) cf_X11_isDepth wm_X11_203 ws_X11_isDepth dX11_gain_15 rfl (Nat.le_of_ble_eq_true rfl) ⟨by decide, by decide, by decide, by decide⟩) (fun r12516 u12517 h12515 => ?_)
  obtain ⟨rfl, rfl⟩ := h12515
  refine z_if_eq_f (tgt := 26) b dX11_gain_18 (by decide) (by decide) ?_
  refine z_iload b dX11_gain_21 rfl ?_
  refine z_if_ge_t (tgt := 29) b dX11_gain_23 (by decide) (by decide) ?_
  refine z_aload_n b dX11_gain_29 rfl rfl ?_
  refine z_get (q0 := 0) (k9 := 6) (v := .ref (a 25)) b (cw_0 cy tE a rw S) rfl in_X11 (by decide) wf_X11_52 rfl dX11_gain_30 ?_
  refine z_iload_n b dX11_gain_33 rfl rfl ?_
  refine z_iload_n b dX11_gain_34 rfl rfl ?_
  refine z_bipush (v := 7) b dX11_gain_35 (by decide) ?_
  refine z_iconst (v := 0) b dX11_gain_37 (by decide) ?_
  refine z_callv b (z_runV (q0 := 25) (As := [.int p0, .int 0, .int 7, .int 0]) (st := []) b (c_X8_begin S p0 h_i_19 h_i_24 h_i_20 h_i_22 h_i_18 h_i_25 h_i_23 h_i_26 h_a_4_50 h_a_4_40 h_a_4_41 h_a_4_42 h_a_4_0 h_a_4_11 h_a_4_21 h_a_4_31 h_a_4_12 h_a_4_22 h_a_4_32 h_a_4_1 h_a_4_13 h_a_4_23 h_a_4_33 h_a_4_15 h_a_4_25 h_a_4_35 h_a_4_2 h_a_4_16 h_a_4_26 h_a_4_36 h_a_4_17 h_a_4_27 h_a_4_37 h_a_10_0 ⟨by omega, by omega⟩) cf_X8_begin (cw_25 cy tE a rw S) rfl wm_X11_206 wi_X8_begin ws_X8_begin dX11_gain_38 rfl (Nat.le_of_ble_eq_true rfl) ⟨by decide, by decide, by decide, by decide⟩) (fun u12520 h12518 => ?_)
  obtain rfl := h12518
  refine z_aload_n b dX11_gain_41 rfl rfl ?_
  refine z_get (q0 := 0) (k9 := 6) (v := .ref (a 25)) b (cw_0 cy tE a rw (su (si (su (su (sv (sa (si (si (si S 24 1) 19 p0) 21 7) 13 (fil 1024 0 (ar (si (si (si S 24 1) 19 p0) 21 7) 13))) 2 0 4128768) 11 0 (-1)) 12 0 (-1)) 25 1) 13 978 1)) rfl in_X11 (by decide) wf_X11_52 rfl dX11_gain_42 ?_
  refine z_callv b (z_runV (q0 := 25) (As := []) (st := []) b (c_X8_finish (su (si (su (su (sv (sa (si (si (si S 24 1) 19 p0) 21 7) 13 (fil 1024 0 (ar (si (si (si S 24 1) 19 p0) 21 7) 13))) 2 0 4128768) 11 0 (-1)) 12 0 (-1)) 25 1) 13 978 1) h_i_26 h_i_23 rfl h_a_10_0 h_i_20) cf_X8_finish (cw_25 cy tE a rw (su (si (su (su (sv (sa (si (si (si S 24 1) 19 p0) 21 7) 13 (fil 1024 0 (ar (si (si (si S 24 1) 19 p0) 21 7) 13))) 2 0 4128768) 11 0 (-1)) 12 0 (-1)) 25 1) 13 978 1)) rfl wm_X11_232 wi_X8_finish ws_X8_finish dX11_gain_45 rfl (Nat.le_of_ble_eq_true rfl) ⟨by decide, by decide, by decide, by decide⟩) (fun u12523 h12521 => ?_)
  obtain rfl := h12521
  refine z_aload_n b dX11_gain_48 rfl rfl ?_
  refine z_get (q0 := 0) (k9 := 6) (v := .ref (a 25)) b (cw_0 cy tE a rw (su (si (su (su (sv (sa (si (si (si S 24 1) 19 p0) 21 7) 13 (fil 1024 0 (ar (si (si (si S 24 1) 19 p0) 21 7) 13))) 2 0 4128768) 11 0 (-1)) 12 0 (-1)) 25 1) 13 978 1)) rfl in_X11 (by decide) wf_X11_52 rfl dX11_gain_49 ?_
  refine z_get (q0 := 25) (k9 := 18) (v := .int (fi (su (si (su (su (sv (sa (si (si (si S 24 1) 19 p0) 21 7) 13 (fil 1024 0 (ar (si (si (si S 24 1) 19 p0) 21 7) 13))) 2 0 4128768) 11 0 (-1)) 12 0 (-1)) 25 1) 13 978 1) 26)) b (cw_25 cy tE a rw (su (si (su (su (sv (sa (si (si (si S 24 1) 19 p0) 21 7) 13 (fil 1024 0 (ar (si (si (si S 24 1) 19 p0) 21 7) 13))) 2 0 4128768) 11 0 (-1)) 12 0 (-1)) 25 1) 13 978 1)) rfl in_X8 (by decide) wf_X11_214 rfl dX11_gain_52 ?_
  refine z_eqi h_i_26 ?_
  refine z_if_eq_t (tgt := 61) b dX11_gain_55 (by decide) (by decide) ?_
  refine z_aload_n b dX11_gain_61 rfl rfl ?_
  refine z_get (q0 := 0) (k9 := 6) (v := .ref (a 25)) b (cw_0 cy tE a rw (su (si (su (su (sv (sa (si (si (si S 24 1) 19 p0) 21 7) 13 (fil 1024 0 (ar (si (si (si S 24 1) 19 p0) 21 7) 13))) 2 0 4128768) 11 0 (-1)) 12 0 (-1)) 25 1) 13 978 1)) rfl in_X11 (by decide) wf_X11_52 rfl dX11_gain_62 ?_
  refine z_iload_n b dX11_gain_65 rfl rfl ?_
  refine z_calli b (z_runV (q0 := 25) (As := [.int 1]) (st := []) b (c_X8_richest_2 (su (si (su (su (sv (sa (si (si (si S 24 1) 19 p0) 21 7) 13 (fil 1024 0 (ar (si (si (si S 24 1) 19 p0) 21 7) 13))) 2 0 4128768) 11 0 (-1)) 12 0 (-1)) 25 1) 13 978 1) rfl rfl h_a_9_50 h_a_9_40 h_a_9_41 h_a_9_42 h_a_9_0 h_a_9_11 h_a_9_21 h_a_9_31 h_a_9_12 h_a_9_22 h_a_9_32 h_a_9_1 h_a_9_13 h_a_9_23 h_a_9_33 h_a_9_15 h_a_9_25 h_a_9_35 h_a_9_2 h_a_9_16 h_a_9_26 h_a_9_36 h_a_9_17 h_a_9_27 h_a_9_37) cf_X8_richest (cw_25 cy tE a rw (su (si (su (su (sv (sa (si (si (si S 24 1) 19 p0) 21 7) 13 (fil 1024 0 (ar (si (si (si S 24 1) 19 p0) 21 7) 13))) 2 0 4128768) 11 0 (-1)) 12 0 (-1)) 25 1) 13 978 1)) rfl wm_X11_238 wi_X8_richest ws_X8_richest dX11_gain_66 rfl (Nat.le_of_ble_eq_true rfl) ⟨by decide, by decide, by decide, by decide⟩) (fun r12525 u12526 h12524 => ?_)
  obtain ⟨rfl, rfl⟩ := h12524
  refine z_istore (lv' := [(5, .int 0), (0, .ref (a 0)), (1, .int 1), (2, .int p0), (3, .int 0), (4, .int 1)]) b dX11_gain_69 (by decide) rfl ?_
  refine z_iload b dX11_gain_71 rfl ?_
  refine z_if_ne_t (tgt := 87) b dX11_gain_73 (by decide) (by decide) ?_
  refine z_iload b dX11_gain_87 rfl ?_
  refine z_iconst (v := 1) b dX11_gain_89 (by decide) ?_
  refine z_icmp_ne_f (tgt := 103) b dX11_gain_90 (by decide) (by decide) ?_
  refine z_aload_n b dX11_gain_93 rfl rfl ?_
  refine z_get (q0 := 0) (k9 := 6) (v := .ref (a 25)) b (cw_0 cy tE a rw (su (si (su (su (sv (sa (si (si (si S 24 1) 19 p0) 21 7) 13 (fil 1024 0 (ar (si (si (si S 24 1) 19 p0) 21 7) 13))) 2 0 4128768) 11 0 (-1)) 12 0 (-1)) 25 1) 13 978 1)) rfl in_X11 (by decide) wf_X11_52 rfl dX11_gain_94 ?_
  refine z_iload b dX11_gain_97 rfl ?_
  refine z_calli b (z_runV (q0 := 25) (As := [.int 0]) (st := []) b (c_X8_acts (su (si (su (su (sv (sa (si (si (si S 24 1) 19 p0) 21 7) 13 (fil 1024 0 (ar (si (si (si S 24 1) 19 p0) 21 7) 13))) 2 0 4128768) 11 0 (-1)) 12 0 (-1)) 25 1) 13 978 1) rfl h_a_10_0) cf_X8_acts (cw_25 cy tE a rw (su (si (su (su (sv (sa (si (si (si S 24 1) 19 p0) 21 7) 13 (fil 1024 0 (ar (si (si (si S 24 1) 19 p0) 21 7) 13))) 2 0 4128768) 11 0 (-1)) 12 0 (-1)) 25 1) 13 978 1)) rfl wm_X11_217 wi_X8_acts ws_X8_acts dX11_gain_99 rfl (Nat.le_of_ble_eq_true rfl) ⟨by decide, by decide, by decide, by decide⟩) (fun r12528 u12529 h12527 => ?_)
  obtain ⟨rfl, rfl⟩ := h12527
  exact z_iret (u := (su (si (su (su (sv (sa (si (si (si S 24 1) 19 p0) 21 7) 13 (fil 1024 0 (ar (si (si (si S 24 1) 19 p0) 21 7) 13))) 2 0 4128768) 11 0 (-1)) 12 0 (-1)) 25 1) 13 978 1)) b rfl dX11_gain_102 ⟨rfl, rfl⟩ rfl (by decide) (by decide)

set_option maxHeartbeats 4000000 in
set_option maxRecDepth 100000 in
theorem c_X12_gain_27 {l : Launch} {D : va_G} {cy : Nat → ClassId} {T0 tB tE : Nat} {a : Nat → Nat} (S : GS) (p0 : Int32) (h_i_21 : fi S 21 = 0) (h_i_23 : fi S 23 = 0) (h_l_0 : fl S 0 = 1649317774848) (h_a_29_992 : ar S 29 992 = (-1)) (h_a_28_0 : ar S 28 0 = 0) (h_a_4_7 : ar S 4 7 = 0) (h_a_1_7 : ar S 1 7 = 0) (h_a_4_6 : ar S 4 6 = 0) (h_a_1_6 : ar S 1 6 = 0) (h_a_3_6 : ar S 3 6 = 0) (h_a_3_2 : ar S 3 2 = 0) (h_a_2_2 : ar S 2 2 = 3) (h_a_0_2 : ar S 0 2 = 0) (h_a_4_3 : ar S 4 3 = 0) (h_a_1_3 : ar S 1 3 = 0) (h_a_4_5 : ar S 4 5 = 0) (h_a_1_5 : ar S 1 5 = 0) (h_a_3_5 : ar S 3 5 = 0) (h_a_3_7 : ar S 3 7 = 0) (h_a_2_1 : ar S 2 1 = 3) (h_a_0_1 : ar S 0 1 = 0) (h_a_4_2 : ar S 4 2 = 0) (h_a_1_2 : ar S 1 2 = 0) (h_a_4_1 : ar S 4 1 = 0) (h_a_1_1 : ar S 1 1 = 0) (h_a_3_1 : ar S 3 1 = 0) (h_a_3_3 : ar S 3 3 = 0) (h_a_2_0 : ar S 2 0 = 3) (h_a_0_0 : ar S 0 0 = 0) (h_i_0 : fi S 0 = 0) (hr_p0 : 1 ≤ p0.toInt ∧ p0.toInt ≤ 3) : Ct l D cy T0 tB tE yX12_gain cX12_gain 9 (some .int) 3 74 0 0 (mw cy a S) [.ref (a 0), .int 1, .int p0, .int 0, .int 1] (QI D (U := GS) (fun r u => 0 = r ∧ (si (su (su (sv (su (su (si S 22 (-1)) 29 992 0) 30 0 992) 0 0 1649317774848) 26 0 (-1)) 27 0 (-1)) 21 1) = u) (mw cy a)) := by
  refine Ct.ofZ RX12 "gain" [(0, .ref (a 0)), (1, .int 1), (2, .int p0), (3, .int 0), (4, .int 1)] rfl rfl rfl rfl (Nat.le_of_ble_eq_true rfl) ?_
  intro p e R s m args below meth c A b
  refine z_iload_n b dX12_gain_0 rfl rfl ?_
  refine z_calli b (z_runS (As := [.int 1]) (st := []) b (c_X12_isOne_4 S ) cf_X12_isOne wm_X12_170 ws_X12_isOne dX12_gain_1 rfl (Nat.le_of_ble_eq_true rfl) ⟨by decide, by decide, by decide, by decide⟩) (fun r12531 u12532 h12530 => ?_)
  obtain ⟨rfl, rfl⟩ := h12530
  refine z_if_eq_f (tgt := 27) b dX12_gain_4 (by decide) (by decide) ?_
  refine z_aload_n b dX12_gain_7 rfl rfl ?_
  refine z_iload_n b dX12_gain_8 rfl rfl ?_
  refine z_iload_n b dX12_gain_9 rfl rfl ?_
  refine z_calli b (z_runV (q0 := 0) (As := [.int p0, .int 0]) (st := []) b (c_X12_canSearch_4 S p0 ⟨by omega, by omega⟩) cf_X12_canSearch (mw_0 cy a S) rfl wm_X12_433 wi_X12_canSearch ws_X12_canSearch dX12_gain_10 rfl (Nat.le_of_ble_eq_true rfl) ⟨by decide, by decide, by decide, by decide⟩) (fun r12534 u12535 h12533 => ?_)
  obtain ⟨rfl, rfl⟩ := h12533
  refine z_if_eq_f (tgt := 27) b dX12_gain_13 (by decide) (by decide) ?_
  refine z_iload b dX12_gain_16 rfl ?_
  refine z_iconst (v := 0) b dX12_gain_18 (by decide) ?_
  refine z_bipush (v := 7) b dX12_gain_19 (by decide) ?_
  refine z_calli b (z_runS (As := [.int 1, .int 0, .int 7]) (st := []) b (c_X12_isIn_60 S ) cf_X12_isIn wm_X12_1 ws_X12_isIn dX12_gain_21 rfl (Nat.le_of_ble_eq_true rfl) ⟨by decide, by decide, by decide, by decide⟩) (fun r12537 u12538 h12536 => ?_)
  obtain ⟨rfl, rfl⟩ := h12536
  refine z_if_ne_t (tgt := 30) b dX12_gain_24 (by decide) (by decide) ?_
  refine z_aload_n b dX12_gain_30 rfl rfl ?_
  refine z_iconst (v := (-1)) b dX12_gain_31 (by decide) ?_
  refine z_iload_n b dX12_gain_32 rfl rfl ?_
  refine z_iload_n b dX12_gain_33 rfl rfl ?_
  refine z_bipush (v := 7) b dX12_gain_34 (by decide) ?_
  refine z_iconst (v := 0) b dX12_gain_36 (by decide) ?_
  refine z_callv b (z_runV (q0 := 0) (As := [.int (-1), .int p0, .int 0, .int 7, .int 0]) (st := []) b (c_X12_searches S p0 h_i_21 h_i_23 h_l_0 h_a_29_992 h_a_28_0 ⟨by omega, by omega⟩) cf_X12_searches (mw_0 cy a S) rfl wm_X12_436 wi_X12_searches ws_X12_searches dX12_gain_37 rfl (Nat.le_of_ble_eq_true rfl) ⟨by decide, by decide, by decide, by decide⟩) (fun u12541 h12539 => ?_)
  obtain rfl := h12539
  refine z_aload_n b dX12_gain_40 rfl rfl ?_
  refine z_get (q0 := 0) (k9 := 57) (v := .int (fi (si (su (su (sv (su (su (si S 22 (-1)) 29 992 0) 30 0 992) 0 0 1649317774848) 26 0 (-1)) 27 0 (-1)) 21 1) 23)) b (mw_0 cy a (si (su (su (sv (su (su (si S 22 (-1)) 29 992 0) 30 0 992) 0 0 1649317774848) 26 0 (-1)) 27 0 (-1)) 21 1)) rfl in_X12 (by decide) wf_X12_408 rfl dX12_gain_41 ?_
  refine z_eqi h_i_23 ?_
  refine z_if_eq_t (tgt := 50) b dX12_gain_44 (by decide) (by decide) ?_
  refine z_iconst (v := (-1)) b dX12_gain_50 (by decide) ?_
  refine z_istore (lv' := [(5, .int (-1)), (0, .ref (a 0)), (1, .int 1), (2, .int p0), (3, .int 0), (4, .int 1)]) b dX12_gain_51 (by decide) rfl ?_
  refine z_iconst (v := 0) b dX12_gain_53 (by decide) ?_
  refine z_istore (lv' := [(6, .int 0), (5, .int (-1)), (0, .ref (a 0)), (1, .int 1), (2, .int p0), (3, .int 0), (4, .int 1)]) b dX12_gain_54 (by decide) rfl ?_
  refine z_iconst (v := 0) b dX12_gain_56 (by decide) ?_
  refine z_istore (lv' := [(7, .int 0), (6, .int 0), (5, .int (-1)), (0, .ref (a 0)), (1, .int 1), (2, .int p0), (3, .int 0), (4, .int 1)]) b dX12_gain_57 (by decide) rfl ?_
  refine z_iload b dX12_gain_59 rfl ?_
  refine z_aload_n b dX12_gain_61 rfl rfl ?_
  refine z_get (q0 := 0) (k9 := 55) (v := .int 1) b (mw_0 cy a (si (su (su (sv (su (su (si S 22 (-1)) 29 992 0) 30 0 992) 0 0 1649317774848) 26 0 (-1)) 27 0 (-1)) 21 1)) rfl in_X12 (by decide) wf_X12_405 rfl dX12_gain_62 ?_
  refine z_icmp_ge_f (tgt := 147) b dX12_gain_65 (by decide) (by decide) ?_
  refine z_aload_n b dX12_gain_68 rfl rfl ?_
  refine z_aload_n b dX12_gain_69 rfl rfl ?_
  refine z_get (q0 := 0) (k9 := 49) (v := .ref (a 27)) b (mw_0 cy a (si (su (su (sv (su (su (si S 22 (-1)) 29 992 0) 30 0 992) 0 0 1649317774848) 26 0 (-1)) 27 0 (-1)) 21 1)) rfl in_X12 (by decide) wf_X12_97 rfl dX12_gain_70 ?_
  refine z_iload b dX12_gain_73 rfl ?_
  refine y_lald (q0 := 27) (j := 0) (v := 1649317774848) b (mw_27 cy a (si (su (su (sv (su (su (si S 22 (-1)) 29 992 0) 30 0 992) 0 0 1649317774848) 26 0 (-1)) 27 0 (-1)) 21 1)) (by decide) rfl dX12_gain_75 ?_
  refine z_callv b (z_runV (q0 := 0) (As := [.long 1649317774848]) (st := []) b (c_X12_takes (si (su (su (sv (su (su (si S 22 (-1)) 29 992 0) 30 0 992) 0 0 1649317774848) 26 0 (-1)) 27 0 (-1)) 21 1) h_a_4_7 h_a_1_7 h_a_4_6 h_a_1_6 h_a_3_6 h_a_3_2 h_a_2_2 h_a_0_2 h_a_4_3 h_a_1_3 h_a_4_5 h_a_1_5 h_a_3_5 h_a_3_7 h_a_2_1 h_a_0_1 h_a_4_2 h_a_1_2 h_a_4_1 h_a_1_1 h_a_3_1 h_a_3_3 h_a_2_0 h_a_0_0 h_i_0) cf_X12_takes (mw_0 cy a (si (su (su (sv (su (su (si S 22 (-1)) 29 992 0) 30 0 992) 0 0 1649317774848) 26 0 (-1)) 27 0 (-1)) 21 1)) rfl wm_X12_174 wi_X12_takes ws_X12_takes dX12_gain_76 rfl (Nat.le_of_ble_eq_true rfl) ⟨by decide, by decide, by decide, by decide⟩) (fun u12544 h12542 => ?_)
  obtain rfl := h12542
  refine z_aload_n b dX12_gain_79 rfl rfl ?_
  refine z_get (q0 := 0) (k9 := 0) (v := .ref (a 1)) b (mw_0 cy a (si (su (su (sv (su (su (si S 22 (-1)) 29 992 0) 30 0 992) 0 0 1649317774848) 26 0 (-1)) 27 0 (-1)) 21 1)) rfl in_X12 (by decide) wf_X12_13 rfl dX12_gain_80 ?_
  refine z_iload_n b dX12_gain_83 rfl rfl ?_
  refine y_iald (q0 := 1) (j := 1) (v := (ar (si (su (su (sv (su (su (si S 22 (-1)) 29 992 0) 30 0 992) 0 0 1649317774848) 26 0 (-1)) 27 0 (-1)) 21 1) 0 1)) b (mw_1 cy a (si (su (su (sv (su (su (si S 22 (-1)) 29 992 0) 30 0 992) 0 0 1649317774848) 26 0 (-1)) 27 0 (-1)) 21 1)) (by decide) rfl dX12_gain_84 ?_
  refine z_eqi h_a_0_1 ?_
  refine z_aload_n b dX12_gain_85 rfl rfl ?_
  refine z_get (q0 := 0) (k9 := 1) (v := .ref (a 2)) b (mw_0 cy a (si (su (su (sv (su (su (si S 22 (-1)) 29 992 0) 30 0 992) 0 0 1649317774848) 26 0 (-1)) 27 0 (-1)) 21 1)) rfl in_X12 (by decide) wf_X12_17 rfl dX12_gain_86 ?_
  refine z_iconst (v := 3) b dX12_gain_89 (by decide) ?_
  refine z_iload_n b dX12_gain_90 rfl rfl ?_
  refine z_imul (v := 3) b dX12_gain_91 (by decide) ?_
  refine z_iload_n b dX12_gain_92 rfl rfl ?_
  refine z_iconst (v := 0) b dX12_gain_93 (by decide) ?_
  refine z_calli b (z_runS (As := [.int 1, .int 0]) (st := [.int 3, .ref (a 2), .int 0]) b (c_X12_other_4 (si (su (su (sv (su (su (si S 22 (-1)) 29 992 0) 30 0 992) 0 0 1649317774848) 26 0 (-1)) 27 0 (-1)) 21 1) ) cf_X12_other wm_X12_160 ws_X12_other dX12_gain_94 rfl (Nat.le_of_ble_eq_true rfl) ⟨by decide, by decide, by decide, by decide⟩) (fun r12546 u12547 h12545 => ?_)
  obtain ⟨rfl, rfl⟩ := h12545
  refine z_iadd (v := 5) b dX12_gain_97 (by decide) ?_
  refine y_iald (q0 := 2) (j := 5) (v := (ar (si (su (su (sv (su (su (si S 22 (-1)) 29 992 0) 30 0 992) 0 0 1649317774848) 26 0 (-1)) 27 0 (-1)) 21 1) 1 5)) b (mw_2 cy a (si (su (su (sv (su (su (si S 22 (-1)) 29 992 0) 30 0 992) 0 0 1649317774848) 26 0 (-1)) 27 0 (-1)) 21 1)) (by decide) rfl dX12_gain_98 ?_
  refine z_eqi h_a_1_5 ?_
  refine z_isub (v := 0) b dX12_gain_99 (by decide) ?_
  refine z_aload_n b dX12_gain_100 rfl rfl ?_
  refine z_get (q0 := 0) (k9 := 1) (v := .ref (a 2)) b (mw_0 cy a (si (su (su (sv (su (su (si S 22 (-1)) 29 992 0) 30 0 992) 0 0 1649317774848) 26 0 (-1)) 27 0 (-1)) 21 1)) rfl in_X12 (by decide) wf_X12_17 rfl dX12_gain_101 ?_
  refine z_iconst (v := 3) b dX12_gain_104 (by decide) ?_
  refine z_iload_n b dX12_gain_105 rfl rfl ?_
  refine z_imul (v := 3) b dX12_gain_106 (by decide) ?_
  refine z_iload_n b dX12_gain_107 rfl rfl ?_
  refine z_iconst (v := 1) b dX12_gain_108 (by decide) ?_
  refine z_calli b (z_runS (As := [.int 1, .int 1]) (st := [.int 3, .ref (a 2), .int 0]) b (c_X12_other_3 (si (su (su (sv (su (su (si S 22 (-1)) 29 992 0) 30 0 992) 0 0 1649317774848) 26 0 (-1)) 27 0 (-1)) 21 1) ) cf_X12_other wm_X12_160 ws_X12_other dX12_gain_109 rfl (Nat.le_of_ble_eq_true rfl) ⟨by decide, by decide, by decide, by decide⟩) (fun r12549 u12550 h12548 => ?_)
  obtain ⟨rfl, rfl⟩ := h12548
  refine z_iadd (v := 3) b dX12_gain_112 (by decide) ?_
  refine y_iald (q0 := 2) (j := 3) (v := (ar (si (su (su (sv (su (su (si S 22 (-1)) 29 992 0) 30 0 992) 0 0 1649317774848) 26 0 (-1)) 27 0 (-1)) 21 1) 1 3)) b (mw_2 cy a (si (su (su (sv (su (su (si S 22 (-1)) 29 992 0) 30 0 992) 0 0 1649317774848) 26 0 (-1)) 27 0 (-1)) 21 1)) (by decide) rfl dX12_gain_113 ?_
  refine z_eqi h_a_1_3 ?_
  refine z_isub (v := 0) b dX12_gain_114 (by decide) ?_
  refine z_istore (lv' := [(8, .int 0), (7, .int 0), (6, .int 0), (5, .int (-1)), (0, .ref (a 0)), (1, .int 1), (2, .int p0), (3, .int 0), (4, .int 1)]) b dX12_gain_115 (by decide) rfl ?_
  refine z_iload b dX12_gain_117 rfl ?_
  refine z_iconst (v := (-1)) b dX12_gain_119 (by decide) ?_
  refine z_icmp_eq_t (tgt := 133) b dX12_gain_120 (by decide) (by decide) ?_
  refine z_iload b dX12_gain_133 rfl ?_
  refine z_istore (lv' := [(5, .int 0), (8, .int 0), (7, .int 0), (6, .int 0), (0, .ref (a 0)), (1, .int 1), (2, .int p0), (3, .int 0), (4, .int 1)]) b dX12_gain_135 (by decide) rfl ?_
  refine z_iload b dX12_gain_137 rfl ?_
  refine z_istore (lv' := [(6, .int 0), (5, .int 0), (8, .int 0), (7, .int 0), (0, .ref (a 0)), (1, .int 1), (2, .int p0), (3, .int 0), (4, .int 1)]) b dX12_gain_139 (by decide) rfl ?_
  refine z_iinc (k9 := 3) (v := 1) (lv' := [(7, .int 1), (6, .int 0), (5, .int 0), (8, .int 0), (0, .ref (a 0)), (1, .int 1), (2, .int p0), (3, .int 0), (4, .int 1)]) b dX12_gain_141 rfl (by decide) (by decide) rfl ?_
  refine z_goto (tgt := 59) b dX12_gain_144 (by decide) ?_
  refine z_iload b dX12_gain_59 rfl ?_
  refine z_aload_n b dX12_gain_61 rfl rfl ?_
  refine z_get (q0 := 0) (k9 := 55) (v := .int 1) b (mw_0 cy a (si (su (su (sv (su (su (si S 22 (-1)) 29 992 0) 30 0 992) 0 0 1649317774848) 26 0 (-1)) 27 0 (-1)) 21 1)) rfl in_X12 (by decide) wf_X12_405 rfl dX12_gain_62 ?_
  refine z_icmp_ge_t (tgt := 147) b dX12_gain_65 (by decide) (by decide) ?_
  refine z_iload b dX12_gain_147 rfl ?_
  refine z_iconst (v := 2) b dX12_gain_149 (by decide) ?_
  refine z_icmp_ge_f (tgt := 171) b dX12_gain_150 (by decide) (by decide) ?_
  refine z_iload b dX12_gain_153 rfl ?_
  refine z_if_ne_t (tgt := 163) b dX12_gain_155 (by decide) (by decide) ?_
  refine z_aload_n b dX12_gain_163 rfl rfl ?_
  refine z_get (q0 := 0) (k9 := 52) (v := .ref (a 30)) b (mw_0 cy a (si (su (su (sv (su (su (si S 22 (-1)) 29 992 0) 30 0 992) 0 0 1649317774848) 26 0 (-1)) 27 0 (-1)) 21 1)) rfl in_X12 (by decide) wf_X12_107 rfl dX12_gain_164 ?_
  refine z_iload b dX12_gain_167 rfl ?_
  refine y_iald (q0 := 30) (j := 0) (v := (ar (si (su (su (sv (su (su (si S 22 (-1)) 29 992 0) 30 0 992) 0 0 1649317774848) 26 0 (-1)) 27 0 (-1)) 21 1) 28 0)) b (mw_30 cy a (si (su (su (sv (su (su (si S 22 (-1)) 29 992 0) 30 0 992) 0 0 1649317774848) 26 0 (-1)) 27 0 (-1)) 21 1)) (by decide) rfl dX12_gain_169 ?_
  refine z_eqi h_a_28_0 ?_
  exact z_iret (u := (si (su (su (sv (su (su (si S 22 (-1)) 29 992 0) 30 0 992) 0 0 1649317774848) 26 0 (-1)) 27 0 (-1)) 21 1)) b rfl dX12_gain_170 ⟨rfl, rfl⟩ rfl (by decide) (by decide)

set_option maxHeartbeats 4000000 in
set_option maxRecDepth 100000 in
theorem c_X11_gain_28 {l : Launch} {D : va_G} {cy : Nat → ClassId} {T0 tB tE : Nat} {a : Nat → Nat} {rw : Nat → Option Nat} (S : GS) (p0 : Int32) (p1 : Int32) (h_i_19 : fi S 19 = 0) (h_i_24 : fi S 24 = 0) (h_i_20 : fi S 20 = 0) (h_i_22 : fi S 22 = 0) (h_i_18 : fi S 18 = 0) (h_i_25 : fi S 25 = 0) (h_i_23 : fi S 23 = 0) (h_i_26 : fi S 26 = 0) (h_a_4_50 : ar S 4 50 = 0) (h_a_4_40 : ar S 4 40 = 3) (h_a_4_41 : ar S 4 41 = 3) (h_a_4_42 : ar S 4 42 = 3) (h_a_4_0 : ar S 4 0 = 0) (h_a_4_11 : ar S 4 11 = 0) (h_a_4_21 : ar S 4 21 = 0) (h_a_4_31 : ar S 4 31 = 0) (h_a_4_12 : ar S 4 12 = 0) (h_a_4_22 : ar S 4 22 = 0) (h_a_4_32 : ar S 4 32 = 0) (h_a_4_1 : ar S 4 1 = 0) (h_a_4_13 : ar S 4 13 = 0) (h_a_4_23 : ar S 4 23 = 0) (h_a_4_33 : ar S 4 33 = 0) (h_a_4_15 : ar S 4 15 = 0) (h_a_4_25 : ar S 4 25 = 0) (h_a_4_35 : ar S 4 35 = 0) (h_a_4_2 : ar S 4 2 = 0) (h_a_4_16 : ar S 4 16 = 0) (h_a_4_26 : ar S 4 26 = 0) (h_a_4_36 : ar S 4 36 = 0) (h_a_4_17 : ar S 4 17 = 0) (h_a_4_27 : ar S 4 27 = 0) (h_a_4_37 : ar S 4 37 = 0) (h_a_10_0 : ar S 10 0 = 0) (h_a_9_50 : ar S 9 50 = 0) (h_a_9_40 : ar S 9 40 = 3) (h_a_9_41 : ar S 9 41 = 3) (h_a_9_42 : ar S 9 42 = 3) (h_a_9_0 : ar S 9 0 = 0) (h_a_9_11 : ar S 9 11 = 0) (h_a_9_21 : ar S 9 21 = 0) (h_a_9_31 : ar S 9 31 = 0) (h_a_9_12 : ar S 9 12 = 0) (h_a_9_22 : ar S 9 22 = 0) (h_a_9_32 : ar S 9 32 = 0) (h_a_9_1 : ar S 9 1 = 0) (h_a_9_13 : ar S 9 13 = 0) (h_a_9_23 : ar S 9 23 = 0) (h_a_9_33 : ar S 9 33 = 0) (h_a_9_15 : ar S 9 15 = 0) (h_a_9_25 : ar S 9 25 = 0) (h_a_9_35 : ar S 9 35 = 0) (h_a_9_2 : ar S 9 2 = 0) (h_a_9_16 : ar S 9 16 = 0) (h_a_9_26 : ar S 9 26 = 0) (h_a_9_36 : ar S 9 36 = 0) (h_a_9_17 : ar S 9 17 = 0) (h_a_9_27 : ar S 9 27 = 0) (h_a_9_37 : ar S 9 37 = 0) (hr_p0 : 1 ≤ p0.toInt ∧ p0.toInt ≤ 3) (hr_p1 : 2 ≤ p1.toInt ∧ p1.toInt ≤ 7) : Ct l D cy T0 tB tE yX11_gain cX11_gain 7 (some .int) 5 117 0 0 (cw cy tE a rw S) [.ref (a 0), .int 1, .int p0, .int 0, .int p1] (QI D (U := GS) (fun r u => (-100) = r ∧ (su (si (su (su (sv (sa (si (si (si S 24 1) 19 p0) 21 7) 13 (fil 1024 0 (ar (si (si (si S 24 1) 19 p0) 21 7) 13))) 2 0 4128768) 11 0 (-1)) 12 0 (-1)) 25 1) 13 978 1) = u) (cw cy tE a rw)) := by
  refine Ct.ofZ RX11 "gain" [(0, .ref (a 0)), (1, .int 1), (2, .int p0), (3, .int 0), (4, .int p1)] rfl rfl rfl rfl (Nat.le_of_ble_eq_true rfl) ?_
  intro p e R s m args below meth c A b
  refine z_iload_n b dX11_gain_0 rfl rfl ?_
  refine z_calli b (z_runS (As := [.int 1]) (st := []) b (c_X11_isPerson_4 S ) cf_X11_isPerson wm_X11_69 ws_X11_isPerson dX11_gain_1 rfl (Nat.le_of_ble_eq_true rfl) ⟨by decide, by decide, by decide, by decide⟩) (fun r12552 u12553 h12551 => ?_)
  obtain ⟨rfl, rfl⟩ := h12551
  refine z_if_eq_f (tgt := 26) b dX11_gain_4 (by decide) (by decide) ?_
  refine z_iload_n b dX11_gain_7 rfl rfl ?_
  refine z_calli b (z_runS (As := [.int p0]) (st := []) b (c_X11_areLaws_3 S p0 ⟨by omega, by omega⟩) cf_X11_areLaws wm_X11_181 ws_X11_areLaws dX11_gain_8 rfl (Nat.le_of_ble_eq_true rfl) ⟨by decide, by decide, by decide, by decide⟩) (fun r12555 u12556 h12554 => ?_)
  obtain ⟨rfl, rfl⟩ := h12554
  refine z_if_eq_f (tgt := 26) b dX11_gain_11 (by decide) (by decide) ?_
  refine z_iload_n b dX11_gain_14 rfl rfl ?_
  refine z_calli b (z_runS (As := [.int 0]) (st := []) b (c_X11_isDepth_2 S ) cf_X11_isDepth wm_X11_203 ws_X11_isDepth dX11_gain_15 rfl (Nat.le_of_ble_eq_true rfl) ⟨by decide, by decide, by decide, by decide⟩) (fun r12558 u12559 h12557 => ?_)
  obtain ⟨rfl, rfl⟩ := h12557
  refine z_if_eq_f (tgt := 26) b dX11_gain_18 (by decide) (by decide) ?_
  refine z_iload b dX11_gain_21 rfl ?_
  refine y_if_ge (tgt := 29) (xl := p1.toInt) b rfl dX11_gain_23 (by decide) (fun c12560 => ?_) (fun c12560 => ?_)
  · refine z_aload_n b dX11_gain_29 rfl rfl ?_
    refine z_get (q0 := 0) (k9 := 6) (v := .ref (a 25)) b (cw_0 cy tE a rw S) rfl in_X11 (by decide) wf_X11_52 rfl dX11_gain_30 ?_
    refine z_iload_n b dX11_gain_33 rfl rfl ?_
    refine z_iload_n b dX11_gain_34 rfl rfl ?_
    refine z_bipush (v := 7) b dX11_gain_35 (by decide) ?_
    refine z_iconst (v := 0) b dX11_gain_37 (by decide) ?_
    refine z_callv b (z_runV (q0 := 25) (As := [.int p0, .int 0, .int 7, .int 0]) (st := []) b (c_X8_begin S p0 h_i_19 h_i_24 h_i_20 h_i_22 h_i_18 h_i_25 h_i_23 h_i_26 h_a_4_50 h_a_4_40 h_a_4_41 h_a_4_42 h_a_4_0 h_a_4_11 h_a_4_21 h_a_4_31 h_a_4_12 h_a_4_22 h_a_4_32 h_a_4_1 h_a_4_13 h_a_4_23 h_a_4_33 h_a_4_15 h_a_4_25 h_a_4_35 h_a_4_2 h_a_4_16 h_a_4_26 h_a_4_36 h_a_4_17 h_a_4_27 h_a_4_37 h_a_10_0 ⟨by omega, by omega⟩) cf_X8_begin (cw_25 cy tE a rw S) rfl wm_X11_206 wi_X8_begin ws_X8_begin dX11_gain_38 rfl (Nat.le_of_ble_eq_true rfl) ⟨by decide, by decide, by decide, by decide⟩) (fun u12563 h12561 => ?_)
    obtain rfl := h12561
    refine z_aload_n b dX11_gain_41 rfl rfl ?_
    refine z_get (q0 := 0) (k9 := 6) (v := .ref (a 25)) b (cw_0 cy tE a rw (su (si (su (su (sv (sa (si (si (si S 24 1) 19 p0) 21 7) 13 (fil 1024 0 (ar (si (si (si S 24 1) 19 p0) 21 7) 13))) 2 0 4128768) 11 0 (-1)) 12 0 (-1)) 25 1) 13 978 1)) rfl in_X11 (by decide) wf_X11_52 rfl dX11_gain_42 ?_
    refine z_callv b (z_runV (q0 := 25) (As := []) (st := []) b (c_X8_finish (su (si (su (su (sv (sa (si (si (si S 24 1) 19 p0) 21 7) 13 (fil 1024 0 (ar (si (si (si S 24 1) 19 p0) 21 7) 13))) 2 0 4128768) 11 0 (-1)) 12 0 (-1)) 25 1) 13 978 1) h_i_26 h_i_23 rfl h_a_10_0 h_i_20) cf_X8_finish (cw_25 cy tE a rw (su (si (su (su (sv (sa (si (si (si S 24 1) 19 p0) 21 7) 13 (fil 1024 0 (ar (si (si (si S 24 1) 19 p0) 21 7) 13))) 2 0 4128768) 11 0 (-1)) 12 0 (-1)) 25 1) 13 978 1)) rfl wm_X11_232 wi_X8_finish ws_X8_finish dX11_gain_45 rfl (Nat.le_of_ble_eq_true rfl) ⟨by decide, by decide, by decide, by decide⟩) (fun u12566 h12564 => ?_)
    obtain rfl := h12564
    refine z_aload_n b dX11_gain_48 rfl rfl ?_
    refine z_get (q0 := 0) (k9 := 6) (v := .ref (a 25)) b (cw_0 cy tE a rw (su (si (su (su (sv (sa (si (si (si S 24 1) 19 p0) 21 7) 13 (fil 1024 0 (ar (si (si (si S 24 1) 19 p0) 21 7) 13))) 2 0 4128768) 11 0 (-1)) 12 0 (-1)) 25 1) 13 978 1)) rfl in_X11 (by decide) wf_X11_52 rfl dX11_gain_49 ?_
    refine z_get (q0 := 25) (k9 := 18) (v := .int (fi (su (si (su (su (sv (sa (si (si (si S 24 1) 19 p0) 21 7) 13 (fil 1024 0 (ar (si (si (si S 24 1) 19 p0) 21 7) 13))) 2 0 4128768) 11 0 (-1)) 12 0 (-1)) 25 1) 13 978 1) 26)) b (cw_25 cy tE a rw (su (si (su (su (sv (sa (si (si (si S 24 1) 19 p0) 21 7) 13 (fil 1024 0 (ar (si (si (si S 24 1) 19 p0) 21 7) 13))) 2 0 4128768) 11 0 (-1)) 12 0 (-1)) 25 1) 13 978 1)) rfl in_X8 (by decide) wf_X11_214 rfl dX11_gain_52 ?_
    refine z_eqi h_i_26 ?_
    refine z_if_eq_t (tgt := 61) b dX11_gain_55 (by decide) (by decide) ?_
    refine z_aload_n b dX11_gain_61 rfl rfl ?_
    refine z_get (q0 := 0) (k9 := 6) (v := .ref (a 25)) b (cw_0 cy tE a rw (su (si (su (su (sv (sa (si (si (si S 24 1) 19 p0) 21 7) 13 (fil 1024 0 (ar (si (si (si S 24 1) 19 p0) 21 7) 13))) 2 0 4128768) 11 0 (-1)) 12 0 (-1)) 25 1) 13 978 1)) rfl in_X11 (by decide) wf_X11_52 rfl dX11_gain_62 ?_
    refine z_iload_n b dX11_gain_65 rfl rfl ?_
    refine z_calli b (z_runV (q0 := 25) (As := [.int 1]) (st := []) b (c_X8_richest_2 (su (si (su (su (sv (sa (si (si (si S 24 1) 19 p0) 21 7) 13 (fil 1024 0 (ar (si (si (si S 24 1) 19 p0) 21 7) 13))) 2 0 4128768) 11 0 (-1)) 12 0 (-1)) 25 1) 13 978 1) rfl rfl h_a_9_50 h_a_9_40 h_a_9_41 h_a_9_42 h_a_9_0 h_a_9_11 h_a_9_21 h_a_9_31 h_a_9_12 h_a_9_22 h_a_9_32 h_a_9_1 h_a_9_13 h_a_9_23 h_a_9_33 h_a_9_15 h_a_9_25 h_a_9_35 h_a_9_2 h_a_9_16 h_a_9_26 h_a_9_36 h_a_9_17 h_a_9_27 h_a_9_37) cf_X8_richest (cw_25 cy tE a rw (su (si (su (su (sv (sa (si (si (si S 24 1) 19 p0) 21 7) 13 (fil 1024 0 (ar (si (si (si S 24 1) 19 p0) 21 7) 13))) 2 0 4128768) 11 0 (-1)) 12 0 (-1)) 25 1) 13 978 1)) rfl wm_X11_238 wi_X8_richest ws_X8_richest dX11_gain_66 rfl (Nat.le_of_ble_eq_true rfl) ⟨by decide, by decide, by decide, by decide⟩) (fun r12568 u12569 h12567 => ?_)
    obtain ⟨rfl, rfl⟩ := h12567
    refine z_istore (lv' := [(5, .int 0), (0, .ref (a 0)), (1, .int 1), (2, .int p0), (3, .int 0), (4, .int p1)]) b dX11_gain_69 (by decide) rfl ?_
    refine z_iload b dX11_gain_71 rfl ?_
    refine y_if_ne (tgt := 87) (xl := p1.toInt) b rfl dX11_gain_73 (by decide) (fun c12570 => ?_) (fun c12570 => ?_)
    · refine z_iload b dX11_gain_87 rfl ?_
      refine z_iconst (v := 1) b dX11_gain_89 (by decide) ?_
      refine y_icmp_ne (tgt := 103) (xl := p1.toInt) (yl := 1) b rfl (by decide) dX11_gain_90 (by decide) (fun c12571 => ?_) (fun c12571 => ?_)
      · refine z_aload_n b dX11_gain_103 rfl rfl ?_
        refine z_get (q0 := 0) (k9 := 6) (v := .ref (a 25)) b (cw_0 cy tE a rw (su (si (su (su (sv (sa (si (si (si S 24 1) 19 p0) 21 7) 13 (fil 1024 0 (ar (si (si (si S 24 1) 19 p0) 21 7) 13))) 2 0 4128768) 11 0 (-1)) 12 0 (-1)) 25 1) 13 978 1)) rfl in_X11 (by decide) wf_X11_52 rfl dX11_gain_104 ?_
        refine z_iload b dX11_gain_107 rfl ?_
        refine z_iload b dX11_gain_109 rfl ?_
        refine z_iconst (v := 2) b dX11_gain_111 (by decide) ?_
        refine z_isub b dX11_gain_112 rfl ?_
        have f12572 : ((p1 - 2) : Int32).toInt = p1.toInt + (-2) := zisub (k := 2) (by decide) (by omega) (by omega)
        refine z_calli b (z_runV (q0 := 25) (As := [.int 0, .int (p1 - 2)]) (st := []) b (c_X8_code (su (si (su (su (sv (sa (si (si (si S 24 1) 19 p0) 21 7) 13 (fil 1024 0 (ar (si (si (si S 24 1) 19 p0) 21 7) 13))) 2 0 4128768) 11 0 (-1)) 12 0 (-1)) 25 1) 13 978 1) (p1 - 2) rfl h_a_10_0 ⟨by omega, by omega⟩) cf_X8_code (cw_25 cy tE a rw (su (si (su (su (sv (sa (si (si (si S 24 1) 19 p0) 21 7) 13 (fil 1024 0 (ar (si (si (si S 24 1) 19 p0) 21 7) 13))) 2 0 4128768) 11 0 (-1)) 12 0 (-1)) 25 1) 13 978 1)) rfl wm_X11_219 wi_X8_code ws_X8_code dX11_gain_113 rfl (Nat.le_of_ble_eq_true rfl) ⟨by decide, by decide, by decide, by decide⟩) (fun r12574 u12575 h12573 => ?_)
        obtain ⟨rfl, rfl⟩ := h12573
        refine z_istore (lv' := [(6, .int (-1)), (5, .int 0), (0, .ref (a 0)), (1, .int 1), (2, .int p0), (3, .int 0), (4, .int p1)]) b dX11_gain_116 (by decide) rfl ?_
        refine z_iload b dX11_gain_118 rfl ?_
        refine z_iconst (v := (-1)) b dX11_gain_120 (by decide) ?_
        refine z_icmp_ne_f (tgt := 129) b dX11_gain_121 (by decide) (by decide) ?_
        refine z_bipush (v := (-100)) b dX11_gain_124 (by decide) ?_
        refine z_goto (tgt := 131) b dX11_gain_126 (by decide) ?_
        exact z_iret (u := (su (si (su (su (sv (sa (si (si (si S 24 1) 19 p0) 21 7) 13 (fil 1024 0 (ar (si (si (si S 24 1) 19 p0) 21 7) 13))) 2 0 4128768) 11 0 (-1)) 12 0 (-1)) 25 1) 13 978 1)) b rfl dX11_gain_131 ⟨rfl, rfl⟩ rfl (by decide) (by decide)
      · exfalso; omega
    · exfalso; omega
  · exfalso; omega

set_option maxHeartbeats 4000000 in
set_option maxRecDepth 100000 in
theorem c_X12_gain_28 {l : Launch} {D : va_G} {cy : Nat → ClassId} {T0 tB tE : Nat} {a : Nat → Nat} (S : GS) (p0 : Int32) (p1 : Int32) (h_i_21 : fi S 21 = 0) (h_i_23 : fi S 23 = 0) (h_l_0 : fl S 0 = 1649317774848) (h_a_29_992 : ar S 29 992 = (-1)) (h_a_28_0 : ar S 28 0 = 0) (h_a_4_7 : ar S 4 7 = 0) (h_a_1_7 : ar S 1 7 = 0) (h_a_4_6 : ar S 4 6 = 0) (h_a_1_6 : ar S 1 6 = 0) (h_a_3_6 : ar S 3 6 = 0) (h_a_3_2 : ar S 3 2 = 0) (h_a_2_2 : ar S 2 2 = 3) (h_a_0_2 : ar S 0 2 = 0) (h_a_4_3 : ar S 4 3 = 0) (h_a_1_3 : ar S 1 3 = 0) (h_a_4_5 : ar S 4 5 = 0) (h_a_1_5 : ar S 1 5 = 0) (h_a_3_5 : ar S 3 5 = 0) (h_a_3_7 : ar S 3 7 = 0) (h_a_2_1 : ar S 2 1 = 3) (h_a_0_1 : ar S 0 1 = 0) (h_a_4_2 : ar S 4 2 = 0) (h_a_1_2 : ar S 1 2 = 0) (h_a_4_1 : ar S 4 1 = 0) (h_a_1_1 : ar S 1 1 = 0) (h_a_3_1 : ar S 3 1 = 0) (h_a_3_3 : ar S 3 3 = 0) (h_a_2_0 : ar S 2 0 = 3) (h_a_0_0 : ar S 0 0 = 0) (h_i_0 : fi S 0 = 0) (hr_p0 : 1 ≤ p0.toInt ∧ p0.toInt ≤ 3) (hr_p1 : 2 ≤ p1.toInt ∧ p1.toInt ≤ 7) : Ct l D cy T0 tB tE yX12_gain cX12_gain 9 (some .int) 3 74 0 0 (mw cy a S) [.ref (a 0), .int 1, .int p0, .int 0, .int p1] (QI D (U := GS) (fun r u => (-100) = r ∧ (si (su (su (sv (su (su (si S 22 (-1)) 29 992 0) 30 0 992) 0 0 1649317774848) 26 0 (-1)) 27 0 (-1)) 21 1) = u) (mw cy a)) := by
  refine Ct.ofZ RX12 "gain" [(0, .ref (a 0)), (1, .int 1), (2, .int p0), (3, .int 0), (4, .int p1)] rfl rfl rfl rfl (Nat.le_of_ble_eq_true rfl) ?_
  intro p e R s m args below meth c A b
  refine z_iload_n b dX12_gain_0 rfl rfl ?_
  refine z_calli b (z_runS (As := [.int 1]) (st := []) b (c_X12_isOne_4 S ) cf_X12_isOne wm_X12_170 ws_X12_isOne dX12_gain_1 rfl (Nat.le_of_ble_eq_true rfl) ⟨by decide, by decide, by decide, by decide⟩) (fun r12577 u12578 h12576 => ?_)
  obtain ⟨rfl, rfl⟩ := h12576
  refine z_if_eq_f (tgt := 27) b dX12_gain_4 (by decide) (by decide) ?_
  refine z_aload_n b dX12_gain_7 rfl rfl ?_
  refine z_iload_n b dX12_gain_8 rfl rfl ?_
  refine z_iload_n b dX12_gain_9 rfl rfl ?_
  refine z_calli b (z_runV (q0 := 0) (As := [.int p0, .int 0]) (st := []) b (c_X12_canSearch_4 S p0 ⟨by omega, by omega⟩) cf_X12_canSearch (mw_0 cy a S) rfl wm_X12_433 wi_X12_canSearch ws_X12_canSearch dX12_gain_10 rfl (Nat.le_of_ble_eq_true rfl) ⟨by decide, by decide, by decide, by decide⟩) (fun r12580 u12581 h12579 => ?_)
  obtain ⟨rfl, rfl⟩ := h12579
  refine z_if_eq_f (tgt := 27) b dX12_gain_13 (by decide) (by decide) ?_
  refine z_iload b dX12_gain_16 rfl ?_
  refine z_iconst (v := 0) b dX12_gain_18 (by decide) ?_
  refine z_bipush (v := 7) b dX12_gain_19 (by decide) ?_
  refine z_calli b (z_runS (As := [.int p1, .int 0, .int 7]) (st := []) b (c_X12_isIn_61 S p1 ⟨by omega, by omega⟩) cf_X12_isIn wm_X12_1 ws_X12_isIn dX12_gain_21 rfl (Nat.le_of_ble_eq_true rfl) ⟨by decide, by decide, by decide, by decide⟩) (fun r12583 u12584 h12582 => ?_)
  obtain ⟨rfl, rfl⟩ := h12582
  refine z_if_ne_t (tgt := 30) b dX12_gain_24 (by decide) (by decide) ?_
  refine z_aload_n b dX12_gain_30 rfl rfl ?_
  refine z_iconst (v := (-1)) b dX12_gain_31 (by decide) ?_
  refine z_iload_n b dX12_gain_32 rfl rfl ?_
  refine z_iload_n b dX12_gain_33 rfl rfl ?_
  refine z_bipush (v := 7) b dX12_gain_34 (by decide) ?_
  refine z_iconst (v := 0) b dX12_gain_36 (by decide) ?_
  refine z_callv b (z_runV (q0 := 0) (As := [.int (-1), .int p0, .int 0, .int 7, .int 0]) (st := []) b (c_X12_searches S p0 h_i_21 h_i_23 h_l_0 h_a_29_992 h_a_28_0 ⟨by omega, by omega⟩) cf_X12_searches (mw_0 cy a S) rfl wm_X12_436 wi_X12_searches ws_X12_searches dX12_gain_37 rfl (Nat.le_of_ble_eq_true rfl) ⟨by decide, by decide, by decide, by decide⟩) (fun u12587 h12585 => ?_)
  obtain rfl := h12585
  refine z_aload_n b dX12_gain_40 rfl rfl ?_
  refine z_get (q0 := 0) (k9 := 57) (v := .int (fi (si (su (su (sv (su (su (si S 22 (-1)) 29 992 0) 30 0 992) 0 0 1649317774848) 26 0 (-1)) 27 0 (-1)) 21 1) 23)) b (mw_0 cy a (si (su (su (sv (su (su (si S 22 (-1)) 29 992 0) 30 0 992) 0 0 1649317774848) 26 0 (-1)) 27 0 (-1)) 21 1)) rfl in_X12 (by decide) wf_X12_408 rfl dX12_gain_41 ?_
  refine z_eqi h_i_23 ?_
  refine z_if_eq_t (tgt := 50) b dX12_gain_44 (by decide) (by decide) ?_
  refine z_iconst (v := (-1)) b dX12_gain_50 (by decide) ?_
  refine z_istore (lv' := [(5, .int (-1)), (0, .ref (a 0)), (1, .int 1), (2, .int p0), (3, .int 0), (4, .int p1)]) b dX12_gain_51 (by decide) rfl ?_
  refine z_iconst (v := 0) b dX12_gain_53 (by decide) ?_
  refine z_istore (lv' := [(6, .int 0), (5, .int (-1)), (0, .ref (a 0)), (1, .int 1), (2, .int p0), (3, .int 0), (4, .int p1)]) b dX12_gain_54 (by decide) rfl ?_
  refine z_iconst (v := 0) b dX12_gain_56 (by decide) ?_
  refine z_istore (lv' := [(7, .int 0), (6, .int 0), (5, .int (-1)), (0, .ref (a 0)), (1, .int 1), (2, .int p0), (3, .int 0), (4, .int p1)]) b dX12_gain_57 (by decide) rfl ?_
  refine z_iload b dX12_gain_59 rfl ?_
  refine z_aload_n b dX12_gain_61 rfl rfl ?_
  refine z_get (q0 := 0) (k9 := 55) (v := .int 1) b (mw_0 cy a (si (su (su (sv (su (su (si S 22 (-1)) 29 992 0) 30 0 992) 0 0 1649317774848) 26 0 (-1)) 27 0 (-1)) 21 1)) rfl in_X12 (by decide) wf_X12_405 rfl dX12_gain_62 ?_
  refine z_icmp_ge_f (tgt := 147) b dX12_gain_65 (by decide) (by decide) ?_
  refine z_aload_n b dX12_gain_68 rfl rfl ?_
  refine z_aload_n b dX12_gain_69 rfl rfl ?_
  refine z_get (q0 := 0) (k9 := 49) (v := .ref (a 27)) b (mw_0 cy a (si (su (su (sv (su (su (si S 22 (-1)) 29 992 0) 30 0 992) 0 0 1649317774848) 26 0 (-1)) 27 0 (-1)) 21 1)) rfl in_X12 (by decide) wf_X12_97 rfl dX12_gain_70 ?_
  refine z_iload b dX12_gain_73 rfl ?_
  refine y_lald (q0 := 27) (j := 0) (v := 1649317774848) b (mw_27 cy a (si (su (su (sv (su (su (si S 22 (-1)) 29 992 0) 30 0 992) 0 0 1649317774848) 26 0 (-1)) 27 0 (-1)) 21 1)) (by decide) rfl dX12_gain_75 ?_
  refine z_callv b (z_runV (q0 := 0) (As := [.long 1649317774848]) (st := []) b (c_X12_takes (si (su (su (sv (su (su (si S 22 (-1)) 29 992 0) 30 0 992) 0 0 1649317774848) 26 0 (-1)) 27 0 (-1)) 21 1) h_a_4_7 h_a_1_7 h_a_4_6 h_a_1_6 h_a_3_6 h_a_3_2 h_a_2_2 h_a_0_2 h_a_4_3 h_a_1_3 h_a_4_5 h_a_1_5 h_a_3_5 h_a_3_7 h_a_2_1 h_a_0_1 h_a_4_2 h_a_1_2 h_a_4_1 h_a_1_1 h_a_3_1 h_a_3_3 h_a_2_0 h_a_0_0 h_i_0) cf_X12_takes (mw_0 cy a (si (su (su (sv (su (su (si S 22 (-1)) 29 992 0) 30 0 992) 0 0 1649317774848) 26 0 (-1)) 27 0 (-1)) 21 1)) rfl wm_X12_174 wi_X12_takes ws_X12_takes dX12_gain_76 rfl (Nat.le_of_ble_eq_true rfl) ⟨by decide, by decide, by decide, by decide⟩) (fun u12590 h12588 => ?_)
  obtain rfl := h12588
  refine z_aload_n b dX12_gain_79 rfl rfl ?_
  refine z_get (q0 := 0) (k9 := 0) (v := .ref (a 1)) b (mw_0 cy a (si (su (su (sv (su (su (si S 22 (-1)) 29 992 0) 30 0 992) 0 0 1649317774848) 26 0 (-1)) 27 0 (-1)) 21 1)) rfl in_X12 (by decide) wf_X12_13 rfl dX12_gain_80 ?_
  refine z_iload_n b dX12_gain_83 rfl rfl ?_
  refine y_iald (q0 := 1) (j := 1) (v := (ar (si (su (su (sv (su (su (si S 22 (-1)) 29 992 0) 30 0 992) 0 0 1649317774848) 26 0 (-1)) 27 0 (-1)) 21 1) 0 1)) b (mw_1 cy a (si (su (su (sv (su (su (si S 22 (-1)) 29 992 0) 30 0 992) 0 0 1649317774848) 26 0 (-1)) 27 0 (-1)) 21 1)) (by decide) rfl dX12_gain_84 ?_
  refine z_eqi h_a_0_1 ?_
  refine z_aload_n b dX12_gain_85 rfl rfl ?_
  refine z_get (q0 := 0) (k9 := 1) (v := .ref (a 2)) b (mw_0 cy a (si (su (su (sv (su (su (si S 22 (-1)) 29 992 0) 30 0 992) 0 0 1649317774848) 26 0 (-1)) 27 0 (-1)) 21 1)) rfl in_X12 (by decide) wf_X12_17 rfl dX12_gain_86 ?_
  refine z_iconst (v := 3) b dX12_gain_89 (by decide) ?_
  refine z_iload_n b dX12_gain_90 rfl rfl ?_
  refine z_imul (v := 3) b dX12_gain_91 (by decide) ?_
  refine z_iload_n b dX12_gain_92 rfl rfl ?_
  refine z_iconst (v := 0) b dX12_gain_93 (by decide) ?_
  refine z_calli b (z_runS (As := [.int 1, .int 0]) (st := [.int 3, .ref (a 2), .int 0]) b (c_X12_other_4 (si (su (su (sv (su (su (si S 22 (-1)) 29 992 0) 30 0 992) 0 0 1649317774848) 26 0 (-1)) 27 0 (-1)) 21 1) ) cf_X12_other wm_X12_160 ws_X12_other dX12_gain_94 rfl (Nat.le_of_ble_eq_true rfl) ⟨by decide, by decide, by decide, by decide⟩) (fun r12592 u12593 h12591 => ?_)
  obtain ⟨rfl, rfl⟩ := h12591
  refine z_iadd (v := 5) b dX12_gain_97 (by decide) ?_
  refine y_iald (q0 := 2) (j := 5) (v := (ar (si (su (su (sv (su (su (si S 22 (-1)) 29 992 0) 30 0 992) 0 0 1649317774848) 26 0 (-1)) 27 0 (-1)) 21 1) 1 5)) b (mw_2 cy a (si (su (su (sv (su (su (si S 22 (-1)) 29 992 0) 30 0 992) 0 0 1649317774848) 26 0 (-1)) 27 0 (-1)) 21 1)) (by decide) rfl dX12_gain_98 ?_
  refine z_eqi h_a_1_5 ?_
  refine z_isub (v := 0) b dX12_gain_99 (by decide) ?_
  refine z_aload_n b dX12_gain_100 rfl rfl ?_
  refine z_get (q0 := 0) (k9 := 1) (v := .ref (a 2)) b (mw_0 cy a (si (su (su (sv (su (su (si S 22 (-1)) 29 992 0) 30 0 992) 0 0 1649317774848) 26 0 (-1)) 27 0 (-1)) 21 1)) rfl in_X12 (by decide) wf_X12_17 rfl dX12_gain_101 ?_
  refine z_iconst (v := 3) b dX12_gain_104 (by decide) ?_
  refine z_iload_n b dX12_gain_105 rfl rfl ?_
  refine z_imul (v := 3) b dX12_gain_106 (by decide) ?_
  refine z_iload_n b dX12_gain_107 rfl rfl ?_
  refine z_iconst (v := 1) b dX12_gain_108 (by decide) ?_
  refine z_calli b (z_runS (As := [.int 1, .int 1]) (st := [.int 3, .ref (a 2), .int 0]) b (c_X12_other_3 (si (su (su (sv (su (su (si S 22 (-1)) 29 992 0) 30 0 992) 0 0 1649317774848) 26 0 (-1)) 27 0 (-1)) 21 1) ) cf_X12_other wm_X12_160 ws_X12_other dX12_gain_109 rfl (Nat.le_of_ble_eq_true rfl) ⟨by decide, by decide, by decide, by decide⟩) (fun r12595 u12596 h12594 => ?_)
  obtain ⟨rfl, rfl⟩ := h12594
  refine z_iadd (v := 3) b dX12_gain_112 (by decide) ?_
  refine y_iald (q0 := 2) (j := 3) (v := (ar (si (su (su (sv (su (su (si S 22 (-1)) 29 992 0) 30 0 992) 0 0 1649317774848) 26 0 (-1)) 27 0 (-1)) 21 1) 1 3)) b (mw_2 cy a (si (su (su (sv (su (su (si S 22 (-1)) 29 992 0) 30 0 992) 0 0 1649317774848) 26 0 (-1)) 27 0 (-1)) 21 1)) (by decide) rfl dX12_gain_113 ?_
  refine z_eqi h_a_1_3 ?_
  refine z_isub (v := 0) b dX12_gain_114 (by decide) ?_
  refine z_istore (lv' := [(8, .int 0), (7, .int 0), (6, .int 0), (5, .int (-1)), (0, .ref (a 0)), (1, .int 1), (2, .int p0), (3, .int 0), (4, .int p1)]) b dX12_gain_115 (by decide) rfl ?_
  refine z_iload b dX12_gain_117 rfl ?_
  refine z_iconst (v := (-1)) b dX12_gain_119 (by decide) ?_
  refine z_icmp_eq_t (tgt := 133) b dX12_gain_120 (by decide) (by decide) ?_
  refine z_iload b dX12_gain_133 rfl ?_
  refine z_istore (lv' := [(5, .int 0), (8, .int 0), (7, .int 0), (6, .int 0), (0, .ref (a 0)), (1, .int 1), (2, .int p0), (3, .int 0), (4, .int p1)]) b dX12_gain_135 (by decide) rfl ?_
  refine z_iload b dX12_gain_137 rfl ?_
  refine z_istore (lv' := [(6, .int 0), (5, .int 0), (8, .int 0), (7, .int 0), (0, .ref (a 0)), (1, .int 1), (2, .int p0), (3, .int 0), (4, .int p1)]) b dX12_gain_139 (by decide) rfl ?_
  refine z_iinc (k9 := 3) (v := 1) (lv' := [(7, .int 1), (6, .int 0), (5, .int 0), (8, .int 0), (0, .ref (a 0)), (1, .int 1), (2, .int p0), (3, .int 0), (4, .int p1)]) b dX12_gain_141 rfl (by decide) (by decide) rfl ?_
  refine z_goto (tgt := 59) b dX12_gain_144 (by decide) ?_
  refine z_iload b dX12_gain_59 rfl ?_
  refine z_aload_n b dX12_gain_61 rfl rfl ?_
  refine z_get (q0 := 0) (k9 := 55) (v := .int 1) b (mw_0 cy a (si (su (su (sv (su (su (si S 22 (-1)) 29 992 0) 30 0 992) 0 0 1649317774848) 26 0 (-1)) 27 0 (-1)) 21 1)) rfl in_X12 (by decide) wf_X12_405 rfl dX12_gain_62 ?_
  refine z_icmp_ge_t (tgt := 147) b dX12_gain_65 (by decide) (by decide) ?_
  refine z_iload b dX12_gain_147 rfl ?_
  refine z_iconst (v := 2) b dX12_gain_149 (by decide) ?_
  refine y_icmp_ge (tgt := 171) (xl := p1.toInt) (yl := 2) b rfl (by decide) dX12_gain_150 (by decide) (fun c12597 => ?_) (fun c12597 => ?_)
  · refine z_iload b dX12_gain_171 rfl ?_
    refine z_iconst (v := 2) b dX12_gain_173 (by decide) ?_
    refine z_isub b dX12_gain_174 rfl ?_
    have f12598 : ((p1 - 2) : Int32).toInt = p1.toInt + (-2) := zisub (k := 2) (by decide) (by omega) (by omega)
    refine z_aload_n b dX12_gain_175 rfl rfl ?_
    refine z_get (q0 := 0) (k9 := 52) (v := .ref (a 30)) b (mw_0 cy a (si (su (su (sv (su (su (si S 22 (-1)) 29 992 0) 30 0 992) 0 0 1649317774848) 26 0 (-1)) 27 0 (-1)) 21 1)) rfl in_X12 (by decide) wf_X12_107 rfl dX12_gain_176 ?_
    refine z_iload b dX12_gain_179 rfl ?_
    refine y_iald (q0 := 30) (j := 0) (v := (ar (si (su (su (sv (su (su (si S 22 (-1)) 29 992 0) 30 0 992) 0 0 1649317774848) 26 0 (-1)) 27 0 (-1)) 21 1) 28 0)) b (mw_30 cy a (si (su (su (sv (su (su (si S 22 (-1)) 29 992 0) 30 0 992) 0 0 1649317774848) 26 0 (-1)) 27 0 (-1)) 21 1)) (by decide) rfl dX12_gain_181 ?_
    refine z_eqi h_a_28_0 ?_
    refine y_icmp_ge (tgt := 198) (xl := ((p1 - 2) : Int32).toInt) (yl := 0) b rfl (by decide) dX12_gain_182 (by decide) (fun c12599 => ?_) (fun c12599 => ?_)
    · refine z_bipush (v := (-100)) b dX12_gain_198 (by decide) ?_
      exact z_iret (u := (si (su (su (sv (su (su (si S 22 (-1)) 29 992 0) 30 0 992) 0 0 1649317774848) 26 0 (-1)) 27 0 (-1)) 21 1)) b rfl dX12_gain_200 ⟨rfl, rfl⟩ rfl (by decide) (by decide)
    · exfalso; omega
  · exfalso; omega

set_option maxHeartbeats 4000000 in
set_option maxRecDepth 100000 in
theorem c_X11_gain_29 {l : Launch} {D : va_G} {cy : Nat → ClassId} {T0 tB tE : Nat} {a : Nat → Nat} {rw : Nat → Option Nat} (S : GS) (p0 : Int32) (p1 : Int32) (h_i_19 : fi S 19 = 0) (h_i_24 : fi S 24 = 0) (h_i_20 : fi S 20 = 0) (h_i_22 : fi S 22 = 0) (h_i_18 : fi S 18 = 0) (h_i_25 : fi S 25 = 0) (h_i_23 : fi S 23 = 0) (h_i_26 : fi S 26 = 0) (h_a_4_50 : ar S 4 50 = 0) (h_a_4_40 : ar S 4 40 = 3) (h_a_4_41 : ar S 4 41 = 3) (h_a_4_42 : ar S 4 42 = 3) (h_a_4_0 : ar S 4 0 = 0) (h_a_4_11 : ar S 4 11 = 0) (h_a_4_21 : ar S 4 21 = 0) (h_a_4_31 : ar S 4 31 = 0) (h_a_4_12 : ar S 4 12 = 0) (h_a_4_22 : ar S 4 22 = 0) (h_a_4_32 : ar S 4 32 = 0) (h_a_4_1 : ar S 4 1 = 0) (h_a_4_13 : ar S 4 13 = 0) (h_a_4_23 : ar S 4 23 = 0) (h_a_4_33 : ar S 4 33 = 0) (h_a_4_15 : ar S 4 15 = 0) (h_a_4_25 : ar S 4 25 = 0) (h_a_4_35 : ar S 4 35 = 0) (h_a_4_2 : ar S 4 2 = 0) (h_a_4_16 : ar S 4 16 = 0) (h_a_4_26 : ar S 4 26 = 0) (h_a_4_36 : ar S 4 36 = 0) (h_a_4_17 : ar S 4 17 = 0) (h_a_4_27 : ar S 4 27 = 0) (h_a_4_37 : ar S 4 37 = 0) (h_a_10_0 : ar S 10 0 = 0) (h_a_9_50 : ar S 9 50 = 0) (h_a_9_40 : ar S 9 40 = 3) (h_a_9_41 : ar S 9 41 = 3) (h_a_9_42 : ar S 9 42 = 3) (h_a_9_0 : ar S 9 0 = 0) (h_a_9_11 : ar S 9 11 = 0) (h_a_9_21 : ar S 9 21 = 0) (h_a_9_31 : ar S 9 31 = 0) (h_a_9_12 : ar S 9 12 = 0) (h_a_9_22 : ar S 9 22 = 0) (h_a_9_32 : ar S 9 32 = 0) (h_a_9_1 : ar S 9 1 = 0) (h_a_9_13 : ar S 9 13 = 0) (h_a_9_23 : ar S 9 23 = 0) (h_a_9_33 : ar S 9 33 = 0) (h_a_9_15 : ar S 9 15 = 0) (h_a_9_25 : ar S 9 25 = 0) (h_a_9_35 : ar S 9 35 = 0) (h_a_9_2 : ar S 9 2 = 0) (h_a_9_16 : ar S 9 16 = 0) (h_a_9_26 : ar S 9 26 = 0) (h_a_9_36 : ar S 9 36 = 0) (h_a_9_17 : ar S 9 17 = 0) (h_a_9_27 : ar S 9 27 = 0) (h_a_9_37 : ar S 9 37 = 0) (hr_p0 : 1 ≤ p0.toInt ∧ p0.toInt ≤ 3) (hr_p1 : 8 ≤ p1.toInt ∧ p1.toInt ≤ 2147483647) : Ct l D cy T0 tB tE yX11_gain cX11_gain 7 (some .int) 5 117 0 0 (cw cy tE a rw S) [.ref (a 0), .int 1, .int p0, .int 0, .int p1] (QI D (U := GS) (fun r u => (-100) = r ∧ (su (si (su (su (sv (sa (si (si (si S 24 1) 19 p0) 21 7) 13 (fil 1024 0 (ar (si (si (si S 24 1) 19 p0) 21 7) 13))) 2 0 4128768) 11 0 (-1)) 12 0 (-1)) 25 1) 13 978 1) = u) (cw cy tE a rw)) := by
  refine Ct.ofZ RX11 "gain" [(0, .ref (a 0)), (1, .int 1), (2, .int p0), (3, .int 0), (4, .int p1)] rfl rfl rfl rfl (Nat.le_of_ble_eq_true rfl) ?_
  intro p e R s m args below meth c A b
  refine z_iload_n b dX11_gain_0 rfl rfl ?_
  refine z_calli b (z_runS (As := [.int 1]) (st := []) b (c_X11_isPerson_4 S ) cf_X11_isPerson wm_X11_69 ws_X11_isPerson dX11_gain_1 rfl (Nat.le_of_ble_eq_true rfl) ⟨by decide, by decide, by decide, by decide⟩) (fun r12601 u12602 h12600 => ?_)
  obtain ⟨rfl, rfl⟩ := h12600
  refine z_if_eq_f (tgt := 26) b dX11_gain_4 (by decide) (by decide) ?_
  refine z_iload_n b dX11_gain_7 rfl rfl ?_
  refine z_calli b (z_runS (As := [.int p0]) (st := []) b (c_X11_areLaws_3 S p0 ⟨by omega, by omega⟩) cf_X11_areLaws wm_X11_181 ws_X11_areLaws dX11_gain_8 rfl (Nat.le_of_ble_eq_true rfl) ⟨by decide, by decide, by decide, by decide⟩) (fun r12604 u12605 h12603 => ?_)
  obtain ⟨rfl, rfl⟩ := h12603
  refine z_if_eq_f (tgt := 26) b dX11_gain_11 (by decide) (by decide) ?_
  refine z_iload_n b dX11_gain_14 rfl rfl ?_
  refine z_calli b (z_runS (As := [.int 0]) (st := []) b (c_X11_isDepth_2 S ) cf_X11_isDepth wm_X11_203 ws_X11_isDepth dX11_gain_15 rfl (Nat.le_of_ble_eq_true rfl) ⟨by decide, by decide, by decide, by decide⟩) (fun r12607 u12608 h12606 => ?_)
  obtain ⟨rfl, rfl⟩ := h12606
  refine z_if_eq_f (tgt := 26) b dX11_gain_18 (by decide) (by decide) ?_
  refine z_iload b dX11_gain_21 rfl ?_
  refine y_if_ge (tgt := 29) (xl := p1.toInt) b rfl dX11_gain_23 (by decide) (fun c12609 => ?_) (fun c12609 => ?_)
  · refine z_aload_n b dX11_gain_29 rfl rfl ?_
    refine z_get (q0 := 0) (k9 := 6) (v := .ref (a 25)) b (cw_0 cy tE a rw S) rfl in_X11 (by decide) wf_X11_52 rfl dX11_gain_30 ?_
    refine z_iload_n b dX11_gain_33 rfl rfl ?_
    refine z_iload_n b dX11_gain_34 rfl rfl ?_
    refine z_bipush (v := 7) b dX11_gain_35 (by decide) ?_
    refine z_iconst (v := 0) b dX11_gain_37 (by decide) ?_
    refine z_callv b (z_runV (q0 := 25) (As := [.int p0, .int 0, .int 7, .int 0]) (st := []) b (c_X8_begin S p0 h_i_19 h_i_24 h_i_20 h_i_22 h_i_18 h_i_25 h_i_23 h_i_26 h_a_4_50 h_a_4_40 h_a_4_41 h_a_4_42 h_a_4_0 h_a_4_11 h_a_4_21 h_a_4_31 h_a_4_12 h_a_4_22 h_a_4_32 h_a_4_1 h_a_4_13 h_a_4_23 h_a_4_33 h_a_4_15 h_a_4_25 h_a_4_35 h_a_4_2 h_a_4_16 h_a_4_26 h_a_4_36 h_a_4_17 h_a_4_27 h_a_4_37 h_a_10_0 ⟨by omega, by omega⟩) cf_X8_begin (cw_25 cy tE a rw S) rfl wm_X11_206 wi_X8_begin ws_X8_begin dX11_gain_38 rfl (Nat.le_of_ble_eq_true rfl) ⟨by decide, by decide, by decide, by decide⟩) (fun u12612 h12610 => ?_)
    obtain rfl := h12610
    refine z_aload_n b dX11_gain_41 rfl rfl ?_
    refine z_get (q0 := 0) (k9 := 6) (v := .ref (a 25)) b (cw_0 cy tE a rw (su (si (su (su (sv (sa (si (si (si S 24 1) 19 p0) 21 7) 13 (fil 1024 0 (ar (si (si (si S 24 1) 19 p0) 21 7) 13))) 2 0 4128768) 11 0 (-1)) 12 0 (-1)) 25 1) 13 978 1)) rfl in_X11 (by decide) wf_X11_52 rfl dX11_gain_42 ?_
    refine z_callv b (z_runV (q0 := 25) (As := []) (st := []) b (c_X8_finish (su (si (su (su (sv (sa (si (si (si S 24 1) 19 p0) 21 7) 13 (fil 1024 0 (ar (si (si (si S 24 1) 19 p0) 21 7) 13))) 2 0 4128768) 11 0 (-1)) 12 0 (-1)) 25 1) 13 978 1) h_i_26 h_i_23 rfl h_a_10_0 h_i_20) cf_X8_finish (cw_25 cy tE a rw (su (si (su (su (sv (sa (si (si (si S 24 1) 19 p0) 21 7) 13 (fil 1024 0 (ar (si (si (si S 24 1) 19 p0) 21 7) 13))) 2 0 4128768) 11 0 (-1)) 12 0 (-1)) 25 1) 13 978 1)) rfl wm_X11_232 wi_X8_finish ws_X8_finish dX11_gain_45 rfl (Nat.le_of_ble_eq_true rfl) ⟨by decide, by decide, by decide, by decide⟩) (fun u12615 h12613 => ?_)
    obtain rfl := h12613
    refine z_aload_n b dX11_gain_48 rfl rfl ?_
    refine z_get (q0 := 0) (k9 := 6) (v := .ref (a 25)) b (cw_0 cy tE a rw (su (si (su (su (sv (sa (si (si (si S 24 1) 19 p0) 21 7) 13 (fil 1024 0 (ar (si (si (si S 24 1) 19 p0) 21 7) 13))) 2 0 4128768) 11 0 (-1)) 12 0 (-1)) 25 1) 13 978 1)) rfl in_X11 (by decide) wf_X11_52 rfl dX11_gain_49 ?_
    refine z_get (q0 := 25) (k9 := 18) (v := .int (fi (su (si (su (su (sv (sa (si (si (si S 24 1) 19 p0) 21 7) 13 (fil 1024 0 (ar (si (si (si S 24 1) 19 p0) 21 7) 13))) 2 0 4128768) 11 0 (-1)) 12 0 (-1)) 25 1) 13 978 1) 26)) b (cw_25 cy tE a rw (su (si (su (su (sv (sa (si (si (si S 24 1) 19 p0) 21 7) 13 (fil 1024 0 (ar (si (si (si S 24 1) 19 p0) 21 7) 13))) 2 0 4128768) 11 0 (-1)) 12 0 (-1)) 25 1) 13 978 1)) rfl in_X8 (by decide) wf_X11_214 rfl dX11_gain_52 ?_
    refine z_eqi h_i_26 ?_
    refine z_if_eq_t (tgt := 61) b dX11_gain_55 (by decide) (by decide) ?_
    refine z_aload_n b dX11_gain_61 rfl rfl ?_
    refine z_get (q0 := 0) (k9 := 6) (v := .ref (a 25)) b (cw_0 cy tE a rw (su (si (su (su (sv (sa (si (si (si S 24 1) 19 p0) 21 7) 13 (fil 1024 0 (ar (si (si (si S 24 1) 19 p0) 21 7) 13))) 2 0 4128768) 11 0 (-1)) 12 0 (-1)) 25 1) 13 978 1)) rfl in_X11 (by decide) wf_X11_52 rfl dX11_gain_62 ?_
    refine z_iload_n b dX11_gain_65 rfl rfl ?_
    refine z_calli b (z_runV (q0 := 25) (As := [.int 1]) (st := []) b (c_X8_richest_2 (su (si (su (su (sv (sa (si (si (si S 24 1) 19 p0) 21 7) 13 (fil 1024 0 (ar (si (si (si S 24 1) 19 p0) 21 7) 13))) 2 0 4128768) 11 0 (-1)) 12 0 (-1)) 25 1) 13 978 1) rfl rfl h_a_9_50 h_a_9_40 h_a_9_41 h_a_9_42 h_a_9_0 h_a_9_11 h_a_9_21 h_a_9_31 h_a_9_12 h_a_9_22 h_a_9_32 h_a_9_1 h_a_9_13 h_a_9_23 h_a_9_33 h_a_9_15 h_a_9_25 h_a_9_35 h_a_9_2 h_a_9_16 h_a_9_26 h_a_9_36 h_a_9_17 h_a_9_27 h_a_9_37) cf_X8_richest (cw_25 cy tE a rw (su (si (su (su (sv (sa (si (si (si S 24 1) 19 p0) 21 7) 13 (fil 1024 0 (ar (si (si (si S 24 1) 19 p0) 21 7) 13))) 2 0 4128768) 11 0 (-1)) 12 0 (-1)) 25 1) 13 978 1)) rfl wm_X11_238 wi_X8_richest ws_X8_richest dX11_gain_66 rfl (Nat.le_of_ble_eq_true rfl) ⟨by decide, by decide, by decide, by decide⟩) (fun r12617 u12618 h12616 => ?_)
    obtain ⟨rfl, rfl⟩ := h12616
    refine z_istore (lv' := [(5, .int 0), (0, .ref (a 0)), (1, .int 1), (2, .int p0), (3, .int 0), (4, .int p1)]) b dX11_gain_69 (by decide) rfl ?_
    refine z_iload b dX11_gain_71 rfl ?_
    refine y_if_ne (tgt := 87) (xl := p1.toInt) b rfl dX11_gain_73 (by decide) (fun c12619 => ?_) (fun c12619 => ?_)
    · refine z_iload b dX11_gain_87 rfl ?_
      refine z_iconst (v := 1) b dX11_gain_89 (by decide) ?_
      refine y_icmp_ne (tgt := 103) (xl := p1.toInt) (yl := 1) b rfl (by decide) dX11_gain_90 (by decide) (fun c12620 => ?_) (fun c12620 => ?_)
      · refine z_aload_n b dX11_gain_103 rfl rfl ?_
        refine z_get (q0 := 0) (k9 := 6) (v := .ref (a 25)) b (cw_0 cy tE a rw (su (si (su (su (sv (sa (si (si (si S 24 1) 19 p0) 21 7) 13 (fil 1024 0 (ar (si (si (si S 24 1) 19 p0) 21 7) 13))) 2 0 4128768) 11 0 (-1)) 12 0 (-1)) 25 1) 13 978 1)) rfl in_X11 (by decide) wf_X11_52 rfl dX11_gain_104 ?_
        refine z_iload b dX11_gain_107 rfl ?_
        refine z_iload b dX11_gain_109 rfl ?_
        refine z_iconst (v := 2) b dX11_gain_111 (by decide) ?_
        refine z_isub b dX11_gain_112 rfl ?_
        have f12621 : ((p1 - 2) : Int32).toInt = p1.toInt + (-2) := zisub (k := 2) (by decide) (by omega) (by omega)
        refine z_calli b (z_runV (q0 := 25) (As := [.int 0, .int (p1 - 2)]) (st := []) b (c_X8_code_2 (su (si (su (su (sv (sa (si (si (si S 24 1) 19 p0) 21 7) 13 (fil 1024 0 (ar (si (si (si S 24 1) 19 p0) 21 7) 13))) 2 0 4128768) 11 0 (-1)) 12 0 (-1)) 25 1) 13 978 1) (p1 - 2) rfl h_a_10_0 ⟨by omega, by omega⟩) cf_X8_code (cw_25 cy tE a rw (su (si (su (su (sv (sa (si (si (si S 24 1) 19 p0) 21 7) 13 (fil 1024 0 (ar (si (si (si S 24 1) 19 p0) 21 7) 13))) 2 0 4128768) 11 0 (-1)) 12 0 (-1)) 25 1) 13 978 1)) rfl wm_X11_219 wi_X8_code ws_X8_code dX11_gain_113 rfl (Nat.le_of_ble_eq_true rfl) ⟨by decide, by decide, by decide, by decide⟩) (fun r12623 u12624 h12622 => ?_)
        obtain ⟨rfl, rfl⟩ := h12622
        refine z_istore (lv' := [(6, .int (-1)), (5, .int 0), (0, .ref (a 0)), (1, .int 1), (2, .int p0), (3, .int 0), (4, .int p1)]) b dX11_gain_116 (by decide) rfl ?_
        refine z_iload b dX11_gain_118 rfl ?_
        refine z_iconst (v := (-1)) b dX11_gain_120 (by decide) ?_
        refine z_icmp_ne_f (tgt := 129) b dX11_gain_121 (by decide) (by decide) ?_
        refine z_bipush (v := (-100)) b dX11_gain_124 (by decide) ?_
        refine z_goto (tgt := 131) b dX11_gain_126 (by decide) ?_
        exact z_iret (u := (su (si (su (su (sv (sa (si (si (si S 24 1) 19 p0) 21 7) 13 (fil 1024 0 (ar (si (si (si S 24 1) 19 p0) 21 7) 13))) 2 0 4128768) 11 0 (-1)) 12 0 (-1)) 25 1) 13 978 1)) b rfl dX11_gain_131 ⟨rfl, rfl⟩ rfl (by decide) (by decide)
      · exfalso; omega
    · exfalso; omega
  · exfalso; omega

set_option maxHeartbeats 4000000 in
set_option maxRecDepth 100000 in
theorem c_X12_gain_29 {l : Launch} {D : va_G} {cy : Nat → ClassId} {T0 tB tE : Nat} {a : Nat → Nat} (S : GS) (p0 : Int32) (p1 : Int32)  (hr_p0 : 1 ≤ p0.toInt ∧ p0.toInt ≤ 3) (hr_p1 : 8 ≤ p1.toInt ∧ p1.toInt ≤ 2147483647) : Ct l D cy T0 tB tE yX12_gain cX12_gain 9 (some .int) 2 44 0 0 (mw cy a S) [.ref (a 0), .int 1, .int p0, .int 0, .int p1] (QI D (U := GS) (fun r u => (-100) = r ∧ S = u) (mw cy a)) := by
  refine Ct.ofZ RX12 "gain" [(0, .ref (a 0)), (1, .int 1), (2, .int p0), (3, .int 0), (4, .int p1)] rfl rfl rfl rfl (Nat.le_of_ble_eq_true rfl) ?_
  intro p e R s m args below meth c A b
  refine z_iload_n b dX12_gain_0 rfl rfl ?_
  refine z_calli b (z_runS (As := [.int 1]) (st := []) b (c_X12_isOne_4 S ) cf_X12_isOne wm_X12_170 ws_X12_isOne dX12_gain_1 rfl (Nat.le_of_ble_eq_true rfl) ⟨by decide, by decide, by decide, by decide⟩) (fun r12626 u12627 h12625 => ?_)
  obtain ⟨rfl, rfl⟩ := h12625
  refine z_if_eq_f (tgt := 27) b dX12_gain_4 (by decide) (by decide) ?_
  refine z_aload_n b dX12_gain_7 rfl rfl ?_
  refine z_iload_n b dX12_gain_8 rfl rfl ?_
  refine z_iload_n b dX12_gain_9 rfl rfl ?_
  refine z_calli b (z_runV (q0 := 0) (As := [.int p0, .int 0]) (st := []) b (c_X12_canSearch_4 S p0 ⟨by omega, by omega⟩) cf_X12_canSearch (mw_0 cy a S) rfl wm_X12_433 wi_X12_canSearch ws_X12_canSearch dX12_gain_10 rfl (Nat.le_of_ble_eq_true rfl) ⟨by decide, by decide, by decide, by decide⟩) (fun r12629 u12630 h12628 => ?_)
  obtain ⟨rfl, rfl⟩ := h12628
  refine z_if_eq_f (tgt := 27) b dX12_gain_13 (by decide) (by decide) ?_
  refine z_iload b dX12_gain_16 rfl ?_
  refine z_iconst (v := 0) b dX12_gain_18 (by decide) ?_
  refine z_bipush (v := 7) b dX12_gain_19 (by decide) ?_
  refine z_calli b (z_runS (As := [.int p1, .int 0, .int 7]) (st := []) b (c_X12_isIn_14 S p1 ⟨by omega, by omega⟩) cf_X12_isIn wm_X12_1 ws_X12_isIn dX12_gain_21 rfl (Nat.le_of_ble_eq_true rfl) ⟨by decide, by decide, by decide, by decide⟩) (fun r12632 u12633 h12631 => ?_)
  obtain ⟨rfl, rfl⟩ := h12631
  refine z_if_ne_f (tgt := 30) b dX12_gain_24 (by decide) (by decide) ?_
  refine z_bipush (v := (-100)) b dX12_gain_27 (by decide) ?_
  exact z_iret (u := S) b rfl dX12_gain_29 ⟨rfl, rfl⟩ rfl (by decide) (by decide)

set_option maxHeartbeats 4000000 in
set_option maxRecDepth 100000 in
theorem c_X11_gain_30 {l : Launch} {D : va_G} {cy : Nat → ClassId} {T0 tB tE : Nat} {a : Nat → Nat} {rw : Nat → Option Nat} (S : GS) (p0 : Int32) (p1 : Int32) (p2 : Int32)  (hr_p0 : 1 ≤ p0.toInt ∧ p0.toInt ≤ 3) (hr_p1 : 1 ≤ p1.toInt ∧ p1.toInt ≤ 6) (hr_p2 : (-2147483648) ≤ p2.toInt ∧ p2.toInt ≤ (-1)) : Ct l D cy T0 tB tE yX11_gain cX11_gain 7 (some .int) 1 20 0 0 (cw cy tE a rw S) [.ref (a 0), .int 1, .int p0, .int p1, .int p2] (QI D (U := GS) (fun r u => (-100) = r ∧ S = u) (cw cy tE a rw)) := by
  refine Ct.ofZ RX11 "gain" [(0, .ref (a 0)), (1, .int 1), (2, .int p0), (3, .int p1), (4, .int p2)] rfl rfl rfl rfl (Nat.le_of_ble_eq_true rfl) ?_
  intro p e R s m args below meth c A b
  refine z_iload_n b dX11_gain_0 rfl rfl ?_
  refine z_calli b (z_runS (As := [.int 1]) (st := []) b (c_X11_isPerson_4 S ) cf_X11_isPerson wm_X11_69 ws_X11_isPerson dX11_gain_1 rfl (Nat.le_of_ble_eq_true rfl) ⟨by decide, by decide, by decide, by decide⟩) (fun r12635 u12636 h12634 => ?_)
  obtain ⟨rfl, rfl⟩ := h12634
  refine z_if_eq_f (tgt := 26) b dX11_gain_4 (by decide) (by decide) ?_
  refine z_iload_n b dX11_gain_7 rfl rfl ?_
  refine z_calli b (z_runS (As := [.int p0]) (st := []) b (c_X11_areLaws_3 S p0 ⟨by omega, by omega⟩) cf_X11_areLaws wm_X11_181 ws_X11_areLaws dX11_gain_8 rfl (Nat.le_of_ble_eq_true rfl) ⟨by decide, by decide, by decide, by decide⟩) (fun r12638 u12639 h12637 => ?_)
  obtain ⟨rfl, rfl⟩ := h12637
  refine z_if_eq_f (tgt := 26) b dX11_gain_11 (by decide) (by decide) ?_
  refine z_iload_n b dX11_gain_14 rfl rfl ?_
  refine z_calli b (z_runS (As := [.int p1]) (st := []) b (c_X11_isDepth_3 S p1 ⟨by omega, by omega⟩) cf_X11_isDepth wm_X11_203 ws_X11_isDepth dX11_gain_15 rfl (Nat.le_of_ble_eq_true rfl) ⟨by decide, by decide, by decide, by decide⟩) (fun r12641 u12642 h12640 => ?_)
  obtain ⟨rfl, rfl⟩ := h12640
  refine z_if_eq_f (tgt := 26) b dX11_gain_18 (by decide) (by decide) ?_
  refine z_iload b dX11_gain_21 rfl ?_
  refine y_if_ge (tgt := 29) (xl := p2.toInt) b rfl dX11_gain_23 (by decide) (fun c12643 => ?_) (fun c12643 => ?_)
  · exfalso; omega
  · refine z_bipush (v := (-100)) b dX11_gain_26 (by decide) ?_
    exact z_iret (u := S) b rfl dX11_gain_28 ⟨rfl, rfl⟩ rfl (by decide) (by decide)

set_option maxHeartbeats 4000000 in
set_option maxRecDepth 100000 in
theorem c_X12_gain_30 {l : Launch} {D : va_G} {cy : Nat → ClassId} {T0 tB tE : Nat} {a : Nat → Nat} (S : GS) (p0 : Int32) (p1 : Int32) (p2 : Int32)  (hr_p0 : 1 ≤ p0.toInt ∧ p0.toInt ≤ 3) (hr_p1 : 1 ≤ p1.toInt ∧ p1.toInt ≤ 6) (hr_p2 : (-2147483648) ≤ p2.toInt ∧ p2.toInt ≤ (-1)) : Ct l D cy T0 tB tE yX12_gain cX12_gain 9 (some .int) 2 44 0 0 (mw cy a S) [.ref (a 0), .int 1, .int p0, .int p1, .int p2] (QI D (U := GS) (fun r u => (-100) = r ∧ S = u) (mw cy a)) := by
  refine Ct.ofZ RX12 "gain" [(0, .ref (a 0)), (1, .int 1), (2, .int p0), (3, .int p1), (4, .int p2)] rfl rfl rfl rfl (Nat.le_of_ble_eq_true rfl) ?_
  intro p e R s m args below meth c A b
  refine z_iload_n b dX12_gain_0 rfl rfl ?_
  refine z_calli b (z_runS (As := [.int 1]) (st := []) b (c_X12_isOne_4 S ) cf_X12_isOne wm_X12_170 ws_X12_isOne dX12_gain_1 rfl (Nat.le_of_ble_eq_true rfl) ⟨by decide, by decide, by decide, by decide⟩) (fun r12645 u12646 h12644 => ?_)
  obtain ⟨rfl, rfl⟩ := h12644
  refine z_if_eq_f (tgt := 27) b dX12_gain_4 (by decide) (by decide) ?_
  refine z_aload_n b dX12_gain_7 rfl rfl ?_
  refine z_iload_n b dX12_gain_8 rfl rfl ?_
  refine z_iload_n b dX12_gain_9 rfl rfl ?_
  refine z_calli b (z_runV (q0 := 0) (As := [.int p0, .int p1]) (st := []) b (c_X12_canSearch_5 S p0 p1 ⟨by omega, by omega⟩ ⟨by omega, by omega⟩) cf_X12_canSearch (mw_0 cy a S) rfl wm_X12_433 wi_X12_canSearch ws_X12_canSearch dX12_gain_10 rfl (Nat.le_of_ble_eq_true rfl) ⟨by decide, by decide, by decide, by decide⟩) (fun r12648 u12649 h12647 => ?_)
  obtain ⟨rfl, rfl⟩ := h12647
  refine z_if_eq_f (tgt := 27) b dX12_gain_13 (by decide) (by decide) ?_
  refine z_iload b dX12_gain_16 rfl ?_
  refine z_iconst (v := 0) b dX12_gain_18 (by decide) ?_
  refine z_bipush (v := 7) b dX12_gain_19 (by decide) ?_
  refine z_calli b (z_runS (As := [.int p2, .int 0, .int 7]) (st := []) b (c_X12_isIn_12 S p2 ⟨by omega, by omega⟩) cf_X12_isIn wm_X12_1 ws_X12_isIn dX12_gain_21 rfl (Nat.le_of_ble_eq_true rfl) ⟨by decide, by decide, by decide, by decide⟩) (fun r12651 u12652 h12650 => ?_)
  obtain ⟨rfl, rfl⟩ := h12650
  refine z_if_ne_f (tgt := 30) b dX12_gain_24 (by decide) (by decide) ?_
  refine z_bipush (v := (-100)) b dX12_gain_27 (by decide) ?_
  exact z_iret (u := S) b rfl dX12_gain_29 ⟨rfl, rfl⟩ rfl (by decide) (by decide)

set_option maxHeartbeats 4000000 in
set_option maxRecDepth 100000 in
theorem c_X11_gain_31 {l : Launch} {D : va_G} {cy : Nat → ClassId} {T0 tB tE : Nat} {a : Nat → Nat} {rw : Nat → Option Nat} (S : GS) (p0 : Int32) (p1 : Int32) (h_i_19 : fi S 19 = 0) (h_i_24 : fi S 24 = 0) (h_i_22 : fi S 22 = 0) (h_i_18 : fi S 18 = 0) (h_i_25 : fi S 25 = 0) (h_i_23 : fi S 23 = 0) (h_i_26 : fi S 26 = 0) (h_a_4_50 : ar S 4 50 = 0) (h_a_4_40 : ar S 4 40 = 3) (h_a_4_41 : ar S 4 41 = 3) (h_a_4_42 : ar S 4 42 = 3) (h_a_4_0 : ar S 4 0 = 0) (h_a_4_11 : ar S 4 11 = 0) (h_a_4_21 : ar S 4 21 = 0) (h_a_4_31 : ar S 4 31 = 0) (h_a_4_12 : ar S 4 12 = 0) (h_a_4_22 : ar S 4 22 = 0) (h_a_4_32 : ar S 4 32 = 0) (h_a_4_1 : ar S 4 1 = 0) (h_a_4_13 : ar S 4 13 = 0) (h_a_4_23 : ar S 4 23 = 0) (h_a_4_33 : ar S 4 33 = 0) (h_a_4_15 : ar S 4 15 = 0) (h_a_4_25 : ar S 4 25 = 0) (h_a_4_35 : ar S 4 35 = 0) (h_a_4_2 : ar S 4 2 = 0) (h_a_4_16 : ar S 4 16 = 0) (h_a_4_26 : ar S 4 26 = 0) (h_a_4_36 : ar S 4 36 = 0) (h_a_4_17 : ar S 4 17 = 0) (h_a_4_27 : ar S 4 27 = 0) (h_a_4_37 : ar S 4 37 = 0) (h_a_10_0 : ar S 10 0 = 0) (h_a_9_50 : ar S 9 50 = 0) (h_a_9_40 : ar S 9 40 = 3) (h_a_9_41 : ar S 9 41 = 3) (h_a_9_42 : ar S 9 42 = 3) (h_a_9_0 : ar S 9 0 = 0) (h_a_9_11 : ar S 9 11 = 0) (h_a_9_21 : ar S 9 21 = 0) (h_a_9_31 : ar S 9 31 = 0) (h_a_9_12 : ar S 9 12 = 0) (h_a_9_22 : ar S 9 22 = 0) (h_a_9_32 : ar S 9 32 = 0) (h_a_9_1 : ar S 9 1 = 0) (h_a_9_13 : ar S 9 13 = 0) (h_a_9_23 : ar S 9 23 = 0) (h_a_9_33 : ar S 9 33 = 0) (h_a_9_15 : ar S 9 15 = 0) (h_a_9_25 : ar S 9 25 = 0) (h_a_9_35 : ar S 9 35 = 0) (h_a_9_2 : ar S 9 2 = 0) (h_a_9_16 : ar S 9 16 = 0) (h_a_9_26 : ar S 9 26 = 0) (h_a_9_36 : ar S 9 36 = 0) (h_a_9_17 : ar S 9 17 = 0) (h_a_9_27 : ar S 9 27 = 0) (h_a_9_37 : ar S 9 37 = 0) (hr_p0 : 1 ≤ p0.toInt ∧ p0.toInt ≤ 3) (hr_p1 : 1 ≤ p1.toInt ∧ p1.toInt ≤ 6) : Ct l D cy T0 tB tE yX11_gain cX11_gain 7 (some .int) 5 117 0 0 (cw cy tE a rw S) [.ref (a 0), .int 1, .int p0, .int p1, .int 0] (QI D (U := GS) (fun r u => (((((0 < ((fi (su (si (su (su (sv (sa (si (si (si (si S 24 1) 19 p0) 20 p1) 21 7) 13 (fil 1024 0 (ar (si (si (si (si S 24 1) 19 p0) 20 p1) 21 7) 13))) 2 0 4128768) 11 0 (-1)) 12 0 (-1)) 25 1) 13 978 1) 20) : Int32).toInt)))) ∧ 0 = r ∧ (si (su (si (su (su (sv (sa (si (si (si (si S 24 1) 19 p0) 20 p1) 21 7) 13 (fil 1024 0 (ar (si (si (si (si S 24 1) 19 p0) 20 p1) 21 7) 13))) 2 0 4128768) 11 0 (-1)) 12 0 (-1)) 25 1) 13 978 1) 23 1) = u) ∨ (((((((fi (su (si (su (su (sv (sa (si (si (si (si S 24 1) 19 p0) 20 p1) 21 7) 13 (fil 1024 0 (ar (si (si (si (si S 24 1) 19 p0) 20 p1) 21 7) 13))) 2 0 4128768) 11 0 (-1)) 12 0 (-1)) 25 1) 13 978 1) 20) : Int32).toInt ≤ 0)))) ∧ 0 = r ∧ (su (si (su (su (sv (sa (si (si (si (si S 24 1) 19 p0) 20 p1) 21 7) 13 (fil 1024 0 (ar (si (si (si (si S 24 1) 19 p0) 20 p1) 21 7) 13))) 2 0 4128768) 11 0 (-1)) 12 0 (-1)) 25 1) 13 978 1) = u)) (cw cy tE a rw)) := by
  refine Ct.ofZ RX11 "gain" [(0, .ref (a 0)), (1, .int 1), (2, .int p0), (3, .int p1), (4, .int 0)] rfl rfl rfl rfl (Nat.le_of_ble_eq_true rfl) ?_
  intro p e R s m args below meth c A b
  refine z_iload_n b dX11_gain_0 rfl rfl ?_
  refine z_calli b (z_runS (As := [.int 1]) (st := []) b (c_X11_isPerson_4 S ) cf_X11_isPerson wm_X11_69 ws_X11_isPerson dX11_gain_1 rfl (Nat.le_of_ble_eq_true rfl) ⟨by decide, by decide, by decide, by decide⟩) (fun r12654 u12655 h12653 => ?_)
  obtain ⟨rfl, rfl⟩ := h12653
  refine z_if_eq_f (tgt := 26) b dX11_gain_4 (by decide) (by decide) ?_
  refine z_iload_n b dX11_gain_7 rfl rfl ?_
  refine z_calli b (z_runS (As := [.int p0]) (st := []) b (c_X11_areLaws_3 S p0 ⟨by omega, by omega⟩) cf_X11_areLaws wm_X11_181 ws_X11_areLaws dX11_gain_8 rfl (Nat.le_of_ble_eq_true rfl) ⟨by decide, by decide, by decide, by decide⟩) (fun r12657 u12658 h12656 => ?_)
  obtain ⟨rfl, rfl⟩ := h12656
  refine z_if_eq_f (tgt := 26) b dX11_gain_11 (by decide) (by decide) ?_
  refine z_iload_n b dX11_gain_14 rfl rfl ?_
  refine z_calli b (z_runS (As := [.int p1]) (st := []) b (c_X11_isDepth_3 S p1 ⟨by omega, by omega⟩) cf_X11_isDepth wm_X11_203 ws_X11_isDepth dX11_gain_15 rfl (Nat.le_of_ble_eq_true rfl) ⟨by decide, by decide, by decide, by decide⟩) (fun r12660 u12661 h12659 => ?_)
  obtain ⟨rfl, rfl⟩ := h12659
  refine z_if_eq_f (tgt := 26) b dX11_gain_18 (by decide) (by decide) ?_
  refine z_iload b dX11_gain_21 rfl ?_
  refine z_if_ge_t (tgt := 29) b dX11_gain_23 (by decide) (by decide) ?_
  refine z_aload_n b dX11_gain_29 rfl rfl ?_
  refine z_get (q0 := 0) (k9 := 6) (v := .ref (a 25)) b (cw_0 cy tE a rw S) rfl in_X11 (by decide) wf_X11_52 rfl dX11_gain_30 ?_
  refine z_iload_n b dX11_gain_33 rfl rfl ?_
  refine z_iload_n b dX11_gain_34 rfl rfl ?_
  refine z_bipush (v := 7) b dX11_gain_35 (by decide) ?_
  refine z_iconst (v := 0) b dX11_gain_37 (by decide) ?_
  refine z_callv b (z_runV (q0 := 25) (As := [.int p0, .int p1, .int 7, .int 0]) (st := []) b (c_X8_begin_2 S p0 p1 h_i_19 h_i_24 h_i_22 h_i_18 h_i_25 h_i_23 h_i_26 h_a_4_50 h_a_4_40 h_a_4_41 h_a_4_42 h_a_4_0 h_a_4_11 h_a_4_21 h_a_4_31 h_a_4_12 h_a_4_22 h_a_4_32 h_a_4_1 h_a_4_13 h_a_4_23 h_a_4_33 h_a_4_15 h_a_4_25 h_a_4_35 h_a_4_2 h_a_4_16 h_a_4_26 h_a_4_36 h_a_4_17 h_a_4_27 h_a_4_37 h_a_10_0 ⟨by omega, by omega⟩ ⟨by omega, by omega⟩) cf_X8_begin (cw_25 cy tE a rw S) rfl wm_X11_206 wi_X8_begin ws_X8_begin dX11_gain_38 rfl (Nat.le_of_ble_eq_true rfl) ⟨by decide, by decide, by decide, by decide⟩) (fun u12664 h12662 => ?_)
  obtain rfl := h12662
  refine z_aload_n b dX11_gain_41 rfl rfl ?_
  refine z_get (q0 := 0) (k9 := 6) (v := .ref (a 25)) b (cw_0 cy tE a rw (su (si (su (su (sv (sa (si (si (si (si S 24 1) 19 p0) 20 p1) 21 7) 13 (fil 1024 0 (ar (si (si (si (si S 24 1) 19 p0) 20 p1) 21 7) 13))) 2 0 4128768) 11 0 (-1)) 12 0 (-1)) 25 1) 13 978 1)) rfl in_X11 (by decide) wf_X11_52 rfl dX11_gain_42 ?_
  refine z_callv b (z_runV (q0 := 25) (As := []) (st := []) b (c_X8_finish_2 (su (si (su (su (sv (sa (si (si (si (si S 24 1) 19 p0) 20 p1) 21 7) 13 (fil 1024 0 (ar (si (si (si (si S 24 1) 19 p0) 20 p1) 21 7) 13))) 2 0 4128768) 11 0 (-1)) 12 0 (-1)) 25 1) 13 978 1) h_i_26 h_i_23 rfl h_a_10_0 rfl h_a_9_50 h_a_9_40 h_a_9_41 h_a_9_42 h_a_9_0 h_a_9_11 h_a_9_21 h_a_9_31 h_a_9_12 h_a_9_22 h_a_9_32 h_a_9_1 h_a_9_13 h_a_9_23 h_a_9_33 h_a_9_15 h_a_9_25 h_a_9_35 h_a_9_2 h_a_9_16 h_a_9_26 h_a_9_36 h_a_9_17 h_a_9_27 h_a_9_37 h_i_18) cf_X8_finish (cw_25 cy tE a rw (su (si (su (su (sv (sa (si (si (si (si S 24 1) 19 p0) 20 p1) 21 7) 13 (fil 1024 0 (ar (si (si (si (si S 24 1) 19 p0) 20 p1) 21 7) 13))) 2 0 4128768) 11 0 (-1)) 12 0 (-1)) 25 1) 13 978 1)) rfl wm_X11_232 wi_X8_finish ws_X8_finish dX11_gain_45 rfl (Nat.le_of_ble_eq_true rfl) ⟨by decide, by decide, by decide, by decide⟩) (fun u12667 h12665 => ?_)
  rcases h12665 with ⟨c12668, rfl⟩ | ⟨c12669, rfl⟩
  · refine z_aload_n b dX11_gain_48 rfl rfl ?_
    refine z_get (q0 := 0) (k9 := 6) (v := .ref (a 25)) b (cw_0 cy tE a rw (si (su (si (su (su (sv (sa (si (si (si (si S 24 1) 19 p0) 20 p1) 21 7) 13 (fil 1024 0 (ar (si (si (si (si S 24 1) 19 p0) 20 p1) 21 7) 13))) 2 0 4128768) 11 0 (-1)) 12 0 (-1)) 25 1) 13 978 1) 23 1)) rfl in_X11 (by decide) wf_X11_52 rfl dX11_gain_49 ?_
    refine z_get (q0 := 25) (k9 := 18) (v := .int (fi (si (su (si (su (su (sv (sa (si (si (si (si S 24 1) 19 p0) 20 p1) 21 7) 13 (fil 1024 0 (ar (si (si (si (si S 24 1) 19 p0) 20 p1) 21 7) 13))) 2 0 4128768) 11 0 (-1)) 12 0 (-1)) 25 1) 13 978 1) 23 1) 26)) b (cw_25 cy tE a rw (si (su (si (su (su (sv (sa (si (si (si (si S 24 1) 19 p0) 20 p1) 21 7) 13 (fil 1024 0 (ar (si (si (si (si S 24 1) 19 p0) 20 p1) 21 7) 13))) 2 0 4128768) 11 0 (-1)) 12 0 (-1)) 25 1) 13 978 1) 23 1)) rfl in_X8 (by decide) wf_X11_214 rfl dX11_gain_52 ?_
    refine z_eqi h_i_26 ?_
    refine z_if_eq_t (tgt := 61) b dX11_gain_55 (by decide) (by decide) ?_
    refine z_aload_n b dX11_gain_61 rfl rfl ?_
    refine z_get (q0 := 0) (k9 := 6) (v := .ref (a 25)) b (cw_0 cy tE a rw (si (su (si (su (su (sv (sa (si (si (si (si S 24 1) 19 p0) 20 p1) 21 7) 13 (fil 1024 0 (ar (si (si (si (si S 24 1) 19 p0) 20 p1) 21 7) 13))) 2 0 4128768) 11 0 (-1)) 12 0 (-1)) 25 1) 13 978 1) 23 1)) rfl in_X11 (by decide) wf_X11_52 rfl dX11_gain_62 ?_
    refine z_iload_n b dX11_gain_65 rfl rfl ?_
    refine z_calli b (z_runV (q0 := 25) (As := [.int 1]) (st := []) b (c_X8_richest_2 (si (su (si (su (su (sv (sa (si (si (si (si S 24 1) 19 p0) 20 p1) 21 7) 13 (fil 1024 0 (ar (si (si (si (si S 24 1) 19 p0) 20 p1) 21 7) 13))) 2 0 4128768) 11 0 (-1)) 12 0 (-1)) 25 1) 13 978 1) 23 1) rfl rfl h_a_9_50 h_a_9_40 h_a_9_41 h_a_9_42 h_a_9_0 h_a_9_11 h_a_9_21 h_a_9_31 h_a_9_12 h_a_9_22 h_a_9_32 h_a_9_1 h_a_9_13 h_a_9_23 h_a_9_33 h_a_9_15 h_a_9_25 h_a_9_35 h_a_9_2 h_a_9_16 h_a_9_26 h_a_9_36 h_a_9_17 h_a_9_27 h_a_9_37) cf_X8_richest (cw_25 cy tE a rw (si (su (si (su (su (sv (sa (si (si (si (si S 24 1) 19 p0) 20 p1) 21 7) 13 (fil 1024 0 (ar (si (si (si (si S 24 1) 19 p0) 20 p1) 21 7) 13))) 2 0 4128768) 11 0 (-1)) 12 0 (-1)) 25 1) 13 978 1) 23 1)) rfl wm_X11_238 wi_X8_richest ws_X8_richest dX11_gain_66 rfl (Nat.le_of_ble_eq_true rfl) ⟨by decide, by decide, by decide, by decide⟩) (fun r12671 u12672 h12670 => ?_)
    obtain ⟨rfl, rfl⟩ := h12670
    refine z_istore (lv' := [(5, .int 0), (0, .ref (a 0)), (1, .int 1), (2, .int p0), (3, .int p1), (4, .int 0)]) b dX11_gain_69 (by decide) rfl ?_
    refine z_iload b dX11_gain_71 rfl ?_
    refine z_if_ne_f (tgt := 87) b dX11_gain_73 (by decide) (by decide) ?_
    refine z_aload_n b dX11_gain_76 rfl rfl ?_
    refine z_get (q0 := 0) (k9 := 6) (v := .ref (a 25)) b (cw_0 cy tE a rw (si (su (si (su (su (sv (sa (si (si (si (si S 24 1) 19 p0) 20 p1) 21 7) 13 (fil 1024 0 (ar (si (si (si (si S 24 1) 19 p0) 20 p1) 21 7) 13))) 2 0 4128768) 11 0 (-1)) 12 0 (-1)) 25 1) 13 978 1) 23 1)) rfl in_X11 (by decide) wf_X11_52 rfl dX11_gain_77 ?_
    refine z_iload b dX11_gain_80 rfl ?_
    refine z_iload_n b dX11_gain_82 rfl rfl ?_
    refine z_calli b (z_runV (q0 := 25) (As := [.int 0, .int 1]) (st := []) b (c_X8_wealth_2 (si (su (si (su (su (sv (sa (si (si (si (si S 24 1) 19 p0) 20 p1) 21 7) 13 (fil 1024 0 (ar (si (si (si (si S 24 1) 19 p0) 20 p1) 21 7) 13))) 2 0 4128768) 11 0 (-1)) 12 0 (-1)) 25 1) 13 978 1) 23 1) rfl rfl h_a_9_50 h_a_9_40 h_a_9_41 h_a_9_42 h_a_9_0 h_a_9_11 h_a_9_21 h_a_9_31 h_a_9_12 h_a_9_22 h_a_9_32 h_a_9_1 h_a_9_13 h_a_9_23 h_a_9_33 h_a_9_15 h_a_9_25 h_a_9_35 h_a_9_2 h_a_9_16 h_a_9_26 h_a_9_36 h_a_9_17 h_a_9_27 h_a_9_37) cf_X8_wealth (cw_25 cy tE a rw (si (su (si (su (su (sv (sa (si (si (si (si S 24 1) 19 p0) 20 p1) 21 7) 13 (fil 1024 0 (ar (si (si (si (si S 24 1) 19 p0) 20 p1) 21 7) 13))) 2 0 4128768) 11 0 (-1)) 12 0 (-1)) 25 1) 13 978 1) 23 1)) rfl wm_X11_241 wi_X8_wealth ws_X8_wealth dX11_gain_83 rfl (Nat.le_of_ble_eq_true rfl) ⟨by decide, by decide, by decide, by decide⟩) (fun r12674 u12675 h12673 => ?_)
    obtain ⟨rfl, rfl⟩ := h12673
    exact z_iret (u := (si (su (si (su (su (sv (sa (si (si (si (si S 24 1) 19 p0) 20 p1) 21 7) 13 (fil 1024 0 (ar (si (si (si (si S 24 1) 19 p0) 20 p1) 21 7) 13))) 2 0 4128768) 11 0 (-1)) 12 0 (-1)) 25 1) 13 978 1) 23 1)) b rfl dX11_gain_86 (Or.inl ⟨c12668, rfl, rfl⟩) rfl (by decide) (by decide)
  · refine z_aload_n b dX11_gain_48 rfl rfl ?_
    refine z_get (q0 := 0) (k9 := 6) (v := .ref (a 25)) b (cw_0 cy tE a rw (su (si (su (su (sv (sa (si (si (si (si S 24 1) 19 p0) 20 p1) 21 7) 13 (fil 1024 0 (ar (si (si (si (si S 24 1) 19 p0) 20 p1) 21 7) 13))) 2 0 4128768) 11 0 (-1)) 12 0 (-1)) 25 1) 13 978 1)) rfl in_X11 (by decide) wf_X11_52 rfl dX11_gain_49 ?_
    refine z_get (q0 := 25) (k9 := 18) (v := .int (fi (su (si (su (su (sv (sa (si (si (si (si S 24 1) 19 p0) 20 p1) 21 7) 13 (fil 1024 0 (ar (si (si (si (si S 24 1) 19 p0) 20 p1) 21 7) 13))) 2 0 4128768) 11 0 (-1)) 12 0 (-1)) 25 1) 13 978 1) 26)) b (cw_25 cy tE a rw (su (si (su (su (sv (sa (si (si (si (si S 24 1) 19 p0) 20 p1) 21 7) 13 (fil 1024 0 (ar (si (si (si (si S 24 1) 19 p0) 20 p1) 21 7) 13))) 2 0 4128768) 11 0 (-1)) 12 0 (-1)) 25 1) 13 978 1)) rfl in_X8 (by decide) wf_X11_214 rfl dX11_gain_52 ?_
    refine z_eqi h_i_26 ?_
    refine z_if_eq_t (tgt := 61) b dX11_gain_55 (by decide) (by decide) ?_
    refine z_aload_n b dX11_gain_61 rfl rfl ?_
    refine z_get (q0 := 0) (k9 := 6) (v := .ref (a 25)) b (cw_0 cy tE a rw (su (si (su (su (sv (sa (si (si (si (si S 24 1) 19 p0) 20 p1) 21 7) 13 (fil 1024 0 (ar (si (si (si (si S 24 1) 19 p0) 20 p1) 21 7) 13))) 2 0 4128768) 11 0 (-1)) 12 0 (-1)) 25 1) 13 978 1)) rfl in_X11 (by decide) wf_X11_52 rfl dX11_gain_62 ?_
    refine z_iload_n b dX11_gain_65 rfl rfl ?_
    refine z_calli b (z_runV (q0 := 25) (As := [.int 1]) (st := []) b (c_X8_richest_2 (su (si (su (su (sv (sa (si (si (si (si S 24 1) 19 p0) 20 p1) 21 7) 13 (fil 1024 0 (ar (si (si (si (si S 24 1) 19 p0) 20 p1) 21 7) 13))) 2 0 4128768) 11 0 (-1)) 12 0 (-1)) 25 1) 13 978 1) rfl rfl h_a_9_50 h_a_9_40 h_a_9_41 h_a_9_42 h_a_9_0 h_a_9_11 h_a_9_21 h_a_9_31 h_a_9_12 h_a_9_22 h_a_9_32 h_a_9_1 h_a_9_13 h_a_9_23 h_a_9_33 h_a_9_15 h_a_9_25 h_a_9_35 h_a_9_2 h_a_9_16 h_a_9_26 h_a_9_36 h_a_9_17 h_a_9_27 h_a_9_37) cf_X8_richest (cw_25 cy tE a rw (su (si (su (su (sv (sa (si (si (si (si S 24 1) 19 p0) 20 p1) 21 7) 13 (fil 1024 0 (ar (si (si (si (si S 24 1) 19 p0) 20 p1) 21 7) 13))) 2 0 4128768) 11 0 (-1)) 12 0 (-1)) 25 1) 13 978 1)) rfl wm_X11_238 wi_X8_richest ws_X8_richest dX11_gain_66 rfl (Nat.le_of_ble_eq_true rfl) ⟨by decide, by decide, by decide, by decide⟩) (fun r12677 u12678 h12676 => ?_)
    obtain ⟨rfl, rfl⟩ := h12676
    refine z_istore (lv' := [(5, .int 0), (0, .ref (a 0)), (1, .int 1), (2, .int p0), (3, .int p1), (4, .int 0)]) b dX11_gain_69 (by decide) rfl ?_
    refine z_iload b dX11_gain_71 rfl ?_
    refine z_if_ne_f (tgt := 87) b dX11_gain_73 (by decide) (by decide) ?_
    refine z_aload_n b dX11_gain_76 rfl rfl ?_
    refine z_get (q0 := 0) (k9 := 6) (v := .ref (a 25)) b (cw_0 cy tE a rw (su (si (su (su (sv (sa (si (si (si (si S 24 1) 19 p0) 20 p1) 21 7) 13 (fil 1024 0 (ar (si (si (si (si S 24 1) 19 p0) 20 p1) 21 7) 13))) 2 0 4128768) 11 0 (-1)) 12 0 (-1)) 25 1) 13 978 1)) rfl in_X11 (by decide) wf_X11_52 rfl dX11_gain_77 ?_
    refine z_iload b dX11_gain_80 rfl ?_
    refine z_iload_n b dX11_gain_82 rfl rfl ?_
    refine z_calli b (z_runV (q0 := 25) (As := [.int 0, .int 1]) (st := []) b (c_X8_wealth_2 (su (si (su (su (sv (sa (si (si (si (si S 24 1) 19 p0) 20 p1) 21 7) 13 (fil 1024 0 (ar (si (si (si (si S 24 1) 19 p0) 20 p1) 21 7) 13))) 2 0 4128768) 11 0 (-1)) 12 0 (-1)) 25 1) 13 978 1) rfl rfl h_a_9_50 h_a_9_40 h_a_9_41 h_a_9_42 h_a_9_0 h_a_9_11 h_a_9_21 h_a_9_31 h_a_9_12 h_a_9_22 h_a_9_32 h_a_9_1 h_a_9_13 h_a_9_23 h_a_9_33 h_a_9_15 h_a_9_25 h_a_9_35 h_a_9_2 h_a_9_16 h_a_9_26 h_a_9_36 h_a_9_17 h_a_9_27 h_a_9_37) cf_X8_wealth (cw_25 cy tE a rw (su (si (su (su (sv (sa (si (si (si (si S 24 1) 19 p0) 20 p1) 21 7) 13 (fil 1024 0 (ar (si (si (si (si S 24 1) 19 p0) 20 p1) 21 7) 13))) 2 0 4128768) 11 0 (-1)) 12 0 (-1)) 25 1) 13 978 1)) rfl wm_X11_241 wi_X8_wealth ws_X8_wealth dX11_gain_83 rfl (Nat.le_of_ble_eq_true rfl) ⟨by decide, by decide, by decide, by decide⟩) (fun r12680 u12681 h12679 => ?_)
    obtain ⟨rfl, rfl⟩ := h12679
    exact z_iret (u := (su (si (su (su (sv (sa (si (si (si (si S 24 1) 19 p0) 20 p1) 21 7) 13 (fil 1024 0 (ar (si (si (si (si S 24 1) 19 p0) 20 p1) 21 7) 13))) 2 0 4128768) 11 0 (-1)) 12 0 (-1)) 25 1) 13 978 1)) b rfl dX11_gain_86 (Or.inr ⟨c12669, rfl, rfl⟩) rfl (by decide) (by decide)

set_option maxHeartbeats 4000000 in
set_option maxRecDepth 100000 in
theorem c_X12_gain_31 {l : Launch} {D : va_G} {cy : Nat → ClassId} {T0 tB tE : Nat} {a : Nat → Nat} (S : GS) (p0 : Int32) (p1 : Int32) (h_i_21 : fi S 21 = 0) (h_i_23 : fi S 23 = 0) (h_l_0 : fl S 0 = 1649317774848) (h_a_29_992 : ar S 29 992 = (-1)) (h_a_28_0 : ar S 28 0 = 0) (h_a_7_0 : ar S 7 0 = 0) (h_a_7_1 : ar S 7 1 = 0) (h_a_4_7 : ar S 4 7 = 0) (h_a_1_7 : ar S 1 7 = 0) (h_a_4_6 : ar S 4 6 = 0) (h_a_1_6 : ar S 1 6 = 0) (h_a_3_6 : ar S 3 6 = 0) (h_a_3_2 : ar S 3 2 = 0) (h_a_2_2 : ar S 2 2 = 3) (h_a_0_2 : ar S 0 2 = 0) (h_a_4_3 : ar S 4 3 = 0) (h_a_1_3 : ar S 1 3 = 0) (h_a_4_5 : ar S 4 5 = 0) (h_a_1_5 : ar S 1 5 = 0) (h_a_3_5 : ar S 3 5 = 0) (h_a_3_7 : ar S 3 7 = 0) (h_a_2_1 : ar S 2 1 = 3) (h_a_0_1 : ar S 0 1 = 0) (h_a_4_2 : ar S 4 2 = 0) (h_a_1_2 : ar S 1 2 = 0) (h_a_4_1 : ar S 4 1 = 0) (h_a_1_1 : ar S 1 1 = 0) (h_a_3_1 : ar S 3 1 = 0) (h_a_3_3 : ar S 3 3 = 0) (h_a_2_0 : ar S 2 0 = 3) (h_a_0_0 : ar S 0 0 = 0) (h_i_0 : fi S 0 = 0) (hr_p0 : 1 ≤ p0.toInt ∧ p0.toInt ≤ 3) (hr_p1 : 1 ≤ p1.toInt ∧ p1.toInt ≤ 6) : Ct l D cy T0 tB tE yX12_gain cX12_gain 9 (some .int) 4 99 0 0 (mw cy a S) [.ref (a 0), .int 1, .int p0, .int p1, .int 0] (QI D (U := GS) (fun r u => 0 = r ∧ (si (su (su (sv (su (su (si S 22 (-1)) 29 992 0) 30 0 992) 0 0 1649317774848) 26 0 (-1)) 27 0 (-1)) 21 1) = u) (mw cy a)) := by
  refine Ct.ofZ RX12 "gain" [(0, .ref (a 0)), (1, .int 1), (2, .int p0), (3, .int p1), (4, .int 0)] rfl rfl rfl rfl (Nat.le_of_ble_eq_true rfl) ?_
  intro p e R s m args below meth c A b
  refine z_iload_n b dX12_gain_0 rfl rfl ?_
  refine z_calli b (z_runS (As := [.int 1]) (st := []) b (c_X12_isOne_4 S ) cf_X12_isOne wm_X12_170 ws_X12_isOne dX12_gain_1 rfl (Nat.le_of_ble_eq_true rfl) ⟨by decide, by decide, by decide, by decide⟩) (fun r12683 u12684 h12682 => ?_)
  obtain ⟨rfl, rfl⟩ := h12682
  refine z_if_eq_f (tgt := 27) b dX12_gain_4 (by decide) (by decide) ?_
  refine z_aload_n b dX12_gain_7 rfl rfl ?_
  refine z_iload_n b dX12_gain_8 rfl rfl ?_
  refine z_iload_n b dX12_gain_9 rfl rfl ?_
  refine z_calli b (z_runV (q0 := 0) (As := [.int p0, .int p1]) (st := []) b (c_X12_canSearch_5 S p0 p1 ⟨by omega, by omega⟩ ⟨by omega, by omega⟩) cf_X12_canSearch (mw_0 cy a S) rfl wm_X12_433 wi_X12_canSearch ws_X12_canSearch dX12_gain_10 rfl (Nat.le_of_ble_eq_true rfl) ⟨by decide, by decide, by decide, by decide⟩) (fun r12686 u12687 h12685 => ?_)
  obtain ⟨rfl, rfl⟩ := h12685
  refine z_if_eq_f (tgt := 27) b dX12_gain_13 (by decide) (by decide) ?_
  refine z_iload b dX12_gain_16 rfl ?_
  refine z_iconst (v := 0) b dX12_gain_18 (by decide) ?_
  refine z_bipush (v := 7) b dX12_gain_19 (by decide) ?_
  refine z_calli b (z_runS (As := [.int 0, .int 0, .int 7]) (st := []) b (c_X12_isIn_59 S ) cf_X12_isIn wm_X12_1 ws_X12_isIn dX12_gain_21 rfl (Nat.le_of_ble_eq_true rfl) ⟨by decide, by decide, by decide, by decide⟩) (fun r12689 u12690 h12688 => ?_)
  obtain ⟨rfl, rfl⟩ := h12688
  refine z_if_ne_t (tgt := 30) b dX12_gain_24 (by decide) (by decide) ?_
  refine z_aload_n b dX12_gain_30 rfl rfl ?_
  refine z_iconst (v := (-1)) b dX12_gain_31 (by decide) ?_
  refine z_iload_n b dX12_gain_32 rfl rfl ?_
  refine z_iload_n b dX12_gain_33 rfl rfl ?_
  refine z_bipush (v := 7) b dX12_gain_34 (by decide) ?_
  refine z_iconst (v := 0) b dX12_gain_36 (by decide) ?_
  refine z_callv b (z_runV (q0 := 0) (As := [.int (-1), .int p0, .int p1, .int 7, .int 0]) (st := []) b (c_X12_searches_2 S p0 p1 h_i_21 h_i_23 h_l_0 h_a_29_992 h_a_28_0 h_a_7_0 h_a_7_1 ⟨by omega, by omega⟩ ⟨by omega, by omega⟩) cf_X12_searches (mw_0 cy a S) rfl wm_X12_436 wi_X12_searches ws_X12_searches dX12_gain_37 rfl (Nat.le_of_ble_eq_true rfl) ⟨by decide, by decide, by decide, by decide⟩) (fun u12693 h12691 => ?_)
  obtain rfl := h12691
  refine z_aload_n b dX12_gain_40 rfl rfl ?_
  refine z_get (q0 := 0) (k9 := 57) (v := .int (fi (si (su (su (sv (su (su (si S 22 (-1)) 29 992 0) 30 0 992) 0 0 1649317774848) 26 0 (-1)) 27 0 (-1)) 21 1) 23)) b (mw_0 cy a (si (su (su (sv (su (su (si S 22 (-1)) 29 992 0) 30 0 992) 0 0 1649317774848) 26 0 (-1)) 27 0 (-1)) 21 1)) rfl in_X12 (by decide) wf_X12_408 rfl dX12_gain_41 ?_
  refine z_eqi h_i_23 ?_
  refine z_if_eq_t (tgt := 50) b dX12_gain_44 (by decide) (by decide) ?_
  refine z_iconst (v := (-1)) b dX12_gain_50 (by decide) ?_
  refine z_istore (lv' := [(5, .int (-1)), (0, .ref (a 0)), (1, .int 1), (2, .int p0), (3, .int p1), (4, .int 0)]) b dX12_gain_51 (by decide) rfl ?_
  refine z_iconst (v := 0) b dX12_gain_53 (by decide) ?_
  refine z_istore (lv' := [(6, .int 0), (5, .int (-1)), (0, .ref (a 0)), (1, .int 1), (2, .int p0), (3, .int p1), (4, .int 0)]) b dX12_gain_54 (by decide) rfl ?_
  refine z_iconst (v := 0) b dX12_gain_56 (by decide) ?_
  refine z_istore (lv' := [(7, .int 0), (6, .int 0), (5, .int (-1)), (0, .ref (a 0)), (1, .int 1), (2, .int p0), (3, .int p1), (4, .int 0)]) b dX12_gain_57 (by decide) rfl ?_
  refine z_iload b dX12_gain_59 rfl ?_
  refine z_aload_n b dX12_gain_61 rfl rfl ?_
  refine z_get (q0 := 0) (k9 := 55) (v := .int 1) b (mw_0 cy a (si (su (su (sv (su (su (si S 22 (-1)) 29 992 0) 30 0 992) 0 0 1649317774848) 26 0 (-1)) 27 0 (-1)) 21 1)) rfl in_X12 (by decide) wf_X12_405 rfl dX12_gain_62 ?_
  refine z_icmp_ge_f (tgt := 147) b dX12_gain_65 (by decide) (by decide) ?_
  refine z_aload_n b dX12_gain_68 rfl rfl ?_
  refine z_aload_n b dX12_gain_69 rfl rfl ?_
  refine z_get (q0 := 0) (k9 := 49) (v := .ref (a 27)) b (mw_0 cy a (si (su (su (sv (su (su (si S 22 (-1)) 29 992 0) 30 0 992) 0 0 1649317774848) 26 0 (-1)) 27 0 (-1)) 21 1)) rfl in_X12 (by decide) wf_X12_97 rfl dX12_gain_70 ?_
  refine z_iload b dX12_gain_73 rfl ?_
  refine y_lald (q0 := 27) (j := 0) (v := 1649317774848) b (mw_27 cy a (si (su (su (sv (su (su (si S 22 (-1)) 29 992 0) 30 0 992) 0 0 1649317774848) 26 0 (-1)) 27 0 (-1)) 21 1)) (by decide) rfl dX12_gain_75 ?_
  refine z_callv b (z_runV (q0 := 0) (As := [.long 1649317774848]) (st := []) b (c_X12_takes (si (su (su (sv (su (su (si S 22 (-1)) 29 992 0) 30 0 992) 0 0 1649317774848) 26 0 (-1)) 27 0 (-1)) 21 1) h_a_4_7 h_a_1_7 h_a_4_6 h_a_1_6 h_a_3_6 h_a_3_2 h_a_2_2 h_a_0_2 h_a_4_3 h_a_1_3 h_a_4_5 h_a_1_5 h_a_3_5 h_a_3_7 h_a_2_1 h_a_0_1 h_a_4_2 h_a_1_2 h_a_4_1 h_a_1_1 h_a_3_1 h_a_3_3 h_a_2_0 h_a_0_0 h_i_0) cf_X12_takes (mw_0 cy a (si (su (su (sv (su (su (si S 22 (-1)) 29 992 0) 30 0 992) 0 0 1649317774848) 26 0 (-1)) 27 0 (-1)) 21 1)) rfl wm_X12_174 wi_X12_takes ws_X12_takes dX12_gain_76 rfl (Nat.le_of_ble_eq_true rfl) ⟨by decide, by decide, by decide, by decide⟩) (fun u12696 h12694 => ?_)
  obtain rfl := h12694
  refine z_aload_n b dX12_gain_79 rfl rfl ?_
  refine z_get (q0 := 0) (k9 := 0) (v := .ref (a 1)) b (mw_0 cy a (si (su (su (sv (su (su (si S 22 (-1)) 29 992 0) 30 0 992) 0 0 1649317774848) 26 0 (-1)) 27 0 (-1)) 21 1)) rfl in_X12 (by decide) wf_X12_13 rfl dX12_gain_80 ?_
  refine z_iload_n b dX12_gain_83 rfl rfl ?_
  refine y_iald (q0 := 1) (j := 1) (v := (ar (si (su (su (sv (su (su (si S 22 (-1)) 29 992 0) 30 0 992) 0 0 1649317774848) 26 0 (-1)) 27 0 (-1)) 21 1) 0 1)) b (mw_1 cy a (si (su (su (sv (su (su (si S 22 (-1)) 29 992 0) 30 0 992) 0 0 1649317774848) 26 0 (-1)) 27 0 (-1)) 21 1)) (by decide) rfl dX12_gain_84 ?_
  refine z_eqi h_a_0_1 ?_
  refine z_aload_n b dX12_gain_85 rfl rfl ?_
  refine z_get (q0 := 0) (k9 := 1) (v := .ref (a 2)) b (mw_0 cy a (si (su (su (sv (su (su (si S 22 (-1)) 29 992 0) 30 0 992) 0 0 1649317774848) 26 0 (-1)) 27 0 (-1)) 21 1)) rfl in_X12 (by decide) wf_X12_17 rfl dX12_gain_86 ?_
  refine z_iconst (v := 3) b dX12_gain_89 (by decide) ?_
  refine z_iload_n b dX12_gain_90 rfl rfl ?_
  refine z_imul (v := 3) b dX12_gain_91 (by decide) ?_
  refine z_iload_n b dX12_gain_92 rfl rfl ?_
  refine z_iconst (v := 0) b dX12_gain_93 (by decide) ?_
  refine z_calli b (z_runS (As := [.int 1, .int 0]) (st := [.int 3, .ref (a 2), .int 0]) b (c_X12_other_4 (si (su (su (sv (su (su (si S 22 (-1)) 29 992 0) 30 0 992) 0 0 1649317774848) 26 0 (-1)) 27 0 (-1)) 21 1) ) cf_X12_other wm_X12_160 ws_X12_other dX12_gain_94 rfl (Nat.le_of_ble_eq_true rfl) ⟨by decide, by decide, by decide, by decide⟩) (fun r12698 u12699 h12697 => ?_)
  obtain ⟨rfl, rfl⟩ := h12697
  refine z_iadd (v := 5) b dX12_gain_97 (by decide) ?_
  refine y_iald (q0 := 2) (j := 5) (v := (ar (si (su (su (sv (su (su (si S 22 (-1)) 29 992 0) 30 0 992) 0 0 1649317774848) 26 0 (-1)) 27 0 (-1)) 21 1) 1 5)) b (mw_2 cy a (si (su (su (sv (su (su (si S 22 (-1)) 29 992 0) 30 0 992) 0 0 1649317774848) 26 0 (-1)) 27 0 (-1)) 21 1)) (by decide) rfl dX12_gain_98 ?_
  refine z_eqi h_a_1_5 ?_
  refine z_isub (v := 0) b dX12_gain_99 (by decide) ?_
  refine z_aload_n b dX12_gain_100 rfl rfl ?_
  refine z_get (q0 := 0) (k9 := 1) (v := .ref (a 2)) b (mw_0 cy a (si (su (su (sv (su (su (si S 22 (-1)) 29 992 0) 30 0 992) 0 0 1649317774848) 26 0 (-1)) 27 0 (-1)) 21 1)) rfl in_X12 (by decide) wf_X12_17 rfl dX12_gain_101 ?_
  refine z_iconst (v := 3) b dX12_gain_104 (by decide) ?_
  refine z_iload_n b dX12_gain_105 rfl rfl ?_
  refine z_imul (v := 3) b dX12_gain_106 (by decide) ?_
  refine z_iload_n b dX12_gain_107 rfl rfl ?_
  refine z_iconst (v := 1) b dX12_gain_108 (by decide) ?_
  refine z_calli b (z_runS (As := [.int 1, .int 1]) (st := [.int 3, .ref (a 2), .int 0]) b (c_X12_other_3 (si (su (su (sv (su (su (si S 22 (-1)) 29 992 0) 30 0 992) 0 0 1649317774848) 26 0 (-1)) 27 0 (-1)) 21 1) ) cf_X12_other wm_X12_160 ws_X12_other dX12_gain_109 rfl (Nat.le_of_ble_eq_true rfl) ⟨by decide, by decide, by decide, by decide⟩) (fun r12701 u12702 h12700 => ?_)
  obtain ⟨rfl, rfl⟩ := h12700
  refine z_iadd (v := 3) b dX12_gain_112 (by decide) ?_
  refine y_iald (q0 := 2) (j := 3) (v := (ar (si (su (su (sv (su (su (si S 22 (-1)) 29 992 0) 30 0 992) 0 0 1649317774848) 26 0 (-1)) 27 0 (-1)) 21 1) 1 3)) b (mw_2 cy a (si (su (su (sv (su (su (si S 22 (-1)) 29 992 0) 30 0 992) 0 0 1649317774848) 26 0 (-1)) 27 0 (-1)) 21 1)) (by decide) rfl dX12_gain_113 ?_
  refine z_eqi h_a_1_3 ?_
  refine z_isub (v := 0) b dX12_gain_114 (by decide) ?_
  refine z_istore (lv' := [(8, .int 0), (7, .int 0), (6, .int 0), (5, .int (-1)), (0, .ref (a 0)), (1, .int 1), (2, .int p0), (3, .int p1), (4, .int 0)]) b dX12_gain_115 (by decide) rfl ?_
  refine z_iload b dX12_gain_117 rfl ?_
  refine z_iconst (v := (-1)) b dX12_gain_119 (by decide) ?_
  refine z_icmp_eq_t (tgt := 133) b dX12_gain_120 (by decide) (by decide) ?_
  refine z_iload b dX12_gain_133 rfl ?_
  refine z_istore (lv' := [(5, .int 0), (8, .int 0), (7, .int 0), (6, .int 0), (0, .ref (a 0)), (1, .int 1), (2, .int p0), (3, .int p1), (4, .int 0)]) b dX12_gain_135 (by decide) rfl ?_
  refine z_iload b dX12_gain_137 rfl ?_
  refine z_istore (lv' := [(6, .int 0), (5, .int 0), (8, .int 0), (7, .int 0), (0, .ref (a 0)), (1, .int 1), (2, .int p0), (3, .int p1), (4, .int 0)]) b dX12_gain_139 (by decide) rfl ?_
  refine z_iinc (k9 := 3) (v := 1) (lv' := [(7, .int 1), (6, .int 0), (5, .int 0), (8, .int 0), (0, .ref (a 0)), (1, .int 1), (2, .int p0), (3, .int p1), (4, .int 0)]) b dX12_gain_141 rfl (by decide) (by decide) rfl ?_
  refine z_goto (tgt := 59) b dX12_gain_144 (by decide) ?_
  refine z_iload b dX12_gain_59 rfl ?_
  refine z_aload_n b dX12_gain_61 rfl rfl ?_
  refine z_get (q0 := 0) (k9 := 55) (v := .int 1) b (mw_0 cy a (si (su (su (sv (su (su (si S 22 (-1)) 29 992 0) 30 0 992) 0 0 1649317774848) 26 0 (-1)) 27 0 (-1)) 21 1)) rfl in_X12 (by decide) wf_X12_405 rfl dX12_gain_62 ?_
  refine z_icmp_ge_t (tgt := 147) b dX12_gain_65 (by decide) (by decide) ?_
  refine z_iload b dX12_gain_147 rfl ?_
  refine z_iconst (v := 2) b dX12_gain_149 (by decide) ?_
  refine z_icmp_ge_f (tgt := 171) b dX12_gain_150 (by decide) (by decide) ?_
  refine z_iload b dX12_gain_153 rfl ?_
  refine z_if_ne_f (tgt := 163) b dX12_gain_155 (by decide) (by decide) ?_
  refine z_iload b dX12_gain_158 rfl ?_
  refine z_goto (tgt := 170) b dX12_gain_160 (by decide) ?_
  exact z_iret (u := (si (su (su (sv (su (su (si S 22 (-1)) 29 992 0) 30 0 992) 0 0 1649317774848) 26 0 (-1)) 27 0 (-1)) 21 1)) b rfl dX12_gain_170 ⟨rfl, rfl⟩ rfl (by decide) (by decide)

set_option maxHeartbeats 4000000 in
set_option maxRecDepth 100000 in
theorem c_X11_gain_32 {l : Launch} {D : va_G} {cy : Nat → ClassId} {T0 tB tE : Nat} {a : Nat → Nat} {rw : Nat → Option Nat} (S : GS) (p0 : Int32) (p1 : Int32) (h_i_19 : fi S 19 = 0) (h_i_24 : fi S 24 = 0) (h_i_22 : fi S 22 = 0) (h_i_18 : fi S 18 = 0) (h_i_25 : fi S 25 = 0) (h_i_23 : fi S 23 = 0) (h_i_26 : fi S 26 = 0) (h_a_4_50 : ar S 4 50 = 0) (h_a_4_40 : ar S 4 40 = 3) (h_a_4_41 : ar S 4 41 = 3) (h_a_4_42 : ar S 4 42 = 3) (h_a_4_0 : ar S 4 0 = 0) (h_a_4_11 : ar S 4 11 = 0) (h_a_4_21 : ar S 4 21 = 0) (h_a_4_31 : ar S 4 31 = 0) (h_a_4_12 : ar S 4 12 = 0) (h_a_4_22 : ar S 4 22 = 0) (h_a_4_32 : ar S 4 32 = 0) (h_a_4_1 : ar S 4 1 = 0) (h_a_4_13 : ar S 4 13 = 0) (h_a_4_23 : ar S 4 23 = 0) (h_a_4_33 : ar S 4 33 = 0) (h_a_4_15 : ar S 4 15 = 0) (h_a_4_25 : ar S 4 25 = 0) (h_a_4_35 : ar S 4 35 = 0) (h_a_4_2 : ar S 4 2 = 0) (h_a_4_16 : ar S 4 16 = 0) (h_a_4_26 : ar S 4 26 = 0) (h_a_4_36 : ar S 4 36 = 0) (h_a_4_17 : ar S 4 17 = 0) (h_a_4_27 : ar S 4 27 = 0) (h_a_4_37 : ar S 4 37 = 0) (h_a_10_0 : ar S 10 0 = 0) (h_a_9_50 : ar S 9 50 = 0) (h_a_9_40 : ar S 9 40 = 3) (h_a_9_41 : ar S 9 41 = 3) (h_a_9_42 : ar S 9 42 = 3) (h_a_9_0 : ar S 9 0 = 0) (h_a_9_11 : ar S 9 11 = 0) (h_a_9_21 : ar S 9 21 = 0) (h_a_9_31 : ar S 9 31 = 0) (h_a_9_12 : ar S 9 12 = 0) (h_a_9_22 : ar S 9 22 = 0) (h_a_9_32 : ar S 9 32 = 0) (h_a_9_1 : ar S 9 1 = 0) (h_a_9_13 : ar S 9 13 = 0) (h_a_9_23 : ar S 9 23 = 0) (h_a_9_33 : ar S 9 33 = 0) (h_a_9_15 : ar S 9 15 = 0) (h_a_9_25 : ar S 9 25 = 0) (h_a_9_35 : ar S 9 35 = 0) (h_a_9_2 : ar S 9 2 = 0) (h_a_9_16 : ar S 9 16 = 0) (h_a_9_26 : ar S 9 26 = 0) (h_a_9_36 : ar S 9 36 = 0) (h_a_9_17 : ar S 9 17 = 0) (h_a_9_27 : ar S 9 27 = 0) (h_a_9_37 : ar S 9 37 = 0) (hr_p0 : 1 ≤ p0.toInt ∧ p0.toInt ≤ 3) (hr_p1 : 1 ≤ p1.toInt ∧ p1.toInt ≤ 6) : Ct l D cy T0 tB tE yX11_gain cX11_gain 7 (some .int) 5 117 0 0 (cw cy tE a rw S) [.ref (a 0), .int 1, .int p0, .int p1, .int 1] (QI D (U := GS) (fun r u => (((((0 < ((fi (su (si (su (su (sv (sa (si (si (si (si S 24 1) 19 p0) 20 p1) 21 7) 13 (fil 1024 0 (ar (si (si (si (si S 24 1) 19 p0) 20 p1) 21 7) 13))) 2 0 4128768) 11 0 (-1)) 12 0 (-1)) 25 1) 13 978 1) 20) : Int32).toInt)))) ∧ 0 = r ∧ (si (su (si (su (su (sv (sa (si (si (si (si S 24 1) 19 p0) 20 p1) 21 7) 13 (fil 1024 0 (ar (si (si (si (si S 24 1) 19 p0) 20 p1) 21 7) 13))) 2 0 4128768) 11 0 (-1)) 12 0 (-1)) 25 1) 13 978 1) 23 1) = u) ∨ (((((((fi (su (si (su (su (sv (sa (si (si (si (si S 24 1) 19 p0) 20 p1) 21 7) 13 (fil 1024 0 (ar (si (si (si (si S 24 1) 19 p0) 20 p1) 21 7) 13))) 2 0 4128768) 11 0 (-1)) 12 0 (-1)) 25 1) 13 978 1) 20) : Int32).toInt ≤ 0)))) ∧ 0 = r ∧ (su (si (su (su (sv (sa (si (si (si (si S 24 1) 19 p0) 20 p1) 21 7) 13 (fil 1024 0 (ar (si (si (si (si S 24 1) 19 p0) 20 p1) 21 7) 13))) 2 0 4128768) 11 0 (-1)) 12 0 (-1)) 25 1) 13 978 1) = u)) (cw cy tE a rw)) := by
  refine Ct.ofZ RX11 "gain" [(0, .ref (a 0)), (1, .int 1), (2, .int p0), (3, .int p1), (4, .int 1)] rfl rfl rfl rfl (Nat.le_of_ble_eq_true rfl) ?_
  intro p e R s m args below meth c A b
  refine z_iload_n b dX11_gain_0 rfl rfl ?_
  refine z_calli b (z_runS (As := [.int 1]) (st := []) b (c_X11_isPerson_4 S ) cf_X11_isPerson wm_X11_69 ws_X11_isPerson dX11_gain_1 rfl (Nat.le_of_ble_eq_true rfl) ⟨by decide, by decide, by decide, by decide⟩) (fun r12704 u12705 h12703 => ?_)
  obtain ⟨rfl, rfl⟩ := h12703
  refine z_if_eq_f (tgt := 26) b dX11_gain_4 (by decide) (by decide) ?_
  refine z_iload_n b dX11_gain_7 rfl rfl ?_
  refine z_calli b (z_runS (As := [.int p0]) (st := []) b (c_X11_areLaws_3 S p0 ⟨by omega, by omega⟩) cf_X11_areLaws wm_X11_181 ws_X11_areLaws dX11_gain_8 rfl (Nat.le_of_ble_eq_true rfl) ⟨by decide, by decide, by decide, by decide⟩) (fun r12707 u12708 h12706 => ?_)
  obtain ⟨rfl, rfl⟩ := h12706
  refine z_if_eq_f (tgt := 26) b dX11_gain_11 (by decide) (by decide) ?_
  refine z_iload_n b dX11_gain_14 rfl rfl ?_
  refine z_calli b (z_runS (As := [.int p1]) (st := []) b (c_X11_isDepth_3 S p1 ⟨by omega, by omega⟩) cf_X11_isDepth wm_X11_203 ws_X11_isDepth dX11_gain_15 rfl (Nat.le_of_ble_eq_true rfl) ⟨by decide, by decide, by decide, by decide⟩) (fun r12710 u12711 h12709 => ?_)
  obtain ⟨rfl, rfl⟩ := h12709
  refine z_if_eq_f (tgt := 26) b dX11_gain_18 (by decide) (by decide) ?_
  refine z_iload b dX11_gain_21 rfl ?_
  refine z_if_ge_t (tgt := 29) b dX11_gain_23 (by decide) (by decide) ?_
  refine z_aload_n b dX11_gain_29 rfl rfl ?_
  refine z_get (q0 := 0) (k9 := 6) (v := .ref (a 25)) b (cw_0 cy tE a rw S) rfl in_X11 (by decide) wf_X11_52 rfl dX11_gain_30 ?_
  refine z_iload_n b dX11_gain_33 rfl rfl ?_
  refine z_iload_n b dX11_gain_34 rfl rfl ?_
  refine z_bipush (v := 7) b dX11_gain_35 (by decide) ?_
  refine z_iconst (v := 0) b dX11_gain_37 (by decide) ?_
  refine z_callv b (z_runV (q0 := 25) (As := [.int p0, .int p1, .int 7, .int 0]) (st := []) b (c_X8_begin_2 S p0 p1 h_i_19 h_i_24 h_i_22 h_i_18 h_i_25 h_i_23 h_i_26 h_a_4_50 h_a_4_40 h_a_4_41 h_a_4_42 h_a_4_0 h_a_4_11 h_a_4_21 h_a_4_31 h_a_4_12 h_a_4_22 h_a_4_32 h_a_4_1 h_a_4_13 h_a_4_23 h_a_4_33 h_a_4_15 h_a_4_25 h_a_4_35 h_a_4_2 h_a_4_16 h_a_4_26 h_a_4_36 h_a_4_17 h_a_4_27 h_a_4_37 h_a_10_0 ⟨by omega, by omega⟩ ⟨by omega, by omega⟩) cf_X8_begin (cw_25 cy tE a rw S) rfl wm_X11_206 wi_X8_begin ws_X8_begin dX11_gain_38 rfl (Nat.le_of_ble_eq_true rfl) ⟨by decide, by decide, by decide, by decide⟩) (fun u12714 h12712 => ?_)
  obtain rfl := h12712
  refine z_aload_n b dX11_gain_41 rfl rfl ?_
  refine z_get (q0 := 0) (k9 := 6) (v := .ref (a 25)) b (cw_0 cy tE a rw (su (si (su (su (sv (sa (si (si (si (si S 24 1) 19 p0) 20 p1) 21 7) 13 (fil 1024 0 (ar (si (si (si (si S 24 1) 19 p0) 20 p1) 21 7) 13))) 2 0 4128768) 11 0 (-1)) 12 0 (-1)) 25 1) 13 978 1)) rfl in_X11 (by decide) wf_X11_52 rfl dX11_gain_42 ?_
  refine z_callv b (z_runV (q0 := 25) (As := []) (st := []) b (c_X8_finish_2 (su (si (su (su (sv (sa (si (si (si (si S 24 1) 19 p0) 20 p1) 21 7) 13 (fil 1024 0 (ar (si (si (si (si S 24 1) 19 p0) 20 p1) 21 7) 13))) 2 0 4128768) 11 0 (-1)) 12 0 (-1)) 25 1) 13 978 1) h_i_26 h_i_23 rfl h_a_10_0 rfl h_a_9_50 h_a_9_40 h_a_9_41 h_a_9_42 h_a_9_0 h_a_9_11 h_a_9_21 h_a_9_31 h_a_9_12 h_a_9_22 h_a_9_32 h_a_9_1 h_a_9_13 h_a_9_23 h_a_9_33 h_a_9_15 h_a_9_25 h_a_9_35 h_a_9_2 h_a_9_16 h_a_9_26 h_a_9_36 h_a_9_17 h_a_9_27 h_a_9_37 h_i_18) cf_X8_finish (cw_25 cy tE a rw (su (si (su (su (sv (sa (si (si (si (si S 24 1) 19 p0) 20 p1) 21 7) 13 (fil 1024 0 (ar (si (si (si (si S 24 1) 19 p0) 20 p1) 21 7) 13))) 2 0 4128768) 11 0 (-1)) 12 0 (-1)) 25 1) 13 978 1)) rfl wm_X11_232 wi_X8_finish ws_X8_finish dX11_gain_45 rfl (Nat.le_of_ble_eq_true rfl) ⟨by decide, by decide, by decide, by decide⟩) (fun u12717 h12715 => ?_)
  rcases h12715 with ⟨c12718, rfl⟩ | ⟨c12719, rfl⟩
  · refine z_aload_n b dX11_gain_48 rfl rfl ?_
    refine z_get (q0 := 0) (k9 := 6) (v := .ref (a 25)) b (cw_0 cy tE a rw (si (su (si (su (su (sv (sa (si (si (si (si S 24 1) 19 p0) 20 p1) 21 7) 13 (fil 1024 0 (ar (si (si (si (si S 24 1) 19 p0) 20 p1) 21 7) 13))) 2 0 4128768) 11 0 (-1)) 12 0 (-1)) 25 1) 13 978 1) 23 1)) rfl in_X11 (by decide) wf_X11_52 rfl dX11_gain_49 ?_
    refine z_get (q0 := 25) (k9 := 18) (v := .int (fi (si (su (si (su (su (sv (sa (si (si (si (si S 24 1) 19 p0) 20 p1) 21 7) 13 (fil 1024 0 (ar (si (si (si (si S 24 1) 19 p0) 20 p1) 21 7) 13))) 2 0 4128768) 11 0 (-1)) 12 0 (-1)) 25 1) 13 978 1) 23 1) 26)) b (cw_25 cy tE a rw (si (su (si (su (su (sv (sa (si (si (si (si S 24 1) 19 p0) 20 p1) 21 7) 13 (fil 1024 0 (ar (si (si (si (si S 24 1) 19 p0) 20 p1) 21 7) 13))) 2 0 4128768) 11 0 (-1)) 12 0 (-1)) 25 1) 13 978 1) 23 1)) rfl in_X8 (by decide) wf_X11_214 rfl dX11_gain_52 ?_
    refine z_eqi h_i_26 ?_
    refine z_if_eq_t (tgt := 61) b dX11_gain_55 (by decide) (by decide) ?_
    refine z_aload_n b dX11_gain_61 rfl rfl ?_
    refine z_get (q0 := 0) (k9 := 6) (v := .ref (a 25)) b (cw_0 cy tE a rw (si (su (si (su (su (sv (sa (si (si (si (si S 24 1) 19 p0) 20 p1) 21 7) 13 (fil 1024 0 (ar (si (si (si (si S 24 1) 19 p0) 20 p1) 21 7) 13))) 2 0 4128768) 11 0 (-1)) 12 0 (-1)) 25 1) 13 978 1) 23 1)) rfl in_X11 (by decide) wf_X11_52 rfl dX11_gain_62 ?_
    refine z_iload_n b dX11_gain_65 rfl rfl ?_
    refine z_calli b (z_runV (q0 := 25) (As := [.int 1]) (st := []) b (c_X8_richest_2 (si (su (si (su (su (sv (sa (si (si (si (si S 24 1) 19 p0) 20 p1) 21 7) 13 (fil 1024 0 (ar (si (si (si (si S 24 1) 19 p0) 20 p1) 21 7) 13))) 2 0 4128768) 11 0 (-1)) 12 0 (-1)) 25 1) 13 978 1) 23 1) rfl rfl h_a_9_50 h_a_9_40 h_a_9_41 h_a_9_42 h_a_9_0 h_a_9_11 h_a_9_21 h_a_9_31 h_a_9_12 h_a_9_22 h_a_9_32 h_a_9_1 h_a_9_13 h_a_9_23 h_a_9_33 h_a_9_15 h_a_9_25 h_a_9_35 h_a_9_2 h_a_9_16 h_a_9_26 h_a_9_36 h_a_9_17 h_a_9_27 h_a_9_37) cf_X8_richest (cw_25 cy tE a rw (si (su (si (su (su (sv (sa (si (si (si (si S 24 1) 19 p0) 20 p1) 21 7) 13 (fil 1024 0 (ar (si (si (si (si S 24 1) 19 p0) 20 p1) 21 7) 13))) 2 0 4128768) 11 0 (-1)) 12 0 (-1)) 25 1) 13 978 1) 23 1)) rfl wm_X11_238 wi_X8_richest ws_X8_richest dX11_gain_66 rfl (Nat.le_of_ble_eq_true rfl) ⟨by decide, by decide, by decide, by decide⟩) (fun r12721 u12722 h12720 => ?_)
    obtain ⟨rfl, rfl⟩ := h12720
    refine z_istore (lv' := [(5, .int 0), (0, .ref (a 0)), (1, .int 1), (2, .int p0), (3, .int p1), (4, .int 1)]) b dX11_gain_69 (by decide) rfl ?_
    refine z_iload b dX11_gain_71 rfl ?_
    refine z_if_ne_t (tgt := 87) b dX11_gain_73 (by decide) (by decide) ?_
    refine z_iload b dX11_gain_87 rfl ?_
    refine z_iconst (v := 1) b dX11_gain_89 (by decide) ?_
    refine z_icmp_ne_f (tgt := 103) b dX11_gain_90 (by decide) (by decide) ?_
    refine z_aload_n b dX11_gain_93 rfl rfl ?_
    refine z_get (q0 := 0) (k9 := 6) (v := .ref (a 25)) b (cw_0 cy tE a rw (si (su (si (su (su (sv (sa (si (si (si (si S 24 1) 19 p0) 20 p1) 21 7) 13 (fil 1024 0 (ar (si (si (si (si S 24 1) 19 p0) 20 p1) 21 7) 13))) 2 0 4128768) 11 0 (-1)) 12 0 (-1)) 25 1) 13 978 1) 23 1)) rfl in_X11 (by decide) wf_X11_52 rfl dX11_gain_94 ?_
    refine z_iload b dX11_gain_97 rfl ?_
    refine z_calli b (z_runV (q0 := 25) (As := [.int 0]) (st := []) b (c_X8_acts (si (su (si (su (su (sv (sa (si (si (si (si S 24 1) 19 p0) 20 p1) 21 7) 13 (fil 1024 0 (ar (si (si (si (si S 24 1) 19 p0) 20 p1) 21 7) 13))) 2 0 4128768) 11 0 (-1)) 12 0 (-1)) 25 1) 13 978 1) 23 1) rfl h_a_10_0) cf_X8_acts (cw_25 cy tE a rw (si (su (si (su (su (sv (sa (si (si (si (si S 24 1) 19 p0) 20 p1) 21 7) 13 (fil 1024 0 (ar (si (si (si (si S 24 1) 19 p0) 20 p1) 21 7) 13))) 2 0 4128768) 11 0 (-1)) 12 0 (-1)) 25 1) 13 978 1) 23 1)) rfl wm_X11_217 wi_X8_acts ws_X8_acts dX11_gain_99 rfl (Nat.le_of_ble_eq_true rfl) ⟨by decide, by decide, by decide, by decide⟩) (fun r12724 u12725 h12723 => ?_)
    obtain ⟨rfl, rfl⟩ := h12723
    exact z_iret (u := (si (su (si (su (su (sv (sa (si (si (si (si S 24 1) 19 p0) 20 p1) 21 7) 13 (fil 1024 0 (ar (si (si (si (si S 24 1) 19 p0) 20 p1) 21 7) 13))) 2 0 4128768) 11 0 (-1)) 12 0 (-1)) 25 1) 13 978 1) 23 1)) b rfl dX11_gain_102 (Or.inl ⟨c12718, rfl, rfl⟩) rfl (by decide) (by decide)
  · refine z_aload_n b dX11_gain_48 rfl rfl ?_
    refine z_get (q0 := 0) (k9 := 6) (v := .ref (a 25)) b (cw_0 cy tE a rw (su (si (su (su (sv (sa (si (si (si (si S 24 1) 19 p0) 20 p1) 21 7) 13 (fil 1024 0 (ar (si (si (si (si S 24 1) 19 p0) 20 p1) 21 7) 13))) 2 0 4128768) 11 0 (-1)) 12 0 (-1)) 25 1) 13 978 1)) rfl in_X11 (by decide) wf_X11_52 rfl dX11_gain_49 ?_
    refine z_get (q0 := 25) (k9 := 18) (v := .int (fi (su (si (su (su (sv (sa (si (si (si (si S 24 1) 19 p0) 20 p1) 21 7) 13 (fil 1024 0 (ar (si (si (si (si S 24 1) 19 p0) 20 p1) 21 7) 13))) 2 0 4128768) 11 0 (-1)) 12 0 (-1)) 25 1) 13 978 1) 26)) b (cw_25 cy tE a rw (su (si (su (su (sv (sa (si (si (si (si S 24 1) 19 p0) 20 p1) 21 7) 13 (fil 1024 0 (ar (si (si (si (si S 24 1) 19 p0) 20 p1) 21 7) 13))) 2 0 4128768) 11 0 (-1)) 12 0 (-1)) 25 1) 13 978 1)) rfl in_X8 (by decide) wf_X11_214 rfl dX11_gain_52 ?_
    refine z_eqi h_i_26 ?_
    refine z_if_eq_t (tgt := 61) b dX11_gain_55 (by decide) (by decide) ?_
    refine z_aload_n b dX11_gain_61 rfl rfl ?_
    refine z_get (q0 := 0) (k9 := 6) (v := .ref (a 25)) b (cw_0 cy tE a rw (su (si (su (su (sv (sa (si (si (si (si S 24 1) 19 p0) 20 p1) 21 7) 13 (fil 1024 0 (ar (si (si (si (si S 24 1) 19 p0) 20 p1) 21 7) 13))) 2 0 4128768) 11 0 (-1)) 12 0 (-1)) 25 1) 13 978 1)) rfl in_X11 (by decide) wf_X11_52 rfl dX11_gain_62 ?_
    refine z_iload_n b dX11_gain_65 rfl rfl ?_
    refine z_calli b (z_runV (q0 := 25) (As := [.int 1]) (st := []) b (c_X8_richest_2 (su (si (su (su (sv (sa (si (si (si (si S 24 1) 19 p0) 20 p1) 21 7) 13 (fil 1024 0 (ar (si (si (si (si S 24 1) 19 p0) 20 p1) 21 7) 13))) 2 0 4128768) 11 0 (-1)) 12 0 (-1)) 25 1) 13 978 1) rfl rfl h_a_9_50 h_a_9_40 h_a_9_41 h_a_9_42 h_a_9_0 h_a_9_11 h_a_9_21 h_a_9_31 h_a_9_12 h_a_9_22 h_a_9_32 h_a_9_1 h_a_9_13 h_a_9_23 h_a_9_33 h_a_9_15 h_a_9_25 h_a_9_35 h_a_9_2 h_a_9_16 h_a_9_26 h_a_9_36 h_a_9_17 h_a_9_27 h_a_9_37) cf_X8_richest (cw_25 cy tE a rw (su (si (su (su (sv (sa (si (si (si (si S 24 1) 19 p0) 20 p1) 21 7) 13 (fil 1024 0 (ar (si (si (si (si S 24 1) 19 p0) 20 p1) 21 7) 13))) 2 0 4128768) 11 0 (-1)) 12 0 (-1)) 25 1) 13 978 1)) rfl wm_X11_238 wi_X8_richest ws_X8_richest dX11_gain_66 rfl (Nat.le_of_ble_eq_true rfl) ⟨by decide, by decide, by decide, by decide⟩) (fun r12727 u12728 h12726 => ?_)
    obtain ⟨rfl, rfl⟩ := h12726
    refine z_istore (lv' := [(5, .int 0), (0, .ref (a 0)), (1, .int 1), (2, .int p0), (3, .int p1), (4, .int 1)]) b dX11_gain_69 (by decide) rfl ?_
    refine z_iload b dX11_gain_71 rfl ?_
    refine z_if_ne_t (tgt := 87) b dX11_gain_73 (by decide) (by decide) ?_
    refine z_iload b dX11_gain_87 rfl ?_
    refine z_iconst (v := 1) b dX11_gain_89 (by decide) ?_
    refine z_icmp_ne_f (tgt := 103) b dX11_gain_90 (by decide) (by decide) ?_
    refine z_aload_n b dX11_gain_93 rfl rfl ?_
    refine z_get (q0 := 0) (k9 := 6) (v := .ref (a 25)) b (cw_0 cy tE a rw (su (si (su (su (sv (sa (si (si (si (si S 24 1) 19 p0) 20 p1) 21 7) 13 (fil 1024 0 (ar (si (si (si (si S 24 1) 19 p0) 20 p1) 21 7) 13))) 2 0 4128768) 11 0 (-1)) 12 0 (-1)) 25 1) 13 978 1)) rfl in_X11 (by decide) wf_X11_52 rfl dX11_gain_94 ?_
    refine z_iload b dX11_gain_97 rfl ?_
    refine z_calli b (z_runV (q0 := 25) (As := [.int 0]) (st := []) b (c_X8_acts (su (si (su (su (sv (sa (si (si (si (si S 24 1) 19 p0) 20 p1) 21 7) 13 (fil 1024 0 (ar (si (si (si (si S 24 1) 19 p0) 20 p1) 21 7) 13))) 2 0 4128768) 11 0 (-1)) 12 0 (-1)) 25 1) 13 978 1) rfl h_a_10_0) cf_X8_acts (cw_25 cy tE a rw (su (si (su (su (sv (sa (si (si (si (si S 24 1) 19 p0) 20 p1) 21 7) 13 (fil 1024 0 (ar (si (si (si (si S 24 1) 19 p0) 20 p1) 21 7) 13))) 2 0 4128768) 11 0 (-1)) 12 0 (-1)) 25 1) 13 978 1)) rfl wm_X11_217 wi_X8_acts ws_X8_acts dX11_gain_99 rfl (Nat.le_of_ble_eq_true rfl) ⟨by decide, by decide, by decide, by decide⟩) (fun r12730 u12731 h12729 => ?_)
    obtain ⟨rfl, rfl⟩ := h12729
    exact z_iret (u := (su (si (su (su (sv (sa (si (si (si (si S 24 1) 19 p0) 20 p1) 21 7) 13 (fil 1024 0 (ar (si (si (si (si S 24 1) 19 p0) 20 p1) 21 7) 13))) 2 0 4128768) 11 0 (-1)) 12 0 (-1)) 25 1) 13 978 1)) b rfl dX11_gain_102 (Or.inr ⟨c12719, rfl, rfl⟩) rfl (by decide) (by decide)

set_option maxHeartbeats 4000000 in
set_option maxRecDepth 100000 in
theorem c_X12_gain_32 {l : Launch} {D : va_G} {cy : Nat → ClassId} {T0 tB tE : Nat} {a : Nat → Nat} (S : GS) (p0 : Int32) (p1 : Int32) (h_i_21 : fi S 21 = 0) (h_i_23 : fi S 23 = 0) (h_l_0 : fl S 0 = 1649317774848) (h_a_29_992 : ar S 29 992 = (-1)) (h_a_28_0 : ar S 28 0 = 0) (h_a_7_0 : ar S 7 0 = 0) (h_a_7_1 : ar S 7 1 = 0) (h_a_4_7 : ar S 4 7 = 0) (h_a_1_7 : ar S 1 7 = 0) (h_a_4_6 : ar S 4 6 = 0) (h_a_1_6 : ar S 1 6 = 0) (h_a_3_6 : ar S 3 6 = 0) (h_a_3_2 : ar S 3 2 = 0) (h_a_2_2 : ar S 2 2 = 3) (h_a_0_2 : ar S 0 2 = 0) (h_a_4_3 : ar S 4 3 = 0) (h_a_1_3 : ar S 1 3 = 0) (h_a_4_5 : ar S 4 5 = 0) (h_a_1_5 : ar S 1 5 = 0) (h_a_3_5 : ar S 3 5 = 0) (h_a_3_7 : ar S 3 7 = 0) (h_a_2_1 : ar S 2 1 = 3) (h_a_0_1 : ar S 0 1 = 0) (h_a_4_2 : ar S 4 2 = 0) (h_a_1_2 : ar S 1 2 = 0) (h_a_4_1 : ar S 4 1 = 0) (h_a_1_1 : ar S 1 1 = 0) (h_a_3_1 : ar S 3 1 = 0) (h_a_3_3 : ar S 3 3 = 0) (h_a_2_0 : ar S 2 0 = 3) (h_a_0_0 : ar S 0 0 = 0) (h_i_0 : fi S 0 = 0) (hr_p0 : 1 ≤ p0.toInt ∧ p0.toInt ≤ 3) (hr_p1 : 1 ≤ p1.toInt ∧ p1.toInt ≤ 6) : Ct l D cy T0 tB tE yX12_gain cX12_gain 9 (some .int) 4 99 0 0 (mw cy a S) [.ref (a 0), .int 1, .int p0, .int p1, .int 1] (QI D (U := GS) (fun r u => 0 = r ∧ (si (su (su (sv (su (su (si S 22 (-1)) 29 992 0) 30 0 992) 0 0 1649317774848) 26 0 (-1)) 27 0 (-1)) 21 1) = u) (mw cy a)) := by
  refine Ct.ofZ RX12 "gain" [(0, .ref (a 0)), (1, .int 1), (2, .int p0), (3, .int p1), (4, .int 1)] rfl rfl rfl rfl (Nat.le_of_ble_eq_true rfl) ?_
  intro p e R s m args below meth c A b
  refine z_iload_n b dX12_gain_0 rfl rfl ?_
  refine z_calli b (z_runS (As := [.int 1]) (st := []) b (c_X12_isOne_4 S ) cf_X12_isOne wm_X12_170 ws_X12_isOne dX12_gain_1 rfl (Nat.le_of_ble_eq_true rfl) ⟨by decide, by decide, by decide, by decide⟩) (fun r12733 u12734 h12732 => ?_)
  obtain ⟨rfl, rfl⟩ := h12732
  refine z_if_eq_f (tgt := 27) b dX12_gain_4 (by decide) (by decide) ?_
  refine z_aload_n b dX12_gain_7 rfl rfl ?_
  refine z_iload_n b dX12_gain_8 rfl rfl ?_
  refine z_iload_n b dX12_gain_9 rfl rfl ?_
  refine z_calli b (z_runV (q0 := 0) (As := [.int p0, .int p1]) (st := []) b (c_X12_canSearch_5 S p0 p1 ⟨by omega, by omega⟩ ⟨by omega, by omega⟩) cf_X12_canSearch (mw_0 cy a S) rfl wm_X12_433 wi_X12_canSearch ws_X12_canSearch dX12_gain_10 rfl (Nat.le_of_ble_eq_true rfl) ⟨by decide, by decide, by decide, by decide⟩) (fun r12736 u12737 h12735 => ?_)
  obtain ⟨rfl, rfl⟩ := h12735
  refine z_if_eq_f (tgt := 27) b dX12_gain_13 (by decide) (by decide) ?_
  refine z_iload b dX12_gain_16 rfl ?_
  refine z_iconst (v := 0) b dX12_gain_18 (by decide) ?_
  refine z_bipush (v := 7) b dX12_gain_19 (by decide) ?_
  refine z_calli b (z_runS (As := [.int 1, .int 0, .int 7]) (st := []) b (c_X12_isIn_60 S ) cf_X12_isIn wm_X12_1 ws_X12_isIn dX12_gain_21 rfl (Nat.le_of_ble_eq_true rfl) ⟨by decide, by decide, by decide, by decide⟩) (fun r12739 u12740 h12738 => ?_)
  obtain ⟨rfl, rfl⟩ := h12738
  refine z_if_ne_t (tgt := 30) b dX12_gain_24 (by decide) (by decide) ?_
  refine z_aload_n b dX12_gain_30 rfl rfl ?_
  refine z_iconst (v := (-1)) b dX12_gain_31 (by decide) ?_
  refine z_iload_n b dX12_gain_32 rfl rfl ?_
  refine z_iload_n b dX12_gain_33 rfl rfl ?_
  refine z_bipush (v := 7) b dX12_gain_34 (by decide) ?_
  refine z_iconst (v := 0) b dX12_gain_36 (by decide) ?_
  refine z_callv b (z_runV (q0 := 0) (As := [.int (-1), .int p0, .int p1, .int 7, .int 0]) (st := []) b (c_X12_searches_2 S p0 p1 h_i_21 h_i_23 h_l_0 h_a_29_992 h_a_28_0 h_a_7_0 h_a_7_1 ⟨by omega, by omega⟩ ⟨by omega, by omega⟩) cf_X12_searches (mw_0 cy a S) rfl wm_X12_436 wi_X12_searches ws_X12_searches dX12_gain_37 rfl (Nat.le_of_ble_eq_true rfl) ⟨by decide, by decide, by decide, by decide⟩) (fun u12743 h12741 => ?_)
  obtain rfl := h12741
  refine z_aload_n b dX12_gain_40 rfl rfl ?_
  refine z_get (q0 := 0) (k9 := 57) (v := .int (fi (si (su (su (sv (su (su (si S 22 (-1)) 29 992 0) 30 0 992) 0 0 1649317774848) 26 0 (-1)) 27 0 (-1)) 21 1) 23)) b (mw_0 cy a (si (su (su (sv (su (su (si S 22 (-1)) 29 992 0) 30 0 992) 0 0 1649317774848) 26 0 (-1)) 27 0 (-1)) 21 1)) rfl in_X12 (by decide) wf_X12_408 rfl dX12_gain_41 ?_
  refine z_eqi h_i_23 ?_
  refine z_if_eq_t (tgt := 50) b dX12_gain_44 (by decide) (by decide) ?_
  refine z_iconst (v := (-1)) b dX12_gain_50 (by decide) ?_
  refine z_istore (lv' := [(5, .int (-1)), (0, .ref (a 0)), (1, .int 1), (2, .int p0), (3, .int p1), (4, .int 1)]) b dX12_gain_51 (by decide) rfl ?_
  refine z_iconst (v := 0) b dX12_gain_53 (by decide) ?_
  refine z_istore (lv' := [(6, .int 0), (5, .int (-1)), (0, .ref (a 0)), (1, .int 1), (2, .int p0), (3, .int p1), (4, .int 1)]) b dX12_gain_54 (by decide) rfl ?_
  refine z_iconst (v := 0) b dX12_gain_56 (by decide) ?_
  refine z_istore (lv' := [(7, .int 0), (6, .int 0), (5, .int (-1)), (0, .ref (a 0)), (1, .int 1), (2, .int p0), (3, .int p1), (4, .int 1)]) b dX12_gain_57 (by decide) rfl ?_
  refine z_iload b dX12_gain_59 rfl ?_
  refine z_aload_n b dX12_gain_61 rfl rfl ?_
  refine z_get (q0 := 0) (k9 := 55) (v := .int 1) b (mw_0 cy a (si (su (su (sv (su (su (si S 22 (-1)) 29 992 0) 30 0 992) 0 0 1649317774848) 26 0 (-1)) 27 0 (-1)) 21 1)) rfl in_X12 (by decide) wf_X12_405 rfl dX12_gain_62 ?_
  refine z_icmp_ge_f (tgt := 147) b dX12_gain_65 (by decide) (by decide) ?_
  refine z_aload_n b dX12_gain_68 rfl rfl ?_
  refine z_aload_n b dX12_gain_69 rfl rfl ?_
  refine z_get (q0 := 0) (k9 := 49) (v := .ref (a 27)) b (mw_0 cy a (si (su (su (sv (su (su (si S 22 (-1)) 29 992 0) 30 0 992) 0 0 1649317774848) 26 0 (-1)) 27 0 (-1)) 21 1)) rfl in_X12 (by decide) wf_X12_97 rfl dX12_gain_70 ?_
  refine z_iload b dX12_gain_73 rfl ?_
  refine y_lald (q0 := 27) (j := 0) (v := 1649317774848) b (mw_27 cy a (si (su (su (sv (su (su (si S 22 (-1)) 29 992 0) 30 0 992) 0 0 1649317774848) 26 0 (-1)) 27 0 (-1)) 21 1)) (by decide) rfl dX12_gain_75 ?_
  refine z_callv b (z_runV (q0 := 0) (As := [.long 1649317774848]) (st := []) b (c_X12_takes (si (su (su (sv (su (su (si S 22 (-1)) 29 992 0) 30 0 992) 0 0 1649317774848) 26 0 (-1)) 27 0 (-1)) 21 1) h_a_4_7 h_a_1_7 h_a_4_6 h_a_1_6 h_a_3_6 h_a_3_2 h_a_2_2 h_a_0_2 h_a_4_3 h_a_1_3 h_a_4_5 h_a_1_5 h_a_3_5 h_a_3_7 h_a_2_1 h_a_0_1 h_a_4_2 h_a_1_2 h_a_4_1 h_a_1_1 h_a_3_1 h_a_3_3 h_a_2_0 h_a_0_0 h_i_0) cf_X12_takes (mw_0 cy a (si (su (su (sv (su (su (si S 22 (-1)) 29 992 0) 30 0 992) 0 0 1649317774848) 26 0 (-1)) 27 0 (-1)) 21 1)) rfl wm_X12_174 wi_X12_takes ws_X12_takes dX12_gain_76 rfl (Nat.le_of_ble_eq_true rfl) ⟨by decide, by decide, by decide, by decide⟩) (fun u12746 h12744 => ?_)
  obtain rfl := h12744
  refine z_aload_n b dX12_gain_79 rfl rfl ?_
  refine z_get (q0 := 0) (k9 := 0) (v := .ref (a 1)) b (mw_0 cy a (si (su (su (sv (su (su (si S 22 (-1)) 29 992 0) 30 0 992) 0 0 1649317774848) 26 0 (-1)) 27 0 (-1)) 21 1)) rfl in_X12 (by decide) wf_X12_13 rfl dX12_gain_80 ?_
  refine z_iload_n b dX12_gain_83 rfl rfl ?_
  refine y_iald (q0 := 1) (j := 1) (v := (ar (si (su (su (sv (su (su (si S 22 (-1)) 29 992 0) 30 0 992) 0 0 1649317774848) 26 0 (-1)) 27 0 (-1)) 21 1) 0 1)) b (mw_1 cy a (si (su (su (sv (su (su (si S 22 (-1)) 29 992 0) 30 0 992) 0 0 1649317774848) 26 0 (-1)) 27 0 (-1)) 21 1)) (by decide) rfl dX12_gain_84 ?_
  refine z_eqi h_a_0_1 ?_
  refine z_aload_n b dX12_gain_85 rfl rfl ?_
  refine z_get (q0 := 0) (k9 := 1) (v := .ref (a 2)) b (mw_0 cy a (si (su (su (sv (su (su (si S 22 (-1)) 29 992 0) 30 0 992) 0 0 1649317774848) 26 0 (-1)) 27 0 (-1)) 21 1)) rfl in_X12 (by decide) wf_X12_17 rfl dX12_gain_86 ?_
  refine z_iconst (v := 3) b dX12_gain_89 (by decide) ?_
  refine z_iload_n b dX12_gain_90 rfl rfl ?_
  refine z_imul (v := 3) b dX12_gain_91 (by decide) ?_
  refine z_iload_n b dX12_gain_92 rfl rfl ?_
  refine z_iconst (v := 0) b dX12_gain_93 (by decide) ?_
  refine z_calli b (z_runS (As := [.int 1, .int 0]) (st := [.int 3, .ref (a 2), .int 0]) b (c_X12_other_4 (si (su (su (sv (su (su (si S 22 (-1)) 29 992 0) 30 0 992) 0 0 1649317774848) 26 0 (-1)) 27 0 (-1)) 21 1) ) cf_X12_other wm_X12_160 ws_X12_other dX12_gain_94 rfl (Nat.le_of_ble_eq_true rfl) ⟨by decide, by decide, by decide, by decide⟩) (fun r12748 u12749 h12747 => ?_)
  obtain ⟨rfl, rfl⟩ := h12747
  refine z_iadd (v := 5) b dX12_gain_97 (by decide) ?_
  refine y_iald (q0 := 2) (j := 5) (v := (ar (si (su (su (sv (su (su (si S 22 (-1)) 29 992 0) 30 0 992) 0 0 1649317774848) 26 0 (-1)) 27 0 (-1)) 21 1) 1 5)) b (mw_2 cy a (si (su (su (sv (su (su (si S 22 (-1)) 29 992 0) 30 0 992) 0 0 1649317774848) 26 0 (-1)) 27 0 (-1)) 21 1)) (by decide) rfl dX12_gain_98 ?_
  refine z_eqi h_a_1_5 ?_
  refine z_isub (v := 0) b dX12_gain_99 (by decide) ?_
  refine z_aload_n b dX12_gain_100 rfl rfl ?_
  refine z_get (q0 := 0) (k9 := 1) (v := .ref (a 2)) b (mw_0 cy a (si (su (su (sv (su (su (si S 22 (-1)) 29 992 0) 30 0 992) 0 0 1649317774848) 26 0 (-1)) 27 0 (-1)) 21 1)) rfl in_X12 (by decide) wf_X12_17 rfl dX12_gain_101 ?_
  refine z_iconst (v := 3) b dX12_gain_104 (by decide) ?_
  refine z_iload_n b dX12_gain_105 rfl rfl ?_
  refine z_imul (v := 3) b dX12_gain_106 (by decide) ?_
  refine z_iload_n b dX12_gain_107 rfl rfl ?_
  refine z_iconst (v := 1) b dX12_gain_108 (by decide) ?_
  refine z_calli b (z_runS (As := [.int 1, .int 1]) (st := [.int 3, .ref (a 2), .int 0]) b (c_X12_other_3 (si (su (su (sv (su (su (si S 22 (-1)) 29 992 0) 30 0 992) 0 0 1649317774848) 26 0 (-1)) 27 0 (-1)) 21 1) ) cf_X12_other wm_X12_160 ws_X12_other dX12_gain_109 rfl (Nat.le_of_ble_eq_true rfl) ⟨by decide, by decide, by decide, by decide⟩) (fun r12751 u12752 h12750 => ?_)
  obtain ⟨rfl, rfl⟩ := h12750
  refine z_iadd (v := 3) b dX12_gain_112 (by decide) ?_
  refine y_iald (q0 := 2) (j := 3) (v := (ar (si (su (su (sv (su (su (si S 22 (-1)) 29 992 0) 30 0 992) 0 0 1649317774848) 26 0 (-1)) 27 0 (-1)) 21 1) 1 3)) b (mw_2 cy a (si (su (su (sv (su (su (si S 22 (-1)) 29 992 0) 30 0 992) 0 0 1649317774848) 26 0 (-1)) 27 0 (-1)) 21 1)) (by decide) rfl dX12_gain_113 ?_
  refine z_eqi h_a_1_3 ?_
  refine z_isub (v := 0) b dX12_gain_114 (by decide) ?_
  refine z_istore (lv' := [(8, .int 0), (7, .int 0), (6, .int 0), (5, .int (-1)), (0, .ref (a 0)), (1, .int 1), (2, .int p0), (3, .int p1), (4, .int 1)]) b dX12_gain_115 (by decide) rfl ?_
  refine z_iload b dX12_gain_117 rfl ?_
  refine z_iconst (v := (-1)) b dX12_gain_119 (by decide) ?_
  refine z_icmp_eq_t (tgt := 133) b dX12_gain_120 (by decide) (by decide) ?_
  refine z_iload b dX12_gain_133 rfl ?_
  refine z_istore (lv' := [(5, .int 0), (8, .int 0), (7, .int 0), (6, .int 0), (0, .ref (a 0)), (1, .int 1), (2, .int p0), (3, .int p1), (4, .int 1)]) b dX12_gain_135 (by decide) rfl ?_
  refine z_iload b dX12_gain_137 rfl ?_
  refine z_istore (lv' := [(6, .int 0), (5, .int 0), (8, .int 0), (7, .int 0), (0, .ref (a 0)), (1, .int 1), (2, .int p0), (3, .int p1), (4, .int 1)]) b dX12_gain_139 (by decide) rfl ?_
  refine z_iinc (k9 := 3) (v := 1) (lv' := [(7, .int 1), (6, .int 0), (5, .int 0), (8, .int 0), (0, .ref (a 0)), (1, .int 1), (2, .int p0), (3, .int p1), (4, .int 1)]) b dX12_gain_141 rfl (by decide) (by decide) rfl ?_
  refine z_goto (tgt := 59) b dX12_gain_144 (by decide) ?_
  refine z_iload b dX12_gain_59 rfl ?_
  refine z_aload_n b dX12_gain_61 rfl rfl ?_
  refine z_get (q0 := 0) (k9 := 55) (v := .int 1) b (mw_0 cy a (si (su (su (sv (su (su (si S 22 (-1)) 29 992 0) 30 0 992) 0 0 1649317774848) 26 0 (-1)) 27 0 (-1)) 21 1)) rfl in_X12 (by decide) wf_X12_405 rfl dX12_gain_62 ?_
  refine z_icmp_ge_t (tgt := 147) b dX12_gain_65 (by decide) (by decide) ?_
  refine z_iload b dX12_gain_147 rfl ?_
  refine z_iconst (v := 2) b dX12_gain_149 (by decide) ?_
  refine z_icmp_ge_f (tgt := 171) b dX12_gain_150 (by decide) (by decide) ?_
  refine z_iload b dX12_gain_153 rfl ?_
  refine z_if_ne_t (tgt := 163) b dX12_gain_155 (by decide) (by decide) ?_
  refine z_aload_n b dX12_gain_163 rfl rfl ?_
  refine z_get (q0 := 0) (k9 := 52) (v := .ref (a 30)) b (mw_0 cy a (si (su (su (sv (su (su (si S 22 (-1)) 29 992 0) 30 0 992) 0 0 1649317774848) 26 0 (-1)) 27 0 (-1)) 21 1)) rfl in_X12 (by decide) wf_X12_107 rfl dX12_gain_164 ?_
  refine z_iload b dX12_gain_167 rfl ?_
  refine y_iald (q0 := 30) (j := 0) (v := (ar (si (su (su (sv (su (su (si S 22 (-1)) 29 992 0) 30 0 992) 0 0 1649317774848) 26 0 (-1)) 27 0 (-1)) 21 1) 28 0)) b (mw_30 cy a (si (su (su (sv (su (su (si S 22 (-1)) 29 992 0) 30 0 992) 0 0 1649317774848) 26 0 (-1)) 27 0 (-1)) 21 1)) (by decide) rfl dX12_gain_169 ?_
  refine z_eqi h_a_28_0 ?_
  exact z_iret (u := (si (su (su (sv (su (su (si S 22 (-1)) 29 992 0) 30 0 992) 0 0 1649317774848) 26 0 (-1)) 27 0 (-1)) 21 1)) b rfl dX12_gain_170 ⟨rfl, rfl⟩ rfl (by decide) (by decide)

set_option maxHeartbeats 4000000 in
set_option maxRecDepth 100000 in
theorem c_X11_gain_33 {l : Launch} {D : va_G} {cy : Nat → ClassId} {T0 tB tE : Nat} {a : Nat → Nat} {rw : Nat → Option Nat} (S : GS) (p0 : Int32) (p1 : Int32) (p2 : Int32) (h_i_19 : fi S 19 = 0) (h_i_24 : fi S 24 = 0) (h_i_22 : fi S 22 = 0) (h_i_18 : fi S 18 = 0) (h_i_25 : fi S 25 = 0) (h_i_23 : fi S 23 = 0) (h_i_26 : fi S 26 = 0) (h_a_4_50 : ar S 4 50 = 0) (h_a_4_40 : ar S 4 40 = 3) (h_a_4_41 : ar S 4 41 = 3) (h_a_4_42 : ar S 4 42 = 3) (h_a_4_0 : ar S 4 0 = 0) (h_a_4_11 : ar S 4 11 = 0) (h_a_4_21 : ar S 4 21 = 0) (h_a_4_31 : ar S 4 31 = 0) (h_a_4_12 : ar S 4 12 = 0) (h_a_4_22 : ar S 4 22 = 0) (h_a_4_32 : ar S 4 32 = 0) (h_a_4_1 : ar S 4 1 = 0) (h_a_4_13 : ar S 4 13 = 0) (h_a_4_23 : ar S 4 23 = 0) (h_a_4_33 : ar S 4 33 = 0) (h_a_4_15 : ar S 4 15 = 0) (h_a_4_25 : ar S 4 25 = 0) (h_a_4_35 : ar S 4 35 = 0) (h_a_4_2 : ar S 4 2 = 0) (h_a_4_16 : ar S 4 16 = 0) (h_a_4_26 : ar S 4 26 = 0) (h_a_4_36 : ar S 4 36 = 0) (h_a_4_17 : ar S 4 17 = 0) (h_a_4_27 : ar S 4 27 = 0) (h_a_4_37 : ar S 4 37 = 0) (h_a_10_0 : ar S 10 0 = 0) (h_a_9_50 : ar S 9 50 = 0) (h_a_9_40 : ar S 9 40 = 3) (h_a_9_41 : ar S 9 41 = 3) (h_a_9_42 : ar S 9 42 = 3) (h_a_9_0 : ar S 9 0 = 0) (h_a_9_11 : ar S 9 11 = 0) (h_a_9_21 : ar S 9 21 = 0) (h_a_9_31 : ar S 9 31 = 0) (h_a_9_12 : ar S 9 12 = 0) (h_a_9_22 : ar S 9 22 = 0) (h_a_9_32 : ar S 9 32 = 0) (h_a_9_1 : ar S 9 1 = 0) (h_a_9_13 : ar S 9 13 = 0) (h_a_9_23 : ar S 9 23 = 0) (h_a_9_33 : ar S 9 33 = 0) (h_a_9_15 : ar S 9 15 = 0) (h_a_9_25 : ar S 9 25 = 0) (h_a_9_35 : ar S 9 35 = 0) (h_a_9_2 : ar S 9 2 = 0) (h_a_9_16 : ar S 9 16 = 0) (h_a_9_26 : ar S 9 26 = 0) (h_a_9_36 : ar S 9 36 = 0) (h_a_9_17 : ar S 9 17 = 0) (h_a_9_27 : ar S 9 27 = 0) (h_a_9_37 : ar S 9 37 = 0) (hr_p0 : 1 ≤ p0.toInt ∧ p0.toInt ≤ 3) (hr_p1 : 1 ≤ p1.toInt ∧ p1.toInt ≤ 6) (hr_p2 : 2 ≤ p2.toInt ∧ p2.toInt ≤ 7) : Ct l D cy T0 tB tE yX11_gain cX11_gain 7 (some .int) 5 117 0 0 (cw cy tE a rw S) [.ref (a 0), .int 1, .int p0, .int p1, .int p2] (QI D (U := GS) (fun r u => (((0 ≤ p2.toInt) ∧ (((0 < ((fi (su (si (su (su (sv (sa (si (si (si (si S 24 1) 19 p0) 20 p1) 21 7) 13 (fil 1024 0 (ar (si (si (si (si S 24 1) 19 p0) 20 p1) 21 7) 13))) 2 0 4128768) 11 0 (-1)) 12 0 (-1)) 25 1) 13 978 1) 20) : Int32).toInt))) ∧ (p2.toInt ≠ 0) ∧ (p2.toInt ≠ 1)) ∧ (-100) = r ∧ (si (su (si (su (su (sv (sa (si (si (si (si S 24 1) 19 p0) 20 p1) 21 7) 13 (fil 1024 0 (ar (si (si (si (si S 24 1) 19 p0) 20 p1) 21 7) 13))) 2 0 4128768) 11 0 (-1)) 12 0 (-1)) 25 1) 13 978 1) 23 1) = u) ∨ (((0 ≤ p2.toInt) ∧ (((((fi (su (si (su (su (sv (sa (si (si (si (si S 24 1) 19 p0) 20 p1) 21 7) 13 (fil 1024 0 (ar (si (si (si (si S 24 1) 19 p0) 20 p1) 21 7) 13))) 2 0 4128768) 11 0 (-1)) 12 0 (-1)) 25 1) 13 978 1) 20) : Int32).toInt ≤ 0))) ∧ (p2.toInt ≠ 0) ∧ (p2.toInt ≠ 1)) ∧ (-100) = r ∧ (su (si (su (su (sv (sa (si (si (si (si S 24 1) 19 p0) 20 p1) 21 7) 13 (fil 1024 0 (ar (si (si (si (si S 24 1) 19 p0) 20 p1) 21 7) 13))) 2 0 4128768) 11 0 (-1)) 12 0 (-1)) 25 1) 13 978 1) = u)) (cw cy tE a rw)) := by
  refine Ct.ofZ RX11 "gain" [(0, .ref (a 0)), (1, .int 1), (2, .int p0), (3, .int p1), (4, .int p2)] rfl rfl rfl rfl (Nat.le_of_ble_eq_true rfl) ?_
  intro p e R s m args below meth c A b
  refine z_iload_n b dX11_gain_0 rfl rfl ?_
  refine z_calli b (z_runS (As := [.int 1]) (st := []) b (c_X11_isPerson_4 S ) cf_X11_isPerson wm_X11_69 ws_X11_isPerson dX11_gain_1 rfl (Nat.le_of_ble_eq_true rfl) ⟨by decide, by decide, by decide, by decide⟩) (fun r12754 u12755 h12753 => ?_)
  obtain ⟨rfl, rfl⟩ := h12753
  refine z_if_eq_f (tgt := 26) b dX11_gain_4 (by decide) (by decide) ?_
  refine z_iload_n b dX11_gain_7 rfl rfl ?_
  refine z_calli b (z_runS (As := [.int p0]) (st := []) b (c_X11_areLaws_3 S p0 ⟨by omega, by omega⟩) cf_X11_areLaws wm_X11_181 ws_X11_areLaws dX11_gain_8 rfl (Nat.le_of_ble_eq_true rfl) ⟨by decide, by decide, by decide, by decide⟩) (fun r12757 u12758 h12756 => ?_)
  obtain ⟨rfl, rfl⟩ := h12756
  refine z_if_eq_f (tgt := 26) b dX11_gain_11 (by decide) (by decide) ?_
  refine z_iload_n b dX11_gain_14 rfl rfl ?_
  refine z_calli b (z_runS (As := [.int p1]) (st := []) b (c_X11_isDepth_3 S p1 ⟨by omega, by omega⟩) cf_X11_isDepth wm_X11_203 ws_X11_isDepth dX11_gain_15 rfl (Nat.le_of_ble_eq_true rfl) ⟨by decide, by decide, by decide, by decide⟩) (fun r12760 u12761 h12759 => ?_)
  obtain ⟨rfl, rfl⟩ := h12759
  refine z_if_eq_f (tgt := 26) b dX11_gain_18 (by decide) (by decide) ?_
  refine z_iload b dX11_gain_21 rfl ?_
  refine y_if_ge (tgt := 29) (xl := p2.toInt) b rfl dX11_gain_23 (by decide) (fun c12762 => ?_) (fun c12762 => ?_)
  · refine z_aload_n b dX11_gain_29 rfl rfl ?_
    refine z_get (q0 := 0) (k9 := 6) (v := .ref (a 25)) b (cw_0 cy tE a rw S) rfl in_X11 (by decide) wf_X11_52 rfl dX11_gain_30 ?_
    refine z_iload_n b dX11_gain_33 rfl rfl ?_
    refine z_iload_n b dX11_gain_34 rfl rfl ?_
    refine z_bipush (v := 7) b dX11_gain_35 (by decide) ?_
    refine z_iconst (v := 0) b dX11_gain_37 (by decide) ?_
    refine z_callv b (z_runV (q0 := 25) (As := [.int p0, .int p1, .int 7, .int 0]) (st := []) b (c_X8_begin_2 S p0 p1 h_i_19 h_i_24 h_i_22 h_i_18 h_i_25 h_i_23 h_i_26 h_a_4_50 h_a_4_40 h_a_4_41 h_a_4_42 h_a_4_0 h_a_4_11 h_a_4_21 h_a_4_31 h_a_4_12 h_a_4_22 h_a_4_32 h_a_4_1 h_a_4_13 h_a_4_23 h_a_4_33 h_a_4_15 h_a_4_25 h_a_4_35 h_a_4_2 h_a_4_16 h_a_4_26 h_a_4_36 h_a_4_17 h_a_4_27 h_a_4_37 h_a_10_0 ⟨by omega, by omega⟩ ⟨by omega, by omega⟩) cf_X8_begin (cw_25 cy tE a rw S) rfl wm_X11_206 wi_X8_begin ws_X8_begin dX11_gain_38 rfl (Nat.le_of_ble_eq_true rfl) ⟨by decide, by decide, by decide, by decide⟩) (fun u12765 h12763 => ?_)
    obtain rfl := h12763
    refine z_aload_n b dX11_gain_41 rfl rfl ?_
    refine z_get (q0 := 0) (k9 := 6) (v := .ref (a 25)) b (cw_0 cy tE a rw (su (si (su (su (sv (sa (si (si (si (si S 24 1) 19 p0) 20 p1) 21 7) 13 (fil 1024 0 (ar (si (si (si (si S 24 1) 19 p0) 20 p1) 21 7) 13))) 2 0 4128768) 11 0 (-1)) 12 0 (-1)) 25 1) 13 978 1)) rfl in_X11 (by decide) wf_X11_52 rfl dX11_gain_42 ?_
    refine z_callv b (z_runV (q0 := 25) (As := []) (st := []) b (c_X8_finish_2 (su (si (su (su (sv (sa (si (si (si (si S 24 1) 19 p0) 20 p1) 21 7) 13 (fil 1024 0 (ar (si (si (si (si S 24 1) 19 p0) 20 p1) 21 7) 13))) 2 0 4128768) 11 0 (-1)) 12 0 (-1)) 25 1) 13 978 1) h_i_26 h_i_23 rfl h_a_10_0 rfl h_a_9_50 h_a_9_40 h_a_9_41 h_a_9_42 h_a_9_0 h_a_9_11 h_a_9_21 h_a_9_31 h_a_9_12 h_a_9_22 h_a_9_32 h_a_9_1 h_a_9_13 h_a_9_23 h_a_9_33 h_a_9_15 h_a_9_25 h_a_9_35 h_a_9_2 h_a_9_16 h_a_9_26 h_a_9_36 h_a_9_17 h_a_9_27 h_a_9_37 h_i_18) cf_X8_finish (cw_25 cy tE a rw (su (si (su (su (sv (sa (si (si (si (si S 24 1) 19 p0) 20 p1) 21 7) 13 (fil 1024 0 (ar (si (si (si (si S 24 1) 19 p0) 20 p1) 21 7) 13))) 2 0 4128768) 11 0 (-1)) 12 0 (-1)) 25 1) 13 978 1)) rfl wm_X11_232 wi_X8_finish ws_X8_finish dX11_gain_45 rfl (Nat.le_of_ble_eq_true rfl) ⟨by decide, by decide, by decide, by decide⟩) (fun u12768 h12766 => ?_)
    rcases h12766 with ⟨c12769, rfl⟩ | ⟨c12770, rfl⟩
    · refine z_aload_n b dX11_gain_48 rfl rfl ?_
      refine z_get (q0 := 0) (k9 := 6) (v := .ref (a 25)) b (cw_0 cy tE a rw (si (su (si (su (su (sv (sa (si (si (si (si S 24 1) 19 p0) 20 p1) 21 7) 13 (fil 1024 0 (ar (si (si (si (si S 24 1) 19 p0) 20 p1) 21 7) 13))) 2 0 4128768) 11 0 (-1)) 12 0 (-1)) 25 1) 13 978 1) 23 1)) rfl in_X11 (by decide) wf_X11_52 rfl dX11_gain_49 ?_
      refine z_get (q0 := 25) (k9 := 18) (v := .int (fi (si (su (si (su (su (sv (sa (si (si (si (si S 24 1) 19 p0) 20 p1) 21 7) 13 (fil 1024 0 (ar (si (si (si (si S 24 1) 19 p0) 20 p1) 21 7) 13))) 2 0 4128768) 11 0 (-1)) 12 0 (-1)) 25 1) 13 978 1) 23 1) 26)) b (cw_25 cy tE a rw (si (su (si (su (su (sv (sa (si (si (si (si S 24 1) 19 p0) 20 p1) 21 7) 13 (fil 1024 0 (ar (si (si (si (si S 24 1) 19 p0) 20 p1) 21 7) 13))) 2 0 4128768) 11 0 (-1)) 12 0 (-1)) 25 1) 13 978 1) 23 1)) rfl in_X8 (by decide) wf_X11_214 rfl dX11_gain_52 ?_
      refine z_eqi h_i_26 ?_
      refine z_if_eq_t (tgt := 61) b dX11_gain_55 (by decide) (by decide) ?_
      refine z_aload_n b dX11_gain_61 rfl rfl ?_
      refine z_get (q0 := 0) (k9 := 6) (v := .ref (a 25)) b (cw_0 cy tE a rw (si (su (si (su (su (sv (sa (si (si (si (si S 24 1) 19 p0) 20 p1) 21 7) 13 (fil 1024 0 (ar (si (si (si (si S 24 1) 19 p0) 20 p1) 21 7) 13))) 2 0 4128768) 11 0 (-1)) 12 0 (-1)) 25 1) 13 978 1) 23 1)) rfl in_X11 (by decide) wf_X11_52 rfl dX11_gain_62 ?_
      refine z_iload_n b dX11_gain_65 rfl rfl ?_
      refine z_calli b (z_runV (q0 := 25) (As := [.int 1]) (st := []) b (c_X8_richest_2 (si (su (si (su (su (sv (sa (si (si (si (si S 24 1) 19 p0) 20 p1) 21 7) 13 (fil 1024 0 (ar (si (si (si (si S 24 1) 19 p0) 20 p1) 21 7) 13))) 2 0 4128768) 11 0 (-1)) 12 0 (-1)) 25 1) 13 978 1) 23 1) rfl rfl h_a_9_50 h_a_9_40 h_a_9_41 h_a_9_42 h_a_9_0 h_a_9_11 h_a_9_21 h_a_9_31 h_a_9_12 h_a_9_22 h_a_9_32 h_a_9_1 h_a_9_13 h_a_9_23 h_a_9_33 h_a_9_15 h_a_9_25 h_a_9_35 h_a_9_2 h_a_9_16 h_a_9_26 h_a_9_36 h_a_9_17 h_a_9_27 h_a_9_37) cf_X8_richest (cw_25 cy tE a rw (si (su (si (su (su (sv (sa (si (si (si (si S 24 1) 19 p0) 20 p1) 21 7) 13 (fil 1024 0 (ar (si (si (si (si S 24 1) 19 p0) 20 p1) 21 7) 13))) 2 0 4128768) 11 0 (-1)) 12 0 (-1)) 25 1) 13 978 1) 23 1)) rfl wm_X11_238 wi_X8_richest ws_X8_richest dX11_gain_66 rfl (Nat.le_of_ble_eq_true rfl) ⟨by decide, by decide, by decide, by decide⟩) (fun r12772 u12773 h12771 => ?_)
      obtain ⟨rfl, rfl⟩ := h12771
      refine z_istore (lv' := [(5, .int 0), (0, .ref (a 0)), (1, .int 1), (2, .int p0), (3, .int p1), (4, .int p2)]) b dX11_gain_69 (by decide) rfl ?_
      refine z_iload b dX11_gain_71 rfl ?_
      refine y_if_ne (tgt := 87) (xl := p2.toInt) b rfl dX11_gain_73 (by decide) (fun c12774 => ?_) (fun c12774 => ?_)
      · refine z_iload b dX11_gain_87 rfl ?_
        refine z_iconst (v := 1) b dX11_gain_89 (by decide) ?_
        refine y_icmp_ne (tgt := 103) (xl := p2.toInt) (yl := 1) b rfl (by decide) dX11_gain_90 (by decide) (fun c12775 => ?_) (fun c12775 => ?_)
        · refine z_aload_n b dX11_gain_103 rfl rfl ?_
          refine z_get (q0 := 0) (k9 := 6) (v := .ref (a 25)) b (cw_0 cy tE a rw (si (su (si (su (su (sv (sa (si (si (si (si S 24 1) 19 p0) 20 p1) 21 7) 13 (fil 1024 0 (ar (si (si (si (si S 24 1) 19 p0) 20 p1) 21 7) 13))) 2 0 4128768) 11 0 (-1)) 12 0 (-1)) 25 1) 13 978 1) 23 1)) rfl in_X11 (by decide) wf_X11_52 rfl dX11_gain_104 ?_
          refine z_iload b dX11_gain_107 rfl ?_
          refine z_iload b dX11_gain_109 rfl ?_
          refine z_iconst (v := 2) b dX11_gain_111 (by decide) ?_
          refine z_isub b dX11_gain_112 rfl ?_
          have f12776 : ((p2 - 2) : Int32).toInt = p2.toInt + (-2) := zisub (k := 2) (by decide) (by omega) (by omega)
          refine z_calli b (z_runV (q0 := 25) (As := [.int 0, .int (p2 - 2)]) (st := []) b (c_X8_code (si (su (si (su (su (sv (sa (si (si (si (si S 24 1) 19 p0) 20 p1) 21 7) 13 (fil 1024 0 (ar (si (si (si (si S 24 1) 19 p0) 20 p1) 21 7) 13))) 2 0 4128768) 11 0 (-1)) 12 0 (-1)) 25 1) 13 978 1) 23 1) (p2 - 2) rfl h_a_10_0 ⟨by omega, by omega⟩) cf_X8_code (cw_25 cy tE a rw (si (su (si (su (su (sv (sa (si (si (si (si S 24 1) 19 p0) 20 p1) 21 7) 13 (fil 1024 0 (ar (si (si (si (si S 24 1) 19 p0) 20 p1) 21 7) 13))) 2 0 4128768) 11 0 (-1)) 12 0 (-1)) 25 1) 13 978 1) 23 1)) rfl wm_X11_219 wi_X8_code ws_X8_code dX11_gain_113 rfl (Nat.le_of_ble_eq_true rfl) ⟨by decide, by decide, by decide, by decide⟩) (fun r12778 u12779 h12777 => ?_)
          obtain ⟨rfl, rfl⟩ := h12777
          refine z_istore (lv' := [(6, .int (-1)), (5, .int 0), (0, .ref (a 0)), (1, .int 1), (2, .int p0), (3, .int p1), (4, .int p2)]) b dX11_gain_116 (by decide) rfl ?_
          refine z_iload b dX11_gain_118 rfl ?_
          refine z_iconst (v := (-1)) b dX11_gain_120 (by decide) ?_
          refine z_icmp_ne_f (tgt := 129) b dX11_gain_121 (by decide) (by decide) ?_
          refine z_bipush (v := (-100)) b dX11_gain_124 (by decide) ?_
          refine z_goto (tgt := 131) b dX11_gain_126 (by decide) ?_
          exact z_iret (u := (si (su (si (su (su (sv (sa (si (si (si (si S 24 1) 19 p0) 20 p1) 21 7) 13 (fil 1024 0 (ar (si (si (si (si S 24 1) 19 p0) 20 p1) 21 7) 13))) 2 0 4128768) 11 0 (-1)) 12 0 (-1)) 25 1) 13 978 1) 23 1)) b rfl dX11_gain_131 (Or.inl ⟨⟨c12762, c12769, c12774, c12775⟩, rfl, rfl⟩) rfl (by decide) (by decide)
        · exfalso; omega
      · exfalso; omega
    · refine z_aload_n b dX11_gain_48 rfl rfl ?_
      refine z_get (q0 := 0) (k9 := 6) (v := .ref (a 25)) b (cw_0 cy tE a rw (su (si (su (su (sv (sa (si (si (si (si S 24 1) 19 p0) 20 p1) 21 7) 13 (fil 1024 0 (ar (si (si (si (si S 24 1) 19 p0) 20 p1) 21 7) 13))) 2 0 4128768) 11 0 (-1)) 12 0 (-1)) 25 1) 13 978 1)) rfl in_X11 (by decide) wf_X11_52 rfl dX11_gain_49 ?_
      refine z_get (q0 := 25) (k9 := 18) (v := .int (fi (su (si (su (su (sv (sa (si (si (si (si S 24 1) 19 p0) 20 p1) 21 7) 13 (fil 1024 0 (ar (si (si (si (si S 24 1) 19 p0) 20 p1) 21 7) 13))) 2 0 4128768) 11 0 (-1)) 12 0 (-1)) 25 1) 13 978 1) 26)) b (cw_25 cy tE a rw (su (si (su (su (sv (sa (si (si (si (si S 24 1) 19 p0) 20 p1) 21 7) 13 (fil 1024 0 (ar (si (si (si (si S 24 1) 19 p0) 20 p1) 21 7) 13))) 2 0 4128768) 11 0 (-1)) 12 0 (-1)) 25 1) 13 978 1)) rfl in_X8 (by decide) wf_X11_214 rfl dX11_gain_52 ?_
      refine z_eqi h_i_26 ?_
      refine z_if_eq_t (tgt := 61) b dX11_gain_55 (by decide) (by decide) ?_
      refine z_aload_n b dX11_gain_61 rfl rfl ?_
      refine z_get (q0 := 0) (k9 := 6) (v := .ref (a 25)) b (cw_0 cy tE a rw (su (si (su (su (sv (sa (si (si (si (si S 24 1) 19 p0) 20 p1) 21 7) 13 (fil 1024 0 (ar (si (si (si (si S 24 1) 19 p0) 20 p1) 21 7) 13))) 2 0 4128768) 11 0 (-1)) 12 0 (-1)) 25 1) 13 978 1)) rfl in_X11 (by decide) wf_X11_52 rfl dX11_gain_62 ?_
      refine z_iload_n b dX11_gain_65 rfl rfl ?_
      refine z_calli b (z_runV (q0 := 25) (As := [.int 1]) (st := []) b (c_X8_richest_2 (su (si (su (su (sv (sa (si (si (si (si S 24 1) 19 p0) 20 p1) 21 7) 13 (fil 1024 0 (ar (si (si (si (si S 24 1) 19 p0) 20 p1) 21 7) 13))) 2 0 4128768) 11 0 (-1)) 12 0 (-1)) 25 1) 13 978 1) rfl rfl h_a_9_50 h_a_9_40 h_a_9_41 h_a_9_42 h_a_9_0 h_a_9_11 h_a_9_21 h_a_9_31 h_a_9_12 h_a_9_22 h_a_9_32 h_a_9_1 h_a_9_13 h_a_9_23 h_a_9_33 h_a_9_15 h_a_9_25 h_a_9_35 h_a_9_2 h_a_9_16 h_a_9_26 h_a_9_36 h_a_9_17 h_a_9_27 h_a_9_37) cf_X8_richest (cw_25 cy tE a rw (su (si (su (su (sv (sa (si (si (si (si S 24 1) 19 p0) 20 p1) 21 7) 13 (fil 1024 0 (ar (si (si (si (si S 24 1) 19 p0) 20 p1) 21 7) 13))) 2 0 4128768) 11 0 (-1)) 12 0 (-1)) 25 1) 13 978 1)) rfl wm_X11_238 wi_X8_richest ws_X8_richest dX11_gain_66 rfl (Nat.le_of_ble_eq_true rfl) ⟨by decide, by decide, by decide, by decide⟩) (fun r12781 u12782 h12780 => ?_)
      obtain ⟨rfl, rfl⟩ := h12780
      refine z_istore (lv' := [(5, .int 0), (0, .ref (a 0)), (1, .int 1), (2, .int p0), (3, .int p1), (4, .int p2)]) b dX11_gain_69 (by decide) rfl ?_
      refine z_iload b dX11_gain_71 rfl ?_
      refine y_if_ne (tgt := 87) (xl := p2.toInt) b rfl dX11_gain_73 (by decide) (fun c12783 => ?_) (fun c12783 => ?_)
      · refine z_iload b dX11_gain_87 rfl ?_
        refine z_iconst (v := 1) b dX11_gain_89 (by decide) ?_
        refine y_icmp_ne (tgt := 103) (xl := p2.toInt) (yl := 1) b rfl (by decide) dX11_gain_90 (by decide) (fun c12784 => ?_) (fun c12784 => ?_)
        · refine z_aload_n b dX11_gain_103 rfl rfl ?_
          refine z_get (q0 := 0) (k9 := 6) (v := .ref (a 25)) b (cw_0 cy tE a rw (su (si (su (su (sv (sa (si (si (si (si S 24 1) 19 p0) 20 p1) 21 7) 13 (fil 1024 0 (ar (si (si (si (si S 24 1) 19 p0) 20 p1) 21 7) 13))) 2 0 4128768) 11 0 (-1)) 12 0 (-1)) 25 1) 13 978 1)) rfl in_X11 (by decide) wf_X11_52 rfl dX11_gain_104 ?_
          refine z_iload b dX11_gain_107 rfl ?_
          refine z_iload b dX11_gain_109 rfl ?_
          refine z_iconst (v := 2) b dX11_gain_111 (by decide) ?_
          refine z_isub b dX11_gain_112 rfl ?_
          have f12785 : ((p2 - 2) : Int32).toInt = p2.toInt + (-2) := zisub (k := 2) (by decide) (by omega) (by omega)
          refine z_calli b (z_runV (q0 := 25) (As := [.int 0, .int (p2 - 2)]) (st := []) b (c_X8_code (su (si (su (su (sv (sa (si (si (si (si S 24 1) 19 p0) 20 p1) 21 7) 13 (fil 1024 0 (ar (si (si (si (si S 24 1) 19 p0) 20 p1) 21 7) 13))) 2 0 4128768) 11 0 (-1)) 12 0 (-1)) 25 1) 13 978 1) (p2 - 2) rfl h_a_10_0 ⟨by omega, by omega⟩) cf_X8_code (cw_25 cy tE a rw (su (si (su (su (sv (sa (si (si (si (si S 24 1) 19 p0) 20 p1) 21 7) 13 (fil 1024 0 (ar (si (si (si (si S 24 1) 19 p0) 20 p1) 21 7) 13))) 2 0 4128768) 11 0 (-1)) 12 0 (-1)) 25 1) 13 978 1)) rfl wm_X11_219 wi_X8_code ws_X8_code dX11_gain_113 rfl (Nat.le_of_ble_eq_true rfl) ⟨by decide, by decide, by decide, by decide⟩) (fun r12787 u12788 h12786 => ?_)
          obtain ⟨rfl, rfl⟩ := h12786
          refine z_istore (lv' := [(6, .int (-1)), (5, .int 0), (0, .ref (a 0)), (1, .int 1), (2, .int p0), (3, .int p1), (4, .int p2)]) b dX11_gain_116 (by decide) rfl ?_
          refine z_iload b dX11_gain_118 rfl ?_
          refine z_iconst (v := (-1)) b dX11_gain_120 (by decide) ?_
          refine z_icmp_ne_f (tgt := 129) b dX11_gain_121 (by decide) (by decide) ?_
          refine z_bipush (v := (-100)) b dX11_gain_124 (by decide) ?_
          refine z_goto (tgt := 131) b dX11_gain_126 (by decide) ?_
          exact z_iret (u := (su (si (su (su (sv (sa (si (si (si (si S 24 1) 19 p0) 20 p1) 21 7) 13 (fil 1024 0 (ar (si (si (si (si S 24 1) 19 p0) 20 p1) 21 7) 13))) 2 0 4128768) 11 0 (-1)) 12 0 (-1)) 25 1) 13 978 1)) b rfl dX11_gain_131 (Or.inr ⟨⟨c12762, c12770, c12783, c12784⟩, rfl, rfl⟩) rfl (by decide) (by decide)
        · exfalso; omega
      · exfalso; omega
  · exfalso; omega

set_option maxHeartbeats 4000000 in
set_option maxRecDepth 100000 in
theorem c_X12_gain_33 {l : Launch} {D : va_G} {cy : Nat → ClassId} {T0 tB tE : Nat} {a : Nat → Nat} (S : GS) (p0 : Int32) (p1 : Int32) (p2 : Int32) (h_i_21 : fi S 21 = 0) (h_i_23 : fi S 23 = 0) (h_l_0 : fl S 0 = 1649317774848) (h_a_29_992 : ar S 29 992 = (-1)) (h_a_28_0 : ar S 28 0 = 0) (h_a_7_0 : ar S 7 0 = 0) (h_a_7_1 : ar S 7 1 = 0) (h_a_4_7 : ar S 4 7 = 0) (h_a_1_7 : ar S 1 7 = 0) (h_a_4_6 : ar S 4 6 = 0) (h_a_1_6 : ar S 1 6 = 0) (h_a_3_6 : ar S 3 6 = 0) (h_a_3_2 : ar S 3 2 = 0) (h_a_2_2 : ar S 2 2 = 3) (h_a_0_2 : ar S 0 2 = 0) (h_a_4_3 : ar S 4 3 = 0) (h_a_1_3 : ar S 1 3 = 0) (h_a_4_5 : ar S 4 5 = 0) (h_a_1_5 : ar S 1 5 = 0) (h_a_3_5 : ar S 3 5 = 0) (h_a_3_7 : ar S 3 7 = 0) (h_a_2_1 : ar S 2 1 = 3) (h_a_0_1 : ar S 0 1 = 0) (h_a_4_2 : ar S 4 2 = 0) (h_a_1_2 : ar S 1 2 = 0) (h_a_4_1 : ar S 4 1 = 0) (h_a_1_1 : ar S 1 1 = 0) (h_a_3_1 : ar S 3 1 = 0) (h_a_3_3 : ar S 3 3 = 0) (h_a_2_0 : ar S 2 0 = 3) (h_a_0_0 : ar S 0 0 = 0) (h_i_0 : fi S 0 = 0) (hr_p0 : 1 ≤ p0.toInt ∧ p0.toInt ≤ 3) (hr_p1 : 1 ≤ p1.toInt ∧ p1.toInt ≤ 6) (hr_p2 : 2 ≤ p2.toInt ∧ p2.toInt ≤ 7) : Ct l D cy T0 tB tE yX12_gain cX12_gain 9 (some .int) 4 99 0 0 (mw cy a S) [.ref (a 0), .int 1, .int p0, .int p1, .int p2] (QI D (U := GS) (fun r u => (-100) = r ∧ (si (su (su (sv (su (su (si S 22 (-1)) 29 992 0) 30 0 992) 0 0 1649317774848) 26 0 (-1)) 27 0 (-1)) 21 1) = u) (mw cy a)) := by
  refine Ct.ofZ RX12 "gain" [(0, .ref (a 0)), (1, .int 1), (2, .int p0), (3, .int p1), (4, .int p2)] rfl rfl rfl rfl (Nat.le_of_ble_eq_true rfl) ?_
  intro p e R s m args below meth c A b
  refine z_iload_n b dX12_gain_0 rfl rfl ?_
  refine z_calli b (z_runS (As := [.int 1]) (st := []) b (c_X12_isOne_4 S ) cf_X12_isOne wm_X12_170 ws_X12_isOne dX12_gain_1 rfl (Nat.le_of_ble_eq_true rfl) ⟨by decide, by decide, by decide, by decide⟩) (fun r12790 u12791 h12789 => ?_)
  obtain ⟨rfl, rfl⟩ := h12789
  refine z_if_eq_f (tgt := 27) b dX12_gain_4 (by decide) (by decide) ?_
  refine z_aload_n b dX12_gain_7 rfl rfl ?_
  refine z_iload_n b dX12_gain_8 rfl rfl ?_
  refine z_iload_n b dX12_gain_9 rfl rfl ?_
  refine z_calli b (z_runV (q0 := 0) (As := [.int p0, .int p1]) (st := []) b (c_X12_canSearch_5 S p0 p1 ⟨by omega, by omega⟩ ⟨by omega, by omega⟩) cf_X12_canSearch (mw_0 cy a S) rfl wm_X12_433 wi_X12_canSearch ws_X12_canSearch dX12_gain_10 rfl (Nat.le_of_ble_eq_true rfl) ⟨by decide, by decide, by decide, by decide⟩) (fun r12793 u12794 h12792 => ?_)
  obtain ⟨rfl, rfl⟩ := h12792
  refine z_if_eq_f (tgt := 27) b dX12_gain_13 (by decide) (by decide) ?_
  refine z_iload b dX12_gain_16 rfl ?_
  refine z_iconst (v := 0) b dX12_gain_18 (by decide) ?_
  refine z_bipush (v := 7) b dX12_gain_19 (by decide) ?_
  refine z_calli b (z_runS (As := [.int p2, .int 0, .int 7]) (st := []) b (c_X12_isIn_61 S p2 ⟨by omega, by omega⟩) cf_X12_isIn wm_X12_1 ws_X12_isIn dX12_gain_21 rfl (Nat.le_of_ble_eq_true rfl) ⟨by decide, by decide, by decide, by decide⟩) (fun r12796 u12797 h12795 => ?_)
  obtain ⟨rfl, rfl⟩ := h12795
  refine z_if_ne_t (tgt := 30) b dX12_gain_24 (by decide) (by decide) ?_
  refine z_aload_n b dX12_gain_30 rfl rfl ?_
  refine z_iconst (v := (-1)) b dX12_gain_31 (by decide) ?_
  refine z_iload_n b dX12_gain_32 rfl rfl ?_
  refine z_iload_n b dX12_gain_33 rfl rfl ?_
  refine z_bipush (v := 7) b dX12_gain_34 (by decide) ?_
  refine z_iconst (v := 0) b dX12_gain_36 (by decide) ?_
  refine z_callv b (z_runV (q0 := 0) (As := [.int (-1), .int p0, .int p1, .int 7, .int 0]) (st := []) b (c_X12_searches_2 S p0 p1 h_i_21 h_i_23 h_l_0 h_a_29_992 h_a_28_0 h_a_7_0 h_a_7_1 ⟨by omega, by omega⟩ ⟨by omega, by omega⟩) cf_X12_searches (mw_0 cy a S) rfl wm_X12_436 wi_X12_searches ws_X12_searches dX12_gain_37 rfl (Nat.le_of_ble_eq_true rfl) ⟨by decide, by decide, by decide, by decide⟩) (fun u12800 h12798 => ?_)
  obtain rfl := h12798
  refine z_aload_n b dX12_gain_40 rfl rfl ?_
  refine z_get (q0 := 0) (k9 := 57) (v := .int (fi (si (su (su (sv (su (su (si S 22 (-1)) 29 992 0) 30 0 992) 0 0 1649317774848) 26 0 (-1)) 27 0 (-1)) 21 1) 23)) b (mw_0 cy a (si (su (su (sv (su (su (si S 22 (-1)) 29 992 0) 30 0 992) 0 0 1649317774848) 26 0 (-1)) 27 0 (-1)) 21 1)) rfl in_X12 (by decide) wf_X12_408 rfl dX12_gain_41 ?_
  refine z_eqi h_i_23 ?_
  refine z_if_eq_t (tgt := 50) b dX12_gain_44 (by decide) (by decide) ?_
  refine z_iconst (v := (-1)) b dX12_gain_50 (by decide) ?_
  refine z_istore (lv' := [(5, .int (-1)), (0, .ref (a 0)), (1, .int 1), (2, .int p0), (3, .int p1), (4, .int p2)]) b dX12_gain_51 (by decide) rfl ?_
  refine z_iconst (v := 0) b dX12_gain_53 (by decide) ?_
  refine z_istore (lv' := [(6, .int 0), (5, .int (-1)), (0, .ref (a 0)), (1, .int 1), (2, .int p0), (3, .int p1), (4, .int p2)]) b dX12_gain_54 (by decide) rfl ?_
  refine z_iconst (v := 0) b dX12_gain_56 (by decide) ?_
  refine z_istore (lv' := [(7, .int 0), (6, .int 0), (5, .int (-1)), (0, .ref (a 0)), (1, .int 1), (2, .int p0), (3, .int p1), (4, .int p2)]) b dX12_gain_57 (by decide) rfl ?_
  refine z_iload b dX12_gain_59 rfl ?_
  refine z_aload_n b dX12_gain_61 rfl rfl ?_
  refine z_get (q0 := 0) (k9 := 55) (v := .int 1) b (mw_0 cy a (si (su (su (sv (su (su (si S 22 (-1)) 29 992 0) 30 0 992) 0 0 1649317774848) 26 0 (-1)) 27 0 (-1)) 21 1)) rfl in_X12 (by decide) wf_X12_405 rfl dX12_gain_62 ?_
  refine z_icmp_ge_f (tgt := 147) b dX12_gain_65 (by decide) (by decide) ?_
  refine z_aload_n b dX12_gain_68 rfl rfl ?_
  refine z_aload_n b dX12_gain_69 rfl rfl ?_
  refine z_get (q0 := 0) (k9 := 49) (v := .ref (a 27)) b (mw_0 cy a (si (su (su (sv (su (su (si S 22 (-1)) 29 992 0) 30 0 992) 0 0 1649317774848) 26 0 (-1)) 27 0 (-1)) 21 1)) rfl in_X12 (by decide) wf_X12_97 rfl dX12_gain_70 ?_
  refine z_iload b dX12_gain_73 rfl ?_
  refine y_lald (q0 := 27) (j := 0) (v := 1649317774848) b (mw_27 cy a (si (su (su (sv (su (su (si S 22 (-1)) 29 992 0) 30 0 992) 0 0 1649317774848) 26 0 (-1)) 27 0 (-1)) 21 1)) (by decide) rfl dX12_gain_75 ?_
  refine z_callv b (z_runV (q0 := 0) (As := [.long 1649317774848]) (st := []) b (c_X12_takes (si (su (su (sv (su (su (si S 22 (-1)) 29 992 0) 30 0 992) 0 0 1649317774848) 26 0 (-1)) 27 0 (-1)) 21 1) h_a_4_7 h_a_1_7 h_a_4_6 h_a_1_6 h_a_3_6 h_a_3_2 h_a_2_2 h_a_0_2 h_a_4_3 h_a_1_3 h_a_4_5 h_a_1_5 h_a_3_5 h_a_3_7 h_a_2_1 h_a_0_1 h_a_4_2 h_a_1_2 h_a_4_1 h_a_1_1 h_a_3_1 h_a_3_3 h_a_2_0 h_a_0_0 h_i_0) cf_X12_takes (mw_0 cy a (si (su (su (sv (su (su (si S 22 (-1)) 29 992 0) 30 0 992) 0 0 1649317774848) 26 0 (-1)) 27 0 (-1)) 21 1)) rfl wm_X12_174 wi_X12_takes ws_X12_takes dX12_gain_76 rfl (Nat.le_of_ble_eq_true rfl) ⟨by decide, by decide, by decide, by decide⟩) (fun u12803 h12801 => ?_)
  obtain rfl := h12801
  refine z_aload_n b dX12_gain_79 rfl rfl ?_
  refine z_get (q0 := 0) (k9 := 0) (v := .ref (a 1)) b (mw_0 cy a (si (su (su (sv (su (su (si S 22 (-1)) 29 992 0) 30 0 992) 0 0 1649317774848) 26 0 (-1)) 27 0 (-1)) 21 1)) rfl in_X12 (by decide) wf_X12_13 rfl dX12_gain_80 ?_
  refine z_iload_n b dX12_gain_83 rfl rfl ?_
  refine y_iald (q0 := 1) (j := 1) (v := (ar (si (su (su (sv (su (su (si S 22 (-1)) 29 992 0) 30 0 992) 0 0 1649317774848) 26 0 (-1)) 27 0 (-1)) 21 1) 0 1)) b (mw_1 cy a (si (su (su (sv (su (su (si S 22 (-1)) 29 992 0) 30 0 992) 0 0 1649317774848) 26 0 (-1)) 27 0 (-1)) 21 1)) (by decide) rfl dX12_gain_84 ?_
  refine z_eqi h_a_0_1 ?_
  refine z_aload_n b dX12_gain_85 rfl rfl ?_
  refine z_get (q0 := 0) (k9 := 1) (v := .ref (a 2)) b (mw_0 cy a (si (su (su (sv (su (su (si S 22 (-1)) 29 992 0) 30 0 992) 0 0 1649317774848) 26 0 (-1)) 27 0 (-1)) 21 1)) rfl in_X12 (by decide) wf_X12_17 rfl dX12_gain_86 ?_
  refine z_iconst (v := 3) b dX12_gain_89 (by decide) ?_
  refine z_iload_n b dX12_gain_90 rfl rfl ?_
  refine z_imul (v := 3) b dX12_gain_91 (by decide) ?_
  refine z_iload_n b dX12_gain_92 rfl rfl ?_
  refine z_iconst (v := 0) b dX12_gain_93 (by decide) ?_
  refine z_calli b (z_runS (As := [.int 1, .int 0]) (st := [.int 3, .ref (a 2), .int 0]) b (c_X12_other_4 (si (su (su (sv (su (su (si S 22 (-1)) 29 992 0) 30 0 992) 0 0 1649317774848) 26 0 (-1)) 27 0 (-1)) 21 1) ) cf_X12_other wm_X12_160 ws_X12_other dX12_gain_94 rfl (Nat.le_of_ble_eq_true rfl) ⟨by decide, by decide, by decide, by decide⟩) (fun r12805 u12806 h12804 => ?_)
  obtain ⟨rfl, rfl⟩ := h12804
  refine z_iadd (v := 5) b dX12_gain_97 (by decide) ?_
  refine y_iald (q0 := 2) (j := 5) (v := (ar (si (su (su (sv (su (su (si S 22 (-1)) 29 992 0) 30 0 992) 0 0 1649317774848) 26 0 (-1)) 27 0 (-1)) 21 1) 1 5)) b (mw_2 cy a (si (su (su (sv (su (su (si S 22 (-1)) 29 992 0) 30 0 992) 0 0 1649317774848) 26 0 (-1)) 27 0 (-1)) 21 1)) (by decide) rfl dX12_gain_98 ?_
  refine z_eqi h_a_1_5 ?_
  refine z_isub (v := 0) b dX12_gain_99 (by decide) ?_
  refine z_aload_n b dX12_gain_100 rfl rfl ?_
  refine z_get (q0 := 0) (k9 := 1) (v := .ref (a 2)) b (mw_0 cy a (si (su (su (sv (su (su (si S 22 (-1)) 29 992 0) 30 0 992) 0 0 1649317774848) 26 0 (-1)) 27 0 (-1)) 21 1)) rfl in_X12 (by decide) wf_X12_17 rfl dX12_gain_101 ?_
  refine z_iconst (v := 3) b dX12_gain_104 (by decide) ?_
  refine z_iload_n b dX12_gain_105 rfl rfl ?_
  refine z_imul (v := 3) b dX12_gain_106 (by decide) ?_
  refine z_iload_n b dX12_gain_107 rfl rfl ?_
  refine z_iconst (v := 1) b dX12_gain_108 (by decide) ?_
  refine z_calli b (z_runS (As := [.int 1, .int 1]) (st := [.int 3, .ref (a 2), .int 0]) b (c_X12_other_3 (si (su (su (sv (su (su (si S 22 (-1)) 29 992 0) 30 0 992) 0 0 1649317774848) 26 0 (-1)) 27 0 (-1)) 21 1) ) cf_X12_other wm_X12_160 ws_X12_other dX12_gain_109 rfl (Nat.le_of_ble_eq_true rfl) ⟨by decide, by decide, by decide, by decide⟩) (fun r12808 u12809 h12807 => ?_)
  obtain ⟨rfl, rfl⟩ := h12807
  refine z_iadd (v := 3) b dX12_gain_112 (by decide) ?_
  refine y_iald (q0 := 2) (j := 3) (v := (ar (si (su (su (sv (su (su (si S 22 (-1)) 29 992 0) 30 0 992) 0 0 1649317774848) 26 0 (-1)) 27 0 (-1)) 21 1) 1 3)) b (mw_2 cy a (si (su (su (sv (su (su (si S 22 (-1)) 29 992 0) 30 0 992) 0 0 1649317774848) 26 0 (-1)) 27 0 (-1)) 21 1)) (by decide) rfl dX12_gain_113 ?_
  refine z_eqi h_a_1_3 ?_
  refine z_isub (v := 0) b dX12_gain_114 (by decide) ?_
  refine z_istore (lv' := [(8, .int 0), (7, .int 0), (6, .int 0), (5, .int (-1)), (0, .ref (a 0)), (1, .int 1), (2, .int p0), (3, .int p1), (4, .int p2)]) b dX12_gain_115 (by decide) rfl ?_
  refine z_iload b dX12_gain_117 rfl ?_
  refine z_iconst (v := (-1)) b dX12_gain_119 (by decide) ?_
  refine z_icmp_eq_t (tgt := 133) b dX12_gain_120 (by decide) (by decide) ?_
  refine z_iload b dX12_gain_133 rfl ?_
  refine z_istore (lv' := [(5, .int 0), (8, .int 0), (7, .int 0), (6, .int 0), (0, .ref (a 0)), (1, .int 1), (2, .int p0), (3, .int p1), (4, .int p2)]) b dX12_gain_135 (by decide) rfl ?_
  refine z_iload b dX12_gain_137 rfl ?_
  refine z_istore (lv' := [(6, .int 0), (5, .int 0), (8, .int 0), (7, .int 0), (0, .ref (a 0)), (1, .int 1), (2, .int p0), (3, .int p1), (4, .int p2)]) b dX12_gain_139 (by decide) rfl ?_
  refine z_iinc (k9 := 3) (v := 1) (lv' := [(7, .int 1), (6, .int 0), (5, .int 0), (8, .int 0), (0, .ref (a 0)), (1, .int 1), (2, .int p0), (3, .int p1), (4, .int p2)]) b dX12_gain_141 rfl (by decide) (by decide) rfl ?_
  refine z_goto (tgt := 59) b dX12_gain_144 (by decide) ?_
  refine z_iload b dX12_gain_59 rfl ?_
  refine z_aload_n b dX12_gain_61 rfl rfl ?_
  refine z_get (q0 := 0) (k9 := 55) (v := .int 1) b (mw_0 cy a (si (su (su (sv (su (su (si S 22 (-1)) 29 992 0) 30 0 992) 0 0 1649317774848) 26 0 (-1)) 27 0 (-1)) 21 1)) rfl in_X12 (by decide) wf_X12_405 rfl dX12_gain_62 ?_
  refine z_icmp_ge_t (tgt := 147) b dX12_gain_65 (by decide) (by decide) ?_
  refine z_iload b dX12_gain_147 rfl ?_
  refine z_iconst (v := 2) b dX12_gain_149 (by decide) ?_
  refine y_icmp_ge (tgt := 171) (xl := p2.toInt) (yl := 2) b rfl (by decide) dX12_gain_150 (by decide) (fun c12810 => ?_) (fun c12810 => ?_)
  · refine z_iload b dX12_gain_171 rfl ?_
    refine z_iconst (v := 2) b dX12_gain_173 (by decide) ?_
    refine z_isub b dX12_gain_174 rfl ?_
    have f12811 : ((p2 - 2) : Int32).toInt = p2.toInt + (-2) := zisub (k := 2) (by decide) (by omega) (by omega)
    refine z_aload_n b dX12_gain_175 rfl rfl ?_
    refine z_get (q0 := 0) (k9 := 52) (v := .ref (a 30)) b (mw_0 cy a (si (su (su (sv (su (su (si S 22 (-1)) 29 992 0) 30 0 992) 0 0 1649317774848) 26 0 (-1)) 27 0 (-1)) 21 1)) rfl in_X12 (by decide) wf_X12_107 rfl dX12_gain_176 ?_
    refine z_iload b dX12_gain_179 rfl ?_
    refine y_iald (q0 := 30) (j := 0) (v := (ar (si (su (su (sv (su (su (si S 22 (-1)) 29 992 0) 30 0 992) 0 0 1649317774848) 26 0 (-1)) 27 0 (-1)) 21 1) 28 0)) b (mw_30 cy a (si (su (su (sv (su (su (si S 22 (-1)) 29 992 0) 30 0 992) 0 0 1649317774848) 26 0 (-1)) 27 0 (-1)) 21 1)) (by decide) rfl dX12_gain_181 ?_
    refine z_eqi h_a_28_0 ?_
    refine y_icmp_ge (tgt := 198) (xl := ((p2 - 2) : Int32).toInt) (yl := 0) b rfl (by decide) dX12_gain_182 (by decide) (fun c12812 => ?_) (fun c12812 => ?_)
    · refine z_bipush (v := (-100)) b dX12_gain_198 (by decide) ?_
      exact z_iret (u := (si (su (su (sv (su (su (si S 22 (-1)) 29 992 0) 30 0 992) 0 0 1649317774848) 26 0 (-1)) 27 0 (-1)) 21 1)) b rfl dX12_gain_200 ⟨rfl, rfl⟩ rfl (by decide) (by decide)
    · exfalso; omega
  · exfalso; omega

set_option maxHeartbeats 4000000 in
set_option maxRecDepth 100000 in
theorem c_X11_gain_34 {l : Launch} {D : va_G} {cy : Nat → ClassId} {T0 tB tE : Nat} {a : Nat → Nat} {rw : Nat → Option Nat} (S : GS) (p0 : Int32) (p1 : Int32) (p2 : Int32) (h_i_19 : fi S 19 = 0) (h_i_24 : fi S 24 = 0) (h_i_22 : fi S 22 = 0) (h_i_18 : fi S 18 = 0) (h_i_25 : fi S 25 = 0) (h_i_23 : fi S 23 = 0) (h_i_26 : fi S 26 = 0) (h_a_4_50 : ar S 4 50 = 0) (h_a_4_40 : ar S 4 40 = 3) (h_a_4_41 : ar S 4 41 = 3) (h_a_4_42 : ar S 4 42 = 3) (h_a_4_0 : ar S 4 0 = 0) (h_a_4_11 : ar S 4 11 = 0) (h_a_4_21 : ar S 4 21 = 0) (h_a_4_31 : ar S 4 31 = 0) (h_a_4_12 : ar S 4 12 = 0) (h_a_4_22 : ar S 4 22 = 0) (h_a_4_32 : ar S 4 32 = 0) (h_a_4_1 : ar S 4 1 = 0) (h_a_4_13 : ar S 4 13 = 0) (h_a_4_23 : ar S 4 23 = 0) (h_a_4_33 : ar S 4 33 = 0) (h_a_4_15 : ar S 4 15 = 0) (h_a_4_25 : ar S 4 25 = 0) (h_a_4_35 : ar S 4 35 = 0) (h_a_4_2 : ar S 4 2 = 0) (h_a_4_16 : ar S 4 16 = 0) (h_a_4_26 : ar S 4 26 = 0) (h_a_4_36 : ar S 4 36 = 0) (h_a_4_17 : ar S 4 17 = 0) (h_a_4_27 : ar S 4 27 = 0) (h_a_4_37 : ar S 4 37 = 0) (h_a_10_0 : ar S 10 0 = 0) (h_a_9_50 : ar S 9 50 = 0) (h_a_9_40 : ar S 9 40 = 3) (h_a_9_41 : ar S 9 41 = 3) (h_a_9_42 : ar S 9 42 = 3) (h_a_9_0 : ar S 9 0 = 0) (h_a_9_11 : ar S 9 11 = 0) (h_a_9_21 : ar S 9 21 = 0) (h_a_9_31 : ar S 9 31 = 0) (h_a_9_12 : ar S 9 12 = 0) (h_a_9_22 : ar S 9 22 = 0) (h_a_9_32 : ar S 9 32 = 0) (h_a_9_1 : ar S 9 1 = 0) (h_a_9_13 : ar S 9 13 = 0) (h_a_9_23 : ar S 9 23 = 0) (h_a_9_33 : ar S 9 33 = 0) (h_a_9_15 : ar S 9 15 = 0) (h_a_9_25 : ar S 9 25 = 0) (h_a_9_35 : ar S 9 35 = 0) (h_a_9_2 : ar S 9 2 = 0) (h_a_9_16 : ar S 9 16 = 0) (h_a_9_26 : ar S 9 26 = 0) (h_a_9_36 : ar S 9 36 = 0) (h_a_9_17 : ar S 9 17 = 0) (h_a_9_27 : ar S 9 27 = 0) (h_a_9_37 : ar S 9 37 = 0) (hr_p0 : 1 ≤ p0.toInt ∧ p0.toInt ≤ 3) (hr_p1 : 1 ≤ p1.toInt ∧ p1.toInt ≤ 6) (hr_p2 : 8 ≤ p2.toInt ∧ p2.toInt ≤ 2147483647) : Ct l D cy T0 tB tE yX11_gain cX11_gain 7 (some .int) 5 117 0 0 (cw cy tE a rw S) [.ref (a 0), .int 1, .int p0, .int p1, .int p2] (QI D (U := GS) (fun r u => (((0 ≤ p2.toInt) ∧ (((0 < ((fi (su (si (su (su (sv (sa (si (si (si (si S 24 1) 19 p0) 20 p1) 21 7) 13 (fil 1024 0 (ar (si (si (si (si S 24 1) 19 p0) 20 p1) 21 7) 13))) 2 0 4128768) 11 0 (-1)) 12 0 (-1)) 25 1) 13 978 1) 20) : Int32).toInt))) ∧ (p2.toInt ≠ 0) ∧ (p2.toInt ≠ 1)) ∧ (-100) = r ∧ (si (su (si (su (su (sv (sa (si (si (si (si S 24 1) 19 p0) 20 p1) 21 7) 13 (fil 1024 0 (ar (si (si (si (si S 24 1) 19 p0) 20 p1) 21 7) 13))) 2 0 4128768) 11 0 (-1)) 12 0 (-1)) 25 1) 13 978 1) 23 1) = u) ∨ (((0 ≤ p2.toInt) ∧ (((((fi (su (si (su (su (sv (sa (si (si (si (si S 24 1) 19 p0) 20 p1) 21 7) 13 (fil 1024 0 (ar (si (si (si (si S 24 1) 19 p0) 20 p1) 21 7) 13))) 2 0 4128768) 11 0 (-1)) 12 0 (-1)) 25 1) 13 978 1) 20) : Int32).toInt ≤ 0))) ∧ (p2.toInt ≠ 0) ∧ (p2.toInt ≠ 1)) ∧ (-100) = r ∧ (su (si (su (su (sv (sa (si (si (si (si S 24 1) 19 p0) 20 p1) 21 7) 13 (fil 1024 0 (ar (si (si (si (si S 24 1) 19 p0) 20 p1) 21 7) 13))) 2 0 4128768) 11 0 (-1)) 12 0 (-1)) 25 1) 13 978 1) = u)) (cw cy tE a rw)) := by
  refine Ct.ofZ RX11 "gain" [(0, .ref (a 0)), (1, .int 1), (2, .int p0), (3, .int p1), (4, .int p2)] rfl rfl rfl rfl (Nat.le_of_ble_eq_true rfl) ?_
  intro p e R s m args below meth c A b
  refine z_iload_n b dX11_gain_0 rfl rfl ?_
  refine z_calli b (z_runS (As := [.int 1]) (st := []) b (c_X11_isPerson_4 S ) cf_X11_isPerson wm_X11_69 ws_X11_isPerson dX11_gain_1 rfl (Nat.le_of_ble_eq_true rfl) ⟨by decide, by decide, by decide, by decide⟩) (fun r12814 u12815 h12813 => ?_)
  obtain ⟨rfl, rfl⟩ := h12813
  refine z_if_eq_f (tgt := 26) b dX11_gain_4 (by decide) (by decide) ?_
  refine z_iload_n b dX11_gain_7 rfl rfl ?_
  refine z_calli b (z_runS (As := [.int p0]) (st := []) b (c_X11_areLaws_3 S p0 ⟨by omega, by omega⟩) cf_X11_areLaws wm_X11_181 ws_X11_areLaws dX11_gain_8 rfl (Nat.le_of_ble_eq_true rfl) ⟨by decide, by decide, by decide, by decide⟩) (fun r12817 u12818 h12816 => ?_)
  obtain ⟨rfl, rfl⟩ := h12816
  refine z_if_eq_f (tgt := 26) b dX11_gain_11 (by decide) (by decide) ?_
  refine z_iload_n b dX11_gain_14 rfl rfl ?_
  refine z_calli b (z_runS (As := [.int p1]) (st := []) b (c_X11_isDepth_3 S p1 ⟨by omega, by omega⟩) cf_X11_isDepth wm_X11_203 ws_X11_isDepth dX11_gain_15 rfl (Nat.le_of_ble_eq_true rfl) ⟨by decide, by decide, by decide, by decide⟩) (fun r12820 u12821 h12819 => ?_)
  obtain ⟨rfl, rfl⟩ := h12819
  refine z_if_eq_f (tgt := 26) b dX11_gain_18 (by decide) (by decide) ?_
  refine z_iload b dX11_gain_21 rfl ?_
  refine y_if_ge (tgt := 29) (xl := p2.toInt) b rfl dX11_gain_23 (by decide) (fun c12822 => ?_) (fun c12822 => ?_)
  · refine z_aload_n b dX11_gain_29 rfl rfl ?_
    refine z_get (q0 := 0) (k9 := 6) (v := .ref (a 25)) b (cw_0 cy tE a rw S) rfl in_X11 (by decide) wf_X11_52 rfl dX11_gain_30 ?_
    refine z_iload_n b dX11_gain_33 rfl rfl ?_
    refine z_iload_n b dX11_gain_34 rfl rfl ?_
    refine z_bipush (v := 7) b dX11_gain_35 (by decide) ?_
    refine z_iconst (v := 0) b dX11_gain_37 (by decide) ?_
    refine z_callv b (z_runV (q0 := 25) (As := [.int p0, .int p1, .int 7, .int 0]) (st := []) b (c_X8_begin_2 S p0 p1 h_i_19 h_i_24 h_i_22 h_i_18 h_i_25 h_i_23 h_i_26 h_a_4_50 h_a_4_40 h_a_4_41 h_a_4_42 h_a_4_0 h_a_4_11 h_a_4_21 h_a_4_31 h_a_4_12 h_a_4_22 h_a_4_32 h_a_4_1 h_a_4_13 h_a_4_23 h_a_4_33 h_a_4_15 h_a_4_25 h_a_4_35 h_a_4_2 h_a_4_16 h_a_4_26 h_a_4_36 h_a_4_17 h_a_4_27 h_a_4_37 h_a_10_0 ⟨by omega, by omega⟩ ⟨by omega, by omega⟩) cf_X8_begin (cw_25 cy tE a rw S) rfl wm_X11_206 wi_X8_begin ws_X8_begin dX11_gain_38 rfl (Nat.le_of_ble_eq_true rfl) ⟨by decide, by decide, by decide, by decide⟩) (fun u12825 h12823 => ?_)
    obtain rfl := h12823
    refine z_aload_n b dX11_gain_41 rfl rfl ?_
    refine z_get (q0 := 0) (k9 := 6) (v := .ref (a 25)) b (cw_0 cy tE a rw (su (si (su (su (sv (sa (si (si (si (si S 24 1) 19 p0) 20 p1) 21 7) 13 (fil 1024 0 (ar (si (si (si (si S 24 1) 19 p0) 20 p1) 21 7) 13))) 2 0 4128768) 11 0 (-1)) 12 0 (-1)) 25 1) 13 978 1)) rfl in_X11 (by decide) wf_X11_52 rfl dX11_gain_42 ?_
    refine z_callv b (z_runV (q0 := 25) (As := []) (st := []) b (c_X8_finish_2 (su (si (su (su (sv (sa (si (si (si (si S 24 1) 19 p0) 20 p1) 21 7) 13 (fil 1024 0 (ar (si (si (si (si S 24 1) 19 p0) 20 p1) 21 7) 13))) 2 0 4128768) 11 0 (-1)) 12 0 (-1)) 25 1) 13 978 1) h_i_26 h_i_23 rfl h_a_10_0 rfl h_a_9_50 h_a_9_40 h_a_9_41 h_a_9_42 h_a_9_0 h_a_9_11 h_a_9_21 h_a_9_31 h_a_9_12 h_a_9_22 h_a_9_32 h_a_9_1 h_a_9_13 h_a_9_23 h_a_9_33 h_a_9_15 h_a_9_25 h_a_9_35 h_a_9_2 h_a_9_16 h_a_9_26 h_a_9_36 h_a_9_17 h_a_9_27 h_a_9_37 h_i_18) cf_X8_finish (cw_25 cy tE a rw (su (si (su (su (sv (sa (si (si (si (si S 24 1) 19 p0) 20 p1) 21 7) 13 (fil 1024 0 (ar (si (si (si (si S 24 1) 19 p0) 20 p1) 21 7) 13))) 2 0 4128768) 11 0 (-1)) 12 0 (-1)) 25 1) 13 978 1)) rfl wm_X11_232 wi_X8_finish ws_X8_finish dX11_gain_45 rfl (Nat.le_of_ble_eq_true rfl) ⟨by decide, by decide, by decide, by decide⟩) (fun u12828 h12826 => ?_)
    rcases h12826 with ⟨c12829, rfl⟩ | ⟨c12830, rfl⟩
    · refine z_aload_n b dX11_gain_48 rfl rfl ?_
      refine z_get (q0 := 0) (k9 := 6) (v := .ref (a 25)) b (cw_0 cy tE a rw (si (su (si (su (su (sv (sa (si (si (si (si S 24 1) 19 p0) 20 p1) 21 7) 13 (fil 1024 0 (ar (si (si (si (si S 24 1) 19 p0) 20 p1) 21 7) 13))) 2 0 4128768) 11 0 (-1)) 12 0 (-1)) 25 1) 13 978 1) 23 1)) rfl in_X11 (by decide) wf_X11_52 rfl dX11_gain_49 ?_
      refine z_get (q0 := 25) (k9 := 18) (v := .int (fi (si (su (si (su (su (sv (sa (si (si (si (si S 24 1) 19 p0) 20 p1) 21 7) 13 (fil 1024 0 (ar (si (si (si (si S 24 1) 19 p0) 20 p1) 21 7) 13))) 2 0 4128768) 11 0 (-1)) 12 0 (-1)) 25 1) 13 978 1) 23 1) 26)) b (cw_25 cy tE a rw (si (su (si (su (su (sv (sa (si (si (si (si S 24 1) 19 p0) 20 p1) 21 7) 13 (fil 1024 0 (ar (si (si (si (si S 24 1) 19 p0) 20 p1) 21 7) 13))) 2 0 4128768) 11 0 (-1)) 12 0 (-1)) 25 1) 13 978 1) 23 1)) rfl in_X8 (by decide) wf_X11_214 rfl dX11_gain_52 ?_
      refine z_eqi h_i_26 ?_
      refine z_if_eq_t (tgt := 61) b dX11_gain_55 (by decide) (by decide) ?_
      refine z_aload_n b dX11_gain_61 rfl rfl ?_
      refine z_get (q0 := 0) (k9 := 6) (v := .ref (a 25)) b (cw_0 cy tE a rw (si (su (si (su (su (sv (sa (si (si (si (si S 24 1) 19 p0) 20 p1) 21 7) 13 (fil 1024 0 (ar (si (si (si (si S 24 1) 19 p0) 20 p1) 21 7) 13))) 2 0 4128768) 11 0 (-1)) 12 0 (-1)) 25 1) 13 978 1) 23 1)) rfl in_X11 (by decide) wf_X11_52 rfl dX11_gain_62 ?_
      refine z_iload_n b dX11_gain_65 rfl rfl ?_
      refine z_calli b (z_runV (q0 := 25) (As := [.int 1]) (st := []) b (c_X8_richest_2 (si (su (si (su (su (sv (sa (si (si (si (si S 24 1) 19 p0) 20 p1) 21 7) 13 (fil 1024 0 (ar (si (si (si (si S 24 1) 19 p0) 20 p1) 21 7) 13))) 2 0 4128768) 11 0 (-1)) 12 0 (-1)) 25 1) 13 978 1) 23 1) rfl rfl h_a_9_50 h_a_9_40 h_a_9_41 h_a_9_42 h_a_9_0 h_a_9_11 h_a_9_21 h_a_9_31 h_a_9_12 h_a_9_22 h_a_9_32 h_a_9_1 h_a_9_13 h_a_9_23 h_a_9_33 h_a_9_15 h_a_9_25 h_a_9_35 h_a_9_2 h_a_9_16 h_a_9_26 h_a_9_36 h_a_9_17 h_a_9_27 h_a_9_37) cf_X8_richest (cw_25 cy tE a rw (si (su (si (su (su (sv (sa (si (si (si (si S 24 1) 19 p0) 20 p1) 21 7) 13 (fil 1024 0 (ar (si (si (si (si S 24 1) 19 p0) 20 p1) 21 7) 13))) 2 0 4128768) 11 0 (-1)) 12 0 (-1)) 25 1) 13 978 1) 23 1)) rfl wm_X11_238 wi_X8_richest ws_X8_richest dX11_gain_66 rfl (Nat.le_of_ble_eq_true rfl) ⟨by decide, by decide, by decide, by decide⟩) (fun r12832 u12833 h12831 => ?_)
      obtain ⟨rfl, rfl⟩ := h12831
      refine z_istore (lv' := [(5, .int 0), (0, .ref (a 0)), (1, .int 1), (2, .int p0), (3, .int p1), (4, .int p2)]) b dX11_gain_69 (by decide) rfl ?_
      refine z_iload b dX11_gain_71 rfl ?_
      refine y_if_ne (tgt := 87) (xl := p2.toInt) b rfl dX11_gain_73 (by decide) (fun c12834 => ?_) (fun c12834 => ?_)
      · refine z_iload b dX11_gain_87 rfl ?_
        refine z_iconst (v := 1) b dX11_gain_89 (by decide) ?_
        refine y_icmp_ne (tgt := 103) (xl := p2.toInt) (yl := 1) b rfl (by decide) dX11_gain_90 (by decide) (fun c12835 => ?_) (fun c12835 => ?_)
        · refine z_aload_n b dX11_gain_103 rfl rfl ?_
          refine z_get (q0 := 0) (k9 := 6) (v := .ref (a 25)) b (cw_0 cy tE a rw (si (su (si (su (su (sv (sa (si (si (si (si S 24 1) 19 p0) 20 p1) 21 7) 13 (fil 1024 0 (ar (si (si (si (si S 24 1) 19 p0) 20 p1) 21 7) 13))) 2 0 4128768) 11 0 (-1)) 12 0 (-1)) 25 1) 13 978 1) 23 1)) rfl in_X11 (by decide) wf_X11_52 rfl dX11_gain_104 ?_
          refine z_iload b dX11_gain_107 rfl ?_
          refine z_iload b dX11_gain_109 rfl ?_
          refine z_iconst (v := 2) b dX11_gain_111 (by decide) ?_
          refine z_isub b dX11_gain_112 rfl ?_
          have f12836 : ((p2 - 2) : Int32).toInt = p2.toInt + (-2) := zisub (k := 2) (by decide) (by omega) (by omega)
          refine z_calli b (z_runV (q0 := 25) (As := [.int 0, .int (p2 - 2)]) (st := []) b (c_X8_code_2 (si (su (si (su (su (sv (sa (si (si (si (si S 24 1) 19 p0) 20 p1) 21 7) 13 (fil 1024 0 (ar (si (si (si (si S 24 1) 19 p0) 20 p1) 21 7) 13))) 2 0 4128768) 11 0 (-1)) 12 0 (-1)) 25 1) 13 978 1) 23 1) (p2 - 2) rfl h_a_10_0 ⟨by omega, by omega⟩) cf_X8_code (cw_25 cy tE a rw (si (su (si (su (su (sv (sa (si (si (si (si S 24 1) 19 p0) 20 p1) 21 7) 13 (fil 1024 0 (ar (si (si (si (si S 24 1) 19 p0) 20 p1) 21 7) 13))) 2 0 4128768) 11 0 (-1)) 12 0 (-1)) 25 1) 13 978 1) 23 1)) rfl wm_X11_219 wi_X8_code ws_X8_code dX11_gain_113 rfl (Nat.le_of_ble_eq_true rfl) ⟨by decide, by decide, by decide, by decide⟩) (fun r12838 u12839 h12837 => ?_)
          obtain ⟨rfl, rfl⟩ := h12837
          refine z_istore (lv' := [(6, .int (-1)), (5, .int 0), (0, .ref (a 0)), (1, .int 1), (2, .int p0), (3, .int p1), (4, .int p2)]) b dX11_gain_116 (by decide) rfl ?_
          refine z_iload b dX11_gain_118 rfl ?_
          refine z_iconst (v := (-1)) b dX11_gain_120 (by decide) ?_
          refine z_icmp_ne_f (tgt := 129) b dX11_gain_121 (by decide) (by decide) ?_
          refine z_bipush (v := (-100)) b dX11_gain_124 (by decide) ?_
          refine z_goto (tgt := 131) b dX11_gain_126 (by decide) ?_
          exact z_iret (u := (si (su (si (su (su (sv (sa (si (si (si (si S 24 1) 19 p0) 20 p1) 21 7) 13 (fil 1024 0 (ar (si (si (si (si S 24 1) 19 p0) 20 p1) 21 7) 13))) 2 0 4128768) 11 0 (-1)) 12 0 (-1)) 25 1) 13 978 1) 23 1)) b rfl dX11_gain_131 (Or.inl ⟨⟨c12822, c12829, c12834, c12835⟩, rfl, rfl⟩) rfl (by decide) (by decide)
        · exfalso; omega
      · exfalso; omega
    · refine z_aload_n b dX11_gain_48 rfl rfl ?_
      refine z_get (q0 := 0) (k9 := 6) (v := .ref (a 25)) b (cw_0 cy tE a rw (su (si (su (su (sv (sa (si (si (si (si S 24 1) 19 p0) 20 p1) 21 7) 13 (fil 1024 0 (ar (si (si (si (si S 24 1) 19 p0) 20 p1) 21 7) 13))) 2 0 4128768) 11 0 (-1)) 12 0 (-1)) 25 1) 13 978 1)) rfl in_X11 (by decide) wf_X11_52 rfl dX11_gain_49 ?_
      refine z_get (q0 := 25) (k9 := 18) (v := .int (fi (su (si (su (su (sv (sa (si (si (si (si S 24 1) 19 p0) 20 p1) 21 7) 13 (fil 1024 0 (ar (si (si (si (si S 24 1) 19 p0) 20 p1) 21 7) 13))) 2 0 4128768) 11 0 (-1)) 12 0 (-1)) 25 1) 13 978 1) 26)) b (cw_25 cy tE a rw (su (si (su (su (sv (sa (si (si (si (si S 24 1) 19 p0) 20 p1) 21 7) 13 (fil 1024 0 (ar (si (si (si (si S 24 1) 19 p0) 20 p1) 21 7) 13))) 2 0 4128768) 11 0 (-1)) 12 0 (-1)) 25 1) 13 978 1)) rfl in_X8 (by decide) wf_X11_214 rfl dX11_gain_52 ?_
      refine z_eqi h_i_26 ?_
      refine z_if_eq_t (tgt := 61) b dX11_gain_55 (by decide) (by decide) ?_
      refine z_aload_n b dX11_gain_61 rfl rfl ?_
      refine z_get (q0 := 0) (k9 := 6) (v := .ref (a 25)) b (cw_0 cy tE a rw (su (si (su (su (sv (sa (si (si (si (si S 24 1) 19 p0) 20 p1) 21 7) 13 (fil 1024 0 (ar (si (si (si (si S 24 1) 19 p0) 20 p1) 21 7) 13))) 2 0 4128768) 11 0 (-1)) 12 0 (-1)) 25 1) 13 978 1)) rfl in_X11 (by decide) wf_X11_52 rfl dX11_gain_62 ?_
      refine z_iload_n b dX11_gain_65 rfl rfl ?_
      refine z_calli b (z_runV (q0 := 25) (As := [.int 1]) (st := []) b (c_X8_richest_2 (su (si (su (su (sv (sa (si (si (si (si S 24 1) 19 p0) 20 p1) 21 7) 13 (fil 1024 0 (ar (si (si (si (si S 24 1) 19 p0) 20 p1) 21 7) 13))) 2 0 4128768) 11 0 (-1)) 12 0 (-1)) 25 1) 13 978 1) rfl rfl h_a_9_50 h_a_9_40 h_a_9_41 h_a_9_42 h_a_9_0 h_a_9_11 h_a_9_21 h_a_9_31 h_a_9_12 h_a_9_22 h_a_9_32 h_a_9_1 h_a_9_13 h_a_9_23 h_a_9_33 h_a_9_15 h_a_9_25 h_a_9_35 h_a_9_2 h_a_9_16 h_a_9_26 h_a_9_36 h_a_9_17 h_a_9_27 h_a_9_37) cf_X8_richest (cw_25 cy tE a rw (su (si (su (su (sv (sa (si (si (si (si S 24 1) 19 p0) 20 p1) 21 7) 13 (fil 1024 0 (ar (si (si (si (si S 24 1) 19 p0) 20 p1) 21 7) 13))) 2 0 4128768) 11 0 (-1)) 12 0 (-1)) 25 1) 13 978 1)) rfl wm_X11_238 wi_X8_richest ws_X8_richest dX11_gain_66 rfl (Nat.le_of_ble_eq_true rfl) ⟨by decide, by decide, by decide, by decide⟩) (fun r12841 u12842 h12840 => ?_)
      obtain ⟨rfl, rfl⟩ := h12840
      refine z_istore (lv' := [(5, .int 0), (0, .ref (a 0)), (1, .int 1), (2, .int p0), (3, .int p1), (4, .int p2)]) b dX11_gain_69 (by decide) rfl ?_
      refine z_iload b dX11_gain_71 rfl ?_
      refine y_if_ne (tgt := 87) (xl := p2.toInt) b rfl dX11_gain_73 (by decide) (fun c12843 => ?_) (fun c12843 => ?_)
      · refine z_iload b dX11_gain_87 rfl ?_
        refine z_iconst (v := 1) b dX11_gain_89 (by decide) ?_
        refine y_icmp_ne (tgt := 103) (xl := p2.toInt) (yl := 1) b rfl (by decide) dX11_gain_90 (by decide) (fun c12844 => ?_) (fun c12844 => ?_)
        · refine z_aload_n b dX11_gain_103 rfl rfl ?_
          refine z_get (q0 := 0) (k9 := 6) (v := .ref (a 25)) b (cw_0 cy tE a rw (su (si (su (su (sv (sa (si (si (si (si S 24 1) 19 p0) 20 p1) 21 7) 13 (fil 1024 0 (ar (si (si (si (si S 24 1) 19 p0) 20 p1) 21 7) 13))) 2 0 4128768) 11 0 (-1)) 12 0 (-1)) 25 1) 13 978 1)) rfl in_X11 (by decide) wf_X11_52 rfl dX11_gain_104 ?_
          refine z_iload b dX11_gain_107 rfl ?_
          refine z_iload b dX11_gain_109 rfl ?_
          refine z_iconst (v := 2) b dX11_gain_111 (by decide) ?_
          refine z_isub b dX11_gain_112 rfl ?_
          have f12845 : ((p2 - 2) : Int32).toInt = p2.toInt + (-2) := zisub (k := 2) (by decide) (by omega) (by omega)
          refine z_calli b (z_runV (q0 := 25) (As := [.int 0, .int (p2 - 2)]) (st := []) b (c_X8_code_2 (su (si (su (su (sv (sa (si (si (si (si S 24 1) 19 p0) 20 p1) 21 7) 13 (fil 1024 0 (ar (si (si (si (si S 24 1) 19 p0) 20 p1) 21 7) 13))) 2 0 4128768) 11 0 (-1)) 12 0 (-1)) 25 1) 13 978 1) (p2 - 2) rfl h_a_10_0 ⟨by omega, by omega⟩) cf_X8_code (cw_25 cy tE a rw (su (si (su (su (sv (sa (si (si (si (si S 24 1) 19 p0) 20 p1) 21 7) 13 (fil 1024 0 (ar (si (si (si (si S 24 1) 19 p0) 20 p1) 21 7) 13))) 2 0 4128768) 11 0 (-1)) 12 0 (-1)) 25 1) 13 978 1)) rfl wm_X11_219 wi_X8_code ws_X8_code dX11_gain_113 rfl (Nat.le_of_ble_eq_true rfl) ⟨by decide, by decide, by decide, by decide⟩) (fun r12847 u12848 h12846 => ?_)
          obtain ⟨rfl, rfl⟩ := h12846
          refine z_istore (lv' := [(6, .int (-1)), (5, .int 0), (0, .ref (a 0)), (1, .int 1), (2, .int p0), (3, .int p1), (4, .int p2)]) b dX11_gain_116 (by decide) rfl ?_
          refine z_iload b dX11_gain_118 rfl ?_
          refine z_iconst (v := (-1)) b dX11_gain_120 (by decide) ?_
          refine z_icmp_ne_f (tgt := 129) b dX11_gain_121 (by decide) (by decide) ?_
          refine z_bipush (v := (-100)) b dX11_gain_124 (by decide) ?_
          refine z_goto (tgt := 131) b dX11_gain_126 (by decide) ?_
          exact z_iret (u := (su (si (su (su (sv (sa (si (si (si (si S 24 1) 19 p0) 20 p1) 21 7) 13 (fil 1024 0 (ar (si (si (si (si S 24 1) 19 p0) 20 p1) 21 7) 13))) 2 0 4128768) 11 0 (-1)) 12 0 (-1)) 25 1) 13 978 1)) b rfl dX11_gain_131 (Or.inr ⟨⟨c12822, c12830, c12843, c12844⟩, rfl, rfl⟩) rfl (by decide) (by decide)
        · exfalso; omega
      · exfalso; omega
  · exfalso; omega

set_option maxHeartbeats 4000000 in
set_option maxRecDepth 100000 in
theorem c_X12_gain_34 {l : Launch} {D : va_G} {cy : Nat → ClassId} {T0 tB tE : Nat} {a : Nat → Nat} (S : GS) (p0 : Int32) (p1 : Int32) (p2 : Int32)  (hr_p0 : 1 ≤ p0.toInt ∧ p0.toInt ≤ 3) (hr_p1 : 1 ≤ p1.toInt ∧ p1.toInt ≤ 6) (hr_p2 : 8 ≤ p2.toInt ∧ p2.toInt ≤ 2147483647) : Ct l D cy T0 tB tE yX12_gain cX12_gain 9 (some .int) 2 44 0 0 (mw cy a S) [.ref (a 0), .int 1, .int p0, .int p1, .int p2] (QI D (U := GS) (fun r u => (-100) = r ∧ S = u) (mw cy a)) := by
  refine Ct.ofZ RX12 "gain" [(0, .ref (a 0)), (1, .int 1), (2, .int p0), (3, .int p1), (4, .int p2)] rfl rfl rfl rfl (Nat.le_of_ble_eq_true rfl) ?_
  intro p e R s m args below meth c A b
  refine z_iload_n b dX12_gain_0 rfl rfl ?_
  refine z_calli b (z_runS (As := [.int 1]) (st := []) b (c_X12_isOne_4 S ) cf_X12_isOne wm_X12_170 ws_X12_isOne dX12_gain_1 rfl (Nat.le_of_ble_eq_true rfl) ⟨by decide, by decide, by decide, by decide⟩) (fun r12850 u12851 h12849 => ?_)
  obtain ⟨rfl, rfl⟩ := h12849
  refine z_if_eq_f (tgt := 27) b dX12_gain_4 (by decide) (by decide) ?_
  refine z_aload_n b dX12_gain_7 rfl rfl ?_
  refine z_iload_n b dX12_gain_8 rfl rfl ?_
  refine z_iload_n b dX12_gain_9 rfl rfl ?_
  refine z_calli b (z_runV (q0 := 0) (As := [.int p0, .int p1]) (st := []) b (c_X12_canSearch_5 S p0 p1 ⟨by omega, by omega⟩ ⟨by omega, by omega⟩) cf_X12_canSearch (mw_0 cy a S) rfl wm_X12_433 wi_X12_canSearch ws_X12_canSearch dX12_gain_10 rfl (Nat.le_of_ble_eq_true rfl) ⟨by decide, by decide, by decide, by decide⟩) (fun r12853 u12854 h12852 => ?_)
  obtain ⟨rfl, rfl⟩ := h12852
  refine z_if_eq_f (tgt := 27) b dX12_gain_13 (by decide) (by decide) ?_
  refine z_iload b dX12_gain_16 rfl ?_
  refine z_iconst (v := 0) b dX12_gain_18 (by decide) ?_
  refine z_bipush (v := 7) b dX12_gain_19 (by decide) ?_
  refine z_calli b (z_runS (As := [.int p2, .int 0, .int 7]) (st := []) b (c_X12_isIn_14 S p2 ⟨by omega, by omega⟩) cf_X12_isIn wm_X12_1 ws_X12_isIn dX12_gain_21 rfl (Nat.le_of_ble_eq_true rfl) ⟨by decide, by decide, by decide, by decide⟩) (fun r12856 u12857 h12855 => ?_)
  obtain ⟨rfl, rfl⟩ := h12855
  refine z_if_ne_f (tgt := 30) b dX12_gain_24 (by decide) (by decide) ?_
  refine z_bipush (v := (-100)) b dX12_gain_27 (by decide) ?_
  exact z_iret (u := S) b rfl dX12_gain_29 ⟨rfl, rfl⟩ rfl (by decide) (by decide)

set_option maxHeartbeats 4000000 in
set_option maxRecDepth 100000 in
theorem c_X11_gain_35 {l : Launch} {D : va_G} {cy : Nat → ClassId} {T0 tB tE : Nat} {a : Nat → Nat} {rw : Nat → Option Nat} (S : GS) (p0 : Int32) (p1 : Int32)  (hr_p0 : 1 ≤ p0.toInt ∧ p0.toInt ≤ 3) (hr_p1 : (-2147483648) ≤ p1.toInt ∧ p1.toInt ≤ (-1)) : Ct l D cy T0 tB tE yX11_gain cX11_gain 7 (some .int) 1 20 0 0 (cw cy tE a rw S) [.ref (a 0), .int 2, .int p0, .int 0, .int p1] (QI D (U := GS) (fun r u => (-100) = r ∧ S = u) (cw cy tE a rw)) := by
  refine Ct.ofZ RX11 "gain" [(0, .ref (a 0)), (1, .int 2), (2, .int p0), (3, .int 0), (4, .int p1)] rfl rfl rfl rfl (Nat.le_of_ble_eq_true rfl) ?_
  intro p e R s m args below meth c A b
  refine z_iload_n b dX11_gain_0 rfl rfl ?_
  refine z_calli b (z_runS (As := [.int 2]) (st := []) b (c_X11_isPerson_5 S ) cf_X11_isPerson wm_X11_69 ws_X11_isPerson dX11_gain_1 rfl (Nat.le_of_ble_eq_true rfl) ⟨by decide, by decide, by decide, by decide⟩) (fun r12859 u12860 h12858 => ?_)
  obtain ⟨rfl, rfl⟩ := h12858
  refine z_if_eq_f (tgt := 26) b dX11_gain_4 (by decide) (by decide) ?_
  refine z_iload_n b dX11_gain_7 rfl rfl ?_
  refine z_calli b (z_runS (As := [.int p0]) (st := []) b (c_X11_areLaws_3 S p0 ⟨by omega, by omega⟩) cf_X11_areLaws wm_X11_181 ws_X11_areLaws dX11_gain_8 rfl (Nat.le_of_ble_eq_true rfl) ⟨by decide, by decide, by decide, by decide⟩) (fun r12862 u12863 h12861 => ?_)
  obtain ⟨rfl, rfl⟩ := h12861
  refine z_if_eq_f (tgt := 26) b dX11_gain_11 (by decide) (by decide) ?_
  refine z_iload_n b dX11_gain_14 rfl rfl ?_
  refine z_calli b (z_runS (As := [.int 0]) (st := []) b (c_X11_isDepth_2 S ) cf_X11_isDepth wm_X11_203 ws_X11_isDepth dX11_gain_15 rfl (Nat.le_of_ble_eq_true rfl) ⟨by decide, by decide, by decide, by decide⟩) (fun r12865 u12866 h12864 => ?_)
  obtain ⟨rfl, rfl⟩ := h12864
  refine z_if_eq_f (tgt := 26) b dX11_gain_18 (by decide) (by decide) ?_
  refine z_iload b dX11_gain_21 rfl ?_
  refine y_if_ge (tgt := 29) (xl := p1.toInt) b rfl dX11_gain_23 (by decide) (fun c12867 => ?_) (fun c12867 => ?_)
  · exfalso; omega
  · refine z_bipush (v := (-100)) b dX11_gain_26 (by decide) ?_
    exact z_iret (u := S) b rfl dX11_gain_28 ⟨rfl, rfl⟩ rfl (by decide) (by decide)

set_option maxHeartbeats 4000000 in
set_option maxRecDepth 100000 in
theorem c_X12_gain_35 {l : Launch} {D : va_G} {cy : Nat → ClassId} {T0 tB tE : Nat} {a : Nat → Nat} (S : GS) (p0 : Int32) (p1 : Int32)  (hr_p0 : 1 ≤ p0.toInt ∧ p0.toInt ≤ 3) (hr_p1 : (-2147483648) ≤ p1.toInt ∧ p1.toInt ≤ (-1)) : Ct l D cy T0 tB tE yX12_gain cX12_gain 9 (some .int) 2 44 0 0 (mw cy a S) [.ref (a 0), .int 2, .int p0, .int 0, .int p1] (QI D (U := GS) (fun r u => (-100) = r ∧ S = u) (mw cy a)) := by
  refine Ct.ofZ RX12 "gain" [(0, .ref (a 0)), (1, .int 2), (2, .int p0), (3, .int 0), (4, .int p1)] rfl rfl rfl rfl (Nat.le_of_ble_eq_true rfl) ?_
  intro p e R s m args below meth c A b
  refine z_iload_n b dX12_gain_0 rfl rfl ?_
  refine z_calli b (z_runS (As := [.int 2]) (st := []) b (c_X12_isOne_5 S ) cf_X12_isOne wm_X12_170 ws_X12_isOne dX12_gain_1 rfl (Nat.le_of_ble_eq_true rfl) ⟨by decide, by decide, by decide, by decide⟩) (fun r12869 u12870 h12868 => ?_)
  obtain ⟨rfl, rfl⟩ := h12868
  refine z_if_eq_f (tgt := 27) b dX12_gain_4 (by decide) (by decide) ?_
  refine z_aload_n b dX12_gain_7 rfl rfl ?_
  refine z_iload_n b dX12_gain_8 rfl rfl ?_
  refine z_iload_n b dX12_gain_9 rfl rfl ?_
  refine z_calli b (z_runV (q0 := 0) (As := [.int p0, .int 0]) (st := []) b (c_X12_canSearch_4 S p0 ⟨by omega, by omega⟩) cf_X12_canSearch (mw_0 cy a S) rfl wm_X12_433 wi_X12_canSearch ws_X12_canSearch dX12_gain_10 rfl (Nat.le_of_ble_eq_true rfl) ⟨by decide, by decide, by decide, by decide⟩) (fun r12872 u12873 h12871 => ?_)
  obtain ⟨rfl, rfl⟩ := h12871
  refine z_if_eq_f (tgt := 27) b dX12_gain_13 (by decide) (by decide) ?_
  refine z_iload b dX12_gain_16 rfl ?_
  refine z_iconst (v := 0) b dX12_gain_18 (by decide) ?_
  refine z_bipush (v := 7) b dX12_gain_19 (by decide) ?_
  refine z_calli b (z_runS (As := [.int p1, .int 0, .int 7]) (st := []) b (c_X12_isIn_12 S p1 ⟨by omega, by omega⟩) cf_X12_isIn wm_X12_1 ws_X12_isIn dX12_gain_21 rfl (Nat.le_of_ble_eq_true rfl) ⟨by decide, by decide, by decide, by decide⟩) (fun r12875 u12876 h12874 => ?_)
  obtain ⟨rfl, rfl⟩ := h12874
  refine z_if_ne_f (tgt := 30) b dX12_gain_24 (by decide) (by decide) ?_
  refine z_bipush (v := (-100)) b dX12_gain_27 (by decide) ?_
  exact z_iret (u := S) b rfl dX12_gain_29 ⟨rfl, rfl⟩ rfl (by decide) (by decide)

set_option maxHeartbeats 4000000 in
set_option maxRecDepth 100000 in
theorem c_X9_get_7 {l : Launch} {D : va_G} {cy : Nat → ClassId} {T0 tB tE : Nat} {a : Nat → Nat} {rw : Nat → Option Nat} (S : GS)  (h_a_9_2 : ar S 9 2 = 0) : Ct l D cy T0 tB tE yX9_get cX9_get 2 (some .int) 0 0 0 0 (cw cy tE a rw S) [.ref (a 26), .int 2] (QI D (U := GS) (fun r u => 0 = r ∧ S = u) (cw cy tE a rw)) := by
  refine Ct.ofZ RX9 "get" [(0, .ref (a 26)), (1, .int 2)] rfl rfl rfl rfl (Nat.le_of_ble_eq_true rfl) ?_
  intro p e R s m args below meth c A b
  refine z_iload_n b dX9_get_0 rfl rfl ?_
  refine z_if_lt_f (tgt := 22) b dX9_get_1 (by decide) (by decide) ?_
  refine z_iload_n b dX9_get_4 rfl rfl ?_
  refine z_aload_n b dX9_get_5 rfl rfl ?_
  refine z_get (q0 := 26) (k9 := 0) (v := .ref (a 27)) b (cw_26 cy tE a rw S) rfl in_X9 (by decide) wf_X9_11 rfl dX9_get_6 ?_
  refine z_alen (q0 := 27) (t0 := 0) (v := 51) b (cw_27 cy tE a rw S) rfl rfl dX9_get_9 ?_
  refine z_icmp_ge_f (tgt := 22) b dX9_get_10 (by decide) (by decide) ?_
  refine z_aload_n b dX9_get_13 rfl rfl ?_
  refine z_get (q0 := 26) (k9 := 0) (v := .ref (a 27)) b (cw_26 cy tE a rw S) rfl in_X9 (by decide) wf_X9_11 rfl dX9_get_14 ?_
  refine z_iload_n b dX9_get_17 rfl rfl ?_
  refine y_iald (q0 := 27) (j := 2) (v := (ar S 9 2)) b (cw_27 cy tE a rw S) (by decide) rfl dX9_get_18 ?_
  refine z_eqi h_a_9_2 ?_
  refine z_goto (tgt := 23) b dX9_get_19 (by decide) ?_
  exact z_iret (u := S) b rfl dX9_get_23 ⟨rfl, rfl⟩ rfl (by decide) (by decide)

set_option maxHeartbeats 4000000 in
set_option maxRecDepth 100000 in
theorem c_X9_get_8 {l : Launch} {D : va_G} {cy : Nat → ClassId} {T0 tB tE : Nat} {a : Nat → Nat} {rw : Nat → Option Nat} (S : GS)  (h_a_9_16 : ar S 9 16 = 0) : Ct l D cy T0 tB tE yX9_get cX9_get 2 (some .int) 0 0 0 0 (cw cy tE a rw S) [.ref (a 26), .int 16] (QI D (U := GS) (fun r u => 0 = r ∧ S = u) (cw cy tE a rw)) := by
  refine Ct.ofZ RX9 "get" [(0, .ref (a 26)), (1, .int 16)] rfl rfl rfl rfl (Nat.le_of_ble_eq_true rfl) ?_
  intro p e R s m args below meth c A b
  refine z_iload_n b dX9_get_0 rfl rfl ?_
  refine z_if_lt_f (tgt := 22) b dX9_get_1 (by decide) (by decide) ?_
  refine z_iload_n b dX9_get_4 rfl rfl ?_
  refine z_aload_n b dX9_get_5 rfl rfl ?_
  refine z_get (q0 := 26) (k9 := 0) (v := .ref (a 27)) b (cw_26 cy tE a rw S) rfl in_X9 (by decide) wf_X9_11 rfl dX9_get_6 ?_
  refine z_alen (q0 := 27) (t0 := 0) (v := 51) b (cw_27 cy tE a rw S) rfl rfl dX9_get_9 ?_
  refine z_icmp_ge_f (tgt := 22) b dX9_get_10 (by decide) (by decide) ?_
  refine z_aload_n b dX9_get_13 rfl rfl ?_
  refine z_get (q0 := 26) (k9 := 0) (v := .ref (a 27)) b (cw_26 cy tE a rw S) rfl in_X9 (by decide) wf_X9_11 rfl dX9_get_14 ?_
  refine z_iload_n b dX9_get_17 rfl rfl ?_
  refine y_iald (q0 := 27) (j := 16) (v := (ar S 9 16)) b (cw_27 cy tE a rw S) (by decide) rfl dX9_get_18 ?_
  refine z_eqi h_a_9_16 ?_
  refine z_goto (tgt := 23) b dX9_get_19 (by decide) ?_
  exact z_iret (u := S) b rfl dX9_get_23 ⟨rfl, rfl⟩ rfl (by decide) (by decide)

set_option maxHeartbeats 4000000 in
set_option maxRecDepth 100000 in
theorem c_X9_get_9 {l : Launch} {D : va_G} {cy : Nat → ClassId} {T0 tB tE : Nat} {a : Nat → Nat} {rw : Nat → Option Nat} (S : GS)  (h_a_9_17 : ar S 9 17 = 0) : Ct l D cy T0 tB tE yX9_get cX9_get 2 (some .int) 0 0 0 0 (cw cy tE a rw S) [.ref (a 26), .int 17] (QI D (U := GS) (fun r u => 0 = r ∧ S = u) (cw cy tE a rw)) := by
  refine Ct.ofZ RX9 "get" [(0, .ref (a 26)), (1, .int 17)] rfl rfl rfl rfl (Nat.le_of_ble_eq_true rfl) ?_
  intro p e R s m args below meth c A b
  refine z_iload_n b dX9_get_0 rfl rfl ?_
  refine z_if_lt_f (tgt := 22) b dX9_get_1 (by decide) (by decide) ?_
  refine z_iload_n b dX9_get_4 rfl rfl ?_
  refine z_aload_n b dX9_get_5 rfl rfl ?_
  refine z_get (q0 := 26) (k9 := 0) (v := .ref (a 27)) b (cw_26 cy tE a rw S) rfl in_X9 (by decide) wf_X9_11 rfl dX9_get_6 ?_
  refine z_alen (q0 := 27) (t0 := 0) (v := 51) b (cw_27 cy tE a rw S) rfl rfl dX9_get_9 ?_
  refine z_icmp_ge_f (tgt := 22) b dX9_get_10 (by decide) (by decide) ?_
  refine z_aload_n b dX9_get_13 rfl rfl ?_
  refine z_get (q0 := 26) (k9 := 0) (v := .ref (a 27)) b (cw_26 cy tE a rw S) rfl in_X9 (by decide) wf_X9_11 rfl dX9_get_14 ?_
  refine z_iload_n b dX9_get_17 rfl rfl ?_
  refine y_iald (q0 := 27) (j := 17) (v := (ar S 9 17)) b (cw_27 cy tE a rw S) (by decide) rfl dX9_get_18 ?_
  refine z_eqi h_a_9_17 ?_
  refine z_goto (tgt := 23) b dX9_get_19 (by decide) ?_
  exact z_iret (u := S) b rfl dX9_get_23 ⟨rfl, rfl⟩ rfl (by decide) (by decide)

set_option maxHeartbeats 4000000 in
set_option maxRecDepth 100000 in
theorem c_X8_wealth_3 {l : Launch} {D : va_G} {cy : Nat → ClassId} {T0 tB tE : Nat} {a : Nat → Nat} {rw : Nat → Option Nat} (S : GS)  (h_i_25 : fi S 25 = 1) (h_A_2_0 : al S 2 0 = 4128768) (h_a_9_50 : ar S 9 50 = 0) (h_a_9_40 : ar S 9 40 = 3) (h_a_9_41 : ar S 9 41 = 3) (h_a_9_42 : ar S 9 42 = 3) (h_a_9_0 : ar S 9 0 = 0) (h_a_9_11 : ar S 9 11 = 0) (h_a_9_21 : ar S 9 21 = 0) (h_a_9_31 : ar S 9 31 = 0) (h_a_9_12 : ar S 9 12 = 0) (h_a_9_22 : ar S 9 22 = 0) (h_a_9_32 : ar S 9 32 = 0) (h_a_9_1 : ar S 9 1 = 0) (h_a_9_13 : ar S 9 13 = 0) (h_a_9_23 : ar S 9 23 = 0) (h_a_9_33 : ar S 9 33 = 0) (h_a_9_15 : ar S 9 15 = 0) (h_a_9_25 : ar S 9 25 = 0) (h_a_9_35 : ar S 9 35 = 0) (h_a_9_2 : ar S 9 2 = 0) (h_a_9_16 : ar S 9 16 = 0) (h_a_9_26 : ar S 9 26 = 0) (h_a_9_36 : ar S 9 36 = 0) (h_a_9_17 : ar S 9 17 = 0) (h_a_9_27 : ar S 9 27 = 0) (h_a_9_37 : ar S 9 37 = 0) : Ct l D cy T0 tB tE yX8_wealth cX8_wealth 5 (some .int) 3 68 0 0 (cw cy tE a rw S) [.ref (a 25), .int 0, .int 2] (QI D (U := GS) (fun r u => 0 = r ∧ S = u) (cw cy tE a rw)) := by
  refine Ct.ofZ RX8 "wealth" [(0, .ref (a 25)), (1, .int 0), (2, .int 2)] rfl rfl rfl rfl (Nat.le_of_ble_eq_true rfl) ?_
  intro p e R s m args below meth c A b
  refine z_aload_n b dX8_wealth_0 rfl rfl ?_
  refine z_iload_n b dX8_wealth_1 rfl rfl ?_
  refine z_callv b (z_runV (q0 := 25) (As := [.int 0]) (st := []) b (c_X8_load S h_i_25 h_A_2_0 h_a_9_50 h_a_9_40 h_a_9_41 h_a_9_42 h_a_9_0 h_a_9_11 h_a_9_21 h_a_9_31 h_a_9_12 h_a_9_22 h_a_9_32 h_a_9_1 h_a_9_13 h_a_9_23 h_a_9_33 h_a_9_15 h_a_9_25 h_a_9_35 h_a_9_2 h_a_9_16 h_a_9_26 h_a_9_36 h_a_9_17 h_a_9_27 h_a_9_37) cf_X8_load (cw_25 cy tE a rw S) rfl wm_X8_153 wi_X8_load ws_X8_load dX8_wealth_2 rfl (Nat.le_of_ble_eq_true rfl) ⟨by decide, by decide, by decide, by decide⟩) (fun u12894 h12892 => ?_)
  obtain rfl := h12892
  refine z_aload_n b dX8_wealth_5 rfl rfl ?_
  refine z_get (q0 := 25) (k9 := 2) (v := .ref (a 26)) b (cw_25 cy tE a rw S) rfl in_X8 (by decide) wf_X8_12 rfl dX8_wealth_6 ?_
  refine z_iload_n b dX8_wealth_9 rfl rfl ?_
  refine z_calli b (z_runV (q0 := 26) (As := [.int 2]) (st := []) b (c_X9_get_7 S h_a_9_2) cf_X9_get (cw_26 cy tE a rw S) rfl wm_X8_161 wi_X9_get ws_X9_get dX8_wealth_10 rfl (Nat.le_of_ble_eq_true rfl) ⟨by decide, by decide, by decide, by decide⟩) (fun r12896 u12897 h12895 => ?_)
  obtain ⟨rfl, rfl⟩ := h12895
  refine z_istore_n (lv' := [(3, .int 0), (0, .ref (a 25)), (1, .int 0), (2, .int 2)]) b dX8_wealth_13 rfl (by decide) rfl ?_
  refine z_iconst (v := 0) b dX8_wealth_14 (by decide) ?_
  refine z_istore (lv' := [(4, .int 0), (3, .int 0), (0, .ref (a 25)), (1, .int 0), (2, .int 2)]) b dX8_wealth_15 (by decide) rfl ?_
  refine z_iload b dX8_wealth_17 rfl ?_
  refine z_iconst (v := 3) b dX8_wealth_19 (by decide) ?_
  refine z_icmp_ge_f (tgt := 54) b dX8_wealth_20 (by decide) (by decide) ?_
  refine z_iload b dX8_wealth_23 rfl ?_
  refine z_iload_n b dX8_wealth_25 rfl rfl ?_
  refine z_icmp_eq_f (tgt := 48) b dX8_wealth_26 (by decide) (by decide) ?_
  refine z_iload_n b dX8_wealth_29 rfl rfl ?_
  refine z_aload_n b dX8_wealth_30 rfl rfl ?_
  refine z_get (q0 := 25) (k9 := 2) (v := .ref (a 26)) b (cw_25 cy tE a rw S) rfl in_X8 (by decide) wf_X8_12 rfl dX8_wealth_31 ?_
  refine z_bipush (v := 10) b dX8_wealth_34 (by decide) ?_
  refine z_iconst (v := 3) b dX8_wealth_36 (by decide) ?_
  refine z_iload_n b dX8_wealth_37 rfl rfl ?_
  refine z_imul (v := 6) b dX8_wealth_38 (by decide) ?_
  refine z_iadd (v := 16) b dX8_wealth_39 (by decide) ?_
  refine z_iload b dX8_wealth_40 rfl ?_
  refine z_iadd (v := 16) b dX8_wealth_42 (by decide) ?_
  refine z_calli b (z_runV (q0 := 26) (As := [.int 16]) (st := [.int 0]) b (c_X9_get_8 S h_a_9_16) cf_X9_get (cw_26 cy tE a rw S) rfl wm_X8_161 wi_X9_get ws_X9_get dX8_wealth_43 rfl (Nat.le_of_ble_eq_true rfl) ⟨by decide, by decide, by decide, by decide⟩) (fun r12899 u12900 h12898 => ?_)
  obtain ⟨rfl, rfl⟩ := h12898
  refine z_isub (v := 0) b dX8_wealth_46 (by decide) ?_
  refine z_istore_n (lv' := [(3, .int 0), (4, .int 0), (0, .ref (a 25)), (1, .int 0), (2, .int 2)]) b dX8_wealth_47 rfl (by decide) rfl ?_
  refine z_iinc (k9 := 1) (v := 1) (lv' := [(4, .int 1), (3, .int 0), (0, .ref (a 25)), (1, .int 0), (2, .int 2)]) b dX8_wealth_48 rfl (by decide) (by decide) rfl ?_
  refine z_goto (tgt := 17) b dX8_wealth_51 (by decide) ?_
  refine z_iload b dX8_wealth_17 rfl ?_
  refine z_iconst (v := 3) b dX8_wealth_19 (by decide) ?_
  refine z_icmp_ge_f (tgt := 54) b dX8_wealth_20 (by decide) (by decide) ?_
  refine z_iload b dX8_wealth_23 rfl ?_
  refine z_iload_n b dX8_wealth_25 rfl rfl ?_
  refine z_icmp_eq_f (tgt := 48) b dX8_wealth_26 (by decide) (by decide) ?_
  refine z_iload_n b dX8_wealth_29 rfl rfl ?_
  refine z_aload_n b dX8_wealth_30 rfl rfl ?_
  refine z_get (q0 := 25) (k9 := 2) (v := .ref (a 26)) b (cw_25 cy tE a rw S) rfl in_X8 (by decide) wf_X8_12 rfl dX8_wealth_31 ?_
  refine z_bipush (v := 10) b dX8_wealth_34 (by decide) ?_
  refine z_iconst (v := 3) b dX8_wealth_36 (by decide) ?_
  refine z_iload_n b dX8_wealth_37 rfl rfl ?_
  refine z_imul (v := 6) b dX8_wealth_38 (by decide) ?_
  refine z_iadd (v := 16) b dX8_wealth_39 (by decide) ?_
  refine z_iload b dX8_wealth_40 rfl ?_
  refine z_iadd (v := 17) b dX8_wealth_42 (by decide) ?_
  refine z_calli b (z_runV (q0 := 26) (As := [.int 17]) (st := [.int 0]) b (c_X9_get_9 S h_a_9_17) cf_X9_get (cw_26 cy tE a rw S) rfl wm_X8_161 wi_X9_get ws_X9_get dX8_wealth_43 rfl (Nat.le_of_ble_eq_true rfl) ⟨by decide, by decide, by decide, by decide⟩) (fun r12902 u12903 h12901 => ?_)
  obtain ⟨rfl, rfl⟩ := h12901
  refine z_isub (v := 0) b dX8_wealth_46 (by decide) ?_
  refine z_istore_n (lv' := [(3, .int 0), (4, .int 1), (0, .ref (a 25)), (1, .int 0), (2, .int 2)]) b dX8_wealth_47 rfl (by decide) rfl ?_
  refine z_iinc (k9 := 1) (v := 2) (lv' := [(4, .int 2), (3, .int 0), (0, .ref (a 25)), (1, .int 0), (2, .int 2)]) b dX8_wealth_48 rfl (by decide) (by decide) rfl ?_
  refine z_goto (tgt := 17) b dX8_wealth_51 (by decide) ?_
  refine z_iload b dX8_wealth_17 rfl ?_
  refine z_iconst (v := 3) b dX8_wealth_19 (by decide) ?_
  refine z_icmp_ge_f (tgt := 54) b dX8_wealth_20 (by decide) (by decide) ?_
  refine z_iload b dX8_wealth_23 rfl ?_
  refine z_iload_n b dX8_wealth_25 rfl rfl ?_
  refine z_icmp_eq_t (tgt := 48) b dX8_wealth_26 (by decide) (by decide) ?_
  refine z_iinc (k9 := 0) (v := 3) (lv' := [(4, .int 3), (3, .int 0), (0, .ref (a 25)), (1, .int 0), (2, .int 2)]) b dX8_wealth_48 rfl (by decide) (by decide) rfl ?_
  refine z_goto (tgt := 17) b dX8_wealth_51 (by decide) ?_
  refine z_iload b dX8_wealth_17 rfl ?_
  refine z_iconst (v := 3) b dX8_wealth_19 (by decide) ?_
  refine z_icmp_ge_t (tgt := 54) b dX8_wealth_20 (by decide) (by decide) ?_
  refine z_iload_n b dX8_wealth_54 rfl rfl ?_
  exact z_iret (u := S) b rfl dX8_wealth_55 ⟨rfl, rfl⟩ rfl (by decide) (by decide)

set_option maxHeartbeats 4000000 in
set_option maxRecDepth 100000 in
theorem c_X8_richest_3 {l : Launch} {D : va_G} {cy : Nat → ClassId} {T0 tB tE : Nat} {a : Nat → Nat} {rw : Nat → Option Nat} (S : GS)  (h_i_25 : fi S 25 = 1) (h_A_2_0 : al S 2 0 = 4128768) (h_a_9_50 : ar S 9 50 = 0) (h_a_9_40 : ar S 9 40 = 3) (h_a_9_41 : ar S 9 41 = 3) (h_a_9_42 : ar S 9 42 = 3) (h_a_9_0 : ar S 9 0 = 0) (h_a_9_11 : ar S 9 11 = 0) (h_a_9_21 : ar S 9 21 = 0) (h_a_9_31 : ar S 9 31 = 0) (h_a_9_12 : ar S 9 12 = 0) (h_a_9_22 : ar S 9 22 = 0) (h_a_9_32 : ar S 9 32 = 0) (h_a_9_1 : ar S 9 1 = 0) (h_a_9_13 : ar S 9 13 = 0) (h_a_9_23 : ar S 9 23 = 0) (h_a_9_33 : ar S 9 33 = 0) (h_a_9_15 : ar S 9 15 = 0) (h_a_9_25 : ar S 9 25 = 0) (h_a_9_35 : ar S 9 35 = 0) (h_a_9_2 : ar S 9 2 = 0) (h_a_9_16 : ar S 9 16 = 0) (h_a_9_26 : ar S 9 26 = 0) (h_a_9_36 : ar S 9 36 = 0) (h_a_9_17 : ar S 9 17 = 0) (h_a_9_27 : ar S 9 27 = 0) (h_a_9_37 : ar S 9 37 = 0) : Ct l D cy T0 tB tE yX8_richest cX8_richest 6 (some .int) 4 92 0 0 (cw cy tE a rw S) [.ref (a 25), .int 2] (QI D (U := GS) (fun r u => 0 = r ∧ S = u) (cw cy tE a rw)) := by
  refine Ct.ofZ RX8 "richest" [(0, .ref (a 25)), (1, .int 2)] rfl rfl rfl rfl (Nat.le_of_ble_eq_true rfl) ?_
  intro p e R s m args below meth c A b
  refine z_iconst (v := 0) b dX8_richest_0 (by decide) ?_
  refine z_istore_n (lv' := [(2, .int 0), (0, .ref (a 25)), (1, .int 2)]) b dX8_richest_1 rfl (by decide) rfl ?_
  refine z_aload_n b dX8_richest_2 rfl rfl ?_
  refine z_iconst (v := 0) b dX8_richest_3 (by decide) ?_
  refine z_iload_n b dX8_richest_4 rfl rfl ?_
  refine z_calli b (z_runV (q0 := 25) (As := [.int 0, .int 2]) (st := []) b (c_X8_wealth_3 S h_i_25 h_A_2_0 h_a_9_50 h_a_9_40 h_a_9_41 h_a_9_42 h_a_9_0 h_a_9_11 h_a_9_21 h_a_9_31 h_a_9_12 h_a_9_22 h_a_9_32 h_a_9_1 h_a_9_13 h_a_9_23 h_a_9_33 h_a_9_15 h_a_9_25 h_a_9_35 h_a_9_2 h_a_9_16 h_a_9_26 h_a_9_36 h_a_9_17 h_a_9_27 h_a_9_37) cf_X8_wealth (cw_25 cy tE a rw S) rfl wm_X8_163 wi_X8_wealth ws_X8_wealth dX8_richest_5 rfl (Nat.le_of_ble_eq_true rfl) ⟨by decide, by decide, by decide, by decide⟩) (fun r12905 u12906 h12904 => ?_)
  obtain ⟨rfl, rfl⟩ := h12904
  refine z_istore_n (lv' := [(3, .int 0), (2, .int 0), (0, .ref (a 25)), (1, .int 2)]) b dX8_richest_8 rfl (by decide) rfl ?_
  refine z_iconst (v := 1) b dX8_richest_9 (by decide) ?_
  refine z_istore (lv' := [(4, .int 1), (3, .int 0), (2, .int 0), (0, .ref (a 25)), (1, .int 2)]) b dX8_richest_10 (by decide) rfl ?_
  refine z_iload b dX8_richest_12 rfl ?_
  refine z_aload_n b dX8_richest_14 rfl rfl ?_
  refine z_get (q0 := 25) (k9 := 17) (v := .int (fi S 25)) b (cw_25 cy tE a rw S) rfl in_X8 (by decide) wf_X8_64 rfl dX8_richest_15 ?_
  refine z_eqi h_i_25 ?_
  refine z_icmp_ge_t (tgt := 56) b dX8_richest_18 (by decide) (by decide) ?_
  refine z_iload_n b dX8_richest_56 rfl rfl ?_
  exact z_iret (u := S) b rfl dX8_richest_57 ⟨rfl, rfl⟩ rfl (by decide) (by decide)

set_option maxHeartbeats 4000000 in
set_option maxRecDepth 100000 in
theorem c_X11_gain_36 {l : Launch} {D : va_G} {cy : Nat → ClassId} {T0 tB tE : Nat} {a : Nat → Nat} {rw : Nat → Option Nat} (S : GS) (p0 : Int32) (h_i_19 : fi S 19 = 0) (h_i_24 : fi S 24 = 0) (h_i_20 : fi S 20 = 0) (h_i_22 : fi S 22 = 0) (h_i_18 : fi S 18 = 0) (h_i_25 : fi S 25 = 0) (h_i_23 : fi S 23 = 0) (h_i_26 : fi S 26 = 0) (h_a_4_50 : ar S 4 50 = 0) (h_a_4_40 : ar S 4 40 = 3) (h_a_4_41 : ar S 4 41 = 3) (h_a_4_42 : ar S 4 42 = 3) (h_a_4_0 : ar S 4 0 = 0) (h_a_4_11 : ar S 4 11 = 0) (h_a_4_21 : ar S 4 21 = 0) (h_a_4_31 : ar S 4 31 = 0) (h_a_4_12 : ar S 4 12 = 0) (h_a_4_22 : ar S 4 22 = 0) (h_a_4_32 : ar S 4 32 = 0) (h_a_4_1 : ar S 4 1 = 0) (h_a_4_13 : ar S 4 13 = 0) (h_a_4_23 : ar S 4 23 = 0) (h_a_4_33 : ar S 4 33 = 0) (h_a_4_15 : ar S 4 15 = 0) (h_a_4_25 : ar S 4 25 = 0) (h_a_4_35 : ar S 4 35 = 0) (h_a_4_2 : ar S 4 2 = 0) (h_a_4_16 : ar S 4 16 = 0) (h_a_4_26 : ar S 4 26 = 0) (h_a_4_36 : ar S 4 36 = 0) (h_a_4_17 : ar S 4 17 = 0) (h_a_4_27 : ar S 4 27 = 0) (h_a_4_37 : ar S 4 37 = 0) (h_a_10_0 : ar S 10 0 = 0) (h_a_9_50 : ar S 9 50 = 0) (h_a_9_40 : ar S 9 40 = 3) (h_a_9_41 : ar S 9 41 = 3) (h_a_9_42 : ar S 9 42 = 3) (h_a_9_0 : ar S 9 0 = 0) (h_a_9_11 : ar S 9 11 = 0) (h_a_9_21 : ar S 9 21 = 0) (h_a_9_31 : ar S 9 31 = 0) (h_a_9_12 : ar S 9 12 = 0) (h_a_9_22 : ar S 9 22 = 0) (h_a_9_32 : ar S 9 32 = 0) (h_a_9_1 : ar S 9 1 = 0) (h_a_9_13 : ar S 9 13 = 0) (h_a_9_23 : ar S 9 23 = 0) (h_a_9_33 : ar S 9 33 = 0) (h_a_9_15 : ar S 9 15 = 0) (h_a_9_25 : ar S 9 25 = 0) (h_a_9_35 : ar S 9 35 = 0) (h_a_9_2 : ar S 9 2 = 0) (h_a_9_16 : ar S 9 16 = 0) (h_a_9_26 : ar S 9 26 = 0) (h_a_9_36 : ar S 9 36 = 0) (h_a_9_17 : ar S 9 17 = 0) (h_a_9_27 : ar S 9 27 = 0) (h_a_9_37 : ar S 9 37 = 0) (hr_p0 : 1 ≤ p0.toInt ∧ p0.toInt ≤ 3) : Ct l D cy T0 tB tE yX11_gain cX11_gain 7 (some .int) 5 117 0 0 (cw cy tE a rw S) [.ref (a 0), .int 2, .int p0, .int 0, .int 0] (QI D (U := GS) (fun r u => 0 = r ∧ (su (si (su (su (sv (sa (si (si (si S 24 1) 19 p0) 21 7) 13 (fil 1024 0 (ar (si (si (si S 24 1) 19 p0) 21 7) 13))) 2 0 4128768) 11 0 (-1)) 12 0 (-1)) 25 1) 13 978 1) = u) (cw cy tE a rw)) := by
  refine Ct.ofZ RX11 "gain" [(0, .ref (a 0)), (1, .int 2), (2, .int p0), (3, .int 0), (4, .int 0)] rfl rfl rfl rfl (Nat.le_of_ble_eq_true rfl) ?_
  intro p e R s m args below meth c A b
  refine z_iload_n b dX11_gain_0 rfl rfl ?_
  refine z_calli b (z_runS (As := [.int 2]) (st := []) b (c_X11_isPerson_5 S ) cf_X11_isPerson wm_X11_69 ws_X11_isPerson dX11_gain_1 rfl (Nat.le_of_ble_eq_true rfl) ⟨by decide, by decide, by decide, by decide⟩) (fun r12878 u12879 h12877 => ?_)
  obtain ⟨rfl, rfl⟩ := h12877
  refine z_if_eq_f (tgt := 26) b dX11_gain_4 (by decide) (by decide) ?_
  refine z_iload_n b dX11_gain_7 rfl rfl ?_
  refine z_calli b (z_runS (As := [.int p0]) (st := []) b (c_X11_areLaws_3 S p0 ⟨by omega, by omega⟩) cf_X11_areLaws wm_X11_181 ws_X11_areLaws dX11_gain_8 rfl (Nat.le_of_ble_eq_true rfl) ⟨by decide, by decide, by decide, by decide⟩) (fun r12881 u12882 h12880 => ?_)
  obtain ⟨rfl, rfl⟩ := h12880
  refine z_if_eq_f (tgt := 26) b dX11_gain_11 (by decide) (by decide) ?_
  refine z_iload_n b dX11_gain_14 rfl rfl ?_
  refine z_calli b (z_runS (As := [.int 0]) (st := []) b (c_X11_isDepth_2 S ) cf_X11_isDepth wm_X11_203 ws_X11_isDepth dX11_gain_15 rfl (Nat.le_of_ble_eq_true rfl) ⟨by decide, by decide, by decide, by decide⟩) (fun r12884 u12885 h12883 => ?_)
  obtain ⟨rfl, rfl⟩ := h12883
  refine z_if_eq_f (tgt := 26) b dX11_gain_18 (by decide) (by decide) ?_
  refine z_iload b dX11_gain_21 rfl ?_
  refine z_if_ge_t (tgt := 29) b dX11_gain_23 (by decide) (by decide) ?_
  refine z_aload_n b dX11_gain_29 rfl rfl ?_
  refine z_get (q0 := 0) (k9 := 6) (v := .ref (a 25)) b (cw_0 cy tE a rw S) rfl in_X11 (by decide) wf_X11_52 rfl dX11_gain_30 ?_
  refine z_iload_n b dX11_gain_33 rfl rfl ?_
  refine z_iload_n b dX11_gain_34 rfl rfl ?_
  refine z_bipush (v := 7) b dX11_gain_35 (by decide) ?_
  refine z_iconst (v := 0) b dX11_gain_37 (by decide) ?_
  refine z_callv b (z_runV (q0 := 25) (As := [.int p0, .int 0, .int 7, .int 0]) (st := []) b (c_X8_begin S p0 h_i_19 h_i_24 h_i_20 h_i_22 h_i_18 h_i_25 h_i_23 h_i_26 h_a_4_50 h_a_4_40 h_a_4_41 h_a_4_42 h_a_4_0 h_a_4_11 h_a_4_21 h_a_4_31 h_a_4_12 h_a_4_22 h_a_4_32 h_a_4_1 h_a_4_13 h_a_4_23 h_a_4_33 h_a_4_15 h_a_4_25 h_a_4_35 h_a_4_2 h_a_4_16 h_a_4_26 h_a_4_36 h_a_4_17 h_a_4_27 h_a_4_37 h_a_10_0 ⟨by omega, by omega⟩) cf_X8_begin (cw_25 cy tE a rw S) rfl wm_X11_206 wi_X8_begin ws_X8_begin dX11_gain_38 rfl (Nat.le_of_ble_eq_true rfl) ⟨by decide, by decide, by decide, by decide⟩) (fun u12888 h12886 => ?_)
  obtain rfl := h12886
  refine z_aload_n b dX11_gain_41 rfl rfl ?_
  refine z_get (q0 := 0) (k9 := 6) (v := .ref (a 25)) b (cw_0 cy tE a rw (su (si (su (su (sv (sa (si (si (si S 24 1) 19 p0) 21 7) 13 (fil 1024 0 (ar (si (si (si S 24 1) 19 p0) 21 7) 13))) 2 0 4128768) 11 0 (-1)) 12 0 (-1)) 25 1) 13 978 1)) rfl in_X11 (by decide) wf_X11_52 rfl dX11_gain_42 ?_
  refine z_callv b (z_runV (q0 := 25) (As := []) (st := []) b (c_X8_finish (su (si (su (su (sv (sa (si (si (si S 24 1) 19 p0) 21 7) 13 (fil 1024 0 (ar (si (si (si S 24 1) 19 p0) 21 7) 13))) 2 0 4128768) 11 0 (-1)) 12 0 (-1)) 25 1) 13 978 1) h_i_26 h_i_23 rfl h_a_10_0 h_i_20) cf_X8_finish (cw_25 cy tE a rw (su (si (su (su (sv (sa (si (si (si S 24 1) 19 p0) 21 7) 13 (fil 1024 0 (ar (si (si (si S 24 1) 19 p0) 21 7) 13))) 2 0 4128768) 11 0 (-1)) 12 0 (-1)) 25 1) 13 978 1)) rfl wm_X11_232 wi_X8_finish ws_X8_finish dX11_gain_45 rfl (Nat.le_of_ble_eq_true rfl) ⟨by decide, by decide, by decide, by decide⟩) (fun u12891 h12889 => ?_)
  obtain rfl := h12889
  refine z_aload_n b dX11_gain_48 rfl rfl ?_
  refine z_get (q0 := 0) (k9 := 6) (v := .ref (a 25)) b (cw_0 cy tE a rw (su (si (su (su (sv (sa (si (si (si S 24 1) 19 p0) 21 7) 13 (fil 1024 0 (ar (si (si (si S 24 1) 19 p0) 21 7) 13))) 2 0 4128768) 11 0 (-1)) 12 0 (-1)) 25 1) 13 978 1)) rfl in_X11 (by decide) wf_X11_52 rfl dX11_gain_49 ?_
  refine z_get (q0 := 25) (k9 := 18) (v := .int (fi (su (si (su (su (sv (sa (si (si (si S 24 1) 19 p0) 21 7) 13 (fil 1024 0 (ar (si (si (si S 24 1) 19 p0) 21 7) 13))) 2 0 4128768) 11 0 (-1)) 12 0 (-1)) 25 1) 13 978 1) 26)) b (cw_25 cy tE a rw (su (si (su (su (sv (sa (si (si (si S 24 1) 19 p0) 21 7) 13 (fil 1024 0 (ar (si (si (si S 24 1) 19 p0) 21 7) 13))) 2 0 4128768) 11 0 (-1)) 12 0 (-1)) 25 1) 13 978 1)) rfl in_X8 (by decide) wf_X11_214 rfl dX11_gain_52 ?_
  refine z_eqi h_i_26 ?_
  refine z_if_eq_t (tgt := 61) b dX11_gain_55 (by decide) (by decide) ?_
  refine z_aload_n b dX11_gain_61 rfl rfl ?_
  refine z_get (q0 := 0) (k9 := 6) (v := .ref (a 25)) b (cw_0 cy tE a rw (su (si (su (su (sv (sa (si (si (si S 24 1) 19 p0) 21 7) 13 (fil 1024 0 (ar (si (si (si S 24 1) 19 p0) 21 7) 13))) 2 0 4128768) 11 0 (-1)) 12 0 (-1)) 25 1) 13 978 1)) rfl in_X11 (by decide) wf_X11_52 rfl dX11_gain_62 ?_
  refine z_iload_n b dX11_gain_65 rfl rfl ?_
  refine z_calli b (z_runV (q0 := 25) (As := [.int 2]) (st := []) b (c_X8_richest_3 (su (si (su (su (sv (sa (si (si (si S 24 1) 19 p0) 21 7) 13 (fil 1024 0 (ar (si (si (si S 24 1) 19 p0) 21 7) 13))) 2 0 4128768) 11 0 (-1)) 12 0 (-1)) 25 1) 13 978 1) rfl rfl h_a_9_50 h_a_9_40 h_a_9_41 h_a_9_42 h_a_9_0 h_a_9_11 h_a_9_21 h_a_9_31 h_a_9_12 h_a_9_22 h_a_9_32 h_a_9_1 h_a_9_13 h_a_9_23 h_a_9_33 h_a_9_15 h_a_9_25 h_a_9_35 h_a_9_2 h_a_9_16 h_a_9_26 h_a_9_36 h_a_9_17 h_a_9_27 h_a_9_37) cf_X8_richest (cw_25 cy tE a rw (su (si (su (su (sv (sa (si (si (si S 24 1) 19 p0) 21 7) 13 (fil 1024 0 (ar (si (si (si S 24 1) 19 p0) 21 7) 13))) 2 0 4128768) 11 0 (-1)) 12 0 (-1)) 25 1) 13 978 1)) rfl wm_X11_238 wi_X8_richest ws_X8_richest dX11_gain_66 rfl (Nat.le_of_ble_eq_true rfl) ⟨by decide, by decide, by decide, by decide⟩) (fun r12908 u12909 h12907 => ?_)
  obtain ⟨rfl, rfl⟩ := h12907
  refine z_istore (lv' := [(5, .int 0), (0, .ref (a 0)), (1, .int 2), (2, .int p0), (3, .int 0), (4, .int 0)]) b dX11_gain_69 (by decide) rfl ?_
  refine z_iload b dX11_gain_71 rfl ?_
  refine z_if_ne_f (tgt := 87) b dX11_gain_73 (by decide) (by decide) ?_
  refine z_aload_n b dX11_gain_76 rfl rfl ?_
  refine z_get (q0 := 0) (k9 := 6) (v := .ref (a 25)) b (cw_0 cy tE a rw (su (si (su (su (sv (sa (si (si (si S 24 1) 19 p0) 21 7) 13 (fil 1024 0 (ar (si (si (si S 24 1) 19 p0) 21 7) 13))) 2 0 4128768) 11 0 (-1)) 12 0 (-1)) 25 1) 13 978 1)) rfl in_X11 (by decide) wf_X11_52 rfl dX11_gain_77 ?_
  refine z_iload b dX11_gain_80 rfl ?_
  refine z_iload_n b dX11_gain_82 rfl rfl ?_
  refine z_calli b (z_runV (q0 := 25) (As := [.int 0, .int 2]) (st := []) b (c_X8_wealth_3 (su (si (su (su (sv (sa (si (si (si S 24 1) 19 p0) 21 7) 13 (fil 1024 0 (ar (si (si (si S 24 1) 19 p0) 21 7) 13))) 2 0 4128768) 11 0 (-1)) 12 0 (-1)) 25 1) 13 978 1) rfl rfl h_a_9_50 h_a_9_40 h_a_9_41 h_a_9_42 h_a_9_0 h_a_9_11 h_a_9_21 h_a_9_31 h_a_9_12 h_a_9_22 h_a_9_32 h_a_9_1 h_a_9_13 h_a_9_23 h_a_9_33 h_a_9_15 h_a_9_25 h_a_9_35 h_a_9_2 h_a_9_16 h_a_9_26 h_a_9_36 h_a_9_17 h_a_9_27 h_a_9_37) cf_X8_wealth (cw_25 cy tE a rw (su (si (su (su (sv (sa (si (si (si S 24 1) 19 p0) 21 7) 13 (fil 1024 0 (ar (si (si (si S 24 1) 19 p0) 21 7) 13))) 2 0 4128768) 11 0 (-1)) 12 0 (-1)) 25 1) 13 978 1)) rfl wm_X11_241 wi_X8_wealth ws_X8_wealth dX11_gain_83 rfl (Nat.le_of_ble_eq_true rfl) ⟨by decide, by decide, by decide, by decide⟩) (fun r12911 u12912 h12910 => ?_)
  obtain ⟨rfl, rfl⟩ := h12910
  exact z_iret (u := (su (si (su (su (sv (sa (si (si (si S 24 1) 19 p0) 21 7) 13 (fil 1024 0 (ar (si (si (si S 24 1) 19 p0) 21 7) 13))) 2 0 4128768) 11 0 (-1)) 12 0 (-1)) 25 1) 13 978 1)) b rfl dX11_gain_86 ⟨rfl, rfl⟩ rfl (by decide) (by decide)

set_option maxHeartbeats 4000000 in
set_option maxRecDepth 100000 in
theorem c_X12_gain_36 {l : Launch} {D : va_G} {cy : Nat → ClassId} {T0 tB tE : Nat} {a : Nat → Nat} (S : GS) (p0 : Int32) (h_i_21 : fi S 21 = 0) (h_i_23 : fi S 23 = 0) (h_l_0 : fl S 0 = 1649317774848) (h_a_29_992 : ar S 29 992 = (-1)) (h_a_28_0 : ar S 28 0 = 0) (h_a_4_7 : ar S 4 7 = 0) (h_a_1_7 : ar S 1 7 = 0) (h_a_4_6 : ar S 4 6 = 0) (h_a_1_6 : ar S 1 6 = 0) (h_a_3_6 : ar S 3 6 = 0) (h_a_3_2 : ar S 3 2 = 0) (h_a_2_2 : ar S 2 2 = 3) (h_a_0_2 : ar S 0 2 = 0) (h_a_4_3 : ar S 4 3 = 0) (h_a_1_3 : ar S 1 3 = 0) (h_a_4_5 : ar S 4 5 = 0) (h_a_1_5 : ar S 1 5 = 0) (h_a_3_5 : ar S 3 5 = 0) (h_a_3_7 : ar S 3 7 = 0) (h_a_2_1 : ar S 2 1 = 3) (h_a_0_1 : ar S 0 1 = 0) (h_a_4_2 : ar S 4 2 = 0) (h_a_1_2 : ar S 1 2 = 0) (h_a_4_1 : ar S 4 1 = 0) (h_a_1_1 : ar S 1 1 = 0) (h_a_3_1 : ar S 3 1 = 0) (h_a_3_3 : ar S 3 3 = 0) (h_a_2_0 : ar S 2 0 = 3) (h_a_0_0 : ar S 0 0 = 0) (h_i_0 : fi S 0 = 0) (hr_p0 : 1 ≤ p0.toInt ∧ p0.toInt ≤ 3) : Ct l D cy T0 tB tE yX12_gain cX12_gain 9 (some .int) 3 74 0 0 (mw cy a S) [.ref (a 0), .int 2, .int p0, .int 0, .int 0] (QI D (U := GS) (fun r u => 0 = r ∧ (si (su (su (sv (su (su (si S 22 (-1)) 29 992 0) 30 0 992) 0 0 1649317774848) 26 0 (-1)) 27 0 (-1)) 21 1) = u) (mw cy a)) := by
  refine Ct.ofZ RX12 "gain" [(0, .ref (a 0)), (1, .int 2), (2, .int p0), (3, .int 0), (4, .int 0)] rfl rfl rfl rfl (Nat.le_of_ble_eq_true rfl) ?_
  intro p e R s m args below meth c A b
  refine z_iload_n b dX12_gain_0 rfl rfl ?_
  refine z_calli b (z_runS (As := [.int 2]) (st := []) b (c_X12_isOne_5 S ) cf_X12_isOne wm_X12_170 ws_X12_isOne dX12_gain_1 rfl (Nat.le_of_ble_eq_true rfl) ⟨by decide, by decide, by decide, by decide⟩) (fun r12914 u12915 h12913 => ?_)
  obtain ⟨rfl, rfl⟩ := h12913
  refine z_if_eq_f (tgt := 27) b dX12_gain_4 (by decide) (by decide) ?_
  refine z_aload_n b dX12_gain_7 rfl rfl ?_
  refine z_iload_n b dX12_gain_8 rfl rfl ?_
  refine z_iload_n b dX12_gain_9 rfl rfl ?_
  refine z_calli b (z_runV (q0 := 0) (As := [.int p0, .int 0]) (st := []) b (c_X12_canSearch_4 S p0 ⟨by omega, by omega⟩) cf_X12_canSearch (mw_0 cy a S) rfl wm_X12_433 wi_X12_canSearch ws_X12_canSearch dX12_gain_10 rfl (Nat.le_of_ble_eq_true rfl) ⟨by decide, by decide, by decide, by decide⟩) (fun r12917 u12918 h12916 => ?_)
  obtain ⟨rfl, rfl⟩ := h12916
  refine z_if_eq_f (tgt := 27) b dX12_gain_13 (by decide) (by decide) ?_
  refine z_iload b dX12_gain_16 rfl ?_
  refine z_iconst (v := 0) b dX12_gain_18 (by decide) ?_
  refine z_bipush (v := 7) b dX12_gain_19 (by decide) ?_
  refine z_calli b (z_runS (As := [.int 0, .int 0, .int 7]) (st := []) b (c_X12_isIn_59 S ) cf_X12_isIn wm_X12_1 ws_X12_isIn dX12_gain_21 rfl (Nat.le_of_ble_eq_true rfl) ⟨by decide, by decide, by decide, by decide⟩) (fun r12920 u12921 h12919 => ?_)
  obtain ⟨rfl, rfl⟩ := h12919
  refine z_if_ne_t (tgt := 30) b dX12_gain_24 (by decide) (by decide) ?_
  refine z_aload_n b dX12_gain_30 rfl rfl ?_
  refine z_iconst (v := (-1)) b dX12_gain_31 (by decide) ?_
  refine z_iload_n b dX12_gain_32 rfl rfl ?_
  refine z_iload_n b dX12_gain_33 rfl rfl ?_
  refine z_bipush (v := 7) b dX12_gain_34 (by decide) ?_
  refine z_iconst (v := 0) b dX12_gain_36 (by decide) ?_
  refine z_callv b (z_runV (q0 := 0) (As := [.int (-1), .int p0, .int 0, .int 7, .int 0]) (st := []) b (c_X12_searches S p0 h_i_21 h_i_23 h_l_0 h_a_29_992 h_a_28_0 ⟨by omega, by omega⟩) cf_X12_searches (mw_0 cy a S) rfl wm_X12_436 wi_X12_searches ws_X12_searches dX12_gain_37 rfl (Nat.le_of_ble_eq_true rfl) ⟨by decide, by decide, by decide, by decide⟩) (fun u12924 h12922 => ?_)
  obtain rfl := h12922
  refine z_aload_n b dX12_gain_40 rfl rfl ?_
  refine z_get (q0 := 0) (k9 := 57) (v := .int (fi (si (su (su (sv (su (su (si S 22 (-1)) 29 992 0) 30 0 992) 0 0 1649317774848) 26 0 (-1)) 27 0 (-1)) 21 1) 23)) b (mw_0 cy a (si (su (su (sv (su (su (si S 22 (-1)) 29 992 0) 30 0 992) 0 0 1649317774848) 26 0 (-1)) 27 0 (-1)) 21 1)) rfl in_X12 (by decide) wf_X12_408 rfl dX12_gain_41 ?_
  refine z_eqi h_i_23 ?_
  refine z_if_eq_t (tgt := 50) b dX12_gain_44 (by decide) (by decide) ?_
  refine z_iconst (v := (-1)) b dX12_gain_50 (by decide) ?_
  refine z_istore (lv' := [(5, .int (-1)), (0, .ref (a 0)), (1, .int 2), (2, .int p0), (3, .int 0), (4, .int 0)]) b dX12_gain_51 (by decide) rfl ?_
  refine z_iconst (v := 0) b dX12_gain_53 (by decide) ?_
  refine z_istore (lv' := [(6, .int 0), (5, .int (-1)), (0, .ref (a 0)), (1, .int 2), (2, .int p0), (3, .int 0), (4, .int 0)]) b dX12_gain_54 (by decide) rfl ?_
  refine z_iconst (v := 0) b dX12_gain_56 (by decide) ?_
  refine z_istore (lv' := [(7, .int 0), (6, .int 0), (5, .int (-1)), (0, .ref (a 0)), (1, .int 2), (2, .int p0), (3, .int 0), (4, .int 0)]) b dX12_gain_57 (by decide) rfl ?_
  refine z_iload b dX12_gain_59 rfl ?_
  refine z_aload_n b dX12_gain_61 rfl rfl ?_
  refine z_get (q0 := 0) (k9 := 55) (v := .int 1) b (mw_0 cy a (si (su (su (sv (su (su (si S 22 (-1)) 29 992 0) 30 0 992) 0 0 1649317774848) 26 0 (-1)) 27 0 (-1)) 21 1)) rfl in_X12 (by decide) wf_X12_405 rfl dX12_gain_62 ?_
  refine z_icmp_ge_f (tgt := 147) b dX12_gain_65 (by decide) (by decide) ?_
  refine z_aload_n b dX12_gain_68 rfl rfl ?_
  refine z_aload_n b dX12_gain_69 rfl rfl ?_
  refine z_get (q0 := 0) (k9 := 49) (v := .ref (a 27)) b (mw_0 cy a (si (su (su (sv (su (su (si S 22 (-1)) 29 992 0) 30 0 992) 0 0 1649317774848) 26 0 (-1)) 27 0 (-1)) 21 1)) rfl in_X12 (by decide) wf_X12_97 rfl dX12_gain_70 ?_
  refine z_iload b dX12_gain_73 rfl ?_
  refine y_lald (q0 := 27) (j := 0) (v := 1649317774848) b (mw_27 cy a (si (su (su (sv (su (su (si S 22 (-1)) 29 992 0) 30 0 992) 0 0 1649317774848) 26 0 (-1)) 27 0 (-1)) 21 1)) (by decide) rfl dX12_gain_75 ?_
  refine z_callv b (z_runV (q0 := 0) (As := [.long 1649317774848]) (st := []) b (c_X12_takes (si (su (su (sv (su (su (si S 22 (-1)) 29 992 0) 30 0 992) 0 0 1649317774848) 26 0 (-1)) 27 0 (-1)) 21 1) h_a_4_7 h_a_1_7 h_a_4_6 h_a_1_6 h_a_3_6 h_a_3_2 h_a_2_2 h_a_0_2 h_a_4_3 h_a_1_3 h_a_4_5 h_a_1_5 h_a_3_5 h_a_3_7 h_a_2_1 h_a_0_1 h_a_4_2 h_a_1_2 h_a_4_1 h_a_1_1 h_a_3_1 h_a_3_3 h_a_2_0 h_a_0_0 h_i_0) cf_X12_takes (mw_0 cy a (si (su (su (sv (su (su (si S 22 (-1)) 29 992 0) 30 0 992) 0 0 1649317774848) 26 0 (-1)) 27 0 (-1)) 21 1)) rfl wm_X12_174 wi_X12_takes ws_X12_takes dX12_gain_76 rfl (Nat.le_of_ble_eq_true rfl) ⟨by decide, by decide, by decide, by decide⟩) (fun u12927 h12925 => ?_)
  obtain rfl := h12925
  refine z_aload_n b dX12_gain_79 rfl rfl ?_
  refine z_get (q0 := 0) (k9 := 0) (v := .ref (a 1)) b (mw_0 cy a (si (su (su (sv (su (su (si S 22 (-1)) 29 992 0) 30 0 992) 0 0 1649317774848) 26 0 (-1)) 27 0 (-1)) 21 1)) rfl in_X12 (by decide) wf_X12_13 rfl dX12_gain_80 ?_
  refine z_iload_n b dX12_gain_83 rfl rfl ?_
  refine y_iald (q0 := 1) (j := 2) (v := (ar (si (su (su (sv (su (su (si S 22 (-1)) 29 992 0) 30 0 992) 0 0 1649317774848) 26 0 (-1)) 27 0 (-1)) 21 1) 0 2)) b (mw_1 cy a (si (su (su (sv (su (su (si S 22 (-1)) 29 992 0) 30 0 992) 0 0 1649317774848) 26 0 (-1)) 27 0 (-1)) 21 1)) (by decide) rfl dX12_gain_84 ?_
  refine z_eqi h_a_0_2 ?_
  refine z_aload_n b dX12_gain_85 rfl rfl ?_
  refine z_get (q0 := 0) (k9 := 1) (v := .ref (a 2)) b (mw_0 cy a (si (su (su (sv (su (su (si S 22 (-1)) 29 992 0) 30 0 992) 0 0 1649317774848) 26 0 (-1)) 27 0 (-1)) 21 1)) rfl in_X12 (by decide) wf_X12_17 rfl dX12_gain_86 ?_
  refine z_iconst (v := 3) b dX12_gain_89 (by decide) ?_
  refine z_iload_n b dX12_gain_90 rfl rfl ?_
  refine z_imul (v := 6) b dX12_gain_91 (by decide) ?_
  refine z_iload_n b dX12_gain_92 rfl rfl ?_
  refine z_iconst (v := 0) b dX12_gain_93 (by decide) ?_
  refine z_calli b (z_runS (As := [.int 2, .int 0]) (st := [.int 6, .ref (a 2), .int 0]) b (c_X12_other_2 (si (su (su (sv (su (su (si S 22 (-1)) 29 992 0) 30 0 992) 0 0 1649317774848) 26 0 (-1)) 27 0 (-1)) 21 1) ) cf_X12_other wm_X12_160 ws_X12_other dX12_gain_94 rfl (Nat.le_of_ble_eq_true rfl) ⟨by decide, by decide, by decide, by decide⟩) (fun r12929 u12930 h12928 => ?_)
  obtain ⟨rfl, rfl⟩ := h12928
  refine z_iadd (v := 6) b dX12_gain_97 (by decide) ?_
  refine y_iald (q0 := 2) (j := 6) (v := (ar (si (su (su (sv (su (su (si S 22 (-1)) 29 992 0) 30 0 992) 0 0 1649317774848) 26 0 (-1)) 27 0 (-1)) 21 1) 1 6)) b (mw_2 cy a (si (su (su (sv (su (su (si S 22 (-1)) 29 992 0) 30 0 992) 0 0 1649317774848) 26 0 (-1)) 27 0 (-1)) 21 1)) (by decide) rfl dX12_gain_98 ?_
  refine z_eqi h_a_1_6 ?_
  refine z_isub (v := 0) b dX12_gain_99 (by decide) ?_
  refine z_aload_n b dX12_gain_100 rfl rfl ?_
  refine z_get (q0 := 0) (k9 := 1) (v := .ref (a 2)) b (mw_0 cy a (si (su (su (sv (su (su (si S 22 (-1)) 29 992 0) 30 0 992) 0 0 1649317774848) 26 0 (-1)) 27 0 (-1)) 21 1)) rfl in_X12 (by decide) wf_X12_17 rfl dX12_gain_101 ?_
  refine z_iconst (v := 3) b dX12_gain_104 (by decide) ?_
  refine z_iload_n b dX12_gain_105 rfl rfl ?_
  refine z_imul (v := 6) b dX12_gain_106 (by decide) ?_
  refine z_iload_n b dX12_gain_107 rfl rfl ?_
  refine z_iconst (v := 1) b dX12_gain_108 (by decide) ?_
  refine z_calli b (z_runS (As := [.int 2, .int 1]) (st := [.int 6, .ref (a 2), .int 0]) b (c_X12_other (si (su (su (sv (su (su (si S 22 (-1)) 29 992 0) 30 0 992) 0 0 1649317774848) 26 0 (-1)) 27 0 (-1)) 21 1) ) cf_X12_other wm_X12_160 ws_X12_other dX12_gain_109 rfl (Nat.le_of_ble_eq_true rfl) ⟨by decide, by decide, by decide, by decide⟩) (fun r12932 u12933 h12931 => ?_)
  obtain ⟨rfl, rfl⟩ := h12931
  refine z_iadd (v := 7) b dX12_gain_112 (by decide) ?_
  refine y_iald (q0 := 2) (j := 7) (v := (ar (si (su (su (sv (su (su (si S 22 (-1)) 29 992 0) 30 0 992) 0 0 1649317774848) 26 0 (-1)) 27 0 (-1)) 21 1) 1 7)) b (mw_2 cy a (si (su (su (sv (su (su (si S 22 (-1)) 29 992 0) 30 0 992) 0 0 1649317774848) 26 0 (-1)) 27 0 (-1)) 21 1)) (by decide) rfl dX12_gain_113 ?_
  refine z_eqi h_a_1_7 ?_
  refine z_isub (v := 0) b dX12_gain_114 (by decide) ?_
  refine z_istore (lv' := [(8, .int 0), (7, .int 0), (6, .int 0), (5, .int (-1)), (0, .ref (a 0)), (1, .int 2), (2, .int p0), (3, .int 0), (4, .int 0)]) b dX12_gain_115 (by decide) rfl ?_
  refine z_iload b dX12_gain_117 rfl ?_
  refine z_iconst (v := (-1)) b dX12_gain_119 (by decide) ?_
  refine z_icmp_eq_t (tgt := 133) b dX12_gain_120 (by decide) (by decide) ?_
  refine z_iload b dX12_gain_133 rfl ?_
  refine z_istore (lv' := [(5, .int 0), (8, .int 0), (7, .int 0), (6, .int 0), (0, .ref (a 0)), (1, .int 2), (2, .int p0), (3, .int 0), (4, .int 0)]) b dX12_gain_135 (by decide) rfl ?_
  refine z_iload b dX12_gain_137 rfl ?_
  refine z_istore (lv' := [(6, .int 0), (5, .int 0), (8, .int 0), (7, .int 0), (0, .ref (a 0)), (1, .int 2), (2, .int p0), (3, .int 0), (4, .int 0)]) b dX12_gain_139 (by decide) rfl ?_
  refine z_iinc (k9 := 3) (v := 1) (lv' := [(7, .int 1), (6, .int 0), (5, .int 0), (8, .int 0), (0, .ref (a 0)), (1, .int 2), (2, .int p0), (3, .int 0), (4, .int 0)]) b dX12_gain_141 rfl (by decide) (by decide) rfl ?_
  refine z_goto (tgt := 59) b dX12_gain_144 (by decide) ?_
  refine z_iload b dX12_gain_59 rfl ?_
  refine z_aload_n b dX12_gain_61 rfl rfl ?_
  refine z_get (q0 := 0) (k9 := 55) (v := .int 1) b (mw_0 cy a (si (su (su (sv (su (su (si S 22 (-1)) 29 992 0) 30 0 992) 0 0 1649317774848) 26 0 (-1)) 27 0 (-1)) 21 1)) rfl in_X12 (by decide) wf_X12_405 rfl dX12_gain_62 ?_
  refine z_icmp_ge_t (tgt := 147) b dX12_gain_65 (by decide) (by decide) ?_
  refine z_iload b dX12_gain_147 rfl ?_
  refine z_iconst (v := 2) b dX12_gain_149 (by decide) ?_
  refine z_icmp_ge_f (tgt := 171) b dX12_gain_150 (by decide) (by decide) ?_
  refine z_iload b dX12_gain_153 rfl ?_
  refine z_if_ne_f (tgt := 163) b dX12_gain_155 (by decide) (by decide) ?_
  refine z_iload b dX12_gain_158 rfl ?_
  refine z_goto (tgt := 170) b dX12_gain_160 (by decide) ?_
  exact z_iret (u := (si (su (su (sv (su (su (si S 22 (-1)) 29 992 0) 30 0 992) 0 0 1649317774848) 26 0 (-1)) 27 0 (-1)) 21 1)) b rfl dX12_gain_170 ⟨rfl, rfl⟩ rfl (by decide) (by decide)

set_option maxHeartbeats 4000000 in
set_option maxRecDepth 100000 in
theorem c_X11_gain_37 {l : Launch} {D : va_G} {cy : Nat → ClassId} {T0 tB tE : Nat} {a : Nat → Nat} {rw : Nat → Option Nat} (S : GS) (p0 : Int32) (h_i_19 : fi S 19 = 0) (h_i_24 : fi S 24 = 0) (h_i_20 : fi S 20 = 0) (h_i_22 : fi S 22 = 0) (h_i_18 : fi S 18 = 0) (h_i_25 : fi S 25 = 0) (h_i_23 : fi S 23 = 0) (h_i_26 : fi S 26 = 0) (h_a_4_50 : ar S 4 50 = 0) (h_a_4_40 : ar S 4 40 = 3) (h_a_4_41 : ar S 4 41 = 3) (h_a_4_42 : ar S 4 42 = 3) (h_a_4_0 : ar S 4 0 = 0) (h_a_4_11 : ar S 4 11 = 0) (h_a_4_21 : ar S 4 21 = 0) (h_a_4_31 : ar S 4 31 = 0) (h_a_4_12 : ar S 4 12 = 0) (h_a_4_22 : ar S 4 22 = 0) (h_a_4_32 : ar S 4 32 = 0) (h_a_4_1 : ar S 4 1 = 0) (h_a_4_13 : ar S 4 13 = 0) (h_a_4_23 : ar S 4 23 = 0) (h_a_4_33 : ar S 4 33 = 0) (h_a_4_15 : ar S 4 15 = 0) (h_a_4_25 : ar S 4 25 = 0) (h_a_4_35 : ar S 4 35 = 0) (h_a_4_2 : ar S 4 2 = 0) (h_a_4_16 : ar S 4 16 = 0) (h_a_4_26 : ar S 4 26 = 0) (h_a_4_36 : ar S 4 36 = 0) (h_a_4_17 : ar S 4 17 = 0) (h_a_4_27 : ar S 4 27 = 0) (h_a_4_37 : ar S 4 37 = 0) (h_a_10_0 : ar S 10 0 = 0) (h_a_9_50 : ar S 9 50 = 0) (h_a_9_40 : ar S 9 40 = 3) (h_a_9_41 : ar S 9 41 = 3) (h_a_9_42 : ar S 9 42 = 3) (h_a_9_0 : ar S 9 0 = 0) (h_a_9_11 : ar S 9 11 = 0) (h_a_9_21 : ar S 9 21 = 0) (h_a_9_31 : ar S 9 31 = 0) (h_a_9_12 : ar S 9 12 = 0) (h_a_9_22 : ar S 9 22 = 0) (h_a_9_32 : ar S 9 32 = 0) (h_a_9_1 : ar S 9 1 = 0) (h_a_9_13 : ar S 9 13 = 0) (h_a_9_23 : ar S 9 23 = 0) (h_a_9_33 : ar S 9 33 = 0) (h_a_9_15 : ar S 9 15 = 0) (h_a_9_25 : ar S 9 25 = 0) (h_a_9_35 : ar S 9 35 = 0) (h_a_9_2 : ar S 9 2 = 0) (h_a_9_16 : ar S 9 16 = 0) (h_a_9_26 : ar S 9 26 = 0) (h_a_9_36 : ar S 9 36 = 0) (h_a_9_17 : ar S 9 17 = 0) (h_a_9_27 : ar S 9 27 = 0) (h_a_9_37 : ar S 9 37 = 0) (hr_p0 : 1 ≤ p0.toInt ∧ p0.toInt ≤ 3) : Ct l D cy T0 tB tE yX11_gain cX11_gain 7 (some .int) 5 117 0 0 (cw cy tE a rw S) [.ref (a 0), .int 2, .int p0, .int 0, .int 1] (QI D (U := GS) (fun r u => 0 = r ∧ (su (si (su (su (sv (sa (si (si (si S 24 1) 19 p0) 21 7) 13 (fil 1024 0 (ar (si (si (si S 24 1) 19 p0) 21 7) 13))) 2 0 4128768) 11 0 (-1)) 12 0 (-1)) 25 1) 13 978 1) = u) (cw cy tE a rw)) := by
  refine Ct.ofZ RX11 "gain" [(0, .ref (a 0)), (1, .int 2), (2, .int p0), (3, .int 0), (4, .int 1)] rfl rfl rfl rfl (Nat.le_of_ble_eq_true rfl) ?_
  intro p e R s m args below meth c A b
  refine z_iload_n b dX11_gain_0 rfl rfl ?_
  refine z_calli b (z_runS (As := [.int 2]) (st := []) b (c_X11_isPerson_5 S ) cf_X11_isPerson wm_X11_69 ws_X11_isPerson dX11_gain_1 rfl (Nat.le_of_ble_eq_true rfl) ⟨by decide, by decide, by decide, by decide⟩) (fun r12935 u12936 h12934 => ?_)
  obtain ⟨rfl, rfl⟩ := h12934
  refine z_if_eq_f (tgt := 26) b dX11_gain_4 (by decide) (by decide) ?_
  refine z_iload_n b dX11_gain_7 rfl rfl ?_
  refine z_calli b (z_runS (As := [.int p0]) (st := []) b (c_X11_areLaws_3 S p0 ⟨by omega, by omega⟩) cf_X11_areLaws wm_X11_181 ws_X11_areLaws dX11_gain_8 rfl (Nat.le_of_ble_eq_true rfl) ⟨by decide, by decide, by decide, by decide⟩) (fun r12938 u12939 h12937 => ?_)
  obtain ⟨rfl, rfl⟩ := h12937
  refine z_if_eq_f (tgt := 26) b dX11_gain_11 (by decide) (by decide) ?_
  refine z_iload_n b dX11_gain_14 rfl rfl ?_
  refine z_calli b (z_runS (As := [.int 0]) (st := []) b (c_X11_isDepth_2 S ) cf_X11_isDepth wm_X11_203 ws_X11_isDepth dX11_gain_15 rfl (Nat.le_of_ble_eq_true rfl) ⟨by decide, by decide, by decide, by decide⟩) (fun r12941 u12942 h12940 => ?_)
  obtain ⟨rfl, rfl⟩ := h12940
  refine z_if_eq_f (tgt := 26) b dX11_gain_18 (by decide) (by decide) ?_
  refine z_iload b dX11_gain_21 rfl ?_
  refine z_if_ge_t (tgt := 29) b dX11_gain_23 (by decide) (by decide) ?_
  refine z_aload_n b dX11_gain_29 rfl rfl ?_
  refine z_get (q0 := 0) (k9 := 6) (v := .ref (a 25)) b (cw_0 cy tE a rw S) rfl in_X11 (by decide) wf_X11_52 rfl dX11_gain_30 ?_
  refine z_iload_n b dX11_gain_33 rfl rfl ?_
  refine z_iload_n b dX11_gain_34 rfl rfl ?_
  refine z_bipush (v := 7) b dX11_gain_35 (by decide) ?_
  refine z_iconst (v := 0) b dX11_gain_37 (by decide) ?_
  refine z_callv b (z_runV (q0 := 25) (As := [.int p0, .int 0, .int 7, .int 0]) (st := []) b (c_X8_begin S p0 h_i_19 h_i_24 h_i_20 h_i_22 h_i_18 h_i_25 h_i_23 h_i_26 h_a_4_50 h_a_4_40 h_a_4_41 h_a_4_42 h_a_4_0 h_a_4_11 h_a_4_21 h_a_4_31 h_a_4_12 h_a_4_22 h_a_4_32 h_a_4_1 h_a_4_13 h_a_4_23 h_a_4_33 h_a_4_15 h_a_4_25 h_a_4_35 h_a_4_2 h_a_4_16 h_a_4_26 h_a_4_36 h_a_4_17 h_a_4_27 h_a_4_37 h_a_10_0 ⟨by omega, by omega⟩) cf_X8_begin (cw_25 cy tE a rw S) rfl wm_X11_206 wi_X8_begin ws_X8_begin dX11_gain_38 rfl (Nat.le_of_ble_eq_true rfl) ⟨by decide, by decide, by decide, by decide⟩) (fun u12945 h12943 => ?_)
  obtain rfl := h12943
  refine z_aload_n b dX11_gain_41 rfl rfl ?_
  refine z_get (q0 := 0) (k9 := 6) (v := .ref (a 25)) b (cw_0 cy tE a rw (su (si (su (su (sv (sa (si (si (si S 24 1) 19 p0) 21 7) 13 (fil 1024 0 (ar (si (si (si S 24 1) 19 p0) 21 7) 13))) 2 0 4128768) 11 0 (-1)) 12 0 (-1)) 25 1) 13 978 1)) rfl in_X11 (by decide) wf_X11_52 rfl dX11_gain_42 ?_
  refine z_callv b (z_runV (q0 := 25) (As := []) (st := []) b (c_X8_finish (su (si (su (su (sv (sa (si (si (si S 24 1) 19 p0) 21 7) 13 (fil 1024 0 (ar (si (si (si S 24 1) 19 p0) 21 7) 13))) 2 0 4128768) 11 0 (-1)) 12 0 (-1)) 25 1) 13 978 1) h_i_26 h_i_23 rfl h_a_10_0 h_i_20) cf_X8_finish (cw_25 cy tE a rw (su (si (su (su (sv (sa (si (si (si S 24 1) 19 p0) 21 7) 13 (fil 1024 0 (ar (si (si (si S 24 1) 19 p0) 21 7) 13))) 2 0 4128768) 11 0 (-1)) 12 0 (-1)) 25 1) 13 978 1)) rfl wm_X11_232 wi_X8_finish ws_X8_finish dX11_gain_45 rfl (Nat.le_of_ble_eq_true rfl) ⟨by decide, by decide, by decide, by decide⟩) (fun u12948 h12946 => ?_)
  obtain rfl := h12946
  refine z_aload_n b dX11_gain_48 rfl rfl ?_
  refine z_get (q0 := 0) (k9 := 6) (v := .ref (a 25)) b (cw_0 cy tE a rw (su (si (su (su (sv (sa (si (si (si S 24 1) 19 p0) 21 7) 13 (fil 1024 0 (ar (si (si (si S 24 1) 19 p0) 21 7) 13))) 2 0 4128768) 11 0 (-1)) 12 0 (-1)) 25 1) 13 978 1)) rfl in_X11 (by decide) wf_X11_52 rfl dX11_gain_49 ?_
  refine z_get (q0 := 25) (k9 := 18) (v := .int (fi (su (si (su (su (sv (sa (si (si (si S 24 1) 19 p0) 21 7) 13 (fil 1024 0 (ar (si (si (si S 24 1) 19 p0) 21 7) 13))) 2 0 4128768) 11 0 (-1)) 12 0 (-1)) 25 1) 13 978 1) 26)) b (cw_25 cy tE a rw (su (si (su (su (sv (sa (si (si (si S 24 1) 19 p0) 21 7) 13 (fil 1024 0 (ar (si (si (si S 24 1) 19 p0) 21 7) 13))) 2 0 4128768) 11 0 (-1)) 12 0 (-1)) 25 1) 13 978 1)) rfl in_X8 (by decide) wf_X11_214 rfl dX11_gain_52 ?_
  refine z_eqi h_i_26 ?_
  refine z_if_eq_t (tgt := 61) b dX11_gain_55 (by decide) (by decide) ?_
  refine z_aload_n b dX11_gain_61 rfl rfl ?_
  refine z_get (q0 := 0) (k9 := 6) (v := .ref (a 25)) b (cw_0 cy tE a rw (su (si (su (su (sv (sa (si (si (si S 24 1) 19 p0) 21 7) 13 (fil 1024 0 (ar (si (si (si S 24 1) 19 p0) 21 7) 13))) 2 0 4128768) 11 0 (-1)) 12 0 (-1)) 25 1) 13 978 1)) rfl in_X11 (by decide) wf_X11_52 rfl dX11_gain_62 ?_
  refine z_iload_n b dX11_gain_65 rfl rfl ?_
  refine z_calli b (z_runV (q0 := 25) (As := [.int 2]) (st := []) b (c_X8_richest_3 (su (si (su (su (sv (sa (si (si (si S 24 1) 19 p0) 21 7) 13 (fil 1024 0 (ar (si (si (si S 24 1) 19 p0) 21 7) 13))) 2 0 4128768) 11 0 (-1)) 12 0 (-1)) 25 1) 13 978 1) rfl rfl h_a_9_50 h_a_9_40 h_a_9_41 h_a_9_42 h_a_9_0 h_a_9_11 h_a_9_21 h_a_9_31 h_a_9_12 h_a_9_22 h_a_9_32 h_a_9_1 h_a_9_13 h_a_9_23 h_a_9_33 h_a_9_15 h_a_9_25 h_a_9_35 h_a_9_2 h_a_9_16 h_a_9_26 h_a_9_36 h_a_9_17 h_a_9_27 h_a_9_37) cf_X8_richest (cw_25 cy tE a rw (su (si (su (su (sv (sa (si (si (si S 24 1) 19 p0) 21 7) 13 (fil 1024 0 (ar (si (si (si S 24 1) 19 p0) 21 7) 13))) 2 0 4128768) 11 0 (-1)) 12 0 (-1)) 25 1) 13 978 1)) rfl wm_X11_238 wi_X8_richest ws_X8_richest dX11_gain_66 rfl (Nat.le_of_ble_eq_true rfl) ⟨by decide, by decide, by decide, by decide⟩) (fun r12950 u12951 h12949 => ?_)
  obtain ⟨rfl, rfl⟩ := h12949
  refine z_istore (lv' := [(5, .int 0), (0, .ref (a 0)), (1, .int 2), (2, .int p0), (3, .int 0), (4, .int 1)]) b dX11_gain_69 (by decide) rfl ?_
  refine z_iload b dX11_gain_71 rfl ?_
  refine z_if_ne_t (tgt := 87) b dX11_gain_73 (by decide) (by decide) ?_
  refine z_iload b dX11_gain_87 rfl ?_
  refine z_iconst (v := 1) b dX11_gain_89 (by decide) ?_
  refine z_icmp_ne_f (tgt := 103) b dX11_gain_90 (by decide) (by decide) ?_
  refine z_aload_n b dX11_gain_93 rfl rfl ?_
  refine z_get (q0 := 0) (k9 := 6) (v := .ref (a 25)) b (cw_0 cy tE a rw (su (si (su (su (sv (sa (si (si (si S 24 1) 19 p0) 21 7) 13 (fil 1024 0 (ar (si (si (si S 24 1) 19 p0) 21 7) 13))) 2 0 4128768) 11 0 (-1)) 12 0 (-1)) 25 1) 13 978 1)) rfl in_X11 (by decide) wf_X11_52 rfl dX11_gain_94 ?_
  refine z_iload b dX11_gain_97 rfl ?_
  refine z_calli b (z_runV (q0 := 25) (As := [.int 0]) (st := []) b (c_X8_acts (su (si (su (su (sv (sa (si (si (si S 24 1) 19 p0) 21 7) 13 (fil 1024 0 (ar (si (si (si S 24 1) 19 p0) 21 7) 13))) 2 0 4128768) 11 0 (-1)) 12 0 (-1)) 25 1) 13 978 1) rfl h_a_10_0) cf_X8_acts (cw_25 cy tE a rw (su (si (su (su (sv (sa (si (si (si S 24 1) 19 p0) 21 7) 13 (fil 1024 0 (ar (si (si (si S 24 1) 19 p0) 21 7) 13))) 2 0 4128768) 11 0 (-1)) 12 0 (-1)) 25 1) 13 978 1)) rfl wm_X11_217 wi_X8_acts ws_X8_acts dX11_gain_99 rfl (Nat.le_of_ble_eq_true rfl) ⟨by decide, by decide, by decide, by decide⟩) (fun r12953 u12954 h12952 => ?_)
  obtain ⟨rfl, rfl⟩ := h12952
  exact z_iret (u := (su (si (su (su (sv (sa (si (si (si S 24 1) 19 p0) 21 7) 13 (fil 1024 0 (ar (si (si (si S 24 1) 19 p0) 21 7) 13))) 2 0 4128768) 11 0 (-1)) 12 0 (-1)) 25 1) 13 978 1)) b rfl dX11_gain_102 ⟨rfl, rfl⟩ rfl (by decide) (by decide)

set_option maxHeartbeats 4000000 in
set_option maxRecDepth 100000 in
theorem c_X12_gain_37 {l : Launch} {D : va_G} {cy : Nat → ClassId} {T0 tB tE : Nat} {a : Nat → Nat} (S : GS) (p0 : Int32) (h_i_21 : fi S 21 = 0) (h_i_23 : fi S 23 = 0) (h_l_0 : fl S 0 = 1649317774848) (h_a_29_992 : ar S 29 992 = (-1)) (h_a_28_0 : ar S 28 0 = 0) (h_a_4_7 : ar S 4 7 = 0) (h_a_1_7 : ar S 1 7 = 0) (h_a_4_6 : ar S 4 6 = 0) (h_a_1_6 : ar S 1 6 = 0) (h_a_3_6 : ar S 3 6 = 0) (h_a_3_2 : ar S 3 2 = 0) (h_a_2_2 : ar S 2 2 = 3) (h_a_0_2 : ar S 0 2 = 0) (h_a_4_3 : ar S 4 3 = 0) (h_a_1_3 : ar S 1 3 = 0) (h_a_4_5 : ar S 4 5 = 0) (h_a_1_5 : ar S 1 5 = 0) (h_a_3_5 : ar S 3 5 = 0) (h_a_3_7 : ar S 3 7 = 0) (h_a_2_1 : ar S 2 1 = 3) (h_a_0_1 : ar S 0 1 = 0) (h_a_4_2 : ar S 4 2 = 0) (h_a_1_2 : ar S 1 2 = 0) (h_a_4_1 : ar S 4 1 = 0) (h_a_1_1 : ar S 1 1 = 0) (h_a_3_1 : ar S 3 1 = 0) (h_a_3_3 : ar S 3 3 = 0) (h_a_2_0 : ar S 2 0 = 3) (h_a_0_0 : ar S 0 0 = 0) (h_i_0 : fi S 0 = 0) (hr_p0 : 1 ≤ p0.toInt ∧ p0.toInt ≤ 3) : Ct l D cy T0 tB tE yX12_gain cX12_gain 9 (some .int) 3 74 0 0 (mw cy a S) [.ref (a 0), .int 2, .int p0, .int 0, .int 1] (QI D (U := GS) (fun r u => 0 = r ∧ (si (su (su (sv (su (su (si S 22 (-1)) 29 992 0) 30 0 992) 0 0 1649317774848) 26 0 (-1)) 27 0 (-1)) 21 1) = u) (mw cy a)) := by
  refine Ct.ofZ RX12 "gain" [(0, .ref (a 0)), (1, .int 2), (2, .int p0), (3, .int 0), (4, .int 1)] rfl rfl rfl rfl (Nat.le_of_ble_eq_true rfl) ?_
  intro p e R s m args below meth c A b
  refine z_iload_n b dX12_gain_0 rfl rfl ?_
  refine z_calli b (z_runS (As := [.int 2]) (st := []) b (c_X12_isOne_5 S ) cf_X12_isOne wm_X12_170 ws_X12_isOne dX12_gain_1 rfl (Nat.le_of_ble_eq_true rfl) ⟨by decide, by decide, by decide, by decide⟩) (fun r12956 u12957 h12955 => ?_)
  obtain ⟨rfl, rfl⟩ := h12955
  refine z_if_eq_f (tgt := 27) b dX12_gain_4 (by decide) (by decide) ?_
  refine z_aload_n b dX12_gain_7 rfl rfl ?_
  refine z_iload_n b dX12_gain_8 rfl rfl ?_
  refine z_iload_n b dX12_gain_9 rfl rfl ?_
  refine z_calli b (z_runV (q0 := 0) (As := [.int p0, .int 0]) (st := []) b (c_X12_canSearch_4 S p0 ⟨by omega, by omega⟩) cf_X12_canSearch (mw_0 cy a S) rfl wm_X12_433 wi_X12_canSearch ws_X12_canSearch dX12_gain_10 rfl (Nat.le_of_ble_eq_true rfl) ⟨by decide, by decide, by decide, by decide⟩) (fun r12959 u12960 h12958 => ?_)
  obtain ⟨rfl, rfl⟩ := h12958
  refine z_if_eq_f (tgt := 27) b dX12_gain_13 (by decide) (by decide) ?_
  refine z_iload b dX12_gain_16 rfl ?_
  refine z_iconst (v := 0) b dX12_gain_18 (by decide) ?_
  refine z_bipush (v := 7) b dX12_gain_19 (by decide) ?_
  refine z_calli b (z_runS (As := [.int 1, .int 0, .int 7]) (st := []) b (c_X12_isIn_60 S ) cf_X12_isIn wm_X12_1 ws_X12_isIn dX12_gain_21 rfl (Nat.le_of_ble_eq_true rfl) ⟨by decide, by decide, by decide, by decide⟩) (fun r12962 u12963 h12961 => ?_)
  obtain ⟨rfl, rfl⟩ := h12961
  refine z_if_ne_t (tgt := 30) b dX12_gain_24 (by decide) (by decide) ?_
  refine z_aload_n b dX12_gain_30 rfl rfl ?_
  refine z_iconst (v := (-1)) b dX12_gain_31 (by decide) ?_
  refine z_iload_n b dX12_gain_32 rfl rfl ?_
  refine z_iload_n b dX12_gain_33 rfl rfl ?_
  refine z_bipush (v := 7) b dX12_gain_34 (by decide) ?_
  refine z_iconst (v := 0) b dX12_gain_36 (by decide) ?_
  refine z_callv b (z_runV (q0 := 0) (As := [.int (-1), .int p0, .int 0, .int 7, .int 0]) (st := []) b (c_X12_searches S p0 h_i_21 h_i_23 h_l_0 h_a_29_992 h_a_28_0 ⟨by omega, by omega⟩) cf_X12_searches (mw_0 cy a S) rfl wm_X12_436 wi_X12_searches ws_X12_searches dX12_gain_37 rfl (Nat.le_of_ble_eq_true rfl) ⟨by decide, by decide, by decide, by decide⟩) (fun u12966 h12964 => ?_)
  obtain rfl := h12964
  refine z_aload_n b dX12_gain_40 rfl rfl ?_
  refine z_get (q0 := 0) (k9 := 57) (v := .int (fi (si (su (su (sv (su (su (si S 22 (-1)) 29 992 0) 30 0 992) 0 0 1649317774848) 26 0 (-1)) 27 0 (-1)) 21 1) 23)) b (mw_0 cy a (si (su (su (sv (su (su (si S 22 (-1)) 29 992 0) 30 0 992) 0 0 1649317774848) 26 0 (-1)) 27 0 (-1)) 21 1)) rfl in_X12 (by decide) wf_X12_408 rfl dX12_gain_41 ?_
  refine z_eqi h_i_23 ?_
  refine z_if_eq_t (tgt := 50) b dX12_gain_44 (by decide) (by decide) ?_
  refine z_iconst (v := (-1)) b dX12_gain_50 (by decide) ?_
  refine z_istore (lv' := [(5, .int (-1)), (0, .ref (a 0)), (1, .int 2), (2, .int p0), (3, .int 0), (4, .int 1)]) b dX12_gain_51 (by decide) rfl ?_
  refine z_iconst (v := 0) b dX12_gain_53 (by decide) ?_
  refine z_istore (lv' := [(6, .int 0), (5, .int (-1)), (0, .ref (a 0)), (1, .int 2), (2, .int p0), (3, .int 0), (4, .int 1)]) b dX12_gain_54 (by decide) rfl ?_
  refine z_iconst (v := 0) b dX12_gain_56 (by decide) ?_
  refine z_istore (lv' := [(7, .int 0), (6, .int 0), (5, .int (-1)), (0, .ref (a 0)), (1, .int 2), (2, .int p0), (3, .int 0), (4, .int 1)]) b dX12_gain_57 (by decide) rfl ?_
  refine z_iload b dX12_gain_59 rfl ?_
  refine z_aload_n b dX12_gain_61 rfl rfl ?_
  refine z_get (q0 := 0) (k9 := 55) (v := .int 1) b (mw_0 cy a (si (su (su (sv (su (su (si S 22 (-1)) 29 992 0) 30 0 992) 0 0 1649317774848) 26 0 (-1)) 27 0 (-1)) 21 1)) rfl in_X12 (by decide) wf_X12_405 rfl dX12_gain_62 ?_
  refine z_icmp_ge_f (tgt := 147) b dX12_gain_65 (by decide) (by decide) ?_
  refine z_aload_n b dX12_gain_68 rfl rfl ?_
  refine z_aload_n b dX12_gain_69 rfl rfl ?_
  refine z_get (q0 := 0) (k9 := 49) (v := .ref (a 27)) b (mw_0 cy a (si (su (su (sv (su (su (si S 22 (-1)) 29 992 0) 30 0 992) 0 0 1649317774848) 26 0 (-1)) 27 0 (-1)) 21 1)) rfl in_X12 (by decide) wf_X12_97 rfl dX12_gain_70 ?_
  refine z_iload b dX12_gain_73 rfl ?_
  refine y_lald (q0 := 27) (j := 0) (v := 1649317774848) b (mw_27 cy a (si (su (su (sv (su (su (si S 22 (-1)) 29 992 0) 30 0 992) 0 0 1649317774848) 26 0 (-1)) 27 0 (-1)) 21 1)) (by decide) rfl dX12_gain_75 ?_
  refine z_callv b (z_runV (q0 := 0) (As := [.long 1649317774848]) (st := []) b (c_X12_takes (si (su (su (sv (su (su (si S 22 (-1)) 29 992 0) 30 0 992) 0 0 1649317774848) 26 0 (-1)) 27 0 (-1)) 21 1) h_a_4_7 h_a_1_7 h_a_4_6 h_a_1_6 h_a_3_6 h_a_3_2 h_a_2_2 h_a_0_2 h_a_4_3 h_a_1_3 h_a_4_5 h_a_1_5 h_a_3_5 h_a_3_7 h_a_2_1 h_a_0_1 h_a_4_2 h_a_1_2 h_a_4_1 h_a_1_1 h_a_3_1 h_a_3_3 h_a_2_0 h_a_0_0 h_i_0) cf_X12_takes (mw_0 cy a (si (su (su (sv (su (su (si S 22 (-1)) 29 992 0) 30 0 992) 0 0 1649317774848) 26 0 (-1)) 27 0 (-1)) 21 1)) rfl wm_X12_174 wi_X12_takes ws_X12_takes dX12_gain_76 rfl (Nat.le_of_ble_eq_true rfl) ⟨by decide, by decide, by decide, by decide⟩) (fun u12969 h12967 => ?_)
  obtain rfl := h12967
  refine z_aload_n b dX12_gain_79 rfl rfl ?_
  refine z_get (q0 := 0) (k9 := 0) (v := .ref (a 1)) b (mw_0 cy a (si (su (su (sv (su (su (si S 22 (-1)) 29 992 0) 30 0 992) 0 0 1649317774848) 26 0 (-1)) 27 0 (-1)) 21 1)) rfl in_X12 (by decide) wf_X12_13 rfl dX12_gain_80 ?_
  refine z_iload_n b dX12_gain_83 rfl rfl ?_
  refine y_iald (q0 := 1) (j := 2) (v := (ar (si (su (su (sv (su (su (si S 22 (-1)) 29 992 0) 30 0 992) 0 0 1649317774848) 26 0 (-1)) 27 0 (-1)) 21 1) 0 2)) b (mw_1 cy a (si (su (su (sv (su (su (si S 22 (-1)) 29 992 0) 30 0 992) 0 0 1649317774848) 26 0 (-1)) 27 0 (-1)) 21 1)) (by decide) rfl dX12_gain_84 ?_
  refine z_eqi h_a_0_2 ?_
  refine z_aload_n b dX12_gain_85 rfl rfl ?_
  refine z_get (q0 := 0) (k9 := 1) (v := .ref (a 2)) b (mw_0 cy a (si (su (su (sv (su (su (si S 22 (-1)) 29 992 0) 30 0 992) 0 0 1649317774848) 26 0 (-1)) 27 0 (-1)) 21 1)) rfl in_X12 (by decide) wf_X12_17 rfl dX12_gain_86 ?_
  refine z_iconst (v := 3) b dX12_gain_89 (by decide) ?_
  refine z_iload_n b dX12_gain_90 rfl rfl ?_
  refine z_imul (v := 6) b dX12_gain_91 (by decide) ?_
  refine z_iload_n b dX12_gain_92 rfl rfl ?_
  refine z_iconst (v := 0) b dX12_gain_93 (by decide) ?_
  refine z_calli b (z_runS (As := [.int 2, .int 0]) (st := [.int 6, .ref (a 2), .int 0]) b (c_X12_other_2 (si (su (su (sv (su (su (si S 22 (-1)) 29 992 0) 30 0 992) 0 0 1649317774848) 26 0 (-1)) 27 0 (-1)) 21 1) ) cf_X12_other wm_X12_160 ws_X12_other dX12_gain_94 rfl (Nat.le_of_ble_eq_true rfl) ⟨by decide, by decide, by decide, by decide⟩) (fun r12971 u12972 h12970 => ?_)
  obtain ⟨rfl, rfl⟩ := h12970
  refine z_iadd (v := 6) b dX12_gain_97 (by decide) ?_
  refine y_iald (q0 := 2) (j := 6) (v := (ar (si (su (su (sv (su (su (si S 22 (-1)) 29 992 0) 30 0 992) 0 0 1649317774848) 26 0 (-1)) 27 0 (-1)) 21 1) 1 6)) b (mw_2 cy a (si (su (su (sv (su (su (si S 22 (-1)) 29 992 0) 30 0 992) 0 0 1649317774848) 26 0 (-1)) 27 0 (-1)) 21 1)) (by decide) rfl dX12_gain_98 ?_
  refine z_eqi h_a_1_6 ?_
  refine z_isub (v := 0) b dX12_gain_99 (by decide) ?_
  refine z_aload_n b dX12_gain_100 rfl rfl ?_
  refine z_get (q0 := 0) (k9 := 1) (v := .ref (a 2)) b (mw_0 cy a (si (su (su (sv (su (su (si S 22 (-1)) 29 992 0) 30 0 992) 0 0 1649317774848) 26 0 (-1)) 27 0 (-1)) 21 1)) rfl in_X12 (by decide) wf_X12_17 rfl dX12_gain_101 ?_
  refine z_iconst (v := 3) b dX12_gain_104 (by decide) ?_
  refine z_iload_n b dX12_gain_105 rfl rfl ?_
  refine z_imul (v := 6) b dX12_gain_106 (by decide) ?_
  refine z_iload_n b dX12_gain_107 rfl rfl ?_
  refine z_iconst (v := 1) b dX12_gain_108 (by decide) ?_
  refine z_calli b (z_runS (As := [.int 2, .int 1]) (st := [.int 6, .ref (a 2), .int 0]) b (c_X12_other (si (su (su (sv (su (su (si S 22 (-1)) 29 992 0) 30 0 992) 0 0 1649317774848) 26 0 (-1)) 27 0 (-1)) 21 1) ) cf_X12_other wm_X12_160 ws_X12_other dX12_gain_109 rfl (Nat.le_of_ble_eq_true rfl) ⟨by decide, by decide, by decide, by decide⟩) (fun r12974 u12975 h12973 => ?_)
  obtain ⟨rfl, rfl⟩ := h12973
  refine z_iadd (v := 7) b dX12_gain_112 (by decide) ?_
  refine y_iald (q0 := 2) (j := 7) (v := (ar (si (su (su (sv (su (su (si S 22 (-1)) 29 992 0) 30 0 992) 0 0 1649317774848) 26 0 (-1)) 27 0 (-1)) 21 1) 1 7)) b (mw_2 cy a (si (su (su (sv (su (su (si S 22 (-1)) 29 992 0) 30 0 992) 0 0 1649317774848) 26 0 (-1)) 27 0 (-1)) 21 1)) (by decide) rfl dX12_gain_113 ?_
  refine z_eqi h_a_1_7 ?_
  refine z_isub (v := 0) b dX12_gain_114 (by decide) ?_
  refine z_istore (lv' := [(8, .int 0), (7, .int 0), (6, .int 0), (5, .int (-1)), (0, .ref (a 0)), (1, .int 2), (2, .int p0), (3, .int 0), (4, .int 1)]) b dX12_gain_115 (by decide) rfl ?_
  refine z_iload b dX12_gain_117 rfl ?_
  refine z_iconst (v := (-1)) b dX12_gain_119 (by decide) ?_
  refine z_icmp_eq_t (tgt := 133) b dX12_gain_120 (by decide) (by decide) ?_
  refine z_iload b dX12_gain_133 rfl ?_
  refine z_istore (lv' := [(5, .int 0), (8, .int 0), (7, .int 0), (6, .int 0), (0, .ref (a 0)), (1, .int 2), (2, .int p0), (3, .int 0), (4, .int 1)]) b dX12_gain_135 (by decide) rfl ?_
  refine z_iload b dX12_gain_137 rfl ?_
  refine z_istore (lv' := [(6, .int 0), (5, .int 0), (8, .int 0), (7, .int 0), (0, .ref (a 0)), (1, .int 2), (2, .int p0), (3, .int 0), (4, .int 1)]) b dX12_gain_139 (by decide) rfl ?_
  refine z_iinc (k9 := 3) (v := 1) (lv' := [(7, .int 1), (6, .int 0), (5, .int 0), (8, .int 0), (0, .ref (a 0)), (1, .int 2), (2, .int p0), (3, .int 0), (4, .int 1)]) b dX12_gain_141 rfl (by decide) (by decide) rfl ?_
  refine z_goto (tgt := 59) b dX12_gain_144 (by decide) ?_
  refine z_iload b dX12_gain_59 rfl ?_
  refine z_aload_n b dX12_gain_61 rfl rfl ?_
  refine z_get (q0 := 0) (k9 := 55) (v := .int 1) b (mw_0 cy a (si (su (su (sv (su (su (si S 22 (-1)) 29 992 0) 30 0 992) 0 0 1649317774848) 26 0 (-1)) 27 0 (-1)) 21 1)) rfl in_X12 (by decide) wf_X12_405 rfl dX12_gain_62 ?_
  refine z_icmp_ge_t (tgt := 147) b dX12_gain_65 (by decide) (by decide) ?_
  refine z_iload b dX12_gain_147 rfl ?_
  refine z_iconst (v := 2) b dX12_gain_149 (by decide) ?_
  refine z_icmp_ge_f (tgt := 171) b dX12_gain_150 (by decide) (by decide) ?_
  refine z_iload b dX12_gain_153 rfl ?_
  refine z_if_ne_t (tgt := 163) b dX12_gain_155 (by decide) (by decide) ?_
  refine z_aload_n b dX12_gain_163 rfl rfl ?_
  refine z_get (q0 := 0) (k9 := 52) (v := .ref (a 30)) b (mw_0 cy a (si (su (su (sv (su (su (si S 22 (-1)) 29 992 0) 30 0 992) 0 0 1649317774848) 26 0 (-1)) 27 0 (-1)) 21 1)) rfl in_X12 (by decide) wf_X12_107 rfl dX12_gain_164 ?_
  refine z_iload b dX12_gain_167 rfl ?_
  refine y_iald (q0 := 30) (j := 0) (v := (ar (si (su (su (sv (su (su (si S 22 (-1)) 29 992 0) 30 0 992) 0 0 1649317774848) 26 0 (-1)) 27 0 (-1)) 21 1) 28 0)) b (mw_30 cy a (si (su (su (sv (su (su (si S 22 (-1)) 29 992 0) 30 0 992) 0 0 1649317774848) 26 0 (-1)) 27 0 (-1)) 21 1)) (by decide) rfl dX12_gain_169 ?_
  refine z_eqi h_a_28_0 ?_
  exact z_iret (u := (si (su (su (sv (su (su (si S 22 (-1)) 29 992 0) 30 0 992) 0 0 1649317774848) 26 0 (-1)) 27 0 (-1)) 21 1)) b rfl dX12_gain_170 ⟨rfl, rfl⟩ rfl (by decide) (by decide)

set_option maxHeartbeats 4000000 in
set_option maxRecDepth 100000 in
theorem c_X11_gain_38 {l : Launch} {D : va_G} {cy : Nat → ClassId} {T0 tB tE : Nat} {a : Nat → Nat} {rw : Nat → Option Nat} (S : GS) (p0 : Int32) (p1 : Int32) (h_i_19 : fi S 19 = 0) (h_i_24 : fi S 24 = 0) (h_i_20 : fi S 20 = 0) (h_i_22 : fi S 22 = 0) (h_i_18 : fi S 18 = 0) (h_i_25 : fi S 25 = 0) (h_i_23 : fi S 23 = 0) (h_i_26 : fi S 26 = 0) (h_a_4_50 : ar S 4 50 = 0) (h_a_4_40 : ar S 4 40 = 3) (h_a_4_41 : ar S 4 41 = 3) (h_a_4_42 : ar S 4 42 = 3) (h_a_4_0 : ar S 4 0 = 0) (h_a_4_11 : ar S 4 11 = 0) (h_a_4_21 : ar S 4 21 = 0) (h_a_4_31 : ar S 4 31 = 0) (h_a_4_12 : ar S 4 12 = 0) (h_a_4_22 : ar S 4 22 = 0) (h_a_4_32 : ar S 4 32 = 0) (h_a_4_1 : ar S 4 1 = 0) (h_a_4_13 : ar S 4 13 = 0) (h_a_4_23 : ar S 4 23 = 0) (h_a_4_33 : ar S 4 33 = 0) (h_a_4_15 : ar S 4 15 = 0) (h_a_4_25 : ar S 4 25 = 0) (h_a_4_35 : ar S 4 35 = 0) (h_a_4_2 : ar S 4 2 = 0) (h_a_4_16 : ar S 4 16 = 0) (h_a_4_26 : ar S 4 26 = 0) (h_a_4_36 : ar S 4 36 = 0) (h_a_4_17 : ar S 4 17 = 0) (h_a_4_27 : ar S 4 27 = 0) (h_a_4_37 : ar S 4 37 = 0) (h_a_10_0 : ar S 10 0 = 0) (h_a_9_50 : ar S 9 50 = 0) (h_a_9_40 : ar S 9 40 = 3) (h_a_9_41 : ar S 9 41 = 3) (h_a_9_42 : ar S 9 42 = 3) (h_a_9_0 : ar S 9 0 = 0) (h_a_9_11 : ar S 9 11 = 0) (h_a_9_21 : ar S 9 21 = 0) (h_a_9_31 : ar S 9 31 = 0) (h_a_9_12 : ar S 9 12 = 0) (h_a_9_22 : ar S 9 22 = 0) (h_a_9_32 : ar S 9 32 = 0) (h_a_9_1 : ar S 9 1 = 0) (h_a_9_13 : ar S 9 13 = 0) (h_a_9_23 : ar S 9 23 = 0) (h_a_9_33 : ar S 9 33 = 0) (h_a_9_15 : ar S 9 15 = 0) (h_a_9_25 : ar S 9 25 = 0) (h_a_9_35 : ar S 9 35 = 0) (h_a_9_2 : ar S 9 2 = 0) (h_a_9_16 : ar S 9 16 = 0) (h_a_9_26 : ar S 9 26 = 0) (h_a_9_36 : ar S 9 36 = 0) (h_a_9_17 : ar S 9 17 = 0) (h_a_9_27 : ar S 9 27 = 0) (h_a_9_37 : ar S 9 37 = 0) (hr_p0 : 1 ≤ p0.toInt ∧ p0.toInt ≤ 3) (hr_p1 : 2 ≤ p1.toInt ∧ p1.toInt ≤ 7) : Ct l D cy T0 tB tE yX11_gain cX11_gain 7 (some .int) 5 117 0 0 (cw cy tE a rw S) [.ref (a 0), .int 2, .int p0, .int 0, .int p1] (QI D (U := GS) (fun r u => (-100) = r ∧ (su (si (su (su (sv (sa (si (si (si S 24 1) 19 p0) 21 7) 13 (fil 1024 0 (ar (si (si (si S 24 1) 19 p0) 21 7) 13))) 2 0 4128768) 11 0 (-1)) 12 0 (-1)) 25 1) 13 978 1) = u) (cw cy tE a rw)) := by
  refine Ct.ofZ RX11 "gain" [(0, .ref (a 0)), (1, .int 2), (2, .int p0), (3, .int 0), (4, .int p1)] rfl rfl rfl rfl (Nat.le_of_ble_eq_true rfl) ?_
  intro p e R s m args below meth c A b
  refine z_iload_n b dX11_gain_0 rfl rfl ?_
  refine z_calli b (z_runS (As := [.int 2]) (st := []) b (c_X11_isPerson_5 S ) cf_X11_isPerson wm_X11_69 ws_X11_isPerson dX11_gain_1 rfl (Nat.le_of_ble_eq_true rfl) ⟨by decide, by decide, by decide, by decide⟩) (fun r12977 u12978 h12976 => ?_)
  obtain ⟨rfl, rfl⟩ := h12976
  refine z_if_eq_f (tgt := 26) b dX11_gain_4 (by decide) (by decide) ?_
  refine z_iload_n b dX11_gain_7 rfl rfl ?_
  refine z_calli b (z_runS (As := [.int p0]) (st := []) b (c_X11_areLaws_3 S p0 ⟨by omega, by omega⟩) cf_X11_areLaws wm_X11_181 ws_X11_areLaws dX11_gain_8 rfl (Nat.le_of_ble_eq_true rfl) ⟨by decide, by decide, by decide, by decide⟩) (fun r12980 u12981 h12979 => ?_)
  obtain ⟨rfl, rfl⟩ := h12979
  refine z_if_eq_f (tgt := 26) b dX11_gain_11 (by decide) (by decide) ?_
  refine z_iload_n b dX11_gain_14 rfl rfl ?_
  refine z_calli b (z_runS (As := [.int 0]) (st := []) b (c_X11_isDepth_2 S ) cf_X11_isDepth wm_X11_203 ws_X11_isDepth dX11_gain_15 rfl (Nat.le_of_ble_eq_true rfl) ⟨by decide, by decide, by decide, by decide⟩) (fun r12983 u12984 h12982 => ?_)
  obtain ⟨rfl, rfl⟩ := h12982
  refine z_if_eq_f (tgt := 26) b dX11_gain_18 (by decide) (by decide) ?_
  refine z_iload b dX11_gain_21 rfl ?_
  refine y_if_ge (tgt := 29) (xl := p1.toInt) b rfl dX11_gain_23 (by decide) (fun c12985 => ?_) (fun c12985 => ?_)
  · refine z_aload_n b dX11_gain_29 rfl rfl ?_
    refine z_get (q0 := 0) (k9 := 6) (v := .ref (a 25)) b (cw_0 cy tE a rw S) rfl in_X11 (by decide) wf_X11_52 rfl dX11_gain_30 ?_
    refine z_iload_n b dX11_gain_33 rfl rfl ?_
    refine z_iload_n b dX11_gain_34 rfl rfl ?_
    refine z_bipush (v := 7) b dX11_gain_35 (by decide) ?_
    refine z_iconst (v := 0) b dX11_gain_37 (by decide) ?_
    refine z_callv b (z_runV (q0 := 25) (As := [.int p0, .int 0, .int 7, .int 0]) (st := []) b (c_X8_begin S p0 h_i_19 h_i_24 h_i_20 h_i_22 h_i_18 h_i_25 h_i_23 h_i_26 h_a_4_50 h_a_4_40 h_a_4_41 h_a_4_42 h_a_4_0 h_a_4_11 h_a_4_21 h_a_4_31 h_a_4_12 h_a_4_22 h_a_4_32 h_a_4_1 h_a_4_13 h_a_4_23 h_a_4_33 h_a_4_15 h_a_4_25 h_a_4_35 h_a_4_2 h_a_4_16 h_a_4_26 h_a_4_36 h_a_4_17 h_a_4_27 h_a_4_37 h_a_10_0 ⟨by omega, by omega⟩) cf_X8_begin (cw_25 cy tE a rw S) rfl wm_X11_206 wi_X8_begin ws_X8_begin dX11_gain_38 rfl (Nat.le_of_ble_eq_true rfl) ⟨by decide, by decide, by decide, by decide⟩) (fun u12988 h12986 => ?_)
    obtain rfl := h12986
    refine z_aload_n b dX11_gain_41 rfl rfl ?_
    refine z_get (q0 := 0) (k9 := 6) (v := .ref (a 25)) b (cw_0 cy tE a rw (su (si (su (su (sv (sa (si (si (si S 24 1) 19 p0) 21 7) 13 (fil 1024 0 (ar (si (si (si S 24 1) 19 p0) 21 7) 13))) 2 0 4128768) 11 0 (-1)) 12 0 (-1)) 25 1) 13 978 1)) rfl in_X11 (by decide) wf_X11_52 rfl dX11_gain_42 ?_
    refine z_callv b (z_runV (q0 := 25) (As := []) (st := []) b (c_X8_finish (su (si (su (su (sv (sa (si (si (si S 24 1) 19 p0) 21 7) 13 (fil 1024 0 (ar (si (si (si S 24 1) 19 p0) 21 7) 13))) 2 0 4128768) 11 0 (-1)) 12 0 (-1)) 25 1) 13 978 1) h_i_26 h_i_23 rfl h_a_10_0 h_i_20) cf_X8_finish (cw_25 cy tE a rw (su (si (su (su (sv (sa (si (si (si S 24 1) 19 p0) 21 7) 13 (fil 1024 0 (ar (si (si (si S 24 1) 19 p0) 21 7) 13))) 2 0 4128768) 11 0 (-1)) 12 0 (-1)) 25 1) 13 978 1)) rfl wm_X11_232 wi_X8_finish ws_X8_finish dX11_gain_45 rfl (Nat.le_of_ble_eq_true rfl) ⟨by decide, by decide, by decide, by decide⟩) (fun u12991 h12989 => ?_)
    obtain rfl := h12989
    refine z_aload_n b dX11_gain_48 rfl rfl ?_
    refine z_get (q0 := 0) (k9 := 6) (v := .ref (a 25)) b (cw_0 cy tE a rw (su (si (su (su (sv (sa (si (si (si S 24 1) 19 p0) 21 7) 13 (fil 1024 0 (ar (si (si (si S 24 1) 19 p0) 21 7) 13))) 2 0 4128768) 11 0 (-1)) 12 0 (-1)) 25 1) 13 978 1)) rfl in_X11 (by decide) wf_X11_52 rfl dX11_gain_49 ?_
    refine z_get (q0 := 25) (k9 := 18) (v := .int (fi (su (si (su (su (sv (sa (si (si (si S 24 1) 19 p0) 21 7) 13 (fil 1024 0 (ar (si (si (si S 24 1) 19 p0) 21 7) 13))) 2 0 4128768) 11 0 (-1)) 12 0 (-1)) 25 1) 13 978 1) 26)) b (cw_25 cy tE a rw (su (si (su (su (sv (sa (si (si (si S 24 1) 19 p0) 21 7) 13 (fil 1024 0 (ar (si (si (si S 24 1) 19 p0) 21 7) 13))) 2 0 4128768) 11 0 (-1)) 12 0 (-1)) 25 1) 13 978 1)) rfl in_X8 (by decide) wf_X11_214 rfl dX11_gain_52 ?_
    refine z_eqi h_i_26 ?_
    refine z_if_eq_t (tgt := 61) b dX11_gain_55 (by decide) (by decide) ?_
    refine z_aload_n b dX11_gain_61 rfl rfl ?_
    refine z_get (q0 := 0) (k9 := 6) (v := .ref (a 25)) b (cw_0 cy tE a rw (su (si (su (su (sv (sa (si (si (si S 24 1) 19 p0) 21 7) 13 (fil 1024 0 (ar (si (si (si S 24 1) 19 p0) 21 7) 13))) 2 0 4128768) 11 0 (-1)) 12 0 (-1)) 25 1) 13 978 1)) rfl in_X11 (by decide) wf_X11_52 rfl dX11_gain_62 ?_
    refine z_iload_n b dX11_gain_65 rfl rfl ?_
    refine z_calli b (z_runV (q0 := 25) (As := [.int 2]) (st := []) b (c_X8_richest_3 (su (si (su (su (sv (sa (si (si (si S 24 1) 19 p0) 21 7) 13 (fil 1024 0 (ar (si (si (si S 24 1) 19 p0) 21 7) 13))) 2 0 4128768) 11 0 (-1)) 12 0 (-1)) 25 1) 13 978 1) rfl rfl h_a_9_50 h_a_9_40 h_a_9_41 h_a_9_42 h_a_9_0 h_a_9_11 h_a_9_21 h_a_9_31 h_a_9_12 h_a_9_22 h_a_9_32 h_a_9_1 h_a_9_13 h_a_9_23 h_a_9_33 h_a_9_15 h_a_9_25 h_a_9_35 h_a_9_2 h_a_9_16 h_a_9_26 h_a_9_36 h_a_9_17 h_a_9_27 h_a_9_37) cf_X8_richest (cw_25 cy tE a rw (su (si (su (su (sv (sa (si (si (si S 24 1) 19 p0) 21 7) 13 (fil 1024 0 (ar (si (si (si S 24 1) 19 p0) 21 7) 13))) 2 0 4128768) 11 0 (-1)) 12 0 (-1)) 25 1) 13 978 1)) rfl wm_X11_238 wi_X8_richest ws_X8_richest dX11_gain_66 rfl (Nat.le_of_ble_eq_true rfl) ⟨by decide, by decide, by decide, by decide⟩) (fun r12993 u12994 h12992 => ?_)
    obtain ⟨rfl, rfl⟩ := h12992
    refine z_istore (lv' := [(5, .int 0), (0, .ref (a 0)), (1, .int 2), (2, .int p0), (3, .int 0), (4, .int p1)]) b dX11_gain_69 (by decide) rfl ?_
    refine z_iload b dX11_gain_71 rfl ?_
    refine y_if_ne (tgt := 87) (xl := p1.toInt) b rfl dX11_gain_73 (by decide) (fun c12995 => ?_) (fun c12995 => ?_)
    · refine z_iload b dX11_gain_87 rfl ?_
      refine z_iconst (v := 1) b dX11_gain_89 (by decide) ?_
      refine y_icmp_ne (tgt := 103) (xl := p1.toInt) (yl := 1) b rfl (by decide) dX11_gain_90 (by decide) (fun c12996 => ?_) (fun c12996 => ?_)
      · refine z_aload_n b dX11_gain_103 rfl rfl ?_
        refine z_get (q0 := 0) (k9 := 6) (v := .ref (a 25)) b (cw_0 cy tE a rw (su (si (su (su (sv (sa (si (si (si S 24 1) 19 p0) 21 7) 13 (fil 1024 0 (ar (si (si (si S 24 1) 19 p0) 21 7) 13))) 2 0 4128768) 11 0 (-1)) 12 0 (-1)) 25 1) 13 978 1)) rfl in_X11 (by decide) wf_X11_52 rfl dX11_gain_104 ?_
        refine z_iload b dX11_gain_107 rfl ?_
        refine z_iload b dX11_gain_109 rfl ?_
        refine z_iconst (v := 2) b dX11_gain_111 (by decide) ?_
        refine z_isub b dX11_gain_112 rfl ?_
        have f12997 : ((p1 - 2) : Int32).toInt = p1.toInt + (-2) := zisub (k := 2) (by decide) (by omega) (by omega)
        refine z_calli b (z_runV (q0 := 25) (As := [.int 0, .int (p1 - 2)]) (st := []) b (c_X8_code (su (si (su (su (sv (sa (si (si (si S 24 1) 19 p0) 21 7) 13 (fil 1024 0 (ar (si (si (si S 24 1) 19 p0) 21 7) 13))) 2 0 4128768) 11 0 (-1)) 12 0 (-1)) 25 1) 13 978 1) (p1 - 2) rfl h_a_10_0 ⟨by omega, by omega⟩) cf_X8_code (cw_25 cy tE a rw (su (si (su (su (sv (sa (si (si (si S 24 1) 19 p0) 21 7) 13 (fil 1024 0 (ar (si (si (si S 24 1) 19 p0) 21 7) 13))) 2 0 4128768) 11 0 (-1)) 12 0 (-1)) 25 1) 13 978 1)) rfl wm_X11_219 wi_X8_code ws_X8_code dX11_gain_113 rfl (Nat.le_of_ble_eq_true rfl) ⟨by decide, by decide, by decide, by decide⟩) (fun r12999 u13000 h12998 => ?_)
        obtain ⟨rfl, rfl⟩ := h12998
        refine z_istore (lv' := [(6, .int (-1)), (5, .int 0), (0, .ref (a 0)), (1, .int 2), (2, .int p0), (3, .int 0), (4, .int p1)]) b dX11_gain_116 (by decide) rfl ?_
        refine z_iload b dX11_gain_118 rfl ?_
        refine z_iconst (v := (-1)) b dX11_gain_120 (by decide) ?_
        refine z_icmp_ne_f (tgt := 129) b dX11_gain_121 (by decide) (by decide) ?_
        refine z_bipush (v := (-100)) b dX11_gain_124 (by decide) ?_
        refine z_goto (tgt := 131) b dX11_gain_126 (by decide) ?_
        exact z_iret (u := (su (si (su (su (sv (sa (si (si (si S 24 1) 19 p0) 21 7) 13 (fil 1024 0 (ar (si (si (si S 24 1) 19 p0) 21 7) 13))) 2 0 4128768) 11 0 (-1)) 12 0 (-1)) 25 1) 13 978 1)) b rfl dX11_gain_131 ⟨rfl, rfl⟩ rfl (by decide) (by decide)
      · exfalso; omega
    · exfalso; omega
  · exfalso; omega

set_option maxHeartbeats 4000000 in
set_option maxRecDepth 100000 in
theorem c_X12_gain_38 {l : Launch} {D : va_G} {cy : Nat → ClassId} {T0 tB tE : Nat} {a : Nat → Nat} (S : GS) (p0 : Int32) (p1 : Int32) (h_i_21 : fi S 21 = 0) (h_i_23 : fi S 23 = 0) (h_l_0 : fl S 0 = 1649317774848) (h_a_29_992 : ar S 29 992 = (-1)) (h_a_28_0 : ar S 28 0 = 0) (h_a_4_7 : ar S 4 7 = 0) (h_a_1_7 : ar S 1 7 = 0) (h_a_4_6 : ar S 4 6 = 0) (h_a_1_6 : ar S 1 6 = 0) (h_a_3_6 : ar S 3 6 = 0) (h_a_3_2 : ar S 3 2 = 0) (h_a_2_2 : ar S 2 2 = 3) (h_a_0_2 : ar S 0 2 = 0) (h_a_4_3 : ar S 4 3 = 0) (h_a_1_3 : ar S 1 3 = 0) (h_a_4_5 : ar S 4 5 = 0) (h_a_1_5 : ar S 1 5 = 0) (h_a_3_5 : ar S 3 5 = 0) (h_a_3_7 : ar S 3 7 = 0) (h_a_2_1 : ar S 2 1 = 3) (h_a_0_1 : ar S 0 1 = 0) (h_a_4_2 : ar S 4 2 = 0) (h_a_1_2 : ar S 1 2 = 0) (h_a_4_1 : ar S 4 1 = 0) (h_a_1_1 : ar S 1 1 = 0) (h_a_3_1 : ar S 3 1 = 0) (h_a_3_3 : ar S 3 3 = 0) (h_a_2_0 : ar S 2 0 = 3) (h_a_0_0 : ar S 0 0 = 0) (h_i_0 : fi S 0 = 0) (hr_p0 : 1 ≤ p0.toInt ∧ p0.toInt ≤ 3) (hr_p1 : 2 ≤ p1.toInt ∧ p1.toInt ≤ 7) : Ct l D cy T0 tB tE yX12_gain cX12_gain 9 (some .int) 3 74 0 0 (mw cy a S) [.ref (a 0), .int 2, .int p0, .int 0, .int p1] (QI D (U := GS) (fun r u => (-100) = r ∧ (si (su (su (sv (su (su (si S 22 (-1)) 29 992 0) 30 0 992) 0 0 1649317774848) 26 0 (-1)) 27 0 (-1)) 21 1) = u) (mw cy a)) := by
  refine Ct.ofZ RX12 "gain" [(0, .ref (a 0)), (1, .int 2), (2, .int p0), (3, .int 0), (4, .int p1)] rfl rfl rfl rfl (Nat.le_of_ble_eq_true rfl) ?_
  intro p e R s m args below meth c A b
  refine z_iload_n b dX12_gain_0 rfl rfl ?_
  refine z_calli b (z_runS (As := [.int 2]) (st := []) b (c_X12_isOne_5 S ) cf_X12_isOne wm_X12_170 ws_X12_isOne dX12_gain_1 rfl (Nat.le_of_ble_eq_true rfl) ⟨by decide, by decide, by decide, by decide⟩) (fun r13002 u13003 h13001 => ?_)
  obtain ⟨rfl, rfl⟩ := h13001
  refine z_if_eq_f (tgt := 27) b dX12_gain_4 (by decide) (by decide) ?_
  refine z_aload_n b dX12_gain_7 rfl rfl ?_
  refine z_iload_n b dX12_gain_8 rfl rfl ?_
  refine z_iload_n b dX12_gain_9 rfl rfl ?_
  refine z_calli b (z_runV (q0 := 0) (As := [.int p0, .int 0]) (st := []) b (c_X12_canSearch_4 S p0 ⟨by omega, by omega⟩) cf_X12_canSearch (mw_0 cy a S) rfl wm_X12_433 wi_X12_canSearch ws_X12_canSearch dX12_gain_10 rfl (Nat.le_of_ble_eq_true rfl) ⟨by decide, by decide, by decide, by decide⟩) (fun r13005 u13006 h13004 => ?_)
  obtain ⟨rfl, rfl⟩ := h13004
  refine z_if_eq_f (tgt := 27) b dX12_gain_13 (by decide) (by decide) ?_
  refine z_iload b dX12_gain_16 rfl ?_
  refine z_iconst (v := 0) b dX12_gain_18 (by decide) ?_
  refine z_bipush (v := 7) b dX12_gain_19 (by decide) ?_
  refine z_calli b (z_runS (As := [.int p1, .int 0, .int 7]) (st := []) b (c_X12_isIn_61 S p1 ⟨by omega, by omega⟩) cf_X12_isIn wm_X12_1 ws_X12_isIn dX12_gain_21 rfl (Nat.le_of_ble_eq_true rfl) ⟨by decide, by decide, by decide, by decide⟩) (fun r13008 u13009 h13007 => ?_)
  obtain ⟨rfl, rfl⟩ := h13007
  refine z_if_ne_t (tgt := 30) b dX12_gain_24 (by decide) (by decide) ?_
  refine z_aload_n b dX12_gain_30 rfl rfl ?_
  refine z_iconst (v := (-1)) b dX12_gain_31 (by decide) ?_
  refine z_iload_n b dX12_gain_32 rfl rfl ?_
  refine z_iload_n b dX12_gain_33 rfl rfl ?_
  refine z_bipush (v := 7) b dX12_gain_34 (by decide) ?_
  refine z_iconst (v := 0) b dX12_gain_36 (by decide) ?_
  refine z_callv b (z_runV (q0 := 0) (As := [.int (-1), .int p0, .int 0, .int 7, .int 0]) (st := []) b (c_X12_searches S p0 h_i_21 h_i_23 h_l_0 h_a_29_992 h_a_28_0 ⟨by omega, by omega⟩) cf_X12_searches (mw_0 cy a S) rfl wm_X12_436 wi_X12_searches ws_X12_searches dX12_gain_37 rfl (Nat.le_of_ble_eq_true rfl) ⟨by decide, by decide, by decide, by decide⟩) (fun u13012 h13010 => ?_)
  obtain rfl := h13010
  refine z_aload_n b dX12_gain_40 rfl rfl ?_
  refine z_get (q0 := 0) (k9 := 57) (v := .int (fi (si (su (su (sv (su (su (si S 22 (-1)) 29 992 0) 30 0 992) 0 0 1649317774848) 26 0 (-1)) 27 0 (-1)) 21 1) 23)) b (mw_0 cy a (si (su (su (sv (su (su (si S 22 (-1)) 29 992 0) 30 0 992) 0 0 1649317774848) 26 0 (-1)) 27 0 (-1)) 21 1)) rfl in_X12 (by decide) wf_X12_408 rfl dX12_gain_41 ?_
  refine z_eqi h_i_23 ?_
  refine z_if_eq_t (tgt := 50) b dX12_gain_44 (by decide) (by decide) ?_
  refine z_iconst (v := (-1)) b dX12_gain_50 (by decide) ?_
  refine z_istore (lv' := [(5, .int (-1)), (0, .ref (a 0)), (1, .int 2), (2, .int p0), (3, .int 0), (4, .int p1)]) b dX12_gain_51 (by decide) rfl ?_
  refine z_iconst (v := 0) b dX12_gain_53 (by decide) ?_
  refine z_istore (lv' := [(6, .int 0), (5, .int (-1)), (0, .ref (a 0)), (1, .int 2), (2, .int p0), (3, .int 0), (4, .int p1)]) b dX12_gain_54 (by decide) rfl ?_
  refine z_iconst (v := 0) b dX12_gain_56 (by decide) ?_
  refine z_istore (lv' := [(7, .int 0), (6, .int 0), (5, .int (-1)), (0, .ref (a 0)), (1, .int 2), (2, .int p0), (3, .int 0), (4, .int p1)]) b dX12_gain_57 (by decide) rfl ?_
  refine z_iload b dX12_gain_59 rfl ?_
  refine z_aload_n b dX12_gain_61 rfl rfl ?_
  refine z_get (q0 := 0) (k9 := 55) (v := .int 1) b (mw_0 cy a (si (su (su (sv (su (su (si S 22 (-1)) 29 992 0) 30 0 992) 0 0 1649317774848) 26 0 (-1)) 27 0 (-1)) 21 1)) rfl in_X12 (by decide) wf_X12_405 rfl dX12_gain_62 ?_
  refine z_icmp_ge_f (tgt := 147) b dX12_gain_65 (by decide) (by decide) ?_
  refine z_aload_n b dX12_gain_68 rfl rfl ?_
  refine z_aload_n b dX12_gain_69 rfl rfl ?_
  refine z_get (q0 := 0) (k9 := 49) (v := .ref (a 27)) b (mw_0 cy a (si (su (su (sv (su (su (si S 22 (-1)) 29 992 0) 30 0 992) 0 0 1649317774848) 26 0 (-1)) 27 0 (-1)) 21 1)) rfl in_X12 (by decide) wf_X12_97 rfl dX12_gain_70 ?_
  refine z_iload b dX12_gain_73 rfl ?_
  refine y_lald (q0 := 27) (j := 0) (v := 1649317774848) b (mw_27 cy a (si (su (su (sv (su (su (si S 22 (-1)) 29 992 0) 30 0 992) 0 0 1649317774848) 26 0 (-1)) 27 0 (-1)) 21 1)) (by decide) rfl dX12_gain_75 ?_
  refine z_callv b (z_runV (q0 := 0) (As := [.long 1649317774848]) (st := []) b (c_X12_takes (si (su (su (sv (su (su (si S 22 (-1)) 29 992 0) 30 0 992) 0 0 1649317774848) 26 0 (-1)) 27 0 (-1)) 21 1) h_a_4_7 h_a_1_7 h_a_4_6 h_a_1_6 h_a_3_6 h_a_3_2 h_a_2_2 h_a_0_2 h_a_4_3 h_a_1_3 h_a_4_5 h_a_1_5 h_a_3_5 h_a_3_7 h_a_2_1 h_a_0_1 h_a_4_2 h_a_1_2 h_a_4_1 h_a_1_1 h_a_3_1 h_a_3_3 h_a_2_0 h_a_0_0 h_i_0) cf_X12_takes (mw_0 cy a (si (su (su (sv (su (su (si S 22 (-1)) 29 992 0) 30 0 992) 0 0 1649317774848) 26 0 (-1)) 27 0 (-1)) 21 1)) rfl wm_X12_174 wi_X12_takes ws_X12_takes dX12_gain_76 rfl (Nat.le_of_ble_eq_true rfl) ⟨by decide, by decide, by decide, by decide⟩) (fun u13015 h13013 => ?_)
  obtain rfl := h13013
  refine z_aload_n b dX12_gain_79 rfl rfl ?_
  refine z_get (q0 := 0) (k9 := 0) (v := .ref (a 1)) b (mw_0 cy a (si (su (su (sv (su (su (si S 22 (-1)) 29 992 0) 30 0 992) 0 0 1649317774848) 26 0 (-1)) 27 0 (-1)) 21 1)) rfl in_X12 (by decide) wf_X12_13 rfl dX12_gain_80 ?_
  refine z_iload_n b dX12_gain_83 rfl rfl ?_
  refine y_iald (q0 := 1) (j := 2) (v := (ar (si (su (su (sv (su (su (si S 22 (-1)) 29 992 0) 30 0 992) 0 0 1649317774848) 26 0 (-1)) 27 0 (-1)) 21 1) 0 2)) b (mw_1 cy a (si (su (su (sv (su (su (si S 22 (-1)) 29 992 0) 30 0 992) 0 0 1649317774848) 26 0 (-1)) 27 0 (-1)) 21 1)) (by decide) rfl dX12_gain_84 ?_
  refine z_eqi h_a_0_2 ?_
  refine z_aload_n b dX12_gain_85 rfl rfl ?_
  refine z_get (q0 := 0) (k9 := 1) (v := .ref (a 2)) b (mw_0 cy a (si (su (su (sv (su (su (si S 22 (-1)) 29 992 0) 30 0 992) 0 0 1649317774848) 26 0 (-1)) 27 0 (-1)) 21 1)) rfl in_X12 (by decide) wf_X12_17 rfl dX12_gain_86 ?_
  refine z_iconst (v := 3) b dX12_gain_89 (by decide) ?_
  refine z_iload_n b dX12_gain_90 rfl rfl ?_
  refine z_imul (v := 6) b dX12_gain_91 (by decide) ?_
  refine z_iload_n b dX12_gain_92 rfl rfl ?_
  refine z_iconst (v := 0) b dX12_gain_93 (by decide) ?_
  refine z_calli b (z_runS (As := [.int 2, .int 0]) (st := [.int 6, .ref (a 2), .int 0]) b (c_X12_other_2 (si (su (su (sv (su (su (si S 22 (-1)) 29 992 0) 30 0 992) 0 0 1649317774848) 26 0 (-1)) 27 0 (-1)) 21 1) ) cf_X12_other wm_X12_160 ws_X12_other dX12_gain_94 rfl (Nat.le_of_ble_eq_true rfl) ⟨by decide, by decide, by decide, by decide⟩) (fun r13017 u13018 h13016 => ?_)
  obtain ⟨rfl, rfl⟩ := h13016
  refine z_iadd (v := 6) b dX12_gain_97 (by decide) ?_
  refine y_iald (q0 := 2) (j := 6) (v := (ar (si (su (su (sv (su (su (si S 22 (-1)) 29 992 0) 30 0 992) 0 0 1649317774848) 26 0 (-1)) 27 0 (-1)) 21 1) 1 6)) b (mw_2 cy a (si (su (su (sv (su (su (si S 22 (-1)) 29 992 0) 30 0 992) 0 0 1649317774848) 26 0 (-1)) 27 0 (-1)) 21 1)) (by decide) rfl dX12_gain_98 ?_
  refine z_eqi h_a_1_6 ?_
  refine z_isub (v := 0) b dX12_gain_99 (by decide) ?_
  refine z_aload_n b dX12_gain_100 rfl rfl ?_
  refine z_get (q0 := 0) (k9 := 1) (v := .ref (a 2)) b (mw_0 cy a (si (su (su (sv (su (su (si S 22 (-1)) 29 992 0) 30 0 992) 0 0 1649317774848) 26 0 (-1)) 27 0 (-1)) 21 1)) rfl in_X12 (by decide) wf_X12_17 rfl dX12_gain_101 ?_
  refine z_iconst (v := 3) b dX12_gain_104 (by decide) ?_
  refine z_iload_n b dX12_gain_105 rfl rfl ?_
  refine z_imul (v := 6) b dX12_gain_106 (by decide) ?_
  refine z_iload_n b dX12_gain_107 rfl rfl ?_
  refine z_iconst (v := 1) b dX12_gain_108 (by decide) ?_
  refine z_calli b (z_runS (As := [.int 2, .int 1]) (st := [.int 6, .ref (a 2), .int 0]) b (c_X12_other (si (su (su (sv (su (su (si S 22 (-1)) 29 992 0) 30 0 992) 0 0 1649317774848) 26 0 (-1)) 27 0 (-1)) 21 1) ) cf_X12_other wm_X12_160 ws_X12_other dX12_gain_109 rfl (Nat.le_of_ble_eq_true rfl) ⟨by decide, by decide, by decide, by decide⟩) (fun r13020 u13021 h13019 => ?_)
  obtain ⟨rfl, rfl⟩ := h13019
  refine z_iadd (v := 7) b dX12_gain_112 (by decide) ?_
  refine y_iald (q0 := 2) (j := 7) (v := (ar (si (su (su (sv (su (su (si S 22 (-1)) 29 992 0) 30 0 992) 0 0 1649317774848) 26 0 (-1)) 27 0 (-1)) 21 1) 1 7)) b (mw_2 cy a (si (su (su (sv (su (su (si S 22 (-1)) 29 992 0) 30 0 992) 0 0 1649317774848) 26 0 (-1)) 27 0 (-1)) 21 1)) (by decide) rfl dX12_gain_113 ?_
  refine z_eqi h_a_1_7 ?_
  refine z_isub (v := 0) b dX12_gain_114 (by decide) ?_
  refine z_istore (lv' := [(8, .int 0), (7, .int 0), (6, .int 0), (5, .int (-1)), (0, .ref (a 0)), (1, .int 2), (2, .int p0), (3, .int 0), (4, .int p1)]) b dX12_gain_115 (by decide) rfl ?_
  refine z_iload b dX12_gain_117 rfl ?_
  refine z_iconst (v := (-1)) b dX12_gain_119 (by decide) ?_
  refine z_icmp_eq_t (tgt := 133) b dX12_gain_120 (by decide) (by decide) ?_
  refine z_iload b dX12_gain_133 rfl ?_
  refine z_istore (lv' := [(5, .int 0), (8, .int 0), (7, .int 0), (6, .int 0), (0, .ref (a 0)), (1, .int 2), (2, .int p0), (3, .int 0), (4, .int p1)]) b dX12_gain_135 (by decide) rfl ?_
  refine z_iload b dX12_gain_137 rfl ?_
  refine z_istore (lv' := [(6, .int 0), (5, .int 0), (8, .int 0), (7, .int 0), (0, .ref (a 0)), (1, .int 2), (2, .int p0), (3, .int 0), (4, .int p1)]) b dX12_gain_139 (by decide) rfl ?_
  refine z_iinc (k9 := 3) (v := 1) (lv' := [(7, .int 1), (6, .int 0), (5, .int 0), (8, .int 0), (0, .ref (a 0)), (1, .int 2), (2, .int p0), (3, .int 0), (4, .int p1)]) b dX12_gain_141 rfl (by decide) (by decide) rfl ?_
  refine z_goto (tgt := 59) b dX12_gain_144 (by decide) ?_
  refine z_iload b dX12_gain_59 rfl ?_
  refine z_aload_n b dX12_gain_61 rfl rfl ?_
  refine z_get (q0 := 0) (k9 := 55) (v := .int 1) b (mw_0 cy a (si (su (su (sv (su (su (si S 22 (-1)) 29 992 0) 30 0 992) 0 0 1649317774848) 26 0 (-1)) 27 0 (-1)) 21 1)) rfl in_X12 (by decide) wf_X12_405 rfl dX12_gain_62 ?_
  refine z_icmp_ge_t (tgt := 147) b dX12_gain_65 (by decide) (by decide) ?_
  refine z_iload b dX12_gain_147 rfl ?_
  refine z_iconst (v := 2) b dX12_gain_149 (by decide) ?_
  refine y_icmp_ge (tgt := 171) (xl := p1.toInt) (yl := 2) b rfl (by decide) dX12_gain_150 (by decide) (fun c13022 => ?_) (fun c13022 => ?_)
  · refine z_iload b dX12_gain_171 rfl ?_
    refine z_iconst (v := 2) b dX12_gain_173 (by decide) ?_
    refine z_isub b dX12_gain_174 rfl ?_
    have f13023 : ((p1 - 2) : Int32).toInt = p1.toInt + (-2) := zisub (k := 2) (by decide) (by omega) (by omega)
    refine z_aload_n b dX12_gain_175 rfl rfl ?_
    refine z_get (q0 := 0) (k9 := 52) (v := .ref (a 30)) b (mw_0 cy a (si (su (su (sv (su (su (si S 22 (-1)) 29 992 0) 30 0 992) 0 0 1649317774848) 26 0 (-1)) 27 0 (-1)) 21 1)) rfl in_X12 (by decide) wf_X12_107 rfl dX12_gain_176 ?_
    refine z_iload b dX12_gain_179 rfl ?_
    refine y_iald (q0 := 30) (j := 0) (v := (ar (si (su (su (sv (su (su (si S 22 (-1)) 29 992 0) 30 0 992) 0 0 1649317774848) 26 0 (-1)) 27 0 (-1)) 21 1) 28 0)) b (mw_30 cy a (si (su (su (sv (su (su (si S 22 (-1)) 29 992 0) 30 0 992) 0 0 1649317774848) 26 0 (-1)) 27 0 (-1)) 21 1)) (by decide) rfl dX12_gain_181 ?_
    refine z_eqi h_a_28_0 ?_
    refine y_icmp_ge (tgt := 198) (xl := ((p1 - 2) : Int32).toInt) (yl := 0) b rfl (by decide) dX12_gain_182 (by decide) (fun c13024 => ?_) (fun c13024 => ?_)
    · refine z_bipush (v := (-100)) b dX12_gain_198 (by decide) ?_
      exact z_iret (u := (si (su (su (sv (su (su (si S 22 (-1)) 29 992 0) 30 0 992) 0 0 1649317774848) 26 0 (-1)) 27 0 (-1)) 21 1)) b rfl dX12_gain_200 ⟨rfl, rfl⟩ rfl (by decide) (by decide)
    · exfalso; omega
  · exfalso; omega

set_option maxHeartbeats 4000000 in
set_option maxRecDepth 100000 in
theorem c_X11_gain_39 {l : Launch} {D : va_G} {cy : Nat → ClassId} {T0 tB tE : Nat} {a : Nat → Nat} {rw : Nat → Option Nat} (S : GS) (p0 : Int32) (p1 : Int32) (h_i_19 : fi S 19 = 0) (h_i_24 : fi S 24 = 0) (h_i_20 : fi S 20 = 0) (h_i_22 : fi S 22 = 0) (h_i_18 : fi S 18 = 0) (h_i_25 : fi S 25 = 0) (h_i_23 : fi S 23 = 0) (h_i_26 : fi S 26 = 0) (h_a_4_50 : ar S 4 50 = 0) (h_a_4_40 : ar S 4 40 = 3) (h_a_4_41 : ar S 4 41 = 3) (h_a_4_42 : ar S 4 42 = 3) (h_a_4_0 : ar S 4 0 = 0) (h_a_4_11 : ar S 4 11 = 0) (h_a_4_21 : ar S 4 21 = 0) (h_a_4_31 : ar S 4 31 = 0) (h_a_4_12 : ar S 4 12 = 0) (h_a_4_22 : ar S 4 22 = 0) (h_a_4_32 : ar S 4 32 = 0) (h_a_4_1 : ar S 4 1 = 0) (h_a_4_13 : ar S 4 13 = 0) (h_a_4_23 : ar S 4 23 = 0) (h_a_4_33 : ar S 4 33 = 0) (h_a_4_15 : ar S 4 15 = 0) (h_a_4_25 : ar S 4 25 = 0) (h_a_4_35 : ar S 4 35 = 0) (h_a_4_2 : ar S 4 2 = 0) (h_a_4_16 : ar S 4 16 = 0) (h_a_4_26 : ar S 4 26 = 0) (h_a_4_36 : ar S 4 36 = 0) (h_a_4_17 : ar S 4 17 = 0) (h_a_4_27 : ar S 4 27 = 0) (h_a_4_37 : ar S 4 37 = 0) (h_a_10_0 : ar S 10 0 = 0) (h_a_9_50 : ar S 9 50 = 0) (h_a_9_40 : ar S 9 40 = 3) (h_a_9_41 : ar S 9 41 = 3) (h_a_9_42 : ar S 9 42 = 3) (h_a_9_0 : ar S 9 0 = 0) (h_a_9_11 : ar S 9 11 = 0) (h_a_9_21 : ar S 9 21 = 0) (h_a_9_31 : ar S 9 31 = 0) (h_a_9_12 : ar S 9 12 = 0) (h_a_9_22 : ar S 9 22 = 0) (h_a_9_32 : ar S 9 32 = 0) (h_a_9_1 : ar S 9 1 = 0) (h_a_9_13 : ar S 9 13 = 0) (h_a_9_23 : ar S 9 23 = 0) (h_a_9_33 : ar S 9 33 = 0) (h_a_9_15 : ar S 9 15 = 0) (h_a_9_25 : ar S 9 25 = 0) (h_a_9_35 : ar S 9 35 = 0) (h_a_9_2 : ar S 9 2 = 0) (h_a_9_16 : ar S 9 16 = 0) (h_a_9_26 : ar S 9 26 = 0) (h_a_9_36 : ar S 9 36 = 0) (h_a_9_17 : ar S 9 17 = 0) (h_a_9_27 : ar S 9 27 = 0) (h_a_9_37 : ar S 9 37 = 0) (hr_p0 : 1 ≤ p0.toInt ∧ p0.toInt ≤ 3) (hr_p1 : 8 ≤ p1.toInt ∧ p1.toInt ≤ 2147483647) : Ct l D cy T0 tB tE yX11_gain cX11_gain 7 (some .int) 5 117 0 0 (cw cy tE a rw S) [.ref (a 0), .int 2, .int p0, .int 0, .int p1] (QI D (U := GS) (fun r u => (-100) = r ∧ (su (si (su (su (sv (sa (si (si (si S 24 1) 19 p0) 21 7) 13 (fil 1024 0 (ar (si (si (si S 24 1) 19 p0) 21 7) 13))) 2 0 4128768) 11 0 (-1)) 12 0 (-1)) 25 1) 13 978 1) = u) (cw cy tE a rw)) := by
  refine Ct.ofZ RX11 "gain" [(0, .ref (a 0)), (1, .int 2), (2, .int p0), (3, .int 0), (4, .int p1)] rfl rfl rfl rfl (Nat.le_of_ble_eq_true rfl) ?_
  intro p e R s m args below meth c A b
  refine z_iload_n b dX11_gain_0 rfl rfl ?_
  refine z_calli b (z_runS (As := [.int 2]) (st := []) b (c_X11_isPerson_5 S ) cf_X11_isPerson wm_X11_69 ws_X11_isPerson dX11_gain_1 rfl (Nat.le_of_ble_eq_true rfl) ⟨by decide, by decide, by decide, by decide⟩) (fun r13026 u13027 h13025 => ?_)
  obtain ⟨rfl, rfl⟩ := h13025
  refine z_if_eq_f (tgt := 26) b dX11_gain_4 (by decide) (by decide) ?_
  refine z_iload_n b dX11_gain_7 rfl rfl ?_
  refine z_calli b (z_runS (As := [.int p0]) (st := []) b (c_X11_areLaws_3 S p0 ⟨by omega, by omega⟩) cf_X11_areLaws wm_X11_181 ws_X11_areLaws dX11_gain_8 rfl (Nat.le_of_ble_eq_true rfl) ⟨by decide, by decide, by decide, by decide⟩) (fun r13029 u13030 h13028 => ?_)
  obtain ⟨rfl, rfl⟩ := h13028
  refine z_if_eq_f (tgt := 26) b dX11_gain_11 (by decide) (by decide) ?_
  refine z_iload_n b dX11_gain_14 rfl rfl ?_
  refine z_calli b (z_runS (As := [.int 0]) (st := []) b (c_X11_isDepth_2 S ) cf_X11_isDepth wm_X11_203 ws_X11_isDepth dX11_gain_15 rfl (Nat.le_of_ble_eq_true rfl) ⟨by decide, by decide, by decide, by decide⟩) (fun r13032 u13033 h13031 => ?_)
  obtain ⟨rfl, rfl⟩ := h13031
  refine z_if_eq_f (tgt := 26) b dX11_gain_18 (by decide) (by decide) ?_
  refine z_iload b dX11_gain_21 rfl ?_
  refine y_if_ge (tgt := 29) (xl := p1.toInt) b rfl dX11_gain_23 (by decide) (fun c13034 => ?_) (fun c13034 => ?_)
  · refine z_aload_n b dX11_gain_29 rfl rfl ?_
    refine z_get (q0 := 0) (k9 := 6) (v := .ref (a 25)) b (cw_0 cy tE a rw S) rfl in_X11 (by decide) wf_X11_52 rfl dX11_gain_30 ?_
    refine z_iload_n b dX11_gain_33 rfl rfl ?_
    refine z_iload_n b dX11_gain_34 rfl rfl ?_
    refine z_bipush (v := 7) b dX11_gain_35 (by decide) ?_
    refine z_iconst (v := 0) b dX11_gain_37 (by decide) ?_
    refine z_callv b (z_runV (q0 := 25) (As := [.int p0, .int 0, .int 7, .int 0]) (st := []) b (c_X8_begin S p0 h_i_19 h_i_24 h_i_20 h_i_22 h_i_18 h_i_25 h_i_23 h_i_26 h_a_4_50 h_a_4_40 h_a_4_41 h_a_4_42 h_a_4_0 h_a_4_11 h_a_4_21 h_a_4_31 h_a_4_12 h_a_4_22 h_a_4_32 h_a_4_1 h_a_4_13 h_a_4_23 h_a_4_33 h_a_4_15 h_a_4_25 h_a_4_35 h_a_4_2 h_a_4_16 h_a_4_26 h_a_4_36 h_a_4_17 h_a_4_27 h_a_4_37 h_a_10_0 ⟨by omega, by omega⟩) cf_X8_begin (cw_25 cy tE a rw S) rfl wm_X11_206 wi_X8_begin ws_X8_begin dX11_gain_38 rfl (Nat.le_of_ble_eq_true rfl) ⟨by decide, by decide, by decide, by decide⟩) (fun u13037 h13035 => ?_)
    obtain rfl := h13035
    refine z_aload_n b dX11_gain_41 rfl rfl ?_
    refine z_get (q0 := 0) (k9 := 6) (v := .ref (a 25)) b (cw_0 cy tE a rw (su (si (su (su (sv (sa (si (si (si S 24 1) 19 p0) 21 7) 13 (fil 1024 0 (ar (si (si (si S 24 1) 19 p0) 21 7) 13))) 2 0 4128768) 11 0 (-1)) 12 0 (-1)) 25 1) 13 978 1)) rfl in_X11 (by decide) wf_X11_52 rfl dX11_gain_42 ?_
    refine z_callv b (z_runV (q0 := 25) (As := []) (st := []) b (c_X8_finish (su (si (su (su (sv (sa (si (si (si S 24 1) 19 p0) 21 7) 13 (fil 1024 0 (ar (si (si (si S 24 1) 19 p0) 21 7) 13))) 2 0 4128768) 11 0 (-1)) 12 0 (-1)) 25 1) 13 978 1) h_i_26 h_i_23 rfl h_a_10_0 h_i_20) cf_X8_finish (cw_25 cy tE a rw (su (si (su (su (sv (sa (si (si (si S 24 1) 19 p0) 21 7) 13 (fil 1024 0 (ar (si (si (si S 24 1) 19 p0) 21 7) 13))) 2 0 4128768) 11 0 (-1)) 12 0 (-1)) 25 1) 13 978 1)) rfl wm_X11_232 wi_X8_finish ws_X8_finish dX11_gain_45 rfl (Nat.le_of_ble_eq_true rfl) ⟨by decide, by decide, by decide, by decide⟩) (fun u13040 h13038 => ?_)
    obtain rfl := h13038
    refine z_aload_n b dX11_gain_48 rfl rfl ?_
    refine z_get (q0 := 0) (k9 := 6) (v := .ref (a 25)) b (cw_0 cy tE a rw (su (si (su (su (sv (sa (si (si (si S 24 1) 19 p0) 21 7) 13 (fil 1024 0 (ar (si (si (si S 24 1) 19 p0) 21 7) 13))) 2 0 4128768) 11 0 (-1)) 12 0 (-1)) 25 1) 13 978 1)) rfl in_X11 (by decide) wf_X11_52 rfl dX11_gain_49 ?_
    refine z_get (q0 := 25) (k9 := 18) (v := .int (fi (su (si (su (su (sv (sa (si (si (si S 24 1) 19 p0) 21 7) 13 (fil 1024 0 (ar (si (si (si S 24 1) 19 p0) 21 7) 13))) 2 0 4128768) 11 0 (-1)) 12 0 (-1)) 25 1) 13 978 1) 26)) b (cw_25 cy tE a rw (su (si (su (su (sv (sa (si (si (si S 24 1) 19 p0) 21 7) 13 (fil 1024 0 (ar (si (si (si S 24 1) 19 p0) 21 7) 13))) 2 0 4128768) 11 0 (-1)) 12 0 (-1)) 25 1) 13 978 1)) rfl in_X8 (by decide) wf_X11_214 rfl dX11_gain_52 ?_
    refine z_eqi h_i_26 ?_
    refine z_if_eq_t (tgt := 61) b dX11_gain_55 (by decide) (by decide) ?_
    refine z_aload_n b dX11_gain_61 rfl rfl ?_
    refine z_get (q0 := 0) (k9 := 6) (v := .ref (a 25)) b (cw_0 cy tE a rw (su (si (su (su (sv (sa (si (si (si S 24 1) 19 p0) 21 7) 13 (fil 1024 0 (ar (si (si (si S 24 1) 19 p0) 21 7) 13))) 2 0 4128768) 11 0 (-1)) 12 0 (-1)) 25 1) 13 978 1)) rfl in_X11 (by decide) wf_X11_52 rfl dX11_gain_62 ?_
    refine z_iload_n b dX11_gain_65 rfl rfl ?_
    refine z_calli b (z_runV (q0 := 25) (As := [.int 2]) (st := []) b (c_X8_richest_3 (su (si (su (su (sv (sa (si (si (si S 24 1) 19 p0) 21 7) 13 (fil 1024 0 (ar (si (si (si S 24 1) 19 p0) 21 7) 13))) 2 0 4128768) 11 0 (-1)) 12 0 (-1)) 25 1) 13 978 1) rfl rfl h_a_9_50 h_a_9_40 h_a_9_41 h_a_9_42 h_a_9_0 h_a_9_11 h_a_9_21 h_a_9_31 h_a_9_12 h_a_9_22 h_a_9_32 h_a_9_1 h_a_9_13 h_a_9_23 h_a_9_33 h_a_9_15 h_a_9_25 h_a_9_35 h_a_9_2 h_a_9_16 h_a_9_26 h_a_9_36 h_a_9_17 h_a_9_27 h_a_9_37) cf_X8_richest (cw_25 cy tE a rw (su (si (su (su (sv (sa (si (si (si S 24 1) 19 p0) 21 7) 13 (fil 1024 0 (ar (si (si (si S 24 1) 19 p0) 21 7) 13))) 2 0 4128768) 11 0 (-1)) 12 0 (-1)) 25 1) 13 978 1)) rfl wm_X11_238 wi_X8_richest ws_X8_richest dX11_gain_66 rfl (Nat.le_of_ble_eq_true rfl) ⟨by decide, by decide, by decide, by decide⟩) (fun r13042 u13043 h13041 => ?_)
    obtain ⟨rfl, rfl⟩ := h13041
    refine z_istore (lv' := [(5, .int 0), (0, .ref (a 0)), (1, .int 2), (2, .int p0), (3, .int 0), (4, .int p1)]) b dX11_gain_69 (by decide) rfl ?_
    refine z_iload b dX11_gain_71 rfl ?_
    refine y_if_ne (tgt := 87) (xl := p1.toInt) b rfl dX11_gain_73 (by decide) (fun c13044 => ?_) (fun c13044 => ?_)
    · refine z_iload b dX11_gain_87 rfl ?_
      refine z_iconst (v := 1) b dX11_gain_89 (by decide) ?_
      refine y_icmp_ne (tgt := 103) (xl := p1.toInt) (yl := 1) b rfl (by decide) dX11_gain_90 (by decide) (fun c13045 => ?_) (fun c13045 => ?_)
      · refine z_aload_n b dX11_gain_103 rfl rfl ?_
        refine z_get (q0 := 0) (k9 := 6) (v := .ref (a 25)) b (cw_0 cy tE a rw (su (si (su (su (sv (sa (si (si (si S 24 1) 19 p0) 21 7) 13 (fil 1024 0 (ar (si (si (si S 24 1) 19 p0) 21 7) 13))) 2 0 4128768) 11 0 (-1)) 12 0 (-1)) 25 1) 13 978 1)) rfl in_X11 (by decide) wf_X11_52 rfl dX11_gain_104 ?_
        refine z_iload b dX11_gain_107 rfl ?_
        refine z_iload b dX11_gain_109 rfl ?_
        refine z_iconst (v := 2) b dX11_gain_111 (by decide) ?_
        refine z_isub b dX11_gain_112 rfl ?_
        have f13046 : ((p1 - 2) : Int32).toInt = p1.toInt + (-2) := zisub (k := 2) (by decide) (by omega) (by omega)
        refine z_calli b (z_runV (q0 := 25) (As := [.int 0, .int (p1 - 2)]) (st := []) b (c_X8_code_2 (su (si (su (su (sv (sa (si (si (si S 24 1) 19 p0) 21 7) 13 (fil 1024 0 (ar (si (si (si S 24 1) 19 p0) 21 7) 13))) 2 0 4128768) 11 0 (-1)) 12 0 (-1)) 25 1) 13 978 1) (p1 - 2) rfl h_a_10_0 ⟨by omega, by omega⟩) cf_X8_code (cw_25 cy tE a rw (su (si (su (su (sv (sa (si (si (si S 24 1) 19 p0) 21 7) 13 (fil 1024 0 (ar (si (si (si S 24 1) 19 p0) 21 7) 13))) 2 0 4128768) 11 0 (-1)) 12 0 (-1)) 25 1) 13 978 1)) rfl wm_X11_219 wi_X8_code ws_X8_code dX11_gain_113 rfl (Nat.le_of_ble_eq_true rfl) ⟨by decide, by decide, by decide, by decide⟩) (fun r13048 u13049 h13047 => ?_)
        obtain ⟨rfl, rfl⟩ := h13047
        refine z_istore (lv' := [(6, .int (-1)), (5, .int 0), (0, .ref (a 0)), (1, .int 2), (2, .int p0), (3, .int 0), (4, .int p1)]) b dX11_gain_116 (by decide) rfl ?_
        refine z_iload b dX11_gain_118 rfl ?_
        refine z_iconst (v := (-1)) b dX11_gain_120 (by decide) ?_
        refine z_icmp_ne_f (tgt := 129) b dX11_gain_121 (by decide) (by decide) ?_
        refine z_bipush (v := (-100)) b dX11_gain_124 (by decide) ?_
        refine z_goto (tgt := 131) b dX11_gain_126 (by decide) ?_
        exact z_iret (u := (su (si (su (su (sv (sa (si (si (si S 24 1) 19 p0) 21 7) 13 (fil 1024 0 (ar (si (si (si S 24 1) 19 p0) 21 7) 13))) 2 0 4128768) 11 0 (-1)) 12 0 (-1)) 25 1) 13 978 1)) b rfl dX11_gain_131 ⟨rfl, rfl⟩ rfl (by decide) (by decide)
      · exfalso; omega
    · exfalso; omega
  · exfalso; omega

set_option maxHeartbeats 4000000 in
set_option maxRecDepth 100000 in
theorem c_X12_gain_39 {l : Launch} {D : va_G} {cy : Nat → ClassId} {T0 tB tE : Nat} {a : Nat → Nat} (S : GS) (p0 : Int32) (p1 : Int32)  (hr_p0 : 1 ≤ p0.toInt ∧ p0.toInt ≤ 3) (hr_p1 : 8 ≤ p1.toInt ∧ p1.toInt ≤ 2147483647) : Ct l D cy T0 tB tE yX12_gain cX12_gain 9 (some .int) 2 44 0 0 (mw cy a S) [.ref (a 0), .int 2, .int p0, .int 0, .int p1] (QI D (U := GS) (fun r u => (-100) = r ∧ S = u) (mw cy a)) := by
  refine Ct.ofZ RX12 "gain" [(0, .ref (a 0)), (1, .int 2), (2, .int p0), (3, .int 0), (4, .int p1)] rfl rfl rfl rfl (Nat.le_of_ble_eq_true rfl) ?_
  intro p e R s m args below meth c A b
  refine z_iload_n b dX12_gain_0 rfl rfl ?_
  refine z_calli b (z_runS (As := [.int 2]) (st := []) b (c_X12_isOne_5 S ) cf_X12_isOne wm_X12_170 ws_X12_isOne dX12_gain_1 rfl (Nat.le_of_ble_eq_true rfl) ⟨by decide, by decide, by decide, by decide⟩) (fun r13051 u13052 h13050 => ?_)
  obtain ⟨rfl, rfl⟩ := h13050
  refine z_if_eq_f (tgt := 27) b dX12_gain_4 (by decide) (by decide) ?_
  refine z_aload_n b dX12_gain_7 rfl rfl ?_
  refine z_iload_n b dX12_gain_8 rfl rfl ?_
  refine z_iload_n b dX12_gain_9 rfl rfl ?_
  refine z_calli b (z_runV (q0 := 0) (As := [.int p0, .int 0]) (st := []) b (c_X12_canSearch_4 S p0 ⟨by omega, by omega⟩) cf_X12_canSearch (mw_0 cy a S) rfl wm_X12_433 wi_X12_canSearch ws_X12_canSearch dX12_gain_10 rfl (Nat.le_of_ble_eq_true rfl) ⟨by decide, by decide, by decide, by decide⟩) (fun r13054 u13055 h13053 => ?_)
  obtain ⟨rfl, rfl⟩ := h13053
  refine z_if_eq_f (tgt := 27) b dX12_gain_13 (by decide) (by decide) ?_
  refine z_iload b dX12_gain_16 rfl ?_
  refine z_iconst (v := 0) b dX12_gain_18 (by decide) ?_
  refine z_bipush (v := 7) b dX12_gain_19 (by decide) ?_
  refine z_calli b (z_runS (As := [.int p1, .int 0, .int 7]) (st := []) b (c_X12_isIn_14 S p1 ⟨by omega, by omega⟩) cf_X12_isIn wm_X12_1 ws_X12_isIn dX12_gain_21 rfl (Nat.le_of_ble_eq_true rfl) ⟨by decide, by decide, by decide, by decide⟩) (fun r13057 u13058 h13056 => ?_)
  obtain ⟨rfl, rfl⟩ := h13056
  refine z_if_ne_f (tgt := 30) b dX12_gain_24 (by decide) (by decide) ?_
  refine z_bipush (v := (-100)) b dX12_gain_27 (by decide) ?_
  exact z_iret (u := S) b rfl dX12_gain_29 ⟨rfl, rfl⟩ rfl (by decide) (by decide)

set_option maxHeartbeats 4000000 in
set_option maxRecDepth 100000 in
theorem c_X11_gain_40 {l : Launch} {D : va_G} {cy : Nat → ClassId} {T0 tB tE : Nat} {a : Nat → Nat} {rw : Nat → Option Nat} (S : GS) (p0 : Int32) (p1 : Int32) (p2 : Int32)  (hr_p0 : 1 ≤ p0.toInt ∧ p0.toInt ≤ 3) (hr_p1 : 1 ≤ p1.toInt ∧ p1.toInt ≤ 6) (hr_p2 : (-2147483648) ≤ p2.toInt ∧ p2.toInt ≤ (-1)) : Ct l D cy T0 tB tE yX11_gain cX11_gain 7 (some .int) 1 20 0 0 (cw cy tE a rw S) [.ref (a 0), .int 2, .int p0, .int p1, .int p2] (QI D (U := GS) (fun r u => (-100) = r ∧ S = u) (cw cy tE a rw)) := by
  refine Ct.ofZ RX11 "gain" [(0, .ref (a 0)), (1, .int 2), (2, .int p0), (3, .int p1), (4, .int p2)] rfl rfl rfl rfl (Nat.le_of_ble_eq_true rfl) ?_
  intro p e R s m args below meth c A b
  refine z_iload_n b dX11_gain_0 rfl rfl ?_
  refine z_calli b (z_runS (As := [.int 2]) (st := []) b (c_X11_isPerson_5 S ) cf_X11_isPerson wm_X11_69 ws_X11_isPerson dX11_gain_1 rfl (Nat.le_of_ble_eq_true rfl) ⟨by decide, by decide, by decide, by decide⟩) (fun r13060 u13061 h13059 => ?_)
  obtain ⟨rfl, rfl⟩ := h13059
  refine z_if_eq_f (tgt := 26) b dX11_gain_4 (by decide) (by decide) ?_
  refine z_iload_n b dX11_gain_7 rfl rfl ?_
  refine z_calli b (z_runS (As := [.int p0]) (st := []) b (c_X11_areLaws_3 S p0 ⟨by omega, by omega⟩) cf_X11_areLaws wm_X11_181 ws_X11_areLaws dX11_gain_8 rfl (Nat.le_of_ble_eq_true rfl) ⟨by decide, by decide, by decide, by decide⟩) (fun r13063 u13064 h13062 => ?_)
  obtain ⟨rfl, rfl⟩ := h13062
  refine z_if_eq_f (tgt := 26) b dX11_gain_11 (by decide) (by decide) ?_
  refine z_iload_n b dX11_gain_14 rfl rfl ?_
  refine z_calli b (z_runS (As := [.int p1]) (st := []) b (c_X11_isDepth_3 S p1 ⟨by omega, by omega⟩) cf_X11_isDepth wm_X11_203 ws_X11_isDepth dX11_gain_15 rfl (Nat.le_of_ble_eq_true rfl) ⟨by decide, by decide, by decide, by decide⟩) (fun r13066 u13067 h13065 => ?_)
  obtain ⟨rfl, rfl⟩ := h13065
  refine z_if_eq_f (tgt := 26) b dX11_gain_18 (by decide) (by decide) ?_
  refine z_iload b dX11_gain_21 rfl ?_
  refine y_if_ge (tgt := 29) (xl := p2.toInt) b rfl dX11_gain_23 (by decide) (fun c13068 => ?_) (fun c13068 => ?_)
  · exfalso; omega
  · refine z_bipush (v := (-100)) b dX11_gain_26 (by decide) ?_
    exact z_iret (u := S) b rfl dX11_gain_28 ⟨rfl, rfl⟩ rfl (by decide) (by decide)

set_option maxHeartbeats 4000000 in
set_option maxRecDepth 100000 in
theorem c_X12_gain_40 {l : Launch} {D : va_G} {cy : Nat → ClassId} {T0 tB tE : Nat} {a : Nat → Nat} (S : GS) (p0 : Int32) (p1 : Int32) (p2 : Int32)  (hr_p0 : 1 ≤ p0.toInt ∧ p0.toInt ≤ 3) (hr_p1 : 1 ≤ p1.toInt ∧ p1.toInt ≤ 6) (hr_p2 : (-2147483648) ≤ p2.toInt ∧ p2.toInt ≤ (-1)) : Ct l D cy T0 tB tE yX12_gain cX12_gain 9 (some .int) 2 44 0 0 (mw cy a S) [.ref (a 0), .int 2, .int p0, .int p1, .int p2] (QI D (U := GS) (fun r u => (-100) = r ∧ S = u) (mw cy a)) := by
  refine Ct.ofZ RX12 "gain" [(0, .ref (a 0)), (1, .int 2), (2, .int p0), (3, .int p1), (4, .int p2)] rfl rfl rfl rfl (Nat.le_of_ble_eq_true rfl) ?_
  intro p e R s m args below meth c A b
  refine z_iload_n b dX12_gain_0 rfl rfl ?_
  refine z_calli b (z_runS (As := [.int 2]) (st := []) b (c_X12_isOne_5 S ) cf_X12_isOne wm_X12_170 ws_X12_isOne dX12_gain_1 rfl (Nat.le_of_ble_eq_true rfl) ⟨by decide, by decide, by decide, by decide⟩) (fun r13070 u13071 h13069 => ?_)
  obtain ⟨rfl, rfl⟩ := h13069
  refine z_if_eq_f (tgt := 27) b dX12_gain_4 (by decide) (by decide) ?_
  refine z_aload_n b dX12_gain_7 rfl rfl ?_
  refine z_iload_n b dX12_gain_8 rfl rfl ?_
  refine z_iload_n b dX12_gain_9 rfl rfl ?_
  refine z_calli b (z_runV (q0 := 0) (As := [.int p0, .int p1]) (st := []) b (c_X12_canSearch_5 S p0 p1 ⟨by omega, by omega⟩ ⟨by omega, by omega⟩) cf_X12_canSearch (mw_0 cy a S) rfl wm_X12_433 wi_X12_canSearch ws_X12_canSearch dX12_gain_10 rfl (Nat.le_of_ble_eq_true rfl) ⟨by decide, by decide, by decide, by decide⟩) (fun r13073 u13074 h13072 => ?_)
  obtain ⟨rfl, rfl⟩ := h13072
  refine z_if_eq_f (tgt := 27) b dX12_gain_13 (by decide) (by decide) ?_
  refine z_iload b dX12_gain_16 rfl ?_
  refine z_iconst (v := 0) b dX12_gain_18 (by decide) ?_
  refine z_bipush (v := 7) b dX12_gain_19 (by decide) ?_
  refine z_calli b (z_runS (As := [.int p2, .int 0, .int 7]) (st := []) b (c_X12_isIn_12 S p2 ⟨by omega, by omega⟩) cf_X12_isIn wm_X12_1 ws_X12_isIn dX12_gain_21 rfl (Nat.le_of_ble_eq_true rfl) ⟨by decide, by decide, by decide, by decide⟩) (fun r13076 u13077 h13075 => ?_)
  obtain ⟨rfl, rfl⟩ := h13075
  refine z_if_ne_f (tgt := 30) b dX12_gain_24 (by decide) (by decide) ?_
  refine z_bipush (v := (-100)) b dX12_gain_27 (by decide) ?_
  exact z_iret (u := S) b rfl dX12_gain_29 ⟨rfl, rfl⟩ rfl (by decide) (by decide)

set_option maxHeartbeats 4000000 in
set_option maxRecDepth 100000 in
theorem c_X11_gain_41 {l : Launch} {D : va_G} {cy : Nat → ClassId} {T0 tB tE : Nat} {a : Nat → Nat} {rw : Nat → Option Nat} (S : GS) (p0 : Int32) (p1 : Int32) (h_i_19 : fi S 19 = 0) (h_i_24 : fi S 24 = 0) (h_i_22 : fi S 22 = 0) (h_i_18 : fi S 18 = 0) (h_i_25 : fi S 25 = 0) (h_i_23 : fi S 23 = 0) (h_i_26 : fi S 26 = 0) (h_a_4_50 : ar S 4 50 = 0) (h_a_4_40 : ar S 4 40 = 3) (h_a_4_41 : ar S 4 41 = 3) (h_a_4_42 : ar S 4 42 = 3) (h_a_4_0 : ar S 4 0 = 0) (h_a_4_11 : ar S 4 11 = 0) (h_a_4_21 : ar S 4 21 = 0) (h_a_4_31 : ar S 4 31 = 0) (h_a_4_12 : ar S 4 12 = 0) (h_a_4_22 : ar S 4 22 = 0) (h_a_4_32 : ar S 4 32 = 0) (h_a_4_1 : ar S 4 1 = 0) (h_a_4_13 : ar S 4 13 = 0) (h_a_4_23 : ar S 4 23 = 0) (h_a_4_33 : ar S 4 33 = 0) (h_a_4_15 : ar S 4 15 = 0) (h_a_4_25 : ar S 4 25 = 0) (h_a_4_35 : ar S 4 35 = 0) (h_a_4_2 : ar S 4 2 = 0) (h_a_4_16 : ar S 4 16 = 0) (h_a_4_26 : ar S 4 26 = 0) (h_a_4_36 : ar S 4 36 = 0) (h_a_4_17 : ar S 4 17 = 0) (h_a_4_27 : ar S 4 27 = 0) (h_a_4_37 : ar S 4 37 = 0) (h_a_10_0 : ar S 10 0 = 0) (h_a_9_50 : ar S 9 50 = 0) (h_a_9_40 : ar S 9 40 = 3) (h_a_9_41 : ar S 9 41 = 3) (h_a_9_42 : ar S 9 42 = 3) (h_a_9_0 : ar S 9 0 = 0) (h_a_9_11 : ar S 9 11 = 0) (h_a_9_21 : ar S 9 21 = 0) (h_a_9_31 : ar S 9 31 = 0) (h_a_9_12 : ar S 9 12 = 0) (h_a_9_22 : ar S 9 22 = 0) (h_a_9_32 : ar S 9 32 = 0) (h_a_9_1 : ar S 9 1 = 0) (h_a_9_13 : ar S 9 13 = 0) (h_a_9_23 : ar S 9 23 = 0) (h_a_9_33 : ar S 9 33 = 0) (h_a_9_15 : ar S 9 15 = 0) (h_a_9_25 : ar S 9 25 = 0) (h_a_9_35 : ar S 9 35 = 0) (h_a_9_2 : ar S 9 2 = 0) (h_a_9_16 : ar S 9 16 = 0) (h_a_9_26 : ar S 9 26 = 0) (h_a_9_36 : ar S 9 36 = 0) (h_a_9_17 : ar S 9 17 = 0) (h_a_9_27 : ar S 9 27 = 0) (h_a_9_37 : ar S 9 37 = 0) (hr_p0 : 1 ≤ p0.toInt ∧ p0.toInt ≤ 3) (hr_p1 : 1 ≤ p1.toInt ∧ p1.toInt ≤ 6) : Ct l D cy T0 tB tE yX11_gain cX11_gain 7 (some .int) 5 117 0 0 (cw cy tE a rw S) [.ref (a 0), .int 2, .int p0, .int p1, .int 0] (QI D (U := GS) (fun r u => (((((0 < ((fi (su (si (su (su (sv (sa (si (si (si (si S 24 1) 19 p0) 20 p1) 21 7) 13 (fil 1024 0 (ar (si (si (si (si S 24 1) 19 p0) 20 p1) 21 7) 13))) 2 0 4128768) 11 0 (-1)) 12 0 (-1)) 25 1) 13 978 1) 20) : Int32).toInt)))) ∧ 0 = r ∧ (si (su (si (su (su (sv (sa (si (si (si (si S 24 1) 19 p0) 20 p1) 21 7) 13 (fil 1024 0 (ar (si (si (si (si S 24 1) 19 p0) 20 p1) 21 7) 13))) 2 0 4128768) 11 0 (-1)) 12 0 (-1)) 25 1) 13 978 1) 23 1) = u) ∨ (((((((fi (su (si (su (su (sv (sa (si (si (si (si S 24 1) 19 p0) 20 p1) 21 7) 13 (fil 1024 0 (ar (si (si (si (si S 24 1) 19 p0) 20 p1) 21 7) 13))) 2 0 4128768) 11 0 (-1)) 12 0 (-1)) 25 1) 13 978 1) 20) : Int32).toInt ≤ 0)))) ∧ 0 = r ∧ (su (si (su (su (sv (sa (si (si (si (si S 24 1) 19 p0) 20 p1) 21 7) 13 (fil 1024 0 (ar (si (si (si (si S 24 1) 19 p0) 20 p1) 21 7) 13))) 2 0 4128768) 11 0 (-1)) 12 0 (-1)) 25 1) 13 978 1) = u)) (cw cy tE a rw)) := by
  refine Ct.ofZ RX11 "gain" [(0, .ref (a 0)), (1, .int 2), (2, .int p0), (3, .int p1), (4, .int 0)] rfl rfl rfl rfl (Nat.le_of_ble_eq_true rfl) ?_
  intro p e R s m args below meth c A b
  refine z_iload_n b dX11_gain_0 rfl rfl ?_
  refine z_calli b (z_runS (As := [.int 2]) (st := []) b (c_X11_isPerson_5 S ) cf_X11_isPerson wm_X11_69 ws_X11_isPerson dX11_gain_1 rfl (Nat.le_of_ble_eq_true rfl) ⟨by decide, by decide, by decide, by decide⟩) (fun r13079 u13080 h13078 => ?_)
  obtain ⟨rfl, rfl⟩ := h13078
  refine z_if_eq_f (tgt := 26) b dX11_gain_4 (by decide) (by decide) ?_
  refine z_iload_n b dX11_gain_7 rfl rfl ?_
  refine z_calli b (z_runS (As := [.int p0]) (st := []) b (c_X11_areLaws_3 S p0 ⟨by omega, by omega⟩) cf_X11_areLaws wm_X11_181 ws_X11_areLaws dX11_gain_8 rfl (Nat.le_of_ble_eq_true rfl) ⟨by decide, by decide, by decide, by decide⟩) (fun r13082 u13083 h13081 => ?_)
  obtain ⟨rfl, rfl⟩ := h13081
  refine z_if_eq_f (tgt := 26) b dX11_gain_11 (by decide) (by decide) ?_
  refine z_iload_n b dX11_gain_14 rfl rfl ?_
  refine z_calli b (z_runS (As := [.int p1]) (st := []) b (c_X11_isDepth_3 S p1 ⟨by omega, by omega⟩) cf_X11_isDepth wm_X11_203 ws_X11_isDepth dX11_gain_15 rfl (Nat.le_of_ble_eq_true rfl) ⟨by decide, by decide, by decide, by decide⟩) (fun r13085 u13086 h13084 => ?_)
  obtain ⟨rfl, rfl⟩ := h13084
  refine z_if_eq_f (tgt := 26) b dX11_gain_18 (by decide) (by decide) ?_
  refine z_iload b dX11_gain_21 rfl ?_
  refine z_if_ge_t (tgt := 29) b dX11_gain_23 (by decide) (by decide) ?_
  refine z_aload_n b dX11_gain_29 rfl rfl ?_
  refine z_get (q0 := 0) (k9 := 6) (v := .ref (a 25)) b (cw_0 cy tE a rw S) rfl in_X11 (by decide) wf_X11_52 rfl dX11_gain_30 ?_
  refine z_iload_n b dX11_gain_33 rfl rfl ?_
  refine z_iload_n b dX11_gain_34 rfl rfl ?_
  refine z_bipush (v := 7) b dX11_gain_35 (by decide) ?_
  refine z_iconst (v := 0) b dX11_gain_37 (by decide) ?_
  refine z_callv b (z_runV (q0 := 25) (As := [.int p0, .int p1, .int 7, .int 0]) (st := []) b (c_X8_begin_2 S p0 p1 h_i_19 h_i_24 h_i_22 h_i_18 h_i_25 h_i_23 h_i_26 h_a_4_50 h_a_4_40 h_a_4_41 h_a_4_42 h_a_4_0 h_a_4_11 h_a_4_21 h_a_4_31 h_a_4_12 h_a_4_22 h_a_4_32 h_a_4_1 h_a_4_13 h_a_4_23 h_a_4_33 h_a_4_15 h_a_4_25 h_a_4_35 h_a_4_2 h_a_4_16 h_a_4_26 h_a_4_36 h_a_4_17 h_a_4_27 h_a_4_37 h_a_10_0 ⟨by omega, by omega⟩ ⟨by omega, by omega⟩) cf_X8_begin (cw_25 cy tE a rw S) rfl wm_X11_206 wi_X8_begin ws_X8_begin dX11_gain_38 rfl (Nat.le_of_ble_eq_true rfl) ⟨by decide, by decide, by decide, by decide⟩) (fun u13089 h13087 => ?_)
  obtain rfl := h13087
  refine z_aload_n b dX11_gain_41 rfl rfl ?_
  refine z_get (q0 := 0) (k9 := 6) (v := .ref (a 25)) b (cw_0 cy tE a rw (su (si (su (su (sv (sa (si (si (si (si S 24 1) 19 p0) 20 p1) 21 7) 13 (fil 1024 0 (ar (si (si (si (si S 24 1) 19 p0) 20 p1) 21 7) 13))) 2 0 4128768) 11 0 (-1)) 12 0 (-1)) 25 1) 13 978 1)) rfl in_X11 (by decide) wf_X11_52 rfl dX11_gain_42 ?_
  refine z_callv b (z_runV (q0 := 25) (As := []) (st := []) b (c_X8_finish_2 (su (si (su (su (sv (sa (si (si (si (si S 24 1) 19 p0) 20 p1) 21 7) 13 (fil 1024 0 (ar (si (si (si (si S 24 1) 19 p0) 20 p1) 21 7) 13))) 2 0 4128768) 11 0 (-1)) 12 0 (-1)) 25 1) 13 978 1) h_i_26 h_i_23 rfl h_a_10_0 rfl h_a_9_50 h_a_9_40 h_a_9_41 h_a_9_42 h_a_9_0 h_a_9_11 h_a_9_21 h_a_9_31 h_a_9_12 h_a_9_22 h_a_9_32 h_a_9_1 h_a_9_13 h_a_9_23 h_a_9_33 h_a_9_15 h_a_9_25 h_a_9_35 h_a_9_2 h_a_9_16 h_a_9_26 h_a_9_36 h_a_9_17 h_a_9_27 h_a_9_37 h_i_18) cf_X8_finish (cw_25 cy tE a rw (su (si (su (su (sv (sa (si (si (si (si S 24 1) 19 p0) 20 p1) 21 7) 13 (fil 1024 0 (ar (si (si (si (si S 24 1) 19 p0) 20 p1) 21 7) 13))) 2 0 4128768) 11 0 (-1)) 12 0 (-1)) 25 1) 13 978 1)) rfl wm_X11_232 wi_X8_finish ws_X8_finish dX11_gain_45 rfl (Nat.le_of_ble_eq_true rfl) ⟨by decide, by decide, by decide, by decide⟩) (fun u13092 h13090 => ?_)
  rcases h13090 with ⟨c13093, rfl⟩ | ⟨c13094, rfl⟩
  · refine z_aload_n b dX11_gain_48 rfl rfl ?_
    refine z_get (q0 := 0) (k9 := 6) (v := .ref (a 25)) b (cw_0 cy tE a rw (si (su (si (su (su (sv (sa (si (si (si (si S 24 1) 19 p0) 20 p1) 21 7) 13 (fil 1024 0 (ar (si (si (si (si S 24 1) 19 p0) 20 p1) 21 7) 13))) 2 0 4128768) 11 0 (-1)) 12 0 (-1)) 25 1) 13 978 1) 23 1)) rfl in_X11 (by decide) wf_X11_52 rfl dX11_gain_49 ?_
    refine z_get (q0 := 25) (k9 := 18) (v := .int (fi (si (su (si (su (su (sv (sa (si (si (si (si S 24 1) 19 p0) 20 p1) 21 7) 13 (fil 1024 0 (ar (si (si (si (si S 24 1) 19 p0) 20 p1) 21 7) 13))) 2 0 4128768) 11 0 (-1)) 12 0 (-1)) 25 1) 13 978 1) 23 1) 26)) b (cw_25 cy tE a rw (si (su (si (su (su (sv (sa (si (si (si (si S 24 1) 19 p0) 20 p1) 21 7) 13 (fil 1024 0 (ar (si (si (si (si S 24 1) 19 p0) 20 p1) 21 7) 13))) 2 0 4128768) 11 0 (-1)) 12 0 (-1)) 25 1) 13 978 1) 23 1)) rfl in_X8 (by decide) wf_X11_214 rfl dX11_gain_52 ?_
    refine z_eqi h_i_26 ?_
    refine z_if_eq_t (tgt := 61) b dX11_gain_55 (by decide) (by decide) ?_
    refine z_aload_n b dX11_gain_61 rfl rfl ?_
    refine z_get (q0 := 0) (k9 := 6) (v := .ref (a 25)) b (cw_0 cy tE a rw (si (su (si (su (su (sv (sa (si (si (si (si S 24 1) 19 p0) 20 p1) 21 7) 13 (fil 1024 0 (ar (si (si (si (si S 24 1) 19 p0) 20 p1) 21 7) 13))) 2 0 4128768) 11 0 (-1)) 12 0 (-1)) 25 1) 13 978 1) 23 1)) rfl in_X11 (by decide) wf_X11_52 rfl dX11_gain_62 ?_
    refine z_iload_n b dX11_gain_65 rfl rfl ?_
    refine z_calli b (z_runV (q0 := 25) (As := [.int 2]) (st := []) b (c_X8_richest_3 (si (su (si (su (su (sv (sa (si (si (si (si S 24 1) 19 p0) 20 p1) 21 7) 13 (fil 1024 0 (ar (si (si (si (si S 24 1) 19 p0) 20 p1) 21 7) 13))) 2 0 4128768) 11 0 (-1)) 12 0 (-1)) 25 1) 13 978 1) 23 1) rfl rfl h_a_9_50 h_a_9_40 h_a_9_41 h_a_9_42 h_a_9_0 h_a_9_11 h_a_9_21 h_a_9_31 h_a_9_12 h_a_9_22 h_a_9_32 h_a_9_1 h_a_9_13 h_a_9_23 h_a_9_33 h_a_9_15 h_a_9_25 h_a_9_35 h_a_9_2 h_a_9_16 h_a_9_26 h_a_9_36 h_a_9_17 h_a_9_27 h_a_9_37) cf_X8_richest (cw_25 cy tE a rw (si (su (si (su (su (sv (sa (si (si (si (si S 24 1) 19 p0) 20 p1) 21 7) 13 (fil 1024 0 (ar (si (si (si (si S 24 1) 19 p0) 20 p1) 21 7) 13))) 2 0 4128768) 11 0 (-1)) 12 0 (-1)) 25 1) 13 978 1) 23 1)) rfl wm_X11_238 wi_X8_richest ws_X8_richest dX11_gain_66 rfl (Nat.le_of_ble_eq_true rfl) ⟨by decide, by decide, by decide, by decide⟩) (fun r13096 u13097 h13095 => ?_)
    obtain ⟨rfl, rfl⟩ := h13095
    refine z_istore (lv' := [(5, .int 0), (0, .ref (a 0)), (1, .int 2), (2, .int p0), (3, .int p1), (4, .int 0)]) b dX11_gain_69 (by decide) rfl ?_
    refine z_iload b dX11_gain_71 rfl ?_
    refine z_if_ne_f (tgt := 87) b dX11_gain_73 (by decide) (by decide) ?_
    refine z_aload_n b dX11_gain_76 rfl rfl ?_
    refine z_get (q0 := 0) (k9 := 6) (v := .ref (a 25)) b (cw_0 cy tE a rw (si (su (si (su (su (sv (sa (si (si (si (si S 24 1) 19 p0) 20 p1) 21 7) 13 (fil 1024 0 (ar (si (si (si (si S 24 1) 19 p0) 20 p1) 21 7) 13))) 2 0 4128768) 11 0 (-1)) 12 0 (-1)) 25 1) 13 978 1) 23 1)) rfl in_X11 (by decide) wf_X11_52 rfl dX11_gain_77 ?_
    refine z_iload b dX11_gain_80 rfl ?_
    refine z_iload_n b dX11_gain_82 rfl rfl ?_
    refine z_calli b (z_runV (q0 := 25) (As := [.int 0, .int 2]) (st := []) b (c_X8_wealth_3 (si (su (si (su (su (sv (sa (si (si (si (si S 24 1) 19 p0) 20 p1) 21 7) 13 (fil 1024 0 (ar (si (si (si (si S 24 1) 19 p0) 20 p1) 21 7) 13))) 2 0 4128768) 11 0 (-1)) 12 0 (-1)) 25 1) 13 978 1) 23 1) rfl rfl h_a_9_50 h_a_9_40 h_a_9_41 h_a_9_42 h_a_9_0 h_a_9_11 h_a_9_21 h_a_9_31 h_a_9_12 h_a_9_22 h_a_9_32 h_a_9_1 h_a_9_13 h_a_9_23 h_a_9_33 h_a_9_15 h_a_9_25 h_a_9_35 h_a_9_2 h_a_9_16 h_a_9_26 h_a_9_36 h_a_9_17 h_a_9_27 h_a_9_37) cf_X8_wealth (cw_25 cy tE a rw (si (su (si (su (su (sv (sa (si (si (si (si S 24 1) 19 p0) 20 p1) 21 7) 13 (fil 1024 0 (ar (si (si (si (si S 24 1) 19 p0) 20 p1) 21 7) 13))) 2 0 4128768) 11 0 (-1)) 12 0 (-1)) 25 1) 13 978 1) 23 1)) rfl wm_X11_241 wi_X8_wealth ws_X8_wealth dX11_gain_83 rfl (Nat.le_of_ble_eq_true rfl) ⟨by decide, by decide, by decide, by decide⟩) (fun r13099 u13100 h13098 => ?_)
    obtain ⟨rfl, rfl⟩ := h13098
    exact z_iret (u := (si (su (si (su (su (sv (sa (si (si (si (si S 24 1) 19 p0) 20 p1) 21 7) 13 (fil 1024 0 (ar (si (si (si (si S 24 1) 19 p0) 20 p1) 21 7) 13))) 2 0 4128768) 11 0 (-1)) 12 0 (-1)) 25 1) 13 978 1) 23 1)) b rfl dX11_gain_86 (Or.inl ⟨c13093, rfl, rfl⟩) rfl (by decide) (by decide)
  · refine z_aload_n b dX11_gain_48 rfl rfl ?_
    refine z_get (q0 := 0) (k9 := 6) (v := .ref (a 25)) b (cw_0 cy tE a rw (su (si (su (su (sv (sa (si (si (si (si S 24 1) 19 p0) 20 p1) 21 7) 13 (fil 1024 0 (ar (si (si (si (si S 24 1) 19 p0) 20 p1) 21 7) 13))) 2 0 4128768) 11 0 (-1)) 12 0 (-1)) 25 1) 13 978 1)) rfl in_X11 (by decide) wf_X11_52 rfl dX11_gain_49 ?_
    refine z_get (q0 := 25) (k9 := 18) (v := .int (fi (su (si (su (su (sv (sa (si (si (si (si S 24 1) 19 p0) 20 p1) 21 7) 13 (fil 1024 0 (ar (si (si (si (si S 24 1) 19 p0) 20 p1) 21 7) 13))) 2 0 4128768) 11 0 (-1)) 12 0 (-1)) 25 1) 13 978 1) 26)) b (cw_25 cy tE a rw (su (si (su (su (sv (sa (si (si (si (si S 24 1) 19 p0) 20 p1) 21 7) 13 (fil 1024 0 (ar (si (si (si (si S 24 1) 19 p0) 20 p1) 21 7) 13))) 2 0 4128768) 11 0 (-1)) 12 0 (-1)) 25 1) 13 978 1)) rfl in_X8 (by decide) wf_X11_214 rfl dX11_gain_52 ?_
    refine z_eqi h_i_26 ?_
    refine z_if_eq_t (tgt := 61) b dX11_gain_55 (by decide) (by decide) ?_
    refine z_aload_n b dX11_gain_61 rfl rfl ?_
    refine z_get (q0 := 0) (k9 := 6) (v := .ref (a 25)) b (cw_0 cy tE a rw (su (si (su (su (sv (sa (si (si (si (si S 24 1) 19 p0) 20 p1) 21 7) 13 (fil 1024 0 (ar (si (si (si (si S 24 1) 19 p0) 20 p1) 21 7) 13))) 2 0 4128768) 11 0 (-1)) 12 0 (-1)) 25 1) 13 978 1)) rfl in_X11 (by decide) wf_X11_52 rfl dX11_gain_62 ?_
    refine z_iload_n b dX11_gain_65 rfl rfl ?_
    refine z_calli b (z_runV (q0 := 25) (As := [.int 2]) (st := []) b (c_X8_richest_3 (su (si (su (su (sv (sa (si (si (si (si S 24 1) 19 p0) 20 p1) 21 7) 13 (fil 1024 0 (ar (si (si (si (si S 24 1) 19 p0) 20 p1) 21 7) 13))) 2 0 4128768) 11 0 (-1)) 12 0 (-1)) 25 1) 13 978 1) rfl rfl h_a_9_50 h_a_9_40 h_a_9_41 h_a_9_42 h_a_9_0 h_a_9_11 h_a_9_21 h_a_9_31 h_a_9_12 h_a_9_22 h_a_9_32 h_a_9_1 h_a_9_13 h_a_9_23 h_a_9_33 h_a_9_15 h_a_9_25 h_a_9_35 h_a_9_2 h_a_9_16 h_a_9_26 h_a_9_36 h_a_9_17 h_a_9_27 h_a_9_37) cf_X8_richest (cw_25 cy tE a rw (su (si (su (su (sv (sa (si (si (si (si S 24 1) 19 p0) 20 p1) 21 7) 13 (fil 1024 0 (ar (si (si (si (si S 24 1) 19 p0) 20 p1) 21 7) 13))) 2 0 4128768) 11 0 (-1)) 12 0 (-1)) 25 1) 13 978 1)) rfl wm_X11_238 wi_X8_richest ws_X8_richest dX11_gain_66 rfl (Nat.le_of_ble_eq_true rfl) ⟨by decide, by decide, by decide, by decide⟩) (fun r13102 u13103 h13101 => ?_)
    obtain ⟨rfl, rfl⟩ := h13101
    refine z_istore (lv' := [(5, .int 0), (0, .ref (a 0)), (1, .int 2), (2, .int p0), (3, .int p1), (4, .int 0)]) b dX11_gain_69 (by decide) rfl ?_
    refine z_iload b dX11_gain_71 rfl ?_
    refine z_if_ne_f (tgt := 87) b dX11_gain_73 (by decide) (by decide) ?_
    refine z_aload_n b dX11_gain_76 rfl rfl ?_
    refine z_get (q0 := 0) (k9 := 6) (v := .ref (a 25)) b (cw_0 cy tE a rw (su (si (su (su (sv (sa (si (si (si (si S 24 1) 19 p0) 20 p1) 21 7) 13 (fil 1024 0 (ar (si (si (si (si S 24 1) 19 p0) 20 p1) 21 7) 13))) 2 0 4128768) 11 0 (-1)) 12 0 (-1)) 25 1) 13 978 1)) rfl in_X11 (by decide) wf_X11_52 rfl dX11_gain_77 ?_
    refine z_iload b dX11_gain_80 rfl ?_
    refine z_iload_n b dX11_gain_82 rfl rfl ?_
    refine z_calli b (z_runV (q0 := 25) (As := [.int 0, .int 2]) (st := []) b (c_X8_wealth_3 (su (si (su (su (sv (sa (si (si (si (si S 24 1) 19 p0) 20 p1) 21 7) 13 (fil 1024 0 (ar (si (si (si (si S 24 1) 19 p0) 20 p1) 21 7) 13))) 2 0 4128768) 11 0 (-1)) 12 0 (-1)) 25 1) 13 978 1) rfl rfl h_a_9_50 h_a_9_40 h_a_9_41 h_a_9_42 h_a_9_0 h_a_9_11 h_a_9_21 h_a_9_31 h_a_9_12 h_a_9_22 h_a_9_32 h_a_9_1 h_a_9_13 h_a_9_23 h_a_9_33 h_a_9_15 h_a_9_25 h_a_9_35 h_a_9_2 h_a_9_16 h_a_9_26 h_a_9_36 h_a_9_17 h_a_9_27 h_a_9_37) cf_X8_wealth (cw_25 cy tE a rw (su (si (su (su (sv (sa (si (si (si (si S 24 1) 19 p0) 20 p1) 21 7) 13 (fil 1024 0 (ar (si (si (si (si S 24 1) 19 p0) 20 p1) 21 7) 13))) 2 0 4128768) 11 0 (-1)) 12 0 (-1)) 25 1) 13 978 1)) rfl wm_X11_241 wi_X8_wealth ws_X8_wealth dX11_gain_83 rfl (Nat.le_of_ble_eq_true rfl) ⟨by decide, by decide, by decide, by decide⟩) (fun r13105 u13106 h13104 => ?_)
    obtain ⟨rfl, rfl⟩ := h13104
    exact z_iret (u := (su (si (su (su (sv (sa (si (si (si (si S 24 1) 19 p0) 20 p1) 21 7) 13 (fil 1024 0 (ar (si (si (si (si S 24 1) 19 p0) 20 p1) 21 7) 13))) 2 0 4128768) 11 0 (-1)) 12 0 (-1)) 25 1) 13 978 1)) b rfl dX11_gain_86 (Or.inr ⟨c13094, rfl, rfl⟩) rfl (by decide) (by decide)

set_option maxHeartbeats 4000000 in
set_option maxRecDepth 100000 in
theorem c_X12_gain_41 {l : Launch} {D : va_G} {cy : Nat → ClassId} {T0 tB tE : Nat} {a : Nat → Nat} (S : GS) (p0 : Int32) (p1 : Int32) (h_i_21 : fi S 21 = 0) (h_i_23 : fi S 23 = 0) (h_l_0 : fl S 0 = 1649317774848) (h_a_29_992 : ar S 29 992 = (-1)) (h_a_28_0 : ar S 28 0 = 0) (h_a_7_0 : ar S 7 0 = 0) (h_a_7_1 : ar S 7 1 = 0) (h_a_4_7 : ar S 4 7 = 0) (h_a_1_7 : ar S 1 7 = 0) (h_a_4_6 : ar S 4 6 = 0) (h_a_1_6 : ar S 1 6 = 0) (h_a_3_6 : ar S 3 6 = 0) (h_a_3_2 : ar S 3 2 = 0) (h_a_2_2 : ar S 2 2 = 3) (h_a_0_2 : ar S 0 2 = 0) (h_a_4_3 : ar S 4 3 = 0) (h_a_1_3 : ar S 1 3 = 0) (h_a_4_5 : ar S 4 5 = 0) (h_a_1_5 : ar S 1 5 = 0) (h_a_3_5 : ar S 3 5 = 0) (h_a_3_7 : ar S 3 7 = 0) (h_a_2_1 : ar S 2 1 = 3) (h_a_0_1 : ar S 0 1 = 0) (h_a_4_2 : ar S 4 2 = 0) (h_a_1_2 : ar S 1 2 = 0) (h_a_4_1 : ar S 4 1 = 0) (h_a_1_1 : ar S 1 1 = 0) (h_a_3_1 : ar S 3 1 = 0) (h_a_3_3 : ar S 3 3 = 0) (h_a_2_0 : ar S 2 0 = 3) (h_a_0_0 : ar S 0 0 = 0) (h_i_0 : fi S 0 = 0) (hr_p0 : 1 ≤ p0.toInt ∧ p0.toInt ≤ 3) (hr_p1 : 1 ≤ p1.toInt ∧ p1.toInt ≤ 6) : Ct l D cy T0 tB tE yX12_gain cX12_gain 9 (some .int) 4 99 0 0 (mw cy a S) [.ref (a 0), .int 2, .int p0, .int p1, .int 0] (QI D (U := GS) (fun r u => 0 = r ∧ (si (su (su (sv (su (su (si S 22 (-1)) 29 992 0) 30 0 992) 0 0 1649317774848) 26 0 (-1)) 27 0 (-1)) 21 1) = u) (mw cy a)) := by
  refine Ct.ofZ RX12 "gain" [(0, .ref (a 0)), (1, .int 2), (2, .int p0), (3, .int p1), (4, .int 0)] rfl rfl rfl rfl (Nat.le_of_ble_eq_true rfl) ?_
  intro p e R s m args below meth c A b
  refine z_iload_n b dX12_gain_0 rfl rfl ?_
  refine z_calli b (z_runS (As := [.int 2]) (st := []) b (c_X12_isOne_5 S ) cf_X12_isOne wm_X12_170 ws_X12_isOne dX12_gain_1 rfl (Nat.le_of_ble_eq_true rfl) ⟨by decide, by decide, by decide, by decide⟩) (fun r13108 u13109 h13107 => ?_)
  obtain ⟨rfl, rfl⟩ := h13107
  refine z_if_eq_f (tgt := 27) b dX12_gain_4 (by decide) (by decide) ?_
  refine z_aload_n b dX12_gain_7 rfl rfl ?_
  refine z_iload_n b dX12_gain_8 rfl rfl ?_
  refine z_iload_n b dX12_gain_9 rfl rfl ?_
  refine z_calli b (z_runV (q0 := 0) (As := [.int p0, .int p1]) (st := []) b (c_X12_canSearch_5 S p0 p1 ⟨by omega, by omega⟩ ⟨by omega, by omega⟩) cf_X12_canSearch (mw_0 cy a S) rfl wm_X12_433 wi_X12_canSearch ws_X12_canSearch dX12_gain_10 rfl (Nat.le_of_ble_eq_true rfl) ⟨by decide, by decide, by decide, by decide⟩) (fun r13111 u13112 h13110 => ?_)
  obtain ⟨rfl, rfl⟩ := h13110
  refine z_if_eq_f (tgt := 27) b dX12_gain_13 (by decide) (by decide) ?_
  refine z_iload b dX12_gain_16 rfl ?_
  refine z_iconst (v := 0) b dX12_gain_18 (by decide) ?_
  refine z_bipush (v := 7) b dX12_gain_19 (by decide) ?_
  refine z_calli b (z_runS (As := [.int 0, .int 0, .int 7]) (st := []) b (c_X12_isIn_59 S ) cf_X12_isIn wm_X12_1 ws_X12_isIn dX12_gain_21 rfl (Nat.le_of_ble_eq_true rfl) ⟨by decide, by decide, by decide, by decide⟩) (fun r13114 u13115 h13113 => ?_)
  obtain ⟨rfl, rfl⟩ := h13113
  refine z_if_ne_t (tgt := 30) b dX12_gain_24 (by decide) (by decide) ?_
  refine z_aload_n b dX12_gain_30 rfl rfl ?_
  refine z_iconst (v := (-1)) b dX12_gain_31 (by decide) ?_
  refine z_iload_n b dX12_gain_32 rfl rfl ?_
  refine z_iload_n b dX12_gain_33 rfl rfl ?_
  refine z_bipush (v := 7) b dX12_gain_34 (by decide) ?_
  refine z_iconst (v := 0) b dX12_gain_36 (by decide) ?_
  refine z_callv b (z_runV (q0 := 0) (As := [.int (-1), .int p0, .int p1, .int 7, .int 0]) (st := []) b (c_X12_searches_2 S p0 p1 h_i_21 h_i_23 h_l_0 h_a_29_992 h_a_28_0 h_a_7_0 h_a_7_1 ⟨by omega, by omega⟩ ⟨by omega, by omega⟩) cf_X12_searches (mw_0 cy a S) rfl wm_X12_436 wi_X12_searches ws_X12_searches dX12_gain_37 rfl (Nat.le_of_ble_eq_true rfl) ⟨by decide, by decide, by decide, by decide⟩) (fun u13118 h13116 => ?_)
  obtain rfl := h13116
  refine z_aload_n b dX12_gain_40 rfl rfl ?_
  refine z_get (q0 := 0) (k9 := 57) (v := .int (fi (si (su (su (sv (su (su (si S 22 (-1)) 29 992 0) 30 0 992) 0 0 1649317774848) 26 0 (-1)) 27 0 (-1)) 21 1) 23)) b (mw_0 cy a (si (su (su (sv (su (su (si S 22 (-1)) 29 992 0) 30 0 992) 0 0 1649317774848) 26 0 (-1)) 27 0 (-1)) 21 1)) rfl in_X12 (by decide) wf_X12_408 rfl dX12_gain_41 ?_
  refine z_eqi h_i_23 ?_
  refine z_if_eq_t (tgt := 50) b dX12_gain_44 (by decide) (by decide) ?_
  refine z_iconst (v := (-1)) b dX12_gain_50 (by decide) ?_
  refine z_istore (lv' := [(5, .int (-1)), (0, .ref (a 0)), (1, .int 2), (2, .int p0), (3, .int p1), (4, .int 0)]) b dX12_gain_51 (by decide) rfl ?_
  refine z_iconst (v := 0) b dX12_gain_53 (by decide) ?_
  refine z_istore (lv' := [(6, .int 0), (5, .int (-1)), (0, .ref (a 0)), (1, .int 2), (2, .int p0), (3, .int p1), (4, .int 0)]) b dX12_gain_54 (by decide) rfl ?_
  refine z_iconst (v := 0) b dX12_gain_56 (by decide) ?_
  refine z_istore (lv' := [(7, .int 0), (6, .int 0), (5, .int (-1)), (0, .ref (a 0)), (1, .int 2), (2, .int p0), (3, .int p1), (4, .int 0)]) b dX12_gain_57 (by decide) rfl ?_
  refine z_iload b dX12_gain_59 rfl ?_
  refine z_aload_n b dX12_gain_61 rfl rfl ?_
  refine z_get (q0 := 0) (k9 := 55) (v := .int 1) b (mw_0 cy a (si (su (su (sv (su (su (si S 22 (-1)) 29 992 0) 30 0 992) 0 0 1649317774848) 26 0 (-1)) 27 0 (-1)) 21 1)) rfl in_X12 (by decide) wf_X12_405 rfl dX12_gain_62 ?_
  refine z_icmp_ge_f (tgt := 147) b dX12_gain_65 (by decide) (by decide) ?_
  refine z_aload_n b dX12_gain_68 rfl rfl ?_
  refine z_aload_n b dX12_gain_69 rfl rfl ?_
  refine z_get (q0 := 0) (k9 := 49) (v := .ref (a 27)) b (mw_0 cy a (si (su (su (sv (su (su (si S 22 (-1)) 29 992 0) 30 0 992) 0 0 1649317774848) 26 0 (-1)) 27 0 (-1)) 21 1)) rfl in_X12 (by decide) wf_X12_97 rfl dX12_gain_70 ?_
  refine z_iload b dX12_gain_73 rfl ?_
  refine y_lald (q0 := 27) (j := 0) (v := 1649317774848) b (mw_27 cy a (si (su (su (sv (su (su (si S 22 (-1)) 29 992 0) 30 0 992) 0 0 1649317774848) 26 0 (-1)) 27 0 (-1)) 21 1)) (by decide) rfl dX12_gain_75 ?_
  refine z_callv b (z_runV (q0 := 0) (As := [.long 1649317774848]) (st := []) b (c_X12_takes (si (su (su (sv (su (su (si S 22 (-1)) 29 992 0) 30 0 992) 0 0 1649317774848) 26 0 (-1)) 27 0 (-1)) 21 1) h_a_4_7 h_a_1_7 h_a_4_6 h_a_1_6 h_a_3_6 h_a_3_2 h_a_2_2 h_a_0_2 h_a_4_3 h_a_1_3 h_a_4_5 h_a_1_5 h_a_3_5 h_a_3_7 h_a_2_1 h_a_0_1 h_a_4_2 h_a_1_2 h_a_4_1 h_a_1_1 h_a_3_1 h_a_3_3 h_a_2_0 h_a_0_0 h_i_0) cf_X12_takes (mw_0 cy a (si (su (su (sv (su (su (si S 22 (-1)) 29 992 0) 30 0 992) 0 0 1649317774848) 26 0 (-1)) 27 0 (-1)) 21 1)) rfl wm_X12_174 wi_X12_takes ws_X12_takes dX12_gain_76 rfl (Nat.le_of_ble_eq_true rfl) ⟨by decide, by decide, by decide, by decide⟩) (fun u13121 h13119 => ?_)
  obtain rfl := h13119
  refine z_aload_n b dX12_gain_79 rfl rfl ?_
  refine z_get (q0 := 0) (k9 := 0) (v := .ref (a 1)) b (mw_0 cy a (si (su (su (sv (su (su (si S 22 (-1)) 29 992 0) 30 0 992) 0 0 1649317774848) 26 0 (-1)) 27 0 (-1)) 21 1)) rfl in_X12 (by decide) wf_X12_13 rfl dX12_gain_80 ?_
  refine z_iload_n b dX12_gain_83 rfl rfl ?_
  refine y_iald (q0 := 1) (j := 2) (v := (ar (si (su (su (sv (su (su (si S 22 (-1)) 29 992 0) 30 0 992) 0 0 1649317774848) 26 0 (-1)) 27 0 (-1)) 21 1) 0 2)) b (mw_1 cy a (si (su (su (sv (su (su (si S 22 (-1)) 29 992 0) 30 0 992) 0 0 1649317774848) 26 0 (-1)) 27 0 (-1)) 21 1)) (by decide) rfl dX12_gain_84 ?_
  refine z_eqi h_a_0_2 ?_
  refine z_aload_n b dX12_gain_85 rfl rfl ?_
  refine z_get (q0 := 0) (k9 := 1) (v := .ref (a 2)) b (mw_0 cy a (si (su (su (sv (su (su (si S 22 (-1)) 29 992 0) 30 0 992) 0 0 1649317774848) 26 0 (-1)) 27 0 (-1)) 21 1)) rfl in_X12 (by decide) wf_X12_17 rfl dX12_gain_86 ?_
  refine z_iconst (v := 3) b dX12_gain_89 (by decide) ?_
  refine z_iload_n b dX12_gain_90 rfl rfl ?_
  refine z_imul (v := 6) b dX12_gain_91 (by decide) ?_
  refine z_iload_n b dX12_gain_92 rfl rfl ?_
  refine z_iconst (v := 0) b dX12_gain_93 (by decide) ?_
  refine z_calli b (z_runS (As := [.int 2, .int 0]) (st := [.int 6, .ref (a 2), .int 0]) b (c_X12_other_2 (si (su (su (sv (su (su (si S 22 (-1)) 29 992 0) 30 0 992) 0 0 1649317774848) 26 0 (-1)) 27 0 (-1)) 21 1) ) cf_X12_other wm_X12_160 ws_X12_other dX12_gain_94 rfl (Nat.le_of_ble_eq_true rfl) ⟨by decide, by decide, by decide, by decide⟩) (fun r13123 u13124 h13122 => ?_)
  obtain ⟨rfl, rfl⟩ := h13122
  refine z_iadd (v := 6) b dX12_gain_97 (by decide) ?_
  refine y_iald (q0 := 2) (j := 6) (v := (ar (si (su (su (sv (su (su (si S 22 (-1)) 29 992 0) 30 0 992) 0 0 1649317774848) 26 0 (-1)) 27 0 (-1)) 21 1) 1 6)) b (mw_2 cy a (si (su (su (sv (su (su (si S 22 (-1)) 29 992 0) 30 0 992) 0 0 1649317774848) 26 0 (-1)) 27 0 (-1)) 21 1)) (by decide) rfl dX12_gain_98 ?_
  refine z_eqi h_a_1_6 ?_
  refine z_isub (v := 0) b dX12_gain_99 (by decide) ?_
  refine z_aload_n b dX12_gain_100 rfl rfl ?_
  refine z_get (q0 := 0) (k9 := 1) (v := .ref (a 2)) b (mw_0 cy a (si (su (su (sv (su (su (si S 22 (-1)) 29 992 0) 30 0 992) 0 0 1649317774848) 26 0 (-1)) 27 0 (-1)) 21 1)) rfl in_X12 (by decide) wf_X12_17 rfl dX12_gain_101 ?_
  refine z_iconst (v := 3) b dX12_gain_104 (by decide) ?_
  refine z_iload_n b dX12_gain_105 rfl rfl ?_
  refine z_imul (v := 6) b dX12_gain_106 (by decide) ?_
  refine z_iload_n b dX12_gain_107 rfl rfl ?_
  refine z_iconst (v := 1) b dX12_gain_108 (by decide) ?_
  refine z_calli b (z_runS (As := [.int 2, .int 1]) (st := [.int 6, .ref (a 2), .int 0]) b (c_X12_other (si (su (su (sv (su (su (si S 22 (-1)) 29 992 0) 30 0 992) 0 0 1649317774848) 26 0 (-1)) 27 0 (-1)) 21 1) ) cf_X12_other wm_X12_160 ws_X12_other dX12_gain_109 rfl (Nat.le_of_ble_eq_true rfl) ⟨by decide, by decide, by decide, by decide⟩) (fun r13126 u13127 h13125 => ?_)
  obtain ⟨rfl, rfl⟩ := h13125
  refine z_iadd (v := 7) b dX12_gain_112 (by decide) ?_
  refine y_iald (q0 := 2) (j := 7) (v := (ar (si (su (su (sv (su (su (si S 22 (-1)) 29 992 0) 30 0 992) 0 0 1649317774848) 26 0 (-1)) 27 0 (-1)) 21 1) 1 7)) b (mw_2 cy a (si (su (su (sv (su (su (si S 22 (-1)) 29 992 0) 30 0 992) 0 0 1649317774848) 26 0 (-1)) 27 0 (-1)) 21 1)) (by decide) rfl dX12_gain_113 ?_
  refine z_eqi h_a_1_7 ?_
  refine z_isub (v := 0) b dX12_gain_114 (by decide) ?_
  refine z_istore (lv' := [(8, .int 0), (7, .int 0), (6, .int 0), (5, .int (-1)), (0, .ref (a 0)), (1, .int 2), (2, .int p0), (3, .int p1), (4, .int 0)]) b dX12_gain_115 (by decide) rfl ?_
  refine z_iload b dX12_gain_117 rfl ?_
  refine z_iconst (v := (-1)) b dX12_gain_119 (by decide) ?_
  refine z_icmp_eq_t (tgt := 133) b dX12_gain_120 (by decide) (by decide) ?_
  refine z_iload b dX12_gain_133 rfl ?_
  refine z_istore (lv' := [(5, .int 0), (8, .int 0), (7, .int 0), (6, .int 0), (0, .ref (a 0)), (1, .int 2), (2, .int p0), (3, .int p1), (4, .int 0)]) b dX12_gain_135 (by decide) rfl ?_
  refine z_iload b dX12_gain_137 rfl ?_
  refine z_istore (lv' := [(6, .int 0), (5, .int 0), (8, .int 0), (7, .int 0), (0, .ref (a 0)), (1, .int 2), (2, .int p0), (3, .int p1), (4, .int 0)]) b dX12_gain_139 (by decide) rfl ?_
  refine z_iinc (k9 := 3) (v := 1) (lv' := [(7, .int 1), (6, .int 0), (5, .int 0), (8, .int 0), (0, .ref (a 0)), (1, .int 2), (2, .int p0), (3, .int p1), (4, .int 0)]) b dX12_gain_141 rfl (by decide) (by decide) rfl ?_
  refine z_goto (tgt := 59) b dX12_gain_144 (by decide) ?_
  refine z_iload b dX12_gain_59 rfl ?_
  refine z_aload_n b dX12_gain_61 rfl rfl ?_
  refine z_get (q0 := 0) (k9 := 55) (v := .int 1) b (mw_0 cy a (si (su (su (sv (su (su (si S 22 (-1)) 29 992 0) 30 0 992) 0 0 1649317774848) 26 0 (-1)) 27 0 (-1)) 21 1)) rfl in_X12 (by decide) wf_X12_405 rfl dX12_gain_62 ?_
  refine z_icmp_ge_t (tgt := 147) b dX12_gain_65 (by decide) (by decide) ?_
  refine z_iload b dX12_gain_147 rfl ?_
  refine z_iconst (v := 2) b dX12_gain_149 (by decide) ?_
  refine z_icmp_ge_f (tgt := 171) b dX12_gain_150 (by decide) (by decide) ?_
  refine z_iload b dX12_gain_153 rfl ?_
  refine z_if_ne_f (tgt := 163) b dX12_gain_155 (by decide) (by decide) ?_
  refine z_iload b dX12_gain_158 rfl ?_
  refine z_goto (tgt := 170) b dX12_gain_160 (by decide) ?_
  exact z_iret (u := (si (su (su (sv (su (su (si S 22 (-1)) 29 992 0) 30 0 992) 0 0 1649317774848) 26 0 (-1)) 27 0 (-1)) 21 1)) b rfl dX12_gain_170 ⟨rfl, rfl⟩ rfl (by decide) (by decide)

set_option maxHeartbeats 4000000 in
set_option maxRecDepth 100000 in
theorem c_X11_gain_42 {l : Launch} {D : va_G} {cy : Nat → ClassId} {T0 tB tE : Nat} {a : Nat → Nat} {rw : Nat → Option Nat} (S : GS) (p0 : Int32) (p1 : Int32) (h_i_19 : fi S 19 = 0) (h_i_24 : fi S 24 = 0) (h_i_22 : fi S 22 = 0) (h_i_18 : fi S 18 = 0) (h_i_25 : fi S 25 = 0) (h_i_23 : fi S 23 = 0) (h_i_26 : fi S 26 = 0) (h_a_4_50 : ar S 4 50 = 0) (h_a_4_40 : ar S 4 40 = 3) (h_a_4_41 : ar S 4 41 = 3) (h_a_4_42 : ar S 4 42 = 3) (h_a_4_0 : ar S 4 0 = 0) (h_a_4_11 : ar S 4 11 = 0) (h_a_4_21 : ar S 4 21 = 0) (h_a_4_31 : ar S 4 31 = 0) (h_a_4_12 : ar S 4 12 = 0) (h_a_4_22 : ar S 4 22 = 0) (h_a_4_32 : ar S 4 32 = 0) (h_a_4_1 : ar S 4 1 = 0) (h_a_4_13 : ar S 4 13 = 0) (h_a_4_23 : ar S 4 23 = 0) (h_a_4_33 : ar S 4 33 = 0) (h_a_4_15 : ar S 4 15 = 0) (h_a_4_25 : ar S 4 25 = 0) (h_a_4_35 : ar S 4 35 = 0) (h_a_4_2 : ar S 4 2 = 0) (h_a_4_16 : ar S 4 16 = 0) (h_a_4_26 : ar S 4 26 = 0) (h_a_4_36 : ar S 4 36 = 0) (h_a_4_17 : ar S 4 17 = 0) (h_a_4_27 : ar S 4 27 = 0) (h_a_4_37 : ar S 4 37 = 0) (h_a_10_0 : ar S 10 0 = 0) (h_a_9_50 : ar S 9 50 = 0) (h_a_9_40 : ar S 9 40 = 3) (h_a_9_41 : ar S 9 41 = 3) (h_a_9_42 : ar S 9 42 = 3) (h_a_9_0 : ar S 9 0 = 0) (h_a_9_11 : ar S 9 11 = 0) (h_a_9_21 : ar S 9 21 = 0) (h_a_9_31 : ar S 9 31 = 0) (h_a_9_12 : ar S 9 12 = 0) (h_a_9_22 : ar S 9 22 = 0) (h_a_9_32 : ar S 9 32 = 0) (h_a_9_1 : ar S 9 1 = 0) (h_a_9_13 : ar S 9 13 = 0) (h_a_9_23 : ar S 9 23 = 0) (h_a_9_33 : ar S 9 33 = 0) (h_a_9_15 : ar S 9 15 = 0) (h_a_9_25 : ar S 9 25 = 0) (h_a_9_35 : ar S 9 35 = 0) (h_a_9_2 : ar S 9 2 = 0) (h_a_9_16 : ar S 9 16 = 0) (h_a_9_26 : ar S 9 26 = 0) (h_a_9_36 : ar S 9 36 = 0) (h_a_9_17 : ar S 9 17 = 0) (h_a_9_27 : ar S 9 27 = 0) (h_a_9_37 : ar S 9 37 = 0) (hr_p0 : 1 ≤ p0.toInt ∧ p0.toInt ≤ 3) (hr_p1 : 1 ≤ p1.toInt ∧ p1.toInt ≤ 6) : Ct l D cy T0 tB tE yX11_gain cX11_gain 7 (some .int) 5 117 0 0 (cw cy tE a rw S) [.ref (a 0), .int 2, .int p0, .int p1, .int 1] (QI D (U := GS) (fun r u => (((((0 < ((fi (su (si (su (su (sv (sa (si (si (si (si S 24 1) 19 p0) 20 p1) 21 7) 13 (fil 1024 0 (ar (si (si (si (si S 24 1) 19 p0) 20 p1) 21 7) 13))) 2 0 4128768) 11 0 (-1)) 12 0 (-1)) 25 1) 13 978 1) 20) : Int32).toInt)))) ∧ 0 = r ∧ (si (su (si (su (su (sv (sa (si (si (si (si S 24 1) 19 p0) 20 p1) 21 7) 13 (fil 1024 0 (ar (si (si (si (si S 24 1) 19 p0) 20 p1) 21 7) 13))) 2 0 4128768) 11 0 (-1)) 12 0 (-1)) 25 1) 13 978 1) 23 1) = u) ∨ (((((((fi (su (si (su (su (sv (sa (si (si (si (si S 24 1) 19 p0) 20 p1) 21 7) 13 (fil 1024 0 (ar (si (si (si (si S 24 1) 19 p0) 20 p1) 21 7) 13))) 2 0 4128768) 11 0 (-1)) 12 0 (-1)) 25 1) 13 978 1) 20) : Int32).toInt ≤ 0)))) ∧ 0 = r ∧ (su (si (su (su (sv (sa (si (si (si (si S 24 1) 19 p0) 20 p1) 21 7) 13 (fil 1024 0 (ar (si (si (si (si S 24 1) 19 p0) 20 p1) 21 7) 13))) 2 0 4128768) 11 0 (-1)) 12 0 (-1)) 25 1) 13 978 1) = u)) (cw cy tE a rw)) := by
  refine Ct.ofZ RX11 "gain" [(0, .ref (a 0)), (1, .int 2), (2, .int p0), (3, .int p1), (4, .int 1)] rfl rfl rfl rfl (Nat.le_of_ble_eq_true rfl) ?_
  intro p e R s m args below meth c A b
  refine z_iload_n b dX11_gain_0 rfl rfl ?_
  refine z_calli b (z_runS (As := [.int 2]) (st := []) b (c_X11_isPerson_5 S ) cf_X11_isPerson wm_X11_69 ws_X11_isPerson dX11_gain_1 rfl (Nat.le_of_ble_eq_true rfl) ⟨by decide, by decide, by decide, by decide⟩) (fun r13129 u13130 h13128 => ?_)
  obtain ⟨rfl, rfl⟩ := h13128
  refine z_if_eq_f (tgt := 26) b dX11_gain_4 (by decide) (by decide) ?_
  refine z_iload_n b dX11_gain_7 rfl rfl ?_
  refine z_calli b (z_runS (As := [.int p0]) (st := []) b (c_X11_areLaws_3 S p0 ⟨by omega, by omega⟩) cf_X11_areLaws wm_X11_181 ws_X11_areLaws dX11_gain_8 rfl (Nat.le_of_ble_eq_true rfl) ⟨by decide, by decide, by decide, by decide⟩) (fun r13132 u13133 h13131 => ?_)
  obtain ⟨rfl, rfl⟩ := h13131
  refine z_if_eq_f (tgt := 26) b dX11_gain_11 (by decide) (by decide) ?_
  refine z_iload_n b dX11_gain_14 rfl rfl ?_
  refine z_calli b (z_runS (As := [.int p1]) (st := []) b (c_X11_isDepth_3 S p1 ⟨by omega, by omega⟩) cf_X11_isDepth wm_X11_203 ws_X11_isDepth dX11_gain_15 rfl (Nat.le_of_ble_eq_true rfl) ⟨by decide, by decide, by decide, by decide⟩) (fun r13135 u13136 h13134 => ?_)
  obtain ⟨rfl, rfl⟩ := h13134
  refine z_if_eq_f (tgt := 26) b dX11_gain_18 (by decide) (by decide) ?_
  refine z_iload b dX11_gain_21 rfl ?_
  refine z_if_ge_t (tgt := 29) b dX11_gain_23 (by decide) (by decide) ?_
  refine z_aload_n b dX11_gain_29 rfl rfl ?_
  refine z_get (q0 := 0) (k9 := 6) (v := .ref (a 25)) b (cw_0 cy tE a rw S) rfl in_X11 (by decide) wf_X11_52 rfl dX11_gain_30 ?_
  refine z_iload_n b dX11_gain_33 rfl rfl ?_
  refine z_iload_n b dX11_gain_34 rfl rfl ?_
  refine z_bipush (v := 7) b dX11_gain_35 (by decide) ?_
  refine z_iconst (v := 0) b dX11_gain_37 (by decide) ?_
  refine z_callv b (z_runV (q0 := 25) (As := [.int p0, .int p1, .int 7, .int 0]) (st := []) b (c_X8_begin_2 S p0 p1 h_i_19 h_i_24 h_i_22 h_i_18 h_i_25 h_i_23 h_i_26 h_a_4_50 h_a_4_40 h_a_4_41 h_a_4_42 h_a_4_0 h_a_4_11 h_a_4_21 h_a_4_31 h_a_4_12 h_a_4_22 h_a_4_32 h_a_4_1 h_a_4_13 h_a_4_23 h_a_4_33 h_a_4_15 h_a_4_25 h_a_4_35 h_a_4_2 h_a_4_16 h_a_4_26 h_a_4_36 h_a_4_17 h_a_4_27 h_a_4_37 h_a_10_0 ⟨by omega, by omega⟩ ⟨by omega, by omega⟩) cf_X8_begin (cw_25 cy tE a rw S) rfl wm_X11_206 wi_X8_begin ws_X8_begin dX11_gain_38 rfl (Nat.le_of_ble_eq_true rfl) ⟨by decide, by decide, by decide, by decide⟩) (fun u13139 h13137 => ?_)
  obtain rfl := h13137
  refine z_aload_n b dX11_gain_41 rfl rfl ?_
  refine z_get (q0 := 0) (k9 := 6) (v := .ref (a 25)) b (cw_0 cy tE a rw (su (si (su (su (sv (sa (si (si (si (si S 24 1) 19 p0) 20 p1) 21 7) 13 (fil 1024 0 (ar (si (si (si (si S 24 1) 19 p0) 20 p1) 21 7) 13))) 2 0 4128768) 11 0 (-1)) 12 0 (-1)) 25 1) 13 978 1)) rfl in_X11 (by decide) wf_X11_52 rfl dX11_gain_42 ?_
  refine z_callv b (z_runV (q0 := 25) (As := []) (st := []) b (c_X8_finish_2 (su (si (su (su (sv (sa (si (si (si (si S 24 1) 19 p0) 20 p1) 21 7) 13 (fil 1024 0 (ar (si (si (si (si S 24 1) 19 p0) 20 p1) 21 7) 13))) 2 0 4128768) 11 0 (-1)) 12 0 (-1)) 25 1) 13 978 1) h_i_26 h_i_23 rfl h_a_10_0 rfl h_a_9_50 h_a_9_40 h_a_9_41 h_a_9_42 h_a_9_0 h_a_9_11 h_a_9_21 h_a_9_31 h_a_9_12 h_a_9_22 h_a_9_32 h_a_9_1 h_a_9_13 h_a_9_23 h_a_9_33 h_a_9_15 h_a_9_25 h_a_9_35 h_a_9_2 h_a_9_16 h_a_9_26 h_a_9_36 h_a_9_17 h_a_9_27 h_a_9_37 h_i_18) cf_X8_finish (cw_25 cy tE a rw (su (si (su (su (sv (sa (si (si (si (si S 24 1) 19 p0) 20 p1) 21 7) 13 (fil 1024 0 (ar (si (si (si (si S 24 1) 19 p0) 20 p1) 21 7) 13))) 2 0 4128768) 11 0 (-1)) 12 0 (-1)) 25 1) 13 978 1)) rfl wm_X11_232 wi_X8_finish ws_X8_finish dX11_gain_45 rfl (Nat.le_of_ble_eq_true rfl) ⟨by decide, by decide, by decide, by decide⟩) (fun u13142 h13140 => ?_)
  rcases h13140 with ⟨c13143, rfl⟩ | ⟨c13144, rfl⟩
  · refine z_aload_n b dX11_gain_48 rfl rfl ?_
    refine z_get (q0 := 0) (k9 := 6) (v := .ref (a 25)) b (cw_0 cy tE a rw (si (su (si (su (su (sv (sa (si (si (si (si S 24 1) 19 p0) 20 p1) 21 7) 13 (fil 1024 0 (ar (si (si (si (si S 24 1) 19 p0) 20 p1) 21 7) 13))) 2 0 4128768) 11 0 (-1)) 12 0 (-1)) 25 1) 13 978 1) 23 1)) rfl in_X11 (by decide) wf_X11_52 rfl dX11_gain_49 ?_
    refine z_get (q0 := 25) (k9 := 18) (v := .int (fi (si (su (si (su (su (sv (sa (si (si (si (si S 24 1) 19 p0) 20 p1) 21 7) 13 (fil 1024 0 (ar (si (si (si (si S 24 1) 19 p0) 20 p1) 21 7) 13))) 2 0 4128768) 11 0 (-1)) 12 0 (-1)) 25 1) 13 978 1) 23 1) 26)) b (cw_25 cy tE a rw (si (su (si (su (su (sv (sa (si (si (si (si S 24 1) 19 p0) 20 p1) 21 7) 13 (fil 1024 0 (ar (si (si (si (si S 24 1) 19 p0) 20 p1) 21 7) 13))) 2 0 4128768) 11 0 (-1)) 12 0 (-1)) 25 1) 13 978 1) 23 1)) rfl in_X8 (by decide) wf_X11_214 rfl dX11_gain_52 ?_
    refine z_eqi h_i_26 ?_
    refine z_if_eq_t (tgt := 61) b dX11_gain_55 (by decide) (by decide) ?_
    refine z_aload_n b dX11_gain_61 rfl rfl ?_
    refine z_get (q0 := 0) (k9 := 6) (v := .ref (a 25)) b (cw_0 cy tE a rw (si (su (si (su (su (sv (sa (si (si (si (si S 24 1) 19 p0) 20 p1) 21 7) 13 (fil 1024 0 (ar (si (si (si (si S 24 1) 19 p0) 20 p1) 21 7) 13))) 2 0 4128768) 11 0 (-1)) 12 0 (-1)) 25 1) 13 978 1) 23 1)) rfl in_X11 (by decide) wf_X11_52 rfl dX11_gain_62 ?_
    refine z_iload_n b dX11_gain_65 rfl rfl ?_
    refine z_calli b (z_runV (q0 := 25) (As := [.int 2]) (st := []) b (c_X8_richest_3 (si (su (si (su (su (sv (sa (si (si (si (si S 24 1) 19 p0) 20 p1) 21 7) 13 (fil 1024 0 (ar (si (si (si (si S 24 1) 19 p0) 20 p1) 21 7) 13))) 2 0 4128768) 11 0 (-1)) 12 0 (-1)) 25 1) 13 978 1) 23 1) rfl rfl h_a_9_50 h_a_9_40 h_a_9_41 h_a_9_42 h_a_9_0 h_a_9_11 h_a_9_21 h_a_9_31 h_a_9_12 h_a_9_22 h_a_9_32 h_a_9_1 h_a_9_13 h_a_9_23 h_a_9_33 h_a_9_15 h_a_9_25 h_a_9_35 h_a_9_2 h_a_9_16 h_a_9_26 h_a_9_36 h_a_9_17 h_a_9_27 h_a_9_37) cf_X8_richest (cw_25 cy tE a rw (si (su (si (su (su (sv (sa (si (si (si (si S 24 1) 19 p0) 20 p1) 21 7) 13 (fil 1024 0 (ar (si (si (si (si S 24 1) 19 p0) 20 p1) 21 7) 13))) 2 0 4128768) 11 0 (-1)) 12 0 (-1)) 25 1) 13 978 1) 23 1)) rfl wm_X11_238 wi_X8_richest ws_X8_richest dX11_gain_66 rfl (Nat.le_of_ble_eq_true rfl) ⟨by decide, by decide, by decide, by decide⟩) (fun r13146 u13147 h13145 => ?_)
    obtain ⟨rfl, rfl⟩ := h13145
    refine z_istore (lv' := [(5, .int 0), (0, .ref (a 0)), (1, .int 2), (2, .int p0), (3, .int p1), (4, .int 1)]) b dX11_gain_69 (by decide) rfl ?_
    refine z_iload b dX11_gain_71 rfl ?_
    refine z_if_ne_t (tgt := 87) b dX11_gain_73 (by decide) (by decide) ?_
    refine z_iload b dX11_gain_87 rfl ?_
    refine z_iconst (v := 1) b dX11_gain_89 (by decide) ?_
    refine z_icmp_ne_f (tgt := 103) b dX11_gain_90 (by decide) (by decide) ?_
    refine z_aload_n b dX11_gain_93 rfl rfl ?_
    refine z_get (q0 := 0) (k9 := 6) (v := .ref (a 25)) b (cw_0 cy tE a rw (si (su (si (su (su (sv (sa (si (si (si (si S 24 1) 19 p0) 20 p1) 21 7) 13 (fil 1024 0 (ar (si (si (si (si S 24 1) 19 p0) 20 p1) 21 7) 13))) 2 0 4128768) 11 0 (-1)) 12 0 (-1)) 25 1) 13 978 1) 23 1)) rfl in_X11 (by decide) wf_X11_52 rfl dX11_gain_94 ?_
    refine z_iload b dX11_gain_97 rfl ?_
    refine z_calli b (z_runV (q0 := 25) (As := [.int 0]) (st := []) b (c_X8_acts (si (su (si (su (su (sv (sa (si (si (si (si S 24 1) 19 p0) 20 p1) 21 7) 13 (fil 1024 0 (ar (si (si (si (si S 24 1) 19 p0) 20 p1) 21 7) 13))) 2 0 4128768) 11 0 (-1)) 12 0 (-1)) 25 1) 13 978 1) 23 1) rfl h_a_10_0) cf_X8_acts (cw_25 cy tE a rw (si (su (si (su (su (sv (sa (si (si (si (si S 24 1) 19 p0) 20 p1) 21 7) 13 (fil 1024 0 (ar (si (si (si (si S 24 1) 19 p0) 20 p1) 21 7) 13))) 2 0 4128768) 11 0 (-1)) 12 0 (-1)) 25 1) 13 978 1) 23 1)) rfl wm_X11_217 wi_X8_acts ws_X8_acts dX11_gain_99 rfl (Nat.le_of_ble_eq_true rfl) ⟨by decide, by decide, by decide, by decide⟩) (fun r13149 u13150 h13148 => ?_)
    obtain ⟨rfl, rfl⟩ := h13148
    exact z_iret (u := (si (su (si (su (su (sv (sa (si (si (si (si S 24 1) 19 p0) 20 p1) 21 7) 13 (fil 1024 0 (ar (si (si (si (si S 24 1) 19 p0) 20 p1) 21 7) 13))) 2 0 4128768) 11 0 (-1)) 12 0 (-1)) 25 1) 13 978 1) 23 1)) b rfl dX11_gain_102 (Or.inl ⟨c13143, rfl, rfl⟩) rfl (by decide) (by decide)
  · refine z_aload_n b dX11_gain_48 rfl rfl ?_
    refine z_get (q0 := 0) (k9 := 6) (v := .ref (a 25)) b (cw_0 cy tE a rw (su (si (su (su (sv (sa (si (si (si (si S 24 1) 19 p0) 20 p1) 21 7) 13 (fil 1024 0 (ar (si (si (si (si S 24 1) 19 p0) 20 p1) 21 7) 13))) 2 0 4128768) 11 0 (-1)) 12 0 (-1)) 25 1) 13 978 1)) rfl in_X11 (by decide) wf_X11_52 rfl dX11_gain_49 ?_
    refine z_get (q0 := 25) (k9 := 18) (v := .int (fi (su (si (su (su (sv (sa (si (si (si (si S 24 1) 19 p0) 20 p1) 21 7) 13 (fil 1024 0 (ar (si (si (si (si S 24 1) 19 p0) 20 p1) 21 7) 13))) 2 0 4128768) 11 0 (-1)) 12 0 (-1)) 25 1) 13 978 1) 26)) b (cw_25 cy tE a rw (su (si (su (su (sv (sa (si (si (si (si S 24 1) 19 p0) 20 p1) 21 7) 13 (fil 1024 0 (ar (si (si (si (si S 24 1) 19 p0) 20 p1) 21 7) 13))) 2 0 4128768) 11 0 (-1)) 12 0 (-1)) 25 1) 13 978 1)) rfl in_X8 (by decide) wf_X11_214 rfl dX11_gain_52 ?_
    refine z_eqi h_i_26 ?_
    refine z_if_eq_t (tgt := 61) b dX11_gain_55 (by decide) (by decide) ?_
    refine z_aload_n b dX11_gain_61 rfl rfl ?_
    refine z_get (q0 := 0) (k9 := 6) (v := .ref (a 25)) b (cw_0 cy tE a rw (su (si (su (su (sv (sa (si (si (si (si S 24 1) 19 p0) 20 p1) 21 7) 13 (fil 1024 0 (ar (si (si (si (si S 24 1) 19 p0) 20 p1) 21 7) 13))) 2 0 4128768) 11 0 (-1)) 12 0 (-1)) 25 1) 13 978 1)) rfl in_X11 (by decide) wf_X11_52 rfl dX11_gain_62 ?_
    refine z_iload_n b dX11_gain_65 rfl rfl ?_
    refine z_calli b (z_runV (q0 := 25) (As := [.int 2]) (st := []) b (c_X8_richest_3 (su (si (su (su (sv (sa (si (si (si (si S 24 1) 19 p0) 20 p1) 21 7) 13 (fil 1024 0 (ar (si (si (si (si S 24 1) 19 p0) 20 p1) 21 7) 13))) 2 0 4128768) 11 0 (-1)) 12 0 (-1)) 25 1) 13 978 1) rfl rfl h_a_9_50 h_a_9_40 h_a_9_41 h_a_9_42 h_a_9_0 h_a_9_11 h_a_9_21 h_a_9_31 h_a_9_12 h_a_9_22 h_a_9_32 h_a_9_1 h_a_9_13 h_a_9_23 h_a_9_33 h_a_9_15 h_a_9_25 h_a_9_35 h_a_9_2 h_a_9_16 h_a_9_26 h_a_9_36 h_a_9_17 h_a_9_27 h_a_9_37) cf_X8_richest (cw_25 cy tE a rw (su (si (su (su (sv (sa (si (si (si (si S 24 1) 19 p0) 20 p1) 21 7) 13 (fil 1024 0 (ar (si (si (si (si S 24 1) 19 p0) 20 p1) 21 7) 13))) 2 0 4128768) 11 0 (-1)) 12 0 (-1)) 25 1) 13 978 1)) rfl wm_X11_238 wi_X8_richest ws_X8_richest dX11_gain_66 rfl (Nat.le_of_ble_eq_true rfl) ⟨by decide, by decide, by decide, by decide⟩) (fun r13152 u13153 h13151 => ?_)
    obtain ⟨rfl, rfl⟩ := h13151
    refine z_istore (lv' := [(5, .int 0), (0, .ref (a 0)), (1, .int 2), (2, .int p0), (3, .int p1), (4, .int 1)]) b dX11_gain_69 (by decide) rfl ?_
    refine z_iload b dX11_gain_71 rfl ?_
    refine z_if_ne_t (tgt := 87) b dX11_gain_73 (by decide) (by decide) ?_
    refine z_iload b dX11_gain_87 rfl ?_
    refine z_iconst (v := 1) b dX11_gain_89 (by decide) ?_
    refine z_icmp_ne_f (tgt := 103) b dX11_gain_90 (by decide) (by decide) ?_
    refine z_aload_n b dX11_gain_93 rfl rfl ?_
    refine z_get (q0 := 0) (k9 := 6) (v := .ref (a 25)) b (cw_0 cy tE a rw (su (si (su (su (sv (sa (si (si (si (si S 24 1) 19 p0) 20 p1) 21 7) 13 (fil 1024 0 (ar (si (si (si (si S 24 1) 19 p0) 20 p1) 21 7) 13))) 2 0 4128768) 11 0 (-1)) 12 0 (-1)) 25 1) 13 978 1)) rfl in_X11 (by decide) wf_X11_52 rfl dX11_gain_94 ?_
    refine z_iload b dX11_gain_97 rfl ?_
    refine z_calli b (z_runV (q0 := 25) (As := [.int 0]) (st := []) b (c_X8_acts (su (si (su (su (sv (sa (si (si (si (si S 24 1) 19 p0) 20 p1) 21 7) 13 (fil 1024 0 (ar (si (si (si (si S 24 1) 19 p0) 20 p1) 21 7) 13))) 2 0 4128768) 11 0 (-1)) 12 0 (-1)) 25 1) 13 978 1) rfl h_a_10_0) cf_X8_acts (cw_25 cy tE a rw (su (si (su (su (sv (sa (si (si (si (si S 24 1) 19 p0) 20 p1) 21 7) 13 (fil 1024 0 (ar (si (si (si (si S 24 1) 19 p0) 20 p1) 21 7) 13))) 2 0 4128768) 11 0 (-1)) 12 0 (-1)) 25 1) 13 978 1)) rfl wm_X11_217 wi_X8_acts ws_X8_acts dX11_gain_99 rfl (Nat.le_of_ble_eq_true rfl) ⟨by decide, by decide, by decide, by decide⟩) (fun r13155 u13156 h13154 => ?_)
    obtain ⟨rfl, rfl⟩ := h13154
    exact z_iret (u := (su (si (su (su (sv (sa (si (si (si (si S 24 1) 19 p0) 20 p1) 21 7) 13 (fil 1024 0 (ar (si (si (si (si S 24 1) 19 p0) 20 p1) 21 7) 13))) 2 0 4128768) 11 0 (-1)) 12 0 (-1)) 25 1) 13 978 1)) b rfl dX11_gain_102 (Or.inr ⟨c13144, rfl, rfl⟩) rfl (by decide) (by decide)

set_option maxHeartbeats 4000000 in
set_option maxRecDepth 100000 in
theorem c_X12_gain_42 {l : Launch} {D : va_G} {cy : Nat → ClassId} {T0 tB tE : Nat} {a : Nat → Nat} (S : GS) (p0 : Int32) (p1 : Int32) (h_i_21 : fi S 21 = 0) (h_i_23 : fi S 23 = 0) (h_l_0 : fl S 0 = 1649317774848) (h_a_29_992 : ar S 29 992 = (-1)) (h_a_28_0 : ar S 28 0 = 0) (h_a_7_0 : ar S 7 0 = 0) (h_a_7_1 : ar S 7 1 = 0) (h_a_4_7 : ar S 4 7 = 0) (h_a_1_7 : ar S 1 7 = 0) (h_a_4_6 : ar S 4 6 = 0) (h_a_1_6 : ar S 1 6 = 0) (h_a_3_6 : ar S 3 6 = 0) (h_a_3_2 : ar S 3 2 = 0) (h_a_2_2 : ar S 2 2 = 3) (h_a_0_2 : ar S 0 2 = 0) (h_a_4_3 : ar S 4 3 = 0) (h_a_1_3 : ar S 1 3 = 0) (h_a_4_5 : ar S 4 5 = 0) (h_a_1_5 : ar S 1 5 = 0) (h_a_3_5 : ar S 3 5 = 0) (h_a_3_7 : ar S 3 7 = 0) (h_a_2_1 : ar S 2 1 = 3) (h_a_0_1 : ar S 0 1 = 0) (h_a_4_2 : ar S 4 2 = 0) (h_a_1_2 : ar S 1 2 = 0) (h_a_4_1 : ar S 4 1 = 0) (h_a_1_1 : ar S 1 1 = 0) (h_a_3_1 : ar S 3 1 = 0) (h_a_3_3 : ar S 3 3 = 0) (h_a_2_0 : ar S 2 0 = 3) (h_a_0_0 : ar S 0 0 = 0) (h_i_0 : fi S 0 = 0) (hr_p0 : 1 ≤ p0.toInt ∧ p0.toInt ≤ 3) (hr_p1 : 1 ≤ p1.toInt ∧ p1.toInt ≤ 6) : Ct l D cy T0 tB tE yX12_gain cX12_gain 9 (some .int) 4 99 0 0 (mw cy a S) [.ref (a 0), .int 2, .int p0, .int p1, .int 1] (QI D (U := GS) (fun r u => 0 = r ∧ (si (su (su (sv (su (su (si S 22 (-1)) 29 992 0) 30 0 992) 0 0 1649317774848) 26 0 (-1)) 27 0 (-1)) 21 1) = u) (mw cy a)) := by
  refine Ct.ofZ RX12 "gain" [(0, .ref (a 0)), (1, .int 2), (2, .int p0), (3, .int p1), (4, .int 1)] rfl rfl rfl rfl (Nat.le_of_ble_eq_true rfl) ?_
  intro p e R s m args below meth c A b
  refine z_iload_n b dX12_gain_0 rfl rfl ?_
  refine z_calli b (z_runS (As := [.int 2]) (st := []) b (c_X12_isOne_5 S ) cf_X12_isOne wm_X12_170 ws_X12_isOne dX12_gain_1 rfl (Nat.le_of_ble_eq_true rfl) ⟨by decide, by decide, by decide, by decide⟩) (fun r13158 u13159 h13157 => ?_)
  obtain ⟨rfl, rfl⟩ := h13157
  refine z_if_eq_f (tgt := 27) b dX12_gain_4 (by decide) (by decide) ?_
  refine z_aload_n b dX12_gain_7 rfl rfl ?_
  refine z_iload_n b dX12_gain_8 rfl rfl ?_
  refine z_iload_n b dX12_gain_9 rfl rfl ?_
  refine z_calli b (z_runV (q0 := 0) (As := [.int p0, .int p1]) (st := []) b (c_X12_canSearch_5 S p0 p1 ⟨by omega, by omega⟩ ⟨by omega, by omega⟩) cf_X12_canSearch (mw_0 cy a S) rfl wm_X12_433 wi_X12_canSearch ws_X12_canSearch dX12_gain_10 rfl (Nat.le_of_ble_eq_true rfl) ⟨by decide, by decide, by decide, by decide⟩) (fun r13161 u13162 h13160 => ?_)
  obtain ⟨rfl, rfl⟩ := h13160
  refine z_if_eq_f (tgt := 27) b dX12_gain_13 (by decide) (by decide) ?_
  refine z_iload b dX12_gain_16 rfl ?_
  refine z_iconst (v := 0) b dX12_gain_18 (by decide) ?_
  refine z_bipush (v := 7) b dX12_gain_19 (by decide) ?_
  refine z_calli b (z_runS (As := [.int 1, .int 0, .int 7]) (st := []) b (c_X12_isIn_60 S ) cf_X12_isIn wm_X12_1 ws_X12_isIn dX12_gain_21 rfl (Nat.le_of_ble_eq_true rfl) ⟨by decide, by decide, by decide, by decide⟩) (fun r13164 u13165 h13163 => ?_)
  obtain ⟨rfl, rfl⟩ := h13163
  refine z_if_ne_t (tgt := 30) b dX12_gain_24 (by decide) (by decide) ?_
  refine z_aload_n b dX12_gain_30 rfl rfl ?_
  refine z_iconst (v := (-1)) b dX12_gain_31 (by decide) ?_
  refine z_iload_n b dX12_gain_32 rfl rfl ?_
  refine z_iload_n b dX12_gain_33 rfl rfl ?_
  refine z_bipush (v := 7) b dX12_gain_34 (by decide) ?_
  refine z_iconst (v := 0) b dX12_gain_36 (by decide) ?_
  refine z_callv b (z_runV (q0 := 0) (As := [.int (-1), .int p0, .int p1, .int 7, .int 0]) (st := []) b (c_X12_searches_2 S p0 p1 h_i_21 h_i_23 h_l_0 h_a_29_992 h_a_28_0 h_a_7_0 h_a_7_1 ⟨by omega, by omega⟩ ⟨by omega, by omega⟩) cf_X12_searches (mw_0 cy a S) rfl wm_X12_436 wi_X12_searches ws_X12_searches dX12_gain_37 rfl (Nat.le_of_ble_eq_true rfl) ⟨by decide, by decide, by decide, by decide⟩) (fun u13168 h13166 => ?_)
  obtain rfl := h13166
  refine z_aload_n b dX12_gain_40 rfl rfl ?_
  refine z_get (q0 := 0) (k9 := 57) (v := .int (fi (si (su (su (sv (su (su (si S 22 (-1)) 29 992 0) 30 0 992) 0 0 1649317774848) 26 0 (-1)) 27 0 (-1)) 21 1) 23)) b (mw_0 cy a (si (su (su (sv (su (su (si S 22 (-1)) 29 992 0) 30 0 992) 0 0 1649317774848) 26 0 (-1)) 27 0 (-1)) 21 1)) rfl in_X12 (by decide) wf_X12_408 rfl dX12_gain_41 ?_
  refine z_eqi h_i_23 ?_
  refine z_if_eq_t (tgt := 50) b dX12_gain_44 (by decide) (by decide) ?_
  refine z_iconst (v := (-1)) b dX12_gain_50 (by decide) ?_
  refine z_istore (lv' := [(5, .int (-1)), (0, .ref (a 0)), (1, .int 2), (2, .int p0), (3, .int p1), (4, .int 1)]) b dX12_gain_51 (by decide) rfl ?_
  refine z_iconst (v := 0) b dX12_gain_53 (by decide) ?_
  refine z_istore (lv' := [(6, .int 0), (5, .int (-1)), (0, .ref (a 0)), (1, .int 2), (2, .int p0), (3, .int p1), (4, .int 1)]) b dX12_gain_54 (by decide) rfl ?_
  refine z_iconst (v := 0) b dX12_gain_56 (by decide) ?_
  refine z_istore (lv' := [(7, .int 0), (6, .int 0), (5, .int (-1)), (0, .ref (a 0)), (1, .int 2), (2, .int p0), (3, .int p1), (4, .int 1)]) b dX12_gain_57 (by decide) rfl ?_
  refine z_iload b dX12_gain_59 rfl ?_
  refine z_aload_n b dX12_gain_61 rfl rfl ?_
  refine z_get (q0 := 0) (k9 := 55) (v := .int 1) b (mw_0 cy a (si (su (su (sv (su (su (si S 22 (-1)) 29 992 0) 30 0 992) 0 0 1649317774848) 26 0 (-1)) 27 0 (-1)) 21 1)) rfl in_X12 (by decide) wf_X12_405 rfl dX12_gain_62 ?_
  refine z_icmp_ge_f (tgt := 147) b dX12_gain_65 (by decide) (by decide) ?_
  refine z_aload_n b dX12_gain_68 rfl rfl ?_
  refine z_aload_n b dX12_gain_69 rfl rfl ?_
  refine z_get (q0 := 0) (k9 := 49) (v := .ref (a 27)) b (mw_0 cy a (si (su (su (sv (su (su (si S 22 (-1)) 29 992 0) 30 0 992) 0 0 1649317774848) 26 0 (-1)) 27 0 (-1)) 21 1)) rfl in_X12 (by decide) wf_X12_97 rfl dX12_gain_70 ?_
  refine z_iload b dX12_gain_73 rfl ?_
  refine y_lald (q0 := 27) (j := 0) (v := 1649317774848) b (mw_27 cy a (si (su (su (sv (su (su (si S 22 (-1)) 29 992 0) 30 0 992) 0 0 1649317774848) 26 0 (-1)) 27 0 (-1)) 21 1)) (by decide) rfl dX12_gain_75 ?_
  refine z_callv b (z_runV (q0 := 0) (As := [.long 1649317774848]) (st := []) b (c_X12_takes (si (su (su (sv (su (su (si S 22 (-1)) 29 992 0) 30 0 992) 0 0 1649317774848) 26 0 (-1)) 27 0 (-1)) 21 1) h_a_4_7 h_a_1_7 h_a_4_6 h_a_1_6 h_a_3_6 h_a_3_2 h_a_2_2 h_a_0_2 h_a_4_3 h_a_1_3 h_a_4_5 h_a_1_5 h_a_3_5 h_a_3_7 h_a_2_1 h_a_0_1 h_a_4_2 h_a_1_2 h_a_4_1 h_a_1_1 h_a_3_1 h_a_3_3 h_a_2_0 h_a_0_0 h_i_0) cf_X12_takes (mw_0 cy a (si (su (su (sv (su (su (si S 22 (-1)) 29 992 0) 30 0 992) 0 0 1649317774848) 26 0 (-1)) 27 0 (-1)) 21 1)) rfl wm_X12_174 wi_X12_takes ws_X12_takes dX12_gain_76 rfl (Nat.le_of_ble_eq_true rfl) ⟨by decide, by decide, by decide, by decide⟩) (fun u13171 h13169 => ?_)
  obtain rfl := h13169
  refine z_aload_n b dX12_gain_79 rfl rfl ?_
  refine z_get (q0 := 0) (k9 := 0) (v := .ref (a 1)) b (mw_0 cy a (si (su (su (sv (su (su (si S 22 (-1)) 29 992 0) 30 0 992) 0 0 1649317774848) 26 0 (-1)) 27 0 (-1)) 21 1)) rfl in_X12 (by decide) wf_X12_13 rfl dX12_gain_80 ?_
  refine z_iload_n b dX12_gain_83 rfl rfl ?_
  refine y_iald (q0 := 1) (j := 2) (v := (ar (si (su (su (sv (su (su (si S 22 (-1)) 29 992 0) 30 0 992) 0 0 1649317774848) 26 0 (-1)) 27 0 (-1)) 21 1) 0 2)) b (mw_1 cy a (si (su (su (sv (su (su (si S 22 (-1)) 29 992 0) 30 0 992) 0 0 1649317774848) 26 0 (-1)) 27 0 (-1)) 21 1)) (by decide) rfl dX12_gain_84 ?_
  refine z_eqi h_a_0_2 ?_
  refine z_aload_n b dX12_gain_85 rfl rfl ?_
  refine z_get (q0 := 0) (k9 := 1) (v := .ref (a 2)) b (mw_0 cy a (si (su (su (sv (su (su (si S 22 (-1)) 29 992 0) 30 0 992) 0 0 1649317774848) 26 0 (-1)) 27 0 (-1)) 21 1)) rfl in_X12 (by decide) wf_X12_17 rfl dX12_gain_86 ?_
  refine z_iconst (v := 3) b dX12_gain_89 (by decide) ?_
  refine z_iload_n b dX12_gain_90 rfl rfl ?_
  refine z_imul (v := 6) b dX12_gain_91 (by decide) ?_
  refine z_iload_n b dX12_gain_92 rfl rfl ?_
  refine z_iconst (v := 0) b dX12_gain_93 (by decide) ?_
  refine z_calli b (z_runS (As := [.int 2, .int 0]) (st := [.int 6, .ref (a 2), .int 0]) b (c_X12_other_2 (si (su (su (sv (su (su (si S 22 (-1)) 29 992 0) 30 0 992) 0 0 1649317774848) 26 0 (-1)) 27 0 (-1)) 21 1) ) cf_X12_other wm_X12_160 ws_X12_other dX12_gain_94 rfl (Nat.le_of_ble_eq_true rfl) ⟨by decide, by decide, by decide, by decide⟩) (fun r13173 u13174 h13172 => ?_)
  obtain ⟨rfl, rfl⟩ := h13172
  refine z_iadd (v := 6) b dX12_gain_97 (by decide) ?_
  refine y_iald (q0 := 2) (j := 6) (v := (ar (si (su (su (sv (su (su (si S 22 (-1)) 29 992 0) 30 0 992) 0 0 1649317774848) 26 0 (-1)) 27 0 (-1)) 21 1) 1 6)) b (mw_2 cy a (si (su (su (sv (su (su (si S 22 (-1)) 29 992 0) 30 0 992) 0 0 1649317774848) 26 0 (-1)) 27 0 (-1)) 21 1)) (by decide) rfl dX12_gain_98 ?_
  refine z_eqi h_a_1_6 ?_
  refine z_isub (v := 0) b dX12_gain_99 (by decide) ?_
  refine z_aload_n b dX12_gain_100 rfl rfl ?_
  refine z_get (q0 := 0) (k9 := 1) (v := .ref (a 2)) b (mw_0 cy a (si (su (su (sv (su (su (si S 22 (-1)) 29 992 0) 30 0 992) 0 0 1649317774848) 26 0 (-1)) 27 0 (-1)) 21 1)) rfl in_X12 (by decide) wf_X12_17 rfl dX12_gain_101 ?_
  refine z_iconst (v := 3) b dX12_gain_104 (by decide) ?_
  refine z_iload_n b dX12_gain_105 rfl rfl ?_
  refine z_imul (v := 6) b dX12_gain_106 (by decide) ?_
  refine z_iload_n b dX12_gain_107 rfl rfl ?_
  refine z_iconst (v := 1) b dX12_gain_108 (by decide) ?_
  refine z_calli b (z_runS (As := [.int 2, .int 1]) (st := [.int 6, .ref (a 2), .int 0]) b (c_X12_other (si (su (su (sv (su (su (si S 22 (-1)) 29 992 0) 30 0 992) 0 0 1649317774848) 26 0 (-1)) 27 0 (-1)) 21 1) ) cf_X12_other wm_X12_160 ws_X12_other dX12_gain_109 rfl (Nat.le_of_ble_eq_true rfl) ⟨by decide, by decide, by decide, by decide⟩) (fun r13176 u13177 h13175 => ?_)
  obtain ⟨rfl, rfl⟩ := h13175
  refine z_iadd (v := 7) b dX12_gain_112 (by decide) ?_
  refine y_iald (q0 := 2) (j := 7) (v := (ar (si (su (su (sv (su (su (si S 22 (-1)) 29 992 0) 30 0 992) 0 0 1649317774848) 26 0 (-1)) 27 0 (-1)) 21 1) 1 7)) b (mw_2 cy a (si (su (su (sv (su (su (si S 22 (-1)) 29 992 0) 30 0 992) 0 0 1649317774848) 26 0 (-1)) 27 0 (-1)) 21 1)) (by decide) rfl dX12_gain_113 ?_
  refine z_eqi h_a_1_7 ?_
  refine z_isub (v := 0) b dX12_gain_114 (by decide) ?_
  refine z_istore (lv' := [(8, .int 0), (7, .int 0), (6, .int 0), (5, .int (-1)), (0, .ref (a 0)), (1, .int 2), (2, .int p0), (3, .int p1), (4, .int 1)]) b dX12_gain_115 (by decide) rfl ?_
  refine z_iload b dX12_gain_117 rfl ?_
  refine z_iconst (v := (-1)) b dX12_gain_119 (by decide) ?_
  refine z_icmp_eq_t (tgt := 133) b dX12_gain_120 (by decide) (by decide) ?_
  refine z_iload b dX12_gain_133 rfl ?_
  refine z_istore (lv' := [(5, .int 0), (8, .int 0), (7, .int 0), (6, .int 0), (0, .ref (a 0)), (1, .int 2), (2, .int p0), (3, .int p1), (4, .int 1)]) b dX12_gain_135 (by decide) rfl ?_
  refine z_iload b dX12_gain_137 rfl ?_
  refine z_istore (lv' := [(6, .int 0), (5, .int 0), (8, .int 0), (7, .int 0), (0, .ref (a 0)), (1, .int 2), (2, .int p0), (3, .int p1), (4, .int 1)]) b dX12_gain_139 (by decide) rfl ?_
  refine z_iinc (k9 := 3) (v := 1) (lv' := [(7, .int 1), (6, .int 0), (5, .int 0), (8, .int 0), (0, .ref (a 0)), (1, .int 2), (2, .int p0), (3, .int p1), (4, .int 1)]) b dX12_gain_141 rfl (by decide) (by decide) rfl ?_
  refine z_goto (tgt := 59) b dX12_gain_144 (by decide) ?_
  refine z_iload b dX12_gain_59 rfl ?_
  refine z_aload_n b dX12_gain_61 rfl rfl ?_
  refine z_get (q0 := 0) (k9 := 55) (v := .int 1) b (mw_0 cy a (si (su (su (sv (su (su (si S 22 (-1)) 29 992 0) 30 0 992) 0 0 1649317774848) 26 0 (-1)) 27 0 (-1)) 21 1)) rfl in_X12 (by decide) wf_X12_405 rfl dX12_gain_62 ?_
  refine z_icmp_ge_t (tgt := 147) b dX12_gain_65 (by decide) (by decide) ?_
  refine z_iload b dX12_gain_147 rfl ?_
  refine z_iconst (v := 2) b dX12_gain_149 (by decide) ?_
  refine z_icmp_ge_f (tgt := 171) b dX12_gain_150 (by decide) (by decide) ?_
  refine z_iload b dX12_gain_153 rfl ?_
  refine z_if_ne_t (tgt := 163) b dX12_gain_155 (by decide) (by decide) ?_
  refine z_aload_n b dX12_gain_163 rfl rfl ?_
  refine z_get (q0 := 0) (k9 := 52) (v := .ref (a 30)) b (mw_0 cy a (si (su (su (sv (su (su (si S 22 (-1)) 29 992 0) 30 0 992) 0 0 1649317774848) 26 0 (-1)) 27 0 (-1)) 21 1)) rfl in_X12 (by decide) wf_X12_107 rfl dX12_gain_164 ?_
  refine z_iload b dX12_gain_167 rfl ?_
  refine y_iald (q0 := 30) (j := 0) (v := (ar (si (su (su (sv (su (su (si S 22 (-1)) 29 992 0) 30 0 992) 0 0 1649317774848) 26 0 (-1)) 27 0 (-1)) 21 1) 28 0)) b (mw_30 cy a (si (su (su (sv (su (su (si S 22 (-1)) 29 992 0) 30 0 992) 0 0 1649317774848) 26 0 (-1)) 27 0 (-1)) 21 1)) (by decide) rfl dX12_gain_169 ?_
  refine z_eqi h_a_28_0 ?_
  exact z_iret (u := (si (su (su (sv (su (su (si S 22 (-1)) 29 992 0) 30 0 992) 0 0 1649317774848) 26 0 (-1)) 27 0 (-1)) 21 1)) b rfl dX12_gain_170 ⟨rfl, rfl⟩ rfl (by decide) (by decide)

set_option maxHeartbeats 4000000 in
set_option maxRecDepth 100000 in
theorem c_X11_gain_43 {l : Launch} {D : va_G} {cy : Nat → ClassId} {T0 tB tE : Nat} {a : Nat → Nat} {rw : Nat → Option Nat} (S : GS) (p0 : Int32) (p1 : Int32) (p2 : Int32) (h_i_19 : fi S 19 = 0) (h_i_24 : fi S 24 = 0) (h_i_22 : fi S 22 = 0) (h_i_18 : fi S 18 = 0) (h_i_25 : fi S 25 = 0) (h_i_23 : fi S 23 = 0) (h_i_26 : fi S 26 = 0) (h_a_4_50 : ar S 4 50 = 0) (h_a_4_40 : ar S 4 40 = 3) (h_a_4_41 : ar S 4 41 = 3) (h_a_4_42 : ar S 4 42 = 3) (h_a_4_0 : ar S 4 0 = 0) (h_a_4_11 : ar S 4 11 = 0) (h_a_4_21 : ar S 4 21 = 0) (h_a_4_31 : ar S 4 31 = 0) (h_a_4_12 : ar S 4 12 = 0) (h_a_4_22 : ar S 4 22 = 0) (h_a_4_32 : ar S 4 32 = 0) (h_a_4_1 : ar S 4 1 = 0) (h_a_4_13 : ar S 4 13 = 0) (h_a_4_23 : ar S 4 23 = 0) (h_a_4_33 : ar S 4 33 = 0) (h_a_4_15 : ar S 4 15 = 0) (h_a_4_25 : ar S 4 25 = 0) (h_a_4_35 : ar S 4 35 = 0) (h_a_4_2 : ar S 4 2 = 0) (h_a_4_16 : ar S 4 16 = 0) (h_a_4_26 : ar S 4 26 = 0) (h_a_4_36 : ar S 4 36 = 0) (h_a_4_17 : ar S 4 17 = 0) (h_a_4_27 : ar S 4 27 = 0) (h_a_4_37 : ar S 4 37 = 0) (h_a_10_0 : ar S 10 0 = 0) (h_a_9_50 : ar S 9 50 = 0) (h_a_9_40 : ar S 9 40 = 3) (h_a_9_41 : ar S 9 41 = 3) (h_a_9_42 : ar S 9 42 = 3) (h_a_9_0 : ar S 9 0 = 0) (h_a_9_11 : ar S 9 11 = 0) (h_a_9_21 : ar S 9 21 = 0) (h_a_9_31 : ar S 9 31 = 0) (h_a_9_12 : ar S 9 12 = 0) (h_a_9_22 : ar S 9 22 = 0) (h_a_9_32 : ar S 9 32 = 0) (h_a_9_1 : ar S 9 1 = 0) (h_a_9_13 : ar S 9 13 = 0) (h_a_9_23 : ar S 9 23 = 0) (h_a_9_33 : ar S 9 33 = 0) (h_a_9_15 : ar S 9 15 = 0) (h_a_9_25 : ar S 9 25 = 0) (h_a_9_35 : ar S 9 35 = 0) (h_a_9_2 : ar S 9 2 = 0) (h_a_9_16 : ar S 9 16 = 0) (h_a_9_26 : ar S 9 26 = 0) (h_a_9_36 : ar S 9 36 = 0) (h_a_9_17 : ar S 9 17 = 0) (h_a_9_27 : ar S 9 27 = 0) (h_a_9_37 : ar S 9 37 = 0) (hr_p0 : 1 ≤ p0.toInt ∧ p0.toInt ≤ 3) (hr_p1 : 1 ≤ p1.toInt ∧ p1.toInt ≤ 6) (hr_p2 : 2 ≤ p2.toInt ∧ p2.toInt ≤ 7) : Ct l D cy T0 tB tE yX11_gain cX11_gain 7 (some .int) 5 117 0 0 (cw cy tE a rw S) [.ref (a 0), .int 2, .int p0, .int p1, .int p2] (QI D (U := GS) (fun r u => (((0 ≤ p2.toInt) ∧ (((0 < ((fi (su (si (su (su (sv (sa (si (si (si (si S 24 1) 19 p0) 20 p1) 21 7) 13 (fil 1024 0 (ar (si (si (si (si S 24 1) 19 p0) 20 p1) 21 7) 13))) 2 0 4128768) 11 0 (-1)) 12 0 (-1)) 25 1) 13 978 1) 20) : Int32).toInt))) ∧ (p2.toInt ≠ 0) ∧ (p2.toInt ≠ 1)) ∧ (-100) = r ∧ (si (su (si (su (su (sv (sa (si (si (si (si S 24 1) 19 p0) 20 p1) 21 7) 13 (fil 1024 0 (ar (si (si (si (si S 24 1) 19 p0) 20 p1) 21 7) 13))) 2 0 4128768) 11 0 (-1)) 12 0 (-1)) 25 1) 13 978 1) 23 1) = u) ∨ (((0 ≤ p2.toInt) ∧ (((((fi (su (si (su (su (sv (sa (si (si (si (si S 24 1) 19 p0) 20 p1) 21 7) 13 (fil 1024 0 (ar (si (si (si (si S 24 1) 19 p0) 20 p1) 21 7) 13))) 2 0 4128768) 11 0 (-1)) 12 0 (-1)) 25 1) 13 978 1) 20) : Int32).toInt ≤ 0))) ∧ (p2.toInt ≠ 0) ∧ (p2.toInt ≠ 1)) ∧ (-100) = r ∧ (su (si (su (su (sv (sa (si (si (si (si S 24 1) 19 p0) 20 p1) 21 7) 13 (fil 1024 0 (ar (si (si (si (si S 24 1) 19 p0) 20 p1) 21 7) 13))) 2 0 4128768) 11 0 (-1)) 12 0 (-1)) 25 1) 13 978 1) = u)) (cw cy tE a rw)) := by
  refine Ct.ofZ RX11 "gain" [(0, .ref (a 0)), (1, .int 2), (2, .int p0), (3, .int p1), (4, .int p2)] rfl rfl rfl rfl (Nat.le_of_ble_eq_true rfl) ?_
  intro p e R s m args below meth c A b
  refine z_iload_n b dX11_gain_0 rfl rfl ?_
  refine z_calli b (z_runS (As := [.int 2]) (st := []) b (c_X11_isPerson_5 S ) cf_X11_isPerson wm_X11_69 ws_X11_isPerson dX11_gain_1 rfl (Nat.le_of_ble_eq_true rfl) ⟨by decide, by decide, by decide, by decide⟩) (fun r13179 u13180 h13178 => ?_)
  obtain ⟨rfl, rfl⟩ := h13178
  refine z_if_eq_f (tgt := 26) b dX11_gain_4 (by decide) (by decide) ?_
  refine z_iload_n b dX11_gain_7 rfl rfl ?_
  refine z_calli b (z_runS (As := [.int p0]) (st := []) b (c_X11_areLaws_3 S p0 ⟨by omega, by omega⟩) cf_X11_areLaws wm_X11_181 ws_X11_areLaws dX11_gain_8 rfl (Nat.le_of_ble_eq_true rfl) ⟨by decide, by decide, by decide, by decide⟩) (fun r13182 u13183 h13181 => ?_)
  obtain ⟨rfl, rfl⟩ := h13181
  refine z_if_eq_f (tgt := 26) b dX11_gain_11 (by decide) (by decide) ?_
  refine z_iload_n b dX11_gain_14 rfl rfl ?_
  refine z_calli b (z_runS (As := [.int p1]) (st := []) b (c_X11_isDepth_3 S p1 ⟨by omega, by omega⟩) cf_X11_isDepth wm_X11_203 ws_X11_isDepth dX11_gain_15 rfl (Nat.le_of_ble_eq_true rfl) ⟨by decide, by decide, by decide, by decide⟩) (fun r13185 u13186 h13184 => ?_)
  obtain ⟨rfl, rfl⟩ := h13184
  refine z_if_eq_f (tgt := 26) b dX11_gain_18 (by decide) (by decide) ?_
  refine z_iload b dX11_gain_21 rfl ?_
  refine y_if_ge (tgt := 29) (xl := p2.toInt) b rfl dX11_gain_23 (by decide) (fun c13187 => ?_) (fun c13187 => ?_)
  · refine z_aload_n b dX11_gain_29 rfl rfl ?_
    refine z_get (q0 := 0) (k9 := 6) (v := .ref (a 25)) b (cw_0 cy tE a rw S) rfl in_X11 (by decide) wf_X11_52 rfl dX11_gain_30 ?_
    refine z_iload_n b dX11_gain_33 rfl rfl ?_
    refine z_iload_n b dX11_gain_34 rfl rfl ?_
    refine z_bipush (v := 7) b dX11_gain_35 (by decide) ?_
    refine z_iconst (v := 0) b dX11_gain_37 (by decide) ?_
    refine z_callv b (z_runV (q0 := 25) (As := [.int p0, .int p1, .int 7, .int 0]) (st := []) b (c_X8_begin_2 S p0 p1 h_i_19 h_i_24 h_i_22 h_i_18 h_i_25 h_i_23 h_i_26 h_a_4_50 h_a_4_40 h_a_4_41 h_a_4_42 h_a_4_0 h_a_4_11 h_a_4_21 h_a_4_31 h_a_4_12 h_a_4_22 h_a_4_32 h_a_4_1 h_a_4_13 h_a_4_23 h_a_4_33 h_a_4_15 h_a_4_25 h_a_4_35 h_a_4_2 h_a_4_16 h_a_4_26 h_a_4_36 h_a_4_17 h_a_4_27 h_a_4_37 h_a_10_0 ⟨by omega, by omega⟩ ⟨by omega, by omega⟩) cf_X8_begin (cw_25 cy tE a rw S) rfl wm_X11_206 wi_X8_begin ws_X8_begin dX11_gain_38 rfl (Nat.le_of_ble_eq_true rfl) ⟨by decide, by decide, by decide, by decide⟩) (fun u13190 h13188 => ?_)
    obtain rfl := h13188
    refine z_aload_n b dX11_gain_41 rfl rfl ?_
    refine z_get (q0 := 0) (k9 := 6) (v := .ref (a 25)) b (cw_0 cy tE a rw (su (si (su (su (sv (sa (si (si (si (si S 24 1) 19 p0) 20 p1) 21 7) 13 (fil 1024 0 (ar (si (si (si (si S 24 1) 19 p0) 20 p1) 21 7) 13))) 2 0 4128768) 11 0 (-1)) 12 0 (-1)) 25 1) 13 978 1)) rfl in_X11 (by decide) wf_X11_52 rfl dX11_gain_42 ?_
    refine z_callv b (z_runV (q0 := 25) (As := []) (st := []) b (c_X8_finish_2 (su (si (su (su (sv (sa (si (si (si (si S 24 1) 19 p0) 20 p1) 21 7) 13 (fil 1024 0 (ar (si (si (si (si S 24 1) 19 p0) 20 p1) 21 7) 13))) 2 0 4128768) 11 0 (-1)) 12 0 (-1)) 25 1) 13 978 1) h_i_26 h_i_23 rfl h_a_10_0 rfl h_a_9_50 h_a_9_40 h_a_9_41 h_a_9_42 h_a_9_0 h_a_9_11 h_a_9_21 h_a_9_31 h_a_9_12 h_a_9_22 h_a_9_32 h_a_9_1 h_a_9_13 h_a_9_23 h_a_9_33 h_a_9_15 h_a_9_25 h_a_9_35 h_a_9_2 h_a_9_16 h_a_9_26 h_a_9_36 h_a_9_17 h_a_9_27 h_a_9_37 h_i_18) cf_X8_finish (cw_25 cy tE a rw (su (si (su (su (sv (sa (si (si (si (si S 24 1) 19 p0) 20 p1) 21 7) 13 (fil 1024 0 (ar (si (si (si (si S 24 1) 19 p0) 20 p1) 21 7) 13))) 2 0 4128768) 11 0 (-1)) 12 0 (-1)) 25 1) 13 978 1)) rfl wm_X11_232 wi_X8_finish ws_X8_finish dX11_gain_45 rfl (Nat.le_of_ble_eq_true rfl) ⟨by decide, by decide, by decide, by decide⟩) (fun u13193 h13191 => ?_)
    rcases h13191 with ⟨c13194, rfl⟩ | ⟨c13195, rfl⟩
    · refine z_aload_n b dX11_gain_48 rfl rfl ?_
      refine z_get (q0 := 0) (k9 := 6) (v := .ref (a 25)) b (cw_0 cy tE a rw (si (su (si (su (su (sv (sa (si (si (si (si S 24 1) 19 p0) 20 p1) 21 7) 13 (fil 1024 0 (ar (si (si (si (si S 24 1) 19 p0) 20 p1) 21 7) 13))) 2 0 4128768) 11 0 (-1)) 12 0 (-1)) 25 1) 13 978 1) 23 1)) rfl in_X11 (by decide) wf_X11_52 rfl dX11_gain_49 ?_
      refine z_get (q0 := 25) (k9 := 18) (v := .int (fi (si (su (si (su (su (sv (sa (si (si (si (si S 24 1) 19 p0) 20 p1) 21 7) 13 (fil 1024 0 (ar (si (si (si (si S 24 1) 19 p0) 20 p1) 21 7) 13))) 2 0 4128768) 11 0 (-1)) 12 0 (-1)) 25 1) 13 978 1) 23 1) 26)) b (cw_25 cy tE a rw (si (su (si (su (su (sv (sa (si (si (si (si S 24 1) 19 p0) 20 p1) 21 7) 13 (fil 1024 0 (ar (si (si (si (si S 24 1) 19 p0) 20 p1) 21 7) 13))) 2 0 4128768) 11 0 (-1)) 12 0 (-1)) 25 1) 13 978 1) 23 1)) rfl in_X8 (by decide) wf_X11_214 rfl dX11_gain_52 ?_
      refine z_eqi h_i_26 ?_
      refine z_if_eq_t (tgt := 61) b dX11_gain_55 (by decide) (by decide) ?_
      refine z_aload_n b dX11_gain_61 rfl rfl ?_
      refine z_get (q0 := 0) (k9 := 6) (v := .ref (a 25)) b (cw_0 cy tE a rw (si (su (si (su (su (sv (sa (si (si (si (si S 24 1) 19 p0) 20 p1) 21 7) 13 (fil 1024 0 (ar (si (si (si (si S 24 1) 19 p0) 20 p1) 21 7) 13))) 2 0 4128768) 11 0 (-1)) 12 0 (-1)) 25 1) 13 978 1) 23 1)) rfl in_X11 (by decide) wf_X11_52 rfl dX11_gain_62 ?_
      refine z_iload_n b dX11_gain_65 rfl rfl ?_
      refine z_calli b (z_runV (q0 := 25) (As := [.int 2]) (st := []) b (c_X8_richest_3 (si (su (si (su (su (sv (sa (si (si (si (si S 24 1) 19 p0) 20 p1) 21 7) 13 (fil 1024 0 (ar (si (si (si (si S 24 1) 19 p0) 20 p1) 21 7) 13))) 2 0 4128768) 11 0 (-1)) 12 0 (-1)) 25 1) 13 978 1) 23 1) rfl rfl h_a_9_50 h_a_9_40 h_a_9_41 h_a_9_42 h_a_9_0 h_a_9_11 h_a_9_21 h_a_9_31 h_a_9_12 h_a_9_22 h_a_9_32 h_a_9_1 h_a_9_13 h_a_9_23 h_a_9_33 h_a_9_15 h_a_9_25 h_a_9_35 h_a_9_2 h_a_9_16 h_a_9_26 h_a_9_36 h_a_9_17 h_a_9_27 h_a_9_37) cf_X8_richest (cw_25 cy tE a rw (si (su (si (su (su (sv (sa (si (si (si (si S 24 1) 19 p0) 20 p1) 21 7) 13 (fil 1024 0 (ar (si (si (si (si S 24 1) 19 p0) 20 p1) 21 7) 13))) 2 0 4128768) 11 0 (-1)) 12 0 (-1)) 25 1) 13 978 1) 23 1)) rfl wm_X11_238 wi_X8_richest ws_X8_richest dX11_gain_66 rfl (Nat.le_of_ble_eq_true rfl) ⟨by decide, by decide, by decide, by decide⟩) (fun r13197 u13198 h13196 => ?_)
      obtain ⟨rfl, rfl⟩ := h13196
      refine z_istore (lv' := [(5, .int 0), (0, .ref (a 0)), (1, .int 2), (2, .int p0), (3, .int p1), (4, .int p2)]) b dX11_gain_69 (by decide) rfl ?_
      refine z_iload b dX11_gain_71 rfl ?_
      refine y_if_ne (tgt := 87) (xl := p2.toInt) b rfl dX11_gain_73 (by decide) (fun c13199 => ?_) (fun c13199 => ?_)
      · refine z_iload b dX11_gain_87 rfl ?_
        refine z_iconst (v := 1) b dX11_gain_89 (by decide) ?_
        refine y_icmp_ne (tgt := 103) (xl := p2.toInt) (yl := 1) b rfl (by decide) dX11_gain_90 (by decide) (fun c13200 => ?_) (fun c13200 => ?_)
        · refine z_aload_n b dX11_gain_103 rfl rfl ?_
          refine z_get (q0 := 0) (k9 := 6) (v := .ref (a 25)) b (cw_0 cy tE a rw (si (su (si (su (su (sv (sa (si (si (si (si S 24 1) 19 p0) 20 p1) 21 7) 13 (fil 1024 0 (ar (si (si (si (si S 24 1) 19 p0) 20 p1) 21 7) 13))) 2 0 4128768) 11 0 (-1)) 12 0 (-1)) 25 1) 13 978 1) 23 1)) rfl in_X11 (by decide) wf_X11_52 rfl dX11_gain_104 ?_
          refine z_iload b dX11_gain_107 rfl ?_
          refine z_iload b dX11_gain_109 rfl ?_
          refine z_iconst (v := 2) b dX11_gain_111 (by decide) ?_
          refine z_isub b dX11_gain_112 rfl ?_
          have f13201 : ((p2 - 2) : Int32).toInt = p2.toInt + (-2) := zisub (k := 2) (by decide) (by omega) (by omega)
          refine z_calli b (z_runV (q0 := 25) (As := [.int 0, .int (p2 - 2)]) (st := []) b (c_X8_code (si (su (si (su (su (sv (sa (si (si (si (si S 24 1) 19 p0) 20 p1) 21 7) 13 (fil 1024 0 (ar (si (si (si (si S 24 1) 19 p0) 20 p1) 21 7) 13))) 2 0 4128768) 11 0 (-1)) 12 0 (-1)) 25 1) 13 978 1) 23 1) (p2 - 2) rfl h_a_10_0 ⟨by omega, by omega⟩) cf_X8_code (cw_25 cy tE a rw (si (su (si (su (su (sv (sa (si (si (si (si S 24 1) 19 p0) 20 p1) 21 7) 13 (fil 1024 0 (ar (si (si (si (si S 24 1) 19 p0) 20 p1) 21 7) 13))) 2 0 4128768) 11 0 (-1)) 12 0 (-1)) 25 1) 13 978 1) 23 1)) rfl wm_X11_219 wi_X8_code ws_X8_code dX11_gain_113 rfl (Nat.le_of_ble_eq_true rfl) ⟨by decide, by decide, by decide, by decide⟩) (fun r13203 u13204 h13202 => ?_)
          obtain ⟨rfl, rfl⟩ := h13202
          refine z_istore (lv' := [(6, .int (-1)), (5, .int 0), (0, .ref (a 0)), (1, .int 2), (2, .int p0), (3, .int p1), (4, .int p2)]) b dX11_gain_116 (by decide) rfl ?_
          refine z_iload b dX11_gain_118 rfl ?_
          refine z_iconst (v := (-1)) b dX11_gain_120 (by decide) ?_
          refine z_icmp_ne_f (tgt := 129) b dX11_gain_121 (by decide) (by decide) ?_
          refine z_bipush (v := (-100)) b dX11_gain_124 (by decide) ?_
          refine z_goto (tgt := 131) b dX11_gain_126 (by decide) ?_
          exact z_iret (u := (si (su (si (su (su (sv (sa (si (si (si (si S 24 1) 19 p0) 20 p1) 21 7) 13 (fil 1024 0 (ar (si (si (si (si S 24 1) 19 p0) 20 p1) 21 7) 13))) 2 0 4128768) 11 0 (-1)) 12 0 (-1)) 25 1) 13 978 1) 23 1)) b rfl dX11_gain_131 (Or.inl ⟨⟨c13187, c13194, c13199, c13200⟩, rfl, rfl⟩) rfl (by decide) (by decide)
        · exfalso; omega
      · exfalso; omega
    · refine z_aload_n b dX11_gain_48 rfl rfl ?_
      refine z_get (q0 := 0) (k9 := 6) (v := .ref (a 25)) b (cw_0 cy tE a rw (su (si (su (su (sv (sa (si (si (si (si S 24 1) 19 p0) 20 p1) 21 7) 13 (fil 1024 0 (ar (si (si (si (si S 24 1) 19 p0) 20 p1) 21 7) 13))) 2 0 4128768) 11 0 (-1)) 12 0 (-1)) 25 1) 13 978 1)) rfl in_X11 (by decide) wf_X11_52 rfl dX11_gain_49 ?_
      refine z_get (q0 := 25) (k9 := 18) (v := .int (fi (su (si (su (su (sv (sa (si (si (si (si S 24 1) 19 p0) 20 p1) 21 7) 13 (fil 1024 0 (ar (si (si (si (si S 24 1) 19 p0) 20 p1) 21 7) 13))) 2 0 4128768) 11 0 (-1)) 12 0 (-1)) 25 1) 13 978 1) 26)) b (cw_25 cy tE a rw (su (si (su (su (sv (sa (si (si (si (si S 24 1) 19 p0) 20 p1) 21 7) 13 (fil 1024 0 (ar (si (si (si (si S 24 1) 19 p0) 20 p1) 21 7) 13))) 2 0 4128768) 11 0 (-1)) 12 0 (-1)) 25 1) 13 978 1)) rfl in_X8 (by decide) wf_X11_214 rfl dX11_gain_52 ?_
      refine z_eqi h_i_26 ?_
      refine z_if_eq_t (tgt := 61) b dX11_gain_55 (by decide) (by decide) ?_
      refine z_aload_n b dX11_gain_61 rfl rfl ?_
      refine z_get (q0 := 0) (k9 := 6) (v := .ref (a 25)) b (cw_0 cy tE a rw (su (si (su (su (sv (sa (si (si (si (si S 24 1) 19 p0) 20 p1) 21 7) 13 (fil 1024 0 (ar (si (si (si (si S 24 1) 19 p0) 20 p1) 21 7) 13))) 2 0 4128768) 11 0 (-1)) 12 0 (-1)) 25 1) 13 978 1)) rfl in_X11 (by decide) wf_X11_52 rfl dX11_gain_62 ?_
      refine z_iload_n b dX11_gain_65 rfl rfl ?_
      refine z_calli b (z_runV (q0 := 25) (As := [.int 2]) (st := []) b (c_X8_richest_3 (su (si (su (su (sv (sa (si (si (si (si S 24 1) 19 p0) 20 p1) 21 7) 13 (fil 1024 0 (ar (si (si (si (si S 24 1) 19 p0) 20 p1) 21 7) 13))) 2 0 4128768) 11 0 (-1)) 12 0 (-1)) 25 1) 13 978 1) rfl rfl h_a_9_50 h_a_9_40 h_a_9_41 h_a_9_42 h_a_9_0 h_a_9_11 h_a_9_21 h_a_9_31 h_a_9_12 h_a_9_22 h_a_9_32 h_a_9_1 h_a_9_13 h_a_9_23 h_a_9_33 h_a_9_15 h_a_9_25 h_a_9_35 h_a_9_2 h_a_9_16 h_a_9_26 h_a_9_36 h_a_9_17 h_a_9_27 h_a_9_37) cf_X8_richest (cw_25 cy tE a rw (su (si (su (su (sv (sa (si (si (si (si S 24 1) 19 p0) 20 p1) 21 7) 13 (fil 1024 0 (ar (si (si (si (si S 24 1) 19 p0) 20 p1) 21 7) 13))) 2 0 4128768) 11 0 (-1)) 12 0 (-1)) 25 1) 13 978 1)) rfl wm_X11_238 wi_X8_richest ws_X8_richest dX11_gain_66 rfl (Nat.le_of_ble_eq_true rfl) ⟨by decide, by decide, by decide, by decide⟩) (fun r13206 u13207 h13205 => ?_)
      obtain ⟨rfl, rfl⟩ := h13205
      refine z_istore (lv' := [(5, .int 0), (0, .ref (a 0)), (1, .int 2), (2, .int p0), (3, .int p1), (4, .int p2)]) b dX11_gain_69 (by decide) rfl ?_
      refine z_iload b dX11_gain_71 rfl ?_
      refine y_if_ne (tgt := 87) (xl := p2.toInt) b rfl dX11_gain_73 (by decide) (fun c13208 => ?_) (fun c13208 => ?_)
      · refine z_iload b dX11_gain_87 rfl ?_
        refine z_iconst (v := 1) b dX11_gain_89 (by decide) ?_
        refine y_icmp_ne (tgt := 103) (xl := p2.toInt) (yl := 1) b rfl (by decide) dX11_gain_90 (by decide) (fun c13209 => ?_) (fun c13209 => ?_)
        · refine z_aload_n b dX11_gain_103 rfl rfl ?_
          refine z_get (q0 := 0) (k9 := 6) (v := .ref (a 25)) b (cw_0 cy tE a rw (su (si (su (su (sv (sa (si (si (si (si S 24 1) 19 p0) 20 p1) 21 7) 13 (fil 1024 0 (ar (si (si (si (si S 24 1) 19 p0) 20 p1) 21 7) 13))) 2 0 4128768) 11 0 (-1)) 12 0 (-1)) 25 1) 13 978 1)) rfl in_X11 (by decide) wf_X11_52 rfl dX11_gain_104 ?_
          refine z_iload b dX11_gain_107 rfl ?_
          refine z_iload b dX11_gain_109 rfl ?_
          refine z_iconst (v := 2) b dX11_gain_111 (by decide) ?_
          refine z_isub b dX11_gain_112 rfl ?_
          have f13210 : ((p2 - 2) : Int32).toInt = p2.toInt + (-2) := zisub (k := 2) (by decide) (by omega) (by omega)
          refine z_calli b (z_runV (q0 := 25) (As := [.int 0, .int (p2 - 2)]) (st := []) b (c_X8_code (su (si (su (su (sv (sa (si (si (si (si S 24 1) 19 p0) 20 p1) 21 7) 13 (fil 1024 0 (ar (si (si (si (si S 24 1) 19 p0) 20 p1) 21 7) 13))) 2 0 4128768) 11 0 (-1)) 12 0 (-1)) 25 1) 13 978 1) (p2 - 2) rfl h_a_10_0 ⟨by omega, by omega⟩) cf_X8_code (cw_25 cy tE a rw (su (si (su (su (sv (sa (si (si (si (si S 24 1) 19 p0) 20 p1) 21 7) 13 (fil 1024 0 (ar (si (si (si (si S 24 1) 19 p0) 20 p1) 21 7) 13))) 2 0 4128768) 11 0 (-1)) 12 0 (-1)) 25 1) 13 978 1)) rfl wm_X11_219 wi_X8_code ws_X8_code dX11_gain_113 rfl (Nat.le_of_ble_eq_true rfl) ⟨by decide, by decide, by decide, by decide⟩) (fun r13212 u13213 h13211 => ?_)
          obtain ⟨rfl, rfl⟩ := h13211
          refine z_istore (lv' := [(6, .int (-1)), (5, .int 0), (0, .ref (a 0)), (1, .int 2), (2, .int p0), (3, .int p1), (4, .int p2)]) b dX11_gain_116 (by decide) rfl ?_
          refine z_iload b dX11_gain_118 rfl ?_
          refine z_iconst (v := (-1)) b dX11_gain_120 (by decide) ?_
          refine z_icmp_ne_f (tgt := 129) b dX11_gain_121 (by decide) (by decide) ?_
          refine z_bipush (v := (-100)) b dX11_gain_124 (by decide) ?_
          refine z_goto (tgt := 131) b dX11_gain_126 (by decide) ?_
          exact z_iret (u := (su (si (su (su (sv (sa (si (si (si (si S 24 1) 19 p0) 20 p1) 21 7) 13 (fil 1024 0 (ar (si (si (si (si S 24 1) 19 p0) 20 p1) 21 7) 13))) 2 0 4128768) 11 0 (-1)) 12 0 (-1)) 25 1) 13 978 1)) b rfl dX11_gain_131 (Or.inr ⟨⟨c13187, c13195, c13208, c13209⟩, rfl, rfl⟩) rfl (by decide) (by decide)
        · exfalso; omega
      · exfalso; omega
  · exfalso; omega

set_option maxHeartbeats 4000000 in
set_option maxRecDepth 100000 in
theorem c_X12_gain_43 {l : Launch} {D : va_G} {cy : Nat → ClassId} {T0 tB tE : Nat} {a : Nat → Nat} (S : GS) (p0 : Int32) (p1 : Int32) (p2 : Int32) (h_i_21 : fi S 21 = 0) (h_i_23 : fi S 23 = 0) (h_l_0 : fl S 0 = 1649317774848) (h_a_29_992 : ar S 29 992 = (-1)) (h_a_28_0 : ar S 28 0 = 0) (h_a_7_0 : ar S 7 0 = 0) (h_a_7_1 : ar S 7 1 = 0) (h_a_4_7 : ar S 4 7 = 0) (h_a_1_7 : ar S 1 7 = 0) (h_a_4_6 : ar S 4 6 = 0) (h_a_1_6 : ar S 1 6 = 0) (h_a_3_6 : ar S 3 6 = 0) (h_a_3_2 : ar S 3 2 = 0) (h_a_2_2 : ar S 2 2 = 3) (h_a_0_2 : ar S 0 2 = 0) (h_a_4_3 : ar S 4 3 = 0) (h_a_1_3 : ar S 1 3 = 0) (h_a_4_5 : ar S 4 5 = 0) (h_a_1_5 : ar S 1 5 = 0) (h_a_3_5 : ar S 3 5 = 0) (h_a_3_7 : ar S 3 7 = 0) (h_a_2_1 : ar S 2 1 = 3) (h_a_0_1 : ar S 0 1 = 0) (h_a_4_2 : ar S 4 2 = 0) (h_a_1_2 : ar S 1 2 = 0) (h_a_4_1 : ar S 4 1 = 0) (h_a_1_1 : ar S 1 1 = 0) (h_a_3_1 : ar S 3 1 = 0) (h_a_3_3 : ar S 3 3 = 0) (h_a_2_0 : ar S 2 0 = 3) (h_a_0_0 : ar S 0 0 = 0) (h_i_0 : fi S 0 = 0) (hr_p0 : 1 ≤ p0.toInt ∧ p0.toInt ≤ 3) (hr_p1 : 1 ≤ p1.toInt ∧ p1.toInt ≤ 6) (hr_p2 : 2 ≤ p2.toInt ∧ p2.toInt ≤ 7) : Ct l D cy T0 tB tE yX12_gain cX12_gain 9 (some .int) 4 99 0 0 (mw cy a S) [.ref (a 0), .int 2, .int p0, .int p1, .int p2] (QI D (U := GS) (fun r u => (-100) = r ∧ (si (su (su (sv (su (su (si S 22 (-1)) 29 992 0) 30 0 992) 0 0 1649317774848) 26 0 (-1)) 27 0 (-1)) 21 1) = u) (mw cy a)) := by
  refine Ct.ofZ RX12 "gain" [(0, .ref (a 0)), (1, .int 2), (2, .int p0), (3, .int p1), (4, .int p2)] rfl rfl rfl rfl (Nat.le_of_ble_eq_true rfl) ?_
  intro p e R s m args below meth c A b
  refine z_iload_n b dX12_gain_0 rfl rfl ?_
  refine z_calli b (z_runS (As := [.int 2]) (st := []) b (c_X12_isOne_5 S ) cf_X12_isOne wm_X12_170 ws_X12_isOne dX12_gain_1 rfl (Nat.le_of_ble_eq_true rfl) ⟨by decide, by decide, by decide, by decide⟩) (fun r13215 u13216 h13214 => ?_)
  obtain ⟨rfl, rfl⟩ := h13214
  refine z_if_eq_f (tgt := 27) b dX12_gain_4 (by decide) (by decide) ?_
  refine z_aload_n b dX12_gain_7 rfl rfl ?_
  refine z_iload_n b dX12_gain_8 rfl rfl ?_
  refine z_iload_n b dX12_gain_9 rfl rfl ?_
  refine z_calli b (z_runV (q0 := 0) (As := [.int p0, .int p1]) (st := []) b (c_X12_canSearch_5 S p0 p1 ⟨by omega, by omega⟩ ⟨by omega, by omega⟩) cf_X12_canSearch (mw_0 cy a S) rfl wm_X12_433 wi_X12_canSearch ws_X12_canSearch dX12_gain_10 rfl (Nat.le_of_ble_eq_true rfl) ⟨by decide, by decide, by decide, by decide⟩) (fun r13218 u13219 h13217 => ?_)
  obtain ⟨rfl, rfl⟩ := h13217
  refine z_if_eq_f (tgt := 27) b dX12_gain_13 (by decide) (by decide) ?_
  refine z_iload b dX12_gain_16 rfl ?_
  refine z_iconst (v := 0) b dX12_gain_18 (by decide) ?_
  refine z_bipush (v := 7) b dX12_gain_19 (by decide) ?_
  refine z_calli b (z_runS (As := [.int p2, .int 0, .int 7]) (st := []) b (c_X12_isIn_61 S p2 ⟨by omega, by omega⟩) cf_X12_isIn wm_X12_1 ws_X12_isIn dX12_gain_21 rfl (Nat.le_of_ble_eq_true rfl) ⟨by decide, by decide, by decide, by decide⟩) (fun r13221 u13222 h13220 => ?_)
  obtain ⟨rfl, rfl⟩ := h13220
  refine z_if_ne_t (tgt := 30) b dX12_gain_24 (by decide) (by decide) ?_
  refine z_aload_n b dX12_gain_30 rfl rfl ?_
  refine z_iconst (v := (-1)) b dX12_gain_31 (by decide) ?_
  refine z_iload_n b dX12_gain_32 rfl rfl ?_
  refine z_iload_n b dX12_gain_33 rfl rfl ?_
  refine z_bipush (v := 7) b dX12_gain_34 (by decide) ?_
  refine z_iconst (v := 0) b dX12_gain_36 (by decide) ?_
  refine z_callv b (z_runV (q0 := 0) (As := [.int (-1), .int p0, .int p1, .int 7, .int 0]) (st := []) b (c_X12_searches_2 S p0 p1 h_i_21 h_i_23 h_l_0 h_a_29_992 h_a_28_0 h_a_7_0 h_a_7_1 ⟨by omega, by omega⟩ ⟨by omega, by omega⟩) cf_X12_searches (mw_0 cy a S) rfl wm_X12_436 wi_X12_searches ws_X12_searches dX12_gain_37 rfl (Nat.le_of_ble_eq_true rfl) ⟨by decide, by decide, by decide, by decide⟩) (fun u13225 h13223 => ?_)
  obtain rfl := h13223
  refine z_aload_n b dX12_gain_40 rfl rfl ?_
  refine z_get (q0 := 0) (k9 := 57) (v := .int (fi (si (su (su (sv (su (su (si S 22 (-1)) 29 992 0) 30 0 992) 0 0 1649317774848) 26 0 (-1)) 27 0 (-1)) 21 1) 23)) b (mw_0 cy a (si (su (su (sv (su (su (si S 22 (-1)) 29 992 0) 30 0 992) 0 0 1649317774848) 26 0 (-1)) 27 0 (-1)) 21 1)) rfl in_X12 (by decide) wf_X12_408 rfl dX12_gain_41 ?_
  refine z_eqi h_i_23 ?_
  refine z_if_eq_t (tgt := 50) b dX12_gain_44 (by decide) (by decide) ?_
  refine z_iconst (v := (-1)) b dX12_gain_50 (by decide) ?_
  refine z_istore (lv' := [(5, .int (-1)), (0, .ref (a 0)), (1, .int 2), (2, .int p0), (3, .int p1), (4, .int p2)]) b dX12_gain_51 (by decide) rfl ?_
  refine z_iconst (v := 0) b dX12_gain_53 (by decide) ?_
  refine z_istore (lv' := [(6, .int 0), (5, .int (-1)), (0, .ref (a 0)), (1, .int 2), (2, .int p0), (3, .int p1), (4, .int p2)]) b dX12_gain_54 (by decide) rfl ?_
  refine z_iconst (v := 0) b dX12_gain_56 (by decide) ?_
  refine z_istore (lv' := [(7, .int 0), (6, .int 0), (5, .int (-1)), (0, .ref (a 0)), (1, .int 2), (2, .int p0), (3, .int p1), (4, .int p2)]) b dX12_gain_57 (by decide) rfl ?_
  refine z_iload b dX12_gain_59 rfl ?_
  refine z_aload_n b dX12_gain_61 rfl rfl ?_
  refine z_get (q0 := 0) (k9 := 55) (v := .int 1) b (mw_0 cy a (si (su (su (sv (su (su (si S 22 (-1)) 29 992 0) 30 0 992) 0 0 1649317774848) 26 0 (-1)) 27 0 (-1)) 21 1)) rfl in_X12 (by decide) wf_X12_405 rfl dX12_gain_62 ?_
  refine z_icmp_ge_f (tgt := 147) b dX12_gain_65 (by decide) (by decide) ?_
  refine z_aload_n b dX12_gain_68 rfl rfl ?_
  refine z_aload_n b dX12_gain_69 rfl rfl ?_
  refine z_get (q0 := 0) (k9 := 49) (v := .ref (a 27)) b (mw_0 cy a (si (su (su (sv (su (su (si S 22 (-1)) 29 992 0) 30 0 992) 0 0 1649317774848) 26 0 (-1)) 27 0 (-1)) 21 1)) rfl in_X12 (by decide) wf_X12_97 rfl dX12_gain_70 ?_
  refine z_iload b dX12_gain_73 rfl ?_
  refine y_lald (q0 := 27) (j := 0) (v := 1649317774848) b (mw_27 cy a (si (su (su (sv (su (su (si S 22 (-1)) 29 992 0) 30 0 992) 0 0 1649317774848) 26 0 (-1)) 27 0 (-1)) 21 1)) (by decide) rfl dX12_gain_75 ?_
  refine z_callv b (z_runV (q0 := 0) (As := [.long 1649317774848]) (st := []) b (c_X12_takes (si (su (su (sv (su (su (si S 22 (-1)) 29 992 0) 30 0 992) 0 0 1649317774848) 26 0 (-1)) 27 0 (-1)) 21 1) h_a_4_7 h_a_1_7 h_a_4_6 h_a_1_6 h_a_3_6 h_a_3_2 h_a_2_2 h_a_0_2 h_a_4_3 h_a_1_3 h_a_4_5 h_a_1_5 h_a_3_5 h_a_3_7 h_a_2_1 h_a_0_1 h_a_4_2 h_a_1_2 h_a_4_1 h_a_1_1 h_a_3_1 h_a_3_3 h_a_2_0 h_a_0_0 h_i_0) cf_X12_takes (mw_0 cy a (si (su (su (sv (su (su (si S 22 (-1)) 29 992 0) 30 0 992) 0 0 1649317774848) 26 0 (-1)) 27 0 (-1)) 21 1)) rfl wm_X12_174 wi_X12_takes ws_X12_takes dX12_gain_76 rfl (Nat.le_of_ble_eq_true rfl) ⟨by decide, by decide, by decide, by decide⟩) (fun u13228 h13226 => ?_)
  obtain rfl := h13226
  refine z_aload_n b dX12_gain_79 rfl rfl ?_
  refine z_get (q0 := 0) (k9 := 0) (v := .ref (a 1)) b (mw_0 cy a (si (su (su (sv (su (su (si S 22 (-1)) 29 992 0) 30 0 992) 0 0 1649317774848) 26 0 (-1)) 27 0 (-1)) 21 1)) rfl in_X12 (by decide) wf_X12_13 rfl dX12_gain_80 ?_
  refine z_iload_n b dX12_gain_83 rfl rfl ?_
  refine y_iald (q0 := 1) (j := 2) (v := (ar (si (su (su (sv (su (su (si S 22 (-1)) 29 992 0) 30 0 992) 0 0 1649317774848) 26 0 (-1)) 27 0 (-1)) 21 1) 0 2)) b (mw_1 cy a (si (su (su (sv (su (su (si S 22 (-1)) 29 992 0) 30 0 992) 0 0 1649317774848) 26 0 (-1)) 27 0 (-1)) 21 1)) (by decide) rfl dX12_gain_84 ?_
  refine z_eqi h_a_0_2 ?_
  refine z_aload_n b dX12_gain_85 rfl rfl ?_
  refine z_get (q0 := 0) (k9 := 1) (v := .ref (a 2)) b (mw_0 cy a (si (su (su (sv (su (su (si S 22 (-1)) 29 992 0) 30 0 992) 0 0 1649317774848) 26 0 (-1)) 27 0 (-1)) 21 1)) rfl in_X12 (by decide) wf_X12_17 rfl dX12_gain_86 ?_
  refine z_iconst (v := 3) b dX12_gain_89 (by decide) ?_
  refine z_iload_n b dX12_gain_90 rfl rfl ?_
  refine z_imul (v := 6) b dX12_gain_91 (by decide) ?_
  refine z_iload_n b dX12_gain_92 rfl rfl ?_
  refine z_iconst (v := 0) b dX12_gain_93 (by decide) ?_
  refine z_calli b (z_runS (As := [.int 2, .int 0]) (st := [.int 6, .ref (a 2), .int 0]) b (c_X12_other_2 (si (su (su (sv (su (su (si S 22 (-1)) 29 992 0) 30 0 992) 0 0 1649317774848) 26 0 (-1)) 27 0 (-1)) 21 1) ) cf_X12_other wm_X12_160 ws_X12_other dX12_gain_94 rfl (Nat.le_of_ble_eq_true rfl) ⟨by decide, by decide, by decide, by decide⟩) (fun r13230 u13231 h13229 => ?_)
  obtain ⟨rfl, rfl⟩ := h13229
  refine z_iadd (v := 6) b dX12_gain_97 (by decide) ?_
  refine y_iald (q0 := 2) (j := 6) (v := (ar (si (su (su (sv (su (su (si S 22 (-1)) 29 992 0) 30 0 992) 0 0 1649317774848) 26 0 (-1)) 27 0 (-1)) 21 1) 1 6)) b (mw_2 cy a (si (su (su (sv (su (su (si S 22 (-1)) 29 992 0) 30 0 992) 0 0 1649317774848) 26 0 (-1)) 27 0 (-1)) 21 1)) (by decide) rfl dX12_gain_98 ?_
  refine z_eqi h_a_1_6 ?_
  refine z_isub (v := 0) b dX12_gain_99 (by decide) ?_
  refine z_aload_n b dX12_gain_100 rfl rfl ?_
  refine z_get (q0 := 0) (k9 := 1) (v := .ref (a 2)) b (mw_0 cy a (si (su (su (sv (su (su (si S 22 (-1)) 29 992 0) 30 0 992) 0 0 1649317774848) 26 0 (-1)) 27 0 (-1)) 21 1)) rfl in_X12 (by decide) wf_X12_17 rfl dX12_gain_101 ?_
  refine z_iconst (v := 3) b dX12_gain_104 (by decide) ?_
  refine z_iload_n b dX12_gain_105 rfl rfl ?_
  refine z_imul (v := 6) b dX12_gain_106 (by decide) ?_
  refine z_iload_n b dX12_gain_107 rfl rfl ?_
  refine z_iconst (v := 1) b dX12_gain_108 (by decide) ?_
  refine z_calli b (z_runS (As := [.int 2, .int 1]) (st := [.int 6, .ref (a 2), .int 0]) b (c_X12_other (si (su (su (sv (su (su (si S 22 (-1)) 29 992 0) 30 0 992) 0 0 1649317774848) 26 0 (-1)) 27 0 (-1)) 21 1) ) cf_X12_other wm_X12_160 ws_X12_other dX12_gain_109 rfl (Nat.le_of_ble_eq_true rfl) ⟨by decide, by decide, by decide, by decide⟩) (fun r13233 u13234 h13232 => ?_)
  obtain ⟨rfl, rfl⟩ := h13232
  refine z_iadd (v := 7) b dX12_gain_112 (by decide) ?_
  refine y_iald (q0 := 2) (j := 7) (v := (ar (si (su (su (sv (su (su (si S 22 (-1)) 29 992 0) 30 0 992) 0 0 1649317774848) 26 0 (-1)) 27 0 (-1)) 21 1) 1 7)) b (mw_2 cy a (si (su (su (sv (su (su (si S 22 (-1)) 29 992 0) 30 0 992) 0 0 1649317774848) 26 0 (-1)) 27 0 (-1)) 21 1)) (by decide) rfl dX12_gain_113 ?_
  refine z_eqi h_a_1_7 ?_
  refine z_isub (v := 0) b dX12_gain_114 (by decide) ?_
  refine z_istore (lv' := [(8, .int 0), (7, .int 0), (6, .int 0), (5, .int (-1)), (0, .ref (a 0)), (1, .int 2), (2, .int p0), (3, .int p1), (4, .int p2)]) b dX12_gain_115 (by decide) rfl ?_
  refine z_iload b dX12_gain_117 rfl ?_
  refine z_iconst (v := (-1)) b dX12_gain_119 (by decide) ?_
  refine z_icmp_eq_t (tgt := 133) b dX12_gain_120 (by decide) (by decide) ?_
  refine z_iload b dX12_gain_133 rfl ?_
  refine z_istore (lv' := [(5, .int 0), (8, .int 0), (7, .int 0), (6, .int 0), (0, .ref (a 0)), (1, .int 2), (2, .int p0), (3, .int p1), (4, .int p2)]) b dX12_gain_135 (by decide) rfl ?_
  refine z_iload b dX12_gain_137 rfl ?_
  refine z_istore (lv' := [(6, .int 0), (5, .int 0), (8, .int 0), (7, .int 0), (0, .ref (a 0)), (1, .int 2), (2, .int p0), (3, .int p1), (4, .int p2)]) b dX12_gain_139 (by decide) rfl ?_
  refine z_iinc (k9 := 3) (v := 1) (lv' := [(7, .int 1), (6, .int 0), (5, .int 0), (8, .int 0), (0, .ref (a 0)), (1, .int 2), (2, .int p0), (3, .int p1), (4, .int p2)]) b dX12_gain_141 rfl (by decide) (by decide) rfl ?_
  refine z_goto (tgt := 59) b dX12_gain_144 (by decide) ?_
  refine z_iload b dX12_gain_59 rfl ?_
  refine z_aload_n b dX12_gain_61 rfl rfl ?_
  refine z_get (q0 := 0) (k9 := 55) (v := .int 1) b (mw_0 cy a (si (su (su (sv (su (su (si S 22 (-1)) 29 992 0) 30 0 992) 0 0 1649317774848) 26 0 (-1)) 27 0 (-1)) 21 1)) rfl in_X12 (by decide) wf_X12_405 rfl dX12_gain_62 ?_
  refine z_icmp_ge_t (tgt := 147) b dX12_gain_65 (by decide) (by decide) ?_
  refine z_iload b dX12_gain_147 rfl ?_
  refine z_iconst (v := 2) b dX12_gain_149 (by decide) ?_
  refine y_icmp_ge (tgt := 171) (xl := p2.toInt) (yl := 2) b rfl (by decide) dX12_gain_150 (by decide) (fun c13235 => ?_) (fun c13235 => ?_)
  · refine z_iload b dX12_gain_171 rfl ?_
    refine z_iconst (v := 2) b dX12_gain_173 (by decide) ?_
    refine z_isub b dX12_gain_174 rfl ?_
    have f13236 : ((p2 - 2) : Int32).toInt = p2.toInt + (-2) := zisub (k := 2) (by decide) (by omega) (by omega)
    refine z_aload_n b dX12_gain_175 rfl rfl ?_
    refine z_get (q0 := 0) (k9 := 52) (v := .ref (a 30)) b (mw_0 cy a (si (su (su (sv (su (su (si S 22 (-1)) 29 992 0) 30 0 992) 0 0 1649317774848) 26 0 (-1)) 27 0 (-1)) 21 1)) rfl in_X12 (by decide) wf_X12_107 rfl dX12_gain_176 ?_
    refine z_iload b dX12_gain_179 rfl ?_
    refine y_iald (q0 := 30) (j := 0) (v := (ar (si (su (su (sv (su (su (si S 22 (-1)) 29 992 0) 30 0 992) 0 0 1649317774848) 26 0 (-1)) 27 0 (-1)) 21 1) 28 0)) b (mw_30 cy a (si (su (su (sv (su (su (si S 22 (-1)) 29 992 0) 30 0 992) 0 0 1649317774848) 26 0 (-1)) 27 0 (-1)) 21 1)) (by decide) rfl dX12_gain_181 ?_
    refine z_eqi h_a_28_0 ?_
    refine y_icmp_ge (tgt := 198) (xl := ((p2 - 2) : Int32).toInt) (yl := 0) b rfl (by decide) dX12_gain_182 (by decide) (fun c13237 => ?_) (fun c13237 => ?_)
    · refine z_bipush (v := (-100)) b dX12_gain_198 (by decide) ?_
      exact z_iret (u := (si (su (su (sv (su (su (si S 22 (-1)) 29 992 0) 30 0 992) 0 0 1649317774848) 26 0 (-1)) 27 0 (-1)) 21 1)) b rfl dX12_gain_200 ⟨rfl, rfl⟩ rfl (by decide) (by decide)
    · exfalso; omega
  · exfalso; omega

set_option maxHeartbeats 4000000 in
set_option maxRecDepth 100000 in
theorem c_X11_gain_44 {l : Launch} {D : va_G} {cy : Nat → ClassId} {T0 tB tE : Nat} {a : Nat → Nat} {rw : Nat → Option Nat} (S : GS) (p0 : Int32) (p1 : Int32) (p2 : Int32) (h_i_19 : fi S 19 = 0) (h_i_24 : fi S 24 = 0) (h_i_22 : fi S 22 = 0) (h_i_18 : fi S 18 = 0) (h_i_25 : fi S 25 = 0) (h_i_23 : fi S 23 = 0) (h_i_26 : fi S 26 = 0) (h_a_4_50 : ar S 4 50 = 0) (h_a_4_40 : ar S 4 40 = 3) (h_a_4_41 : ar S 4 41 = 3) (h_a_4_42 : ar S 4 42 = 3) (h_a_4_0 : ar S 4 0 = 0) (h_a_4_11 : ar S 4 11 = 0) (h_a_4_21 : ar S 4 21 = 0) (h_a_4_31 : ar S 4 31 = 0) (h_a_4_12 : ar S 4 12 = 0) (h_a_4_22 : ar S 4 22 = 0) (h_a_4_32 : ar S 4 32 = 0) (h_a_4_1 : ar S 4 1 = 0) (h_a_4_13 : ar S 4 13 = 0) (h_a_4_23 : ar S 4 23 = 0) (h_a_4_33 : ar S 4 33 = 0) (h_a_4_15 : ar S 4 15 = 0) (h_a_4_25 : ar S 4 25 = 0) (h_a_4_35 : ar S 4 35 = 0) (h_a_4_2 : ar S 4 2 = 0) (h_a_4_16 : ar S 4 16 = 0) (h_a_4_26 : ar S 4 26 = 0) (h_a_4_36 : ar S 4 36 = 0) (h_a_4_17 : ar S 4 17 = 0) (h_a_4_27 : ar S 4 27 = 0) (h_a_4_37 : ar S 4 37 = 0) (h_a_10_0 : ar S 10 0 = 0) (h_a_9_50 : ar S 9 50 = 0) (h_a_9_40 : ar S 9 40 = 3) (h_a_9_41 : ar S 9 41 = 3) (h_a_9_42 : ar S 9 42 = 3) (h_a_9_0 : ar S 9 0 = 0) (h_a_9_11 : ar S 9 11 = 0) (h_a_9_21 : ar S 9 21 = 0) (h_a_9_31 : ar S 9 31 = 0) (h_a_9_12 : ar S 9 12 = 0) (h_a_9_22 : ar S 9 22 = 0) (h_a_9_32 : ar S 9 32 = 0) (h_a_9_1 : ar S 9 1 = 0) (h_a_9_13 : ar S 9 13 = 0) (h_a_9_23 : ar S 9 23 = 0) (h_a_9_33 : ar S 9 33 = 0) (h_a_9_15 : ar S 9 15 = 0) (h_a_9_25 : ar S 9 25 = 0) (h_a_9_35 : ar S 9 35 = 0) (h_a_9_2 : ar S 9 2 = 0) (h_a_9_16 : ar S 9 16 = 0) (h_a_9_26 : ar S 9 26 = 0) (h_a_9_36 : ar S 9 36 = 0) (h_a_9_17 : ar S 9 17 = 0) (h_a_9_27 : ar S 9 27 = 0) (h_a_9_37 : ar S 9 37 = 0) (hr_p0 : 1 ≤ p0.toInt ∧ p0.toInt ≤ 3) (hr_p1 : 1 ≤ p1.toInt ∧ p1.toInt ≤ 6) (hr_p2 : 8 ≤ p2.toInt ∧ p2.toInt ≤ 2147483647) : Ct l D cy T0 tB tE yX11_gain cX11_gain 7 (some .int) 5 117 0 0 (cw cy tE a rw S) [.ref (a 0), .int 2, .int p0, .int p1, .int p2] (QI D (U := GS) (fun r u => (((0 ≤ p2.toInt) ∧ (((0 < ((fi (su (si (su (su (sv (sa (si (si (si (si S 24 1) 19 p0) 20 p1) 21 7) 13 (fil 1024 0 (ar (si (si (si (si S 24 1) 19 p0) 20 p1) 21 7) 13))) 2 0 4128768) 11 0 (-1)) 12 0 (-1)) 25 1) 13 978 1) 20) : Int32).toInt))) ∧ (p2.toInt ≠ 0) ∧ (p2.toInt ≠ 1)) ∧ (-100) = r ∧ (si (su (si (su (su (sv (sa (si (si (si (si S 24 1) 19 p0) 20 p1) 21 7) 13 (fil 1024 0 (ar (si (si (si (si S 24 1) 19 p0) 20 p1) 21 7) 13))) 2 0 4128768) 11 0 (-1)) 12 0 (-1)) 25 1) 13 978 1) 23 1) = u) ∨ (((0 ≤ p2.toInt) ∧ (((((fi (su (si (su (su (sv (sa (si (si (si (si S 24 1) 19 p0) 20 p1) 21 7) 13 (fil 1024 0 (ar (si (si (si (si S 24 1) 19 p0) 20 p1) 21 7) 13))) 2 0 4128768) 11 0 (-1)) 12 0 (-1)) 25 1) 13 978 1) 20) : Int32).toInt ≤ 0))) ∧ (p2.toInt ≠ 0) ∧ (p2.toInt ≠ 1)) ∧ (-100) = r ∧ (su (si (su (su (sv (sa (si (si (si (si S 24 1) 19 p0) 20 p1) 21 7) 13 (fil 1024 0 (ar (si (si (si (si S 24 1) 19 p0) 20 p1) 21 7) 13))) 2 0 4128768) 11 0 (-1)) 12 0 (-1)) 25 1) 13 978 1) = u)) (cw cy tE a rw)) := by
  refine Ct.ofZ RX11 "gain" [(0, .ref (a 0)), (1, .int 2), (2, .int p0), (3, .int p1), (4, .int p2)] rfl rfl rfl rfl (Nat.le_of_ble_eq_true rfl) ?_
  intro p e R s m args below meth c A b
  refine z_iload_n b dX11_gain_0 rfl rfl ?_
  refine z_calli b (z_runS (As := [.int 2]) (st := []) b (c_X11_isPerson_5 S ) cf_X11_isPerson wm_X11_69 ws_X11_isPerson dX11_gain_1 rfl (Nat.le_of_ble_eq_true rfl) ⟨by decide, by decide, by decide, by decide⟩) (fun r13239 u13240 h13238 => ?_)
  obtain ⟨rfl, rfl⟩ := h13238
  refine z_if_eq_f (tgt := 26) b dX11_gain_4 (by decide) (by decide) ?_
  refine z_iload_n b dX11_gain_7 rfl rfl ?_
  refine z_calli b (z_runS (As := [.int p0]) (st := []) b (c_X11_areLaws_3 S p0 ⟨by omega, by omega⟩) cf_X11_areLaws wm_X11_181 ws_X11_areLaws dX11_gain_8 rfl (Nat.le_of_ble_eq_true rfl) ⟨by decide, by decide, by decide, by decide⟩) (fun r13242 u13243 h13241 => ?_)
  obtain ⟨rfl, rfl⟩ := h13241
  refine z_if_eq_f (tgt := 26) b dX11_gain_11 (by decide) (by decide) ?_
  refine z_iload_n b dX11_gain_14 rfl rfl ?_
  refine z_calli b (z_runS (As := [.int p1]) (st := []) b (c_X11_isDepth_3 S p1 ⟨by omega, by omega⟩) cf_X11_isDepth wm_X11_203 ws_X11_isDepth dX11_gain_15 rfl (Nat.le_of_ble_eq_true rfl) ⟨by decide, by decide, by decide, by decide⟩) (fun r13245 u13246 h13244 => ?_)
  obtain ⟨rfl, rfl⟩ := h13244
  refine z_if_eq_f (tgt := 26) b dX11_gain_18 (by decide) (by decide) ?_
  refine z_iload b dX11_gain_21 rfl ?_
  refine y_if_ge (tgt := 29) (xl := p2.toInt) b rfl dX11_gain_23 (by decide) (fun c13247 => ?_) (fun c13247 => ?_)
  · refine z_aload_n b dX11_gain_29 rfl rfl ?_
    refine z_get (q0 := 0) (k9 := 6) (v := .ref (a 25)) b (cw_0 cy tE a rw S) rfl in_X11 (by decide) wf_X11_52 rfl dX11_gain_30 ?_
    refine z_iload_n b dX11_gain_33 rfl rfl ?_
    refine z_iload_n b dX11_gain_34 rfl rfl ?_
    refine z_bipush (v := 7) b dX11_gain_35 (by decide) ?_
    refine z_iconst (v := 0) b dX11_gain_37 (by decide) ?_
    refine z_callv b (z_runV (q0 := 25) (As := [.int p0, .int p1, .int 7, .int 0]) (st := []) b (c_X8_begin_2 S p0 p1 h_i_19 h_i_24 h_i_22 h_i_18 h_i_25 h_i_23 h_i_26 h_a_4_50 h_a_4_40 h_a_4_41 h_a_4_42 h_a_4_0 h_a_4_11 h_a_4_21 h_a_4_31 h_a_4_12 h_a_4_22 h_a_4_32 h_a_4_1 h_a_4_13 h_a_4_23 h_a_4_33 h_a_4_15 h_a_4_25 h_a_4_35 h_a_4_2 h_a_4_16 h_a_4_26 h_a_4_36 h_a_4_17 h_a_4_27 h_a_4_37 h_a_10_0 ⟨by omega, by omega⟩ ⟨by omega, by omega⟩) cf_X8_begin (cw_25 cy tE a rw S) rfl wm_X11_206 wi_X8_begin ws_X8_begin dX11_gain_38 rfl (Nat.le_of_ble_eq_true rfl) ⟨by decide, by decide, by decide, by decide⟩) (fun u13250 h13248 => ?_)
    obtain rfl := h13248
    refine z_aload_n b dX11_gain_41 rfl rfl ?_
    refine z_get (q0 := 0) (k9 := 6) (v := .ref (a 25)) b (cw_0 cy tE a rw (su (si (su (su (sv (sa (si (si (si (si S 24 1) 19 p0) 20 p1) 21 7) 13 (fil 1024 0 (ar (si (si (si (si S 24 1) 19 p0) 20 p1) 21 7) 13))) 2 0 4128768) 11 0 (-1)) 12 0 (-1)) 25 1) 13 978 1)) rfl in_X11 (by decide) wf_X11_52 rfl dX11_gain_42 ?_
    refine z_callv b (z_runV (q0 := 25) (As := []) (st := []) b (c_X8_finish_2 (su (si (su (su (sv (sa (si (si (si (si S 24 1) 19 p0) 20 p1) 21 7) 13 (fil 1024 0 (ar (si (si (si (si S 24 1) 19 p0) 20 p1) 21 7) 13))) 2 0 4128768) 11 0 (-1)) 12 0 (-1)) 25 1) 13 978 1) h_i_26 h_i_23 rfl h_a_10_0 rfl h_a_9_50 h_a_9_40 h_a_9_41 h_a_9_42 h_a_9_0 h_a_9_11 h_a_9_21 h_a_9_31 h_a_9_12 h_a_9_22 h_a_9_32 h_a_9_1 h_a_9_13 h_a_9_23 h_a_9_33 h_a_9_15 h_a_9_25 h_a_9_35 h_a_9_2 h_a_9_16 h_a_9_26 h_a_9_36 h_a_9_17 h_a_9_27 h_a_9_37 h_i_18) cf_X8_finish (cw_25 cy tE a rw (su (si (su (su (sv (sa (si (si (si (si S 24 1) 19 p0) 20 p1) 21 7) 13 (fil 1024 0 (ar (si (si (si (si S 24 1) 19 p0) 20 p1) 21 7) 13))) 2 0 4128768) 11 0 (-1)) 12 0 (-1)) 25 1) 13 978 1)) rfl wm_X11_232 wi_X8_finish ws_X8_finish dX11_gain_45 rfl (Nat.le_of_ble_eq_true rfl) ⟨by decide, by decide, by decide, by decide⟩) (fun u13253 h13251 => ?_)
    rcases h13251 with ⟨c13254, rfl⟩ | ⟨c13255, rfl⟩
    · refine z_aload_n b dX11_gain_48 rfl rfl ?_
      refine z_get (q0 := 0) (k9 := 6) (v := .ref (a 25)) b (cw_0 cy tE a rw (si (su (si (su (su (sv (sa (si (si (si (si S 24 1) 19 p0) 20 p1) 21 7) 13 (fil 1024 0 (ar (si (si (si (si S 24 1) 19 p0) 20 p1) 21 7) 13))) 2 0 4128768) 11 0 (-1)) 12 0 (-1)) 25 1) 13 978 1) 23 1)) rfl in_X11 (by decide) wf_X11_52 rfl dX11_gain_49 ?_
      refine z_get (q0 := 25) (k9 := 18) (v := .int (fi (si (su (si (su (su (sv (sa (si (si (si (si S 24 1) 19 p0) 20 p1) 21 7) 13 (fil 1024 0 (ar (si (si (si (si S 24 1) 19 p0) 20 p1) 21 7) 13))) 2 0 4128768) 11 0 (-1)) 12 0 (-1)) 25 1) 13 978 1) 23 1) 26)) b (cw_25 cy tE a rw (si (su (si (su (su (sv (sa (si (si (si (si S 24 1) 19 p0) 20 p1) 21 7) 13 (fil 1024 0 (ar (si (si (si (si S 24 1) 19 p0) 20 p1) 21 7) 13))) 2 0 4128768) 11 0 (-1)) 12 0 (-1)) 25 1) 13 978 1) 23 1)) rfl in_X8 (by decide) wf_X11_214 rfl dX11_gain_52 ?_
      refine z_eqi h_i_26 ?_
      refine z_if_eq_t (tgt := 61) b dX11_gain_55 (by decide) (by decide) ?_
      refine z_aload_n b dX11_gain_61 rfl rfl ?_
      refine z_get (q0 := 0) (k9 := 6) (v := .ref (a 25)) b (cw_0 cy tE a rw (si (su (si (su (su (sv (sa (si (si (si (si S 24 1) 19 p0) 20 p1) 21 7) 13 (fil 1024 0 (ar (si (si (si (si S 24 1) 19 p0) 20 p1) 21 7) 13))) 2 0 4128768) 11 0 (-1)) 12 0 (-1)) 25 1) 13 978 1) 23 1)) rfl in_X11 (by decide) wf_X11_52 rfl dX11_gain_62 ?_
      refine z_iload_n b dX11_gain_65 rfl rfl ?_
      refine z_calli b (z_runV (q0 := 25) (As := [.int 2]) (st := []) b (c_X8_richest_3 (si (su (si (su (su (sv (sa (si (si (si (si S 24 1) 19 p0) 20 p1) 21 7) 13 (fil 1024 0 (ar (si (si (si (si S 24 1) 19 p0) 20 p1) 21 7) 13))) 2 0 4128768) 11 0 (-1)) 12 0 (-1)) 25 1) 13 978 1) 23 1) rfl rfl h_a_9_50 h_a_9_40 h_a_9_41 h_a_9_42 h_a_9_0 h_a_9_11 h_a_9_21 h_a_9_31 h_a_9_12 h_a_9_22 h_a_9_32 h_a_9_1 h_a_9_13 h_a_9_23 h_a_9_33 h_a_9_15 h_a_9_25 h_a_9_35 h_a_9_2 h_a_9_16 h_a_9_26 h_a_9_36 h_a_9_17 h_a_9_27 h_a_9_37) cf_X8_richest (cw_25 cy tE a rw (si (su (si (su (su (sv (sa (si (si (si (si S 24 1) 19 p0) 20 p1) 21 7) 13 (fil 1024 0 (ar (si (si (si (si S 24 1) 19 p0) 20 p1) 21 7) 13))) 2 0 4128768) 11 0 (-1)) 12 0 (-1)) 25 1) 13 978 1) 23 1)) rfl wm_X11_238 wi_X8_richest ws_X8_richest dX11_gain_66 rfl (Nat.le_of_ble_eq_true rfl) ⟨by decide, by decide, by decide, by decide⟩) (fun r13257 u13258 h13256 => ?_)
      obtain ⟨rfl, rfl⟩ := h13256
      refine z_istore (lv' := [(5, .int 0), (0, .ref (a 0)), (1, .int 2), (2, .int p0), (3, .int p1), (4, .int p2)]) b dX11_gain_69 (by decide) rfl ?_
      refine z_iload b dX11_gain_71 rfl ?_
      refine y_if_ne (tgt := 87) (xl := p2.toInt) b rfl dX11_gain_73 (by decide) (fun c13259 => ?_) (fun c13259 => ?_)
      · refine z_iload b dX11_gain_87 rfl ?_
        refine z_iconst (v := 1) b dX11_gain_89 (by decide) ?_
        refine y_icmp_ne (tgt := 103) (xl := p2.toInt) (yl := 1) b rfl (by decide) dX11_gain_90 (by decide) (fun c13260 => ?_) (fun c13260 => ?_)
        · refine z_aload_n b dX11_gain_103 rfl rfl ?_
          refine z_get (q0 := 0) (k9 := 6) (v := .ref (a 25)) b (cw_0 cy tE a rw (si (su (si (su (su (sv (sa (si (si (si (si S 24 1) 19 p0) 20 p1) 21 7) 13 (fil 1024 0 (ar (si (si (si (si S 24 1) 19 p0) 20 p1) 21 7) 13))) 2 0 4128768) 11 0 (-1)) 12 0 (-1)) 25 1) 13 978 1) 23 1)) rfl in_X11 (by decide) wf_X11_52 rfl dX11_gain_104 ?_
          refine z_iload b dX11_gain_107 rfl ?_
          refine z_iload b dX11_gain_109 rfl ?_
          refine z_iconst (v := 2) b dX11_gain_111 (by decide) ?_
          refine z_isub b dX11_gain_112 rfl ?_
          have f13261 : ((p2 - 2) : Int32).toInt = p2.toInt + (-2) := zisub (k := 2) (by decide) (by omega) (by omega)
          refine z_calli b (z_runV (q0 := 25) (As := [.int 0, .int (p2 - 2)]) (st := []) b (c_X8_code_2 (si (su (si (su (su (sv (sa (si (si (si (si S 24 1) 19 p0) 20 p1) 21 7) 13 (fil 1024 0 (ar (si (si (si (si S 24 1) 19 p0) 20 p1) 21 7) 13))) 2 0 4128768) 11 0 (-1)) 12 0 (-1)) 25 1) 13 978 1) 23 1) (p2 - 2) rfl h_a_10_0 ⟨by omega, by omega⟩) cf_X8_code (cw_25 cy tE a rw (si (su (si (su (su (sv (sa (si (si (si (si S 24 1) 19 p0) 20 p1) 21 7) 13 (fil 1024 0 (ar (si (si (si (si S 24 1) 19 p0) 20 p1) 21 7) 13))) 2 0 4128768) 11 0 (-1)) 12 0 (-1)) 25 1) 13 978 1) 23 1)) rfl wm_X11_219 wi_X8_code ws_X8_code dX11_gain_113 rfl (Nat.le_of_ble_eq_true rfl) ⟨by decide, by decide, by decide, by decide⟩) (fun r13263 u13264 h13262 => ?_)
          obtain ⟨rfl, rfl⟩ := h13262
          refine z_istore (lv' := [(6, .int (-1)), (5, .int 0), (0, .ref (a 0)), (1, .int 2), (2, .int p0), (3, .int p1), (4, .int p2)]) b dX11_gain_116 (by decide) rfl ?_
          refine z_iload b dX11_gain_118 rfl ?_
          refine z_iconst (v := (-1)) b dX11_gain_120 (by decide) ?_
          refine z_icmp_ne_f (tgt := 129) b dX11_gain_121 (by decide) (by decide) ?_
          refine z_bipush (v := (-100)) b dX11_gain_124 (by decide) ?_
          refine z_goto (tgt := 131) b dX11_gain_126 (by decide) ?_
          exact z_iret (u := (si (su (si (su (su (sv (sa (si (si (si (si S 24 1) 19 p0) 20 p1) 21 7) 13 (fil 1024 0 (ar (si (si (si (si S 24 1) 19 p0) 20 p1) 21 7) 13))) 2 0 4128768) 11 0 (-1)) 12 0 (-1)) 25 1) 13 978 1) 23 1)) b rfl dX11_gain_131 (Or.inl ⟨⟨c13247, c13254, c13259, c13260⟩, rfl, rfl⟩) rfl (by decide) (by decide)
        · exfalso; omega
      · exfalso; omega
    · refine z_aload_n b dX11_gain_48 rfl rfl ?_
      refine z_get (q0 := 0) (k9 := 6) (v := .ref (a 25)) b (cw_0 cy tE a rw (su (si (su (su (sv (sa (si (si (si (si S 24 1) 19 p0) 20 p1) 21 7) 13 (fil 1024 0 (ar (si (si (si (si S 24 1) 19 p0) 20 p1) 21 7) 13))) 2 0 4128768) 11 0 (-1)) 12 0 (-1)) 25 1) 13 978 1)) rfl in_X11 (by decide) wf_X11_52 rfl dX11_gain_49 ?_
      refine z_get (q0 := 25) (k9 := 18) (v := .int (fi (su (si (su (su (sv (sa (si (si (si (si S 24 1) 19 p0) 20 p1) 21 7) 13 (fil 1024 0 (ar (si (si (si (si S 24 1) 19 p0) 20 p1) 21 7) 13))) 2 0 4128768) 11 0 (-1)) 12 0 (-1)) 25 1) 13 978 1) 26)) b (cw_25 cy tE a rw (su (si (su (su (sv (sa (si (si (si (si S 24 1) 19 p0) 20 p1) 21 7) 13 (fil 1024 0 (ar (si (si (si (si S 24 1) 19 p0) 20 p1) 21 7) 13))) 2 0 4128768) 11 0 (-1)) 12 0 (-1)) 25 1) 13 978 1)) rfl in_X8 (by decide) wf_X11_214 rfl dX11_gain_52 ?_
      refine z_eqi h_i_26 ?_
      refine z_if_eq_t (tgt := 61) b dX11_gain_55 (by decide) (by decide) ?_
      refine z_aload_n b dX11_gain_61 rfl rfl ?_
      refine z_get (q0 := 0) (k9 := 6) (v := .ref (a 25)) b (cw_0 cy tE a rw (su (si (su (su (sv (sa (si (si (si (si S 24 1) 19 p0) 20 p1) 21 7) 13 (fil 1024 0 (ar (si (si (si (si S 24 1) 19 p0) 20 p1) 21 7) 13))) 2 0 4128768) 11 0 (-1)) 12 0 (-1)) 25 1) 13 978 1)) rfl in_X11 (by decide) wf_X11_52 rfl dX11_gain_62 ?_
      refine z_iload_n b dX11_gain_65 rfl rfl ?_
      refine z_calli b (z_runV (q0 := 25) (As := [.int 2]) (st := []) b (c_X8_richest_3 (su (si (su (su (sv (sa (si (si (si (si S 24 1) 19 p0) 20 p1) 21 7) 13 (fil 1024 0 (ar (si (si (si (si S 24 1) 19 p0) 20 p1) 21 7) 13))) 2 0 4128768) 11 0 (-1)) 12 0 (-1)) 25 1) 13 978 1) rfl rfl h_a_9_50 h_a_9_40 h_a_9_41 h_a_9_42 h_a_9_0 h_a_9_11 h_a_9_21 h_a_9_31 h_a_9_12 h_a_9_22 h_a_9_32 h_a_9_1 h_a_9_13 h_a_9_23 h_a_9_33 h_a_9_15 h_a_9_25 h_a_9_35 h_a_9_2 h_a_9_16 h_a_9_26 h_a_9_36 h_a_9_17 h_a_9_27 h_a_9_37) cf_X8_richest (cw_25 cy tE a rw (su (si (su (su (sv (sa (si (si (si (si S 24 1) 19 p0) 20 p1) 21 7) 13 (fil 1024 0 (ar (si (si (si (si S 24 1) 19 p0) 20 p1) 21 7) 13))) 2 0 4128768) 11 0 (-1)) 12 0 (-1)) 25 1) 13 978 1)) rfl wm_X11_238 wi_X8_richest ws_X8_richest dX11_gain_66 rfl (Nat.le_of_ble_eq_true rfl) ⟨by decide, by decide, by decide, by decide⟩) (fun r13266 u13267 h13265 => ?_)
      obtain ⟨rfl, rfl⟩ := h13265
      refine z_istore (lv' := [(5, .int 0), (0, .ref (a 0)), (1, .int 2), (2, .int p0), (3, .int p1), (4, .int p2)]) b dX11_gain_69 (by decide) rfl ?_
      refine z_iload b dX11_gain_71 rfl ?_
      refine y_if_ne (tgt := 87) (xl := p2.toInt) b rfl dX11_gain_73 (by decide) (fun c13268 => ?_) (fun c13268 => ?_)
      · refine z_iload b dX11_gain_87 rfl ?_
        refine z_iconst (v := 1) b dX11_gain_89 (by decide) ?_
        refine y_icmp_ne (tgt := 103) (xl := p2.toInt) (yl := 1) b rfl (by decide) dX11_gain_90 (by decide) (fun c13269 => ?_) (fun c13269 => ?_)
        · refine z_aload_n b dX11_gain_103 rfl rfl ?_
          refine z_get (q0 := 0) (k9 := 6) (v := .ref (a 25)) b (cw_0 cy tE a rw (su (si (su (su (sv (sa (si (si (si (si S 24 1) 19 p0) 20 p1) 21 7) 13 (fil 1024 0 (ar (si (si (si (si S 24 1) 19 p0) 20 p1) 21 7) 13))) 2 0 4128768) 11 0 (-1)) 12 0 (-1)) 25 1) 13 978 1)) rfl in_X11 (by decide) wf_X11_52 rfl dX11_gain_104 ?_
          refine z_iload b dX11_gain_107 rfl ?_
          refine z_iload b dX11_gain_109 rfl ?_
          refine z_iconst (v := 2) b dX11_gain_111 (by decide) ?_
          refine z_isub b dX11_gain_112 rfl ?_
          have f13270 : ((p2 - 2) : Int32).toInt = p2.toInt + (-2) := zisub (k := 2) (by decide) (by omega) (by omega)
          refine z_calli b (z_runV (q0 := 25) (As := [.int 0, .int (p2 - 2)]) (st := []) b (c_X8_code_2 (su (si (su (su (sv (sa (si (si (si (si S 24 1) 19 p0) 20 p1) 21 7) 13 (fil 1024 0 (ar (si (si (si (si S 24 1) 19 p0) 20 p1) 21 7) 13))) 2 0 4128768) 11 0 (-1)) 12 0 (-1)) 25 1) 13 978 1) (p2 - 2) rfl h_a_10_0 ⟨by omega, by omega⟩) cf_X8_code (cw_25 cy tE a rw (su (si (su (su (sv (sa (si (si (si (si S 24 1) 19 p0) 20 p1) 21 7) 13 (fil 1024 0 (ar (si (si (si (si S 24 1) 19 p0) 20 p1) 21 7) 13))) 2 0 4128768) 11 0 (-1)) 12 0 (-1)) 25 1) 13 978 1)) rfl wm_X11_219 wi_X8_code ws_X8_code dX11_gain_113 rfl (Nat.le_of_ble_eq_true rfl) ⟨by decide, by decide, by decide, by decide⟩) (fun r13272 u13273 h13271 => ?_)
          obtain ⟨rfl, rfl⟩ := h13271
          refine z_istore (lv' := [(6, .int (-1)), (5, .int 0), (0, .ref (a 0)), (1, .int 2), (2, .int p0), (3, .int p1), (4, .int p2)]) b dX11_gain_116 (by decide) rfl ?_
          refine z_iload b dX11_gain_118 rfl ?_
          refine z_iconst (v := (-1)) b dX11_gain_120 (by decide) ?_
          refine z_icmp_ne_f (tgt := 129) b dX11_gain_121 (by decide) (by decide) ?_
          refine z_bipush (v := (-100)) b dX11_gain_124 (by decide) ?_
          refine z_goto (tgt := 131) b dX11_gain_126 (by decide) ?_
          exact z_iret (u := (su (si (su (su (sv (sa (si (si (si (si S 24 1) 19 p0) 20 p1) 21 7) 13 (fil 1024 0 (ar (si (si (si (si S 24 1) 19 p0) 20 p1) 21 7) 13))) 2 0 4128768) 11 0 (-1)) 12 0 (-1)) 25 1) 13 978 1)) b rfl dX11_gain_131 (Or.inr ⟨⟨c13247, c13255, c13268, c13269⟩, rfl, rfl⟩) rfl (by decide) (by decide)
        · exfalso; omega
      · exfalso; omega
  · exfalso; omega

set_option maxHeartbeats 4000000 in
set_option maxRecDepth 100000 in
theorem c_X12_gain_44 {l : Launch} {D : va_G} {cy : Nat → ClassId} {T0 tB tE : Nat} {a : Nat → Nat} (S : GS) (p0 : Int32) (p1 : Int32) (p2 : Int32)  (hr_p0 : 1 ≤ p0.toInt ∧ p0.toInt ≤ 3) (hr_p1 : 1 ≤ p1.toInt ∧ p1.toInt ≤ 6) (hr_p2 : 8 ≤ p2.toInt ∧ p2.toInt ≤ 2147483647) : Ct l D cy T0 tB tE yX12_gain cX12_gain 9 (some .int) 2 44 0 0 (mw cy a S) [.ref (a 0), .int 2, .int p0, .int p1, .int p2] (QI D (U := GS) (fun r u => (-100) = r ∧ S = u) (mw cy a)) := by
  refine Ct.ofZ RX12 "gain" [(0, .ref (a 0)), (1, .int 2), (2, .int p0), (3, .int p1), (4, .int p2)] rfl rfl rfl rfl (Nat.le_of_ble_eq_true rfl) ?_
  intro p e R s m args below meth c A b
  refine z_iload_n b dX12_gain_0 rfl rfl ?_
  refine z_calli b (z_runS (As := [.int 2]) (st := []) b (c_X12_isOne_5 S ) cf_X12_isOne wm_X12_170 ws_X12_isOne dX12_gain_1 rfl (Nat.le_of_ble_eq_true rfl) ⟨by decide, by decide, by decide, by decide⟩) (fun r13275 u13276 h13274 => ?_)
  obtain ⟨rfl, rfl⟩ := h13274
  refine z_if_eq_f (tgt := 27) b dX12_gain_4 (by decide) (by decide) ?_
  refine z_aload_n b dX12_gain_7 rfl rfl ?_
  refine z_iload_n b dX12_gain_8 rfl rfl ?_
  refine z_iload_n b dX12_gain_9 rfl rfl ?_
  refine z_calli b (z_runV (q0 := 0) (As := [.int p0, .int p1]) (st := []) b (c_X12_canSearch_5 S p0 p1 ⟨by omega, by omega⟩ ⟨by omega, by omega⟩) cf_X12_canSearch (mw_0 cy a S) rfl wm_X12_433 wi_X12_canSearch ws_X12_canSearch dX12_gain_10 rfl (Nat.le_of_ble_eq_true rfl) ⟨by decide, by decide, by decide, by decide⟩) (fun r13278 u13279 h13277 => ?_)
  obtain ⟨rfl, rfl⟩ := h13277
  refine z_if_eq_f (tgt := 27) b dX12_gain_13 (by decide) (by decide) ?_
  refine z_iload b dX12_gain_16 rfl ?_
  refine z_iconst (v := 0) b dX12_gain_18 (by decide) ?_
  refine z_bipush (v := 7) b dX12_gain_19 (by decide) ?_
  refine z_calli b (z_runS (As := [.int p2, .int 0, .int 7]) (st := []) b (c_X12_isIn_14 S p2 ⟨by omega, by omega⟩) cf_X12_isIn wm_X12_1 ws_X12_isIn dX12_gain_21 rfl (Nat.le_of_ble_eq_true rfl) ⟨by decide, by decide, by decide, by decide⟩) (fun r13281 u13282 h13280 => ?_)
  obtain ⟨rfl, rfl⟩ := h13280
  refine z_if_ne_f (tgt := 30) b dX12_gain_24 (by decide) (by decide) ?_
  refine z_bipush (v := (-100)) b dX12_gain_27 (by decide) ?_
  exact z_iret (u := S) b rfl dX12_gain_29 ⟨rfl, rfl⟩ rfl (by decide) (by decide)

