theorem wm_X11_238 : Cond.methodLink RX11 238 yX8_richest ∈ gT := gT_of 1128 (by decide +kernel) (by decide +kernel)
theorem wm_X8_163 : Cond.methodLink RX8 163 yX8_wealth ∈ gT := gT_of 1132 (by decide +kernel) (by decide +kernel)
theorem wm_X8_161 : Cond.methodLink RX8 161 yX9_get ∈ gT := gT_of 1136 (by decide +kernel) (by decide +kernel)
theorem cf_X9_get : Cf yX9_get cX9_get 2 (some .int) 1 := ⟨gT_of 966 (by decide +kernel) (by decide +kernel), gT_of 95 (by decide +kernel) (by decide +kernel), by decide +kernel, by decide +kernel, by decide +kernel⟩
theorem wi_X9_get : Cond.instanceMethod yX9_get ∈ gT := gT_of 964 (by decide +kernel) (by decide +kernel)
theorem ws_X9_get : Cond.selects yX9_get.cls yX9_get yX9_get ∈ gT := gT_of 965 (by decide +kernel) (by decide +kernel)
theorem cf_X8_wealth : Cf yX8_wealth cX8_wealth 5 (some .int) 2 := ⟨gT_of 1135 (by decide +kernel) (by decide +kernel), gT_of 98 (by decide +kernel) (by decide +kernel), by decide +kernel, by decide +kernel, by decide +kernel⟩
theorem wi_X8_wealth : Cond.instanceMethod yX8_wealth ∈ gT := gT_of 1133 (by decide +kernel) (by decide +kernel)
theorem ws_X8_wealth : Cond.selects yX8_wealth.cls yX8_wealth yX8_wealth ∈ gT := gT_of 1134 (by decide +kernel) (by decide +kernel)
theorem cf_X8_richest : Cf yX8_richest cX8_richest 6 (some .int) 1 := ⟨gT_of 1131 (by decide +kernel) (by decide +kernel), gT_of 98 (by decide +kernel) (by decide +kernel), by decide +kernel, by decide +kernel, by decide +kernel⟩
theorem wi_X8_richest : Cond.instanceMethod yX8_richest ∈ gT := gT_of 1129 (by decide +kernel) (by decide +kernel)
theorem ws_X8_richest : Cond.selects yX8_richest.cls yX8_richest yX8_richest ∈ gT := gT_of 1130 (by decide +kernel) (by decide +kernel)
theorem wm_X11_241 : Cond.methodLink RX11 241 yX8_wealth ∈ gT := gT_of 1137 (by decide +kernel) (by decide +kernel)
theorem wm_X11_217 : Cond.methodLink RX11 217 yX8_acts ∈ gT := gT_of 1082 (by decide +kernel) (by decide +kernel)
theorem cf_X8_acts : Cf yX8_acts cX8_acts 2 (some .int) 1 := ⟨gT_of 1054 (by decide +kernel) (by decide +kernel), gT_of 98 (by decide +kernel) (by decide +kernel), by decide +kernel, by decide +kernel, by decide +kernel⟩
theorem wi_X8_acts : Cond.instanceMethod yX8_acts ∈ gT := gT_of 1052 (by decide +kernel) (by decide +kernel)
theorem ws_X8_acts : Cond.selects yX8_acts.cls yX8_acts yX8_acts ∈ gT := gT_of 1053 (by decide +kernel) (by decide +kernel)
theorem wm_X11_219 : Cond.methodLink RX11 219 yX8_code ∈ gT := gT_of 1083 (by decide +kernel) (by decide +kernel)
theorem wm_X8_117 : Cond.methodLink RX8 117 yX8_acts ∈ gT := gT_of 1051 (by decide +kernel) (by decide +kernel)
theorem cf_X8_code : Cf yX8_code cX8_code 5 (some .int) 2 := ⟨gT_of 1086 (by decide +kernel) (by decide +kernel), gT_of 98 (by decide +kernel) (by decide +kernel), by decide +kernel, by decide +kernel, by decide +kernel⟩
theorem wi_X8_code : Cond.instanceMethod yX8_code ∈ gT := gT_of 1084 (by decide +kernel) (by decide +kernel)
theorem ws_X8_code : Cond.selects yX8_code.cls yX8_code yX8_code ∈ gT := gT_of 1085 (by decide +kernel) (by decide +kernel)
theorem dX11_gain_0 : decode cX11_gain 0 = .ok (.iload_n 1, 1) := by decide +kernel
theorem dX11_gain_1 : decode cX11_gain 1 = .ok (.invokestatic 69, 3) := by decide +kernel
theorem dX11_gain_4 : decode cX11_gain 4 = .ok (.ifCond .eq 22, 3) := by decide +kernel
theorem dX11_gain_7 : decode cX11_gain 7 = .ok (.iload_n 2, 1) := by decide +kernel
theorem dX11_gain_8 : decode cX11_gain 8 = .ok (.invokestatic 181, 3) := by decide +kernel
theorem dX11_gain_11 : decode cX11_gain 11 = .ok (.ifCond .eq 15, 3) := by decide +kernel
theorem dX11_gain_14 : decode cX11_gain 14 = .ok (.iload_n 3, 1) := by decide +kernel
theorem dX11_gain_15 : decode cX11_gain 15 = .ok (.invokestatic 203, 3) := by decide +kernel
theorem dX11_gain_18 : decode cX11_gain 18 = .ok (.ifCond .eq 8, 3) := by decide +kernel
theorem dX11_gain_21 : decode cX11_gain 21 = .ok (.iload 4, 2) := by decide +kernel
theorem dX11_gain_23 : decode cX11_gain 23 = .ok (.ifCond .ge 6, 3) := by decide +kernel
theorem dX11_gain_26 : decode cX11_gain 26 = .ok (.bipush (-100), 2) := by decide +kernel
theorem dX11_gain_28 : decode cX11_gain 28 = .ok (.ireturn, 1) := by decide +kernel
theorem dX11_gain_29 : decode cX11_gain 29 = .ok (.aload_n 0, 1) := by decide +kernel
theorem dX11_gain_30 : decode cX11_gain 30 = .ok (.getfield 52, 3) := by decide +kernel
theorem dX11_gain_33 : decode cX11_gain 33 = .ok (.iload_n 2, 1) := by decide +kernel
theorem dX11_gain_34 : decode cX11_gain 34 = .ok (.iload_n 3, 1) := by decide +kernel
theorem dX11_gain_35 : decode cX11_gain 35 = .ok (.bipush 7, 2) := by decide +kernel
theorem dX11_gain_37 : decode cX11_gain 37 = .ok (.iconst 0, 1) := by decide +kernel
theorem dX11_gain_38 : decode cX11_gain 38 = .ok (.invokevirtual 206, 3) := by decide +kernel
theorem dX11_gain_41 : decode cX11_gain 41 = .ok (.aload_n 0, 1) := by decide +kernel
theorem dX11_gain_42 : decode cX11_gain 42 = .ok (.getfield 52, 3) := by decide +kernel
theorem dX11_gain_45 : decode cX11_gain 45 = .ok (.invokevirtual 232, 3) := by decide +kernel
theorem dX11_gain_48 : decode cX11_gain 48 = .ok (.aload_n 0, 1) := by decide +kernel
theorem dX11_gain_49 : decode cX11_gain 49 = .ok (.getfield 52, 3) := by decide +kernel
theorem dX11_gain_52 : decode cX11_gain 52 = .ok (.getfield 214, 3) := by decide +kernel
theorem dX11_gain_55 : decode cX11_gain 55 = .ok (.ifCond .eq 6, 3) := by decide +kernel
theorem dX11_gain_58 : decode cX11_gain 58 = .ok (.bipush (-101), 2) := by decide +kernel
theorem dX11_gain_60 : decode cX11_gain 60 = .ok (.ireturn, 1) := by decide +kernel
theorem dX11_gain_61 : decode cX11_gain 61 = .ok (.aload_n 0, 1) := by decide +kernel
theorem dX11_gain_62 : decode cX11_gain 62 = .ok (.getfield 52, 3) := by decide +kernel
theorem dX11_gain_65 : decode cX11_gain 65 = .ok (.iload_n 1, 1) := by decide +kernel
theorem dX11_gain_66 : decode cX11_gain 66 = .ok (.invokevirtual 238, 3) := by decide +kernel
theorem dX11_gain_69 : decode cX11_gain 69 = .ok (.istore 5, 2) := by decide +kernel
theorem dX11_gain_71 : decode cX11_gain 71 = .ok (.iload 4, 2) := by decide +kernel
theorem dX11_gain_73 : decode cX11_gain 73 = .ok (.ifCond .ne 14, 3) := by decide +kernel
theorem dX11_gain_76 : decode cX11_gain 76 = .ok (.aload_n 0, 1) := by decide +kernel
theorem dX11_gain_77 : decode cX11_gain 77 = .ok (.getfield 52, 3) := by decide +kernel
theorem dX11_gain_80 : decode cX11_gain 80 = .ok (.iload 5, 2) := by decide +kernel
theorem dX11_gain_82 : decode cX11_gain 82 = .ok (.iload_n 1, 1) := by decide +kernel
theorem dX11_gain_83 : decode cX11_gain 83 = .ok (.invokevirtual 241, 3) := by decide +kernel
theorem dX11_gain_86 : decode cX11_gain 86 = .ok (.ireturn, 1) := by decide +kernel
theorem dX11_gain_87 : decode cX11_gain 87 = .ok (.iload 4, 2) := by decide +kernel
theorem dX11_gain_89 : decode cX11_gain 89 = .ok (.iconst 1, 1) := by decide +kernel
theorem dX11_gain_90 : decode cX11_gain 90 = .ok (.if_icmp .ne 13, 3) := by decide +kernel
theorem dX11_gain_93 : decode cX11_gain 93 = .ok (.aload_n 0, 1) := by decide +kernel
theorem dX11_gain_94 : decode cX11_gain 94 = .ok (.getfield 52, 3) := by decide +kernel
theorem dX11_gain_97 : decode cX11_gain 97 = .ok (.iload 5, 2) := by decide +kernel
theorem dX11_gain_99 : decode cX11_gain 99 = .ok (.invokevirtual 217, 3) := by decide +kernel
theorem dX11_gain_102 : decode cX11_gain 102 = .ok (.ireturn, 1) := by decide +kernel
theorem dX11_gain_103 : decode cX11_gain 103 = .ok (.aload_n 0, 1) := by decide +kernel
theorem dX11_gain_104 : decode cX11_gain 104 = .ok (.getfield 52, 3) := by decide +kernel
theorem dX11_gain_107 : decode cX11_gain 107 = .ok (.iload 5, 2) := by decide +kernel
theorem dX11_gain_109 : decode cX11_gain 109 = .ok (.iload 4, 2) := by decide +kernel
theorem dX11_gain_111 : decode cX11_gain 111 = .ok (.iconst 2, 1) := by decide +kernel
theorem dX11_gain_112 : decode cX11_gain 112 = .ok (.isub, 1) := by decide +kernel
theorem dX11_gain_113 : decode cX11_gain 113 = .ok (.invokevirtual 219, 3) := by decide +kernel
theorem dX11_gain_116 : decode cX11_gain 116 = .ok (.istore 6, 2) := by decide +kernel
theorem dX11_gain_118 : decode cX11_gain 118 = .ok (.iload 6, 2) := by decide +kernel
theorem dX11_gain_120 : decode cX11_gain 120 = .ok (.iconst (-1), 1) := by decide +kernel
theorem dX11_gain_121 : decode cX11_gain 121 = .ok (.if_icmp .ne 8, 3) := by decide +kernel
theorem dX11_gain_124 : decode cX11_gain 124 = .ok (.bipush (-100), 2) := by decide +kernel
theorem dX11_gain_126 : decode cX11_gain 126 = .ok (.goto 5, 3) := by decide +kernel
theorem dX11_gain_129 : decode cX11_gain 129 = .ok (.iload 6, 2) := by decide +kernel
theorem dX11_gain_131 : decode cX11_gain 131 = .ok (.ireturn, 1) := by decide +kernel
theorem dX12_gain_0 : decode cX12_gain 0 = .ok (.iload_n 1, 1) := by decide +kernel
theorem dX12_gain_1 : decode cX12_gain 1 = .ok (.invokestatic 170, 3) := by decide +kernel
theorem dX12_gain_4 : decode cX12_gain 4 = .ok (.ifCond .eq 23, 3) := by decide +kernel
theorem dX12_gain_7 : decode cX12_gain 7 = .ok (.aload_n 0, 1) := by decide +kernel
theorem dX12_gain_8 : decode cX12_gain 8 = .ok (.iload_n 2, 1) := by decide +kernel
theorem dX12_gain_9 : decode cX12_gain 9 = .ok (.iload_n 3, 1) := by decide +kernel
theorem dX12_gain_10 : decode cX12_gain 10 = .ok (.invokevirtual 433, 3) := by decide +kernel
theorem dX12_gain_13 : decode cX12_gain 13 = .ok (.ifCond .eq 14, 3) := by decide +kernel
theorem dX12_gain_16 : decode cX12_gain 16 = .ok (.iload 4, 2) := by decide +kernel
theorem dX12_gain_18 : decode cX12_gain 18 = .ok (.iconst 0, 1) := by decide +kernel
theorem dX12_gain_19 : decode cX12_gain 19 = .ok (.bipush 7, 2) := by decide +kernel
theorem dX12_gain_21 : decode cX12_gain 21 = .ok (.invokestatic 1, 3) := by decide +kernel
theorem dX12_gain_24 : decode cX12_gain 24 = .ok (.ifCond .ne 6, 3) := by decide +kernel
theorem dX12_gain_27 : decode cX12_gain 27 = .ok (.bipush (-100), 2) := by decide +kernel
theorem dX12_gain_29 : decode cX12_gain 29 = .ok (.ireturn, 1) := by decide +kernel
theorem dX12_gain_30 : decode cX12_gain 30 = .ok (.aload_n 0, 1) := by decide +kernel
theorem dX12_gain_31 : decode cX12_gain 31 = .ok (.iconst (-1), 1) := by decide +kernel
theorem dX12_gain_32 : decode cX12_gain 32 = .ok (.iload_n 2, 1) := by decide +kernel
theorem dX12_gain_33 : decode cX12_gain 33 = .ok (.iload_n 3, 1) := by decide +kernel
theorem dX12_gain_34 : decode cX12_gain 34 = .ok (.bipush 7, 2) := by decide +kernel
theorem dX12_gain_36 : decode cX12_gain 36 = .ok (.iconst 0, 1) := by decide +kernel
theorem dX12_gain_37 : decode cX12_gain 37 = .ok (.invokevirtual 436, 3) := by decide +kernel
theorem dX12_gain_40 : decode cX12_gain 40 = .ok (.aload_n 0, 1) := by decide +kernel
theorem dX12_gain_41 : decode cX12_gain 41 = .ok (.getfield 408, 3) := by decide +kernel
theorem dX12_gain_44 : decode cX12_gain 44 = .ok (.ifCond .eq 6, 3) := by decide +kernel
theorem dX12_gain_47 : decode cX12_gain 47 = .ok (.bipush (-101), 2) := by decide +kernel
theorem dX12_gain_49 : decode cX12_gain 49 = .ok (.ireturn, 1) := by decide +kernel
theorem dX12_gain_50 : decode cX12_gain 50 = .ok (.iconst (-1), 1) := by decide +kernel
theorem dX12_gain_51 : decode cX12_gain 51 = .ok (.istore 5, 2) := by decide +kernel
theorem dX12_gain_53 : decode cX12_gain 53 = .ok (.iconst 0, 1) := by decide +kernel
theorem dX12_gain_54 : decode cX12_gain 54 = .ok (.istore 6, 2) := by decide +kernel
theorem dX12_gain_56 : decode cX12_gain 56 = .ok (.iconst 0, 1) := by decide +kernel
theorem dX12_gain_57 : decode cX12_gain 57 = .ok (.istore 7, 2) := by decide +kernel
theorem dX12_gain_59 : decode cX12_gain 59 = .ok (.iload 7, 2) := by decide +kernel
theorem dX12_gain_61 : decode cX12_gain 61 = .ok (.aload_n 0, 1) := by decide +kernel
theorem dX12_gain_62 : decode cX12_gain 62 = .ok (.getfield 405, 3) := by decide +kernel
theorem dX12_gain_65 : decode cX12_gain 65 = .ok (.if_icmp .ge 82, 3) := by decide +kernel
theorem dX12_gain_68 : decode cX12_gain 68 = .ok (.aload_n 0, 1) := by decide +kernel
theorem dX12_gain_69 : decode cX12_gain 69 = .ok (.aload_n 0, 1) := by decide +kernel
theorem dX12_gain_70 : decode cX12_gain 70 = .ok (.getfield 97, 3) := by decide +kernel
theorem dX12_gain_73 : decode cX12_gain 73 = .ok (.iload 7, 2) := by decide +kernel
theorem dX12_gain_75 : decode cX12_gain 75 = .ok (.laload, 1) := by decide +kernel
theorem dX12_gain_76 : decode cX12_gain 76 = .ok (.invokevirtual 174, 3) := by decide +kernel
theorem dX12_gain_79 : decode cX12_gain 79 = .ok (.aload_n 0, 1) := by decide +kernel
theorem dX12_gain_80 : decode cX12_gain 80 = .ok (.getfield 13, 3) := by decide +kernel
theorem dX12_gain_83 : decode cX12_gain 83 = .ok (.iload_n 1, 1) := by decide +kernel
theorem dX12_gain_84 : decode cX12_gain 84 = .ok (.iaload, 1) := by decide +kernel
theorem dX12_gain_85 : decode cX12_gain 85 = .ok (.aload_n 0, 1) := by decide +kernel
theorem dX12_gain_86 : decode cX12_gain 86 = .ok (.getfield 17, 3) := by decide +kernel
theorem dX12_gain_89 : decode cX12_gain 89 = .ok (.iconst 3, 1) := by decide +kernel
theorem dX12_gain_90 : decode cX12_gain 90 = .ok (.iload_n 1, 1) := by decide +kernel
theorem dX12_gain_91 : decode cX12_gain 91 = .ok (.imul, 1) := by decide +kernel
theorem dX12_gain_92 : decode cX12_gain 92 = .ok (.iload_n 1, 1) := by decide +kernel
theorem dX12_gain_93 : decode cX12_gain 93 = .ok (.iconst 0, 1) := by decide +kernel
theorem dX12_gain_94 : decode cX12_gain 94 = .ok (.invokestatic 160, 3) := by decide +kernel
theorem dX12_gain_97 : decode cX12_gain 97 = .ok (.iadd, 1) := by decide +kernel
theorem dX12_gain_98 : decode cX12_gain 98 = .ok (.iaload, 1) := by decide +kernel
theorem dX12_gain_99 : decode cX12_gain 99 = .ok (.isub, 1) := by decide +kernel
theorem dX12_gain_100 : decode cX12_gain 100 = .ok (.aload_n 0, 1) := by decide +kernel
theorem dX12_gain_101 : decode cX12_gain 101 = .ok (.getfield 17, 3) := by decide +kernel
theorem dX12_gain_104 : decode cX12_gain 104 = .ok (.iconst 3, 1) := by decide +kernel
theorem dX12_gain_105 : decode cX12_gain 105 = .ok (.iload_n 1, 1) := by decide +kernel
theorem dX12_gain_106 : decode cX12_gain 106 = .ok (.imul, 1) := by decide +kernel
theorem dX12_gain_107 : decode cX12_gain 107 = .ok (.iload_n 1, 1) := by decide +kernel
theorem dX12_gain_108 : decode cX12_gain 108 = .ok (.iconst 1, 1) := by decide +kernel
theorem dX12_gain_109 : decode cX12_gain 109 = .ok (.invokestatic 160, 3) := by decide +kernel
theorem dX12_gain_112 : decode cX12_gain 112 = .ok (.iadd, 1) := by decide +kernel
theorem dX12_gain_113 : decode cX12_gain 113 = .ok (.iaload, 1) := by decide +kernel
theorem dX12_gain_114 : decode cX12_gain 114 = .ok (.isub, 1) := by decide +kernel
theorem dX12_gain_115 : decode cX12_gain 115 = .ok (.istore 8, 2) := by decide +kernel
theorem dX12_gain_117 : decode cX12_gain 117 = .ok (.iload 5, 2) := by decide +kernel
theorem dX12_gain_119 : decode cX12_gain 119 = .ok (.iconst (-1), 1) := by decide +kernel
theorem dX12_gain_120 : decode cX12_gain 120 = .ok (.if_icmp .eq 13, 3) := by decide +kernel
theorem dX12_gain_123 : decode cX12_gain 123 = .ok (.iload 8, 2) := by decide +kernel
theorem dX12_gain_125 : decode cX12_gain 125 = .ok (.iload 6, 2) := by decide +kernel
theorem dX12_gain_127 : decode cX12_gain 127 = .ok (.if_icmp .gt 6, 3) := by decide +kernel
theorem dX12_gain_130 : decode cX12_gain 130 = .ok (.goto 11, 3) := by decide +kernel
theorem dX12_gain_133 : decode cX12_gain 133 = .ok (.iload 7, 2) := by decide +kernel
theorem dX12_gain_135 : decode cX12_gain 135 = .ok (.istore 5, 2) := by decide +kernel
theorem dX12_gain_137 : decode cX12_gain 137 = .ok (.iload 8, 2) := by decide +kernel
theorem dX12_gain_139 : decode cX12_gain 139 = .ok (.istore 6, 2) := by decide +kernel
theorem dX12_gain_141 : decode cX12_gain 141 = .ok (.iinc 7 1, 3) := by decide +kernel
theorem dX12_gain_144 : decode cX12_gain 144 = .ok (.goto (-85), 3) := by decide +kernel
theorem dX12_gain_147 : decode cX12_gain 147 = .ok (.iload 4, 2) := by decide +kernel
theorem dX12_gain_149 : decode cX12_gain 149 = .ok (.iconst 2, 1) := by decide +kernel
theorem dX12_gain_150 : decode cX12_gain 150 = .ok (.if_icmp .ge 21, 3) := by decide +kernel
theorem dX12_gain_153 : decode cX12_gain 153 = .ok (.iload 4, 2) := by decide +kernel
theorem dX12_gain_155 : decode cX12_gain 155 = .ok (.ifCond .ne 8, 3) := by decide +kernel
theorem dX12_gain_158 : decode cX12_gain 158 = .ok (.iload 6, 2) := by decide +kernel
theorem dX12_gain_160 : decode cX12_gain 160 = .ok (.goto 10, 3) := by decide +kernel
theorem dX12_gain_163 : decode cX12_gain 163 = .ok (.aload_n 0, 1) := by decide +kernel
theorem dX12_gain_164 : decode cX12_gain 164 = .ok (.getfield 107, 3) := by decide +kernel
theorem dX12_gain_167 : decode cX12_gain 167 = .ok (.iload 5, 2) := by decide +kernel
theorem dX12_gain_169 : decode cX12_gain 169 = .ok (.iaload, 1) := by decide +kernel
theorem dX12_gain_170 : decode cX12_gain 170 = .ok (.ireturn, 1) := by decide +kernel
theorem dX12_gain_171 : decode cX12_gain 171 = .ok (.iload 4, 2) := by decide +kernel
theorem dX12_gain_173 : decode cX12_gain 173 = .ok (.iconst 2, 1) := by decide +kernel
theorem dX12_gain_174 : decode cX12_gain 174 = .ok (.isub, 1) := by decide +kernel
theorem dX12_gain_175 : decode cX12_gain 175 = .ok (.aload_n 0, 1) := by decide +kernel
theorem dX12_gain_176 : decode cX12_gain 176 = .ok (.getfield 107, 3) := by decide +kernel
theorem dX12_gain_179 : decode cX12_gain 179 = .ok (.iload 5, 2) := by decide +kernel
theorem dX12_gain_181 : decode cX12_gain 181 = .ok (.iaload, 1) := by decide +kernel
theorem dX12_gain_182 : decode cX12_gain 182 = .ok (.if_icmp .ge 16, 3) := by decide +kernel
theorem dX12_gain_185 : decode cX12_gain 185 = .ok (.aload_n 0, 1) := by decide +kernel
theorem dX12_gain_186 : decode cX12_gain 186 = .ok (.iload 5, 2) := by decide +kernel
theorem dX12_gain_188 : decode cX12_gain 188 = .ok (.iload 4, 2) := by decide +kernel
theorem dX12_gain_190 : decode cX12_gain 190 = .ok (.iconst 2, 1) := by decide +kernel
theorem dX12_gain_191 : decode cX12_gain 191 = .ok (.isub, 1) := by decide +kernel
theorem dX12_gain_192 : decode cX12_gain 192 = .ok (.invokevirtual 439, 3) := by decide +kernel
theorem dX12_gain_195 : decode cX12_gain 195 = .ok (.goto 5, 3) := by decide +kernel
theorem dX12_gain_198 : decode cX12_gain 198 = .ok (.bipush (-100), 2) := by decide +kernel
theorem dX12_gain_200 : decode cX12_gain 200 = .ok (.ireturn, 1) := by decide +kernel
theorem dX8_acts_0 : decode cX8_acts 0 = .ok (.iload_n 1, 1) := by decide +kernel
theorem dX8_acts_1 : decode cX8_acts 1 = .ok (.ifCond .lt 20, 3) := by decide +kernel
theorem dX8_acts_4 : decode cX8_acts 4 = .ok (.iload_n 1, 1) := by decide +kernel
theorem dX8_acts_5 : decode cX8_acts 5 = .ok (.aload_n 0, 1) := by decide +kernel
theorem dX8_acts_6 : decode cX8_acts 6 = .ok (.getfield 64, 3) := by decide +kernel
theorem dX8_acts_9 : decode cX8_acts 9 = .ok (.if_icmp .ge 12, 3) := by decide +kernel
theorem dX8_acts_12 : decode cX8_acts 12 = .ok (.aload_n 0, 1) := by decide +kernel
theorem dX8_acts_13 : decode cX8_acts 13 = .ok (.getfield 22, 3) := by decide +kernel
theorem dX8_acts_16 : decode cX8_acts 16 = .ok (.iload_n 1, 1) := by decide +kernel
theorem dX8_acts_17 : decode cX8_acts 17 = .ok (.iaload, 1) := by decide +kernel
theorem dX8_acts_18 : decode cX8_acts 18 = .ok (.goto 4, 3) := by decide +kernel
theorem dX8_acts_21 : decode cX8_acts 21 = .ok (.iconst 0, 1) := by decide +kernel
theorem dX8_acts_22 : decode cX8_acts 22 = .ok (.ireturn, 1) := by decide +kernel
theorem dX8_code_0 : decode cX8_code 0 = .ok (.iload_n 2, 1) := by decide +kernel
theorem dX8_code_1 : decode cX8_code 1 = .ok (.ifCond .lt 12, 3) := by decide +kernel
theorem dX8_code_4 : decode cX8_code 4 = .ok (.iload_n 2, 1) := by decide +kernel
theorem dX8_code_5 : decode cX8_code 5 = .ok (.aload_n 0, 1) := by decide +kernel
theorem dX8_code_6 : decode cX8_code 6 = .ok (.iload_n 1, 1) := by decide +kernel
theorem dX8_code_7 : decode cX8_code 7 = .ok (.invokevirtual 117, 3) := by decide +kernel
theorem dX8_code_10 : decode cX8_code 10 = .ok (.if_icmp .lt 5, 3) := by decide +kernel
theorem dX8_code_13 : decode cX8_code 13 = .ok (.iconst (-1), 1) := by decide +kernel
theorem dX8_code_14 : decode cX8_code 14 = .ok (.ireturn, 1) := by decide +kernel
theorem dX8_code_15 : decode cX8_code 15 = .ok (.iload_n 1, 1) := by decide +kernel
theorem dX8_code_16 : decode cX8_code 16 = .ok (.istore_n 3, 1) := by decide +kernel
theorem dX8_code_17 : decode cX8_code 17 = .ok (.aload_n 0, 1) := by decide +kernel
theorem dX8_code_18 : decode cX8_code 18 = .ok (.iload_n 1, 1) := by decide +kernel
theorem dX8_code_19 : decode cX8_code 19 = .ok (.invokevirtual 117, 3) := by decide +kernel
theorem dX8_code_22 : decode cX8_code 22 = .ok (.iconst 1, 1) := by decide +kernel
theorem dX8_code_23 : decode cX8_code 23 = .ok (.isub, 1) := by decide +kernel
theorem dX8_code_24 : decode cX8_code 24 = .ok (.iload_n 2, 1) := by decide +kernel
theorem dX8_code_25 : decode cX8_code 25 = .ok (.isub, 1) := by decide +kernel
theorem dX8_code_26 : decode cX8_code 26 = .ok (.istore 4, 2) := by decide +kernel
theorem dX8_code_28 : decode cX8_code 28 = .ok (.iload 4, 2) := by decide +kernel
theorem dX8_code_30 : decode cX8_code 30 = .ok (.ifCond .le 28, 3) := by decide +kernel
theorem dX8_code_33 : decode cX8_code 33 = .ok (.iload_n 3, 1) := by decide +kernel
theorem dX8_code_34 : decode cX8_code 34 = .ok (.ifCond .lt 24, 3) := by decide +kernel
theorem dX8_code_37 : decode cX8_code 37 = .ok (.iload_n 3, 1) := by decide +kernel
theorem dX8_code_38 : decode cX8_code 38 = .ok (.aload_n 0, 1) := by decide +kernel
theorem dX8_code_39 : decode cX8_code 39 = .ok (.getfield 64, 3) := by decide +kernel
theorem dX8_code_42 : decode cX8_code 42 = .ok (.if_icmp .ge 16, 3) := by decide +kernel
theorem dX8_code_45 : decode cX8_code 45 = .ok (.aload_n 0, 1) := by decide +kernel
theorem dX8_code_46 : decode cX8_code 46 = .ok (.getfield 26, 3) := by decide +kernel
theorem dX8_code_49 : decode cX8_code 49 = .ok (.iload_n 3, 1) := by decide +kernel
theorem dX8_code_50 : decode cX8_code 50 = .ok (.iaload, 1) := by decide +kernel
theorem dX8_code_51 : decode cX8_code 51 = .ok (.istore_n 3, 1) := by decide +kernel
theorem dX8_code_52 : decode cX8_code 52 = .ok (.iinc 4 (-1), 3) := by decide +kernel
theorem dX8_code_55 : decode cX8_code 55 = .ok (.goto (-27), 3) := by decide +kernel
theorem dX8_code_58 : decode cX8_code 58 = .ok (.iload_n 3, 1) := by decide +kernel
theorem dX8_code_59 : decode cX8_code 59 = .ok (.ifCond .lt 20, 3) := by decide +kernel
theorem dX8_code_62 : decode cX8_code 62 = .ok (.iload_n 3, 1) := by decide +kernel
theorem dX8_code_63 : decode cX8_code 63 = .ok (.aload_n 0, 1) := by decide +kernel
theorem dX8_code_64 : decode cX8_code 64 = .ok (.getfield 64, 3) := by decide +kernel
theorem dX8_code_67 : decode cX8_code 67 = .ok (.if_icmp .ge 12, 3) := by decide +kernel
theorem dX8_code_70 : decode cX8_code 70 = .ok (.aload_n 0, 1) := by decide +kernel
theorem dX8_code_71 : decode cX8_code 71 = .ok (.getfield 29, 3) := by decide +kernel
theorem dX8_code_74 : decode cX8_code 74 = .ok (.iload_n 3, 1) := by decide +kernel
theorem dX8_code_75 : decode cX8_code 75 = .ok (.iaload, 1) := by decide +kernel
theorem dX8_code_76 : decode cX8_code 76 = .ok (.goto 4, 3) := by decide +kernel
theorem dX8_code_79 : decode cX8_code 79 = .ok (.iconst (-1), 1) := by decide +kernel
theorem dX8_code_80 : decode cX8_code 80 = .ok (.ireturn, 1) := by decide +kernel
theorem dX8_richest_0 : decode cX8_richest 0 = .ok (.iconst 0, 1) := by decide +kernel
theorem dX8_richest_1 : decode cX8_richest 1 = .ok (.istore_n 2, 1) := by decide +kernel
theorem dX8_richest_2 : decode cX8_richest 2 = .ok (.aload_n 0, 1) := by decide +kernel
theorem dX8_richest_3 : decode cX8_richest 3 = .ok (.iconst 0, 1) := by decide +kernel
theorem dX8_richest_4 : decode cX8_richest 4 = .ok (.iload_n 1, 1) := by decide +kernel
theorem dX8_richest_5 : decode cX8_richest 5 = .ok (.invokevirtual 163, 3) := by decide +kernel
theorem dX8_richest_8 : decode cX8_richest 8 = .ok (.istore_n 3, 1) := by decide +kernel
theorem dX8_richest_9 : decode cX8_richest 9 = .ok (.iconst 1, 1) := by decide +kernel
theorem dX8_richest_10 : decode cX8_richest 10 = .ok (.istore 4, 2) := by decide +kernel
theorem dX8_richest_12 : decode cX8_richest 12 = .ok (.iload 4, 2) := by decide +kernel
theorem dX8_richest_14 : decode cX8_richest 14 = .ok (.aload_n 0, 1) := by decide +kernel
theorem dX8_richest_15 : decode cX8_richest 15 = .ok (.getfield 64, 3) := by decide +kernel
theorem dX8_richest_18 : decode cX8_richest 18 = .ok (.if_icmp .ge 38, 3) := by decide +kernel
theorem dX8_richest_21 : decode cX8_richest 21 = .ok (.iload 4, 2) := by decide +kernel
theorem dX8_richest_23 : decode cX8_richest 23 = .ok (.sipush 400, 3) := by decide +kernel
theorem dX8_richest_26 : decode cX8_richest 26 = .ok (.if_icmp .ge 30, 3) := by decide +kernel
theorem dX8_richest_29 : decode cX8_richest 29 = .ok (.aload_n 0, 1) := by decide +kernel
theorem dX8_richest_30 : decode cX8_richest 30 = .ok (.iload 4, 2) := by decide +kernel
theorem dX8_richest_32 : decode cX8_richest 32 = .ok (.iload_n 1, 1) := by decide +kernel
theorem dX8_richest_33 : decode cX8_richest 33 = .ok (.invokevirtual 163, 3) := by decide +kernel
theorem dX8_richest_36 : decode cX8_richest 36 = .ok (.istore 5, 2) := by decide +kernel
theorem dX8_richest_38 : decode cX8_richest 38 = .ok (.iload 5, 2) := by decide +kernel
theorem dX8_richest_40 : decode cX8_richest 40 = .ok (.iload_n 3, 1) := by decide +kernel
theorem dX8_richest_41 : decode cX8_richest 41 = .ok (.if_icmp .le 9, 3) := by decide +kernel
theorem dX8_richest_44 : decode cX8_richest 44 = .ok (.iload 5, 2) := by decide +kernel
theorem dX8_richest_46 : decode cX8_richest 46 = .ok (.istore_n 3, 1) := by decide +kernel
theorem dX8_richest_47 : decode cX8_richest 47 = .ok (.iload 4, 2) := by decide +kernel
theorem dX8_richest_49 : decode cX8_richest 49 = .ok (.istore_n 2, 1) := by decide +kernel
theorem dX8_richest_50 : decode cX8_richest 50 = .ok (.iinc 4 1, 3) := by decide +kernel
theorem dX8_richest_53 : decode cX8_richest 53 = .ok (.goto (-41), 3) := by decide +kernel
theorem dX8_richest_56 : decode cX8_richest 56 = .ok (.iload_n 2, 1) := by decide +kernel
theorem dX8_richest_57 : decode cX8_richest 57 = .ok (.ireturn, 1) := by decide +kernel
theorem dX8_wealth_0 : decode cX8_wealth 0 = .ok (.aload_n 0, 1) := by decide +kernel
theorem dX8_wealth_1 : decode cX8_wealth 1 = .ok (.iload_n 1, 1) := by decide +kernel
theorem dX8_wealth_2 : decode cX8_wealth 2 = .ok (.invokevirtual 153, 3) := by decide +kernel
theorem dX8_wealth_5 : decode cX8_wealth 5 = .ok (.aload_n 0, 1) := by decide +kernel
theorem dX8_wealth_6 : decode cX8_wealth 6 = .ok (.getfield 12, 3) := by decide +kernel
theorem dX8_wealth_9 : decode cX8_wealth 9 = .ok (.iload_n 2, 1) := by decide +kernel
theorem dX8_wealth_10 : decode cX8_wealth 10 = .ok (.invokevirtual 161, 3) := by decide +kernel
theorem dX8_wealth_13 : decode cX8_wealth 13 = .ok (.istore_n 3, 1) := by decide +kernel
theorem dX8_wealth_14 : decode cX8_wealth 14 = .ok (.iconst 0, 1) := by decide +kernel
theorem dX8_wealth_15 : decode cX8_wealth 15 = .ok (.istore 4, 2) := by decide +kernel
theorem dX8_wealth_17 : decode cX8_wealth 17 = .ok (.iload 4, 2) := by decide +kernel
theorem dX8_wealth_19 : decode cX8_wealth 19 = .ok (.iconst 3, 1) := by decide +kernel
theorem dX8_wealth_20 : decode cX8_wealth 20 = .ok (.if_icmp .ge 34, 3) := by decide +kernel
theorem dX8_wealth_23 : decode cX8_wealth 23 = .ok (.iload 4, 2) := by decide +kernel
theorem dX8_wealth_25 : decode cX8_wealth 25 = .ok (.iload_n 2, 1) := by decide +kernel
theorem dX8_wealth_26 : decode cX8_wealth 26 = .ok (.if_icmp .eq 22, 3) := by decide +kernel
theorem dX8_wealth_29 : decode cX8_wealth 29 = .ok (.iload_n 3, 1) := by decide +kernel
theorem dX8_wealth_30 : decode cX8_wealth 30 = .ok (.aload_n 0, 1) := by decide +kernel
theorem dX8_wealth_31 : decode cX8_wealth 31 = .ok (.getfield 12, 3) := by decide +kernel
theorem dX8_wealth_34 : decode cX8_wealth 34 = .ok (.bipush 10, 2) := by decide +kernel
theorem dX8_wealth_36 : decode cX8_wealth 36 = .ok (.iconst 3, 1) := by decide +kernel
theorem dX8_wealth_37 : decode cX8_wealth 37 = .ok (.iload_n 2, 1) := by decide +kernel
theorem dX8_wealth_38 : decode cX8_wealth 38 = .ok (.imul, 1) := by decide +kernel
theorem dX8_wealth_39 : decode cX8_wealth 39 = .ok (.iadd, 1) := by decide +kernel
theorem dX8_wealth_40 : decode cX8_wealth 40 = .ok (.iload 4, 2) := by decide +kernel
theorem dX8_wealth_42 : decode cX8_wealth 42 = .ok (.iadd, 1) := by decide +kernel
theorem dX8_wealth_43 : decode cX8_wealth 43 = .ok (.invokevirtual 161, 3) := by decide +kernel
theorem dX8_wealth_46 : decode cX8_wealth 46 = .ok (.isub, 1) := by decide +kernel
theorem dX8_wealth_47 : decode cX8_wealth 47 = .ok (.istore_n 3, 1) := by decide +kernel
theorem dX8_wealth_48 : decode cX8_wealth 48 = .ok (.iinc 4 1, 3) := by decide +kernel
theorem dX8_wealth_51 : decode cX8_wealth 51 = .ok (.goto (-34), 3) := by decide +kernel
theorem dX8_wealth_54 : decode cX8_wealth 54 = .ok (.iload_n 3, 1) := by decide +kernel
theorem dX8_wealth_55 : decode cX8_wealth 55 = .ok (.ireturn, 1) := by decide +kernel
theorem dX9_get_0 : decode cX9_get 0 = .ok (.iload_n 1, 1) := by decide +kernel
theorem dX9_get_1 : decode cX9_get 1 = .ok (.ifCond .lt 21, 3) := by decide +kernel
theorem dX9_get_4 : decode cX9_get 4 = .ok (.iload_n 1, 1) := by decide +kernel
theorem dX9_get_5 : decode cX9_get 5 = .ok (.aload_n 0, 1) := by decide +kernel
theorem dX9_get_6 : decode cX9_get 6 = .ok (.getfield 11, 3) := by decide +kernel
theorem dX9_get_9 : decode cX9_get 9 = .ok (.arraylength, 1) := by decide +kernel
theorem dX9_get_10 : decode cX9_get 10 = .ok (.if_icmp .ge 12, 3) := by decide +kernel
theorem dX9_get_13 : decode cX9_get 13 = .ok (.aload_n 0, 1) := by decide +kernel
theorem dX9_get_14 : decode cX9_get 14 = .ok (.getfield 11, 3) := by decide +kernel
theorem dX9_get_17 : decode cX9_get 17 = .ok (.iload_n 1, 1) := by decide +kernel
theorem dX9_get_18 : decode cX9_get 18 = .ok (.iaload, 1) := by decide +kernel
theorem dX9_get_19 : decode cX9_get 19 = .ok (.goto 4, 3) := by decide +kernel
theorem dX9_get_22 : decode cX9_get 22 = .ok (.iconst 0, 1) := by decide +kernel
theorem dX9_get_23 : decode cX9_get 23 = .ok (.ireturn, 1) := by decide +kernel
set_option maxHeartbeats 4000000 in
set_option maxRecDepth 100000 in
theorem c_X11_gain {l : Launch} {D : va_G} {cy : Nat → ClassId} {T0 tB tE : Nat} {a : Nat → Nat} {rw : Nat → Option Nat} (S : GS) (p0 : Int32) (p1 : Int32) (p2 : Int32) (p3 : Int32)  (hr_p0 : (-2147483648) ≤ p0.toInt ∧ p0.toInt ≤ (-1)) : Ct l D cy T0 tB tE yX11_gain cX11_gain 7 (some .int) 1 20 0 0 (cw cy tE a rw S) [.ref (a 0), .int p0, .int p1, .int p2, .int p3] (QI D (U := GS) (fun r u => (-100) = r ∧ S = u) (cw cy tE a rw)) := by
  refine Ct.ofZ RX11 "gain" [(0, .ref (a 0)), (1, .int p0), (2, .int p1), (3, .int p2), (4, .int p3)] rfl rfl rfl rfl (Nat.le_of_ble_eq_true rfl) ?_
  intro p e R s m args below meth c A b
  refine z_iload_n b dX11_gain_0 rfl rfl ?_
  refine z_calli b (z_runS (As := [.int p0]) (st := []) b (c_X11_isPerson S p0 ⟨by omega, by omega⟩) cf_X11_isPerson wm_X11_69 ws_X11_isPerson dX11_gain_1 rfl (Nat.le_of_ble_eq_true rfl) ⟨by decide, by decide, by decide, by decide⟩) (fun r11845 u11846 h11844 => ?_)
  obtain ⟨rfl, rfl⟩ := h11844
  refine z_if_eq_t (tgt := 26) b dX11_gain_4 (by decide) (by decide) ?_
  refine z_bipush (v := (-100)) b dX11_gain_26 (by decide) ?_
  exact z_iret (u := S) b rfl dX11_gain_28 ⟨rfl, rfl⟩ rfl (by decide) (by decide)

set_option maxHeartbeats 4000000 in
set_option maxRecDepth 100000 in
theorem c_X12_gain {l : Launch} {D : va_G} {cy : Nat → ClassId} {T0 tB tE : Nat} {a : Nat → Nat} (S : GS) (p0 : Int32) (p1 : Int32) (p2 : Int32) (p3 : Int32)  (hr_p0 : (-2147483648) ≤ p0.toInt ∧ p0.toInt ≤ (-1)) : Ct l D cy T0 tB tE yX12_gain cX12_gain 9 (some .int) 2 42 0 0 (mw cy a S) [.ref (a 0), .int p0, .int p1, .int p2, .int p3] (QI D (U := GS) (fun r u => (-100) = r ∧ S = u) (mw cy a)) := by
  refine Ct.ofZ RX12 "gain" [(0, .ref (a 0)), (1, .int p0), (2, .int p1), (3, .int p2), (4, .int p3)] rfl rfl rfl rfl (Nat.le_of_ble_eq_true rfl) ?_
  intro p e R s m args below meth c A b
  refine z_iload_n b dX12_gain_0 rfl rfl ?_
  refine z_calli b (z_runS (As := [.int p0]) (st := []) b (c_X12_isOne S p0 ⟨by omega, by omega⟩) cf_X12_isOne wm_X12_170 ws_X12_isOne dX12_gain_1 rfl (Nat.le_of_ble_eq_true rfl) ⟨by decide, by decide, by decide, by decide⟩) (fun r11848 u11849 h11847 => ?_)
  obtain ⟨rfl, rfl⟩ := h11847
  refine z_if_eq_t (tgt := 27) b dX12_gain_4 (by decide) (by decide) ?_
  refine z_bipush (v := (-100)) b dX12_gain_27 (by decide) ?_
  exact z_iret (u := S) b rfl dX12_gain_29 ⟨rfl, rfl⟩ rfl (by decide) (by decide)

set_option maxHeartbeats 4000000 in
set_option maxRecDepth 100000 in
theorem c_X11_gain_2 {l : Launch} {D : va_G} {cy : Nat → ClassId} {T0 tB tE : Nat} {a : Nat → Nat} {rw : Nat → Option Nat} (S : GS) (p0 : Int32) (p1 : Int32) (p2 : Int32) (p3 : Int32)  (hr_p0 : 3 ≤ p0.toInt ∧ p0.toInt ≤ 2147483647) : Ct l D cy T0 tB tE yX11_gain cX11_gain 7 (some .int) 1 20 0 0 (cw cy tE a rw S) [.ref (a 0), .int p0, .int p1, .int p2, .int p3] (QI D (U := GS) (fun r u => (-100) = r ∧ S = u) (cw cy tE a rw)) := by
  refine Ct.ofZ RX11 "gain" [(0, .ref (a 0)), (1, .int p0), (2, .int p1), (3, .int p2), (4, .int p3)] rfl rfl rfl rfl (Nat.le_of_ble_eq_true rfl) ?_
  intro p e R s m args below meth c A b
  refine z_iload_n b dX11_gain_0 rfl rfl ?_
  refine z_calli b (z_runS (As := [.int p0]) (st := []) b (c_X11_isPerson_2 S p0 ⟨by omega, by omega⟩) cf_X11_isPerson wm_X11_69 ws_X11_isPerson dX11_gain_1 rfl (Nat.le_of_ble_eq_true rfl) ⟨by decide, by decide, by decide, by decide⟩) (fun r11851 u11852 h11850 => ?_)
  obtain ⟨rfl, rfl⟩ := h11850
  refine z_if_eq_t (tgt := 26) b dX11_gain_4 (by decide) (by decide) ?_
  refine z_bipush (v := (-100)) b dX11_gain_26 (by decide) ?_
  exact z_iret (u := S) b rfl dX11_gain_28 ⟨rfl, rfl⟩ rfl (by decide) (by decide)

set_option maxHeartbeats 4000000 in
set_option maxRecDepth 100000 in
theorem c_X12_gain_2 {l : Launch} {D : va_G} {cy : Nat → ClassId} {T0 tB tE : Nat} {a : Nat → Nat} (S : GS) (p0 : Int32) (p1 : Int32) (p2 : Int32) (p3 : Int32)  (hr_p0 : 3 ≤ p0.toInt ∧ p0.toInt ≤ 2147483647) : Ct l D cy T0 tB tE yX12_gain cX12_gain 9 (some .int) 2 42 0 0 (mw cy a S) [.ref (a 0), .int p0, .int p1, .int p2, .int p3] (QI D (U := GS) (fun r u => (-100) = r ∧ S = u) (mw cy a)) := by
  refine Ct.ofZ RX12 "gain" [(0, .ref (a 0)), (1, .int p0), (2, .int p1), (3, .int p2), (4, .int p3)] rfl rfl rfl rfl (Nat.le_of_ble_eq_true rfl) ?_
  intro p e R s m args below meth c A b
  refine z_iload_n b dX12_gain_0 rfl rfl ?_
  refine z_calli b (z_runS (As := [.int p0]) (st := []) b (c_X12_isOne_2 S p0 ⟨by omega, by omega⟩) cf_X12_isOne wm_X12_170 ws_X12_isOne dX12_gain_1 rfl (Nat.le_of_ble_eq_true rfl) ⟨by decide, by decide, by decide, by decide⟩) (fun r11854 u11855 h11853 => ?_)
  obtain ⟨rfl, rfl⟩ := h11853
  refine z_if_eq_t (tgt := 27) b dX12_gain_4 (by decide) (by decide) ?_
  refine z_bipush (v := (-100)) b dX12_gain_27 (by decide) ?_
  exact z_iret (u := S) b rfl dX12_gain_29 ⟨rfl, rfl⟩ rfl (by decide) (by decide)

set_option maxHeartbeats 4000000 in
set_option maxRecDepth 100000 in
theorem c_X11_gain_3 {l : Launch} {D : va_G} {cy : Nat → ClassId} {T0 tB tE : Nat} {a : Nat → Nat} {rw : Nat → Option Nat} (S : GS) (p0 : Int32) (p1 : Int32) (p2 : Int32)  (hr_p0 : (-2147483648) ≤ p0.toInt ∧ p0.toInt ≤ 0) : Ct l D cy T0 tB tE yX11_gain cX11_gain 7 (some .int) 1 20 0 0 (cw cy tE a rw S) [.ref (a 0), .int 0, .int p0, .int p1, .int p2] (QI D (U := GS) (fun r u => (-100) = r ∧ S = u) (cw cy tE a rw)) := by
  refine Ct.ofZ RX11 "gain" [(0, .ref (a 0)), (1, .int 0), (2, .int p0), (3, .int p1), (4, .int p2)] rfl rfl rfl rfl (Nat.le_of_ble_eq_true rfl) ?_
  intro p e R s m args below meth c A b
  refine z_iload_n b dX11_gain_0 rfl rfl ?_
  refine z_calli b (z_runS (As := [.int 0]) (st := []) b (c_X11_isPerson_3 S ) cf_X11_isPerson wm_X11_69 ws_X11_isPerson dX11_gain_1 rfl (Nat.le_of_ble_eq_true rfl) ⟨by decide, by decide, by decide, by decide⟩) (fun r11857 u11858 h11856 => ?_)
  obtain ⟨rfl, rfl⟩ := h11856
  refine z_if_eq_f (tgt := 26) b dX11_gain_4 (by decide) (by decide) ?_
  refine z_iload_n b dX11_gain_7 rfl rfl ?_
  refine z_calli b (z_runS (As := [.int p0]) (st := []) b (c_X11_areLaws S p0 ⟨by omega, by omega⟩) cf_X11_areLaws wm_X11_181 ws_X11_areLaws dX11_gain_8 rfl (Nat.le_of_ble_eq_true rfl) ⟨by decide, by decide, by decide, by decide⟩) (fun r11860 u11861 h11859 => ?_)
  obtain ⟨rfl, rfl⟩ := h11859
  refine z_if_eq_t (tgt := 26) b dX11_gain_11 (by decide) (by decide) ?_
  refine z_bipush (v := (-100)) b dX11_gain_26 (by decide) ?_
  exact z_iret (u := S) b rfl dX11_gain_28 ⟨rfl, rfl⟩ rfl (by decide) (by decide)

set_option maxHeartbeats 4000000 in
set_option maxRecDepth 100000 in
theorem c_X12_gain_3 {l : Launch} {D : va_G} {cy : Nat → ClassId} {T0 tB tE : Nat} {a : Nat → Nat} (S : GS) (p0 : Int32) (p1 : Int32) (p2 : Int32)  (hr_p0 : (-2147483648) ≤ p0.toInt ∧ p0.toInt ≤ 0) : Ct l D cy T0 tB tE yX12_gain cX12_gain 9 (some .int) 2 44 0 0 (mw cy a S) [.ref (a 0), .int 0, .int p0, .int p1, .int p2] (QI D (U := GS) (fun r u => (-100) = r ∧ S = u) (mw cy a)) := by
  refine Ct.ofZ RX12 "gain" [(0, .ref (a 0)), (1, .int 0), (2, .int p0), (3, .int p1), (4, .int p2)] rfl rfl rfl rfl (Nat.le_of_ble_eq_true rfl) ?_
  intro p e R s m args below meth c A b
  refine z_iload_n b dX12_gain_0 rfl rfl ?_
  refine z_calli b (z_runS (As := [.int 0]) (st := []) b (c_X12_isOne_3 S ) cf_X12_isOne wm_X12_170 ws_X12_isOne dX12_gain_1 rfl (Nat.le_of_ble_eq_true rfl) ⟨by decide, by decide, by decide, by decide⟩) (fun r11863 u11864 h11862 => ?_)
  obtain ⟨rfl, rfl⟩ := h11862
  refine z_if_eq_f (tgt := 27) b dX12_gain_4 (by decide) (by decide) ?_
  refine z_aload_n b dX12_gain_7 rfl rfl ?_
  refine z_iload_n b dX12_gain_8 rfl rfl ?_
  refine z_iload_n b dX12_gain_9 rfl rfl ?_
  refine z_calli b (z_runV (q0 := 0) (As := [.int p0, .int p1]) (st := []) b (c_X12_canSearch S p0 p1 ⟨by omega, by omega⟩) cf_X12_canSearch (mw_0 cy a S) rfl wm_X12_433 wi_X12_canSearch ws_X12_canSearch dX12_gain_10 rfl (Nat.le_of_ble_eq_true rfl) ⟨by decide, by decide, by decide, by decide⟩) (fun r11866 u11867 h11865 => ?_)
  obtain ⟨rfl, rfl⟩ := h11865
  refine z_if_eq_t (tgt := 27) b dX12_gain_13 (by decide) (by decide) ?_
  refine z_bipush (v := (-100)) b dX12_gain_27 (by decide) ?_
  exact z_iret (u := S) b rfl dX12_gain_29 ⟨rfl, rfl⟩ rfl (by decide) (by decide)

set_option maxHeartbeats 4000000 in
set_option maxRecDepth 100000 in
theorem c_X11_gain_4 {l : Launch} {D : va_G} {cy : Nat → ClassId} {T0 tB tE : Nat} {a : Nat → Nat} {rw : Nat → Option Nat} (S : GS) (p0 : Int32) (p1 : Int32) (p2 : Int32)  (hr_p0 : 4 ≤ p0.toInt ∧ p0.toInt ≤ 2147483647) : Ct l D cy T0 tB tE yX11_gain cX11_gain 7 (some .int) 1 20 0 0 (cw cy tE a rw S) [.ref (a 0), .int 0, .int p0, .int p1, .int p2] (QI D (U := GS) (fun r u => (-100) = r ∧ S = u) (cw cy tE a rw)) := by
  refine Ct.ofZ RX11 "gain" [(0, .ref (a 0)), (1, .int 0), (2, .int p0), (3, .int p1), (4, .int p2)] rfl rfl rfl rfl (Nat.le_of_ble_eq_true rfl) ?_
  intro p e R s m args below meth c A b
  refine z_iload_n b dX11_gain_0 rfl rfl ?_
  refine z_calli b (z_runS (As := [.int 0]) (st := []) b (c_X11_isPerson_3 S ) cf_X11_isPerson wm_X11_69 ws_X11_isPerson dX11_gain_1 rfl (Nat.le_of_ble_eq_true rfl) ⟨by decide, by decide, by decide, by decide⟩) (fun r11869 u11870 h11868 => ?_)
  obtain ⟨rfl, rfl⟩ := h11868
  refine z_if_eq_f (tgt := 26) b dX11_gain_4 (by decide) (by decide) ?_
  refine z_iload_n b dX11_gain_7 rfl rfl ?_
  refine z_calli b (z_runS (As := [.int p0]) (st := []) b (c_X11_areLaws_2 S p0 ⟨by omega, by omega⟩) cf_X11_areLaws wm_X11_181 ws_X11_areLaws dX11_gain_8 rfl (Nat.le_of_ble_eq_true rfl) ⟨by decide, by decide, by decide, by decide⟩) (fun r11872 u11873 h11871 => ?_)
  obtain ⟨rfl, rfl⟩ := h11871
  refine z_if_eq_t (tgt := 26) b dX11_gain_11 (by decide) (by decide) ?_
  refine z_bipush (v := (-100)) b dX11_gain_26 (by decide) ?_
  exact z_iret (u := S) b rfl dX11_gain_28 ⟨rfl, rfl⟩ rfl (by decide) (by decide)

set_option maxHeartbeats 4000000 in
set_option maxRecDepth 100000 in
theorem c_X12_gain_4 {l : Launch} {D : va_G} {cy : Nat → ClassId} {T0 tB tE : Nat} {a : Nat → Nat} (S : GS) (p0 : Int32) (p1 : Int32) (p2 : Int32)  (hr_p0 : 4 ≤ p0.toInt ∧ p0.toInt ≤ 2147483647) : Ct l D cy T0 tB tE yX12_gain cX12_gain 9 (some .int) 2 44 0 0 (mw cy a S) [.ref (a 0), .int 0, .int p0, .int p1, .int p2] (QI D (U := GS) (fun r u => (-100) = r ∧ S = u) (mw cy a)) := by
  refine Ct.ofZ RX12 "gain" [(0, .ref (a 0)), (1, .int 0), (2, .int p0), (3, .int p1), (4, .int p2)] rfl rfl rfl rfl (Nat.le_of_ble_eq_true rfl) ?_
  intro p e R s m args below meth c A b
  refine z_iload_n b dX12_gain_0 rfl rfl ?_
  refine z_calli b (z_runS (As := [.int 0]) (st := []) b (c_X12_isOne_3 S ) cf_X12_isOne wm_X12_170 ws_X12_isOne dX12_gain_1 rfl (Nat.le_of_ble_eq_true rfl) ⟨by decide, by decide, by decide, by decide⟩) (fun r11875 u11876 h11874 => ?_)
  obtain ⟨rfl, rfl⟩ := h11874
  refine z_if_eq_f (tgt := 27) b dX12_gain_4 (by decide) (by decide) ?_
  refine z_aload_n b dX12_gain_7 rfl rfl ?_
  refine z_iload_n b dX12_gain_8 rfl rfl ?_
  refine z_iload_n b dX12_gain_9 rfl rfl ?_
  refine z_calli b (z_runV (q0 := 0) (As := [.int p0, .int p1]) (st := []) b (c_X12_canSearch_2 S p0 p1 ⟨by omega, by omega⟩) cf_X12_canSearch (mw_0 cy a S) rfl wm_X12_433 wi_X12_canSearch ws_X12_canSearch dX12_gain_10 rfl (Nat.le_of_ble_eq_true rfl) ⟨by decide, by decide, by decide, by decide⟩) (fun r11878 u11879 h11877 => ?_)
  obtain ⟨rfl, rfl⟩ := h11877
  refine z_if_eq_t (tgt := 27) b dX12_gain_13 (by decide) (by decide) ?_
  refine z_bipush (v := (-100)) b dX12_gain_27 (by decide) ?_
  exact z_iret (u := S) b rfl dX12_gain_29 ⟨rfl, rfl⟩ rfl (by decide) (by decide)

set_option maxHeartbeats 4000000 in
set_option maxRecDepth 100000 in
theorem c_X11_gain_5 {l : Launch} {D : va_G} {cy : Nat → ClassId} {T0 tB tE : Nat} {a : Nat → Nat} {rw : Nat → Option Nat} (S : GS) (p0 : Int32) (p1 : Int32) (p2 : Int32)  (hr_p0 : (-2147483648) ≤ p0.toInt ∧ p0.toInt ≤ 0) : Ct l D cy T0 tB tE yX11_gain cX11_gain 7 (some .int) 1 20 0 0 (cw cy tE a rw S) [.ref (a 0), .int 1, .int p0, .int p1, .int p2] (QI D (U := GS) (fun r u => (-100) = r ∧ S = u) (cw cy tE a rw)) := by
  refine Ct.ofZ RX11 "gain" [(0, .ref (a 0)), (1, .int 1), (2, .int p0), (3, .int p1), (4, .int p2)] rfl rfl rfl rfl (Nat.le_of_ble_eq_true rfl) ?_
  intro p e R s m args below meth c A b
  refine z_iload_n b dX11_gain_0 rfl rfl ?_
  refine z_calli b (z_runS (As := [.int 1]) (st := []) b (c_X11_isPerson_4 S ) cf_X11_isPerson wm_X11_69 ws_X11_isPerson dX11_gain_1 rfl (Nat.le_of_ble_eq_true rfl) ⟨by decide, by decide, by decide, by decide⟩) (fun r11881 u11882 h11880 => ?_)
  obtain ⟨rfl, rfl⟩ := h11880
  refine z_if_eq_f (tgt := 26) b dX11_gain_4 (by decide) (by decide) ?_
  refine z_iload_n b dX11_gain_7 rfl rfl ?_
  refine z_calli b (z_runS (As := [.int p0]) (st := []) b (c_X11_areLaws S p0 ⟨by omega, by omega⟩) cf_X11_areLaws wm_X11_181 ws_X11_areLaws dX11_gain_8 rfl (Nat.le_of_ble_eq_true rfl) ⟨by decide, by decide, by decide, by decide⟩) (fun r11884 u11885 h11883 => ?_)
  obtain ⟨rfl, rfl⟩ := h11883
  refine z_if_eq_t (tgt := 26) b dX11_gain_11 (by decide) (by decide) ?_
  refine z_bipush (v := (-100)) b dX11_gain_26 (by decide) ?_
  exact z_iret (u := S) b rfl dX11_gain_28 ⟨rfl, rfl⟩ rfl (by decide) (by decide)

set_option maxHeartbeats 4000000 in
set_option maxRecDepth 100000 in
theorem c_X12_gain_5 {l : Launch} {D : va_G} {cy : Nat → ClassId} {T0 tB tE : Nat} {a : Nat → Nat} (S : GS) (p0 : Int32) (p1 : Int32) (p2 : Int32)  (hr_p0 : (-2147483648) ≤ p0.toInt ∧ p0.toInt ≤ 0) : Ct l D cy T0 tB tE yX12_gain cX12_gain 9 (some .int) 2 44 0 0 (mw cy a S) [.ref (a 0), .int 1, .int p0, .int p1, .int p2] (QI D (U := GS) (fun r u => (-100) = r ∧ S = u) (mw cy a)) := by
  refine Ct.ofZ RX12 "gain" [(0, .ref (a 0)), (1, .int 1), (2, .int p0), (3, .int p1), (4, .int p2)] rfl rfl rfl rfl (Nat.le_of_ble_eq_true rfl) ?_
  intro p e R s m args below meth c A b
  refine z_iload_n b dX12_gain_0 rfl rfl ?_
  refine z_calli b (z_runS (As := [.int 1]) (st := []) b (c_X12_isOne_4 S ) cf_X12_isOne wm_X12_170 ws_X12_isOne dX12_gain_1 rfl (Nat.le_of_ble_eq_true rfl) ⟨by decide, by decide, by decide, by decide⟩) (fun r11887 u11888 h11886 => ?_)
  obtain ⟨rfl, rfl⟩ := h11886
  refine z_if_eq_f (tgt := 27) b dX12_gain_4 (by decide) (by decide) ?_
  refine z_aload_n b dX12_gain_7 rfl rfl ?_
  refine z_iload_n b dX12_gain_8 rfl rfl ?_
  refine z_iload_n b dX12_gain_9 rfl rfl ?_
  refine z_calli b (z_runV (q0 := 0) (As := [.int p0, .int p1]) (st := []) b (c_X12_canSearch S p0 p1 ⟨by omega, by omega⟩) cf_X12_canSearch (mw_0 cy a S) rfl wm_X12_433 wi_X12_canSearch ws_X12_canSearch dX12_gain_10 rfl (Nat.le_of_ble_eq_true rfl) ⟨by decide, by decide, by decide, by decide⟩) (fun r11890 u11891 h11889 => ?_)
  obtain ⟨rfl, rfl⟩ := h11889
  refine z_if_eq_t (tgt := 27) b dX12_gain_13 (by decide) (by decide) ?_
  refine z_bipush (v := (-100)) b dX12_gain_27 (by decide) ?_
  exact z_iret (u := S) b rfl dX12_gain_29 ⟨rfl, rfl⟩ rfl (by decide) (by decide)

set_option maxHeartbeats 4000000 in
set_option maxRecDepth 100000 in
theorem c_X11_gain_6 {l : Launch} {D : va_G} {cy : Nat → ClassId} {T0 tB tE : Nat} {a : Nat → Nat} {rw : Nat → Option Nat} (S : GS) (p0 : Int32) (p1 : Int32) (p2 : Int32)  (hr_p0 : 4 ≤ p0.toInt ∧ p0.toInt ≤ 2147483647) : Ct l D cy T0 tB tE yX11_gain cX11_gain 7 (some .int) 1 20 0 0 (cw cy tE a rw S) [.ref (a 0), .int 1, .int p0, .int p1, .int p2] (QI D (U := GS) (fun r u => (-100) = r ∧ S = u) (cw cy tE a rw)) := by
  refine Ct.ofZ RX11 "gain" [(0, .ref (a 0)), (1, .int 1), (2, .int p0), (3, .int p1), (4, .int p2)] rfl rfl rfl rfl (Nat.le_of_ble_eq_true rfl) ?_
  intro p e R s m args below meth c A b
  refine z_iload_n b dX11_gain_0 rfl rfl ?_
  refine z_calli b (z_runS (As := [.int 1]) (st := []) b (c_X11_isPerson_4 S ) cf_X11_isPerson wm_X11_69 ws_X11_isPerson dX11_gain_1 rfl (Nat.le_of_ble_eq_true rfl) ⟨by decide, by decide, by decide, by decide⟩) (fun r11893 u11894 h11892 => ?_)
  obtain ⟨rfl, rfl⟩ := h11892
  refine z_if_eq_f (tgt := 26) b dX11_gain_4 (by decide) (by decide) ?_
  refine z_iload_n b dX11_gain_7 rfl rfl ?_
  refine z_calli b (z_runS (As := [.int p0]) (st := []) b (c_X11_areLaws_2 S p0 ⟨by omega, by omega⟩) cf_X11_areLaws wm_X11_181 ws_X11_areLaws dX11_gain_8 rfl (Nat.le_of_ble_eq_true rfl) ⟨by decide, by decide, by decide, by decide⟩) (fun r11896 u11897 h11895 => ?_)
  obtain ⟨rfl, rfl⟩ := h11895
  refine z_if_eq_t (tgt := 26) b dX11_gain_11 (by decide) (by decide) ?_
  refine z_bipush (v := (-100)) b dX11_gain_26 (by decide) ?_
  exact z_iret (u := S) b rfl dX11_gain_28 ⟨rfl, rfl⟩ rfl (by decide) (by decide)

set_option maxHeartbeats 4000000 in
set_option maxRecDepth 100000 in
theorem c_X12_gain_6 {l : Launch} {D : va_G} {cy : Nat → ClassId} {T0 tB tE : Nat} {a : Nat → Nat} (S : GS) (p0 : Int32) (p1 : Int32) (p2 : Int32)  (hr_p0 : 4 ≤ p0.toInt ∧ p0.toInt ≤ 2147483647) : Ct l D cy T0 tB tE yX12_gain cX12_gain 9 (some .int) 2 44 0 0 (mw cy a S) [.ref (a 0), .int 1, .int p0, .int p1, .int p2] (QI D (U := GS) (fun r u => (-100) = r ∧ S = u) (mw cy a)) := by
  refine Ct.ofZ RX12 "gain" [(0, .ref (a 0)), (1, .int 1), (2, .int p0), (3, .int p1), (4, .int p2)] rfl rfl rfl rfl (Nat.le_of_ble_eq_true rfl) ?_
  intro p e R s m args below meth c A b
  refine z_iload_n b dX12_gain_0 rfl rfl ?_
  refine z_calli b (z_runS (As := [.int 1]) (st := []) b (c_X12_isOne_4 S ) cf_X12_isOne wm_X12_170 ws_X12_isOne dX12_gain_1 rfl (Nat.le_of_ble_eq_true rfl) ⟨by decide, by decide, by decide, by decide⟩) (fun r11899 u11900 h11898 => ?_)
  obtain ⟨rfl, rfl⟩ := h11898
  refine z_if_eq_f (tgt := 27) b dX12_gain_4 (by decide) (by decide) ?_
  refine z_aload_n b dX12_gain_7 rfl rfl ?_
  refine z_iload_n b dX12_gain_8 rfl rfl ?_
  refine z_iload_n b dX12_gain_9 rfl rfl ?_
  refine z_calli b (z_runV (q0 := 0) (As := [.int p0, .int p1]) (st := []) b (c_X12_canSearch_2 S p0 p1 ⟨by omega, by omega⟩) cf_X12_canSearch (mw_0 cy a S) rfl wm_X12_433 wi_X12_canSearch ws_X12_canSearch dX12_gain_10 rfl (Nat.le_of_ble_eq_true rfl) ⟨by decide, by decide, by decide, by decide⟩) (fun r11902 u11903 h11901 => ?_)
  obtain ⟨rfl, rfl⟩ := h11901
  refine z_if_eq_t (tgt := 27) b dX12_gain_13 (by decide) (by decide) ?_
  refine z_bipush (v := (-100)) b dX12_gain_27 (by decide) ?_
  exact z_iret (u := S) b rfl dX12_gain_29 ⟨rfl, rfl⟩ rfl (by decide) (by decide)

set_option maxHeartbeats 4000000 in
set_option maxRecDepth 100000 in
theorem c_X11_gain_7 {l : Launch} {D : va_G} {cy : Nat → ClassId} {T0 tB tE : Nat} {a : Nat → Nat} {rw : Nat → Option Nat} (S : GS) (p0 : Int32) (p1 : Int32) (p2 : Int32)  (hr_p0 : (-2147483648) ≤ p0.toInt ∧ p0.toInt ≤ 0) : Ct l D cy T0 tB tE yX11_gain cX11_gain 7 (some .int) 1 20 0 0 (cw cy tE a rw S) [.ref (a 0), .int 2, .int p0, .int p1, .int p2] (QI D (U := GS) (fun r u => (-100) = r ∧ S = u) (cw cy tE a rw)) := by
  refine Ct.ofZ RX11 "gain" [(0, .ref (a 0)), (1, .int 2), (2, .int p0), (3, .int p1), (4, .int p2)] rfl rfl rfl rfl (Nat.le_of_ble_eq_true rfl) ?_
  intro p e R s m args below meth c A b
  refine z_iload_n b dX11_gain_0 rfl rfl ?_
  refine z_calli b (z_runS (As := [.int 2]) (st := []) b (c_X11_isPerson_5 S ) cf_X11_isPerson wm_X11_69 ws_X11_isPerson dX11_gain_1 rfl (Nat.le_of_ble_eq_true rfl) ⟨by decide, by decide, by decide, by decide⟩) (fun r11905 u11906 h11904 => ?_)
  obtain ⟨rfl, rfl⟩ := h11904
  refine z_if_eq_f (tgt := 26) b dX11_gain_4 (by decide) (by decide) ?_
  refine z_iload_n b dX11_gain_7 rfl rfl ?_
  refine z_calli b (z_runS (As := [.int p0]) (st := []) b (c_X11_areLaws S p0 ⟨by omega, by omega⟩) cf_X11_areLaws wm_X11_181 ws_X11_areLaws dX11_gain_8 rfl (Nat.le_of_ble_eq_true rfl) ⟨by decide, by decide, by decide, by decide⟩) (fun r11908 u11909 h11907 => ?_)
  obtain ⟨rfl, rfl⟩ := h11907
  refine z_if_eq_t (tgt := 26) b dX11_gain_11 (by decide) (by decide) ?_
  refine z_bipush (v := (-100)) b dX11_gain_26 (by decide) ?_
  exact z_iret (u := S) b rfl dX11_gain_28 ⟨rfl, rfl⟩ rfl (by decide) (by decide)

set_option maxHeartbeats 4000000 in
set_option maxRecDepth 100000 in
theorem c_X12_gain_7 {l : Launch} {D : va_G} {cy : Nat → ClassId} {T0 tB tE : Nat} {a : Nat → Nat} (S : GS) (p0 : Int32) (p1 : Int32) (p2 : Int32)  (hr_p0 : (-2147483648) ≤ p0.toInt ∧ p0.toInt ≤ 0) : Ct l D cy T0 tB tE yX12_gain cX12_gain 9 (some .int) 2 44 0 0 (mw cy a S) [.ref (a 0), .int 2, .int p0, .int p1, .int p2] (QI D (U := GS) (fun r u => (-100) = r ∧ S = u) (mw cy a)) := by
  refine Ct.ofZ RX12 "gain" [(0, .ref (a 0)), (1, .int 2), (2, .int p0), (3, .int p1), (4, .int p2)] rfl rfl rfl rfl (Nat.le_of_ble_eq_true rfl) ?_
  intro p e R s m args below meth c A b
  refine z_iload_n b dX12_gain_0 rfl rfl ?_
  refine z_calli b (z_runS (As := [.int 2]) (st := []) b (c_X12_isOne_5 S ) cf_X12_isOne wm_X12_170 ws_X12_isOne dX12_gain_1 rfl (Nat.le_of_ble_eq_true rfl) ⟨by decide, by decide, by decide, by decide⟩) (fun r11911 u11912 h11910 => ?_)
  obtain ⟨rfl, rfl⟩ := h11910
  refine z_if_eq_f (tgt := 27) b dX12_gain_4 (by decide) (by decide) ?_
  refine z_aload_n b dX12_gain_7 rfl rfl ?_
  refine z_iload_n b dX12_gain_8 rfl rfl ?_
  refine z_iload_n b dX12_gain_9 rfl rfl ?_
  refine z_calli b (z_runV (q0 := 0) (As := [.int p0, .int p1]) (st := []) b (c_X12_canSearch S p0 p1 ⟨by omega, by omega⟩) cf_X12_canSearch (mw_0 cy a S) rfl wm_X12_433 wi_X12_canSearch ws_X12_canSearch dX12_gain_10 rfl (Nat.le_of_ble_eq_true rfl) ⟨by decide, by decide, by decide, by decide⟩) (fun r11914 u11915 h11913 => ?_)
  obtain ⟨rfl, rfl⟩ := h11913
  refine z_if_eq_t (tgt := 27) b dX12_gain_13 (by decide) (by decide) ?_
  refine z_bipush (v := (-100)) b dX12_gain_27 (by decide) ?_
  exact z_iret (u := S) b rfl dX12_gain_29 ⟨rfl, rfl⟩ rfl (by decide) (by decide)

set_option maxHeartbeats 4000000 in
set_option maxRecDepth 100000 in
theorem c_X11_gain_8 {l : Launch} {D : va_G} {cy : Nat → ClassId} {T0 tB tE : Nat} {a : Nat → Nat} {rw : Nat → Option Nat} (S : GS) (p0 : Int32) (p1 : Int32) (p2 : Int32)  (hr_p0 : 4 ≤ p0.toInt ∧ p0.toInt ≤ 2147483647) : Ct l D cy T0 tB tE yX11_gain cX11_gain 7 (some .int) 1 20 0 0 (cw cy tE a rw S) [.ref (a 0), .int 2, .int p0, .int p1, .int p2] (QI D (U := GS) (fun r u => (-100) = r ∧ S = u) (cw cy tE a rw)) := by
  refine Ct.ofZ RX11 "gain" [(0, .ref (a 0)), (1, .int 2), (2, .int p0), (3, .int p1), (4, .int p2)] rfl rfl rfl rfl (Nat.le_of_ble_eq_true rfl) ?_
  intro p e R s m args below meth c A b
  refine z_iload_n b dX11_gain_0 rfl rfl ?_
  refine z_calli b (z_runS (As := [.int 2]) (st := []) b (c_X11_isPerson_5 S ) cf_X11_isPerson wm_X11_69 ws_X11_isPerson dX11_gain_1 rfl (Nat.le_of_ble_eq_true rfl) ⟨by decide, by decide, by decide, by decide⟩) (fun r11917 u11918 h11916 => ?_)
  obtain ⟨rfl, rfl⟩ := h11916
  refine z_if_eq_f (tgt := 26) b dX11_gain_4 (by decide) (by decide) ?_
  refine z_iload_n b dX11_gain_7 rfl rfl ?_
  refine z_calli b (z_runS (As := [.int p0]) (st := []) b (c_X11_areLaws_2 S p0 ⟨by omega, by omega⟩) cf_X11_areLaws wm_X11_181 ws_X11_areLaws dX11_gain_8 rfl (Nat.le_of_ble_eq_true rfl) ⟨by decide, by decide, by decide, by decide⟩) (fun r11920 u11921 h11919 => ?_)
  obtain ⟨rfl, rfl⟩ := h11919
  refine z_if_eq_t (tgt := 26) b dX11_gain_11 (by decide) (by decide) ?_
  refine z_bipush (v := (-100)) b dX11_gain_26 (by decide) ?_
  exact z_iret (u := S) b rfl dX11_gain_28 ⟨rfl, rfl⟩ rfl (by decide) (by decide)

set_option maxHeartbeats 4000000 in
set_option maxRecDepth 100000 in
theorem c_X12_gain_8 {l : Launch} {D : va_G} {cy : Nat → ClassId} {T0 tB tE : Nat} {a : Nat → Nat} (S : GS) (p0 : Int32) (p1 : Int32) (p2 : Int32)  (hr_p0 : 4 ≤ p0.toInt ∧ p0.toInt ≤ 2147483647) : Ct l D cy T0 tB tE yX12_gain cX12_gain 9 (some .int) 2 44 0 0 (mw cy a S) [.ref (a 0), .int 2, .int p0, .int p1, .int p2] (QI D (U := GS) (fun r u => (-100) = r ∧ S = u) (mw cy a)) := by
  refine Ct.ofZ RX12 "gain" [(0, .ref (a 0)), (1, .int 2), (2, .int p0), (3, .int p1), (4, .int p2)] rfl rfl rfl rfl (Nat.le_of_ble_eq_true rfl) ?_
  intro p e R s m args below meth c A b
  refine z_iload_n b dX12_gain_0 rfl rfl ?_
  refine z_calli b (z_runS (As := [.int 2]) (st := []) b (c_X12_isOne_5 S ) cf_X12_isOne wm_X12_170 ws_X12_isOne dX12_gain_1 rfl (Nat.le_of_ble_eq_true rfl) ⟨by decide, by decide, by decide, by decide⟩) (fun r11923 u11924 h11922 => ?_)
  obtain ⟨rfl, rfl⟩ := h11922
  refine z_if_eq_f (tgt := 27) b dX12_gain_4 (by decide) (by decide) ?_
  refine z_aload_n b dX12_gain_7 rfl rfl ?_
  refine z_iload_n b dX12_gain_8 rfl rfl ?_
  refine z_iload_n b dX12_gain_9 rfl rfl ?_
  refine z_calli b (z_runV (q0 := 0) (As := [.int p0, .int p1]) (st := []) b (c_X12_canSearch_2 S p0 p1 ⟨by omega, by omega⟩) cf_X12_canSearch (mw_0 cy a S) rfl wm_X12_433 wi_X12_canSearch ws_X12_canSearch dX12_gain_10 rfl (Nat.le_of_ble_eq_true rfl) ⟨by decide, by decide, by decide, by decide⟩) (fun r11926 u11927 h11925 => ?_)
  obtain ⟨rfl, rfl⟩ := h11925
  refine z_if_eq_t (tgt := 27) b dX12_gain_13 (by decide) (by decide) ?_
  refine z_bipush (v := (-100)) b dX12_gain_27 (by decide) ?_
  exact z_iret (u := S) b rfl dX12_gain_29 ⟨rfl, rfl⟩ rfl (by decide) (by decide)

set_option maxHeartbeats 4000000 in
set_option maxRecDepth 100000 in
theorem c_X11_gain_9 {l : Launch} {D : va_G} {cy : Nat → ClassId} {T0 tB tE : Nat} {a : Nat → Nat} {rw : Nat → Option Nat} (S : GS) (p0 : Int32) (p1 : Int32) (p2 : Int32)  (hr_p0 : 1 ≤ p0.toInt ∧ p0.toInt ≤ 3) (hr_p1 : (-2147483648) ≤ p1.toInt ∧ p1.toInt ≤ (-1)) : Ct l D cy T0 tB tE yX11_gain cX11_gain 7 (some .int) 1 20 0 0 (cw cy tE a rw S) [.ref (a 0), .int 0, .int p0, .int p1, .int p2] (QI D (U := GS) (fun r u => (-100) = r ∧ S = u) (cw cy tE a rw)) := by
  refine Ct.ofZ RX11 "gain" [(0, .ref (a 0)), (1, .int 0), (2, .int p0), (3, .int p1), (4, .int p2)] rfl rfl rfl rfl (Nat.le_of_ble_eq_true rfl) ?_
  intro p e R s m args below meth c A b
  refine z_iload_n b dX11_gain_0 rfl rfl ?_
  refine z_calli b (z_runS (As := [.int 0]) (st := []) b (c_X11_isPerson_3 S ) cf_X11_isPerson wm_X11_69 ws_X11_isPerson dX11_gain_1 rfl (Nat.le_of_ble_eq_true rfl) ⟨by decide, by decide, by decide, by decide⟩) (fun r11929 u11930 h11928 => ?_)
  obtain ⟨rfl, rfl⟩ := h11928
  refine z_if_eq_f (tgt := 26) b dX11_gain_4 (by decide) (by decide) ?_
  refine z_iload_n b dX11_gain_7 rfl rfl ?_
  refine z_calli b (z_runS (As := [.int p0]) (st := []) b (c_X11_areLaws_3 S p0 ⟨by omega, by omega⟩) cf_X11_areLaws wm_X11_181 ws_X11_areLaws dX11_gain_8 rfl (Nat.le_of_ble_eq_true rfl) ⟨by decide, by decide, by decide, by decide⟩) (fun r11932 u11933 h11931 => ?_)
  obtain ⟨rfl, rfl⟩ := h11931
  refine z_if_eq_f (tgt := 26) b dX11_gain_11 (by decide) (by decide) ?_
  refine z_iload_n b dX11_gain_14 rfl rfl ?_
  refine z_calli b (z_runS (As := [.int p1]) (st := []) b (c_X11_isDepth S p1 ⟨by omega, by omega⟩) cf_X11_isDepth wm_X11_203 ws_X11_isDepth dX11_gain_15 rfl (Nat.le_of_ble_eq_true rfl) ⟨by decide, by decide, by decide, by decide⟩) (fun r11935 u11936 h11934 => ?_)
  obtain ⟨rfl, rfl⟩ := h11934
  refine z_if_eq_t (tgt := 26) b dX11_gain_18 (by decide) (by decide) ?_
  refine z_bipush (v := (-100)) b dX11_gain_26 (by decide) ?_
  exact z_iret (u := S) b rfl dX11_gain_28 ⟨rfl, rfl⟩ rfl (by decide) (by decide)

set_option maxHeartbeats 4000000 in
set_option maxRecDepth 100000 in
theorem c_X12_gain_9 {l : Launch} {D : va_G} {cy : Nat → ClassId} {T0 tB tE : Nat} {a : Nat → Nat} (S : GS) (p0 : Int32) (p1 : Int32) (p2 : Int32)  (hr_p0 : 1 ≤ p0.toInt ∧ p0.toInt ≤ 3) (hr_p1 : (-2147483648) ≤ p1.toInt ∧ p1.toInt ≤ (-1)) : Ct l D cy T0 tB tE yX12_gain cX12_gain 9 (some .int) 2 44 0 0 (mw cy a S) [.ref (a 0), .int 0, .int p0, .int p1, .int p2] (QI D (U := GS) (fun r u => (-100) = r ∧ S = u) (mw cy a)) := by
  refine Ct.ofZ RX12 "gain" [(0, .ref (a 0)), (1, .int 0), (2, .int p0), (3, .int p1), (4, .int p2)] rfl rfl rfl rfl (Nat.le_of_ble_eq_true rfl) ?_
  intro p e R s m args below meth c A b
  refine z_iload_n b dX12_gain_0 rfl rfl ?_
  refine z_calli b (z_runS (As := [.int 0]) (st := []) b (c_X12_isOne_3 S ) cf_X12_isOne wm_X12_170 ws_X12_isOne dX12_gain_1 rfl (Nat.le_of_ble_eq_true rfl) ⟨by decide, by decide, by decide, by decide⟩) (fun r11938 u11939 h11937 => ?_)
  obtain ⟨rfl, rfl⟩ := h11937
  refine z_if_eq_f (tgt := 27) b dX12_gain_4 (by decide) (by decide) ?_
  refine z_aload_n b dX12_gain_7 rfl rfl ?_
  refine z_iload_n b dX12_gain_8 rfl rfl ?_
  refine z_iload_n b dX12_gain_9 rfl rfl ?_
  refine z_calli b (z_runV (q0 := 0) (As := [.int p0, .int p1]) (st := []) b (c_X12_canSearch_3 S p0 p1 ⟨by omega, by omega⟩ ⟨by omega, by omega⟩) cf_X12_canSearch (mw_0 cy a S) rfl wm_X12_433 wi_X12_canSearch ws_X12_canSearch dX12_gain_10 rfl (Nat.le_of_ble_eq_true rfl) ⟨by decide, by decide, by decide, by decide⟩) (fun r11941 u11942 h11940 => ?_)
  obtain ⟨rfl, rfl⟩ := h11940
  refine z_if_eq_t (tgt := 27) b dX12_gain_13 (by decide) (by decide) ?_
  refine z_bipush (v := (-100)) b dX12_gain_27 (by decide) ?_
  exact z_iret (u := S) b rfl dX12_gain_29 ⟨rfl, rfl⟩ rfl (by decide) (by decide)

set_option maxHeartbeats 4000000 in
set_option maxRecDepth 100000 in
theorem c_X11_gain_10 {l : Launch} {D : va_G} {cy : Nat → ClassId} {T0 tB tE : Nat} {a : Nat → Nat} {rw : Nat → Option Nat} (S : GS) (p0 : Int32) (p1 : Int32) (p2 : Int32)  (hr_p0 : 1 ≤ p0.toInt ∧ p0.toInt ≤ 3) (hr_p1 : 7 ≤ p1.toInt ∧ p1.toInt ≤ 2147483647) : Ct l D cy T0 tB tE yX11_gain cX11_gain 7 (some .int) 1 20 0 0 (cw cy tE a rw S) [.ref (a 0), .int 0, .int p0, .int p1, .int p2] (QI D (U := GS) (fun r u => (-100) = r ∧ S = u) (cw cy tE a rw)) := by
  refine Ct.ofZ RX11 "gain" [(0, .ref (a 0)), (1, .int 0), (2, .int p0), (3, .int p1), (4, .int p2)] rfl rfl rfl rfl (Nat.le_of_ble_eq_true rfl) ?_
  intro p e R s m args below meth c A b
  refine z_iload_n b dX11_gain_0 rfl rfl ?_
  refine z_calli b (z_runS (As := [.int 0]) (st := []) b (c_X11_isPerson_3 S ) cf_X11_isPerson wm_X11_69 ws_X11_isPerson dX11_gain_1 rfl (Nat.le_of_ble_eq_true rfl) ⟨by decide, by decide, by decide, by decide⟩) (fun r11944 u11945 h11943 => ?_)
  obtain ⟨rfl, rfl⟩ := h11943
  refine z_if_eq_f (tgt := 26) b dX11_gain_4 (by decide) (by decide) ?_
  refine z_iload_n b dX11_gain_7 rfl rfl ?_
  refine z_calli b (z_runS (As := [.int p0]) (st := []) b (c_X11_areLaws_3 S p0 ⟨by omega, by omega⟩) cf_X11_areLaws wm_X11_181 ws_X11_areLaws dX11_gain_8 rfl (Nat.le_of_ble_eq_true rfl) ⟨by decide, by decide, by decide, by decide⟩) (fun r11947 u11948 h11946 => ?_)
  obtain ⟨rfl, rfl⟩ := h11946
  refine z_if_eq_f (tgt := 26) b dX11_gain_11 (by decide) (by decide) ?_
  refine z_iload_n b dX11_gain_14 rfl rfl ?_
  refine z_calli b (z_runS (As := [.int p1]) (st := []) b (c_X11_isDepth_4 S p1 ⟨by omega, by omega⟩) cf_X11_isDepth wm_X11_203 ws_X11_isDepth dX11_gain_15 rfl (Nat.le_of_ble_eq_true rfl) ⟨by decide, by decide, by decide, by decide⟩) (fun r11950 u11951 h11949 => ?_)
  obtain ⟨rfl, rfl⟩ := h11949
  refine z_if_eq_t (tgt := 26) b dX11_gain_18 (by decide) (by decide) ?_
  refine z_bipush (v := (-100)) b dX11_gain_26 (by decide) ?_
  exact z_iret (u := S) b rfl dX11_gain_28 ⟨rfl, rfl⟩ rfl (by decide) (by decide)

set_option maxHeartbeats 4000000 in
set_option maxRecDepth 100000 in
theorem c_X12_gain_10 {l : Launch} {D : va_G} {cy : Nat → ClassId} {T0 tB tE : Nat} {a : Nat → Nat} (S : GS) (p0 : Int32) (p1 : Int32) (p2 : Int32)  (hr_p0 : 1 ≤ p0.toInt ∧ p0.toInt ≤ 3) (hr_p1 : 7 ≤ p1.toInt ∧ p1.toInt ≤ 2147483647) : Ct l D cy T0 tB tE yX12_gain cX12_gain 9 (some .int) 2 44 0 0 (mw cy a S) [.ref (a 0), .int 0, .int p0, .int p1, .int p2] (QI D (U := GS) (fun r u => (-100) = r ∧ S = u) (mw cy a)) := by
  refine Ct.ofZ RX12 "gain" [(0, .ref (a 0)), (1, .int 0), (2, .int p0), (3, .int p1), (4, .int p2)] rfl rfl rfl rfl (Nat.le_of_ble_eq_true rfl) ?_
  intro p e R s m args below meth c A b
  refine z_iload_n b dX12_gain_0 rfl rfl ?_
  refine z_calli b (z_runS (As := [.int 0]) (st := []) b (c_X12_isOne_3 S ) cf_X12_isOne wm_X12_170 ws_X12_isOne dX12_gain_1 rfl (Nat.le_of_ble_eq_true rfl) ⟨by decide, by decide, by decide, by decide⟩) (fun r11953 u11954 h11952 => ?_)
  obtain ⟨rfl, rfl⟩ := h11952
  refine z_if_eq_f (tgt := 27) b dX12_gain_4 (by decide) (by decide) ?_
  refine z_aload_n b dX12_gain_7 rfl rfl ?_
  refine z_iload_n b dX12_gain_8 rfl rfl ?_
  refine z_iload_n b dX12_gain_9 rfl rfl ?_
  refine z_calli b (z_runV (q0 := 0) (As := [.int p0, .int p1]) (st := []) b (c_X12_canSearch_6 S p0 p1 ⟨by omega, by omega⟩ ⟨by omega, by omega⟩) cf_X12_canSearch (mw_0 cy a S) rfl wm_X12_433 wi_X12_canSearch ws_X12_canSearch dX12_gain_10 rfl (Nat.le_of_ble_eq_true rfl) ⟨by decide, by decide, by decide, by decide⟩) (fun r11956 u11957 h11955 => ?_)
  obtain ⟨rfl, rfl⟩ := h11955
  refine z_if_eq_t (tgt := 27) b dX12_gain_13 (by decide) (by decide) ?_
  refine z_bipush (v := (-100)) b dX12_gain_27 (by decide) ?_
  exact z_iret (u := S) b rfl dX12_gain_29 ⟨rfl, rfl⟩ rfl (by decide) (by decide)

set_option maxHeartbeats 4000000 in
set_option maxRecDepth 100000 in
theorem c_X11_gain_11 {l : Launch} {D : va_G} {cy : Nat → ClassId} {T0 tB tE : Nat} {a : Nat → Nat} {rw : Nat → Option Nat} (S : GS) (p0 : Int32) (p1 : Int32) (p2 : Int32)  (hr_p0 : 1 ≤ p0.toInt ∧ p0.toInt ≤ 3) (hr_p1 : (-2147483648) ≤ p1.toInt ∧ p1.toInt ≤ (-1)) : Ct l D cy T0 tB tE yX11_gain cX11_gain 7 (some .int) 1 20 0 0 (cw cy tE a rw S) [.ref (a 0), .int 1, .int p0, .int p1, .int p2] (QI D (U := GS) (fun r u => (-100) = r ∧ S = u) (cw cy tE a rw)) := by
  refine Ct.ofZ RX11 "gain" [(0, .ref (a 0)), (1, .int 1), (2, .int p0), (3, .int p1), (4, .int p2)] rfl rfl rfl rfl (Nat.le_of_ble_eq_true rfl) ?_
  intro p e R s m args below meth c A b
  refine z_iload_n b dX11_gain_0 rfl rfl ?_
  refine z_calli b (z_runS (As := [.int 1]) (st := []) b (c_X11_isPerson_4 S ) cf_X11_isPerson wm_X11_69 ws_X11_isPerson dX11_gain_1 rfl (Nat.le_of_ble_eq_true rfl) ⟨by decide, by decide, by decide, by decide⟩) (fun r11959 u11960 h11958 => ?_)
  obtain ⟨rfl, rfl⟩ := h11958
  refine z_if_eq_f (tgt := 26) b dX11_gain_4 (by decide) (by decide) ?_
  refine z_iload_n b dX11_gain_7 rfl rfl ?_
  refine z_calli b (z_runS (As := [.int p0]) (st := []) b (c_X11_areLaws_3 S p0 ⟨by omega, by omega⟩) cf_X11_areLaws wm_X11_181 ws_X11_areLaws dX11_gain_8 rfl (Nat.le_of_ble_eq_true rfl) ⟨by decide, by decide, by decide, by decide⟩) (fun r11962 u11963 h11961 => ?_)
  obtain ⟨rfl, rfl⟩ := h11961
  refine z_if_eq_f (tgt := 26) b dX11_gain_11 (by decide) (by decide) ?_
  refine z_iload_n b dX11_gain_14 rfl rfl ?_
  refine z_calli b (z_runS (As := [.int p1]) (st := []) b (c_X11_isDepth S p1 ⟨by omega, by omega⟩) cf_X11_isDepth wm_X11_203 ws_X11_isDepth dX11_gain_15 rfl (Nat.le_of_ble_eq_true rfl) ⟨by decide, by decide, by decide, by decide⟩) (fun r11965 u11966 h11964 => ?_)
  obtain ⟨rfl, rfl⟩ := h11964
  refine z_if_eq_t (tgt := 26) b dX11_gain_18 (by decide) (by decide) ?_
  refine z_bipush (v := (-100)) b dX11_gain_26 (by decide) ?_
  exact z_iret (u := S) b rfl dX11_gain_28 ⟨rfl, rfl⟩ rfl (by decide) (by decide)

set_option maxHeartbeats 4000000 in
set_option maxRecDepth 100000 in
theorem c_X12_gain_11 {l : Launch} {D : va_G} {cy : Nat → ClassId} {T0 tB tE : Nat} {a : Nat → Nat} (S : GS) (p0 : Int32) (p1 : Int32) (p2 : Int32)  (hr_p0 : 1 ≤ p0.toInt ∧ p0.toInt ≤ 3) (hr_p1 : (-2147483648) ≤ p1.toInt ∧ p1.toInt ≤ (-1)) : Ct l D cy T0 tB tE yX12_gain cX12_gain 9 (some .int) 2 44 0 0 (mw cy a S) [.ref (a 0), .int 1, .int p0, .int p1, .int p2] (QI D (U := GS) (fun r u => (-100) = r ∧ S = u) (mw cy a)) := by
  refine Ct.ofZ RX12 "gain" [(0, .ref (a 0)), (1, .int 1), (2, .int p0), (3, .int p1), (4, .int p2)] rfl rfl rfl rfl (Nat.le_of_ble_eq_true rfl) ?_
  intro p e R s m args below meth c A b
  refine z_iload_n b dX12_gain_0 rfl rfl ?_
  refine z_calli b (z_runS (As := [.int 1]) (st := []) b (c_X12_isOne_4 S ) cf_X12_isOne wm_X12_170 ws_X12_isOne dX12_gain_1 rfl (Nat.le_of_ble_eq_true rfl) ⟨by decide, by decide, by decide, by decide⟩) (fun r11968 u11969 h11967 => ?_)
  obtain ⟨rfl, rfl⟩ := h11967
  refine z_if_eq_f (tgt := 27) b dX12_gain_4 (by decide) (by decide) ?_
  refine z_aload_n b dX12_gain_7 rfl rfl ?_
  refine z_iload_n b dX12_gain_8 rfl rfl ?_
  refine z_iload_n b dX12_gain_9 rfl rfl ?_
  refine z_calli b (z_runV (q0 := 0) (As := [.int p0, .int p1]) (st := []) b (c_X12_canSearch_3 S p0 p1 ⟨by omega, by omega⟩ ⟨by omega, by omega⟩) cf_X12_canSearch (mw_0 cy a S) rfl wm_X12_433 wi_X12_canSearch ws_X12_canSearch dX12_gain_10 rfl (Nat.le_of_ble_eq_true rfl) ⟨by decide, by decide, by decide, by decide⟩) (fun r11971 u11972 h11970 => ?_)
  obtain ⟨rfl, rfl⟩ := h11970
  refine z_if_eq_t (tgt := 27) b dX12_gain_13 (by decide) (by decide) ?_
  refine z_bipush (v := (-100)) b dX12_gain_27 (by decide) ?_
  exact z_iret (u := S) b rfl dX12_gain_29 ⟨rfl, rfl⟩ rfl (by decide) (by decide)

set_option maxHeartbeats 4000000 in
set_option maxRecDepth 100000 in
theorem c_X11_gain_12 {l : Launch} {D : va_G} {cy : Nat → ClassId} {T0 tB tE : Nat} {a : Nat → Nat} {rw : Nat → Option Nat} (S : GS) (p0 : Int32) (p1 : Int32) (p2 : Int32)  (hr_p0 : 1 ≤ p0.toInt ∧ p0.toInt ≤ 3) (hr_p1 : 7 ≤ p1.toInt ∧ p1.toInt ≤ 2147483647) : Ct l D cy T0 tB tE yX11_gain cX11_gain 7 (some .int) 1 20 0 0 (cw cy tE a rw S) [.ref (a 0), .int 1, .int p0, .int p1, .int p2] (QI D (U := GS) (fun r u => (-100) = r ∧ S = u) (cw cy tE a rw)) := by
  refine Ct.ofZ RX11 "gain" [(0, .ref (a 0)), (1, .int 1), (2, .int p0), (3, .int p1), (4, .int p2)] rfl rfl rfl rfl (Nat.le_of_ble_eq_true rfl) ?_
  intro p e R s m args below meth c A b
  refine z_iload_n b dX11_gain_0 rfl rfl ?_
  refine z_calli b (z_runS (As := [.int 1]) (st := []) b (c_X11_isPerson_4 S ) cf_X11_isPerson wm_X11_69 ws_X11_isPerson dX11_gain_1 rfl (Nat.le_of_ble_eq_true rfl) ⟨by decide, by decide, by decide, by decide⟩) (fun r11974 u11975 h11973 => ?_)
  obtain ⟨rfl, rfl⟩ := h11973
  refine z_if_eq_f (tgt := 26) b dX11_gain_4 (by decide) (by decide) ?_
  refine z_iload_n b dX11_gain_7 rfl rfl ?_
  refine z_calli b (z_runS (As := [.int p0]) (st := []) b (c_X11_areLaws_3 S p0 ⟨by omega, by omega⟩) cf_X11_areLaws wm_X11_181 ws_X11_areLaws dX11_gain_8 rfl (Nat.le_of_ble_eq_true rfl) ⟨by decide, by decide, by decide, by decide⟩) (fun r11977 u11978 h11976 => ?_)
  obtain ⟨rfl, rfl⟩ := h11976
  refine z_if_eq_f (tgt := 26) b dX11_gain_11 (by decide) (by decide) ?_
  refine z_iload_n b dX11_gain_14 rfl rfl ?_
  refine z_calli b (z_runS (As := [.int p1]) (st := []) b (c_X11_isDepth_4 S p1 ⟨by omega, by omega⟩) cf_X11_isDepth wm_X11_203 ws_X11_isDepth dX11_gain_15 rfl (Nat.le_of_ble_eq_true rfl) ⟨by decide, by decide, by decide, by decide⟩) (fun r11980 u11981 h11979 => ?_)
  obtain ⟨rfl, rfl⟩ := h11979
  refine z_if_eq_t (tgt := 26) b dX11_gain_18 (by decide) (by decide) ?_
  refine z_bipush (v := (-100)) b dX11_gain_26 (by decide) ?_
  exact z_iret (u := S) b rfl dX11_gain_28 ⟨rfl, rfl⟩ rfl (by decide) (by decide)

set_option maxHeartbeats 4000000 in
set_option maxRecDepth 100000 in
theorem c_X12_gain_12 {l : Launch} {D : va_G} {cy : Nat → ClassId} {T0 tB tE : Nat} {a : Nat → Nat} (S : GS) (p0 : Int32) (p1 : Int32) (p2 : Int32)  (hr_p0 : 1 ≤ p0.toInt ∧ p0.toInt ≤ 3) (hr_p1 : 7 ≤ p1.toInt ∧ p1.toInt ≤ 2147483647) : Ct l D cy T0 tB tE yX12_gain cX12_gain 9 (some .int) 2 44 0 0 (mw cy a S) [.ref (a 0), .int 1, .int p0, .int p1, .int p2] (QI D (U := GS) (fun r u => (-100) = r ∧ S = u) (mw cy a)) := by
  refine Ct.ofZ RX12 "gain" [(0, .ref (a 0)), (1, .int 1), (2, .int p0), (3, .int p1), (4, .int p2)] rfl rfl rfl rfl (Nat.le_of_ble_eq_true rfl) ?_
  intro p e R s m args below meth c A b
  refine z_iload_n b dX12_gain_0 rfl rfl ?_
  refine z_calli b (z_runS (As := [.int 1]) (st := []) b (c_X12_isOne_4 S ) cf_X12_isOne wm_X12_170 ws_X12_isOne dX12_gain_1 rfl (Nat.le_of_ble_eq_true rfl) ⟨by decide, by decide, by decide, by decide⟩) (fun r11983 u11984 h11982 => ?_)
  obtain ⟨rfl, rfl⟩ := h11982
  refine z_if_eq_f (tgt := 27) b dX12_gain_4 (by decide) (by decide) ?_
  refine z_aload_n b dX12_gain_7 rfl rfl ?_
  refine z_iload_n b dX12_gain_8 rfl rfl ?_
  refine z_iload_n b dX12_gain_9 rfl rfl ?_
  refine z_calli b (z_runV (q0 := 0) (As := [.int p0, .int p1]) (st := []) b (c_X12_canSearch_6 S p0 p1 ⟨by omega, by omega⟩ ⟨by omega, by omega⟩) cf_X12_canSearch (mw_0 cy a S) rfl wm_X12_433 wi_X12_canSearch ws_X12_canSearch dX12_gain_10 rfl (Nat.le_of_ble_eq_true rfl) ⟨by decide, by decide, by decide, by decide⟩) (fun r11986 u11987 h11985 => ?_)
  obtain ⟨rfl, rfl⟩ := h11985
  refine z_if_eq_t (tgt := 27) b dX12_gain_13 (by decide) (by decide) ?_
  refine z_bipush (v := (-100)) b dX12_gain_27 (by decide) ?_
  exact z_iret (u := S) b rfl dX12_gain_29 ⟨rfl, rfl⟩ rfl (by decide) (by decide)

set_option maxHeartbeats 4000000 in
set_option maxRecDepth 100000 in
theorem c_X11_gain_13 {l : Launch} {D : va_G} {cy : Nat → ClassId} {T0 tB tE : Nat} {a : Nat → Nat} {rw : Nat → Option Nat} (S : GS) (p0 : Int32) (p1 : Int32) (p2 : Int32)  (hr_p0 : 1 ≤ p0.toInt ∧ p0.toInt ≤ 3) (hr_p1 : (-2147483648) ≤ p1.toInt ∧ p1.toInt ≤ (-1)) : Ct l D cy T0 tB tE yX11_gain cX11_gain 7 (some .int) 1 20 0 0 (cw cy tE a rw S) [.ref (a 0), .int 2, .int p0, .int p1, .int p2] (QI D (U := GS) (fun r u => (-100) = r ∧ S = u) (cw cy tE a rw)) := by
  refine Ct.ofZ RX11 "gain" [(0, .ref (a 0)), (1, .int 2), (2, .int p0), (3, .int p1), (4, .int p2)] rfl rfl rfl rfl (Nat.le_of_ble_eq_true rfl) ?_
  intro p e R s m args below meth c A b
  refine z_iload_n b dX11_gain_0 rfl rfl ?_
  refine z_calli b (z_runS (As := [.int 2]) (st := []) b (c_X11_isPerson_5 S ) cf_X11_isPerson wm_X11_69 ws_X11_isPerson dX11_gain_1 rfl (Nat.le_of_ble_eq_true rfl) ⟨by decide, by decide, by decide, by decide⟩) (fun r11989 u11990 h11988 => ?_)
  obtain ⟨rfl, rfl⟩ := h11988
  refine z_if_eq_f (tgt := 26) b dX11_gain_4 (by decide) (by decide) ?_
  refine z_iload_n b dX11_gain_7 rfl rfl ?_
  refine z_calli b (z_runS (As := [.int p0]) (st := []) b (c_X11_areLaws_3 S p0 ⟨by omega, by omega⟩) cf_X11_areLaws wm_X11_181 ws_X11_areLaws dX11_gain_8 rfl (Nat.le_of_ble_eq_true rfl) ⟨by decide, by decide, by decide, by decide⟩) (fun r11992 u11993 h11991 => ?_)
  obtain ⟨rfl, rfl⟩ := h11991
  refine z_if_eq_f (tgt := 26) b dX11_gain_11 (by decide) (by decide) ?_
  refine z_iload_n b dX11_gain_14 rfl rfl ?_
  refine z_calli b (z_runS (As := [.int p1]) (st := []) b (c_X11_isDepth S p1 ⟨by omega, by omega⟩) cf_X11_isDepth wm_X11_203 ws_X11_isDepth dX11_gain_15 rfl (Nat.le_of_ble_eq_true rfl) ⟨by decide, by decide, by decide, by decide⟩) (fun r11995 u11996 h11994 => ?_)
  obtain ⟨rfl, rfl⟩ := h11994
  refine z_if_eq_t (tgt := 26) b dX11_gain_18 (by decide) (by decide) ?_
  refine z_bipush (v := (-100)) b dX11_gain_26 (by decide) ?_
  exact z_iret (u := S) b rfl dX11_gain_28 ⟨rfl, rfl⟩ rfl (by decide) (by decide)

set_option maxHeartbeats 4000000 in
set_option maxRecDepth 100000 in
theorem c_X12_gain_13 {l : Launch} {D : va_G} {cy : Nat → ClassId} {T0 tB tE : Nat} {a : Nat → Nat} (S : GS) (p0 : Int32) (p1 : Int32) (p2 : Int32)  (hr_p0 : 1 ≤ p0.toInt ∧ p0.toInt ≤ 3) (hr_p1 : (-2147483648) ≤ p1.toInt ∧ p1.toInt ≤ (-1)) : Ct l D cy T0 tB tE yX12_gain cX12_gain 9 (some .int) 2 44 0 0 (mw cy a S) [.ref (a 0), .int 2, .int p0, .int p1, .int p2] (QI D (U := GS) (fun r u => (-100) = r ∧ S = u) (mw cy a)) := by
  refine Ct.ofZ RX12 "gain" [(0, .ref (a 0)), (1, .int 2), (2, .int p0), (3, .int p1), (4, .int p2)] rfl rfl rfl rfl (Nat.le_of_ble_eq_true rfl) ?_
  intro p e R s m args below meth c A b
  refine z_iload_n b dX12_gain_0 rfl rfl ?_
  refine z_calli b (z_runS (As := [.int 2]) (st := []) b (c_X12_isOne_5 S ) cf_X12_isOne wm_X12_170 ws_X12_isOne dX12_gain_1 rfl (Nat.le_of_ble_eq_true rfl) ⟨by decide, by decide, by decide, by decide⟩) (fun r11998 u11999 h11997 => ?_)
  obtain ⟨rfl, rfl⟩ := h11997
  refine z_if_eq_f (tgt := 27) b dX12_gain_4 (by decide) (by decide) ?_
  refine z_aload_n b dX12_gain_7 rfl rfl ?_
  refine z_iload_n b dX12_gain_8 rfl rfl ?_
  refine z_iload_n b dX12_gain_9 rfl rfl ?_
  refine z_calli b (z_runV (q0 := 0) (As := [.int p0, .int p1]) (st := []) b (c_X12_canSearch_3 S p0 p1 ⟨by omega, by omega⟩ ⟨by omega, by omega⟩) cf_X12_canSearch (mw_0 cy a S) rfl wm_X12_433 wi_X12_canSearch ws_X12_canSearch dX12_gain_10 rfl (Nat.le_of_ble_eq_true rfl) ⟨by decide, by decide, by decide, by decide⟩) (fun r12001 u12002 h12000 => ?_)
  obtain ⟨rfl, rfl⟩ := h12000
  refine z_if_eq_t (tgt := 27) b dX12_gain_13 (by decide) (by decide) ?_
  refine z_bipush (v := (-100)) b dX12_gain_27 (by decide) ?_
  exact z_iret (u := S) b rfl dX12_gain_29 ⟨rfl, rfl⟩ rfl (by decide) (by decide)

set_option maxHeartbeats 4000000 in
set_option maxRecDepth 100000 in
theorem c_X11_gain_14 {l : Launch} {D : va_G} {cy : Nat → ClassId} {T0 tB tE : Nat} {a : Nat → Nat} {rw : Nat → Option Nat} (S : GS) (p0 : Int32) (p1 : Int32) (p2 : Int32)  (hr_p0 : 1 ≤ p0.toInt ∧ p0.toInt ≤ 3) (hr_p1 : 7 ≤ p1.toInt ∧ p1.toInt ≤ 2147483647) : Ct l D cy T0 tB tE yX11_gain cX11_gain 7 (some .int) 1 20 0 0 (cw cy tE a rw S) [.ref (a 0), .int 2, .int p0, .int p1, .int p2] (QI D (U := GS) (fun r u => (-100) = r ∧ S = u) (cw cy tE a rw)) := by
  refine Ct.ofZ RX11 "gain" [(0, .ref (a 0)), (1, .int 2), (2, .int p0), (3, .int p1), (4, .int p2)] rfl rfl rfl rfl (Nat.le_of_ble_eq_true rfl) ?_
  intro p e R s m args below meth c A b
  refine z_iload_n b dX11_gain_0 rfl rfl ?_
  refine z_calli b (z_runS (As := [.int 2]) (st := []) b (c_X11_isPerson_5 S ) cf_X11_isPerson wm_X11_69 ws_X11_isPerson dX11_gain_1 rfl (Nat.le_of_ble_eq_true rfl) ⟨by decide, by decide, by decide, by decide⟩) (fun r12004 u12005 h12003 => ?_)
  obtain ⟨rfl, rfl⟩ := h12003
  refine z_if_eq_f (tgt := 26) b dX11_gain_4 (by decide) (by decide) ?_
  refine z_iload_n b dX11_gain_7 rfl rfl ?_
  refine z_calli b (z_runS (As := [.int p0]) (st := []) b (c_X11_areLaws_3 S p0 ⟨by omega, by omega⟩) cf_X11_areLaws wm_X11_181 ws_X11_areLaws dX11_gain_8 rfl (Nat.le_of_ble_eq_true rfl) ⟨by decide, by decide, by decide, by decide⟩) (fun r12007 u12008 h12006 => ?_)
  obtain ⟨rfl, rfl⟩ := h12006
  refine z_if_eq_f (tgt := 26) b dX11_gain_11 (by decide) (by decide) ?_
  refine z_iload_n b dX11_gain_14 rfl rfl ?_
  refine z_calli b (z_runS (As := [.int p1]) (st := []) b (c_X11_isDepth_4 S p1 ⟨by omega, by omega⟩) cf_X11_isDepth wm_X11_203 ws_X11_isDepth dX11_gain_15 rfl (Nat.le_of_ble_eq_true rfl) ⟨by decide, by decide, by decide, by decide⟩) (fun r12010 u12011 h12009 => ?_)
  obtain ⟨rfl, rfl⟩ := h12009
  refine z_if_eq_t (tgt := 26) b dX11_gain_18 (by decide) (by decide) ?_
  refine z_bipush (v := (-100)) b dX11_gain_26 (by decide) ?_
  exact z_iret (u := S) b rfl dX11_gain_28 ⟨rfl, rfl⟩ rfl (by decide) (by decide)

set_option maxHeartbeats 4000000 in
set_option maxRecDepth 100000 in
theorem c_X12_gain_14 {l : Launch} {D : va_G} {cy : Nat → ClassId} {T0 tB tE : Nat} {a : Nat → Nat} (S : GS) (p0 : Int32) (p1 : Int32) (p2 : Int32)  (hr_p0 : 1 ≤ p0.toInt ∧ p0.toInt ≤ 3) (hr_p1 : 7 ≤ p1.toInt ∧ p1.toInt ≤ 2147483647) : Ct l D cy T0 tB tE yX12_gain cX12_gain 9 (some .int) 2 44 0 0 (mw cy a S) [.ref (a 0), .int 2, .int p0, .int p1, .int p2] (QI D (U := GS) (fun r u => (-100) = r ∧ S = u) (mw cy a)) := by
  refine Ct.ofZ RX12 "gain" [(0, .ref (a 0)), (1, .int 2), (2, .int p0), (3, .int p1), (4, .int p2)] rfl rfl rfl rfl (Nat.le_of_ble_eq_true rfl) ?_
  intro p e R s m args below meth c A b
  refine z_iload_n b dX12_gain_0 rfl rfl ?_
  refine z_calli b (z_runS (As := [.int 2]) (st := []) b (c_X12_isOne_5 S ) cf_X12_isOne wm_X12_170 ws_X12_isOne dX12_gain_1 rfl (Nat.le_of_ble_eq_true rfl) ⟨by decide, by decide, by decide, by decide⟩) (fun r12013 u12014 h12012 => ?_)
  obtain ⟨rfl, rfl⟩ := h12012
  refine z_if_eq_f (tgt := 27) b dX12_gain_4 (by decide) (by decide) ?_
  refine z_aload_n b dX12_gain_7 rfl rfl ?_
  refine z_iload_n b dX12_gain_8 rfl rfl ?_
  refine z_iload_n b dX12_gain_9 rfl rfl ?_
  refine z_calli b (z_runV (q0 := 0) (As := [.int p0, .int p1]) (st := []) b (c_X12_canSearch_6 S p0 p1 ⟨by omega, by omega⟩ ⟨by omega, by omega⟩) cf_X12_canSearch (mw_0 cy a S) rfl wm_X12_433 wi_X12_canSearch ws_X12_canSearch dX12_gain_10 rfl (Nat.le_of_ble_eq_true rfl) ⟨by decide, by decide, by decide, by decide⟩) (fun r12016 u12017 h12015 => ?_)
  obtain ⟨rfl, rfl⟩ := h12015
  refine z_if_eq_t (tgt := 27) b dX12_gain_13 (by decide) (by decide) ?_
  refine z_bipush (v := (-100)) b dX12_gain_27 (by decide) ?_
  exact z_iret (u := S) b rfl dX12_gain_29 ⟨rfl, rfl⟩ rfl (by decide) (by decide)

set_option maxHeartbeats 4000000 in
set_option maxRecDepth 100000 in
theorem c_X11_gain_15 {l : Launch} {D : va_G} {cy : Nat → ClassId} {T0 tB tE : Nat} {a : Nat → Nat} {rw : Nat → Option Nat} (S : GS) (p0 : Int32) (p1 : Int32)  (hr_p0 : 1 ≤ p0.toInt ∧ p0.toInt ≤ 3) (hr_p1 : (-2147483648) ≤ p1.toInt ∧ p1.toInt ≤ (-1)) : Ct l D cy T0 tB tE yX11_gain cX11_gain 7 (some .int) 1 20 0 0 (cw cy tE a rw S) [.ref (a 0), .int 0, .int p0, .int 0, .int p1] (QI D (U := GS) (fun r u => (-100) = r ∧ S = u) (cw cy tE a rw)) := by
  refine Ct.ofZ RX11 "gain" [(0, .ref (a 0)), (1, .int 0), (2, .int p0), (3, .int 0), (4, .int p1)] rfl rfl rfl rfl (Nat.le_of_ble_eq_true rfl) ?_
  intro p e R s m args below meth c A b
  refine z_iload_n b dX11_gain_0 rfl rfl ?_
  refine z_calli b (z_runS (As := [.int 0]) (st := []) b (c_X11_isPerson_3 S ) cf_X11_isPerson wm_X11_69 ws_X11_isPerson dX11_gain_1 rfl (Nat.le_of_ble_eq_true rfl) ⟨by decide, by decide, by decide, by decide⟩) (fun r12019 u12020 h12018 => ?_)
  obtain ⟨rfl, rfl⟩ := h12018
  refine z_if_eq_f (tgt := 26) b dX11_gain_4 (by decide) (by decide) ?_
  refine z_iload_n b dX11_gain_7 rfl rfl ?_
  refine z_calli b (z_runS (As := [.int p0]) (st := []) b (c_X11_areLaws_3 S p0 ⟨by omega, by omega⟩) cf_X11_areLaws wm_X11_181 ws_X11_areLaws dX11_gain_8 rfl (Nat.le_of_ble_eq_true rfl) ⟨by decide, by decide, by decide, by decide⟩) (fun r12022 u12023 h12021 => ?_)
  obtain ⟨rfl, rfl⟩ := h12021
  refine z_if_eq_f (tgt := 26) b dX11_gain_11 (by decide) (by decide) ?_
  refine z_iload_n b dX11_gain_14 rfl rfl ?_
  refine z_calli b (z_runS (As := [.int 0]) (st := []) b (c_X11_isDepth_2 S ) cf_X11_isDepth wm_X11_203 ws_X11_isDepth dX11_gain_15 rfl (Nat.le_of_ble_eq_true rfl) ⟨by decide, by decide, by decide, by decide⟩) (fun r12025 u12026 h12024 => ?_)
  obtain ⟨rfl, rfl⟩ := h12024
  refine z_if_eq_f (tgt := 26) b dX11_gain_18 (by decide) (by decide) ?_
  refine z_iload b dX11_gain_21 rfl ?_
  refine y_if_ge (tgt := 29) (xl := p1.toInt) b rfl dX11_gain_23 (by decide) (fun c12027 => ?_) (fun c12027 => ?_)
  · exfalso; omega
  · refine z_bipush (v := (-100)) b dX11_gain_26 (by decide) ?_
    exact z_iret (u := S) b rfl dX11_gain_28 ⟨rfl, rfl⟩ rfl (by decide) (by decide)

set_option maxHeartbeats 4000000 in
set_option maxRecDepth 100000 in
theorem c_X12_gain_15 {l : Launch} {D : va_G} {cy : Nat → ClassId} {T0 tB tE : Nat} {a : Nat → Nat} (S : GS) (p0 : Int32) (p1 : Int32)  (hr_p0 : 1 ≤ p0.toInt ∧ p0.toInt ≤ 3) (hr_p1 : (-2147483648) ≤ p1.toInt ∧ p1.toInt ≤ (-1)) : Ct l D cy T0 tB tE yX12_gain cX12_gain 9 (some .int) 2 44 0 0 (mw cy a S) [.ref (a 0), .int 0, .int p0, .int 0, .int p1] (QI D (U := GS) (fun r u => (-100) = r ∧ S = u) (mw cy a)) := by
  refine Ct.ofZ RX12 "gain" [(0, .ref (a 0)), (1, .int 0), (2, .int p0), (3, .int 0), (4, .int p1)] rfl rfl rfl rfl (Nat.le_of_ble_eq_true rfl) ?_
  intro p e R s m args below meth c A b
  refine z_iload_n b dX12_gain_0 rfl rfl ?_
  refine z_calli b (z_runS (As := [.int 0]) (st := []) b (c_X12_isOne_3 S ) cf_X12_isOne wm_X12_170 ws_X12_isOne dX12_gain_1 rfl (Nat.le_of_ble_eq_true rfl) ⟨by decide, by decide, by decide, by decide⟩) (fun r12029 u12030 h12028 => ?_)
  obtain ⟨rfl, rfl⟩ := h12028
  refine z_if_eq_f (tgt := 27) b dX12_gain_4 (by decide) (by decide) ?_
  refine z_aload_n b dX12_gain_7 rfl rfl ?_
  refine z_iload_n b dX12_gain_8 rfl rfl ?_
  refine z_iload_n b dX12_gain_9 rfl rfl ?_
  refine z_calli b (z_runV (q0 := 0) (As := [.int p0, .int 0]) (st := []) b (c_X12_canSearch_4 S p0 ⟨by omega, by omega⟩) cf_X12_canSearch (mw_0 cy a S) rfl wm_X12_433 wi_X12_canSearch ws_X12_canSearch dX12_gain_10 rfl (Nat.le_of_ble_eq_true rfl) ⟨by decide, by decide, by decide, by decide⟩) (fun r12032 u12033 h12031 => ?_)
  obtain ⟨rfl, rfl⟩ := h12031
  refine z_if_eq_f (tgt := 27) b dX12_gain_13 (by decide) (by decide) ?_
  refine z_iload b dX12_gain_16 rfl ?_
  refine z_iconst (v := 0) b dX12_gain_18 (by decide) ?_
  refine z_bipush (v := 7) b dX12_gain_19 (by decide) ?_
  refine z_calli b (z_runS (As := [.int p1, .int 0, .int 7]) (st := []) b (c_X12_isIn_12 S p1 ⟨by omega, by omega⟩) cf_X12_isIn wm_X12_1 ws_X12_isIn dX12_gain_21 rfl (Nat.le_of_ble_eq_true rfl) ⟨by decide, by decide, by decide, by decide⟩) (fun r12035 u12036 h12034 => ?_)
  obtain ⟨rfl, rfl⟩ := h12034
  refine z_if_ne_f (tgt := 30) b dX12_gain_24 (by decide) (by decide) ?_
  refine z_bipush (v := (-100)) b dX12_gain_27 (by decide) ?_
  exact z_iret (u := S) b rfl dX12_gain_29 ⟨rfl, rfl⟩ rfl (by decide) (by decide)

set_option maxHeartbeats 4000000 in
set_option maxRecDepth 100000 in
theorem c_X9_get {l : Launch} {D : va_G} {cy : Nat → ClassId} {T0 tB tE : Nat} {a : Nat → Nat} {rw : Nat → Option Nat} (S : GS)  (h_a_9_0 : ar S 9 0 = 0) : Ct l D cy T0 tB tE yX9_get cX9_get 2 (some .int) 0 0 0 0 (cw cy tE a rw S) [.ref (a 26), .int 0] (QI D (U := GS) (fun r u => 0 = r ∧ S = u) (cw cy tE a rw)) := by
  refine Ct.ofZ RX9 "get" [(0, .ref (a 26)), (1, .int 0)] rfl rfl rfl rfl (Nat.le_of_ble_eq_true rfl) ?_
  intro p e R s m args below meth c A b
  refine z_iload_n b dX9_get_0 rfl rfl ?_
  refine z_if_lt_f (tgt := 22) b dX9_get_1 (by decide) (by decide) ?_
  refine z_iload_n b dX9_get_4 rfl rfl ?_
  refine z_aload_n b dX9_get_5 rfl rfl ?_
  refine z_get (q0 := 26) (k9 := 0) (v := .ref (a 27)) b (cw_26 cy tE a rw S) rfl in_X9 (by decide) wf_X9_11 rfl dX9_get_6 ?_
  refine z_alen (q0 := 27) (t0 := 0) (v := 51) b (cw_27 cy tE a rw S) rfl rfl dX9_get_9 ?_
  refine z_icmp_ge_f (tgt := 22) b dX9_get_10 (by decide) (by decide) ?_
  refine z_aload_n b dX9_get_13 rfl rfl ?_
  refine z_get (q0 := 26) (k9 := 0) (v := .ref (a 27)) b (cw_26 cy tE a rw S) rfl in_X9 (by decide) wf_X9_11 rfl dX9_get_14 ?_
  refine z_iload_n b dX9_get_17 rfl rfl ?_
  refine y_iald (q0 := 27) (j := 0) (v := (ar S 9 0)) b (cw_27 cy tE a rw S) (by decide) rfl dX9_get_18 ?_
  refine z_eqi h_a_9_0 ?_
  refine z_goto (tgt := 23) b dX9_get_19 (by decide) ?_
  exact z_iret (u := S) b rfl dX9_get_23 ⟨rfl, rfl⟩ rfl (by decide) (by decide)

set_option maxHeartbeats 4000000 in
set_option maxRecDepth 100000 in
theorem c_X9_get_2 {l : Launch} {D : va_G} {cy : Nat → ClassId} {T0 tB tE : Nat} {a : Nat → Nat} {rw : Nat → Option Nat} (S : GS)  (h_a_9_11 : ar S 9 11 = 0) : Ct l D cy T0 tB tE yX9_get cX9_get 2 (some .int) 0 0 0 0 (cw cy tE a rw S) [.ref (a 26), .int 11] (QI D (U := GS) (fun r u => 0 = r ∧ S = u) (cw cy tE a rw)) := by
  refine Ct.ofZ RX9 "get" [(0, .ref (a 26)), (1, .int 11)] rfl rfl rfl rfl (Nat.le_of_ble_eq_true rfl) ?_
  intro p e R s m args below meth c A b
  refine z_iload_n b dX9_get_0 rfl rfl ?_
  refine z_if_lt_f (tgt := 22) b dX9_get_1 (by decide) (by decide) ?_
  refine z_iload_n b dX9_get_4 rfl rfl ?_
  refine z_aload_n b dX9_get_5 rfl rfl ?_
  refine z_get (q0 := 26) (k9 := 0) (v := .ref (a 27)) b (cw_26 cy tE a rw S) rfl in_X9 (by decide) wf_X9_11 rfl dX9_get_6 ?_
  refine z_alen (q0 := 27) (t0 := 0) (v := 51) b (cw_27 cy tE a rw S) rfl rfl dX9_get_9 ?_
  refine z_icmp_ge_f (tgt := 22) b dX9_get_10 (by decide) (by decide) ?_
  refine z_aload_n b dX9_get_13 rfl rfl ?_
  refine z_get (q0 := 26) (k9 := 0) (v := .ref (a 27)) b (cw_26 cy tE a rw S) rfl in_X9 (by decide) wf_X9_11 rfl dX9_get_14 ?_
  refine z_iload_n b dX9_get_17 rfl rfl ?_
  refine y_iald (q0 := 27) (j := 11) (v := (ar S 9 11)) b (cw_27 cy tE a rw S) (by decide) rfl dX9_get_18 ?_
  refine z_eqi h_a_9_11 ?_
  refine z_goto (tgt := 23) b dX9_get_19 (by decide) ?_
  exact z_iret (u := S) b rfl dX9_get_23 ⟨rfl, rfl⟩ rfl (by decide) (by decide)

set_option maxHeartbeats 4000000 in
set_option maxRecDepth 100000 in
theorem c_X9_get_3 {l : Launch} {D : va_G} {cy : Nat → ClassId} {T0 tB tE : Nat} {a : Nat → Nat} {rw : Nat → Option Nat} (S : GS)  (h_a_9_12 : ar S 9 12 = 0) : Ct l D cy T0 tB tE yX9_get cX9_get 2 (some .int) 0 0 0 0 (cw cy tE a rw S) [.ref (a 26), .int 12] (QI D (U := GS) (fun r u => 0 = r ∧ S = u) (cw cy tE a rw)) := by
  refine Ct.ofZ RX9 "get" [(0, .ref (a 26)), (1, .int 12)] rfl rfl rfl rfl (Nat.le_of_ble_eq_true rfl) ?_
  intro p e R s m args below meth c A b
  refine z_iload_n b dX9_get_0 rfl rfl ?_
  refine z_if_lt_f (tgt := 22) b dX9_get_1 (by decide) (by decide) ?_
  refine z_iload_n b dX9_get_4 rfl rfl ?_
  refine z_aload_n b dX9_get_5 rfl rfl ?_
  refine z_get (q0 := 26) (k9 := 0) (v := .ref (a 27)) b (cw_26 cy tE a rw S) rfl in_X9 (by decide) wf_X9_11 rfl dX9_get_6 ?_
  refine z_alen (q0 := 27) (t0 := 0) (v := 51) b (cw_27 cy tE a rw S) rfl rfl dX9_get_9 ?_
  refine z_icmp_ge_f (tgt := 22) b dX9_get_10 (by decide) (by decide) ?_
  refine z_aload_n b dX9_get_13 rfl rfl ?_
  refine z_get (q0 := 26) (k9 := 0) (v := .ref (a 27)) b (cw_26 cy tE a rw S) rfl in_X9 (by decide) wf_X9_11 rfl dX9_get_14 ?_
  refine z_iload_n b dX9_get_17 rfl rfl ?_
  refine y_iald (q0 := 27) (j := 12) (v := (ar S 9 12)) b (cw_27 cy tE a rw S) (by decide) rfl dX9_get_18 ?_
  refine z_eqi h_a_9_12 ?_
  refine z_goto (tgt := 23) b dX9_get_19 (by decide) ?_
  exact z_iret (u := S) b rfl dX9_get_23 ⟨rfl, rfl⟩ rfl (by decide) (by decide)

set_option maxHeartbeats 4000000 in
set_option maxRecDepth 100000 in
theorem c_X8_wealth {l : Launch} {D : va_G} {cy : Nat → ClassId} {T0 tB tE : Nat} {a : Nat → Nat} {rw : Nat → Option Nat} (S : GS)  (h_i_25 : fi S 25 = 1) (h_A_2_0 : al S 2 0 = 4128768) (h_a_9_50 : ar S 9 50 = 0) (h_a_9_40 : ar S 9 40 = 3) (h_a_9_41 : ar S 9 41 = 3) (h_a_9_42 : ar S 9 42 = 3) (h_a_9_0 : ar S 9 0 = 0) (h_a_9_11 : ar S 9 11 = 0) (h_a_9_21 : ar S 9 21 = 0) (h_a_9_31 : ar S 9 31 = 0) (h_a_9_12 : ar S 9 12 = 0) (h_a_9_22 : ar S 9 22 = 0) (h_a_9_32 : ar S 9 32 = 0) (h_a_9_1 : ar S 9 1 = 0) (h_a_9_13 : ar S 9 13 = 0) (h_a_9_23 : ar S 9 23 = 0) (h_a_9_33 : ar S 9 33 = 0) (h_a_9_15 : ar S 9 15 = 0) (h_a_9_25 : ar S 9 25 = 0) (h_a_9_35 : ar S 9 35 = 0) (h_a_9_2 : ar S 9 2 = 0) (h_a_9_16 : ar S 9 16 = 0) (h_a_9_26 : ar S 9 26 = 0) (h_a_9_36 : ar S 9 36 = 0) (h_a_9_17 : ar S 9 17 = 0) (h_a_9_27 : ar S 9 27 = 0) (h_a_9_37 : ar S 9 37 = 0) : Ct l D cy T0 tB tE yX8_wealth cX8_wealth 5 (some .int) 3 68 0 0 (cw cy tE a rw S) [.ref (a 25), .int 0, .int 0] (QI D (U := GS) (fun r u => 0 = r ∧ S = u) (cw cy tE a rw)) := by
  refine Ct.ofZ RX8 "wealth" [(0, .ref (a 25)), (1, .int 0), (2, .int 0)] rfl rfl rfl rfl (Nat.le_of_ble_eq_true rfl) ?_
  intro p e R s m args below meth c A b
  refine z_aload_n b dX8_wealth_0 rfl rfl ?_
  refine z_iload_n b dX8_wealth_1 rfl rfl ?_
  refine z_callv b (z_runV (q0 := 25) (As := [.int 0]) (st := []) b (c_X8_load S h_i_25 h_A_2_0 h_a_9_50 h_a_9_40 h_a_9_41 h_a_9_42 h_a_9_0 h_a_9_11 h_a_9_21 h_a_9_31 h_a_9_12 h_a_9_22 h_a_9_32 h_a_9_1 h_a_9_13 h_a_9_23 h_a_9_33 h_a_9_15 h_a_9_25 h_a_9_35 h_a_9_2 h_a_9_16 h_a_9_26 h_a_9_36 h_a_9_17 h_a_9_27 h_a_9_37) cf_X8_load (cw_25 cy tE a rw S) rfl wm_X8_153 wi_X8_load ws_X8_load dX8_wealth_2 rfl (Nat.le_of_ble_eq_true rfl) ⟨by decide, by decide, by decide, by decide⟩) (fun u12054 h12052 => ?_)
  obtain rfl := h12052
  refine z_aload_n b dX8_wealth_5 rfl rfl ?_
  refine z_get (q0 := 25) (k9 := 2) (v := .ref (a 26)) b (cw_25 cy tE a rw S) rfl in_X8 (by decide) wf_X8_12 rfl dX8_wealth_6 ?_
  refine z_iload_n b dX8_wealth_9 rfl rfl ?_
  refine z_calli b (z_runV (q0 := 26) (As := [.int 0]) (st := []) b (c_X9_get S h_a_9_0) cf_X9_get (cw_26 cy tE a rw S) rfl wm_X8_161 wi_X9_get ws_X9_get dX8_wealth_10 rfl (Nat.le_of_ble_eq_true rfl) ⟨by decide, by decide, by decide, by decide⟩) (fun r12056 u12057 h12055 => ?_)
  obtain ⟨rfl, rfl⟩ := h12055
  refine z_istore_n (lv' := [(3, .int 0), (0, .ref (a 25)), (1, .int 0), (2, .int 0)]) b dX8_wealth_13 rfl (by decide) rfl ?_
  refine z_iconst (v := 0) b dX8_wealth_14 (by decide) ?_
  refine z_istore (lv' := [(4, .int 0), (3, .int 0), (0, .ref (a 25)), (1, .int 0), (2, .int 0)]) b dX8_wealth_15 (by decide) rfl ?_
  refine z_iload b dX8_wealth_17 rfl ?_
  refine z_iconst (v := 3) b dX8_wealth_19 (by decide) ?_
  refine z_icmp_ge_f (tgt := 54) b dX8_wealth_20 (by decide) (by decide) ?_
  refine z_iload b dX8_wealth_23 rfl ?_
  refine z_iload_n b dX8_wealth_25 rfl rfl ?_
  refine z_icmp_eq_t (tgt := 48) b dX8_wealth_26 (by decide) (by decide) ?_
  refine z_iinc (k9 := 0) (v := 1) (lv' := [(4, .int 1), (3, .int 0), (0, .ref (a 25)), (1, .int 0), (2, .int 0)]) b dX8_wealth_48 rfl (by decide) (by decide) rfl ?_
  refine z_goto (tgt := 17) b dX8_wealth_51 (by decide) ?_
  refine z_iload b dX8_wealth_17 rfl ?_
  refine z_iconst (v := 3) b dX8_wealth_19 (by decide) ?_
  refine z_icmp_ge_f (tgt := 54) b dX8_wealth_20 (by decide) (by decide) ?_
  refine z_iload b dX8_wealth_23 rfl ?_
  refine z_iload_n b dX8_wealth_25 rfl rfl ?_
  refine z_icmp_eq_f (tgt := 48) b dX8_wealth_26 (by decide) (by decide) ?_
  refine z_iload_n b dX8_wealth_29 rfl rfl ?_
  refine z_aload_n b dX8_wealth_30 rfl rfl ?_
  refine z_get (q0 := 25) (k9 := 2) (v := .ref (a 26)) b (cw_25 cy tE a rw S) rfl in_X8 (by decide) wf_X8_12 rfl dX8_wealth_31 ?_
  refine z_bipush (v := 10) b dX8_wealth_34 (by decide) ?_
  refine z_iconst (v := 3) b dX8_wealth_36 (by decide) ?_
  refine z_iload_n b dX8_wealth_37 rfl rfl ?_
  refine z_imul (v := 0) b dX8_wealth_38 (by decide) ?_
  refine z_iadd (v := 10) b dX8_wealth_39 (by decide) ?_
  refine z_iload b dX8_wealth_40 rfl ?_
  refine z_iadd (v := 11) b dX8_wealth_42 (by decide) ?_
  refine z_calli b (z_runV (q0 := 26) (As := [.int 11]) (st := [.int 0]) b (c_X9_get_2 S h_a_9_11) cf_X9_get (cw_26 cy tE a rw S) rfl wm_X8_161 wi_X9_get ws_X9_get dX8_wealth_43 rfl (Nat.le_of_ble_eq_true rfl) ⟨by decide, by decide, by decide, by decide⟩) (fun r12059 u12060 h12058 => ?_)
  obtain ⟨rfl, rfl⟩ := h12058
  refine z_isub (v := 0) b dX8_wealth_46 (by decide) ?_
  refine z_istore_n (lv' := [(3, .int 0), (4, .int 1), (0, .ref (a 25)), (1, .int 0), (2, .int 0)]) b dX8_wealth_47 rfl (by decide) rfl ?_
  refine z_iinc (k9 := 1) (v := 2) (lv' := [(4, .int 2), (3, .int 0), (0, .ref (a 25)), (1, .int 0), (2, .int 0)]) b dX8_wealth_48 rfl (by decide) (by decide) rfl ?_
  refine z_goto (tgt := 17) b dX8_wealth_51 (by decide) ?_
  refine z_iload b dX8_wealth_17 rfl ?_
  refine z_iconst (v := 3) b dX8_wealth_19 (by decide) ?_
  refine z_icmp_ge_f (tgt := 54) b dX8_wealth_20 (by decide) (by decide) ?_
  refine z_iload b dX8_wealth_23 rfl ?_
  refine z_iload_n b dX8_wealth_25 rfl rfl ?_
  refine z_icmp_eq_f (tgt := 48) b dX8_wealth_26 (by decide) (by decide) ?_
  refine z_iload_n b dX8_wealth_29 rfl rfl ?_
  refine z_aload_n b dX8_wealth_30 rfl rfl ?_
  refine z_get (q0 := 25) (k9 := 2) (v := .ref (a 26)) b (cw_25 cy tE a rw S) rfl in_X8 (by decide) wf_X8_12 rfl dX8_wealth_31 ?_
  refine z_bipush (v := 10) b dX8_wealth_34 (by decide) ?_
  refine z_iconst (v := 3) b dX8_wealth_36 (by decide) ?_
  refine z_iload_n b dX8_wealth_37 rfl rfl ?_
  refine z_imul (v := 0) b dX8_wealth_38 (by decide) ?_
  refine z_iadd (v := 10) b dX8_wealth_39 (by decide) ?_
  refine z_iload b dX8_wealth_40 rfl ?_
  refine z_iadd (v := 12) b dX8_wealth_42 (by decide) ?_
  refine z_calli b (z_runV (q0 := 26) (As := [.int 12]) (st := [.int 0]) b (c_X9_get_3 S h_a_9_12) cf_X9_get (cw_26 cy tE a rw S) rfl wm_X8_161 wi_X9_get ws_X9_get dX8_wealth_43 rfl (Nat.le_of_ble_eq_true rfl) ⟨by decide, by decide, by decide, by decide⟩) (fun r12062 u12063 h12061 => ?_)
  obtain ⟨rfl, rfl⟩ := h12061
  refine z_isub (v := 0) b dX8_wealth_46 (by decide) ?_
  refine z_istore_n (lv' := [(3, .int 0), (4, .int 2), (0, .ref (a 25)), (1, .int 0), (2, .int 0)]) b dX8_wealth_47 rfl (by decide) rfl ?_
  refine z_iinc (k9 := 1) (v := 3) (lv' := [(4, .int 3), (3, .int 0), (0, .ref (a 25)), (1, .int 0), (2, .int 0)]) b dX8_wealth_48 rfl (by decide) (by decide) rfl ?_
  refine z_goto (tgt := 17) b dX8_wealth_51 (by decide) ?_
  refine z_iload b dX8_wealth_17 rfl ?_
  refine z_iconst (v := 3) b dX8_wealth_19 (by decide) ?_
  refine z_icmp_ge_t (tgt := 54) b dX8_wealth_20 (by decide) (by decide) ?_
  refine z_iload_n b dX8_wealth_54 rfl rfl ?_
  exact z_iret (u := S) b rfl dX8_wealth_55 ⟨rfl, rfl⟩ rfl (by decide) (by decide)

set_option maxHeartbeats 4000000 in
set_option maxRecDepth 100000 in
theorem c_X8_richest {l : Launch} {D : va_G} {cy : Nat → ClassId} {T0 tB tE : Nat} {a : Nat → Nat} {rw : Nat → Option Nat} (S : GS)  (h_i_25 : fi S 25 = 1) (h_A_2_0 : al S 2 0 = 4128768) (h_a_9_50 : ar S 9 50 = 0) (h_a_9_40 : ar S 9 40 = 3) (h_a_9_41 : ar S 9 41 = 3) (h_a_9_42 : ar S 9 42 = 3) (h_a_9_0 : ar S 9 0 = 0) (h_a_9_11 : ar S 9 11 = 0) (h_a_9_21 : ar S 9 21 = 0) (h_a_9_31 : ar S 9 31 = 0) (h_a_9_12 : ar S 9 12 = 0) (h_a_9_22 : ar S 9 22 = 0) (h_a_9_32 : ar S 9 32 = 0) (h_a_9_1 : ar S 9 1 = 0) (h_a_9_13 : ar S 9 13 = 0) (h_a_9_23 : ar S 9 23 = 0) (h_a_9_33 : ar S 9 33 = 0) (h_a_9_15 : ar S 9 15 = 0) (h_a_9_25 : ar S 9 25 = 0) (h_a_9_35 : ar S 9 35 = 0) (h_a_9_2 : ar S 9 2 = 0) (h_a_9_16 : ar S 9 16 = 0) (h_a_9_26 : ar S 9 26 = 0) (h_a_9_36 : ar S 9 36 = 0) (h_a_9_17 : ar S 9 17 = 0) (h_a_9_27 : ar S 9 27 = 0) (h_a_9_37 : ar S 9 37 = 0) : Ct l D cy T0 tB tE yX8_richest cX8_richest 6 (some .int) 4 92 0 0 (cw cy tE a rw S) [.ref (a 25), .int 0] (QI D (U := GS) (fun r u => 0 = r ∧ S = u) (cw cy tE a rw)) := by
  refine Ct.ofZ RX8 "richest" [(0, .ref (a 25)), (1, .int 0)] rfl rfl rfl rfl (Nat.le_of_ble_eq_true rfl) ?_
  intro p e R s m args below meth c A b
  refine z_iconst (v := 0) b dX8_richest_0 (by decide) ?_
  refine z_istore_n (lv' := [(2, .int 0), (0, .ref (a 25)), (1, .int 0)]) b dX8_richest_1 rfl (by decide) rfl ?_
  refine z_aload_n b dX8_richest_2 rfl rfl ?_
  refine z_iconst (v := 0) b dX8_richest_3 (by decide) ?_
  refine z_iload_n b dX8_richest_4 rfl rfl ?_
  refine z_calli b (z_runV (q0 := 25) (As := [.int 0, .int 0]) (st := []) b (c_X8_wealth S h_i_25 h_A_2_0 h_a_9_50 h_a_9_40 h_a_9_41 h_a_9_42 h_a_9_0 h_a_9_11 h_a_9_21 h_a_9_31 h_a_9_12 h_a_9_22 h_a_9_32 h_a_9_1 h_a_9_13 h_a_9_23 h_a_9_33 h_a_9_15 h_a_9_25 h_a_9_35 h_a_9_2 h_a_9_16 h_a_9_26 h_a_9_36 h_a_9_17 h_a_9_27 h_a_9_37) cf_X8_wealth (cw_25 cy tE a rw S) rfl wm_X8_163 wi_X8_wealth ws_X8_wealth dX8_richest_5 rfl (Nat.le_of_ble_eq_true rfl) ⟨by decide, by decide, by decide, by decide⟩) (fun r12065 u12066 h12064 => ?_)
  obtain ⟨rfl, rfl⟩ := h12064
  refine z_istore_n (lv' := [(3, .int 0), (2, .int 0), (0, .ref (a 25)), (1, .int 0)]) b dX8_richest_8 rfl (by decide) rfl ?_
  refine z_iconst (v := 1) b dX8_richest_9 (by decide) ?_
  refine z_istore (lv' := [(4, .int 1), (3, .int 0), (2, .int 0), (0, .ref (a 25)), (1, .int 0)]) b dX8_richest_10 (by decide) rfl ?_
  refine z_iload b dX8_richest_12 rfl ?_
  refine z_aload_n b dX8_richest_14 rfl rfl ?_
  refine z_get (q0 := 25) (k9 := 17) (v := .int (fi S 25)) b (cw_25 cy tE a rw S) rfl in_X8 (by decide) wf_X8_64 rfl dX8_richest_15 ?_
  refine z_eqi h_i_25 ?_
  refine z_icmp_ge_t (tgt := 56) b dX8_richest_18 (by decide) (by decide) ?_
  refine z_iload_n b dX8_richest_56 rfl rfl ?_
  exact z_iret (u := S) b rfl dX8_richest_57 ⟨rfl, rfl⟩ rfl (by decide) (by decide)

set_option maxHeartbeats 4000000 in
set_option maxRecDepth 100000 in
theorem c_X11_gain_16 {l : Launch} {D : va_G} {cy : Nat → ClassId} {T0 tB tE : Nat} {a : Nat → Nat} {rw : Nat → Option Nat} (S : GS) (p0 : Int32) (h_i_19 : fi S 19 = 0) (h_i_24 : fi S 24 = 0) (h_i_20 : fi S 20 = 0) (h_i_22 : fi S 22 = 0) (h_i_18 : fi S 18 = 0) (h_i_25 : fi S 25 = 0) (h_i_23 : fi S 23 = 0) (h_i_26 : fi S 26 = 0) (h_a_4_50 : ar S 4 50 = 0) (h_a_4_40 : ar S 4 40 = 3) (h_a_4_41 : ar S 4 41 = 3) (h_a_4_42 : ar S 4 42 = 3) (h_a_4_0 : ar S 4 0 = 0) (h_a_4_11 : ar S 4 11 = 0) (h_a_4_21 : ar S 4 21 = 0) (h_a_4_31 : ar S 4 31 = 0) (h_a_4_12 : ar S 4 12 = 0) (h_a_4_22 : ar S 4 22 = 0) (h_a_4_32 : ar S 4 32 = 0) (h_a_4_1 : ar S 4 1 = 0) (h_a_4_13 : ar S 4 13 = 0) (h_a_4_23 : ar S 4 23 = 0) (h_a_4_33 : ar S 4 33 = 0) (h_a_4_15 : ar S 4 15 = 0) (h_a_4_25 : ar S 4 25 = 0) (h_a_4_35 : ar S 4 35 = 0) (h_a_4_2 : ar S 4 2 = 0) (h_a_4_16 : ar S 4 16 = 0) (h_a_4_26 : ar S 4 26 = 0) (h_a_4_36 : ar S 4 36 = 0) (h_a_4_17 : ar S 4 17 = 0) (h_a_4_27 : ar S 4 27 = 0) (h_a_4_37 : ar S 4 37 = 0) (h_a_10_0 : ar S 10 0 = 0) (h_a_9_50 : ar S 9 50 = 0) (h_a_9_40 : ar S 9 40 = 3) (h_a_9_41 : ar S 9 41 = 3) (h_a_9_42 : ar S 9 42 = 3) (h_a_9_0 : ar S 9 0 = 0) (h_a_9_11 : ar S 9 11 = 0) (h_a_9_21 : ar S 9 21 = 0) (h_a_9_31 : ar S 9 31 = 0) (h_a_9_12 : ar S 9 12 = 0) (h_a_9_22 : ar S 9 22 = 0) (h_a_9_32 : ar S 9 32 = 0) (h_a_9_1 : ar S 9 1 = 0) (h_a_9_13 : ar S 9 13 = 0) (h_a_9_23 : ar S 9 23 = 0) (h_a_9_33 : ar S 9 33 = 0) (h_a_9_15 : ar S 9 15 = 0) (h_a_9_25 : ar S 9 25 = 0) (h_a_9_35 : ar S 9 35 = 0) (h_a_9_2 : ar S 9 2 = 0) (h_a_9_16 : ar S 9 16 = 0) (h_a_9_26 : ar S 9 26 = 0) (h_a_9_36 : ar S 9 36 = 0) (h_a_9_17 : ar S 9 17 = 0) (h_a_9_27 : ar S 9 27 = 0) (h_a_9_37 : ar S 9 37 = 0) (hr_p0 : 1 ≤ p0.toInt ∧ p0.toInt ≤ 3) : Ct l D cy T0 tB tE yX11_gain cX11_gain 7 (some .int) 5 117 0 0 (cw cy tE a rw S) [.ref (a 0), .int 0, .int p0, .int 0, .int 0] (QI D (U := GS) (fun r u => 0 = r ∧ (su (si (su (su (sv (sa (si (si (si S 24 1) 19 p0) 21 7) 13 (fil 1024 0 (ar (si (si (si S 24 1) 19 p0) 21 7) 13))) 2 0 4128768) 11 0 (-1)) 12 0 (-1)) 25 1) 13 978 1) = u) (cw cy tE a rw)) := by
  refine Ct.ofZ RX11 "gain" [(0, .ref (a 0)), (1, .int 0), (2, .int p0), (3, .int 0), (4, .int 0)] rfl rfl rfl rfl (Nat.le_of_ble_eq_true rfl) ?_
  intro p e R s m args below meth c A b
  refine z_iload_n b dX11_gain_0 rfl rfl ?_
  refine z_calli b (z_runS (As := [.int 0]) (st := []) b (c_X11_isPerson_3 S ) cf_X11_isPerson wm_X11_69 ws_X11_isPerson dX11_gain_1 rfl (Nat.le_of_ble_eq_true rfl) ⟨by decide, by decide, by decide, by decide⟩) (fun r12038 u12039 h12037 => ?_)
  obtain ⟨rfl, rfl⟩ := h12037
  refine z_if_eq_f (tgt := 26) b dX11_gain_4 (by decide) (by decide) ?_
  refine z_iload_n b dX11_gain_7 rfl rfl ?_
  refine z_calli b (z_runS (As := [.int p0]) (st := []) b (c_X11_areLaws_3 S p0 ⟨by omega, by omega⟩) cf_X11_areLaws wm_X11_181 ws_X11_areLaws dX11_gain_8 rfl (Nat.le_of_ble_eq_true rfl) ⟨by decide, by decide, by decide, by decide⟩) (fun r12041 u12042 h12040 => ?_)
  obtain ⟨rfl, rfl⟩ := h12040
  refine z_if_eq_f (tgt := 26) b dX11_gain_11 (by decide) (by decide) ?_
  refine z_iload_n b dX11_gain_14 rfl rfl ?_
  refine z_calli b (z_runS (As := [.int 0]) (st := []) b (c_X11_isDepth_2 S ) cf_X11_isDepth wm_X11_203 ws_X11_isDepth dX11_gain_15 rfl (Nat.le_of_ble_eq_true rfl) ⟨by decide, by decide, by decide, by decide⟩) (fun r12044 u12045 h12043 => ?_)
  obtain ⟨rfl, rfl⟩ := h12043
  refine z_if_eq_f (tgt := 26) b dX11_gain_18 (by decide) (by decide) ?_
  refine z_iload b dX11_gain_21 rfl ?_
  refine z_if_ge_t (tgt := 29) b dX11_gain_23 (by decide) (by decide) ?_
  refine z_aload_n b dX11_gain_29 rfl rfl ?_
  refine z_get (q0 := 0) (k9 := 6) (v := .ref (a 25)) b (cw_0 cy tE a rw S) rfl in_X11 (by decide) wf_X11_52 rfl dX11_gain_30 ?_
  refine z_iload_n b dX11_gain_33 rfl rfl ?_
  refine z_iload_n b dX11_gain_34 rfl rfl ?_
  refine z_bipush (v := 7) b dX11_gain_35 (by decide) ?_
  refine z_iconst (v := 0) b dX11_gain_37 (by decide) ?_
  refine z_callv b (z_runV (q0 := 25) (As := [.int p0, .int 0, .int 7, .int 0]) (st := []) b (c_X8_begin S p0 h_i_19 h_i_24 h_i_20 h_i_22 h_i_18 h_i_25 h_i_23 h_i_26 h_a_4_50 h_a_4_40 h_a_4_41 h_a_4_42 h_a_4_0 h_a_4_11 h_a_4_21 h_a_4_31 h_a_4_12 h_a_4_22 h_a_4_32 h_a_4_1 h_a_4_13 h_a_4_23 h_a_4_33 h_a_4_15 h_a_4_25 h_a_4_35 h_a_4_2 h_a_4_16 h_a_4_26 h_a_4_36 h_a_4_17 h_a_4_27 h_a_4_37 h_a_10_0 ⟨by omega, by omega⟩) cf_X8_begin (cw_25 cy tE a rw S) rfl wm_X11_206 wi_X8_begin ws_X8_begin dX11_gain_38 rfl (Nat.le_of_ble_eq_true rfl) ⟨by decide, by decide, by decide, by decide⟩) (fun u12048 h12046 => ?_)
  obtain rfl := h12046
  refine z_aload_n b dX11_gain_41 rfl rfl ?_
  refine z_get (q0 := 0) (k9 := 6) (v := .ref (a 25)) b (cw_0 cy tE a rw (su (si (su (su (sv (sa (si (si (si S 24 1) 19 p0) 21 7) 13 (fil 1024 0 (ar (si (si (si S 24 1) 19 p0) 21 7) 13))) 2 0 4128768) 11 0 (-1)) 12 0 (-1)) 25 1) 13 978 1)) rfl in_X11 (by decide) wf_X11_52 rfl dX11_gain_42 ?_
  refine z_callv b (z_runV (q0 := 25) (As := []) (st := []) b (c_X8_finish (su (si (su (su (sv (sa (si (si (si S 24 1) 19 p0) 21 7) 13 (fil 1024 0 (ar (si (si (si S 24 1) 19 p0) 21 7) 13))) 2 0 4128768) 11 0 (-1)) 12 0 (-1)) 25 1) 13 978 1) h_i_26 h_i_23 rfl h_a_10_0 h_i_20) cf_X8_finish (cw_25 cy tE a rw (su (si (su (su (sv (sa (si (si (si S 24 1) 19 p0) 21 7) 13 (fil 1024 0 (ar (si (si (si S 24 1) 19 p0) 21 7) 13))) 2 0 4128768) 11 0 (-1)) 12 0 (-1)) 25 1) 13 978 1)) rfl wm_X11_232 wi_X8_finish ws_X8_finish dX11_gain_45 rfl (Nat.le_of_ble_eq_true rfl) ⟨by decide, by decide, by decide, by decide⟩) (fun u12051 h12049 => ?_)
  obtain rfl := h12049
  refine z_aload_n b dX11_gain_48 rfl rfl ?_
  refine z_get (q0 := 0) (k9 := 6) (v := .ref (a 25)) b (cw_0 cy tE a rw (su (si (su (su (sv (sa (si (si (si S 24 1) 19 p0) 21 7) 13 (fil 1024 0 (ar (si (si (si S 24 1) 19 p0) 21 7) 13))) 2 0 4128768) 11 0 (-1)) 12 0 (-1)) 25 1) 13 978 1)) rfl in_X11 (by decide) wf_X11_52 rfl dX11_gain_49 ?_
  refine z_get (q0 := 25) (k9 := 18) (v := .int (fi (su (si (su (su (sv (sa (si (si (si S 24 1) 19 p0) 21 7) 13 (fil 1024 0 (ar (si (si (si S 24 1) 19 p0) 21 7) 13))) 2 0 4128768) 11 0 (-1)) 12 0 (-1)) 25 1) 13 978 1) 26)) b (cw_25 cy tE a rw (su (si (su (su (sv (sa (si (si (si S 24 1) 19 p0) 21 7) 13 (fil 1024 0 (ar (si (si (si S 24 1) 19 p0) 21 7) 13))) 2 0 4128768) 11 0 (-1)) 12 0 (-1)) 25 1) 13 978 1)) rfl in_X8 (by decide) wf_X11_214 rfl dX11_gain_52 ?_
  refine z_eqi h_i_26 ?_
  refine z_if_eq_t (tgt := 61) b dX11_gain_55 (by decide) (by decide) ?_
  refine z_aload_n b dX11_gain_61 rfl rfl ?_
  refine z_get (q0 := 0) (k9 := 6) (v := .ref (a 25)) b (cw_0 cy tE a rw (su (si (su (su (sv (sa (si (si (si S 24 1) 19 p0) 21 7) 13 (fil 1024 0 (ar (si (si (si S 24 1) 19 p0) 21 7) 13))) 2 0 4128768) 11 0 (-1)) 12 0 (-1)) 25 1) 13 978 1)) rfl in_X11 (by decide) wf_X11_52 rfl dX11_gain_62 ?_
  refine z_iload_n b dX11_gain_65 rfl rfl ?_
  refine z_calli b (z_runV (q0 := 25) (As := [.int 0]) (st := []) b (c_X8_richest (su (si (su (su (sv (sa (si (si (si S 24 1) 19 p0) 21 7) 13 (fil 1024 0 (ar (si (si (si S 24 1) 19 p0) 21 7) 13))) 2 0 4128768) 11 0 (-1)) 12 0 (-1)) 25 1) 13 978 1) rfl rfl h_a_9_50 h_a_9_40 h_a_9_41 h_a_9_42 h_a_9_0 h_a_9_11 h_a_9_21 h_a_9_31 h_a_9_12 h_a_9_22 h_a_9_32 h_a_9_1 h_a_9_13 h_a_9_23 h_a_9_33 h_a_9_15 h_a_9_25 h_a_9_35 h_a_9_2 h_a_9_16 h_a_9_26 h_a_9_36 h_a_9_17 h_a_9_27 h_a_9_37) cf_X8_richest (cw_25 cy tE a rw (su (si (su (su (sv (sa (si (si (si S 24 1) 19 p0) 21 7) 13 (fil 1024 0 (ar (si (si (si S 24 1) 19 p0) 21 7) 13))) 2 0 4128768) 11 0 (-1)) 12 0 (-1)) 25 1) 13 978 1)) rfl wm_X11_238 wi_X8_richest ws_X8_richest dX11_gain_66 rfl (Nat.le_of_ble_eq_true rfl) ⟨by decide, by decide, by decide, by decide⟩) (fun r12068 u12069 h12067 => ?_)
  obtain ⟨rfl, rfl⟩ := h12067
  refine z_istore (lv' := [(5, .int 0), (0, .ref (a 0)), (1, .int 0), (2, .int p0), (3, .int 0), (4, .int 0)]) b dX11_gain_69 (by decide) rfl ?_
  refine z_iload b dX11_gain_71 rfl ?_
  refine z_if_ne_f (tgt := 87) b dX11_gain_73 (by decide) (by decide) ?_
  refine z_aload_n b dX11_gain_76 rfl rfl ?_
  refine z_get (q0 := 0) (k9 := 6) (v := .ref (a 25)) b (cw_0 cy tE a rw (su (si (su (su (sv (sa (si (si (si S 24 1) 19 p0) 21 7) 13 (fil 1024 0 (ar (si (si (si S 24 1) 19 p0) 21 7) 13))) 2 0 4128768) 11 0 (-1)) 12 0 (-1)) 25 1) 13 978 1)) rfl in_X11 (by decide) wf_X11_52 rfl dX11_gain_77 ?_
  refine z_iload b dX11_gain_80 rfl ?_
  refine z_iload_n b dX11_gain_82 rfl rfl ?_
  refine z_calli b (z_runV (q0 := 25) (As := [.int 0, .int 0]) (st := []) b (c_X8_wealth (su (si (su (su (sv (sa (si (si (si S 24 1) 19 p0) 21 7) 13 (fil 1024 0 (ar (si (si (si S 24 1) 19 p0) 21 7) 13))) 2 0 4128768) 11 0 (-1)) 12 0 (-1)) 25 1) 13 978 1) rfl rfl h_a_9_50 h_a_9_40 h_a_9_41 h_a_9_42 h_a_9_0 h_a_9_11 h_a_9_21 h_a_9_31 h_a_9_12 h_a_9_22 h_a_9_32 h_a_9_1 h_a_9_13 h_a_9_23 h_a_9_33 h_a_9_15 h_a_9_25 h_a_9_35 h_a_9_2 h_a_9_16 h_a_9_26 h_a_9_36 h_a_9_17 h_a_9_27 h_a_9_37) cf_X8_wealth (cw_25 cy tE a rw (su (si (su (su (sv (sa (si (si (si S 24 1) 19 p0) 21 7) 13 (fil 1024 0 (ar (si (si (si S 24 1) 19 p0) 21 7) 13))) 2 0 4128768) 11 0 (-1)) 12 0 (-1)) 25 1) 13 978 1)) rfl wm_X11_241 wi_X8_wealth ws_X8_wealth dX11_gain_83 rfl (Nat.le_of_ble_eq_true rfl) ⟨by decide, by decide, by decide, by decide⟩) (fun r12071 u12072 h12070 => ?_)
  obtain ⟨rfl, rfl⟩ := h12070
  exact z_iret (u := (su (si (su (su (sv (sa (si (si (si S 24 1) 19 p0) 21 7) 13 (fil 1024 0 (ar (si (si (si S 24 1) 19 p0) 21 7) 13))) 2 0 4128768) 11 0 (-1)) 12 0 (-1)) 25 1) 13 978 1)) b rfl dX11_gain_86 ⟨rfl, rfl⟩ rfl (by decide) (by decide)

set_option maxHeartbeats 4000000 in
set_option maxRecDepth 100000 in
theorem c_X12_isIn_59 {l : Launch} {D : va_G} {cy : Nat → ClassId} {T0 tB tE : Nat} {a : Nat → Nat} (S : GS)   : Ct l D cy T0 tB tE yX12_isIn cX12_isIn 3 (some .boolean) 0 0 0 0 (mw cy a S) [.int 0, .int 0, .int 7] (QI D (U := GS) (fun r u => 1 = r ∧ S = u) (mw cy a)) := by
  refine Ct.ofZ RX12 "isIn" [(0, .int 0), (1, .int 0), (2, .int 7)] rfl rfl rfl rfl (Nat.le_of_ble_eq_true rfl) ?_
  intro p e R s m args below meth c A b
  refine z_iload_n b dX12_isIn_0 rfl rfl ?_
  refine z_iload_n b dX12_isIn_1 rfl rfl ?_
  refine z_icmp_lt_f (tgt := 14) b dX12_isIn_2 (by decide) (by decide) ?_
  refine z_iload_n b dX12_isIn_5 rfl rfl ?_
  refine z_iload_n b dX12_isIn_6 rfl rfl ?_
  refine z_icmp_gt_f (tgt := 14) b dX12_isIn_7 (by decide) (by decide) ?_
  refine z_iconst (v := 1) b dX12_isIn_10 (by decide) ?_
  refine z_goto (tgt := 15) b dX12_isIn_11 (by decide) ?_
  exact z_zret (u := S) b rfl (by decide) dX12_isIn_15 ⟨rfl, rfl⟩ rfl (by decide) (by decide)

set_option maxHeartbeats 4000000 in
set_option maxRecDepth 100000 in
theorem c_X12_gain_16 {l : Launch} {D : va_G} {cy : Nat → ClassId} {T0 tB tE : Nat} {a : Nat → Nat} (S : GS) (p0 : Int32) (h_i_21 : fi S 21 = 0) (h_i_23 : fi S 23 = 0) (h_l_0 : fl S 0 = 1649317774848) (h_a_29_992 : ar S 29 992 = (-1)) (h_a_28_0 : ar S 28 0 = 0) (h_a_4_7 : ar S 4 7 = 0) (h_a_1_7 : ar S 1 7 = 0) (h_a_4_6 : ar S 4 6 = 0) (h_a_1_6 : ar S 1 6 = 0) (h_a_3_6 : ar S 3 6 = 0) (h_a_3_2 : ar S 3 2 = 0) (h_a_2_2 : ar S 2 2 = 3) (h_a_0_2 : ar S 0 2 = 0) (h_a_4_3 : ar S 4 3 = 0) (h_a_1_3 : ar S 1 3 = 0) (h_a_4_5 : ar S 4 5 = 0) (h_a_1_5 : ar S 1 5 = 0) (h_a_3_5 : ar S 3 5 = 0) (h_a_3_7 : ar S 3 7 = 0) (h_a_2_1 : ar S 2 1 = 3) (h_a_0_1 : ar S 0 1 = 0) (h_a_4_2 : ar S 4 2 = 0) (h_a_1_2 : ar S 1 2 = 0) (h_a_4_1 : ar S 4 1 = 0) (h_a_1_1 : ar S 1 1 = 0) (h_a_3_1 : ar S 3 1 = 0) (h_a_3_3 : ar S 3 3 = 0) (h_a_2_0 : ar S 2 0 = 3) (h_a_0_0 : ar S 0 0 = 0) (h_i_0 : fi S 0 = 0) (hr_p0 : 1 ≤ p0.toInt ∧ p0.toInt ≤ 3) : Ct l D cy T0 tB tE yX12_gain cX12_gain 9 (some .int) 3 74 0 0 (mw cy a S) [.ref (a 0), .int 0, .int p0, .int 0, .int 0] (QI D (U := GS) (fun r u => 0 = r ∧ (si (su (su (sv (su (su (si S 22 (-1)) 29 992 0) 30 0 992) 0 0 1649317774848) 26 0 (-1)) 27 0 (-1)) 21 1) = u) (mw cy a)) := by
  refine Ct.ofZ RX12 "gain" [(0, .ref (a 0)), (1, .int 0), (2, .int p0), (3, .int 0), (4, .int 0)] rfl rfl rfl rfl (Nat.le_of_ble_eq_true rfl) ?_
  intro p e R s m args below meth c A b
  refine z_iload_n b dX12_gain_0 rfl rfl ?_
  refine z_calli b (z_runS (As := [.int 0]) (st := []) b (c_X12_isOne_3 S ) cf_X12_isOne wm_X12_170 ws_X12_isOne dX12_gain_1 rfl (Nat.le_of_ble_eq_true rfl) ⟨by decide, by decide, by decide, by decide⟩) (fun r12074 u12075 h12073 => ?_)
  obtain ⟨rfl, rfl⟩ := h12073
  refine z_if_eq_f (tgt := 27) b dX12_gain_4 (by decide) (by decide) ?_
  refine z_aload_n b dX12_gain_7 rfl rfl ?_
  refine z_iload_n b dX12_gain_8 rfl rfl ?_
  refine z_iload_n b dX12_gain_9 rfl rfl ?_
  refine z_calli b (z_runV (q0 := 0) (As := [.int p0, .int 0]) (st := []) b (c_X12_canSearch_4 S p0 ⟨by omega, by omega⟩) cf_X12_canSearch (mw_0 cy a S) rfl wm_X12_433 wi_X12_canSearch ws_X12_canSearch dX12_gain_10 rfl (Nat.le_of_ble_eq_true rfl) ⟨by decide, by decide, by decide, by decide⟩) (fun r12077 u12078 h12076 => ?_)
  obtain ⟨rfl, rfl⟩ := h12076
  refine z_if_eq_f (tgt := 27) b dX12_gain_13 (by decide) (by decide) ?_
  refine z_iload b dX12_gain_16 rfl ?_
  refine z_iconst (v := 0) b dX12_gain_18 (by decide) ?_
  refine z_bipush (v := 7) b dX12_gain_19 (by decide) ?_
  refine z_calli b (z_runS (As := [.int 0, .int 0, .int 7]) (st := []) b (c_X12_isIn_59 S ) cf_X12_isIn wm_X12_1 ws_X12_isIn dX12_gain_21 rfl (Nat.le_of_ble_eq_true rfl) ⟨by decide, by decide, by decide, by decide⟩) (fun r12080 u12081 h12079 => ?_)
  obtain ⟨rfl, rfl⟩ := h12079
  refine z_if_ne_t (tgt := 30) b dX12_gain_24 (by decide) (by decide) ?_
  refine z_aload_n b dX12_gain_30 rfl rfl ?_
  refine z_iconst (v := (-1)) b dX12_gain_31 (by decide) ?_
  refine z_iload_n b dX12_gain_32 rfl rfl ?_
  refine z_iload_n b dX12_gain_33 rfl rfl ?_
  refine z_bipush (v := 7) b dX12_gain_34 (by decide) ?_
  refine z_iconst (v := 0) b dX12_gain_36 (by decide) ?_
  refine z_callv b (z_runV (q0 := 0) (As := [.int (-1), .int p0, .int 0, .int 7, .int 0]) (st := []) b (c_X12_searches S p0 h_i_21 h_i_23 h_l_0 h_a_29_992 h_a_28_0 ⟨by omega, by omega⟩) cf_X12_searches (mw_0 cy a S) rfl wm_X12_436 wi_X12_searches ws_X12_searches dX12_gain_37 rfl (Nat.le_of_ble_eq_true rfl) ⟨by decide, by decide, by decide, by decide⟩) (fun u12084 h12082 => ?_)
  obtain rfl := h12082
  refine z_aload_n b dX12_gain_40 rfl rfl ?_
  refine z_get (q0 := 0) (k9 := 57) (v := .int (fi (si (su (su (sv (su (su (si S 22 (-1)) 29 992 0) 30 0 992) 0 0 1649317774848) 26 0 (-1)) 27 0 (-1)) 21 1) 23)) b (mw_0 cy a (si (su (su (sv (su (su (si S 22 (-1)) 29 992 0) 30 0 992) 0 0 1649317774848) 26 0 (-1)) 27 0 (-1)) 21 1)) rfl in_X12 (by decide) wf_X12_408 rfl dX12_gain_41 ?_
  refine z_eqi h_i_23 ?_
  refine z_if_eq_t (tgt := 50) b dX12_gain_44 (by decide) (by decide) ?_
  refine z_iconst (v := (-1)) b dX12_gain_50 (by decide) ?_
  refine z_istore (lv' := [(5, .int (-1)), (0, .ref (a 0)), (1, .int 0), (2, .int p0), (3, .int 0), (4, .int 0)]) b dX12_gain_51 (by decide) rfl ?_
  refine z_iconst (v := 0) b dX12_gain_53 (by decide) ?_
  refine z_istore (lv' := [(6, .int 0), (5, .int (-1)), (0, .ref (a 0)), (1, .int 0), (2, .int p0), (3, .int 0), (4, .int 0)]) b dX12_gain_54 (by decide) rfl ?_
  refine z_iconst (v := 0) b dX12_gain_56 (by decide) ?_
  refine z_istore (lv' := [(7, .int 0), (6, .int 0), (5, .int (-1)), (0, .ref (a 0)), (1, .int 0), (2, .int p0), (3, .int 0), (4, .int 0)]) b dX12_gain_57 (by decide) rfl ?_
  refine z_iload b dX12_gain_59 rfl ?_
  refine z_aload_n b dX12_gain_61 rfl rfl ?_
  refine z_get (q0 := 0) (k9 := 55) (v := .int 1) b (mw_0 cy a (si (su (su (sv (su (su (si S 22 (-1)) 29 992 0) 30 0 992) 0 0 1649317774848) 26 0 (-1)) 27 0 (-1)) 21 1)) rfl in_X12 (by decide) wf_X12_405 rfl dX12_gain_62 ?_
  refine z_icmp_ge_f (tgt := 147) b dX12_gain_65 (by decide) (by decide) ?_
  refine z_aload_n b dX12_gain_68 rfl rfl ?_
  refine z_aload_n b dX12_gain_69 rfl rfl ?_
  refine z_get (q0 := 0) (k9 := 49) (v := .ref (a 27)) b (mw_0 cy a (si (su (su (sv (su (su (si S 22 (-1)) 29 992 0) 30 0 992) 0 0 1649317774848) 26 0 (-1)) 27 0 (-1)) 21 1)) rfl in_X12 (by decide) wf_X12_97 rfl dX12_gain_70 ?_
  refine z_iload b dX12_gain_73 rfl ?_
  refine y_lald (q0 := 27) (j := 0) (v := 1649317774848) b (mw_27 cy a (si (su (su (sv (su (su (si S 22 (-1)) 29 992 0) 30 0 992) 0 0 1649317774848) 26 0 (-1)) 27 0 (-1)) 21 1)) (by decide) rfl dX12_gain_75 ?_
  refine z_callv b (z_runV (q0 := 0) (As := [.long 1649317774848]) (st := []) b (c_X12_takes (si (su (su (sv (su (su (si S 22 (-1)) 29 992 0) 30 0 992) 0 0 1649317774848) 26 0 (-1)) 27 0 (-1)) 21 1) h_a_4_7 h_a_1_7 h_a_4_6 h_a_1_6 h_a_3_6 h_a_3_2 h_a_2_2 h_a_0_2 h_a_4_3 h_a_1_3 h_a_4_5 h_a_1_5 h_a_3_5 h_a_3_7 h_a_2_1 h_a_0_1 h_a_4_2 h_a_1_2 h_a_4_1 h_a_1_1 h_a_3_1 h_a_3_3 h_a_2_0 h_a_0_0 h_i_0) cf_X12_takes (mw_0 cy a (si (su (su (sv (su (su (si S 22 (-1)) 29 992 0) 30 0 992) 0 0 1649317774848) 26 0 (-1)) 27 0 (-1)) 21 1)) rfl wm_X12_174 wi_X12_takes ws_X12_takes dX12_gain_76 rfl (Nat.le_of_ble_eq_true rfl) ⟨by decide, by decide, by decide, by decide⟩) (fun u12087 h12085 => ?_)
  obtain rfl := h12085
  refine z_aload_n b dX12_gain_79 rfl rfl ?_
  refine z_get (q0 := 0) (k9 := 0) (v := .ref (a 1)) b (mw_0 cy a (si (su (su (sv (su (su (si S 22 (-1)) 29 992 0) 30 0 992) 0 0 1649317774848) 26 0 (-1)) 27 0 (-1)) 21 1)) rfl in_X12 (by decide) wf_X12_13 rfl dX12_gain_80 ?_
  refine z_iload_n b dX12_gain_83 rfl rfl ?_
  refine y_iald (q0 := 1) (j := 0) (v := (ar (si (su (su (sv (su (su (si S 22 (-1)) 29 992 0) 30 0 992) 0 0 1649317774848) 26 0 (-1)) 27 0 (-1)) 21 1) 0 0)) b (mw_1 cy a (si (su (su (sv (su (su (si S 22 (-1)) 29 992 0) 30 0 992) 0 0 1649317774848) 26 0 (-1)) 27 0 (-1)) 21 1)) (by decide) rfl dX12_gain_84 ?_
  refine z_eqi h_a_0_0 ?_
  refine z_aload_n b dX12_gain_85 rfl rfl ?_
  refine z_get (q0 := 0) (k9 := 1) (v := .ref (a 2)) b (mw_0 cy a (si (su (su (sv (su (su (si S 22 (-1)) 29 992 0) 30 0 992) 0 0 1649317774848) 26 0 (-1)) 27 0 (-1)) 21 1)) rfl in_X12 (by decide) wf_X12_17 rfl dX12_gain_86 ?_
  refine z_iconst (v := 3) b dX12_gain_89 (by decide) ?_
  refine z_iload_n b dX12_gain_90 rfl rfl ?_
  refine z_imul (v := 0) b dX12_gain_91 (by decide) ?_
  refine z_iload_n b dX12_gain_92 rfl rfl ?_
  refine z_iconst (v := 0) b dX12_gain_93 (by decide) ?_
  refine z_calli b (z_runS (As := [.int 0, .int 0]) (st := [.int 0, .ref (a 2), .int 0]) b (c_X12_other_6 (si (su (su (sv (su (su (si S 22 (-1)) 29 992 0) 30 0 992) 0 0 1649317774848) 26 0 (-1)) 27 0 (-1)) 21 1) ) cf_X12_other wm_X12_160 ws_X12_other dX12_gain_94 rfl (Nat.le_of_ble_eq_true rfl) ⟨by decide, by decide, by decide, by decide⟩) (fun r12089 u12090 h12088 => ?_)
  obtain ⟨rfl, rfl⟩ := h12088
  refine z_iadd (v := 1) b dX12_gain_97 (by decide) ?_
  refine y_iald (q0 := 2) (j := 1) (v := (ar (si (su (su (sv (su (su (si S 22 (-1)) 29 992 0) 30 0 992) 0 0 1649317774848) 26 0 (-1)) 27 0 (-1)) 21 1) 1 1)) b (mw_2 cy a (si (su (su (sv (su (su (si S 22 (-1)) 29 992 0) 30 0 992) 0 0 1649317774848) 26 0 (-1)) 27 0 (-1)) 21 1)) (by decide) rfl dX12_gain_98 ?_
  refine z_eqi h_a_1_1 ?_
  refine z_isub (v := 0) b dX12_gain_99 (by decide) ?_
  refine z_aload_n b dX12_gain_100 rfl rfl ?_
  refine z_get (q0 := 0) (k9 := 1) (v := .ref (a 2)) b (mw_0 cy a (si (su (su (sv (su (su (si S 22 (-1)) 29 992 0) 30 0 992) 0 0 1649317774848) 26 0 (-1)) 27 0 (-1)) 21 1)) rfl in_X12 (by decide) wf_X12_17 rfl dX12_gain_101 ?_
  refine z_iconst (v := 3) b dX12_gain_104 (by decide) ?_
  refine z_iload_n b dX12_gain_105 rfl rfl ?_
  refine z_imul (v := 0) b dX12_gain_106 (by decide) ?_
  refine z_iload_n b dX12_gain_107 rfl rfl ?_
  refine z_iconst (v := 1) b dX12_gain_108 (by decide) ?_
  refine z_calli b (z_runS (As := [.int 0, .int 1]) (st := [.int 0, .ref (a 2), .int 0]) b (c_X12_other_5 (si (su (su (sv (su (su (si S 22 (-1)) 29 992 0) 30 0 992) 0 0 1649317774848) 26 0 (-1)) 27 0 (-1)) 21 1) ) cf_X12_other wm_X12_160 ws_X12_other dX12_gain_109 rfl (Nat.le_of_ble_eq_true rfl) ⟨by decide, by decide, by decide, by decide⟩) (fun r12092 u12093 h12091 => ?_)
  obtain ⟨rfl, rfl⟩ := h12091
  refine z_iadd (v := 2) b dX12_gain_112 (by decide) ?_
  refine y_iald (q0 := 2) (j := 2) (v := (ar (si (su (su (sv (su (su (si S 22 (-1)) 29 992 0) 30 0 992) 0 0 1649317774848) 26 0 (-1)) 27 0 (-1)) 21 1) 1 2)) b (mw_2 cy a (si (su (su (sv (su (su (si S 22 (-1)) 29 992 0) 30 0 992) 0 0 1649317774848) 26 0 (-1)) 27 0 (-1)) 21 1)) (by decide) rfl dX12_gain_113 ?_
  refine z_eqi h_a_1_2 ?_
  refine z_isub (v := 0) b dX12_gain_114 (by decide) ?_
  refine z_istore (lv' := [(8, .int 0), (7, .int 0), (6, .int 0), (5, .int (-1)), (0, .ref (a 0)), (1, .int 0), (2, .int p0), (3, .int 0), (4, .int 0)]) b dX12_gain_115 (by decide) rfl ?_
  refine z_iload b dX12_gain_117 rfl ?_
  refine z_iconst (v := (-1)) b dX12_gain_119 (by decide) ?_
  refine z_icmp_eq_t (tgt := 133) b dX12_gain_120 (by decide) (by decide) ?_
  refine z_iload b dX12_gain_133 rfl ?_
  refine z_istore (lv' := [(5, .int 0), (8, .int 0), (7, .int 0), (6, .int 0), (0, .ref (a 0)), (1, .int 0), (2, .int p0), (3, .int 0), (4, .int 0)]) b dX12_gain_135 (by decide) rfl ?_
  refine z_iload b dX12_gain_137 rfl ?_
  refine z_istore (lv' := [(6, .int 0), (5, .int 0), (8, .int 0), (7, .int 0), (0, .ref (a 0)), (1, .int 0), (2, .int p0), (3, .int 0), (4, .int 0)]) b dX12_gain_139 (by decide) rfl ?_
  refine z_iinc (k9 := 3) (v := 1) (lv' := [(7, .int 1), (6, .int 0), (5, .int 0), (8, .int 0), (0, .ref (a 0)), (1, .int 0), (2, .int p0), (3, .int 0), (4, .int 0)]) b dX12_gain_141 rfl (by decide) (by decide) rfl ?_
  refine z_goto (tgt := 59) b dX12_gain_144 (by decide) ?_
  refine z_iload b dX12_gain_59 rfl ?_
  refine z_aload_n b dX12_gain_61 rfl rfl ?_
  refine z_get (q0 := 0) (k9 := 55) (v := .int 1) b (mw_0 cy a (si (su (su (sv (su (su (si S 22 (-1)) 29 992 0) 30 0 992) 0 0 1649317774848) 26 0 (-1)) 27 0 (-1)) 21 1)) rfl in_X12 (by decide) wf_X12_405 rfl dX12_gain_62 ?_
  refine z_icmp_ge_t (tgt := 147) b dX12_gain_65 (by decide) (by decide) ?_
  refine z_iload b dX12_gain_147 rfl ?_
  refine z_iconst (v := 2) b dX12_gain_149 (by decide) ?_
  refine z_icmp_ge_f (tgt := 171) b dX12_gain_150 (by decide) (by decide) ?_
  refine z_iload b dX12_gain_153 rfl ?_
  refine z_if_ne_f (tgt := 163) b dX12_gain_155 (by decide) (by decide) ?_
  refine z_iload b dX12_gain_158 rfl ?_
  refine z_goto (tgt := 170) b dX12_gain_160 (by decide) ?_
  exact z_iret (u := (si (su (su (sv (su (su (si S 22 (-1)) 29 992 0) 30 0 992) 0 0 1649317774848) 26 0 (-1)) 27 0 (-1)) 21 1)) b rfl dX12_gain_170 ⟨rfl, rfl⟩ rfl (by decide) (by decide)

set_option maxHeartbeats 4000000 in
set_option maxRecDepth 100000 in
theorem c_X8_acts {l : Launch} {D : va_G} {cy : Nat → ClassId} {T0 tB tE : Nat} {a : Nat → Nat} {rw : Nat → Option Nat} (S : GS)  (h_i_25 : fi S 25 = 1) (h_a_10_0 : ar S 10 0 = 0) : Ct l D cy T0 tB tE yX8_acts cX8_acts 2 (some .int) 0 0 0 0 (cw cy tE a rw S) [.ref (a 25), .int 0] (QI D (U := GS) (fun r u => 0 = r ∧ S = u) (cw cy tE a rw)) := by
  refine Ct.ofZ RX8 "acts" [(0, .ref (a 25)), (1, .int 0)] rfl rfl rfl rfl (Nat.le_of_ble_eq_true rfl) ?_
  intro p e R s m args below meth c A b
  refine z_iload_n b dX8_acts_0 rfl rfl ?_
  refine z_if_lt_f (tgt := 21) b dX8_acts_1 (by decide) (by decide) ?_
  refine z_iload_n b dX8_acts_4 rfl rfl ?_
  refine z_aload_n b dX8_acts_5 rfl rfl ?_
  refine z_get (q0 := 25) (k9 := 17) (v := .int (fi S 25)) b (cw_25 cy tE a rw S) rfl in_X8 (by decide) wf_X8_64 rfl dX8_acts_6 ?_
  refine z_eqi h_i_25 ?_
  refine z_icmp_ge_f (tgt := 21) b dX8_acts_9 (by decide) (by decide) ?_
  refine z_aload_n b dX8_acts_12 rfl rfl ?_
  refine z_get (q0 := 25) (k9 := 4) (v := .ref (a 29)) b (cw_25 cy tE a rw S) rfl in_X8 (by decide) wf_X8_22 rfl dX8_acts_13 ?_
  refine z_iload_n b dX8_acts_16 rfl rfl ?_
  refine y_iald (q0 := 29) (j := 0) (v := (ar S 10 0)) b (cw_29 cy tE a rw S) (by decide) rfl dX8_acts_17 ?_
  refine z_eqi h_a_10_0 ?_
  refine z_goto (tgt := 22) b dX8_acts_18 (by decide) ?_
  exact z_iret (u := S) b rfl dX8_acts_22 ⟨rfl, rfl⟩ rfl (by decide) (by decide)

set_option maxHeartbeats 4000000 in
set_option maxRecDepth 100000 in
theorem c_X11_gain_17 {l : Launch} {D : va_G} {cy : Nat → ClassId} {T0 tB tE : Nat} {a : Nat → Nat} {rw : Nat → Option Nat} (S : GS) (p0 : Int32) (h_i_19 : fi S 19 = 0) (h_i_24 : fi S 24 = 0) (h_i_20 : fi S 20 = 0) (h_i_22 : fi S 22 = 0) (h_i_18 : fi S 18 = 0) (h_i_25 : fi S 25 = 0) (h_i_23 : fi S 23 = 0) (h_i_26 : fi S 26 = 0) (h_a_4_50 : ar S 4 50 = 0) (h_a_4_40 : ar S 4 40 = 3) (h_a_4_41 : ar S 4 41 = 3) (h_a_4_42 : ar S 4 42 = 3) (h_a_4_0 : ar S 4 0 = 0) (h_a_4_11 : ar S 4 11 = 0) (h_a_4_21 : ar S 4 21 = 0) (h_a_4_31 : ar S 4 31 = 0) (h_a_4_12 : ar S 4 12 = 0) (h_a_4_22 : ar S 4 22 = 0) (h_a_4_32 : ar S 4 32 = 0) (h_a_4_1 : ar S 4 1 = 0) (h_a_4_13 : ar S 4 13 = 0) (h_a_4_23 : ar S 4 23 = 0) (h_a_4_33 : ar S 4 33 = 0) (h_a_4_15 : ar S 4 15 = 0) (h_a_4_25 : ar S 4 25 = 0) (h_a_4_35 : ar S 4 35 = 0) (h_a_4_2 : ar S 4 2 = 0) (h_a_4_16 : ar S 4 16 = 0) (h_a_4_26 : ar S 4 26 = 0) (h_a_4_36 : ar S 4 36 = 0) (h_a_4_17 : ar S 4 17 = 0) (h_a_4_27 : ar S 4 27 = 0) (h_a_4_37 : ar S 4 37 = 0) (h_a_10_0 : ar S 10 0 = 0) (h_a_9_50 : ar S 9 50 = 0) (h_a_9_40 : ar S 9 40 = 3) (h_a_9_41 : ar S 9 41 = 3) (h_a_9_42 : ar S 9 42 = 3) (h_a_9_0 : ar S 9 0 = 0) (h_a_9_11 : ar S 9 11 = 0) (h_a_9_21 : ar S 9 21 = 0) (h_a_9_31 : ar S 9 31 = 0) (h_a_9_12 : ar S 9 12 = 0) (h_a_9_22 : ar S 9 22 = 0) (h_a_9_32 : ar S 9 32 = 0) (h_a_9_1 : ar S 9 1 = 0) (h_a_9_13 : ar S 9 13 = 0) (h_a_9_23 : ar S 9 23 = 0) (h_a_9_33 : ar S 9 33 = 0) (h_a_9_15 : ar S 9 15 = 0) (h_a_9_25 : ar S 9 25 = 0) (h_a_9_35 : ar S 9 35 = 0) (h_a_9_2 : ar S 9 2 = 0) (h_a_9_16 : ar S 9 16 = 0) (h_a_9_26 : ar S 9 26 = 0) (h_a_9_36 : ar S 9 36 = 0) (h_a_9_17 : ar S 9 17 = 0) (h_a_9_27 : ar S 9 27 = 0) (h_a_9_37 : ar S 9 37 = 0) (hr_p0 : 1 ≤ p0.toInt ∧ p0.toInt ≤ 3) : Ct l D cy T0 tB tE yX11_gain cX11_gain 7 (some .int) 5 117 0 0 (cw cy tE a rw S) [.ref (a 0), .int 0, .int p0, .int 0, .int 1] (QI D (U := GS) (fun r u => 0 = r ∧ (su (si (su (su (sv (sa (si (si (si S 24 1) 19 p0) 21 7) 13 (fil 1024 0 (ar (si (si (si S 24 1) 19 p0) 21 7) 13))) 2 0 4128768) 11 0 (-1)) 12 0 (-1)) 25 1) 13 978 1) = u) (cw cy tE a rw)) := by
  refine Ct.ofZ RX11 "gain" [(0, .ref (a 0)), (1, .int 0), (2, .int p0), (3, .int 0), (4, .int 1)] rfl rfl rfl rfl (Nat.le_of_ble_eq_true rfl) ?_
  intro p e R s m args below meth c A b
  refine z_iload_n b dX11_gain_0 rfl rfl ?_
  refine z_calli b (z_runS (As := [.int 0]) (st := []) b (c_X11_isPerson_3 S ) cf_X11_isPerson wm_X11_69 ws_X11_isPerson dX11_gain_1 rfl (Nat.le_of_ble_eq_true rfl) ⟨by decide, by decide, by decide, by decide⟩) (fun r12095 u12096 h12094 => ?_)
  obtain ⟨rfl, rfl⟩ := h12094
  refine z_if_eq_f (tgt := 26) b dX11_gain_4 (by decide) (by decide) ?_
  refine z_iload_n b dX11_gain_7 rfl rfl ?_
  refine z_calli b (z_runS (As := [.int p0]) (st := []) b (c_X11_areLaws_3 S p0 ⟨by omega, by omega⟩) cf_X11_areLaws wm_X11_181 ws_X11_areLaws dX11_gain_8 rfl (Nat.le_of_ble_eq_true rfl) ⟨by decide, by decide, by decide, by decide⟩) (fun r12098 u12099 h12097 => ?_)
  obtain ⟨rfl, rfl⟩ := h12097
  refine z_if_eq_f (tgt := 26) b dX11_gain_11 (by decide) (by decide) ?_
  refine z_iload_n b dX11_gain_14 rfl rfl ?_
  refine z_calli b (z_runS (As := [.int 0]) (st := []) b (c_X11_isDepth_2 S ) cf_X11_isDepth wm_X11_203 ws_X11_isDepth dX11_gain_15 rfl (Nat.le_of_ble_eq_true rfl) ⟨by decide, by decide, by decide, by decide⟩) (fun r12101 u12102 h12100 => ?_)
  obtain ⟨rfl, rfl⟩ := h12100
  refine z_if_eq_f (tgt := 26) b dX11_gain_18 (by decide) (by decide) ?_
  refine z_iload b dX11_gain_21 rfl ?_
  refine z_if_ge_t (tgt := 29) b dX11_gain_23 (by decide) (by decide) ?_
  refine z_aload_n b dX11_gain_29 rfl rfl ?_
  refine z_get (q0 := 0) (k9 := 6) (v := .ref (a 25)) b (cw_0 cy tE a rw S) rfl in_X11 (by decide) wf_X11_52 rfl dX11_gain_30 ?_
  refine z_iload_n b dX11_gain_33 rfl rfl ?_
  refine z_iload_n b dX11_gain_34 rfl rfl ?_
  refine z_bipush (v := 7) b dX11_gain_35 (by decide) ?_
  refine z_iconst (v := 0) b dX11_gain_37 (by decide) ?_
  refine z_callv b (z_runV (q0 := 25) (As := [.int p0, .int 0, .int 7, .int 0]) (st := []) b (c_X8_begin S p0 h_i_19 h_i_24 h_i_20 h_i_22 h_i_18 h_i_25 h_i_23 h_i_26 h_a_4_50 h_a_4_40 h_a_4_41 h_a_4_42 h_a_4_0 h_a_4_11 h_a_4_21 h_a_4_31 h_a_4_12 h_a_4_22 h_a_4_32 h_a_4_1 h_a_4_13 h_a_4_23 h_a_4_33 h_a_4_15 h_a_4_25 h_a_4_35 h_a_4_2 h_a_4_16 h_a_4_26 h_a_4_36 h_a_4_17 h_a_4_27 h_a_4_37 h_a_10_0 ⟨by omega, by omega⟩) cf_X8_begin (cw_25 cy tE a rw S) rfl wm_X11_206 wi_X8_begin ws_X8_begin dX11_gain_38 rfl (Nat.le_of_ble_eq_true rfl) ⟨by decide, by decide, by decide, by decide⟩) (fun u12105 h12103 => ?_)
  obtain rfl := h12103
  refine z_aload_n b dX11_gain_41 rfl rfl ?_
  refine z_get (q0 := 0) (k9 := 6) (v := .ref (a 25)) b (cw_0 cy tE a rw (su (si (su (su (sv (sa (si (si (si S 24 1) 19 p0) 21 7) 13 (fil 1024 0 (ar (si (si (si S 24 1) 19 p0) 21 7) 13))) 2 0 4128768) 11 0 (-1)) 12 0 (-1)) 25 1) 13 978 1)) rfl in_X11 (by decide) wf_X11_52 rfl dX11_gain_42 ?_
  refine z_callv b (z_runV (q0 := 25) (As := []) (st := []) b (c_X8_finish (su (si (su (su (sv (sa (si (si (si S 24 1) 19 p0) 21 7) 13 (fil 1024 0 (ar (si (si (si S 24 1) 19 p0) 21 7) 13))) 2 0 4128768) 11 0 (-1)) 12 0 (-1)) 25 1) 13 978 1) h_i_26 h_i_23 rfl h_a_10_0 h_i_20) cf_X8_finish (cw_25 cy tE a rw (su (si (su (su (sv (sa (si (si (si S 24 1) 19 p0) 21 7) 13 (fil 1024 0 (ar (si (si (si S 24 1) 19 p0) 21 7) 13))) 2 0 4128768) 11 0 (-1)) 12 0 (-1)) 25 1) 13 978 1)) rfl wm_X11_232 wi_X8_finish ws_X8_finish dX11_gain_45 rfl (Nat.le_of_ble_eq_true rfl) ⟨by decide, by decide, by decide, by decide⟩) (fun u12108 h12106 => ?_)
  obtain rfl := h12106
  refine z_aload_n b dX11_gain_48 rfl rfl ?_
  refine z_get (q0 := 0) (k9 := 6) (v := .ref (a 25)) b (cw_0 cy tE a rw (su (si (su (su (sv (sa (si (si (si S 24 1) 19 p0) 21 7) 13 (fil 1024 0 (ar (si (si (si S 24 1) 19 p0) 21 7) 13))) 2 0 4128768) 11 0 (-1)) 12 0 (-1)) 25 1) 13 978 1)) rfl in_X11 (by decide) wf_X11_52 rfl dX11_gain_49 ?_
  refine z_get (q0 := 25) (k9 := 18) (v := .int (fi (su (si (su (su (sv (sa (si (si (si S 24 1) 19 p0) 21 7) 13 (fil 1024 0 (ar (si (si (si S 24 1) 19 p0) 21 7) 13))) 2 0 4128768) 11 0 (-1)) 12 0 (-1)) 25 1) 13 978 1) 26)) b (cw_25 cy tE a rw (su (si (su (su (sv (sa (si (si (si S 24 1) 19 p0) 21 7) 13 (fil 1024 0 (ar (si (si (si S 24 1) 19 p0) 21 7) 13))) 2 0 4128768) 11 0 (-1)) 12 0 (-1)) 25 1) 13 978 1)) rfl in_X8 (by decide) wf_X11_214 rfl dX11_gain_52 ?_
  refine z_eqi h_i_26 ?_
  refine z_if_eq_t (tgt := 61) b dX11_gain_55 (by decide) (by decide) ?_
  refine z_aload_n b dX11_gain_61 rfl rfl ?_
  refine z_get (q0 := 0) (k9 := 6) (v := .ref (a 25)) b (cw_0 cy tE a rw (su (si (su (su (sv (sa (si (si (si S 24 1) 19 p0) 21 7) 13 (fil 1024 0 (ar (si (si (si S 24 1) 19 p0) 21 7) 13))) 2 0 4128768) 11 0 (-1)) 12 0 (-1)) 25 1) 13 978 1)) rfl in_X11 (by decide) wf_X11_52 rfl dX11_gain_62 ?_
  refine z_iload_n b dX11_gain_65 rfl rfl ?_
  refine z_calli b (z_runV (q0 := 25) (As := [.int 0]) (st := []) b (c_X8_richest (su (si (su (su (sv (sa (si (si (si S 24 1) 19 p0) 21 7) 13 (fil 1024 0 (ar (si (si (si S 24 1) 19 p0) 21 7) 13))) 2 0 4128768) 11 0 (-1)) 12 0 (-1)) 25 1) 13 978 1) rfl rfl h_a_9_50 h_a_9_40 h_a_9_41 h_a_9_42 h_a_9_0 h_a_9_11 h_a_9_21 h_a_9_31 h_a_9_12 h_a_9_22 h_a_9_32 h_a_9_1 h_a_9_13 h_a_9_23 h_a_9_33 h_a_9_15 h_a_9_25 h_a_9_35 h_a_9_2 h_a_9_16 h_a_9_26 h_a_9_36 h_a_9_17 h_a_9_27 h_a_9_37) cf_X8_richest (cw_25 cy tE a rw (su (si (su (su (sv (sa (si (si (si S 24 1) 19 p0) 21 7) 13 (fil 1024 0 (ar (si (si (si S 24 1) 19 p0) 21 7) 13))) 2 0 4128768) 11 0 (-1)) 12 0 (-1)) 25 1) 13 978 1)) rfl wm_X11_238 wi_X8_richest ws_X8_richest dX11_gain_66 rfl (Nat.le_of_ble_eq_true rfl) ⟨by decide, by decide, by decide, by decide⟩) (fun r12110 u12111 h12109 => ?_)
  obtain ⟨rfl, rfl⟩ := h12109
  refine z_istore (lv' := [(5, .int 0), (0, .ref (a 0)), (1, .int 0), (2, .int p0), (3, .int 0), (4, .int 1)]) b dX11_gain_69 (by decide) rfl ?_
  refine z_iload b dX11_gain_71 rfl ?_
  refine z_if_ne_t (tgt := 87) b dX11_gain_73 (by decide) (by decide) ?_
  refine z_iload b dX11_gain_87 rfl ?_
  refine z_iconst (v := 1) b dX11_gain_89 (by decide) ?_
  refine z_icmp_ne_f (tgt := 103) b dX11_gain_90 (by decide) (by decide) ?_
  refine z_aload_n b dX11_gain_93 rfl rfl ?_
  refine z_get (q0 := 0) (k9 := 6) (v := .ref (a 25)) b (cw_0 cy tE a rw (su (si (su (su (sv (sa (si (si (si S 24 1) 19 p0) 21 7) 13 (fil 1024 0 (ar (si (si (si S 24 1) 19 p0) 21 7) 13))) 2 0 4128768) 11 0 (-1)) 12 0 (-1)) 25 1) 13 978 1)) rfl in_X11 (by decide) wf_X11_52 rfl dX11_gain_94 ?_
  refine z_iload b dX11_gain_97 rfl ?_
  refine z_calli b (z_runV (q0 := 25) (As := [.int 0]) (st := []) b (c_X8_acts (su (si (su (su (sv (sa (si (si (si S 24 1) 19 p0) 21 7) 13 (fil 1024 0 (ar (si (si (si S 24 1) 19 p0) 21 7) 13))) 2 0 4128768) 11 0 (-1)) 12 0 (-1)) 25 1) 13 978 1) rfl h_a_10_0) cf_X8_acts (cw_25 cy tE a rw (su (si (su (su (sv (sa (si (si (si S 24 1) 19 p0) 21 7) 13 (fil 1024 0 (ar (si (si (si S 24 1) 19 p0) 21 7) 13))) 2 0 4128768) 11 0 (-1)) 12 0 (-1)) 25 1) 13 978 1)) rfl wm_X11_217 wi_X8_acts ws_X8_acts dX11_gain_99 rfl (Nat.le_of_ble_eq_true rfl) ⟨by decide, by decide, by decide, by decide⟩) (fun r12113 u12114 h12112 => ?_)
  obtain ⟨rfl, rfl⟩ := h12112
  exact z_iret (u := (su (si (su (su (sv (sa (si (si (si S 24 1) 19 p0) 21 7) 13 (fil 1024 0 (ar (si (si (si S 24 1) 19 p0) 21 7) 13))) 2 0 4128768) 11 0 (-1)) 12 0 (-1)) 25 1) 13 978 1)) b rfl dX11_gain_102 ⟨rfl, rfl⟩ rfl (by decide) (by decide)

set_option maxHeartbeats 4000000 in
set_option maxRecDepth 100000 in
theorem c_X12_isIn_60 {l : Launch} {D : va_G} {cy : Nat → ClassId} {T0 tB tE : Nat} {a : Nat → Nat} (S : GS)   : Ct l D cy T0 tB tE yX12_isIn cX12_isIn 3 (some .boolean) 0 0 0 0 (mw cy a S) [.int 1, .int 0, .int 7] (QI D (U := GS) (fun r u => 1 = r ∧ S = u) (mw cy a)) := by
  refine Ct.ofZ RX12 "isIn" [(0, .int 1), (1, .int 0), (2, .int 7)] rfl rfl rfl rfl (Nat.le_of_ble_eq_true rfl) ?_
  intro p e R s m args below meth c A b
  refine z_iload_n b dX12_isIn_0 rfl rfl ?_
  refine z_iload_n b dX12_isIn_1 rfl rfl ?_
  refine z_icmp_lt_f (tgt := 14) b dX12_isIn_2 (by decide) (by decide) ?_
  refine z_iload_n b dX12_isIn_5 rfl rfl ?_
  refine z_iload_n b dX12_isIn_6 rfl rfl ?_
  refine z_icmp_gt_f (tgt := 14) b dX12_isIn_7 (by decide) (by decide) ?_
  refine z_iconst (v := 1) b dX12_isIn_10 (by decide) ?_
  refine z_goto (tgt := 15) b dX12_isIn_11 (by decide) ?_
  exact z_zret (u := S) b rfl (by decide) dX12_isIn_15 ⟨rfl, rfl⟩ rfl (by decide) (by decide)

set_option maxHeartbeats 4000000 in
set_option maxRecDepth 100000 in
theorem c_X12_gain_17 {l : Launch} {D : va_G} {cy : Nat → ClassId} {T0 tB tE : Nat} {a : Nat → Nat} (S : GS) (p0 : Int32) (h_i_21 : fi S 21 = 0) (h_i_23 : fi S 23 = 0) (h_l_0 : fl S 0 = 1649317774848) (h_a_29_992 : ar S 29 992 = (-1)) (h_a_28_0 : ar S 28 0 = 0) (h_a_4_7 : ar S 4 7 = 0) (h_a_1_7 : ar S 1 7 = 0) (h_a_4_6 : ar S 4 6 = 0) (h_a_1_6 : ar S 1 6 = 0) (h_a_3_6 : ar S 3 6 = 0) (h_a_3_2 : ar S 3 2 = 0) (h_a_2_2 : ar S 2 2 = 3) (h_a_0_2 : ar S 0 2 = 0) (h_a_4_3 : ar S 4 3 = 0) (h_a_1_3 : ar S 1 3 = 0) (h_a_4_5 : ar S 4 5 = 0) (h_a_1_5 : ar S 1 5 = 0) (h_a_3_5 : ar S 3 5 = 0) (h_a_3_7 : ar S 3 7 = 0) (h_a_2_1 : ar S 2 1 = 3) (h_a_0_1 : ar S 0 1 = 0) (h_a_4_2 : ar S 4 2 = 0) (h_a_1_2 : ar S 1 2 = 0) (h_a_4_1 : ar S 4 1 = 0) (h_a_1_1 : ar S 1 1 = 0) (h_a_3_1 : ar S 3 1 = 0) (h_a_3_3 : ar S 3 3 = 0) (h_a_2_0 : ar S 2 0 = 3) (h_a_0_0 : ar S 0 0 = 0) (h_i_0 : fi S 0 = 0) (hr_p0 : 1 ≤ p0.toInt ∧ p0.toInt ≤ 3) : Ct l D cy T0 tB tE yX12_gain cX12_gain 9 (some .int) 3 74 0 0 (mw cy a S) [.ref (a 0), .int 0, .int p0, .int 0, .int 1] (QI D (U := GS) (fun r u => 0 = r ∧ (si (su (su (sv (su (su (si S 22 (-1)) 29 992 0) 30 0 992) 0 0 1649317774848) 26 0 (-1)) 27 0 (-1)) 21 1) = u) (mw cy a)) := by
  refine Ct.ofZ RX12 "gain" [(0, .ref (a 0)), (1, .int 0), (2, .int p0), (3, .int 0), (4, .int 1)] rfl rfl rfl rfl (Nat.le_of_ble_eq_true rfl) ?_
  intro p e R s m args below meth c A b
  refine z_iload_n b dX12_gain_0 rfl rfl ?_
  refine z_calli b (z_runS (As := [.int 0]) (st := []) b (c_X12_isOne_3 S ) cf_X12_isOne wm_X12_170 ws_X12_isOne dX12_gain_1 rfl (Nat.le_of_ble_eq_true rfl) ⟨by decide, by decide, by decide, by decide⟩) (fun r12116 u12117 h12115 => ?_)
  obtain ⟨rfl, rfl⟩ := h12115
  refine z_if_eq_f (tgt := 27) b dX12_gain_4 (by decide) (by decide) ?_
  refine z_aload_n b dX12_gain_7 rfl rfl ?_
  refine z_iload_n b dX12_gain_8 rfl rfl ?_
  refine z_iload_n b dX12_gain_9 rfl rfl ?_
  refine z_calli b (z_runV (q0 := 0) (As := [.int p0, .int 0]) (st := []) b (c_X12_canSearch_4 S p0 ⟨by omega, by omega⟩) cf_X12_canSearch (mw_0 cy a S) rfl wm_X12_433 wi_X12_canSearch ws_X12_canSearch dX12_gain_10 rfl (Nat.le_of_ble_eq_true rfl) ⟨by decide, by decide, by decide, by decide⟩) (fun r12119 u12120 h12118 => ?_)
  obtain ⟨rfl, rfl⟩ := h12118
  refine z_if_eq_f (tgt := 27) b dX12_gain_13 (by decide) (by decide) ?_
  refine z_iload b dX12_gain_16 rfl ?_
  refine z_iconst (v := 0) b dX12_gain_18 (by decide) ?_
  refine z_bipush (v := 7) b dX12_gain_19 (by decide) ?_
  refine z_calli b (z_runS (As := [.int 1, .int 0, .int 7]) (st := []) b (c_X12_isIn_60 S ) cf_X12_isIn wm_X12_1 ws_X12_isIn dX12_gain_21 rfl (Nat.le_of_ble_eq_true rfl) ⟨by decide, by decide, by decide, by decide⟩) (fun r12122 u12123 h12121 => ?_)
  obtain ⟨rfl, rfl⟩ := h12121
  refine z_if_ne_t (tgt := 30) b dX12_gain_24 (by decide) (by decide) ?_
  refine z_aload_n b dX12_gain_30 rfl rfl ?_
  refine z_iconst (v := (-1)) b dX12_gain_31 (by decide) ?_
  refine z_iload_n b dX12_gain_32 rfl rfl ?_
  refine z_iload_n b dX12_gain_33 rfl rfl ?_
  refine z_bipush (v := 7) b dX12_gain_34 (by decide) ?_
  refine z_iconst (v := 0) b dX12_gain_36 (by decide) ?_
  refine z_callv b (z_runV (q0 := 0) (As := [.int (-1), .int p0, .int 0, .int 7, .int 0]) (st := []) b (c_X12_searches S p0 h_i_21 h_i_23 h_l_0 h_a_29_992 h_a_28_0 ⟨by omega, by omega⟩) cf_X12_searches (mw_0 cy a S) rfl wm_X12_436 wi_X12_searches ws_X12_searches dX12_gain_37 rfl (Nat.le_of_ble_eq_true rfl) ⟨by decide, by decide, by decide, by decide⟩) (fun u12126 h12124 => ?_)
  obtain rfl := h12124
  refine z_aload_n b dX12_gain_40 rfl rfl ?_
  refine z_get (q0 := 0) (k9 := 57) (v := .int (fi (si (su (su (sv (su (su (si S 22 (-1)) 29 992 0) 30 0 992) 0 0 1649317774848) 26 0 (-1)) 27 0 (-1)) 21 1) 23)) b (mw_0 cy a (si (su (su (sv (su (su (si S 22 (-1)) 29 992 0) 30 0 992) 0 0 1649317774848) 26 0 (-1)) 27 0 (-1)) 21 1)) rfl in_X12 (by decide) wf_X12_408 rfl dX12_gain_41 ?_
  refine z_eqi h_i_23 ?_
  refine z_if_eq_t (tgt := 50) b dX12_gain_44 (by decide) (by decide) ?_
  refine z_iconst (v := (-1)) b dX12_gain_50 (by decide) ?_
  refine z_istore (lv' := [(5, .int (-1)), (0, .ref (a 0)), (1, .int 0), (2, .int p0), (3, .int 0), (4, .int 1)]) b dX12_gain_51 (by decide) rfl ?_
  refine z_iconst (v := 0) b dX12_gain_53 (by decide) ?_
  refine z_istore (lv' := [(6, .int 0), (5, .int (-1)), (0, .ref (a 0)), (1, .int 0), (2, .int p0), (3, .int 0), (4, .int 1)]) b dX12_gain_54 (by decide) rfl ?_
  refine z_iconst (v := 0) b dX12_gain_56 (by decide) ?_
  refine z_istore (lv' := [(7, .int 0), (6, .int 0), (5, .int (-1)), (0, .ref (a 0)), (1, .int 0), (2, .int p0), (3, .int 0), (4, .int 1)]) b dX12_gain_57 (by decide) rfl ?_
  refine z_iload b dX12_gain_59 rfl ?_
  refine z_aload_n b dX12_gain_61 rfl rfl ?_
  refine z_get (q0 := 0) (k9 := 55) (v := .int 1) b (mw_0 cy a (si (su (su (sv (su (su (si S 22 (-1)) 29 992 0) 30 0 992) 0 0 1649317774848) 26 0 (-1)) 27 0 (-1)) 21 1)) rfl in_X12 (by decide) wf_X12_405 rfl dX12_gain_62 ?_
  refine z_icmp_ge_f (tgt := 147) b dX12_gain_65 (by decide) (by decide) ?_
  refine z_aload_n b dX12_gain_68 rfl rfl ?_
  refine z_aload_n b dX12_gain_69 rfl rfl ?_
  refine z_get (q0 := 0) (k9 := 49) (v := .ref (a 27)) b (mw_0 cy a (si (su (su (sv (su (su (si S 22 (-1)) 29 992 0) 30 0 992) 0 0 1649317774848) 26 0 (-1)) 27 0 (-1)) 21 1)) rfl in_X12 (by decide) wf_X12_97 rfl dX12_gain_70 ?_
  refine z_iload b dX12_gain_73 rfl ?_
  refine y_lald (q0 := 27) (j := 0) (v := 1649317774848) b (mw_27 cy a (si (su (su (sv (su (su (si S 22 (-1)) 29 992 0) 30 0 992) 0 0 1649317774848) 26 0 (-1)) 27 0 (-1)) 21 1)) (by decide) rfl dX12_gain_75 ?_
  refine z_callv b (z_runV (q0 := 0) (As := [.long 1649317774848]) (st := []) b (c_X12_takes (si (su (su (sv (su (su (si S 22 (-1)) 29 992 0) 30 0 992) 0 0 1649317774848) 26 0 (-1)) 27 0 (-1)) 21 1) h_a_4_7 h_a_1_7 h_a_4_6 h_a_1_6 h_a_3_6 h_a_3_2 h_a_2_2 h_a_0_2 h_a_4_3 h_a_1_3 h_a_4_5 h_a_1_5 h_a_3_5 h_a_3_7 h_a_2_1 h_a_0_1 h_a_4_2 h_a_1_2 h_a_4_1 h_a_1_1 h_a_3_1 h_a_3_3 h_a_2_0 h_a_0_0 h_i_0) cf_X12_takes (mw_0 cy a (si (su (su (sv (su (su (si S 22 (-1)) 29 992 0) 30 0 992) 0 0 1649317774848) 26 0 (-1)) 27 0 (-1)) 21 1)) rfl wm_X12_174 wi_X12_takes ws_X12_takes dX12_gain_76 rfl (Nat.le_of_ble_eq_true rfl) ⟨by decide, by decide, by decide, by decide⟩) (fun u12129 h12127 => ?_)
  obtain rfl := h12127
  refine z_aload_n b dX12_gain_79 rfl rfl ?_
  refine z_get (q0 := 0) (k9 := 0) (v := .ref (a 1)) b (mw_0 cy a (si (su (su (sv (su (su (si S 22 (-1)) 29 992 0) 30 0 992) 0 0 1649317774848) 26 0 (-1)) 27 0 (-1)) 21 1)) rfl in_X12 (by decide) wf_X12_13 rfl dX12_gain_80 ?_
  refine z_iload_n b dX12_gain_83 rfl rfl ?_
  refine y_iald (q0 := 1) (j := 0) (v := (ar (si (su (su (sv (su (su (si S 22 (-1)) 29 992 0) 30 0 992) 0 0 1649317774848) 26 0 (-1)) 27 0 (-1)) 21 1) 0 0)) b (mw_1 cy a (si (su (su (sv (su (su (si S 22 (-1)) 29 992 0) 30 0 992) 0 0 1649317774848) 26 0 (-1)) 27 0 (-1)) 21 1)) (by decide) rfl dX12_gain_84 ?_
  refine z_eqi h_a_0_0 ?_
  refine z_aload_n b dX12_gain_85 rfl rfl ?_
  refine z_get (q0 := 0) (k9 := 1) (v := .ref (a 2)) b (mw_0 cy a (si (su (su (sv (su (su (si S 22 (-1)) 29 992 0) 30 0 992) 0 0 1649317774848) 26 0 (-1)) 27 0 (-1)) 21 1)) rfl in_X12 (by decide) wf_X12_17 rfl dX12_gain_86 ?_
  refine z_iconst (v := 3) b dX12_gain_89 (by decide) ?_
  refine z_iload_n b dX12_gain_90 rfl rfl ?_
  refine z_imul (v := 0) b dX12_gain_91 (by decide) ?_
  refine z_iload_n b dX12_gain_92 rfl rfl ?_
  refine z_iconst (v := 0) b dX12_gain_93 (by decide) ?_
  refine z_calli b (z_runS (As := [.int 0, .int 0]) (st := [.int 0, .ref (a 2), .int 0]) b (c_X12_other_6 (si (su (su (sv (su (su (si S 22 (-1)) 29 992 0) 30 0 992) 0 0 1649317774848) 26 0 (-1)) 27 0 (-1)) 21 1) ) cf_X12_other wm_X12_160 ws_X12_other dX12_gain_94 rfl (Nat.le_of_ble_eq_true rfl) ⟨by decide, by decide, by decide, by decide⟩) (fun r12131 u12132 h12130 => ?_)
  obtain ⟨rfl, rfl⟩ := h12130
  refine z_iadd (v := 1) b dX12_gain_97 (by decide) ?_
  refine y_iald (q0 := 2) (j := 1) (v := (ar (si (su (su (sv (su (su (si S 22 (-1)) 29 992 0) 30 0 992) 0 0 1649317774848) 26 0 (-1)) 27 0 (-1)) 21 1) 1 1)) b (mw_2 cy a (si (su (su (sv (su (su (si S 22 (-1)) 29 992 0) 30 0 992) 0 0 1649317774848) 26 0 (-1)) 27 0 (-1)) 21 1)) (by decide) rfl dX12_gain_98 ?_
  refine z_eqi h_a_1_1 ?_
  refine z_isub (v := 0) b dX12_gain_99 (by decide) ?_
  refine z_aload_n b dX12_gain_100 rfl rfl ?_
  refine z_get (q0 := 0) (k9 := 1) (v := .ref (a 2)) b (mw_0 cy a (si (su (su (sv (su (su (si S 22 (-1)) 29 992 0) 30 0 992) 0 0 1649317774848) 26 0 (-1)) 27 0 (-1)) 21 1)) rfl in_X12 (by decide) wf_X12_17 rfl dX12_gain_101 ?_
  refine z_iconst (v := 3) b dX12_gain_104 (by decide) ?_
  refine z_iload_n b dX12_gain_105 rfl rfl ?_
  refine z_imul (v := 0) b dX12_gain_106 (by decide) ?_
  refine z_iload_n b dX12_gain_107 rfl rfl ?_
  refine z_iconst (v := 1) b dX12_gain_108 (by decide) ?_
  refine z_calli b (z_runS (As := [.int 0, .int 1]) (st := [.int 0, .ref (a 2), .int 0]) b (c_X12_other_5 (si (su (su (sv (su (su (si S 22 (-1)) 29 992 0) 30 0 992) 0 0 1649317774848) 26 0 (-1)) 27 0 (-1)) 21 1) ) cf_X12_other wm_X12_160 ws_X12_other dX12_gain_109 rfl (Nat.le_of_ble_eq_true rfl) ⟨by decide, by decide, by decide, by decide⟩) (fun r12134 u12135 h12133 => ?_)
  obtain ⟨rfl, rfl⟩ := h12133
  refine z_iadd (v := 2) b dX12_gain_112 (by decide) ?_
  refine y_iald (q0 := 2) (j := 2) (v := (ar (si (su (su (sv (su (su (si S 22 (-1)) 29 992 0) 30 0 992) 0 0 1649317774848) 26 0 (-1)) 27 0 (-1)) 21 1) 1 2)) b (mw_2 cy a (si (su (su (sv (su (su (si S 22 (-1)) 29 992 0) 30 0 992) 0 0 1649317774848) 26 0 (-1)) 27 0 (-1)) 21 1)) (by decide) rfl dX12_gain_113 ?_
  refine z_eqi h_a_1_2 ?_
  refine z_isub (v := 0) b dX12_gain_114 (by decide) ?_
  refine z_istore (lv' := [(8, .int 0), (7, .int 0), (6, .int 0), (5, .int (-1)), (0, .ref (a 0)), (1, .int 0), (2, .int p0), (3, .int 0), (4, .int 1)]) b dX12_gain_115 (by decide) rfl ?_
  refine z_iload b dX12_gain_117 rfl ?_
  refine z_iconst (v := (-1)) b dX12_gain_119 (by decide) ?_
  refine z_icmp_eq_t (tgt := 133) b dX12_gain_120 (by decide) (by decide) ?_
  refine z_iload b dX12_gain_133 rfl ?_
  refine z_istore (lv' := [(5, .int 0), (8, .int 0), (7, .int 0), (6, .int 0), (0, .ref (a 0)), (1, .int 0), (2, .int p0), (3, .int 0), (4, .int 1)]) b dX12_gain_135 (by decide) rfl ?_
  refine z_iload b dX12_gain_137 rfl ?_
  refine z_istore (lv' := [(6, .int 0), (5, .int 0), (8, .int 0), (7, .int 0), (0, .ref (a 0)), (1, .int 0), (2, .int p0), (3, .int 0), (4, .int 1)]) b dX12_gain_139 (by decide) rfl ?_
  refine z_iinc (k9 := 3) (v := 1) (lv' := [(7, .int 1), (6, .int 0), (5, .int 0), (8, .int 0), (0, .ref (a 0)), (1, .int 0), (2, .int p0), (3, .int 0), (4, .int 1)]) b dX12_gain_141 rfl (by decide) (by decide) rfl ?_
  refine z_goto (tgt := 59) b dX12_gain_144 (by decide) ?_
  refine z_iload b dX12_gain_59 rfl ?_
  refine z_aload_n b dX12_gain_61 rfl rfl ?_
  refine z_get (q0 := 0) (k9 := 55) (v := .int 1) b (mw_0 cy a (si (su (su (sv (su (su (si S 22 (-1)) 29 992 0) 30 0 992) 0 0 1649317774848) 26 0 (-1)) 27 0 (-1)) 21 1)) rfl in_X12 (by decide) wf_X12_405 rfl dX12_gain_62 ?_
  refine z_icmp_ge_t (tgt := 147) b dX12_gain_65 (by decide) (by decide) ?_
  refine z_iload b dX12_gain_147 rfl ?_
  refine z_iconst (v := 2) b dX12_gain_149 (by decide) ?_
  refine z_icmp_ge_f (tgt := 171) b dX12_gain_150 (by decide) (by decide) ?_
  refine z_iload b dX12_gain_153 rfl ?_
  refine z_if_ne_t (tgt := 163) b dX12_gain_155 (by decide) (by decide) ?_
  refine z_aload_n b dX12_gain_163 rfl rfl ?_
  refine z_get (q0 := 0) (k9 := 52) (v := .ref (a 30)) b (mw_0 cy a (si (su (su (sv (su (su (si S 22 (-1)) 29 992 0) 30 0 992) 0 0 1649317774848) 26 0 (-1)) 27 0 (-1)) 21 1)) rfl in_X12 (by decide) wf_X12_107 rfl dX12_gain_164 ?_
  refine z_iload b dX12_gain_167 rfl ?_
  refine y_iald (q0 := 30) (j := 0) (v := (ar (si (su (su (sv (su (su (si S 22 (-1)) 29 992 0) 30 0 992) 0 0 1649317774848) 26 0 (-1)) 27 0 (-1)) 21 1) 28 0)) b (mw_30 cy a (si (su (su (sv (su (su (si S 22 (-1)) 29 992 0) 30 0 992) 0 0 1649317774848) 26 0 (-1)) 27 0 (-1)) 21 1)) (by decide) rfl dX12_gain_169 ?_
  refine z_eqi h_a_28_0 ?_
  exact z_iret (u := (si (su (su (sv (su (su (si S 22 (-1)) 29 992 0) 30 0 992) 0 0 1649317774848) 26 0 (-1)) 27 0 (-1)) 21 1)) b rfl dX12_gain_170 ⟨rfl, rfl⟩ rfl (by decide) (by decide)

set_option maxHeartbeats 4000000 in
set_option maxRecDepth 100000 in
theorem c_X8_code {l : Launch} {D : va_G} {cy : Nat → ClassId} {T0 tB tE : Nat} {a : Nat → Nat} {rw : Nat → Option Nat} (S : GS) (p0 : Int32) (h_i_25 : fi S 25 = 1) (h_a_10_0 : ar S 10 0 = 0) (hr_p0 : 0 ≤ p0.toInt ∧ p0.toInt ≤ 5) : Ct l D cy T0 tB tE yX8_code cX8_code 5 (some .int) 1 21 0 0 (cw cy tE a rw S) [.ref (a 25), .int 0, .int p0] (QI D (U := GS) (fun r u => (-1) = r ∧ S = u) (cw cy tE a rw)) := by
  refine Ct.ofZ RX8 "code" [(0, .ref (a 25)), (1, .int 0), (2, .int p0)] rfl rfl rfl rfl (Nat.le_of_ble_eq_true rfl) ?_
  intro p e R s m args below meth c A b
  refine z_iload_n b dX8_code_0 rfl rfl ?_
  refine y_if_lt (tgt := 13) (xl := p0.toInt) b rfl dX8_code_1 (by decide) (fun c12158 => ?_) (fun c12158 => ?_)
  · exfalso; omega
  · refine z_iload_n b dX8_code_4 rfl rfl ?_
    refine z_aload_n b dX8_code_5 rfl rfl ?_
    refine z_iload_n b dX8_code_6 rfl rfl ?_
    refine z_calli b (z_runV (q0 := 25) (As := [.int 0]) (st := [.int p0]) b (c_X8_acts S h_i_25 h_a_10_0) cf_X8_acts (cw_25 cy tE a rw S) rfl wm_X8_117 wi_X8_acts ws_X8_acts dX8_code_7 rfl (Nat.le_of_ble_eq_true rfl) ⟨by decide, by decide, by decide, by decide⟩) (fun r12160 u12161 h12159 => ?_)
    obtain ⟨rfl, rfl⟩ := h12159
    refine y_icmp_lt (tgt := 15) (xl := p0.toInt) (yl := 0) b rfl (by decide) dX8_code_10 (by decide) (fun c12162 => ?_) (fun c12162 => ?_)
    · exfalso; omega
    · refine z_iconst (v := (-1)) b dX8_code_13 (by decide) ?_
      exact z_iret (u := S) b rfl dX8_code_14 ⟨rfl, rfl⟩ rfl (by decide) (by decide)

set_option maxHeartbeats 4000000 in
set_option maxRecDepth 100000 in
theorem c_X11_gain_18 {l : Launch} {D : va_G} {cy : Nat → ClassId} {T0 tB tE : Nat} {a : Nat → Nat} {rw : Nat → Option Nat} (S : GS) (p0 : Int32) (p1 : Int32) (h_i_19 : fi S 19 = 0) (h_i_24 : fi S 24 = 0) (h_i_20 : fi S 20 = 0) (h_i_22 : fi S 22 = 0) (h_i_18 : fi S 18 = 0) (h_i_25 : fi S 25 = 0) (h_i_23 : fi S 23 = 0) (h_i_26 : fi S 26 = 0) (h_a_4_50 : ar S 4 50 = 0) (h_a_4_40 : ar S 4 40 = 3) (h_a_4_41 : ar S 4 41 = 3) (h_a_4_42 : ar S 4 42 = 3) (h_a_4_0 : ar S 4 0 = 0) (h_a_4_11 : ar S 4 11 = 0) (h_a_4_21 : ar S 4 21 = 0) (h_a_4_31 : ar S 4 31 = 0) (h_a_4_12 : ar S 4 12 = 0) (h_a_4_22 : ar S 4 22 = 0) (h_a_4_32 : ar S 4 32 = 0) (h_a_4_1 : ar S 4 1 = 0) (h_a_4_13 : ar S 4 13 = 0) (h_a_4_23 : ar S 4 23 = 0) (h_a_4_33 : ar S 4 33 = 0) (h_a_4_15 : ar S 4 15 = 0) (h_a_4_25 : ar S 4 25 = 0) (h_a_4_35 : ar S 4 35 = 0) (h_a_4_2 : ar S 4 2 = 0) (h_a_4_16 : ar S 4 16 = 0) (h_a_4_26 : ar S 4 26 = 0) (h_a_4_36 : ar S 4 36 = 0) (h_a_4_17 : ar S 4 17 = 0) (h_a_4_27 : ar S 4 27 = 0) (h_a_4_37 : ar S 4 37 = 0) (h_a_10_0 : ar S 10 0 = 0) (h_a_9_50 : ar S 9 50 = 0) (h_a_9_40 : ar S 9 40 = 3) (h_a_9_41 : ar S 9 41 = 3) (h_a_9_42 : ar S 9 42 = 3) (h_a_9_0 : ar S 9 0 = 0) (h_a_9_11 : ar S 9 11 = 0) (h_a_9_21 : ar S 9 21 = 0) (h_a_9_31 : ar S 9 31 = 0) (h_a_9_12 : ar S 9 12 = 0) (h_a_9_22 : ar S 9 22 = 0) (h_a_9_32 : ar S 9 32 = 0) (h_a_9_1 : ar S 9 1 = 0) (h_a_9_13 : ar S 9 13 = 0) (h_a_9_23 : ar S 9 23 = 0) (h_a_9_33 : ar S 9 33 = 0) (h_a_9_15 : ar S 9 15 = 0) (h_a_9_25 : ar S 9 25 = 0) (h_a_9_35 : ar S 9 35 = 0) (h_a_9_2 : ar S 9 2 = 0) (h_a_9_16 : ar S 9 16 = 0) (h_a_9_26 : ar S 9 26 = 0) (h_a_9_36 : ar S 9 36 = 0) (h_a_9_17 : ar S 9 17 = 0) (h_a_9_27 : ar S 9 27 = 0) (h_a_9_37 : ar S 9 37 = 0) (hr_p0 : 1 ≤ p0.toInt ∧ p0.toInt ≤ 3) (hr_p1 : 2 ≤ p1.toInt ∧ p1.toInt ≤ 7) : Ct l D cy T0 tB tE yX11_gain cX11_gain 7 (some .int) 5 117 0 0 (cw cy tE a rw S) [.ref (a 0), .int 0, .int p0, .int 0, .int p1] (QI D (U := GS) (fun r u => (-100) = r ∧ (su (si (su (su (sv (sa (si (si (si S 24 1) 19 p0) 21 7) 13 (fil 1024 0 (ar (si (si (si S 24 1) 19 p0) 21 7) 13))) 2 0 4128768) 11 0 (-1)) 12 0 (-1)) 25 1) 13 978 1) = u) (cw cy tE a rw)) := by
  refine Ct.ofZ RX11 "gain" [(0, .ref (a 0)), (1, .int 0), (2, .int p0), (3, .int 0), (4, .int p1)] rfl rfl rfl rfl (Nat.le_of_ble_eq_true rfl) ?_
  intro p e R s m args below meth c A b
  refine z_iload_n b dX11_gain_0 rfl rfl ?_
  refine z_calli b (z_runS (As := [.int 0]) (st := []) b (c_X11_isPerson_3 S ) cf_X11_isPerson wm_X11_69 ws_X11_isPerson dX11_gain_1 rfl (Nat.le_of_ble_eq_true rfl) ⟨by decide, by decide, by decide, by decide⟩) (fun r12137 u12138 h12136 => ?_)
  obtain ⟨rfl, rfl⟩ := h12136
  refine z_if_eq_f (tgt := 26) b dX11_gain_4 (by decide) (by decide) ?_
  refine z_iload_n b dX11_gain_7 rfl rfl ?_
  refine z_calli b (z_runS (As := [.int p0]) (st := []) b (c_X11_areLaws_3 S p0 ⟨by omega, by omega⟩) cf_X11_areLaws wm_X11_181 ws_X11_areLaws dX11_gain_8 rfl (Nat.le_of_ble_eq_true rfl) ⟨by decide, by decide, by decide, by decide⟩) (fun r12140 u12141 h12139 => ?_)
  obtain ⟨rfl, rfl⟩ := h12139
  refine z_if_eq_f (tgt := 26) b dX11_gain_11 (by decide) (by decide) ?_
  refine z_iload_n b dX11_gain_14 rfl rfl ?_
  refine z_calli b (z_runS (As := [.int 0]) (st := []) b (c_X11_isDepth_2 S ) cf_X11_isDepth wm_X11_203 ws_X11_isDepth dX11_gain_15 rfl (Nat.le_of_ble_eq_true rfl) ⟨by decide, by decide, by decide, by decide⟩) (fun r12143 u12144 h12142 => ?_)
  obtain ⟨rfl, rfl⟩ := h12142
  refine z_if_eq_f (tgt := 26) b dX11_gain_18 (by decide) (by decide) ?_
  refine z_iload b dX11_gain_21 rfl ?_
  refine y_if_ge (tgt := 29) (xl := p1.toInt) b rfl dX11_gain_23 (by decide) (fun c12145 => ?_) (fun c12145 => ?_)
  · refine z_aload_n b dX11_gain_29 rfl rfl ?_
    refine z_get (q0 := 0) (k9 := 6) (v := .ref (a 25)) b (cw_0 cy tE a rw S) rfl in_X11 (by decide) wf_X11_52 rfl dX11_gain_30 ?_
    refine z_iload_n b dX11_gain_33 rfl rfl ?_
    refine z_iload_n b dX11_gain_34 rfl rfl ?_
    refine z_bipush (v := 7) b dX11_gain_35 (by decide) ?_
    refine z_iconst (v := 0) b dX11_gain_37 (by decide) ?_
    refine z_callv b (z_runV (q0 := 25) (As := [.int p0, .int 0, .int 7, .int 0]) (st := []) b (c_X8_begin S p0 h_i_19 h_i_24 h_i_20 h_i_22 h_i_18 h_i_25 h_i_23 h_i_26 h_a_4_50 h_a_4_40 h_a_4_41 h_a_4_42 h_a_4_0 h_a_4_11 h_a_4_21 h_a_4_31 h_a_4_12 h_a_4_22 h_a_4_32 h_a_4_1 h_a_4_13 h_a_4_23 h_a_4_33 h_a_4_15 h_a_4_25 h_a_4_35 h_a_4_2 h_a_4_16 h_a_4_26 h_a_4_36 h_a_4_17 h_a_4_27 h_a_4_37 h_a_10_0 ⟨by omega, by omega⟩) cf_X8_begin (cw_25 cy tE a rw S) rfl wm_X11_206 wi_X8_begin ws_X8_begin dX11_gain_38 rfl (Nat.le_of_ble_eq_true rfl) ⟨by decide, by decide, by decide, by decide⟩) (fun u12148 h12146 => ?_)
    obtain rfl := h12146
    refine z_aload_n b dX11_gain_41 rfl rfl ?_
    refine z_get (q0 := 0) (k9 := 6) (v := .ref (a 25)) b (cw_0 cy tE a rw (su (si (su (su (sv (sa (si (si (si S 24 1) 19 p0) 21 7) 13 (fil 1024 0 (ar (si (si (si S 24 1) 19 p0) 21 7) 13))) 2 0 4128768) 11 0 (-1)) 12 0 (-1)) 25 1) 13 978 1)) rfl in_X11 (by decide) wf_X11_52 rfl dX11_gain_42 ?_
    refine z_callv b (z_runV (q0 := 25) (As := []) (st := []) b (c_X8_finish (su (si (su (su (sv (sa (si (si (si S 24 1) 19 p0) 21 7) 13 (fil 1024 0 (ar (si (si (si S 24 1) 19 p0) 21 7) 13))) 2 0 4128768) 11 0 (-1)) 12 0 (-1)) 25 1) 13 978 1) h_i_26 h_i_23 rfl h_a_10_0 h_i_20) cf_X8_finish (cw_25 cy tE a rw (su (si (su (su (sv (sa (si (si (si S 24 1) 19 p0) 21 7) 13 (fil 1024 0 (ar (si (si (si S 24 1) 19 p0) 21 7) 13))) 2 0 4128768) 11 0 (-1)) 12 0 (-1)) 25 1) 13 978 1)) rfl wm_X11_232 wi_X8_finish ws_X8_finish dX11_gain_45 rfl (Nat.le_of_ble_eq_true rfl) ⟨by decide, by decide, by decide, by decide⟩) (fun u12151 h12149 => ?_)
    obtain rfl := h12149
    refine z_aload_n b dX11_gain_48 rfl rfl ?_
    refine z_get (q0 := 0) (k9 := 6) (v := .ref (a 25)) b (cw_0 cy tE a rw (su (si (su (su (sv (sa (si (si (si S 24 1) 19 p0) 21 7) 13 (fil 1024 0 (ar (si (si (si S 24 1) 19 p0) 21 7) 13))) 2 0 4128768) 11 0 (-1)) 12 0 (-1)) 25 1) 13 978 1)) rfl in_X11 (by decide) wf_X11_52 rfl dX11_gain_49 ?_
    refine z_get (q0 := 25) (k9 := 18) (v := .int (fi (su (si (su (su (sv (sa (si (si (si S 24 1) 19 p0) 21 7) 13 (fil 1024 0 (ar (si (si (si S 24 1) 19 p0) 21 7) 13))) 2 0 4128768) 11 0 (-1)) 12 0 (-1)) 25 1) 13 978 1) 26)) b (cw_25 cy tE a rw (su (si (su (su (sv (sa (si (si (si S 24 1) 19 p0) 21 7) 13 (fil 1024 0 (ar (si (si (si S 24 1) 19 p0) 21 7) 13))) 2 0 4128768) 11 0 (-1)) 12 0 (-1)) 25 1) 13 978 1)) rfl in_X8 (by decide) wf_X11_214 rfl dX11_gain_52 ?_
    refine z_eqi h_i_26 ?_
    refine z_if_eq_t (tgt := 61) b dX11_gain_55 (by decide) (by decide) ?_
    refine z_aload_n b dX11_gain_61 rfl rfl ?_
    refine z_get (q0 := 0) (k9 := 6) (v := .ref (a 25)) b (cw_0 cy tE a rw (su (si (su (su (sv (sa (si (si (si S 24 1) 19 p0) 21 7) 13 (fil 1024 0 (ar (si (si (si S 24 1) 19 p0) 21 7) 13))) 2 0 4128768) 11 0 (-1)) 12 0 (-1)) 25 1) 13 978 1)) rfl in_X11 (by decide) wf_X11_52 rfl dX11_gain_62 ?_
    refine z_iload_n b dX11_gain_65 rfl rfl ?_
    refine z_calli b (z_runV (q0 := 25) (As := [.int 0]) (st := []) b (c_X8_richest (su (si (su (su (sv (sa (si (si (si S 24 1) 19 p0) 21 7) 13 (fil 1024 0 (ar (si (si (si S 24 1) 19 p0) 21 7) 13))) 2 0 4128768) 11 0 (-1)) 12 0 (-1)) 25 1) 13 978 1) rfl rfl h_a_9_50 h_a_9_40 h_a_9_41 h_a_9_42 h_a_9_0 h_a_9_11 h_a_9_21 h_a_9_31 h_a_9_12 h_a_9_22 h_a_9_32 h_a_9_1 h_a_9_13 h_a_9_23 h_a_9_33 h_a_9_15 h_a_9_25 h_a_9_35 h_a_9_2 h_a_9_16 h_a_9_26 h_a_9_36 h_a_9_17 h_a_9_27 h_a_9_37) cf_X8_richest (cw_25 cy tE a rw (su (si (su (su (sv (sa (si (si (si S 24 1) 19 p0) 21 7) 13 (fil 1024 0 (ar (si (si (si S 24 1) 19 p0) 21 7) 13))) 2 0 4128768) 11 0 (-1)) 12 0 (-1)) 25 1) 13 978 1)) rfl wm_X11_238 wi_X8_richest ws_X8_richest dX11_gain_66 rfl (Nat.le_of_ble_eq_true rfl) ⟨by decide, by decide, by decide, by decide⟩) (fun r12153 u12154 h12152 => ?_)
    obtain ⟨rfl, rfl⟩ := h12152
    refine z_istore (lv' := [(5, .int 0), (0, .ref (a 0)), (1, .int 0), (2, .int p0), (3, .int 0), (4, .int p1)]) b dX11_gain_69 (by decide) rfl ?_
    refine z_iload b dX11_gain_71 rfl ?_
    refine y_if_ne (tgt := 87) (xl := p1.toInt) b rfl dX11_gain_73 (by decide) (fun c12155 => ?_) (fun c12155 => ?_)
    · refine z_iload b dX11_gain_87 rfl ?_
      refine z_iconst (v := 1) b dX11_gain_89 (by decide) ?_
      refine y_icmp_ne (tgt := 103) (xl := p1.toInt) (yl := 1) b rfl (by decide) dX11_gain_90 (by decide) (fun c12156 => ?_) (fun c12156 => ?_)
      · refine z_aload_n b dX11_gain_103 rfl rfl ?_
        refine z_get (q0 := 0) (k9 := 6) (v := .ref (a 25)) b (cw_0 cy tE a rw (su (si (su (su (sv (sa (si (si (si S 24 1) 19 p0) 21 7) 13 (fil 1024 0 (ar (si (si (si S 24 1) 19 p0) 21 7) 13))) 2 0 4128768) 11 0 (-1)) 12 0 (-1)) 25 1) 13 978 1)) rfl in_X11 (by decide) wf_X11_52 rfl dX11_gain_104 ?_
        refine z_iload b dX11_gain_107 rfl ?_
        refine z_iload b dX11_gain_109 rfl ?_
        refine z_iconst (v := 2) b dX11_gain_111 (by decide) ?_
        refine z_isub b dX11_gain_112 rfl ?_
        have f12157 : ((p1 - 2) : Int32).toInt = p1.toInt + (-2) := zisub (k := 2) (by decide) (by omega) (by omega)
        refine z_calli b (z_runV (q0 := 25) (As := [.int 0, .int (p1 - 2)]) (st := []) b (c_X8_code (su (si (su (su (sv (sa (si (si (si S 24 1) 19 p0) 21 7) 13 (fil 1024 0 (ar (si (si (si S 24 1) 19 p0) 21 7) 13))) 2 0 4128768) 11 0 (-1)) 12 0 (-1)) 25 1) 13 978 1) (p1 - 2) rfl h_a_10_0 ⟨by omega, by omega⟩) cf_X8_code (cw_25 cy tE a rw (su (si (su (su (sv (sa (si (si (si S 24 1) 19 p0) 21 7) 13 (fil 1024 0 (ar (si (si (si S 24 1) 19 p0) 21 7) 13))) 2 0 4128768) 11 0 (-1)) 12 0 (-1)) 25 1) 13 978 1)) rfl wm_X11_219 wi_X8_code ws_X8_code dX11_gain_113 rfl (Nat.le_of_ble_eq_true rfl) ⟨by decide, by decide, by decide, by decide⟩) (fun r12164 u12165 h12163 => ?_)
        obtain ⟨rfl, rfl⟩ := h12163
        refine z_istore (lv' := [(6, .int (-1)), (5, .int 0), (0, .ref (a 0)), (1, .int 0), (2, .int p0), (3, .int 0), (4, .int p1)]) b dX11_gain_116 (by decide) rfl ?_
        refine z_iload b dX11_gain_118 rfl ?_
        refine z_iconst (v := (-1)) b dX11_gain_120 (by decide) ?_
        refine z_icmp_ne_f (tgt := 129) b dX11_gain_121 (by decide) (by decide) ?_
        refine z_bipush (v := (-100)) b dX11_gain_124 (by decide) ?_
        refine z_goto (tgt := 131) b dX11_gain_126 (by decide) ?_
        exact z_iret (u := (su (si (su (su (sv (sa (si (si (si S 24 1) 19 p0) 21 7) 13 (fil 1024 0 (ar (si (si (si S 24 1) 19 p0) 21 7) 13))) 2 0 4128768) 11 0 (-1)) 12 0 (-1)) 25 1) 13 978 1)) b rfl dX11_gain_131 ⟨rfl, rfl⟩ rfl (by decide) (by decide)
      · exfalso; omega
    · exfalso; omega
  · exfalso; omega

set_option maxHeartbeats 4000000 in
set_option maxRecDepth 100000 in
theorem c_X12_isIn_61 {l : Launch} {D : va_G} {cy : Nat → ClassId} {T0 tB tE : Nat} {a : Nat → Nat} (S : GS) (p0 : Int32)  (hr_p0 : 2 ≤ p0.toInt ∧ p0.toInt ≤ 7) : Ct l D cy T0 tB tE yX12_isIn cX12_isIn 3 (some .boolean) 0 0 0 0 (mw cy a S) [.int p0, .int 0, .int 7] (QI D (U := GS) (fun r u => 1 = r ∧ S = u) (mw cy a)) := by
  refine Ct.ofZ RX12 "isIn" [(0, .int p0), (1, .int 0), (2, .int 7)] rfl rfl rfl rfl (Nat.le_of_ble_eq_true rfl) ?_
  intro p e R s m args below meth c A b
  refine z_iload_n b dX12_isIn_0 rfl rfl ?_
  refine z_iload_n b dX12_isIn_1 rfl rfl ?_
  refine y_icmp_lt (tgt := 14) (xl := p0.toInt) (yl := 0) b rfl (by decide) dX12_isIn_2 (by decide) (fun c12172 => ?_) (fun c12172 => ?_)
  · exfalso; omega
  · refine z_iload_n b dX12_isIn_5 rfl rfl ?_
    refine z_iload_n b dX12_isIn_6 rfl rfl ?_
    refine y_icmp_gt (tgt := 14) (xl := p0.toInt) (yl := 7) b rfl (by decide) dX12_isIn_7 (by decide) (fun c12173 => ?_) (fun c12173 => ?_)
    · exfalso; omega
    · refine z_iconst (v := 1) b dX12_isIn_10 (by decide) ?_
      refine z_goto (tgt := 15) b dX12_isIn_11 (by decide) ?_
      exact z_zret (u := S) b rfl (by decide) dX12_isIn_15 ⟨rfl, rfl⟩ rfl (by decide) (by decide)

set_option maxHeartbeats 4000000 in
set_option maxRecDepth 100000 in
theorem c_X12_gain_18 {l : Launch} {D : va_G} {cy : Nat → ClassId} {T0 tB tE : Nat} {a : Nat → Nat} (S : GS) (p0 : Int32) (p1 : Int32) (h_i_21 : fi S 21 = 0) (h_i_23 : fi S 23 = 0) (h_l_0 : fl S 0 = 1649317774848) (h_a_29_992 : ar S 29 992 = (-1)) (h_a_28_0 : ar S 28 0 = 0) (h_a_4_7 : ar S 4 7 = 0) (h_a_1_7 : ar S 1 7 = 0) (h_a_4_6 : ar S 4 6 = 0) (h_a_1_6 : ar S 1 6 = 0) (h_a_3_6 : ar S 3 6 = 0) (h_a_3_2 : ar S 3 2 = 0) (h_a_2_2 : ar S 2 2 = 3) (h_a_0_2 : ar S 0 2 = 0) (h_a_4_3 : ar S 4 3 = 0) (h_a_1_3 : ar S 1 3 = 0) (h_a_4_5 : ar S 4 5 = 0) (h_a_1_5 : ar S 1 5 = 0) (h_a_3_5 : ar S 3 5 = 0) (h_a_3_7 : ar S 3 7 = 0) (h_a_2_1 : ar S 2 1 = 3) (h_a_0_1 : ar S 0 1 = 0) (h_a_4_2 : ar S 4 2 = 0) (h_a_1_2 : ar S 1 2 = 0) (h_a_4_1 : ar S 4 1 = 0) (h_a_1_1 : ar S 1 1 = 0) (h_a_3_1 : ar S 3 1 = 0) (h_a_3_3 : ar S 3 3 = 0) (h_a_2_0 : ar S 2 0 = 3) (h_a_0_0 : ar S 0 0 = 0) (h_i_0 : fi S 0 = 0) (hr_p0 : 1 ≤ p0.toInt ∧ p0.toInt ≤ 3) (hr_p1 : 2 ≤ p1.toInt ∧ p1.toInt ≤ 7) : Ct l D cy T0 tB tE yX12_gain cX12_gain 9 (some .int) 3 74 0 0 (mw cy a S) [.ref (a 0), .int 0, .int p0, .int 0, .int p1] (QI D (U := GS) (fun r u => (-100) = r ∧ (si (su (su (sv (su (su (si S 22 (-1)) 29 992 0) 30 0 992) 0 0 1649317774848) 26 0 (-1)) 27 0 (-1)) 21 1) = u) (mw cy a)) := by
  refine Ct.ofZ RX12 "gain" [(0, .ref (a 0)), (1, .int 0), (2, .int p0), (3, .int 0), (4, .int p1)] rfl rfl rfl rfl (Nat.le_of_ble_eq_true rfl) ?_
  intro p e R s m args below meth c A b
  refine z_iload_n b dX12_gain_0 rfl rfl ?_
  refine z_calli b (z_runS (As := [.int 0]) (st := []) b (c_X12_isOne_3 S ) cf_X12_isOne wm_X12_170 ws_X12_isOne dX12_gain_1 rfl (Nat.le_of_ble_eq_true rfl) ⟨by decide, by decide, by decide, by decide⟩) (fun r12167 u12168 h12166 => ?_)
  obtain ⟨rfl, rfl⟩ := h12166
  refine z_if_eq_f (tgt := 27) b dX12_gain_4 (by decide) (by decide) ?_
  refine z_aload_n b dX12_gain_7 rfl rfl ?_
  refine z_iload_n b dX12_gain_8 rfl rfl ?_
  refine z_iload_n b dX12_gain_9 rfl rfl ?_
  refine z_calli b (z_runV (q0 := 0) (As := [.int p0, .int 0]) (st := []) b (c_X12_canSearch_4 S p0 ⟨by omega, by omega⟩) cf_X12_canSearch (mw_0 cy a S) rfl wm_X12_433 wi_X12_canSearch ws_X12_canSearch dX12_gain_10 rfl (Nat.le_of_ble_eq_true rfl) ⟨by decide, by decide, by decide, by decide⟩) (fun r12170 u12171 h12169 => ?_)
  obtain ⟨rfl, rfl⟩ := h12169
  refine z_if_eq_f (tgt := 27) b dX12_gain_13 (by decide) (by decide) ?_
  refine z_iload b dX12_gain_16 rfl ?_
  refine z_iconst (v := 0) b dX12_gain_18 (by decide) ?_
  refine z_bipush (v := 7) b dX12_gain_19 (by decide) ?_
  refine z_calli b (z_runS (As := [.int p1, .int 0, .int 7]) (st := []) b (c_X12_isIn_61 S p1 ⟨by omega, by omega⟩) cf_X12_isIn wm_X12_1 ws_X12_isIn dX12_gain_21 rfl (Nat.le_of_ble_eq_true rfl) ⟨by decide, by decide, by decide, by decide⟩) (fun r12175 u12176 h12174 => ?_)
  obtain ⟨rfl, rfl⟩ := h12174
  refine z_if_ne_t (tgt := 30) b dX12_gain_24 (by decide) (by decide) ?_
  refine z_aload_n b dX12_gain_30 rfl rfl ?_
  refine z_iconst (v := (-1)) b dX12_gain_31 (by decide) ?_
  refine z_iload_n b dX12_gain_32 rfl rfl ?_
  refine z_iload_n b dX12_gain_33 rfl rfl ?_
  refine z_bipush (v := 7) b dX12_gain_34 (by decide) ?_
  refine z_iconst (v := 0) b dX12_gain_36 (by decide) ?_
  refine z_callv b (z_runV (q0 := 0) (As := [.int (-1), .int p0, .int 0, .int 7, .int 0]) (st := []) b (c_X12_searches S p0 h_i_21 h_i_23 h_l_0 h_a_29_992 h_a_28_0 ⟨by omega, by omega⟩) cf_X12_searches (mw_0 cy a S) rfl wm_X12_436 wi_X12_searches ws_X12_searches dX12_gain_37 rfl (Nat.le_of_ble_eq_true rfl) ⟨by decide, by decide, by decide, by decide⟩) (fun u12179 h12177 => ?_)
  obtain rfl := h12177
  refine z_aload_n b dX12_gain_40 rfl rfl ?_
  refine z_get (q0 := 0) (k9 := 57) (v := .int (fi (si (su (su (sv (su (su (si S 22 (-1)) 29 992 0) 30 0 992) 0 0 1649317774848) 26 0 (-1)) 27 0 (-1)) 21 1) 23)) b (mw_0 cy a (si (su (su (sv (su (su (si S 22 (-1)) 29 992 0) 30 0 992) 0 0 1649317774848) 26 0 (-1)) 27 0 (-1)) 21 1)) rfl in_X12 (by decide) wf_X12_408 rfl dX12_gain_41 ?_
  refine z_eqi h_i_23 ?_
  refine z_if_eq_t (tgt := 50) b dX12_gain_44 (by decide) (by decide) ?_
  refine z_iconst (v := (-1)) b dX12_gain_50 (by decide) ?_
  refine z_istore (lv' := [(5, .int (-1)), (0, .ref (a 0)), (1, .int 0), (2, .int p0), (3, .int 0), (4, .int p1)]) b dX12_gain_51 (by decide) rfl ?_
  refine z_iconst (v := 0) b dX12_gain_53 (by decide) ?_
  refine z_istore (lv' := [(6, .int 0), (5, .int (-1)), (0, .ref (a 0)), (1, .int 0), (2, .int p0), (3, .int 0), (4, .int p1)]) b dX12_gain_54 (by decide) rfl ?_
  refine z_iconst (v := 0) b dX12_gain_56 (by decide) ?_
  refine z_istore (lv' := [(7, .int 0), (6, .int 0), (5, .int (-1)), (0, .ref (a 0)), (1, .int 0), (2, .int p0), (3, .int 0), (4, .int p1)]) b dX12_gain_57 (by decide) rfl ?_
  refine z_iload b dX12_gain_59 rfl ?_
  refine z_aload_n b dX12_gain_61 rfl rfl ?_
  refine z_get (q0 := 0) (k9 := 55) (v := .int 1) b (mw_0 cy a (si (su (su (sv (su (su (si S 22 (-1)) 29 992 0) 30 0 992) 0 0 1649317774848) 26 0 (-1)) 27 0 (-1)) 21 1)) rfl in_X12 (by decide) wf_X12_405 rfl dX12_gain_62 ?_
  refine z_icmp_ge_f (tgt := 147) b dX12_gain_65 (by decide) (by decide) ?_
  refine z_aload_n b dX12_gain_68 rfl rfl ?_
  refine z_aload_n b dX12_gain_69 rfl rfl ?_
  refine z_get (q0 := 0) (k9 := 49) (v := .ref (a 27)) b (mw_0 cy a (si (su (su (sv (su (su (si S 22 (-1)) 29 992 0) 30 0 992) 0 0 1649317774848) 26 0 (-1)) 27 0 (-1)) 21 1)) rfl in_X12 (by decide) wf_X12_97 rfl dX12_gain_70 ?_
  refine z_iload b dX12_gain_73 rfl ?_
  refine y_lald (q0 := 27) (j := 0) (v := 1649317774848) b (mw_27 cy a (si (su (su (sv (su (su (si S 22 (-1)) 29 992 0) 30 0 992) 0 0 1649317774848) 26 0 (-1)) 27 0 (-1)) 21 1)) (by decide) rfl dX12_gain_75 ?_
  refine z_callv b (z_runV (q0 := 0) (As := [.long 1649317774848]) (st := []) b (c_X12_takes (si (su (su (sv (su (su (si S 22 (-1)) 29 992 0) 30 0 992) 0 0 1649317774848) 26 0 (-1)) 27 0 (-1)) 21 1) h_a_4_7 h_a_1_7 h_a_4_6 h_a_1_6 h_a_3_6 h_a_3_2 h_a_2_2 h_a_0_2 h_a_4_3 h_a_1_3 h_a_4_5 h_a_1_5 h_a_3_5 h_a_3_7 h_a_2_1 h_a_0_1 h_a_4_2 h_a_1_2 h_a_4_1 h_a_1_1 h_a_3_1 h_a_3_3 h_a_2_0 h_a_0_0 h_i_0) cf_X12_takes (mw_0 cy a (si (su (su (sv (su (su (si S 22 (-1)) 29 992 0) 30 0 992) 0 0 1649317774848) 26 0 (-1)) 27 0 (-1)) 21 1)) rfl wm_X12_174 wi_X12_takes ws_X12_takes dX12_gain_76 rfl (Nat.le_of_ble_eq_true rfl) ⟨by decide, by decide, by decide, by decide⟩) (fun u12182 h12180 => ?_)
  obtain rfl := h12180
  refine z_aload_n b dX12_gain_79 rfl rfl ?_
  refine z_get (q0 := 0) (k9 := 0) (v := .ref (a 1)) b (mw_0 cy a (si (su (su (sv (su (su (si S 22 (-1)) 29 992 0) 30 0 992) 0 0 1649317774848) 26 0 (-1)) 27 0 (-1)) 21 1)) rfl in_X12 (by decide) wf_X12_13 rfl dX12_gain_80 ?_
  refine z_iload_n b dX12_gain_83 rfl rfl ?_
  refine y_iald (q0 := 1) (j := 0) (v := (ar (si (su (su (sv (su (su (si S 22 (-1)) 29 992 0) 30 0 992) 0 0 1649317774848) 26 0 (-1)) 27 0 (-1)) 21 1) 0 0)) b (mw_1 cy a (si (su (su (sv (su (su (si S 22 (-1)) 29 992 0) 30 0 992) 0 0 1649317774848) 26 0 (-1)) 27 0 (-1)) 21 1)) (by decide) rfl dX12_gain_84 ?_
  refine z_eqi h_a_0_0 ?_
  refine z_aload_n b dX12_gain_85 rfl rfl ?_
  refine z_get (q0 := 0) (k9 := 1) (v := .ref (a 2)) b (mw_0 cy a (si (su (su (sv (su (su (si S 22 (-1)) 29 992 0) 30 0 992) 0 0 1649317774848) 26 0 (-1)) 27 0 (-1)) 21 1)) rfl in_X12 (by decide) wf_X12_17 rfl dX12_gain_86 ?_
  refine z_iconst (v := 3) b dX12_gain_89 (by decide) ?_
  refine z_iload_n b dX12_gain_90 rfl rfl ?_
  refine z_imul (v := 0) b dX12_gain_91 (by decide) ?_
  refine z_iload_n b dX12_gain_92 rfl rfl ?_
  refine z_iconst (v := 0) b dX12_gain_93 (by decide) ?_
  refine z_calli b (z_runS (As := [.int 0, .int 0]) (st := [.int 0, .ref (a 2), .int 0]) b (c_X12_other_6 (si (su (su (sv (su (su (si S 22 (-1)) 29 992 0) 30 0 992) 0 0 1649317774848) 26 0 (-1)) 27 0 (-1)) 21 1) ) cf_X12_other wm_X12_160 ws_X12_other dX12_gain_94 rfl (Nat.le_of_ble_eq_true rfl) ⟨by decide, by decide, by decide, by decide⟩) (fun r12184 u12185 h12183 => ?_)
  obtain ⟨rfl, rfl⟩ := h12183
  refine z_iadd (v := 1) b dX12_gain_97 (by decide) ?_
  refine y_iald (q0 := 2) (j := 1) (v := (ar (si (su (su (sv (su (su (si S 22 (-1)) 29 992 0) 30 0 992) 0 0 1649317774848) 26 0 (-1)) 27 0 (-1)) 21 1) 1 1)) b (mw_2 cy a (si (su (su (sv (su (su (si S 22 (-1)) 29 992 0) 30 0 992) 0 0 1649317774848) 26 0 (-1)) 27 0 (-1)) 21 1)) (by decide) rfl dX12_gain_98 ?_
  refine z_eqi h_a_1_1 ?_
  refine z_isub (v := 0) b dX12_gain_99 (by decide) ?_
  refine z_aload_n b dX12_gain_100 rfl rfl ?_
  refine z_get (q0 := 0) (k9 := 1) (v := .ref (a 2)) b (mw_0 cy a (si (su (su (sv (su (su (si S 22 (-1)) 29 992 0) 30 0 992) 0 0 1649317774848) 26 0 (-1)) 27 0 (-1)) 21 1)) rfl in_X12 (by decide) wf_X12_17 rfl dX12_gain_101 ?_
  refine z_iconst (v := 3) b dX12_gain_104 (by decide) ?_
  refine z_iload_n b dX12_gain_105 rfl rfl ?_
  refine z_imul (v := 0) b dX12_gain_106 (by decide) ?_
  refine z_iload_n b dX12_gain_107 rfl rfl ?_
  refine z_iconst (v := 1) b dX12_gain_108 (by decide) ?_
  refine z_calli b (z_runS (As := [.int 0, .int 1]) (st := [.int 0, .ref (a 2), .int 0]) b (c_X12_other_5 (si (su (su (sv (su (su (si S 22 (-1)) 29 992 0) 30 0 992) 0 0 1649317774848) 26 0 (-1)) 27 0 (-1)) 21 1) ) cf_X12_other wm_X12_160 ws_X12_other dX12_gain_109 rfl (Nat.le_of_ble_eq_true rfl) ⟨by decide, by decide, by decide, by decide⟩) (fun r12187 u12188 h12186 => ?_)
  obtain ⟨rfl, rfl⟩ := h12186
  refine z_iadd (v := 2) b dX12_gain_112 (by decide) ?_
  refine y_iald (q0 := 2) (j := 2) (v := (ar (si (su (su (sv (su (su (si S 22 (-1)) 29 992 0) 30 0 992) 0 0 1649317774848) 26 0 (-1)) 27 0 (-1)) 21 1) 1 2)) b (mw_2 cy a (si (su (su (sv (su (su (si S 22 (-1)) 29 992 0) 30 0 992) 0 0 1649317774848) 26 0 (-1)) 27 0 (-1)) 21 1)) (by decide) rfl dX12_gain_113 ?_
  refine z_eqi h_a_1_2 ?_
  refine z_isub (v := 0) b dX12_gain_114 (by decide) ?_
  refine z_istore (lv' := [(8, .int 0), (7, .int 0), (6, .int 0), (5, .int (-1)), (0, .ref (a 0)), (1, .int 0), (2, .int p0), (3, .int 0), (4, .int p1)]) b dX12_gain_115 (by decide) rfl ?_
  refine z_iload b dX12_gain_117 rfl ?_
  refine z_iconst (v := (-1)) b dX12_gain_119 (by decide) ?_
  refine z_icmp_eq_t (tgt := 133) b dX12_gain_120 (by decide) (by decide) ?_
  refine z_iload b dX12_gain_133 rfl ?_
  refine z_istore (lv' := [(5, .int 0), (8, .int 0), (7, .int 0), (6, .int 0), (0, .ref (a 0)), (1, .int 0), (2, .int p0), (3, .int 0), (4, .int p1)]) b dX12_gain_135 (by decide) rfl ?_
  refine z_iload b dX12_gain_137 rfl ?_
  refine z_istore (lv' := [(6, .int 0), (5, .int 0), (8, .int 0), (7, .int 0), (0, .ref (a 0)), (1, .int 0), (2, .int p0), (3, .int 0), (4, .int p1)]) b dX12_gain_139 (by decide) rfl ?_
  refine z_iinc (k9 := 3) (v := 1) (lv' := [(7, .int 1), (6, .int 0), (5, .int 0), (8, .int 0), (0, .ref (a 0)), (1, .int 0), (2, .int p0), (3, .int 0), (4, .int p1)]) b dX12_gain_141 rfl (by decide) (by decide) rfl ?_
  refine z_goto (tgt := 59) b dX12_gain_144 (by decide) ?_
  refine z_iload b dX12_gain_59 rfl ?_
  refine z_aload_n b dX12_gain_61 rfl rfl ?_
  refine z_get (q0 := 0) (k9 := 55) (v := .int 1) b (mw_0 cy a (si (su (su (sv (su (su (si S 22 (-1)) 29 992 0) 30 0 992) 0 0 1649317774848) 26 0 (-1)) 27 0 (-1)) 21 1)) rfl in_X12 (by decide) wf_X12_405 rfl dX12_gain_62 ?_
  refine z_icmp_ge_t (tgt := 147) b dX12_gain_65 (by decide) (by decide) ?_
  refine z_iload b dX12_gain_147 rfl ?_
  refine z_iconst (v := 2) b dX12_gain_149 (by decide) ?_
  refine y_icmp_ge (tgt := 171) (xl := p1.toInt) (yl := 2) b rfl (by decide) dX12_gain_150 (by decide) (fun c12189 => ?_) (fun c12189 => ?_)
  · refine z_iload b dX12_gain_171 rfl ?_
    refine z_iconst (v := 2) b dX12_gain_173 (by decide) ?_
    refine z_isub b dX12_gain_174 rfl ?_
    have f12190 : ((p1 - 2) : Int32).toInt = p1.toInt + (-2) := zisub (k := 2) (by decide) (by omega) (by omega)
    refine z_aload_n b dX12_gain_175 rfl rfl ?_
    refine z_get (q0 := 0) (k9 := 52) (v := .ref (a 30)) b (mw_0 cy a (si (su (su (sv (su (su (si S 22 (-1)) 29 992 0) 30 0 992) 0 0 1649317774848) 26 0 (-1)) 27 0 (-1)) 21 1)) rfl in_X12 (by decide) wf_X12_107 rfl dX12_gain_176 ?_
    refine z_iload b dX12_gain_179 rfl ?_
    refine y_iald (q0 := 30) (j := 0) (v := (ar (si (su (su (sv (su (su (si S 22 (-1)) 29 992 0) 30 0 992) 0 0 1649317774848) 26 0 (-1)) 27 0 (-1)) 21 1) 28 0)) b (mw_30 cy a (si (su (su (sv (su (su (si S 22 (-1)) 29 992 0) 30 0 992) 0 0 1649317774848) 26 0 (-1)) 27 0 (-1)) 21 1)) (by decide) rfl dX12_gain_181 ?_
    refine z_eqi h_a_28_0 ?_
    refine y_icmp_ge (tgt := 198) (xl := ((p1 - 2) : Int32).toInt) (yl := 0) b rfl (by decide) dX12_gain_182 (by decide) (fun c12191 => ?_) (fun c12191 => ?_)
    · refine z_bipush (v := (-100)) b dX12_gain_198 (by decide) ?_
      exact z_iret (u := (si (su (su (sv (su (su (si S 22 (-1)) 29 992 0) 30 0 992) 0 0 1649317774848) 26 0 (-1)) 27 0 (-1)) 21 1)) b rfl dX12_gain_200 ⟨rfl, rfl⟩ rfl (by decide) (by decide)
    · exfalso; omega
  · exfalso; omega

set_option maxHeartbeats 4000000 in
set_option maxRecDepth 100000 in
theorem c_X8_code_2 {l : Launch} {D : va_G} {cy : Nat → ClassId} {T0 tB tE : Nat} {a : Nat → Nat} {rw : Nat → Option Nat} (S : GS) (p0 : Int32) (h_i_25 : fi S 25 = 1) (h_a_10_0 : ar S 10 0 = 0) (hr_p0 : 6 ≤ p0.toInt ∧ p0.toInt ≤ 2147483645) : Ct l D cy T0 tB tE yX8_code cX8_code 5 (some .int) 1 21 0 0 (cw cy tE a rw S) [.ref (a 25), .int 0, .int p0] (QI D (U := GS) (fun r u => (-1) = r ∧ S = u) (cw cy tE a rw)) := by
  refine Ct.ofZ RX8 "code" [(0, .ref (a 25)), (1, .int 0), (2, .int p0)] rfl rfl rfl rfl (Nat.le_of_ble_eq_true rfl) ?_
  intro p e R s m args below meth c A b
  refine z_iload_n b dX8_code_0 rfl rfl ?_
  refine y_if_lt (tgt := 13) (xl := p0.toInt) b rfl dX8_code_1 (by decide) (fun c12214 => ?_) (fun c12214 => ?_)
  · exfalso; omega
  · refine z_iload_n b dX8_code_4 rfl rfl ?_
    refine z_aload_n b dX8_code_5 rfl rfl ?_
    refine z_iload_n b dX8_code_6 rfl rfl ?_
    refine z_calli b (z_runV (q0 := 25) (As := [.int 0]) (st := [.int p0]) b (c_X8_acts S h_i_25 h_a_10_0) cf_X8_acts (cw_25 cy tE a rw S) rfl wm_X8_117 wi_X8_acts ws_X8_acts dX8_code_7 rfl (Nat.le_of_ble_eq_true rfl) ⟨by decide, by decide, by decide, by decide⟩) (fun r12216 u12217 h12215 => ?_)
    obtain ⟨rfl, rfl⟩ := h12215
    refine y_icmp_lt (tgt := 15) (xl := p0.toInt) (yl := 0) b rfl (by decide) dX8_code_10 (by decide) (fun c12218 => ?_) (fun c12218 => ?_)
    · exfalso; omega
    · refine z_iconst (v := (-1)) b dX8_code_13 (by decide) ?_
      exact z_iret (u := S) b rfl dX8_code_14 ⟨rfl, rfl⟩ rfl (by decide) (by decide)

set_option maxHeartbeats 4000000 in
set_option maxRecDepth 100000 in
theorem c_X11_gain_19 {l : Launch} {D : va_G} {cy : Nat → ClassId} {T0 tB tE : Nat} {a : Nat → Nat} {rw : Nat → Option Nat} (S : GS) (p0 : Int32) (p1 : Int32) (h_i_19 : fi S 19 = 0) (h_i_24 : fi S 24 = 0) (h_i_20 : fi S 20 = 0) (h_i_22 : fi S 22 = 0) (h_i_18 : fi S 18 = 0) (h_i_25 : fi S 25 = 0) (h_i_23 : fi S 23 = 0) (h_i_26 : fi S 26 = 0) (h_a_4_50 : ar S 4 50 = 0) (h_a_4_40 : ar S 4 40 = 3) (h_a_4_41 : ar S 4 41 = 3) (h_a_4_42 : ar S 4 42 = 3) (h_a_4_0 : ar S 4 0 = 0) (h_a_4_11 : ar S 4 11 = 0) (h_a_4_21 : ar S 4 21 = 0) (h_a_4_31 : ar S 4 31 = 0) (h_a_4_12 : ar S 4 12 = 0) (h_a_4_22 : ar S 4 22 = 0) (h_a_4_32 : ar S 4 32 = 0) (h_a_4_1 : ar S 4 1 = 0) (h_a_4_13 : ar S 4 13 = 0) (h_a_4_23 : ar S 4 23 = 0) (h_a_4_33 : ar S 4 33 = 0) (h_a_4_15 : ar S 4 15 = 0) (h_a_4_25 : ar S 4 25 = 0) (h_a_4_35 : ar S 4 35 = 0) (h_a_4_2 : ar S 4 2 = 0) (h_a_4_16 : ar S 4 16 = 0) (h_a_4_26 : ar S 4 26 = 0) (h_a_4_36 : ar S 4 36 = 0) (h_a_4_17 : ar S 4 17 = 0) (h_a_4_27 : ar S 4 27 = 0) (h_a_4_37 : ar S 4 37 = 0) (h_a_10_0 : ar S 10 0 = 0) (h_a_9_50 : ar S 9 50 = 0) (h_a_9_40 : ar S 9 40 = 3) (h_a_9_41 : ar S 9 41 = 3) (h_a_9_42 : ar S 9 42 = 3) (h_a_9_0 : ar S 9 0 = 0) (h_a_9_11 : ar S 9 11 = 0) (h_a_9_21 : ar S 9 21 = 0) (h_a_9_31 : ar S 9 31 = 0) (h_a_9_12 : ar S 9 12 = 0) (h_a_9_22 : ar S 9 22 = 0) (h_a_9_32 : ar S 9 32 = 0) (h_a_9_1 : ar S 9 1 = 0) (h_a_9_13 : ar S 9 13 = 0) (h_a_9_23 : ar S 9 23 = 0) (h_a_9_33 : ar S 9 33 = 0) (h_a_9_15 : ar S 9 15 = 0) (h_a_9_25 : ar S 9 25 = 0) (h_a_9_35 : ar S 9 35 = 0) (h_a_9_2 : ar S 9 2 = 0) (h_a_9_16 : ar S 9 16 = 0) (h_a_9_26 : ar S 9 26 = 0) (h_a_9_36 : ar S 9 36 = 0) (h_a_9_17 : ar S 9 17 = 0) (h_a_9_27 : ar S 9 27 = 0) (h_a_9_37 : ar S 9 37 = 0) (hr_p0 : 1 ≤ p0.toInt ∧ p0.toInt ≤ 3) (hr_p1 : 8 ≤ p1.toInt ∧ p1.toInt ≤ 2147483647) : Ct l D cy T0 tB tE yX11_gain cX11_gain 7 (some .int) 5 117 0 0 (cw cy tE a rw S) [.ref (a 0), .int 0, .int p0, .int 0, .int p1] (QI D (U := GS) (fun r u => (-100) = r ∧ (su (si (su (su (sv (sa (si (si (si S 24 1) 19 p0) 21 7) 13 (fil 1024 0 (ar (si (si (si S 24 1) 19 p0) 21 7) 13))) 2 0 4128768) 11 0 (-1)) 12 0 (-1)) 25 1) 13 978 1) = u) (cw cy tE a rw)) := by
  refine Ct.ofZ RX11 "gain" [(0, .ref (a 0)), (1, .int 0), (2, .int p0), (3, .int 0), (4, .int p1)] rfl rfl rfl rfl (Nat.le_of_ble_eq_true rfl) ?_
  intro p e R s m args below meth c A b
  refine z_iload_n b dX11_gain_0 rfl rfl ?_
  refine z_calli b (z_runS (As := [.int 0]) (st := []) b (c_X11_isPerson_3 S ) cf_X11_isPerson wm_X11_69 ws_X11_isPerson dX11_gain_1 rfl (Nat.le_of_ble_eq_true rfl) ⟨by decide, by decide, by decide, by decide⟩) (fun r12193 u12194 h12192 => ?_)
  obtain ⟨rfl, rfl⟩ := h12192
  refine z_if_eq_f (tgt := 26) b dX11_gain_4 (by decide) (by decide) ?_
  refine z_iload_n b dX11_gain_7 rfl rfl ?_
  refine z_calli b (z_runS (As := [.int p0]) (st := []) b (c_X11_areLaws_3 S p0 ⟨by omega, by omega⟩) cf_X11_areLaws wm_X11_181 ws_X11_areLaws dX11_gain_8 rfl (Nat.le_of_ble_eq_true rfl) ⟨by decide, by decide, by decide, by decide⟩) (fun r12196 u12197 h12195 => ?_)
  obtain ⟨rfl, rfl⟩ := h12195
  refine z_if_eq_f (tgt := 26) b dX11_gain_11 (by decide) (by decide) ?_
  refine z_iload_n b dX11_gain_14 rfl rfl ?_
  refine z_calli b (z_runS (As := [.int 0]) (st := []) b (c_X11_isDepth_2 S ) cf_X11_isDepth wm_X11_203 ws_X11_isDepth dX11_gain_15 rfl (Nat.le_of_ble_eq_true rfl) ⟨by decide, by decide, by decide, by decide⟩) (fun r12199 u12200 h12198 => ?_)
  obtain ⟨rfl, rfl⟩ := h12198
  refine z_if_eq_f (tgt := 26) b dX11_gain_18 (by decide) (by decide) ?_
  refine z_iload b dX11_gain_21 rfl ?_
  refine y_if_ge (tgt := 29) (xl := p1.toInt) b rfl dX11_gain_23 (by decide) (fun c12201 => ?_) (fun c12201 => ?_)
  · refine z_aload_n b dX11_gain_29 rfl rfl ?_
    refine z_get (q0 := 0) (k9 := 6) (v := .ref (a 25)) b (cw_0 cy tE a rw S) rfl in_X11 (by decide) wf_X11_52 rfl dX11_gain_30 ?_
    refine z_iload_n b dX11_gain_33 rfl rfl ?_
    refine z_iload_n b dX11_gain_34 rfl rfl ?_
    refine z_bipush (v := 7) b dX11_gain_35 (by decide) ?_
    refine z_iconst (v := 0) b dX11_gain_37 (by decide) ?_
    refine z_callv b (z_runV (q0 := 25) (As := [.int p0, .int 0, .int 7, .int 0]) (st := []) b (c_X8_begin S p0 h_i_19 h_i_24 h_i_20 h_i_22 h_i_18 h_i_25 h_i_23 h_i_26 h_a_4_50 h_a_4_40 h_a_4_41 h_a_4_42 h_a_4_0 h_a_4_11 h_a_4_21 h_a_4_31 h_a_4_12 h_a_4_22 h_a_4_32 h_a_4_1 h_a_4_13 h_a_4_23 h_a_4_33 h_a_4_15 h_a_4_25 h_a_4_35 h_a_4_2 h_a_4_16 h_a_4_26 h_a_4_36 h_a_4_17 h_a_4_27 h_a_4_37 h_a_10_0 ⟨by omega, by omega⟩) cf_X8_begin (cw_25 cy tE a rw S) rfl wm_X11_206 wi_X8_begin ws_X8_begin dX11_gain_38 rfl (Nat.le_of_ble_eq_true rfl) ⟨by decide, by decide, by decide, by decide⟩) (fun u12204 h12202 => ?_)
    obtain rfl := h12202
    refine z_aload_n b dX11_gain_41 rfl rfl ?_
    refine z_get (q0 := 0) (k9 := 6) (v := .ref (a 25)) b (cw_0 cy tE a rw (su (si (su (su (sv (sa (si (si (si S 24 1) 19 p0) 21 7) 13 (fil 1024 0 (ar (si (si (si S 24 1) 19 p0) 21 7) 13))) 2 0 4128768) 11 0 (-1)) 12 0 (-1)) 25 1) 13 978 1)) rfl in_X11 (by decide) wf_X11_52 rfl dX11_gain_42 ?_
    refine z_callv b (z_runV (q0 := 25) (As := []) (st := []) b (c_X8_finish (su (si (su (su (sv (sa (si (si (si S 24 1) 19 p0) 21 7) 13 (fil 1024 0 (ar (si (si (si S 24 1) 19 p0) 21 7) 13))) 2 0 4128768) 11 0 (-1)) 12 0 (-1)) 25 1) 13 978 1) h_i_26 h_i_23 rfl h_a_10_0 h_i_20) cf_X8_finish (cw_25 cy tE a rw (su (si (su (su (sv (sa (si (si (si S 24 1) 19 p0) 21 7) 13 (fil 1024 0 (ar (si (si (si S 24 1) 19 p0) 21 7) 13))) 2 0 4128768) 11 0 (-1)) 12 0 (-1)) 25 1) 13 978 1)) rfl wm_X11_232 wi_X8_finish ws_X8_finish dX11_gain_45 rfl (Nat.le_of_ble_eq_true rfl) ⟨by decide, by decide, by decide, by decide⟩) (fun u12207 h12205 => ?_)
    obtain rfl := h12205
    refine z_aload_n b dX11_gain_48 rfl rfl ?_
    refine z_get (q0 := 0) (k9 := 6) (v := .ref (a 25)) b (cw_0 cy tE a rw (su (si (su (su (sv (sa (si (si (si S 24 1) 19 p0) 21 7) 13 (fil 1024 0 (ar (si (si (si S 24 1) 19 p0) 21 7) 13))) 2 0 4128768) 11 0 (-1)) 12 0 (-1)) 25 1) 13 978 1)) rfl in_X11 (by decide) wf_X11_52 rfl dX11_gain_49 ?_
    refine z_get (q0 := 25) (k9 := 18) (v := .int (fi (su (si (su (su (sv (sa (si (si (si S 24 1) 19 p0) 21 7) 13 (fil 1024 0 (ar (si (si (si S 24 1) 19 p0) 21 7) 13))) 2 0 4128768) 11 0 (-1)) 12 0 (-1)) 25 1) 13 978 1) 26)) b (cw_25 cy tE a rw (su (si (su (su (sv (sa (si (si (si S 24 1) 19 p0) 21 7) 13 (fil 1024 0 (ar (si (si (si S 24 1) 19 p0) 21 7) 13))) 2 0 4128768) 11 0 (-1)) 12 0 (-1)) 25 1) 13 978 1)) rfl in_X8 (by decide) wf_X11_214 rfl dX11_gain_52 ?_
    refine z_eqi h_i_26 ?_
    refine z_if_eq_t (tgt := 61) b dX11_gain_55 (by decide) (by decide) ?_
    refine z_aload_n b dX11_gain_61 rfl rfl ?_
    refine z_get (q0 := 0) (k9 := 6) (v := .ref (a 25)) b (cw_0 cy tE a rw (su (si (su (su (sv (sa (si (si (si S 24 1) 19 p0) 21 7) 13 (fil 1024 0 (ar (si (si (si S 24 1) 19 p0) 21 7) 13))) 2 0 4128768) 11 0 (-1)) 12 0 (-1)) 25 1) 13 978 1)) rfl in_X11 (by decide) wf_X11_52 rfl dX11_gain_62 ?_
    refine z_iload_n b dX11_gain_65 rfl rfl ?_
    refine z_calli b (z_runV (q0 := 25) (As := [.int 0]) (st := []) b (c_X8_richest (su (si (su (su (sv (sa (si (si (si S 24 1) 19 p0) 21 7) 13 (fil 1024 0 (ar (si (si (si S 24 1) 19 p0) 21 7) 13))) 2 0 4128768) 11 0 (-1)) 12 0 (-1)) 25 1) 13 978 1) rfl rfl h_a_9_50 h_a_9_40 h_a_9_41 h_a_9_42 h_a_9_0 h_a_9_11 h_a_9_21 h_a_9_31 h_a_9_12 h_a_9_22 h_a_9_32 h_a_9_1 h_a_9_13 h_a_9_23 h_a_9_33 h_a_9_15 h_a_9_25 h_a_9_35 h_a_9_2 h_a_9_16 h_a_9_26 h_a_9_36 h_a_9_17 h_a_9_27 h_a_9_37) cf_X8_richest (cw_25 cy tE a rw (su (si (su (su (sv (sa (si (si (si S 24 1) 19 p0) 21 7) 13 (fil 1024 0 (ar (si (si (si S 24 1) 19 p0) 21 7) 13))) 2 0 4128768) 11 0 (-1)) 12 0 (-1)) 25 1) 13 978 1)) rfl wm_X11_238 wi_X8_richest ws_X8_richest dX11_gain_66 rfl (Nat.le_of_ble_eq_true rfl) ⟨by decide, by decide, by decide, by decide⟩) (fun r12209 u12210 h12208 => ?_)
    obtain ⟨rfl, rfl⟩ := h12208
    refine z_istore (lv' := [(5, .int 0), (0, .ref (a 0)), (1, .int 0), (2, .int p0), (3, .int 0), (4, .int p1)]) b dX11_gain_69 (by decide) rfl ?_
    refine z_iload b dX11_gain_71 rfl ?_
    refine y_if_ne (tgt := 87) (xl := p1.toInt) b rfl dX11_gain_73 (by decide) (fun c12211 => ?_) (fun c12211 => ?_)
    · refine z_iload b dX11_gain_87 rfl ?_
      refine z_iconst (v := 1) b dX11_gain_89 (by decide) ?_
      refine y_icmp_ne (tgt := 103) (xl := p1.toInt) (yl := 1) b rfl (by decide) dX11_gain_90 (by decide) (fun c12212 => ?_) (fun c12212 => ?_)
      · refine z_aload_n b dX11_gain_103 rfl rfl ?_
        refine z_get (q0 := 0) (k9 := 6) (v := .ref (a 25)) b (cw_0 cy tE a rw (su (si (su (su (sv (sa (si (si (si S 24 1) 19 p0) 21 7) 13 (fil 1024 0 (ar (si (si (si S 24 1) 19 p0) 21 7) 13))) 2 0 4128768) 11 0 (-1)) 12 0 (-1)) 25 1) 13 978 1)) rfl in_X11 (by decide) wf_X11_52 rfl dX11_gain_104 ?_
        refine z_iload b dX11_gain_107 rfl ?_
        refine z_iload b dX11_gain_109 rfl ?_
        refine z_iconst (v := 2) b dX11_gain_111 (by decide) ?_
        refine z_isub b dX11_gain_112 rfl ?_
        have f12213 : ((p1 - 2) : Int32).toInt = p1.toInt + (-2) := zisub (k := 2) (by decide) (by omega) (by omega)
        refine z_calli b (z_runV (q0 := 25) (As := [.int 0, .int (p1 - 2)]) (st := []) b (c_X8_code_2 (su (si (su (su (sv (sa (si (si (si S 24 1) 19 p0) 21 7) 13 (fil 1024 0 (ar (si (si (si S 24 1) 19 p0) 21 7) 13))) 2 0 4128768) 11 0 (-1)) 12 0 (-1)) 25 1) 13 978 1) (p1 - 2) rfl h_a_10_0 ⟨by omega, by omega⟩) cf_X8_code (cw_25 cy tE a rw (su (si (su (su (sv (sa (si (si (si S 24 1) 19 p0) 21 7) 13 (fil 1024 0 (ar (si (si (si S 24 1) 19 p0) 21 7) 13))) 2 0 4128768) 11 0 (-1)) 12 0 (-1)) 25 1) 13 978 1)) rfl wm_X11_219 wi_X8_code ws_X8_code dX11_gain_113 rfl (Nat.le_of_ble_eq_true rfl) ⟨by decide, by decide, by decide, by decide⟩) (fun r12220 u12221 h12219 => ?_)
        obtain ⟨rfl, rfl⟩ := h12219
        refine z_istore (lv' := [(6, .int (-1)), (5, .int 0), (0, .ref (a 0)), (1, .int 0), (2, .int p0), (3, .int 0), (4, .int p1)]) b dX11_gain_116 (by decide) rfl ?_
        refine z_iload b dX11_gain_118 rfl ?_
        refine z_iconst (v := (-1)) b dX11_gain_120 (by decide) ?_
        refine z_icmp_ne_f (tgt := 129) b dX11_gain_121 (by decide) (by decide) ?_
        refine z_bipush (v := (-100)) b dX11_gain_124 (by decide) ?_
        refine z_goto (tgt := 131) b dX11_gain_126 (by decide) ?_
        exact z_iret (u := (su (si (su (su (sv (sa (si (si (si S 24 1) 19 p0) 21 7) 13 (fil 1024 0 (ar (si (si (si S 24 1) 19 p0) 21 7) 13))) 2 0 4128768) 11 0 (-1)) 12 0 (-1)) 25 1) 13 978 1)) b rfl dX11_gain_131 ⟨rfl, rfl⟩ rfl (by decide) (by decide)
      · exfalso; omega
    · exfalso; omega
  · exfalso; omega

set_option maxHeartbeats 4000000 in
set_option maxRecDepth 100000 in
theorem c_X12_gain_19 {l : Launch} {D : va_G} {cy : Nat → ClassId} {T0 tB tE : Nat} {a : Nat → Nat} (S : GS) (p0 : Int32) (p1 : Int32)  (hr_p0 : 1 ≤ p0.toInt ∧ p0.toInt ≤ 3) (hr_p1 : 8 ≤ p1.toInt ∧ p1.toInt ≤ 2147483647) : Ct l D cy T0 tB tE yX12_gain cX12_gain 9 (some .int) 2 44 0 0 (mw cy a S) [.ref (a 0), .int 0, .int p0, .int 0, .int p1] (QI D (U := GS) (fun r u => (-100) = r ∧ S = u) (mw cy a)) := by
  refine Ct.ofZ RX12 "gain" [(0, .ref (a 0)), (1, .int 0), (2, .int p0), (3, .int 0), (4, .int p1)] rfl rfl rfl rfl (Nat.le_of_ble_eq_true rfl) ?_
  intro p e R s m args below meth c A b
  refine z_iload_n b dX12_gain_0 rfl rfl ?_
  refine z_calli b (z_runS (As := [.int 0]) (st := []) b (c_X12_isOne_3 S ) cf_X12_isOne wm_X12_170 ws_X12_isOne dX12_gain_1 rfl (Nat.le_of_ble_eq_true rfl) ⟨by decide, by decide, by decide, by decide⟩) (fun r12223 u12224 h12222 => ?_)
  obtain ⟨rfl, rfl⟩ := h12222
  refine z_if_eq_f (tgt := 27) b dX12_gain_4 (by decide) (by decide) ?_
  refine z_aload_n b dX12_gain_7 rfl rfl ?_
  refine z_iload_n b dX12_gain_8 rfl rfl ?_
  refine z_iload_n b dX12_gain_9 rfl rfl ?_
  refine z_calli b (z_runV (q0 := 0) (As := [.int p0, .int 0]) (st := []) b (c_X12_canSearch_4 S p0 ⟨by omega, by omega⟩) cf_X12_canSearch (mw_0 cy a S) rfl wm_X12_433 wi_X12_canSearch ws_X12_canSearch dX12_gain_10 rfl (Nat.le_of_ble_eq_true rfl) ⟨by decide, by decide, by decide, by decide⟩) (fun r12226 u12227 h12225 => ?_)
  obtain ⟨rfl, rfl⟩ := h12225
  refine z_if_eq_f (tgt := 27) b dX12_gain_13 (by decide) (by decide) ?_
  refine z_iload b dX12_gain_16 rfl ?_
  refine z_iconst (v := 0) b dX12_gain_18 (by decide) ?_
  refine z_bipush (v := 7) b dX12_gain_19 (by decide) ?_
  refine z_calli b (z_runS (As := [.int p1, .int 0, .int 7]) (st := []) b (c_X12_isIn_14 S p1 ⟨by omega, by omega⟩) cf_X12_isIn wm_X12_1 ws_X12_isIn dX12_gain_21 rfl (Nat.le_of_ble_eq_true rfl) ⟨by decide, by decide, by decide, by decide⟩) (fun r12229 u12230 h12228 => ?_)
  obtain ⟨rfl, rfl⟩ := h12228
  refine z_if_ne_f (tgt := 30) b dX12_gain_24 (by decide) (by decide) ?_
  refine z_bipush (v := (-100)) b dX12_gain_27 (by decide) ?_
  exact z_iret (u := S) b rfl dX12_gain_29 ⟨rfl, rfl⟩ rfl (by decide) (by decide)

set_option maxHeartbeats 4000000 in
set_option maxRecDepth 100000 in
theorem c_X11_gain_20 {l : Launch} {D : va_G} {cy : Nat → ClassId} {T0 tB tE : Nat} {a : Nat → Nat} {rw : Nat → Option Nat} (S : GS) (p0 : Int32) (p1 : Int32) (p2 : Int32)  (hr_p0 : 1 ≤ p0.toInt ∧ p0.toInt ≤ 3) (hr_p1 : 1 ≤ p1.toInt ∧ p1.toInt ≤ 6) (hr_p2 : (-2147483648) ≤ p2.toInt ∧ p2.toInt ≤ (-1)) : Ct l D cy T0 tB tE yX11_gain cX11_gain 7 (some .int) 1 20 0 0 (cw cy tE a rw S) [.ref (a 0), .int 0, .int p0, .int p1, .int p2] (QI D (U := GS) (fun r u => (-100) = r ∧ S = u) (cw cy tE a rw)) := by
  refine Ct.ofZ RX11 "gain" [(0, .ref (a 0)), (1, .int 0), (2, .int p0), (3, .int p1), (4, .int p2)] rfl rfl rfl rfl (Nat.le_of_ble_eq_true rfl) ?_
  intro p e R s m args below meth c A b
  refine z_iload_n b dX11_gain_0 rfl rfl ?_
  refine z_calli b (z_runS (As := [.int 0]) (st := []) b (c_X11_isPerson_3 S ) cf_X11_isPerson wm_X11_69 ws_X11_isPerson dX11_gain_1 rfl (Nat.le_of_ble_eq_true rfl) ⟨by decide, by decide, by decide, by decide⟩) (fun r12232 u12233 h12231 => ?_)
  obtain ⟨rfl, rfl⟩ := h12231
  refine z_if_eq_f (tgt := 26) b dX11_gain_4 (by decide) (by decide) ?_
  refine z_iload_n b dX11_gain_7 rfl rfl ?_
  refine z_calli b (z_runS (As := [.int p0]) (st := []) b (c_X11_areLaws_3 S p0 ⟨by omega, by omega⟩) cf_X11_areLaws wm_X11_181 ws_X11_areLaws dX11_gain_8 rfl (Nat.le_of_ble_eq_true rfl) ⟨by decide, by decide, by decide, by decide⟩) (fun r12235 u12236 h12234 => ?_)
  obtain ⟨rfl, rfl⟩ := h12234
  refine z_if_eq_f (tgt := 26) b dX11_gain_11 (by decide) (by decide) ?_
  refine z_iload_n b dX11_gain_14 rfl rfl ?_
  refine z_calli b (z_runS (As := [.int p1]) (st := []) b (c_X11_isDepth_3 S p1 ⟨by omega, by omega⟩) cf_X11_isDepth wm_X11_203 ws_X11_isDepth dX11_gain_15 rfl (Nat.le_of_ble_eq_true rfl) ⟨by decide, by decide, by decide, by decide⟩) (fun r12238 u12239 h12237 => ?_)
  obtain ⟨rfl, rfl⟩ := h12237
  refine z_if_eq_f (tgt := 26) b dX11_gain_18 (by decide) (by decide) ?_
  refine z_iload b dX11_gain_21 rfl ?_
  refine y_if_ge (tgt := 29) (xl := p2.toInt) b rfl dX11_gain_23 (by decide) (fun c12240 => ?_) (fun c12240 => ?_)
  · exfalso; omega
  · refine z_bipush (v := (-100)) b dX11_gain_26 (by decide) ?_
    exact z_iret (u := S) b rfl dX11_gain_28 ⟨rfl, rfl⟩ rfl (by decide) (by decide)

set_option maxHeartbeats 4000000 in
set_option maxRecDepth 100000 in
theorem c_X12_gain_20 {l : Launch} {D : va_G} {cy : Nat → ClassId} {T0 tB tE : Nat} {a : Nat → Nat} (S : GS) (p0 : Int32) (p1 : Int32) (p2 : Int32)  (hr_p0 : 1 ≤ p0.toInt ∧ p0.toInt ≤ 3) (hr_p1 : 1 ≤ p1.toInt ∧ p1.toInt ≤ 6) (hr_p2 : (-2147483648) ≤ p2.toInt ∧ p2.toInt ≤ (-1)) : Ct l D cy T0 tB tE yX12_gain cX12_gain 9 (some .int) 2 44 0 0 (mw cy a S) [.ref (a 0), .int 0, .int p0, .int p1, .int p2] (QI D (U := GS) (fun r u => (-100) = r ∧ S = u) (mw cy a)) := by
  refine Ct.ofZ RX12 "gain" [(0, .ref (a 0)), (1, .int 0), (2, .int p0), (3, .int p1), (4, .int p2)] rfl rfl rfl rfl (Nat.le_of_ble_eq_true rfl) ?_
  intro p e R s m args below meth c A b
  refine z_iload_n b dX12_gain_0 rfl rfl ?_
  refine z_calli b (z_runS (As := [.int 0]) (st := []) b (c_X12_isOne_3 S ) cf_X12_isOne wm_X12_170 ws_X12_isOne dX12_gain_1 rfl (Nat.le_of_ble_eq_true rfl) ⟨by decide, by decide, by decide, by decide⟩) (fun r12242 u12243 h12241 => ?_)
  obtain ⟨rfl, rfl⟩ := h12241
  refine z_if_eq_f (tgt := 27) b dX12_gain_4 (by decide) (by decide) ?_
  refine z_aload_n b dX12_gain_7 rfl rfl ?_
  refine z_iload_n b dX12_gain_8 rfl rfl ?_
  refine z_iload_n b dX12_gain_9 rfl rfl ?_
  refine z_calli b (z_runV (q0 := 0) (As := [.int p0, .int p1]) (st := []) b (c_X12_canSearch_5 S p0 p1 ⟨by omega, by omega⟩ ⟨by omega, by omega⟩) cf_X12_canSearch (mw_0 cy a S) rfl wm_X12_433 wi_X12_canSearch ws_X12_canSearch dX12_gain_10 rfl (Nat.le_of_ble_eq_true rfl) ⟨by decide, by decide, by decide, by decide⟩) (fun r12245 u12246 h12244 => ?_)
  obtain ⟨rfl, rfl⟩ := h12244
  refine z_if_eq_f (tgt := 27) b dX12_gain_13 (by decide) (by decide) ?_
  refine z_iload b dX12_gain_16 rfl ?_
  refine z_iconst (v := 0) b dX12_gain_18 (by decide) ?_
  refine z_bipush (v := 7) b dX12_gain_19 (by decide) ?_
  refine z_calli b (z_runS (As := [.int p2, .int 0, .int 7]) (st := []) b (c_X12_isIn_12 S p2 ⟨by omega, by omega⟩) cf_X12_isIn wm_X12_1 ws_X12_isIn dX12_gain_21 rfl (Nat.le_of_ble_eq_true rfl) ⟨by decide, by decide, by decide, by decide⟩) (fun r12248 u12249 h12247 => ?_)
  obtain ⟨rfl, rfl⟩ := h12247
  refine z_if_ne_f (tgt := 30) b dX12_gain_24 (by decide) (by decide) ?_
  refine z_bipush (v := (-100)) b dX12_gain_27 (by decide) ?_
  exact z_iret (u := S) b rfl dX12_gain_29 ⟨rfl, rfl⟩ rfl (by decide) (by decide)

set_option maxHeartbeats 4000000 in
set_option maxRecDepth 100000 in
theorem c_X11_gain_21 {l : Launch} {D : va_G} {cy : Nat → ClassId} {T0 tB tE : Nat} {a : Nat → Nat} {rw : Nat → Option Nat} (S : GS) (p0 : Int32) (p1 : Int32) (h_i_19 : fi S 19 = 0) (h_i_24 : fi S 24 = 0) (h_i_22 : fi S 22 = 0) (h_i_18 : fi S 18 = 0) (h_i_25 : fi S 25 = 0) (h_i_23 : fi S 23 = 0) (h_i_26 : fi S 26 = 0) (h_a_4_50 : ar S 4 50 = 0) (h_a_4_40 : ar S 4 40 = 3) (h_a_4_41 : ar S 4 41 = 3) (h_a_4_42 : ar S 4 42 = 3) (h_a_4_0 : ar S 4 0 = 0) (h_a_4_11 : ar S 4 11 = 0) (h_a_4_21 : ar S 4 21 = 0) (h_a_4_31 : ar S 4 31 = 0) (h_a_4_12 : ar S 4 12 = 0) (h_a_4_22 : ar S 4 22 = 0) (h_a_4_32 : ar S 4 32 = 0) (h_a_4_1 : ar S 4 1 = 0) (h_a_4_13 : ar S 4 13 = 0) (h_a_4_23 : ar S 4 23 = 0) (h_a_4_33 : ar S 4 33 = 0) (h_a_4_15 : ar S 4 15 = 0) (h_a_4_25 : ar S 4 25 = 0) (h_a_4_35 : ar S 4 35 = 0) (h_a_4_2 : ar S 4 2 = 0) (h_a_4_16 : ar S 4 16 = 0) (h_a_4_26 : ar S 4 26 = 0) (h_a_4_36 : ar S 4 36 = 0) (h_a_4_17 : ar S 4 17 = 0) (h_a_4_27 : ar S 4 27 = 0) (h_a_4_37 : ar S 4 37 = 0) (h_a_10_0 : ar S 10 0 = 0) (h_a_9_50 : ar S 9 50 = 0) (h_a_9_40 : ar S 9 40 = 3) (h_a_9_41 : ar S 9 41 = 3) (h_a_9_42 : ar S 9 42 = 3) (h_a_9_0 : ar S 9 0 = 0) (h_a_9_11 : ar S 9 11 = 0) (h_a_9_21 : ar S 9 21 = 0) (h_a_9_31 : ar S 9 31 = 0) (h_a_9_12 : ar S 9 12 = 0) (h_a_9_22 : ar S 9 22 = 0) (h_a_9_32 : ar S 9 32 = 0) (h_a_9_1 : ar S 9 1 = 0) (h_a_9_13 : ar S 9 13 = 0) (h_a_9_23 : ar S 9 23 = 0) (h_a_9_33 : ar S 9 33 = 0) (h_a_9_15 : ar S 9 15 = 0) (h_a_9_25 : ar S 9 25 = 0) (h_a_9_35 : ar S 9 35 = 0) (h_a_9_2 : ar S 9 2 = 0) (h_a_9_16 : ar S 9 16 = 0) (h_a_9_26 : ar S 9 26 = 0) (h_a_9_36 : ar S 9 36 = 0) (h_a_9_17 : ar S 9 17 = 0) (h_a_9_27 : ar S 9 27 = 0) (h_a_9_37 : ar S 9 37 = 0) (hr_p0 : 1 ≤ p0.toInt ∧ p0.toInt ≤ 3) (hr_p1 : 1 ≤ p1.toInt ∧ p1.toInt ≤ 6) : Ct l D cy T0 tB tE yX11_gain cX11_gain 7 (some .int) 5 117 0 0 (cw cy tE a rw S) [.ref (a 0), .int 0, .int p0, .int p1, .int 0] (QI D (U := GS) (fun r u => (((((0 < ((fi (su (si (su (su (sv (sa (si (si (si (si S 24 1) 19 p0) 20 p1) 21 7) 13 (fil 1024 0 (ar (si (si (si (si S 24 1) 19 p0) 20 p1) 21 7) 13))) 2 0 4128768) 11 0 (-1)) 12 0 (-1)) 25 1) 13 978 1) 20) : Int32).toInt)))) ∧ 0 = r ∧ (si (su (si (su (su (sv (sa (si (si (si (si S 24 1) 19 p0) 20 p1) 21 7) 13 (fil 1024 0 (ar (si (si (si (si S 24 1) 19 p0) 20 p1) 21 7) 13))) 2 0 4128768) 11 0 (-1)) 12 0 (-1)) 25 1) 13 978 1) 23 1) = u) ∨ (((((((fi (su (si (su (su (sv (sa (si (si (si (si S 24 1) 19 p0) 20 p1) 21 7) 13 (fil 1024 0 (ar (si (si (si (si S 24 1) 19 p0) 20 p1) 21 7) 13))) 2 0 4128768) 11 0 (-1)) 12 0 (-1)) 25 1) 13 978 1) 20) : Int32).toInt ≤ 0)))) ∧ 0 = r ∧ (su (si (su (su (sv (sa (si (si (si (si S 24 1) 19 p0) 20 p1) 21 7) 13 (fil 1024 0 (ar (si (si (si (si S 24 1) 19 p0) 20 p1) 21 7) 13))) 2 0 4128768) 11 0 (-1)) 12 0 (-1)) 25 1) 13 978 1) = u)) (cw cy tE a rw)) := by
  refine Ct.ofZ RX11 "gain" [(0, .ref (a 0)), (1, .int 0), (2, .int p0), (3, .int p1), (4, .int 0)] rfl rfl rfl rfl (Nat.le_of_ble_eq_true rfl) ?_
  intro p e R s m args below meth c A b
  refine z_iload_n b dX11_gain_0 rfl rfl ?_
  refine z_calli b (z_runS (As := [.int 0]) (st := []) b (c_X11_isPerson_3 S ) cf_X11_isPerson wm_X11_69 ws_X11_isPerson dX11_gain_1 rfl (Nat.le_of_ble_eq_true rfl) ⟨by decide, by decide, by decide, by decide⟩) (fun r12251 u12252 h12250 => ?_)
  obtain ⟨rfl, rfl⟩ := h12250
  refine z_if_eq_f (tgt := 26) b dX11_gain_4 (by decide) (by decide) ?_
  refine z_iload_n b dX11_gain_7 rfl rfl ?_
  refine z_calli b (z_runS (As := [.int p0]) (st := []) b (c_X11_areLaws_3 S p0 ⟨by omega, by omega⟩) cf_X11_areLaws wm_X11_181 ws_X11_areLaws dX11_gain_8 rfl (Nat.le_of_ble_eq_true rfl) ⟨by decide, by decide, by decide, by decide⟩) (fun r12254 u12255 h12253 => ?_)
  obtain ⟨rfl, rfl⟩ := h12253
  refine z_if_eq_f (tgt := 26) b dX11_gain_11 (by decide) (by decide) ?_
  refine z_iload_n b dX11_gain_14 rfl rfl ?_
  refine z_calli b (z_runS (As := [.int p1]) (st := []) b (c_X11_isDepth_3 S p1 ⟨by omega, by omega⟩) cf_X11_isDepth wm_X11_203 ws_X11_isDepth dX11_gain_15 rfl (Nat.le_of_ble_eq_true rfl) ⟨by decide, by decide, by decide, by decide⟩) (fun r12257 u12258 h12256 => ?_)
  obtain ⟨rfl, rfl⟩ := h12256
  refine z_if_eq_f (tgt := 26) b dX11_gain_18 (by decide) (by decide) ?_
  refine z_iload b dX11_gain_21 rfl ?_
  refine z_if_ge_t (tgt := 29) b dX11_gain_23 (by decide) (by decide) ?_
  refine z_aload_n b dX11_gain_29 rfl rfl ?_
  refine z_get (q0 := 0) (k9 := 6) (v := .ref (a 25)) b (cw_0 cy tE a rw S) rfl in_X11 (by decide) wf_X11_52 rfl dX11_gain_30 ?_
  refine z_iload_n b dX11_gain_33 rfl rfl ?_
  refine z_iload_n b dX11_gain_34 rfl rfl ?_
  refine z_bipush (v := 7) b dX11_gain_35 (by decide) ?_
  refine z_iconst (v := 0) b dX11_gain_37 (by decide) ?_
  refine z_callv b (z_runV (q0 := 25) (As := [.int p0, .int p1, .int 7, .int 0]) (st := []) b (c_X8_begin_2 S p0 p1 h_i_19 h_i_24 h_i_22 h_i_18 h_i_25 h_i_23 h_i_26 h_a_4_50 h_a_4_40 h_a_4_41 h_a_4_42 h_a_4_0 h_a_4_11 h_a_4_21 h_a_4_31 h_a_4_12 h_a_4_22 h_a_4_32 h_a_4_1 h_a_4_13 h_a_4_23 h_a_4_33 h_a_4_15 h_a_4_25 h_a_4_35 h_a_4_2 h_a_4_16 h_a_4_26 h_a_4_36 h_a_4_17 h_a_4_27 h_a_4_37 h_a_10_0 ⟨by omega, by omega⟩ ⟨by omega, by omega⟩) cf_X8_begin (cw_25 cy tE a rw S) rfl wm_X11_206 wi_X8_begin ws_X8_begin dX11_gain_38 rfl (Nat.le_of_ble_eq_true rfl) ⟨by decide, by decide, by decide, by decide⟩) (fun u12261 h12259 => ?_)
  obtain rfl := h12259
  refine z_aload_n b dX11_gain_41 rfl rfl ?_
  refine z_get (q0 := 0) (k9 := 6) (v := .ref (a 25)) b (cw_0 cy tE a rw (su (si (su (su (sv (sa (si (si (si (si S 24 1) 19 p0) 20 p1) 21 7) 13 (fil 1024 0 (ar (si (si (si (si S 24 1) 19 p0) 20 p1) 21 7) 13))) 2 0 4128768) 11 0 (-1)) 12 0 (-1)) 25 1) 13 978 1)) rfl in_X11 (by decide) wf_X11_52 rfl dX11_gain_42 ?_
  refine z_callv b (z_runV (q0 := 25) (As := []) (st := []) b (c_X8_finish_2 (su (si (su (su (sv (sa (si (si (si (si S 24 1) 19 p0) 20 p1) 21 7) 13 (fil 1024 0 (ar (si (si (si (si S 24 1) 19 p0) 20 p1) 21 7) 13))) 2 0 4128768) 11 0 (-1)) 12 0 (-1)) 25 1) 13 978 1) h_i_26 h_i_23 rfl h_a_10_0 rfl h_a_9_50 h_a_9_40 h_a_9_41 h_a_9_42 h_a_9_0 h_a_9_11 h_a_9_21 h_a_9_31 h_a_9_12 h_a_9_22 h_a_9_32 h_a_9_1 h_a_9_13 h_a_9_23 h_a_9_33 h_a_9_15 h_a_9_25 h_a_9_35 h_a_9_2 h_a_9_16 h_a_9_26 h_a_9_36 h_a_9_17 h_a_9_27 h_a_9_37 h_i_18) cf_X8_finish (cw_25 cy tE a rw (su (si (su (su (sv (sa (si (si (si (si S 24 1) 19 p0) 20 p1) 21 7) 13 (fil 1024 0 (ar (si (si (si (si S 24 1) 19 p0) 20 p1) 21 7) 13))) 2 0 4128768) 11 0 (-1)) 12 0 (-1)) 25 1) 13 978 1)) rfl wm_X11_232 wi_X8_finish ws_X8_finish dX11_gain_45 rfl (Nat.le_of_ble_eq_true rfl) ⟨by decide, by decide, by decide, by decide⟩) (fun u12264 h12262 => ?_)
  rcases h12262 with ⟨c12265, rfl⟩ | ⟨c12266, rfl⟩
  · refine z_aload_n b dX11_gain_48 rfl rfl ?_
    refine z_get (q0 := 0) (k9 := 6) (v := .ref (a 25)) b (cw_0 cy tE a rw (si (su (si (su (su (sv (sa (si (si (si (si S 24 1) 19 p0) 20 p1) 21 7) 13 (fil 1024 0 (ar (si (si (si (si S 24 1) 19 p0) 20 p1) 21 7) 13))) 2 0 4128768) 11 0 (-1)) 12 0 (-1)) 25 1) 13 978 1) 23 1)) rfl in_X11 (by decide) wf_X11_52 rfl dX11_gain_49 ?_
    refine z_get (q0 := 25) (k9 := 18) (v := .int (fi (si (su (si (su (su (sv (sa (si (si (si (si S 24 1) 19 p0) 20 p1) 21 7) 13 (fil 1024 0 (ar (si (si (si (si S 24 1) 19 p0) 20 p1) 21 7) 13))) 2 0 4128768) 11 0 (-1)) 12 0 (-1)) 25 1) 13 978 1) 23 1) 26)) b (cw_25 cy tE a rw (si (su (si (su (su (sv (sa (si (si (si (si S 24 1) 19 p0) 20 p1) 21 7) 13 (fil 1024 0 (ar (si (si (si (si S 24 1) 19 p0) 20 p1) 21 7) 13))) 2 0 4128768) 11 0 (-1)) 12 0 (-1)) 25 1) 13 978 1) 23 1)) rfl in_X8 (by decide) wf_X11_214 rfl dX11_gain_52 ?_
    refine z_eqi h_i_26 ?_
    refine z_if_eq_t (tgt := 61) b dX11_gain_55 (by decide) (by decide) ?_
    refine z_aload_n b dX11_gain_61 rfl rfl ?_
    refine z_get (q0 := 0) (k9 := 6) (v := .ref (a 25)) b (cw_0 cy tE a rw (si (su (si (su (su (sv (sa (si (si (si (si S 24 1) 19 p0) 20 p1) 21 7) 13 (fil 1024 0 (ar (si (si (si (si S 24 1) 19 p0) 20 p1) 21 7) 13))) 2 0 4128768) 11 0 (-1)) 12 0 (-1)) 25 1) 13 978 1) 23 1)) rfl in_X11 (by decide) wf_X11_52 rfl dX11_gain_62 ?_
    refine z_iload_n b dX11_gain_65 rfl rfl ?_
    refine z_calli b (z_runV (q0 := 25) (As := [.int 0]) (st := []) b (c_X8_richest (si (su (si (su (su (sv (sa (si (si (si (si S 24 1) 19 p0) 20 p1) 21 7) 13 (fil 1024 0 (ar (si (si (si (si S 24 1) 19 p0) 20 p1) 21 7) 13))) 2 0 4128768) 11 0 (-1)) 12 0 (-1)) 25 1) 13 978 1) 23 1) rfl rfl h_a_9_50 h_a_9_40 h_a_9_41 h_a_9_42 h_a_9_0 h_a_9_11 h_a_9_21 h_a_9_31 h_a_9_12 h_a_9_22 h_a_9_32 h_a_9_1 h_a_9_13 h_a_9_23 h_a_9_33 h_a_9_15 h_a_9_25 h_a_9_35 h_a_9_2 h_a_9_16 h_a_9_26 h_a_9_36 h_a_9_17 h_a_9_27 h_a_9_37) cf_X8_richest (cw_25 cy tE a rw (si (su (si (su (su (sv (sa (si (si (si (si S 24 1) 19 p0) 20 p1) 21 7) 13 (fil 1024 0 (ar (si (si (si (si S 24 1) 19 p0) 20 p1) 21 7) 13))) 2 0 4128768) 11 0 (-1)) 12 0 (-1)) 25 1) 13 978 1) 23 1)) rfl wm_X11_238 wi_X8_richest ws_X8_richest dX11_gain_66 rfl (Nat.le_of_ble_eq_true rfl) ⟨by decide, by decide, by decide, by decide⟩) (fun r12268 u12269 h12267 => ?_)
    obtain ⟨rfl, rfl⟩ := h12267
    refine z_istore (lv' := [(5, .int 0), (0, .ref (a 0)), (1, .int 0), (2, .int p0), (3, .int p1), (4, .int 0)]) b dX11_gain_69 (by decide) rfl ?_
    refine z_iload b dX11_gain_71 rfl ?_
    refine z_if_ne_f (tgt := 87) b dX11_gain_73 (by decide) (by decide) ?_
    refine z_aload_n b dX11_gain_76 rfl rfl ?_
    refine z_get (q0 := 0) (k9 := 6) (v := .ref (a 25)) b (cw_0 cy tE a rw (si (su (si (su (su (sv (sa (si (si (si (si S 24 1) 19 p0) 20 p1) 21 7) 13 (fil 1024 0 (ar (si (si (si (si S 24 1) 19 p0) 20 p1) 21 7) 13))) 2 0 4128768) 11 0 (-1)) 12 0 (-1)) 25 1) 13 978 1) 23 1)) rfl in_X11 (by decide) wf_X11_52 rfl dX11_gain_77 ?_
    refine z_iload b dX11_gain_80 rfl ?_
    refine z_iload_n b dX11_gain_82 rfl rfl ?_
    refine z_calli b (z_runV (q0 := 25) (As := [.int 0, .int 0]) (st := []) b (c_X8_wealth (si (su (si (su (su (sv (sa (si (si (si (si S 24 1) 19 p0) 20 p1) 21 7) 13 (fil 1024 0 (ar (si (si (si (si S 24 1) 19 p0) 20 p1) 21 7) 13))) 2 0 4128768) 11 0 (-1)) 12 0 (-1)) 25 1) 13 978 1) 23 1) rfl rfl h_a_9_50 h_a_9_40 h_a_9_41 h_a_9_42 h_a_9_0 h_a_9_11 h_a_9_21 h_a_9_31 h_a_9_12 h_a_9_22 h_a_9_32 h_a_9_1 h_a_9_13 h_a_9_23 h_a_9_33 h_a_9_15 h_a_9_25 h_a_9_35 h_a_9_2 h_a_9_16 h_a_9_26 h_a_9_36 h_a_9_17 h_a_9_27 h_a_9_37) cf_X8_wealth (cw_25 cy tE a rw (si (su (si (su (su (sv (sa (si (si (si (si S 24 1) 19 p0) 20 p1) 21 7) 13 (fil 1024 0 (ar (si (si (si (si S 24 1) 19 p0) 20 p1) 21 7) 13))) 2 0 4128768) 11 0 (-1)) 12 0 (-1)) 25 1) 13 978 1) 23 1)) rfl wm_X11_241 wi_X8_wealth ws_X8_wealth dX11_gain_83 rfl (Nat.le_of_ble_eq_true rfl) ⟨by decide, by decide, by decide, by decide⟩) (fun r12271 u12272 h12270 => ?_)
    obtain ⟨rfl, rfl⟩ := h12270
    exact z_iret (u := (si (su (si (su (su (sv (sa (si (si (si (si S 24 1) 19 p0) 20 p1) 21 7) 13 (fil 1024 0 (ar (si (si (si (si S 24 1) 19 p0) 20 p1) 21 7) 13))) 2 0 4128768) 11 0 (-1)) 12 0 (-1)) 25 1) 13 978 1) 23 1)) b rfl dX11_gain_86 (Or.inl ⟨c12265, rfl, rfl⟩) rfl (by decide) (by decide)
  · refine z_aload_n b dX11_gain_48 rfl rfl ?_
    refine z_get (q0 := 0) (k9 := 6) (v := .ref (a 25)) b (cw_0 cy tE a rw (su (si (su (su (sv (sa (si (si (si (si S 24 1) 19 p0) 20 p1) 21 7) 13 (fil 1024 0 (ar (si (si (si (si S 24 1) 19 p0) 20 p1) 21 7) 13))) 2 0 4128768) 11 0 (-1)) 12 0 (-1)) 25 1) 13 978 1)) rfl in_X11 (by decide) wf_X11_52 rfl dX11_gain_49 ?_
    refine z_get (q0 := 25) (k9 := 18) (v := .int (fi (su (si (su (su (sv (sa (si (si (si (si S 24 1) 19 p0) 20 p1) 21 7) 13 (fil 1024 0 (ar (si (si (si (si S 24 1) 19 p0) 20 p1) 21 7) 13))) 2 0 4128768) 11 0 (-1)) 12 0 (-1)) 25 1) 13 978 1) 26)) b (cw_25 cy tE a rw (su (si (su (su (sv (sa (si (si (si (si S 24 1) 19 p0) 20 p1) 21 7) 13 (fil 1024 0 (ar (si (si (si (si S 24 1) 19 p0) 20 p1) 21 7) 13))) 2 0 4128768) 11 0 (-1)) 12 0 (-1)) 25 1) 13 978 1)) rfl in_X8 (by decide) wf_X11_214 rfl dX11_gain_52 ?_
    refine z_eqi h_i_26 ?_
    refine z_if_eq_t (tgt := 61) b dX11_gain_55 (by decide) (by decide) ?_
    refine z_aload_n b dX11_gain_61 rfl rfl ?_
    refine z_get (q0 := 0) (k9 := 6) (v := .ref (a 25)) b (cw_0 cy tE a rw (su (si (su (su (sv (sa (si (si (si (si S 24 1) 19 p0) 20 p1) 21 7) 13 (fil 1024 0 (ar (si (si (si (si S 24 1) 19 p0) 20 p1) 21 7) 13))) 2 0 4128768) 11 0 (-1)) 12 0 (-1)) 25 1) 13 978 1)) rfl in_X11 (by decide) wf_X11_52 rfl dX11_gain_62 ?_
    refine z_iload_n b dX11_gain_65 rfl rfl ?_
    refine z_calli b (z_runV (q0 := 25) (As := [.int 0]) (st := []) b (c_X8_richest (su (si (su (su (sv (sa (si (si (si (si S 24 1) 19 p0) 20 p1) 21 7) 13 (fil 1024 0 (ar (si (si (si (si S 24 1) 19 p0) 20 p1) 21 7) 13))) 2 0 4128768) 11 0 (-1)) 12 0 (-1)) 25 1) 13 978 1) rfl rfl h_a_9_50 h_a_9_40 h_a_9_41 h_a_9_42 h_a_9_0 h_a_9_11 h_a_9_21 h_a_9_31 h_a_9_12 h_a_9_22 h_a_9_32 h_a_9_1 h_a_9_13 h_a_9_23 h_a_9_33 h_a_9_15 h_a_9_25 h_a_9_35 h_a_9_2 h_a_9_16 h_a_9_26 h_a_9_36 h_a_9_17 h_a_9_27 h_a_9_37) cf_X8_richest (cw_25 cy tE a rw (su (si (su (su (sv (sa (si (si (si (si S 24 1) 19 p0) 20 p1) 21 7) 13 (fil 1024 0 (ar (si (si (si (si S 24 1) 19 p0) 20 p1) 21 7) 13))) 2 0 4128768) 11 0 (-1)) 12 0 (-1)) 25 1) 13 978 1)) rfl wm_X11_238 wi_X8_richest ws_X8_richest dX11_gain_66 rfl (Nat.le_of_ble_eq_true rfl) ⟨by decide, by decide, by decide, by decide⟩) (fun r12274 u12275 h12273 => ?_)
    obtain ⟨rfl, rfl⟩ := h12273
    refine z_istore (lv' := [(5, .int 0), (0, .ref (a 0)), (1, .int 0), (2, .int p0), (3, .int p1), (4, .int 0)]) b dX11_gain_69 (by decide) rfl ?_
    refine z_iload b dX11_gain_71 rfl ?_
    refine z_if_ne_f (tgt := 87) b dX11_gain_73 (by decide) (by decide) ?_
    refine z_aload_n b dX11_gain_76 rfl rfl ?_
    refine z_get (q0 := 0) (k9 := 6) (v := .ref (a 25)) b (cw_0 cy tE a rw (su (si (su (su (sv (sa (si (si (si (si S 24 1) 19 p0) 20 p1) 21 7) 13 (fil 1024 0 (ar (si (si (si (si S 24 1) 19 p0) 20 p1) 21 7) 13))) 2 0 4128768) 11 0 (-1)) 12 0 (-1)) 25 1) 13 978 1)) rfl in_X11 (by decide) wf_X11_52 rfl dX11_gain_77 ?_
    refine z_iload b dX11_gain_80 rfl ?_
    refine z_iload_n b dX11_gain_82 rfl rfl ?_
    refine z_calli b (z_runV (q0 := 25) (As := [.int 0, .int 0]) (st := []) b (c_X8_wealth (su (si (su (su (sv (sa (si (si (si (si S 24 1) 19 p0) 20 p1) 21 7) 13 (fil 1024 0 (ar (si (si (si (si S 24 1) 19 p0) 20 p1) 21 7) 13))) 2 0 4128768) 11 0 (-1)) 12 0 (-1)) 25 1) 13 978 1) rfl rfl h_a_9_50 h_a_9_40 h_a_9_41 h_a_9_42 h_a_9_0 h_a_9_11 h_a_9_21 h_a_9_31 h_a_9_12 h_a_9_22 h_a_9_32 h_a_9_1 h_a_9_13 h_a_9_23 h_a_9_33 h_a_9_15 h_a_9_25 h_a_9_35 h_a_9_2 h_a_9_16 h_a_9_26 h_a_9_36 h_a_9_17 h_a_9_27 h_a_9_37) cf_X8_wealth (cw_25 cy tE a rw (su (si (su (su (sv (sa (si (si (si (si S 24 1) 19 p0) 20 p1) 21 7) 13 (fil 1024 0 (ar (si (si (si (si S 24 1) 19 p0) 20 p1) 21 7) 13))) 2 0 4128768) 11 0 (-1)) 12 0 (-1)) 25 1) 13 978 1)) rfl wm_X11_241 wi_X8_wealth ws_X8_wealth dX11_gain_83 rfl (Nat.le_of_ble_eq_true rfl) ⟨by decide, by decide, by decide, by decide⟩) (fun r12277 u12278 h12276 => ?_)
    obtain ⟨rfl, rfl⟩ := h12276
    exact z_iret (u := (su (si (su (su (sv (sa (si (si (si (si S 24 1) 19 p0) 20 p1) 21 7) 13 (fil 1024 0 (ar (si (si (si (si S 24 1) 19 p0) 20 p1) 21 7) 13))) 2 0 4128768) 11 0 (-1)) 12 0 (-1)) 25 1) 13 978 1)) b rfl dX11_gain_86 (Or.inr ⟨c12266, rfl, rfl⟩) rfl (by decide) (by decide)

set_option maxHeartbeats 4000000 in
set_option maxRecDepth 100000 in
theorem c_X12_gain_21 {l : Launch} {D : va_G} {cy : Nat → ClassId} {T0 tB tE : Nat} {a : Nat → Nat} (S : GS) (p0 : Int32) (p1 : Int32) (h_i_21 : fi S 21 = 0) (h_i_23 : fi S 23 = 0) (h_l_0 : fl S 0 = 1649317774848) (h_a_29_992 : ar S 29 992 = (-1)) (h_a_28_0 : ar S 28 0 = 0) (h_a_7_0 : ar S 7 0 = 0) (h_a_7_1 : ar S 7 1 = 0) (h_a_4_7 : ar S 4 7 = 0) (h_a_1_7 : ar S 1 7 = 0) (h_a_4_6 : ar S 4 6 = 0) (h_a_1_6 : ar S 1 6 = 0) (h_a_3_6 : ar S 3 6 = 0) (h_a_3_2 : ar S 3 2 = 0) (h_a_2_2 : ar S 2 2 = 3) (h_a_0_2 : ar S 0 2 = 0) (h_a_4_3 : ar S 4 3 = 0) (h_a_1_3 : ar S 1 3 = 0) (h_a_4_5 : ar S 4 5 = 0) (h_a_1_5 : ar S 1 5 = 0) (h_a_3_5 : ar S 3 5 = 0) (h_a_3_7 : ar S 3 7 = 0) (h_a_2_1 : ar S 2 1 = 3) (h_a_0_1 : ar S 0 1 = 0) (h_a_4_2 : ar S 4 2 = 0) (h_a_1_2 : ar S 1 2 = 0) (h_a_4_1 : ar S 4 1 = 0) (h_a_1_1 : ar S 1 1 = 0) (h_a_3_1 : ar S 3 1 = 0) (h_a_3_3 : ar S 3 3 = 0) (h_a_2_0 : ar S 2 0 = 3) (h_a_0_0 : ar S 0 0 = 0) (h_i_0 : fi S 0 = 0) (hr_p0 : 1 ≤ p0.toInt ∧ p0.toInt ≤ 3) (hr_p1 : 1 ≤ p1.toInt ∧ p1.toInt ≤ 6) : Ct l D cy T0 tB tE yX12_gain cX12_gain 9 (some .int) 4 99 0 0 (mw cy a S) [.ref (a 0), .int 0, .int p0, .int p1, .int 0] (QI D (U := GS) (fun r u => 0 = r ∧ (si (su (su (sv (su (su (si S 22 (-1)) 29 992 0) 30 0 992) 0 0 1649317774848) 26 0 (-1)) 27 0 (-1)) 21 1) = u) (mw cy a)) := by
  refine Ct.ofZ RX12 "gain" [(0, .ref (a 0)), (1, .int 0), (2, .int p0), (3, .int p1), (4, .int 0)] rfl rfl rfl rfl (Nat.le_of_ble_eq_true rfl) ?_
  intro p e R s m args below meth c A b
  refine z_iload_n b dX12_gain_0 rfl rfl ?_
  refine z_calli b (z_runS (As := [.int 0]) (st := []) b (c_X12_isOne_3 S ) cf_X12_isOne wm_X12_170 ws_X12_isOne dX12_gain_1 rfl (Nat.le_of_ble_eq_true rfl) ⟨by decide, by decide, by decide, by decide⟩) (fun r12280 u12281 h12279 => ?_)
  obtain ⟨rfl, rfl⟩ := h12279
  refine z_if_eq_f (tgt := 27) b dX12_gain_4 (by decide) (by decide) ?_
  refine z_aload_n b dX12_gain_7 rfl rfl ?_
  refine z_iload_n b dX12_gain_8 rfl rfl ?_
  refine z_iload_n b dX12_gain_9 rfl rfl ?_
  refine z_calli b (z_runV (q0 := 0) (As := [.int p0, .int p1]) (st := []) b (c_X12_canSearch_5 S p0 p1 ⟨by omega, by omega⟩ ⟨by omega, by omega⟩) cf_X12_canSearch (mw_0 cy a S) rfl wm_X12_433 wi_X12_canSearch ws_X12_canSearch dX12_gain_10 rfl (Nat.le_of_ble_eq_true rfl) ⟨by decide, by decide, by decide, by decide⟩) (fun r12283 u12284 h12282 => ?_)
  obtain ⟨rfl, rfl⟩ := h12282
  refine z_if_eq_f (tgt := 27) b dX12_gain_13 (by decide) (by decide) ?_
  refine z_iload b dX12_gain_16 rfl ?_
  refine z_iconst (v := 0) b dX12_gain_18 (by decide) ?_
  refine z_bipush (v := 7) b dX12_gain_19 (by decide) ?_
  refine z_calli b (z_runS (As := [.int 0, .int 0, .int 7]) (st := []) b (c_X12_isIn_59 S ) cf_X12_isIn wm_X12_1 ws_X12_isIn dX12_gain_21 rfl (Nat.le_of_ble_eq_true rfl) ⟨by decide, by decide, by decide, by decide⟩) (fun r12286 u12287 h12285 => ?_)
  obtain ⟨rfl, rfl⟩ := h12285
  refine z_if_ne_t (tgt := 30) b dX12_gain_24 (by decide) (by decide) ?_
  refine z_aload_n b dX12_gain_30 rfl rfl ?_
  refine z_iconst (v := (-1)) b dX12_gain_31 (by decide) ?_
  refine z_iload_n b dX12_gain_32 rfl rfl ?_
  refine z_iload_n b dX12_gain_33 rfl rfl ?_
  refine z_bipush (v := 7) b dX12_gain_34 (by decide) ?_
  refine z_iconst (v := 0) b dX12_gain_36 (by decide) ?_
  refine z_callv b (z_runV (q0 := 0) (As := [.int (-1), .int p0, .int p1, .int 7, .int 0]) (st := []) b (c_X12_searches_2 S p0 p1 h_i_21 h_i_23 h_l_0 h_a_29_992 h_a_28_0 h_a_7_0 h_a_7_1 ⟨by omega, by omega⟩ ⟨by omega, by omega⟩) cf_X12_searches (mw_0 cy a S) rfl wm_X12_436 wi_X12_searches ws_X12_searches dX12_gain_37 rfl (Nat.le_of_ble_eq_true rfl) ⟨by decide, by decide, by decide, by decide⟩) (fun u12290 h12288 => ?_)
  obtain rfl := h12288
  refine z_aload_n b dX12_gain_40 rfl rfl ?_
  refine z_get (q0 := 0) (k9 := 57) (v := .int (fi (si (su (su (sv (su (su (si S 22 (-1)) 29 992 0) 30 0 992) 0 0 1649317774848) 26 0 (-1)) 27 0 (-1)) 21 1) 23)) b (mw_0 cy a (si (su (su (sv (su (su (si S 22 (-1)) 29 992 0) 30 0 992) 0 0 1649317774848) 26 0 (-1)) 27 0 (-1)) 21 1)) rfl in_X12 (by decide) wf_X12_408 rfl dX12_gain_41 ?_
  refine z_eqi h_i_23 ?_
  refine z_if_eq_t (tgt := 50) b dX12_gain_44 (by decide) (by decide) ?_
  refine z_iconst (v := (-1)) b dX12_gain_50 (by decide) ?_
  refine z_istore (lv' := [(5, .int (-1)), (0, .ref (a 0)), (1, .int 0), (2, .int p0), (3, .int p1), (4, .int 0)]) b dX12_gain_51 (by decide) rfl ?_
  refine z_iconst (v := 0) b dX12_gain_53 (by decide) ?_
  refine z_istore (lv' := [(6, .int 0), (5, .int (-1)), (0, .ref (a 0)), (1, .int 0), (2, .int p0), (3, .int p1), (4, .int 0)]) b dX12_gain_54 (by decide) rfl ?_
  refine z_iconst (v := 0) b dX12_gain_56 (by decide) ?_
  refine z_istore (lv' := [(7, .int 0), (6, .int 0), (5, .int (-1)), (0, .ref (a 0)), (1, .int 0), (2, .int p0), (3, .int p1), (4, .int 0)]) b dX12_gain_57 (by decide) rfl ?_
  refine z_iload b dX12_gain_59 rfl ?_
  refine z_aload_n b dX12_gain_61 rfl rfl ?_
  refine z_get (q0 := 0) (k9 := 55) (v := .int 1) b (mw_0 cy a (si (su (su (sv (su (su (si S 22 (-1)) 29 992 0) 30 0 992) 0 0 1649317774848) 26 0 (-1)) 27 0 (-1)) 21 1)) rfl in_X12 (by decide) wf_X12_405 rfl dX12_gain_62 ?_
  refine z_icmp_ge_f (tgt := 147) b dX12_gain_65 (by decide) (by decide) ?_
  refine z_aload_n b dX12_gain_68 rfl rfl ?_
  refine z_aload_n b dX12_gain_69 rfl rfl ?_
  refine z_get (q0 := 0) (k9 := 49) (v := .ref (a 27)) b (mw_0 cy a (si (su (su (sv (su (su (si S 22 (-1)) 29 992 0) 30 0 992) 0 0 1649317774848) 26 0 (-1)) 27 0 (-1)) 21 1)) rfl in_X12 (by decide) wf_X12_97 rfl dX12_gain_70 ?_
  refine z_iload b dX12_gain_73 rfl ?_
  refine y_lald (q0 := 27) (j := 0) (v := 1649317774848) b (mw_27 cy a (si (su (su (sv (su (su (si S 22 (-1)) 29 992 0) 30 0 992) 0 0 1649317774848) 26 0 (-1)) 27 0 (-1)) 21 1)) (by decide) rfl dX12_gain_75 ?_
  refine z_callv b (z_runV (q0 := 0) (As := [.long 1649317774848]) (st := []) b (c_X12_takes (si (su (su (sv (su (su (si S 22 (-1)) 29 992 0) 30 0 992) 0 0 1649317774848) 26 0 (-1)) 27 0 (-1)) 21 1) h_a_4_7 h_a_1_7 h_a_4_6 h_a_1_6 h_a_3_6 h_a_3_2 h_a_2_2 h_a_0_2 h_a_4_3 h_a_1_3 h_a_4_5 h_a_1_5 h_a_3_5 h_a_3_7 h_a_2_1 h_a_0_1 h_a_4_2 h_a_1_2 h_a_4_1 h_a_1_1 h_a_3_1 h_a_3_3 h_a_2_0 h_a_0_0 h_i_0) cf_X12_takes (mw_0 cy a (si (su (su (sv (su (su (si S 22 (-1)) 29 992 0) 30 0 992) 0 0 1649317774848) 26 0 (-1)) 27 0 (-1)) 21 1)) rfl wm_X12_174 wi_X12_takes ws_X12_takes dX12_gain_76 rfl (Nat.le_of_ble_eq_true rfl) ⟨by decide, by decide, by decide, by decide⟩) (fun u12293 h12291 => ?_)
  obtain rfl := h12291
  refine z_aload_n b dX12_gain_79 rfl rfl ?_
  refine z_get (q0 := 0) (k9 := 0) (v := .ref (a 1)) b (mw_0 cy a (si (su (su (sv (su (su (si S 22 (-1)) 29 992 0) 30 0 992) 0 0 1649317774848) 26 0 (-1)) 27 0 (-1)) 21 1)) rfl in_X12 (by decide) wf_X12_13 rfl dX12_gain_80 ?_
  refine z_iload_n b dX12_gain_83 rfl rfl ?_
  refine y_iald (q0 := 1) (j := 0) (v := (ar (si (su (su (sv (su (su (si S 22 (-1)) 29 992 0) 30 0 992) 0 0 1649317774848) 26 0 (-1)) 27 0 (-1)) 21 1) 0 0)) b (mw_1 cy a (si (su (su (sv (su (su (si S 22 (-1)) 29 992 0) 30 0 992) 0 0 1649317774848) 26 0 (-1)) 27 0 (-1)) 21 1)) (by decide) rfl dX12_gain_84 ?_
  refine z_eqi h_a_0_0 ?_
  refine z_aload_n b dX12_gain_85 rfl rfl ?_
  refine z_get (q0 := 0) (k9 := 1) (v := .ref (a 2)) b (mw_0 cy a (si (su (su (sv (su (su (si S 22 (-1)) 29 992 0) 30 0 992) 0 0 1649317774848) 26 0 (-1)) 27 0 (-1)) 21 1)) rfl in_X12 (by decide) wf_X12_17 rfl dX12_gain_86 ?_
  refine z_iconst (v := 3) b dX12_gain_89 (by decide) ?_
  refine z_iload_n b dX12_gain_90 rfl rfl ?_
  refine z_imul (v := 0) b dX12_gain_91 (by decide) ?_
  refine z_iload_n b dX12_gain_92 rfl rfl ?_
  refine z_iconst (v := 0) b dX12_gain_93 (by decide) ?_
  refine z_calli b (z_runS (As := [.int 0, .int 0]) (st := [.int 0, .ref (a 2), .int 0]) b (c_X12_other_6 (si (su (su (sv (su (su (si S 22 (-1)) 29 992 0) 30 0 992) 0 0 1649317774848) 26 0 (-1)) 27 0 (-1)) 21 1) ) cf_X12_other wm_X12_160 ws_X12_other dX12_gain_94 rfl (Nat.le_of_ble_eq_true rfl) ⟨by decide, by decide, by decide, by decide⟩) (fun r12295 u12296 h12294 => ?_)
  obtain ⟨rfl, rfl⟩ := h12294
  refine z_iadd (v := 1) b dX12_gain_97 (by decide) ?_
  refine y_iald (q0 := 2) (j := 1) (v := (ar (si (su (su (sv (su (su (si S 22 (-1)) 29 992 0) 30 0 992) 0 0 1649317774848) 26 0 (-1)) 27 0 (-1)) 21 1) 1 1)) b (mw_2 cy a (si (su (su (sv (su (su (si S 22 (-1)) 29 992 0) 30 0 992) 0 0 1649317774848) 26 0 (-1)) 27 0 (-1)) 21 1)) (by decide) rfl dX12_gain_98 ?_
  refine z_eqi h_a_1_1 ?_
  refine z_isub (v := 0) b dX12_gain_99 (by decide) ?_
  refine z_aload_n b dX12_gain_100 rfl rfl ?_
  refine z_get (q0 := 0) (k9 := 1) (v := .ref (a 2)) b (mw_0 cy a (si (su (su (sv (su (su (si S 22 (-1)) 29 992 0) 30 0 992) 0 0 1649317774848) 26 0 (-1)) 27 0 (-1)) 21 1)) rfl in_X12 (by decide) wf_X12_17 rfl dX12_gain_101 ?_
  refine z_iconst (v := 3) b dX12_gain_104 (by decide) ?_
  refine z_iload_n b dX12_gain_105 rfl rfl ?_
  refine z_imul (v := 0) b dX12_gain_106 (by decide) ?_
  refine z_iload_n b dX12_gain_107 rfl rfl ?_
  refine z_iconst (v := 1) b dX12_gain_108 (by decide) ?_
  refine z_calli b (z_runS (As := [.int 0, .int 1]) (st := [.int 0, .ref (a 2), .int 0]) b (c_X12_other_5 (si (su (su (sv (su (su (si S 22 (-1)) 29 992 0) 30 0 992) 0 0 1649317774848) 26 0 (-1)) 27 0 (-1)) 21 1) ) cf_X12_other wm_X12_160 ws_X12_other dX12_gain_109 rfl (Nat.le_of_ble_eq_true rfl) ⟨by decide, by decide, by decide, by decide⟩) (fun r12298 u12299 h12297 => ?_)
  obtain ⟨rfl, rfl⟩ := h12297
  refine z_iadd (v := 2) b dX12_gain_112 (by decide) ?_
  refine y_iald (q0 := 2) (j := 2) (v := (ar (si (su (su (sv (su (su (si S 22 (-1)) 29 992 0) 30 0 992) 0 0 1649317774848) 26 0 (-1)) 27 0 (-1)) 21 1) 1 2)) b (mw_2 cy a (si (su (su (sv (su (su (si S 22 (-1)) 29 992 0) 30 0 992) 0 0 1649317774848) 26 0 (-1)) 27 0 (-1)) 21 1)) (by decide) rfl dX12_gain_113 ?_
  refine z_eqi h_a_1_2 ?_
  refine z_isub (v := 0) b dX12_gain_114 (by decide) ?_
  refine z_istore (lv' := [(8, .int 0), (7, .int 0), (6, .int 0), (5, .int (-1)), (0, .ref (a 0)), (1, .int 0), (2, .int p0), (3, .int p1), (4, .int 0)]) b dX12_gain_115 (by decide) rfl ?_
  refine z_iload b dX12_gain_117 rfl ?_
  refine z_iconst (v := (-1)) b dX12_gain_119 (by decide) ?_
  refine z_icmp_eq_t (tgt := 133) b dX12_gain_120 (by decide) (by decide) ?_
  refine z_iload b dX12_gain_133 rfl ?_
  refine z_istore (lv' := [(5, .int 0), (8, .int 0), (7, .int 0), (6, .int 0), (0, .ref (a 0)), (1, .int 0), (2, .int p0), (3, .int p1), (4, .int 0)]) b dX12_gain_135 (by decide) rfl ?_
  refine z_iload b dX12_gain_137 rfl ?_
  refine z_istore (lv' := [(6, .int 0), (5, .int 0), (8, .int 0), (7, .int 0), (0, .ref (a 0)), (1, .int 0), (2, .int p0), (3, .int p1), (4, .int 0)]) b dX12_gain_139 (by decide) rfl ?_
  refine z_iinc (k9 := 3) (v := 1) (lv' := [(7, .int 1), (6, .int 0), (5, .int 0), (8, .int 0), (0, .ref (a 0)), (1, .int 0), (2, .int p0), (3, .int p1), (4, .int 0)]) b dX12_gain_141 rfl (by decide) (by decide) rfl ?_
  refine z_goto (tgt := 59) b dX12_gain_144 (by decide) ?_
  refine z_iload b dX12_gain_59 rfl ?_
  refine z_aload_n b dX12_gain_61 rfl rfl ?_
  refine z_get (q0 := 0) (k9 := 55) (v := .int 1) b (mw_0 cy a (si (su (su (sv (su (su (si S 22 (-1)) 29 992 0) 30 0 992) 0 0 1649317774848) 26 0 (-1)) 27 0 (-1)) 21 1)) rfl in_X12 (by decide) wf_X12_405 rfl dX12_gain_62 ?_
  refine z_icmp_ge_t (tgt := 147) b dX12_gain_65 (by decide) (by decide) ?_
  refine z_iload b dX12_gain_147 rfl ?_
  refine z_iconst (v := 2) b dX12_gain_149 (by decide) ?_
  refine z_icmp_ge_f (tgt := 171) b dX12_gain_150 (by decide) (by decide) ?_
  refine z_iload b dX12_gain_153 rfl ?_
  refine z_if_ne_f (tgt := 163) b dX12_gain_155 (by decide) (by decide) ?_
  refine z_iload b dX12_gain_158 rfl ?_
  refine z_goto (tgt := 170) b dX12_gain_160 (by decide) ?_
  exact z_iret (u := (si (su (su (sv (su (su (si S 22 (-1)) 29 992 0) 30 0 992) 0 0 1649317774848) 26 0 (-1)) 27 0 (-1)) 21 1)) b rfl dX12_gain_170 ⟨rfl, rfl⟩ rfl (by decide) (by decide)

set_option maxHeartbeats 4000000 in
set_option maxRecDepth 100000 in
theorem c_X11_gain_22 {l : Launch} {D : va_G} {cy : Nat → ClassId} {T0 tB tE : Nat} {a : Nat → Nat} {rw : Nat → Option Nat} (S : GS) (p0 : Int32) (p1 : Int32) (h_i_19 : fi S 19 = 0) (h_i_24 : fi S 24 = 0) (h_i_22 : fi S 22 = 0) (h_i_18 : fi S 18 = 0) (h_i_25 : fi S 25 = 0) (h_i_23 : fi S 23 = 0) (h_i_26 : fi S 26 = 0) (h_a_4_50 : ar S 4 50 = 0) (h_a_4_40 : ar S 4 40 = 3) (h_a_4_41 : ar S 4 41 = 3) (h_a_4_42 : ar S 4 42 = 3) (h_a_4_0 : ar S 4 0 = 0) (h_a_4_11 : ar S 4 11 = 0) (h_a_4_21 : ar S 4 21 = 0) (h_a_4_31 : ar S 4 31 = 0) (h_a_4_12 : ar S 4 12 = 0) (h_a_4_22 : ar S 4 22 = 0) (h_a_4_32 : ar S 4 32 = 0) (h_a_4_1 : ar S 4 1 = 0) (h_a_4_13 : ar S 4 13 = 0) (h_a_4_23 : ar S 4 23 = 0) (h_a_4_33 : ar S 4 33 = 0) (h_a_4_15 : ar S 4 15 = 0) (h_a_4_25 : ar S 4 25 = 0) (h_a_4_35 : ar S 4 35 = 0) (h_a_4_2 : ar S 4 2 = 0) (h_a_4_16 : ar S 4 16 = 0) (h_a_4_26 : ar S 4 26 = 0) (h_a_4_36 : ar S 4 36 = 0) (h_a_4_17 : ar S 4 17 = 0) (h_a_4_27 : ar S 4 27 = 0) (h_a_4_37 : ar S 4 37 = 0) (h_a_10_0 : ar S 10 0 = 0) (h_a_9_50 : ar S 9 50 = 0) (h_a_9_40 : ar S 9 40 = 3) (h_a_9_41 : ar S 9 41 = 3) (h_a_9_42 : ar S 9 42 = 3) (h_a_9_0 : ar S 9 0 = 0) (h_a_9_11 : ar S 9 11 = 0) (h_a_9_21 : ar S 9 21 = 0) (h_a_9_31 : ar S 9 31 = 0) (h_a_9_12 : ar S 9 12 = 0) (h_a_9_22 : ar S 9 22 = 0) (h_a_9_32 : ar S 9 32 = 0) (h_a_9_1 : ar S 9 1 = 0) (h_a_9_13 : ar S 9 13 = 0) (h_a_9_23 : ar S 9 23 = 0) (h_a_9_33 : ar S 9 33 = 0) (h_a_9_15 : ar S 9 15 = 0) (h_a_9_25 : ar S 9 25 = 0) (h_a_9_35 : ar S 9 35 = 0) (h_a_9_2 : ar S 9 2 = 0) (h_a_9_16 : ar S 9 16 = 0) (h_a_9_26 : ar S 9 26 = 0) (h_a_9_36 : ar S 9 36 = 0) (h_a_9_17 : ar S 9 17 = 0) (h_a_9_27 : ar S 9 27 = 0) (h_a_9_37 : ar S 9 37 = 0) (hr_p0 : 1 ≤ p0.toInt ∧ p0.toInt ≤ 3) (hr_p1 : 1 ≤ p1.toInt ∧ p1.toInt ≤ 6) : Ct l D cy T0 tB tE yX11_gain cX11_gain 7 (some .int) 5 117 0 0 (cw cy tE a rw S) [.ref (a 0), .int 0, .int p0, .int p1, .int 1] (QI D (U := GS) (fun r u => (((((0 < ((fi (su (si (su (su (sv (sa (si (si (si (si S 24 1) 19 p0) 20 p1) 21 7) 13 (fil 1024 0 (ar (si (si (si (si S 24 1) 19 p0) 20 p1) 21 7) 13))) 2 0 4128768) 11 0 (-1)) 12 0 (-1)) 25 1) 13 978 1) 20) : Int32).toInt)))) ∧ 0 = r ∧ (si (su (si (su (su (sv (sa (si (si (si (si S 24 1) 19 p0) 20 p1) 21 7) 13 (fil 1024 0 (ar (si (si (si (si S 24 1) 19 p0) 20 p1) 21 7) 13))) 2 0 4128768) 11 0 (-1)) 12 0 (-1)) 25 1) 13 978 1) 23 1) = u) ∨ (((((((fi (su (si (su (su (sv (sa (si (si (si (si S 24 1) 19 p0) 20 p1) 21 7) 13 (fil 1024 0 (ar (si (si (si (si S 24 1) 19 p0) 20 p1) 21 7) 13))) 2 0 4128768) 11 0 (-1)) 12 0 (-1)) 25 1) 13 978 1) 20) : Int32).toInt ≤ 0)))) ∧ 0 = r ∧ (su (si (su (su (sv (sa (si (si (si (si S 24 1) 19 p0) 20 p1) 21 7) 13 (fil 1024 0 (ar (si (si (si (si S 24 1) 19 p0) 20 p1) 21 7) 13))) 2 0 4128768) 11 0 (-1)) 12 0 (-1)) 25 1) 13 978 1) = u)) (cw cy tE a rw)) := by
  refine Ct.ofZ RX11 "gain" [(0, .ref (a 0)), (1, .int 0), (2, .int p0), (3, .int p1), (4, .int 1)] rfl rfl rfl rfl (Nat.le_of_ble_eq_true rfl) ?_
  intro p e R s m args below meth c A b
  refine z_iload_n b dX11_gain_0 rfl rfl ?_
  refine z_calli b (z_runS (As := [.int 0]) (st := []) b (c_X11_isPerson_3 S ) cf_X11_isPerson wm_X11_69 ws_X11_isPerson dX11_gain_1 rfl (Nat.le_of_ble_eq_true rfl) ⟨by decide, by decide, by decide, by decide⟩) (fun r12301 u12302 h12300 => ?_)
  obtain ⟨rfl, rfl⟩ := h12300
  refine z_if_eq_f (tgt := 26) b dX11_gain_4 (by decide) (by decide) ?_
  refine z_iload_n b dX11_gain_7 rfl rfl ?_
  refine z_calli b (z_runS (As := [.int p0]) (st := []) b (c_X11_areLaws_3 S p0 ⟨by omega, by omega⟩) cf_X11_areLaws wm_X11_181 ws_X11_areLaws dX11_gain_8 rfl (Nat.le_of_ble_eq_true rfl) ⟨by decide, by decide, by decide, by decide⟩) (fun r12304 u12305 h12303 => ?_)
  obtain ⟨rfl, rfl⟩ := h12303
  refine z_if_eq_f (tgt := 26) b dX11_gain_11 (by decide) (by decide) ?_
  refine z_iload_n b dX11_gain_14 rfl rfl ?_
  refine z_calli b (z_runS (As := [.int p1]) (st := []) b (c_X11_isDepth_3 S p1 ⟨by omega, by omega⟩) cf_X11_isDepth wm_X11_203 ws_X11_isDepth dX11_gain_15 rfl (Nat.le_of_ble_eq_true rfl) ⟨by decide, by decide, by decide, by decide⟩) (fun r12307 u12308 h12306 => ?_)
  obtain ⟨rfl, rfl⟩ := h12306
  refine z_if_eq_f (tgt := 26) b dX11_gain_18 (by decide) (by decide) ?_
  refine z_iload b dX11_gain_21 rfl ?_
  refine z_if_ge_t (tgt := 29) b dX11_gain_23 (by decide) (by decide) ?_
  refine z_aload_n b dX11_gain_29 rfl rfl ?_
  refine z_get (q0 := 0) (k9 := 6) (v := .ref (a 25)) b (cw_0 cy tE a rw S) rfl in_X11 (by decide) wf_X11_52 rfl dX11_gain_30 ?_
  refine z_iload_n b dX11_gain_33 rfl rfl ?_
  refine z_iload_n b dX11_gain_34 rfl rfl ?_
  refine z_bipush (v := 7) b dX11_gain_35 (by decide) ?_
  refine z_iconst (v := 0) b dX11_gain_37 (by decide) ?_
  refine z_callv b (z_runV (q0 := 25) (As := [.int p0, .int p1, .int 7, .int 0]) (st := []) b (c_X8_begin_2 S p0 p1 h_i_19 h_i_24 h_i_22 h_i_18 h_i_25 h_i_23 h_i_26 h_a_4_50 h_a_4_40 h_a_4_41 h_a_4_42 h_a_4_0 h_a_4_11 h_a_4_21 h_a_4_31 h_a_4_12 h_a_4_22 h_a_4_32 h_a_4_1 h_a_4_13 h_a_4_23 h_a_4_33 h_a_4_15 h_a_4_25 h_a_4_35 h_a_4_2 h_a_4_16 h_a_4_26 h_a_4_36 h_a_4_17 h_a_4_27 h_a_4_37 h_a_10_0 ⟨by omega, by omega⟩ ⟨by omega, by omega⟩) cf_X8_begin (cw_25 cy tE a rw S) rfl wm_X11_206 wi_X8_begin ws_X8_begin dX11_gain_38 rfl (Nat.le_of_ble_eq_true rfl) ⟨by decide, by decide, by decide, by decide⟩) (fun u12311 h12309 => ?_)
  obtain rfl := h12309
  refine z_aload_n b dX11_gain_41 rfl rfl ?_
  refine z_get (q0 := 0) (k9 := 6) (v := .ref (a 25)) b (cw_0 cy tE a rw (su (si (su (su (sv (sa (si (si (si (si S 24 1) 19 p0) 20 p1) 21 7) 13 (fil 1024 0 (ar (si (si (si (si S 24 1) 19 p0) 20 p1) 21 7) 13))) 2 0 4128768) 11 0 (-1)) 12 0 (-1)) 25 1) 13 978 1)) rfl in_X11 (by decide) wf_X11_52 rfl dX11_gain_42 ?_
  refine z_callv b (z_runV (q0 := 25) (As := []) (st := []) b (c_X8_finish_2 (su (si (su (su (sv (sa (si (si (si (si S 24 1) 19 p0) 20 p1) 21 7) 13 (fil 1024 0 (ar (si (si (si (si S 24 1) 19 p0) 20 p1) 21 7) 13))) 2 0 4128768) 11 0 (-1)) 12 0 (-1)) 25 1) 13 978 1) h_i_26 h_i_23 rfl h_a_10_0 rfl h_a_9_50 h_a_9_40 h_a_9_41 h_a_9_42 h_a_9_0 h_a_9_11 h_a_9_21 h_a_9_31 h_a_9_12 h_a_9_22 h_a_9_32 h_a_9_1 h_a_9_13 h_a_9_23 h_a_9_33 h_a_9_15 h_a_9_25 h_a_9_35 h_a_9_2 h_a_9_16 h_a_9_26 h_a_9_36 h_a_9_17 h_a_9_27 h_a_9_37 h_i_18) cf_X8_finish (cw_25 cy tE a rw (su (si (su (su (sv (sa (si (si (si (si S 24 1) 19 p0) 20 p1) 21 7) 13 (fil 1024 0 (ar (si (si (si (si S 24 1) 19 p0) 20 p1) 21 7) 13))) 2 0 4128768) 11 0 (-1)) 12 0 (-1)) 25 1) 13 978 1)) rfl wm_X11_232 wi_X8_finish ws_X8_finish dX11_gain_45 rfl (Nat.le_of_ble_eq_true rfl) ⟨by decide, by decide, by decide, by decide⟩) (fun u12314 h12312 => ?_)
  rcases h12312 with ⟨c12315, rfl⟩ | ⟨c12316, rfl⟩
  · refine z_aload_n b dX11_gain_48 rfl rfl ?_
    refine z_get (q0 := 0) (k9 := 6) (v := .ref (a 25)) b (cw_0 cy tE a rw (si (su (si (su (su (sv (sa (si (si (si (si S 24 1) 19 p0) 20 p1) 21 7) 13 (fil 1024 0 (ar (si (si (si (si S 24 1) 19 p0) 20 p1) 21 7) 13))) 2 0 4128768) 11 0 (-1)) 12 0 (-1)) 25 1) 13 978 1) 23 1)) rfl in_X11 (by decide) wf_X11_52 rfl dX11_gain_49 ?_
    refine z_get (q0 := 25) (k9 := 18) (v := .int (fi (si (su (si (su (su (sv (sa (si (si (si (si S 24 1) 19 p0) 20 p1) 21 7) 13 (fil 1024 0 (ar (si (si (si (si S 24 1) 19 p0) 20 p1) 21 7) 13))) 2 0 4128768) 11 0 (-1)) 12 0 (-1)) 25 1) 13 978 1) 23 1) 26)) b (cw_25 cy tE a rw (si (su (si (su (su (sv (sa (si (si (si (si S 24 1) 19 p0) 20 p1) 21 7) 13 (fil 1024 0 (ar (si (si (si (si S 24 1) 19 p0) 20 p1) 21 7) 13))) 2 0 4128768) 11 0 (-1)) 12 0 (-1)) 25 1) 13 978 1) 23 1)) rfl in_X8 (by decide) wf_X11_214 rfl dX11_gain_52 ?_
    refine z_eqi h_i_26 ?_
    refine z_if_eq_t (tgt := 61) b dX11_gain_55 (by decide) (by decide) ?_
    refine z_aload_n b dX11_gain_61 rfl rfl ?_
    refine z_get (q0 := 0) (k9 := 6) (v := .ref (a 25)) b (cw_0 cy tE a rw (si (su (si (su (su (sv (sa (si (si (si (si S 24 1) 19 p0) 20 p1) 21 7) 13 (fil 1024 0 (ar (si (si (si (si S 24 1) 19 p0) 20 p1) 21 7) 13))) 2 0 4128768) 11 0 (-1)) 12 0 (-1)) 25 1) 13 978 1) 23 1)) rfl in_X11 (by decide) wf_X11_52 rfl dX11_gain_62 ?_
    refine z_iload_n b dX11_gain_65 rfl rfl ?_
    refine z_calli b (z_runV (q0 := 25) (As := [.int 0]) (st := []) b (c_X8_richest (si (su (si (su (su (sv (sa (si (si (si (si S 24 1) 19 p0) 20 p1) 21 7) 13 (fil 1024 0 (ar (si (si (si (si S 24 1) 19 p0) 20 p1) 21 7) 13))) 2 0 4128768) 11 0 (-1)) 12 0 (-1)) 25 1) 13 978 1) 23 1) rfl rfl h_a_9_50 h_a_9_40 h_a_9_41 h_a_9_42 h_a_9_0 h_a_9_11 h_a_9_21 h_a_9_31 h_a_9_12 h_a_9_22 h_a_9_32 h_a_9_1 h_a_9_13 h_a_9_23 h_a_9_33 h_a_9_15 h_a_9_25 h_a_9_35 h_a_9_2 h_a_9_16 h_a_9_26 h_a_9_36 h_a_9_17 h_a_9_27 h_a_9_37) cf_X8_richest (cw_25 cy tE a rw (si (su (si (su (su (sv (sa (si (si (si (si S 24 1) 19 p0) 20 p1) 21 7) 13 (fil 1024 0 (ar (si (si (si (si S 24 1) 19 p0) 20 p1) 21 7) 13))) 2 0 4128768) 11 0 (-1)) 12 0 (-1)) 25 1) 13 978 1) 23 1)) rfl wm_X11_238 wi_X8_richest ws_X8_richest dX11_gain_66 rfl (Nat.le_of_ble_eq_true rfl) ⟨by decide, by decide, by decide, by decide⟩) (fun r12318 u12319 h12317 => ?_)
    obtain ⟨rfl, rfl⟩ := h12317
    refine z_istore (lv' := [(5, .int 0), (0, .ref (a 0)), (1, .int 0), (2, .int p0), (3, .int p1), (4, .int 1)]) b dX11_gain_69 (by decide) rfl ?_
    refine z_iload b dX11_gain_71 rfl ?_
    refine z_if_ne_t (tgt := 87) b dX11_gain_73 (by decide) (by decide) ?_
    refine z_iload b dX11_gain_87 rfl ?_
    refine z_iconst (v := 1) b dX11_gain_89 (by decide) ?_
    refine z_icmp_ne_f (tgt := 103) b dX11_gain_90 (by decide) (by decide) ?_
    refine z_aload_n b dX11_gain_93 rfl rfl ?_
    refine z_get (q0 := 0) (k9 := 6) (v := .ref (a 25)) b (cw_0 cy tE a rw (si (su (si (su (su (sv (sa (si (si (si (si S 24 1) 19 p0) 20 p1) 21 7) 13 (fil 1024 0 (ar (si (si (si (si S 24 1) 19 p0) 20 p1) 21 7) 13))) 2 0 4128768) 11 0 (-1)) 12 0 (-1)) 25 1) 13 978 1) 23 1)) rfl in_X11 (by decide) wf_X11_52 rfl dX11_gain_94 ?_
    refine z_iload b dX11_gain_97 rfl ?_
    refine z_calli b (z_runV (q0 := 25) (As := [.int 0]) (st := []) b (c_X8_acts (si (su (si (su (su (sv (sa (si (si (si (si S 24 1) 19 p0) 20 p1) 21 7) 13 (fil 1024 0 (ar (si (si (si (si S 24 1) 19 p0) 20 p1) 21 7) 13))) 2 0 4128768) 11 0 (-1)) 12 0 (-1)) 25 1) 13 978 1) 23 1) rfl h_a_10_0) cf_X8_acts (cw_25 cy tE a rw (si (su (si (su (su (sv (sa (si (si (si (si S 24 1) 19 p0) 20 p1) 21 7) 13 (fil 1024 0 (ar (si (si (si (si S 24 1) 19 p0) 20 p1) 21 7) 13))) 2 0 4128768) 11 0 (-1)) 12 0 (-1)) 25 1) 13 978 1) 23 1)) rfl wm_X11_217 wi_X8_acts ws_X8_acts dX11_gain_99 rfl (Nat.le_of_ble_eq_true rfl) ⟨by decide, by decide, by decide, by decide⟩) (fun r12321 u12322 h12320 => ?_)
    obtain ⟨rfl, rfl⟩ := h12320
    exact z_iret (u := (si (su (si (su (su (sv (sa (si (si (si (si S 24 1) 19 p0) 20 p1) 21 7) 13 (fil 1024 0 (ar (si (si (si (si S 24 1) 19 p0) 20 p1) 21 7) 13))) 2 0 4128768) 11 0 (-1)) 12 0 (-1)) 25 1) 13 978 1) 23 1)) b rfl dX11_gain_102 (Or.inl ⟨c12315, rfl, rfl⟩) rfl (by decide) (by decide)
  · refine z_aload_n b dX11_gain_48 rfl rfl ?_
    refine z_get (q0 := 0) (k9 := 6) (v := .ref (a 25)) b (cw_0 cy tE a rw (su (si (su (su (sv (sa (si (si (si (si S 24 1) 19 p0) 20 p1) 21 7) 13 (fil 1024 0 (ar (si (si (si (si S 24 1) 19 p0) 20 p1) 21 7) 13))) 2 0 4128768) 11 0 (-1)) 12 0 (-1)) 25 1) 13 978 1)) rfl in_X11 (by decide) wf_X11_52 rfl dX11_gain_49 ?_
    refine z_get (q0 := 25) (k9 := 18) (v := .int (fi (su (si (su (su (sv (sa (si (si (si (si S 24 1) 19 p0) 20 p1) 21 7) 13 (fil 1024 0 (ar (si (si (si (si S 24 1) 19 p0) 20 p1) 21 7) 13))) 2 0 4128768) 11 0 (-1)) 12 0 (-1)) 25 1) 13 978 1) 26)) b (cw_25 cy tE a rw (su (si (su (su (sv (sa (si (si (si (si S 24 1) 19 p0) 20 p1) 21 7) 13 (fil 1024 0 (ar (si (si (si (si S 24 1) 19 p0) 20 p1) 21 7) 13))) 2 0 4128768) 11 0 (-1)) 12 0 (-1)) 25 1) 13 978 1)) rfl in_X8 (by decide) wf_X11_214 rfl dX11_gain_52 ?_
    refine z_eqi h_i_26 ?_
    refine z_if_eq_t (tgt := 61) b dX11_gain_55 (by decide) (by decide) ?_
    refine z_aload_n b dX11_gain_61 rfl rfl ?_
    refine z_get (q0 := 0) (k9 := 6) (v := .ref (a 25)) b (cw_0 cy tE a rw (su (si (su (su (sv (sa (si (si (si (si S 24 1) 19 p0) 20 p1) 21 7) 13 (fil 1024 0 (ar (si (si (si (si S 24 1) 19 p0) 20 p1) 21 7) 13))) 2 0 4128768) 11 0 (-1)) 12 0 (-1)) 25 1) 13 978 1)) rfl in_X11 (by decide) wf_X11_52 rfl dX11_gain_62 ?_
    refine z_iload_n b dX11_gain_65 rfl rfl ?_
    refine z_calli b (z_runV (q0 := 25) (As := [.int 0]) (st := []) b (c_X8_richest (su (si (su (su (sv (sa (si (si (si (si S 24 1) 19 p0) 20 p1) 21 7) 13 (fil 1024 0 (ar (si (si (si (si S 24 1) 19 p0) 20 p1) 21 7) 13))) 2 0 4128768) 11 0 (-1)) 12 0 (-1)) 25 1) 13 978 1) rfl rfl h_a_9_50 h_a_9_40 h_a_9_41 h_a_9_42 h_a_9_0 h_a_9_11 h_a_9_21 h_a_9_31 h_a_9_12 h_a_9_22 h_a_9_32 h_a_9_1 h_a_9_13 h_a_9_23 h_a_9_33 h_a_9_15 h_a_9_25 h_a_9_35 h_a_9_2 h_a_9_16 h_a_9_26 h_a_9_36 h_a_9_17 h_a_9_27 h_a_9_37) cf_X8_richest (cw_25 cy tE a rw (su (si (su (su (sv (sa (si (si (si (si S 24 1) 19 p0) 20 p1) 21 7) 13 (fil 1024 0 (ar (si (si (si (si S 24 1) 19 p0) 20 p1) 21 7) 13))) 2 0 4128768) 11 0 (-1)) 12 0 (-1)) 25 1) 13 978 1)) rfl wm_X11_238 wi_X8_richest ws_X8_richest dX11_gain_66 rfl (Nat.le_of_ble_eq_true rfl) ⟨by decide, by decide, by decide, by decide⟩) (fun r12324 u12325 h12323 => ?_)
    obtain ⟨rfl, rfl⟩ := h12323
    refine z_istore (lv' := [(5, .int 0), (0, .ref (a 0)), (1, .int 0), (2, .int p0), (3, .int p1), (4, .int 1)]) b dX11_gain_69 (by decide) rfl ?_
    refine z_iload b dX11_gain_71 rfl ?_
    refine z_if_ne_t (tgt := 87) b dX11_gain_73 (by decide) (by decide) ?_
    refine z_iload b dX11_gain_87 rfl ?_
    refine z_iconst (v := 1) b dX11_gain_89 (by decide) ?_
    refine z_icmp_ne_f (tgt := 103) b dX11_gain_90 (by decide) (by decide) ?_
    refine z_aload_n b dX11_gain_93 rfl rfl ?_
    refine z_get (q0 := 0) (k9 := 6) (v := .ref (a 25)) b (cw_0 cy tE a rw (su (si (su (su (sv (sa (si (si (si (si S 24 1) 19 p0) 20 p1) 21 7) 13 (fil 1024 0 (ar (si (si (si (si S 24 1) 19 p0) 20 p1) 21 7) 13))) 2 0 4128768) 11 0 (-1)) 12 0 (-1)) 25 1) 13 978 1)) rfl in_X11 (by decide) wf_X11_52 rfl dX11_gain_94 ?_
    refine z_iload b dX11_gain_97 rfl ?_
    refine z_calli b (z_runV (q0 := 25) (As := [.int 0]) (st := []) b (c_X8_acts (su (si (su (su (sv (sa (si (si (si (si S 24 1) 19 p0) 20 p1) 21 7) 13 (fil 1024 0 (ar (si (si (si (si S 24 1) 19 p0) 20 p1) 21 7) 13))) 2 0 4128768) 11 0 (-1)) 12 0 (-1)) 25 1) 13 978 1) rfl h_a_10_0) cf_X8_acts (cw_25 cy tE a rw (su (si (su (su (sv (sa (si (si (si (si S 24 1) 19 p0) 20 p1) 21 7) 13 (fil 1024 0 (ar (si (si (si (si S 24 1) 19 p0) 20 p1) 21 7) 13))) 2 0 4128768) 11 0 (-1)) 12 0 (-1)) 25 1) 13 978 1)) rfl wm_X11_217 wi_X8_acts ws_X8_acts dX11_gain_99 rfl (Nat.le_of_ble_eq_true rfl) ⟨by decide, by decide, by decide, by decide⟩) (fun r12327 u12328 h12326 => ?_)
    obtain ⟨rfl, rfl⟩ := h12326
    exact z_iret (u := (su (si (su (su (sv (sa (si (si (si (si S 24 1) 19 p0) 20 p1) 21 7) 13 (fil 1024 0 (ar (si (si (si (si S 24 1) 19 p0) 20 p1) 21 7) 13))) 2 0 4128768) 11 0 (-1)) 12 0 (-1)) 25 1) 13 978 1)) b rfl dX11_gain_102 (Or.inr ⟨c12316, rfl, rfl⟩) rfl (by decide) (by decide)

set_option maxHeartbeats 4000000 in
set_option maxRecDepth 100000 in
theorem c_X12_gain_22 {l : Launch} {D : va_G} {cy : Nat → ClassId} {T0 tB tE : Nat} {a : Nat → Nat} (S : GS) (p0 : Int32) (p1 : Int32) (h_i_21 : fi S 21 = 0) (h_i_23 : fi S 23 = 0) (h_l_0 : fl S 0 = 1649317774848) (h_a_29_992 : ar S 29 992 = (-1)) (h_a_28_0 : ar S 28 0 = 0) (h_a_7_0 : ar S 7 0 = 0) (h_a_7_1 : ar S 7 1 = 0) (h_a_4_7 : ar S 4 7 = 0) (h_a_1_7 : ar S 1 7 = 0) (h_a_4_6 : ar S 4 6 = 0) (h_a_1_6 : ar S 1 6 = 0) (h_a_3_6 : ar S 3 6 = 0) (h_a_3_2 : ar S 3 2 = 0) (h_a_2_2 : ar S 2 2 = 3) (h_a_0_2 : ar S 0 2 = 0) (h_a_4_3 : ar S 4 3 = 0) (h_a_1_3 : ar S 1 3 = 0) (h_a_4_5 : ar S 4 5 = 0) (h_a_1_5 : ar S 1 5 = 0) (h_a_3_5 : ar S 3 5 = 0) (h_a_3_7 : ar S 3 7 = 0) (h_a_2_1 : ar S 2 1 = 3) (h_a_0_1 : ar S 0 1 = 0) (h_a_4_2 : ar S 4 2 = 0) (h_a_1_2 : ar S 1 2 = 0) (h_a_4_1 : ar S 4 1 = 0) (h_a_1_1 : ar S 1 1 = 0) (h_a_3_1 : ar S 3 1 = 0) (h_a_3_3 : ar S 3 3 = 0) (h_a_2_0 : ar S 2 0 = 3) (h_a_0_0 : ar S 0 0 = 0) (h_i_0 : fi S 0 = 0) (hr_p0 : 1 ≤ p0.toInt ∧ p0.toInt ≤ 3) (hr_p1 : 1 ≤ p1.toInt ∧ p1.toInt ≤ 6) : Ct l D cy T0 tB tE yX12_gain cX12_gain 9 (some .int) 4 99 0 0 (mw cy a S) [.ref (a 0), .int 0, .int p0, .int p1, .int 1] (QI D (U := GS) (fun r u => 0 = r ∧ (si (su (su (sv (su (su (si S 22 (-1)) 29 992 0) 30 0 992) 0 0 1649317774848) 26 0 (-1)) 27 0 (-1)) 21 1) = u) (mw cy a)) := by
  refine Ct.ofZ RX12 "gain" [(0, .ref (a 0)), (1, .int 0), (2, .int p0), (3, .int p1), (4, .int 1)] rfl rfl rfl rfl (Nat.le_of_ble_eq_true rfl) ?_
  intro p e R s m args below meth c A b
  refine z_iload_n b dX12_gain_0 rfl rfl ?_
  refine z_calli b (z_runS (As := [.int 0]) (st := []) b (c_X12_isOne_3 S ) cf_X12_isOne wm_X12_170 ws_X12_isOne dX12_gain_1 rfl (Nat.le_of_ble_eq_true rfl) ⟨by decide, by decide, by decide, by decide⟩) (fun r12330 u12331 h12329 => ?_)
  obtain ⟨rfl, rfl⟩ := h12329
  refine z_if_eq_f (tgt := 27) b dX12_gain_4 (by decide) (by decide) ?_
  refine z_aload_n b dX12_gain_7 rfl rfl ?_
  refine z_iload_n b dX12_gain_8 rfl rfl ?_
  refine z_iload_n b dX12_gain_9 rfl rfl ?_
  refine z_calli b (z_runV (q0 := 0) (As := [.int p0, .int p1]) (st := []) b (c_X12_canSearch_5 S p0 p1 ⟨by omega, by omega⟩ ⟨by omega, by omega⟩) cf_X12_canSearch (mw_0 cy a S) rfl wm_X12_433 wi_X12_canSearch ws_X12_canSearch dX12_gain_10 rfl (Nat.le_of_ble_eq_true rfl) ⟨by decide, by decide, by decide, by decide⟩) (fun r12333 u12334 h12332 => ?_)
  obtain ⟨rfl, rfl⟩ := h12332
  refine z_if_eq_f (tgt := 27) b dX12_gain_13 (by decide) (by decide) ?_
  refine z_iload b dX12_gain_16 rfl ?_
  refine z_iconst (v := 0) b dX12_gain_18 (by decide) ?_
  refine z_bipush (v := 7) b dX12_gain_19 (by decide) ?_
  refine z_calli b (z_runS (As := [.int 1, .int 0, .int 7]) (st := []) b (c_X12_isIn_60 S ) cf_X12_isIn wm_X12_1 ws_X12_isIn dX12_gain_21 rfl (Nat.le_of_ble_eq_true rfl) ⟨by decide, by decide, by decide, by decide⟩) (fun r12336 u12337 h12335 => ?_)
  obtain ⟨rfl, rfl⟩ := h12335
  refine z_if_ne_t (tgt := 30) b dX12_gain_24 (by decide) (by decide) ?_
  refine z_aload_n b dX12_gain_30 rfl rfl ?_
  refine z_iconst (v := (-1)) b dX12_gain_31 (by decide) ?_
  refine z_iload_n b dX12_gain_32 rfl rfl ?_
  refine z_iload_n b dX12_gain_33 rfl rfl ?_
  refine z_bipush (v := 7) b dX12_gain_34 (by decide) ?_
  refine z_iconst (v := 0) b dX12_gain_36 (by decide) ?_
  refine z_callv b (z_runV (q0 := 0) (As := [.int (-1), .int p0, .int p1, .int 7, .int 0]) (st := []) b (c_X12_searches_2 S p0 p1 h_i_21 h_i_23 h_l_0 h_a_29_992 h_a_28_0 h_a_7_0 h_a_7_1 ⟨by omega, by omega⟩ ⟨by omega, by omega⟩) cf_X12_searches (mw_0 cy a S) rfl wm_X12_436 wi_X12_searches ws_X12_searches dX12_gain_37 rfl (Nat.le_of_ble_eq_true rfl) ⟨by decide, by decide, by decide, by decide⟩) (fun u12340 h12338 => ?_)
  obtain rfl := h12338
  refine z_aload_n b dX12_gain_40 rfl rfl ?_
  refine z_get (q0 := 0) (k9 := 57) (v := .int (fi (si (su (su (sv (su (su (si S 22 (-1)) 29 992 0) 30 0 992) 0 0 1649317774848) 26 0 (-1)) 27 0 (-1)) 21 1) 23)) b (mw_0 cy a (si (su (su (sv (su (su (si S 22 (-1)) 29 992 0) 30 0 992) 0 0 1649317774848) 26 0 (-1)) 27 0 (-1)) 21 1)) rfl in_X12 (by decide) wf_X12_408 rfl dX12_gain_41 ?_
  refine z_eqi h_i_23 ?_
  refine z_if_eq_t (tgt := 50) b dX12_gain_44 (by decide) (by decide) ?_
  refine z_iconst (v := (-1)) b dX12_gain_50 (by decide) ?_
  refine z_istore (lv' := [(5, .int (-1)), (0, .ref (a 0)), (1, .int 0), (2, .int p0), (3, .int p1), (4, .int 1)]) b dX12_gain_51 (by decide) rfl ?_
  refine z_iconst (v := 0) b dX12_gain_53 (by decide) ?_
  refine z_istore (lv' := [(6, .int 0), (5, .int (-1)), (0, .ref (a 0)), (1, .int 0), (2, .int p0), (3, .int p1), (4, .int 1)]) b dX12_gain_54 (by decide) rfl ?_
  refine z_iconst (v := 0) b dX12_gain_56 (by decide) ?_
  refine z_istore (lv' := [(7, .int 0), (6, .int 0), (5, .int (-1)), (0, .ref (a 0)), (1, .int 0), (2, .int p0), (3, .int p1), (4, .int 1)]) b dX12_gain_57 (by decide) rfl ?_
  refine z_iload b dX12_gain_59 rfl ?_
  refine z_aload_n b dX12_gain_61 rfl rfl ?_
  refine z_get (q0 := 0) (k9 := 55) (v := .int 1) b (mw_0 cy a (si (su (su (sv (su (su (si S 22 (-1)) 29 992 0) 30 0 992) 0 0 1649317774848) 26 0 (-1)) 27 0 (-1)) 21 1)) rfl in_X12 (by decide) wf_X12_405 rfl dX12_gain_62 ?_
  refine z_icmp_ge_f (tgt := 147) b dX12_gain_65 (by decide) (by decide) ?_
  refine z_aload_n b dX12_gain_68 rfl rfl ?_
  refine z_aload_n b dX12_gain_69 rfl rfl ?_
  refine z_get (q0 := 0) (k9 := 49) (v := .ref (a 27)) b (mw_0 cy a (si (su (su (sv (su (su (si S 22 (-1)) 29 992 0) 30 0 992) 0 0 1649317774848) 26 0 (-1)) 27 0 (-1)) 21 1)) rfl in_X12 (by decide) wf_X12_97 rfl dX12_gain_70 ?_
  refine z_iload b dX12_gain_73 rfl ?_
  refine y_lald (q0 := 27) (j := 0) (v := 1649317774848) b (mw_27 cy a (si (su (su (sv (su (su (si S 22 (-1)) 29 992 0) 30 0 992) 0 0 1649317774848) 26 0 (-1)) 27 0 (-1)) 21 1)) (by decide) rfl dX12_gain_75 ?_
  refine z_callv b (z_runV (q0 := 0) (As := [.long 1649317774848]) (st := []) b (c_X12_takes (si (su (su (sv (su (su (si S 22 (-1)) 29 992 0) 30 0 992) 0 0 1649317774848) 26 0 (-1)) 27 0 (-1)) 21 1) h_a_4_7 h_a_1_7 h_a_4_6 h_a_1_6 h_a_3_6 h_a_3_2 h_a_2_2 h_a_0_2 h_a_4_3 h_a_1_3 h_a_4_5 h_a_1_5 h_a_3_5 h_a_3_7 h_a_2_1 h_a_0_1 h_a_4_2 h_a_1_2 h_a_4_1 h_a_1_1 h_a_3_1 h_a_3_3 h_a_2_0 h_a_0_0 h_i_0) cf_X12_takes (mw_0 cy a (si (su (su (sv (su (su (si S 22 (-1)) 29 992 0) 30 0 992) 0 0 1649317774848) 26 0 (-1)) 27 0 (-1)) 21 1)) rfl wm_X12_174 wi_X12_takes ws_X12_takes dX12_gain_76 rfl (Nat.le_of_ble_eq_true rfl) ⟨by decide, by decide, by decide, by decide⟩) (fun u12343 h12341 => ?_)
  obtain rfl := h12341
  refine z_aload_n b dX12_gain_79 rfl rfl ?_
  refine z_get (q0 := 0) (k9 := 0) (v := .ref (a 1)) b (mw_0 cy a (si (su (su (sv (su (su (si S 22 (-1)) 29 992 0) 30 0 992) 0 0 1649317774848) 26 0 (-1)) 27 0 (-1)) 21 1)) rfl in_X12 (by decide) wf_X12_13 rfl dX12_gain_80 ?_
  refine z_iload_n b dX12_gain_83 rfl rfl ?_
  refine y_iald (q0 := 1) (j := 0) (v := (ar (si (su (su (sv (su (su (si S 22 (-1)) 29 992 0) 30 0 992) 0 0 1649317774848) 26 0 (-1)) 27 0 (-1)) 21 1) 0 0)) b (mw_1 cy a (si (su (su (sv (su (su (si S 22 (-1)) 29 992 0) 30 0 992) 0 0 1649317774848) 26 0 (-1)) 27 0 (-1)) 21 1)) (by decide) rfl dX12_gain_84 ?_
  refine z_eqi h_a_0_0 ?_
  refine z_aload_n b dX12_gain_85 rfl rfl ?_
  refine z_get (q0 := 0) (k9 := 1) (v := .ref (a 2)) b (mw_0 cy a (si (su (su (sv (su (su (si S 22 (-1)) 29 992 0) 30 0 992) 0 0 1649317774848) 26 0 (-1)) 27 0 (-1)) 21 1)) rfl in_X12 (by decide) wf_X12_17 rfl dX12_gain_86 ?_
  refine z_iconst (v := 3) b dX12_gain_89 (by decide) ?_
  refine z_iload_n b dX12_gain_90 rfl rfl ?_
  refine z_imul (v := 0) b dX12_gain_91 (by decide) ?_
  refine z_iload_n b dX12_gain_92 rfl rfl ?_
  refine z_iconst (v := 0) b dX12_gain_93 (by decide) ?_
  refine z_calli b (z_runS (As := [.int 0, .int 0]) (st := [.int 0, .ref (a 2), .int 0]) b (c_X12_other_6 (si (su (su (sv (su (su (si S 22 (-1)) 29 992 0) 30 0 992) 0 0 1649317774848) 26 0 (-1)) 27 0 (-1)) 21 1) ) cf_X12_other wm_X12_160 ws_X12_other dX12_gain_94 rfl (Nat.le_of_ble_eq_true rfl) ⟨by decide, by decide, by decide, by decide⟩) (fun r12345 u12346 h12344 => ?_)
  obtain ⟨rfl, rfl⟩ := h12344
  refine z_iadd (v := 1) b dX12_gain_97 (by decide) ?_
  refine y_iald (q0 := 2) (j := 1) (v := (ar (si (su (su (sv (su (su (si S 22 (-1)) 29 992 0) 30 0 992) 0 0 1649317774848) 26 0 (-1)) 27 0 (-1)) 21 1) 1 1)) b (mw_2 cy a (si (su (su (sv (su (su (si S 22 (-1)) 29 992 0) 30 0 992) 0 0 1649317774848) 26 0 (-1)) 27 0 (-1)) 21 1)) (by decide) rfl dX12_gain_98 ?_
  refine z_eqi h_a_1_1 ?_
  refine z_isub (v := 0) b dX12_gain_99 (by decide) ?_
  refine z_aload_n b dX12_gain_100 rfl rfl ?_
  refine z_get (q0 := 0) (k9 := 1) (v := .ref (a 2)) b (mw_0 cy a (si (su (su (sv (su (su (si S 22 (-1)) 29 992 0) 30 0 992) 0 0 1649317774848) 26 0 (-1)) 27 0 (-1)) 21 1)) rfl in_X12 (by decide) wf_X12_17 rfl dX12_gain_101 ?_
  refine z_iconst (v := 3) b dX12_gain_104 (by decide) ?_
  refine z_iload_n b dX12_gain_105 rfl rfl ?_
  refine z_imul (v := 0) b dX12_gain_106 (by decide) ?_
  refine z_iload_n b dX12_gain_107 rfl rfl ?_
  refine z_iconst (v := 1) b dX12_gain_108 (by decide) ?_
  refine z_calli b (z_runS (As := [.int 0, .int 1]) (st := [.int 0, .ref (a 2), .int 0]) b (c_X12_other_5 (si (su (su (sv (su (su (si S 22 (-1)) 29 992 0) 30 0 992) 0 0 1649317774848) 26 0 (-1)) 27 0 (-1)) 21 1) ) cf_X12_other wm_X12_160 ws_X12_other dX12_gain_109 rfl (Nat.le_of_ble_eq_true rfl) ⟨by decide, by decide, by decide, by decide⟩) (fun r12348 u12349 h12347 => ?_)
  obtain ⟨rfl, rfl⟩ := h12347
  refine z_iadd (v := 2) b dX12_gain_112 (by decide) ?_
  refine y_iald (q0 := 2) (j := 2) (v := (ar (si (su (su (sv (su (su (si S 22 (-1)) 29 992 0) 30 0 992) 0 0 1649317774848) 26 0 (-1)) 27 0 (-1)) 21 1) 1 2)) b (mw_2 cy a (si (su (su (sv (su (su (si S 22 (-1)) 29 992 0) 30 0 992) 0 0 1649317774848) 26 0 (-1)) 27 0 (-1)) 21 1)) (by decide) rfl dX12_gain_113 ?_
  refine z_eqi h_a_1_2 ?_
  refine z_isub (v := 0) b dX12_gain_114 (by decide) ?_
  refine z_istore (lv' := [(8, .int 0), (7, .int 0), (6, .int 0), (5, .int (-1)), (0, .ref (a 0)), (1, .int 0), (2, .int p0), (3, .int p1), (4, .int 1)]) b dX12_gain_115 (by decide) rfl ?_
  refine z_iload b dX12_gain_117 rfl ?_
  refine z_iconst (v := (-1)) b dX12_gain_119 (by decide) ?_
  refine z_icmp_eq_t (tgt := 133) b dX12_gain_120 (by decide) (by decide) ?_
  refine z_iload b dX12_gain_133 rfl ?_
  refine z_istore (lv' := [(5, .int 0), (8, .int 0), (7, .int 0), (6, .int 0), (0, .ref (a 0)), (1, .int 0), (2, .int p0), (3, .int p1), (4, .int 1)]) b dX12_gain_135 (by decide) rfl ?_
  refine z_iload b dX12_gain_137 rfl ?_
  refine z_istore (lv' := [(6, .int 0), (5, .int 0), (8, .int 0), (7, .int 0), (0, .ref (a 0)), (1, .int 0), (2, .int p0), (3, .int p1), (4, .int 1)]) b dX12_gain_139 (by decide) rfl ?_
  refine z_iinc (k9 := 3) (v := 1) (lv' := [(7, .int 1), (6, .int 0), (5, .int 0), (8, .int 0), (0, .ref (a 0)), (1, .int 0), (2, .int p0), (3, .int p1), (4, .int 1)]) b dX12_gain_141 rfl (by decide) (by decide) rfl ?_
  refine z_goto (tgt := 59) b dX12_gain_144 (by decide) ?_
  refine z_iload b dX12_gain_59 rfl ?_
  refine z_aload_n b dX12_gain_61 rfl rfl ?_
  refine z_get (q0 := 0) (k9 := 55) (v := .int 1) b (mw_0 cy a (si (su (su (sv (su (su (si S 22 (-1)) 29 992 0) 30 0 992) 0 0 1649317774848) 26 0 (-1)) 27 0 (-1)) 21 1)) rfl in_X12 (by decide) wf_X12_405 rfl dX12_gain_62 ?_
  refine z_icmp_ge_t (tgt := 147) b dX12_gain_65 (by decide) (by decide) ?_
  refine z_iload b dX12_gain_147 rfl ?_
  refine z_iconst (v := 2) b dX12_gain_149 (by decide) ?_
  refine z_icmp_ge_f (tgt := 171) b dX12_gain_150 (by decide) (by decide) ?_
  refine z_iload b dX12_gain_153 rfl ?_
  refine z_if_ne_t (tgt := 163) b dX12_gain_155 (by decide) (by decide) ?_
  refine z_aload_n b dX12_gain_163 rfl rfl ?_
  refine z_get (q0 := 0) (k9 := 52) (v := .ref (a 30)) b (mw_0 cy a (si (su (su (sv (su (su (si S 22 (-1)) 29 992 0) 30 0 992) 0 0 1649317774848) 26 0 (-1)) 27 0 (-1)) 21 1)) rfl in_X12 (by decide) wf_X12_107 rfl dX12_gain_164 ?_
  refine z_iload b dX12_gain_167 rfl ?_
  refine y_iald (q0 := 30) (j := 0) (v := (ar (si (su (su (sv (su (su (si S 22 (-1)) 29 992 0) 30 0 992) 0 0 1649317774848) 26 0 (-1)) 27 0 (-1)) 21 1) 28 0)) b (mw_30 cy a (si (su (su (sv (su (su (si S 22 (-1)) 29 992 0) 30 0 992) 0 0 1649317774848) 26 0 (-1)) 27 0 (-1)) 21 1)) (by decide) rfl dX12_gain_169 ?_
  refine z_eqi h_a_28_0 ?_
  exact z_iret (u := (si (su (su (sv (su (su (si S 22 (-1)) 29 992 0) 30 0 992) 0 0 1649317774848) 26 0 (-1)) 27 0 (-1)) 21 1)) b rfl dX12_gain_170 ⟨rfl, rfl⟩ rfl (by decide) (by decide)

set_option maxHeartbeats 4000000 in
set_option maxRecDepth 100000 in
theorem c_X11_gain_23 {l : Launch} {D : va_G} {cy : Nat → ClassId} {T0 tB tE : Nat} {a : Nat → Nat} {rw : Nat → Option Nat} (S : GS) (p0 : Int32) (p1 : Int32) (p2 : Int32) (h_i_19 : fi S 19 = 0) (h_i_24 : fi S 24 = 0) (h_i_22 : fi S 22 = 0) (h_i_18 : fi S 18 = 0) (h_i_25 : fi S 25 = 0) (h_i_23 : fi S 23 = 0) (h_i_26 : fi S 26 = 0) (h_a_4_50 : ar S 4 50 = 0) (h_a_4_40 : ar S 4 40 = 3) (h_a_4_41 : ar S 4 41 = 3) (h_a_4_42 : ar S 4 42 = 3) (h_a_4_0 : ar S 4 0 = 0) (h_a_4_11 : ar S 4 11 = 0) (h_a_4_21 : ar S 4 21 = 0) (h_a_4_31 : ar S 4 31 = 0) (h_a_4_12 : ar S 4 12 = 0) (h_a_4_22 : ar S 4 22 = 0) (h_a_4_32 : ar S 4 32 = 0) (h_a_4_1 : ar S 4 1 = 0) (h_a_4_13 : ar S 4 13 = 0) (h_a_4_23 : ar S 4 23 = 0) (h_a_4_33 : ar S 4 33 = 0) (h_a_4_15 : ar S 4 15 = 0) (h_a_4_25 : ar S 4 25 = 0) (h_a_4_35 : ar S 4 35 = 0) (h_a_4_2 : ar S 4 2 = 0) (h_a_4_16 : ar S 4 16 = 0) (h_a_4_26 : ar S 4 26 = 0) (h_a_4_36 : ar S 4 36 = 0) (h_a_4_17 : ar S 4 17 = 0) (h_a_4_27 : ar S 4 27 = 0) (h_a_4_37 : ar S 4 37 = 0) (h_a_10_0 : ar S 10 0 = 0) (h_a_9_50 : ar S 9 50 = 0) (h_a_9_40 : ar S 9 40 = 3) (h_a_9_41 : ar S 9 41 = 3) (h_a_9_42 : ar S 9 42 = 3) (h_a_9_0 : ar S 9 0 = 0) (h_a_9_11 : ar S 9 11 = 0) (h_a_9_21 : ar S 9 21 = 0) (h_a_9_31 : ar S 9 31 = 0) (h_a_9_12 : ar S 9 12 = 0) (h_a_9_22 : ar S 9 22 = 0) (h_a_9_32 : ar S 9 32 = 0) (h_a_9_1 : ar S 9 1 = 0) (h_a_9_13 : ar S 9 13 = 0) (h_a_9_23 : ar S 9 23 = 0) (h_a_9_33 : ar S 9 33 = 0) (h_a_9_15 : ar S 9 15 = 0) (h_a_9_25 : ar S 9 25 = 0) (h_a_9_35 : ar S 9 35 = 0) (h_a_9_2 : ar S 9 2 = 0) (h_a_9_16 : ar S 9 16 = 0) (h_a_9_26 : ar S 9 26 = 0) (h_a_9_36 : ar S 9 36 = 0) (h_a_9_17 : ar S 9 17 = 0) (h_a_9_27 : ar S 9 27 = 0) (h_a_9_37 : ar S 9 37 = 0) (hr_p0 : 1 ≤ p0.toInt ∧ p0.toInt ≤ 3) (hr_p1 : 1 ≤ p1.toInt ∧ p1.toInt ≤ 6) (hr_p2 : 2 ≤ p2.toInt ∧ p2.toInt ≤ 7) : Ct l D cy T0 tB tE yX11_gain cX11_gain 7 (some .int) 5 117 0 0 (cw cy tE a rw S) [.ref (a 0), .int 0, .int p0, .int p1, .int p2] (QI D (U := GS) (fun r u => (((0 ≤ p2.toInt) ∧ (((0 < ((fi (su (si (su (su (sv (sa (si (si (si (si S 24 1) 19 p0) 20 p1) 21 7) 13 (fil 1024 0 (ar (si (si (si (si S 24 1) 19 p0) 20 p1) 21 7) 13))) 2 0 4128768) 11 0 (-1)) 12 0 (-1)) 25 1) 13 978 1) 20) : Int32).toInt))) ∧ (p2.toInt ≠ 0) ∧ (p2.toInt ≠ 1)) ∧ (-100) = r ∧ (si (su (si (su (su (sv (sa (si (si (si (si S 24 1) 19 p0) 20 p1) 21 7) 13 (fil 1024 0 (ar (si (si (si (si S 24 1) 19 p0) 20 p1) 21 7) 13))) 2 0 4128768) 11 0 (-1)) 12 0 (-1)) 25 1) 13 978 1) 23 1) = u) ∨ (((0 ≤ p2.toInt) ∧ (((((fi (su (si (su (su (sv (sa (si (si (si (si S 24 1) 19 p0) 20 p1) 21 7) 13 (fil 1024 0 (ar (si (si (si (si S 24 1) 19 p0) 20 p1) 21 7) 13))) 2 0 4128768) 11 0 (-1)) 12 0 (-1)) 25 1) 13 978 1) 20) : Int32).toInt ≤ 0))) ∧ (p2.toInt ≠ 0) ∧ (p2.toInt ≠ 1)) ∧ (-100) = r ∧ (su (si (su (su (sv (sa (si (si (si (si S 24 1) 19 p0) 20 p1) 21 7) 13 (fil 1024 0 (ar (si (si (si (si S 24 1) 19 p0) 20 p1) 21 7) 13))) 2 0 4128768) 11 0 (-1)) 12 0 (-1)) 25 1) 13 978 1) = u)) (cw cy tE a rw)) := by
  refine Ct.ofZ RX11 "gain" [(0, .ref (a 0)), (1, .int 0), (2, .int p0), (3, .int p1), (4, .int p2)] rfl rfl rfl rfl (Nat.le_of_ble_eq_true rfl) ?_
  intro p e R s m args below meth c A b
  refine z_iload_n b dX11_gain_0 rfl rfl ?_
  refine z_calli b (z_runS (As := [.int 0]) (st := []) b (c_X11_isPerson_3 S ) cf_X11_isPerson wm_X11_69 ws_X11_isPerson dX11_gain_1 rfl (Nat.le_of_ble_eq_true rfl) ⟨by decide, by decide, by decide, by decide⟩) (fun r12351 u12352 h12350 => ?_)
  obtain ⟨rfl, rfl⟩ := h12350
  refine z_if_eq_f (tgt := 26) b dX11_gain_4 (by decide) (by decide) ?_
  refine z_iload_n b dX11_gain_7 rfl rfl ?_
  refine z_calli b (z_runS (As := [.int p0]) (st := []) b (c_X11_areLaws_3 S p0 ⟨by omega, by omega⟩) cf_X11_areLaws wm_X11_181 ws_X11_areLaws dX11_gain_8 rfl (Nat.le_of_ble_eq_true rfl) ⟨by decide, by decide, by decide, by decide⟩) (fun r12354 u12355 h12353 => ?_)
  obtain ⟨rfl, rfl⟩ := h12353
  refine z_if_eq_f (tgt := 26) b dX11_gain_11 (by decide) (by decide) ?_
  refine z_iload_n b dX11_gain_14 rfl rfl ?_
  refine z_calli b (z_runS (As := [.int p1]) (st := []) b (c_X11_isDepth_3 S p1 ⟨by omega, by omega⟩) cf_X11_isDepth wm_X11_203 ws_X11_isDepth dX11_gain_15 rfl (Nat.le_of_ble_eq_true rfl) ⟨by decide, by decide, by decide, by decide⟩) (fun r12357 u12358 h12356 => ?_)
  obtain ⟨rfl, rfl⟩ := h12356
  refine z_if_eq_f (tgt := 26) b dX11_gain_18 (by decide) (by decide) ?_
  refine z_iload b dX11_gain_21 rfl ?_
  refine y_if_ge (tgt := 29) (xl := p2.toInt) b rfl dX11_gain_23 (by decide) (fun c12359 => ?_) (fun c12359 => ?_)
  · refine z_aload_n b dX11_gain_29 rfl rfl ?_
    refine z_get (q0 := 0) (k9 := 6) (v := .ref (a 25)) b (cw_0 cy tE a rw S) rfl in_X11 (by decide) wf_X11_52 rfl dX11_gain_30 ?_
    refine z_iload_n b dX11_gain_33 rfl rfl ?_
    refine z_iload_n b dX11_gain_34 rfl rfl ?_
    refine z_bipush (v := 7) b dX11_gain_35 (by decide) ?_
    refine z_iconst (v := 0) b dX11_gain_37 (by decide) ?_
    refine z_callv b (z_runV (q0 := 25) (As := [.int p0, .int p1, .int 7, .int 0]) (st := []) b (c_X8_begin_2 S p0 p1 h_i_19 h_i_24 h_i_22 h_i_18 h_i_25 h_i_23 h_i_26 h_a_4_50 h_a_4_40 h_a_4_41 h_a_4_42 h_a_4_0 h_a_4_11 h_a_4_21 h_a_4_31 h_a_4_12 h_a_4_22 h_a_4_32 h_a_4_1 h_a_4_13 h_a_4_23 h_a_4_33 h_a_4_15 h_a_4_25 h_a_4_35 h_a_4_2 h_a_4_16 h_a_4_26 h_a_4_36 h_a_4_17 h_a_4_27 h_a_4_37 h_a_10_0 ⟨by omega, by omega⟩ ⟨by omega, by omega⟩) cf_X8_begin (cw_25 cy tE a rw S) rfl wm_X11_206 wi_X8_begin ws_X8_begin dX11_gain_38 rfl (Nat.le_of_ble_eq_true rfl) ⟨by decide, by decide, by decide, by decide⟩) (fun u12362 h12360 => ?_)
    obtain rfl := h12360
    refine z_aload_n b dX11_gain_41 rfl rfl ?_
    refine z_get (q0 := 0) (k9 := 6) (v := .ref (a 25)) b (cw_0 cy tE a rw (su (si (su (su (sv (sa (si (si (si (si S 24 1) 19 p0) 20 p1) 21 7) 13 (fil 1024 0 (ar (si (si (si (si S 24 1) 19 p0) 20 p1) 21 7) 13))) 2 0 4128768) 11 0 (-1)) 12 0 (-1)) 25 1) 13 978 1)) rfl in_X11 (by decide) wf_X11_52 rfl dX11_gain_42 ?_
    refine z_callv b (z_runV (q0 := 25) (As := []) (st := []) b (c_X8_finish_2 (su (si (su (su (sv (sa (si (si (si (si S 24 1) 19 p0) 20 p1) 21 7) 13 (fil 1024 0 (ar (si (si (si (si S 24 1) 19 p0) 20 p1) 21 7) 13))) 2 0 4128768) 11 0 (-1)) 12 0 (-1)) 25 1) 13 978 1) h_i_26 h_i_23 rfl h_a_10_0 rfl h_a_9_50 h_a_9_40 h_a_9_41 h_a_9_42 h_a_9_0 h_a_9_11 h_a_9_21 h_a_9_31 h_a_9_12 h_a_9_22 h_a_9_32 h_a_9_1 h_a_9_13 h_a_9_23 h_a_9_33 h_a_9_15 h_a_9_25 h_a_9_35 h_a_9_2 h_a_9_16 h_a_9_26 h_a_9_36 h_a_9_17 h_a_9_27 h_a_9_37 h_i_18) cf_X8_finish (cw_25 cy tE a rw (su (si (su (su (sv (sa (si (si (si (si S 24 1) 19 p0) 20 p1) 21 7) 13 (fil 1024 0 (ar (si (si (si (si S 24 1) 19 p0) 20 p1) 21 7) 13))) 2 0 4128768) 11 0 (-1)) 12 0 (-1)) 25 1) 13 978 1)) rfl wm_X11_232 wi_X8_finish ws_X8_finish dX11_gain_45 rfl (Nat.le_of_ble_eq_true rfl) ⟨by decide, by decide, by decide, by decide⟩) (fun u12365 h12363 => ?_)
    rcases h12363 with ⟨c12366, rfl⟩ | ⟨c12367, rfl⟩
    · refine z_aload_n b dX11_gain_48 rfl rfl ?_
      refine z_get (q0 := 0) (k9 := 6) (v := .ref (a 25)) b (cw_0 cy tE a rw (si (su (si (su (su (sv (sa (si (si (si (si S 24 1) 19 p0) 20 p1) 21 7) 13 (fil 1024 0 (ar (si (si (si (si S 24 1) 19 p0) 20 p1) 21 7) 13))) 2 0 4128768) 11 0 (-1)) 12 0 (-1)) 25 1) 13 978 1) 23 1)) rfl in_X11 (by decide) wf_X11_52 rfl dX11_gain_49 ?_
      refine z_get (q0 := 25) (k9 := 18) (v := .int (fi (si (su (si (su (su (sv (sa (si (si (si (si S 24 1) 19 p0) 20 p1) 21 7) 13 (fil 1024 0 (ar (si (si (si (si S 24 1) 19 p0) 20 p1) 21 7) 13))) 2 0 4128768) 11 0 (-1)) 12 0 (-1)) 25 1) 13 978 1) 23 1) 26)) b (cw_25 cy tE a rw (si (su (si (su (su (sv (sa (si (si (si (si S 24 1) 19 p0) 20 p1) 21 7) 13 (fil 1024 0 (ar (si (si (si (si S 24 1) 19 p0) 20 p1) 21 7) 13))) 2 0 4128768) 11 0 (-1)) 12 0 (-1)) 25 1) 13 978 1) 23 1)) rfl in_X8 (by decide) wf_X11_214 rfl dX11_gain_52 ?_
      refine z_eqi h_i_26 ?_
      refine z_if_eq_t (tgt := 61) b dX11_gain_55 (by decide) (by decide) ?_
      refine z_aload_n b dX11_gain_61 rfl rfl ?_
      refine z_get (q0 := 0) (k9 := 6) (v := .ref (a 25)) b (cw_0 cy tE a rw (si (su (si (su (su (sv (sa (si (si (si (si S 24 1) 19 p0) 20 p1) 21 7) 13 (fil 1024 0 (ar (si (si (si (si S 24 1) 19 p0) 20 p1) 21 7) 13))) 2 0 4128768) 11 0 (-1)) 12 0 (-1)) 25 1) 13 978 1) 23 1)) rfl in_X11 (by decide) wf_X11_52 rfl dX11_gain_62 ?_
      refine z_iload_n b dX11_gain_65 rfl rfl ?_
      refine z_calli b (z_runV (q0 := 25) (As := [.int 0]) (st := []) b (c_X8_richest (si (su (si (su (su (sv (sa (si (si (si (si S 24 1) 19 p0) 20 p1) 21 7) 13 (fil 1024 0 (ar (si (si (si (si S 24 1) 19 p0) 20 p1) 21 7) 13))) 2 0 4128768) 11 0 (-1)) 12 0 (-1)) 25 1) 13 978 1) 23 1) rfl rfl h_a_9_50 h_a_9_40 h_a_9_41 h_a_9_42 h_a_9_0 h_a_9_11 h_a_9_21 h_a_9_31 h_a_9_12 h_a_9_22 h_a_9_32 h_a_9_1 h_a_9_13 h_a_9_23 h_a_9_33 h_a_9_15 h_a_9_25 h_a_9_35 h_a_9_2 h_a_9_16 h_a_9_26 h_a_9_36 h_a_9_17 h_a_9_27 h_a_9_37) cf_X8_richest (cw_25 cy tE a rw (si (su (si (su (su (sv (sa (si (si (si (si S 24 1) 19 p0) 20 p1) 21 7) 13 (fil 1024 0 (ar (si (si (si (si S 24 1) 19 p0) 20 p1) 21 7) 13))) 2 0 4128768) 11 0 (-1)) 12 0 (-1)) 25 1) 13 978 1) 23 1)) rfl wm_X11_238 wi_X8_richest ws_X8_richest dX11_gain_66 rfl (Nat.le_of_ble_eq_true rfl) ⟨by decide, by decide, by decide, by decide⟩) (fun r12369 u12370 h12368 => ?_)
      obtain ⟨rfl, rfl⟩ := h12368
      refine z_istore (lv' := [(5, .int 0), (0, .ref (a 0)), (1, .int 0), (2, .int p0), (3, .int p1), (4, .int p2)]) b dX11_gain_69 (by decide) rfl ?_
      refine z_iload b dX11_gain_71 rfl ?_
      refine y_if_ne (tgt := 87) (xl := p2.toInt) b rfl dX11_gain_73 (by decide) (fun c12371 => ?_) (fun c12371 => ?_)
      · refine z_iload b dX11_gain_87 rfl ?_
        refine z_iconst (v := 1) b dX11_gain_89 (by decide) ?_
        refine y_icmp_ne (tgt := 103) (xl := p2.toInt) (yl := 1) b rfl (by decide) dX11_gain_90 (by decide) (fun c12372 => ?_) (fun c12372 => ?_)
        · refine z_aload_n b dX11_gain_103 rfl rfl ?_
          refine z_get (q0 := 0) (k9 := 6) (v := .ref (a 25)) b (cw_0 cy tE a rw (si (su (si (su (su (sv (sa (si (si (si (si S 24 1) 19 p0) 20 p1) 21 7) 13 (fil 1024 0 (ar (si (si (si (si S 24 1) 19 p0) 20 p1) 21 7) 13))) 2 0 4128768) 11 0 (-1)) 12 0 (-1)) 25 1) 13 978 1) 23 1)) rfl in_X11 (by decide) wf_X11_52 rfl dX11_gain_104 ?_
          refine z_iload b dX11_gain_107 rfl ?_
          refine z_iload b dX11_gain_109 rfl ?_
          refine z_iconst (v := 2) b dX11_gain_111 (by decide) ?_
          refine z_isub b dX11_gain_112 rfl ?_
          have f12373 : ((p2 - 2) : Int32).toInt = p2.toInt + (-2) := zisub (k := 2) (by decide) (by omega) (by omega)
          refine z_calli b (z_runV (q0 := 25) (As := [.int 0, .int (p2 - 2)]) (st := []) b (c_X8_code (si (su (si (su (su (sv (sa (si (si (si (si S 24 1) 19 p0) 20 p1) 21 7) 13 (fil 1024 0 (ar (si (si (si (si S 24 1) 19 p0) 20 p1) 21 7) 13))) 2 0 4128768) 11 0 (-1)) 12 0 (-1)) 25 1) 13 978 1) 23 1) (p2 - 2) rfl h_a_10_0 ⟨by omega, by omega⟩) cf_X8_code (cw_25 cy tE a rw (si (su (si (su (su (sv (sa (si (si (si (si S 24 1) 19 p0) 20 p1) 21 7) 13 (fil 1024 0 (ar (si (si (si (si S 24 1) 19 p0) 20 p1) 21 7) 13))) 2 0 4128768) 11 0 (-1)) 12 0 (-1)) 25 1) 13 978 1) 23 1)) rfl wm_X11_219 wi_X8_code ws_X8_code dX11_gain_113 rfl (Nat.le_of_ble_eq_true rfl) ⟨by decide, by decide, by decide, by decide⟩) (fun r12375 u12376 h12374 => ?_)
          obtain ⟨rfl, rfl⟩ := h12374
          refine z_istore (lv' := [(6, .int (-1)), (5, .int 0), (0, .ref (a 0)), (1, .int 0), (2, .int p0), (3, .int p1), (4, .int p2)]) b dX11_gain_116 (by decide) rfl ?_
          refine z_iload b dX11_gain_118 rfl ?_
          refine z_iconst (v := (-1)) b dX11_gain_120 (by decide) ?_
          refine z_icmp_ne_f (tgt := 129) b dX11_gain_121 (by decide) (by decide) ?_
          refine z_bipush (v := (-100)) b dX11_gain_124 (by decide) ?_
          refine z_goto (tgt := 131) b dX11_gain_126 (by decide) ?_
          exact z_iret (u := (si (su (si (su (su (sv (sa (si (si (si (si S 24 1) 19 p0) 20 p1) 21 7) 13 (fil 1024 0 (ar (si (si (si (si S 24 1) 19 p0) 20 p1) 21 7) 13))) 2 0 4128768) 11 0 (-1)) 12 0 (-1)) 25 1) 13 978 1) 23 1)) b rfl dX11_gain_131 (Or.inl ⟨⟨c12359, c12366, c12371, c12372⟩, rfl, rfl⟩) rfl (by decide) (by decide)
        · exfalso; omega
      · exfalso; omega
    · refine z_aload_n b dX11_gain_48 rfl rfl ?_
      refine z_get (q0 := 0) (k9 := 6) (v := .ref (a 25)) b (cw_0 cy tE a rw (su (si (su (su (sv (sa (si (si (si (si S 24 1) 19 p0) 20 p1) 21 7) 13 (fil 1024 0 (ar (si (si (si (si S 24 1) 19 p0) 20 p1) 21 7) 13))) 2 0 4128768) 11 0 (-1)) 12 0 (-1)) 25 1) 13 978 1)) rfl in_X11 (by decide) wf_X11_52 rfl dX11_gain_49 ?_
      refine z_get (q0 := 25) (k9 := 18) (v := .int (fi (su (si (su (su (sv (sa (si (si (si (si S 24 1) 19 p0) 20 p1) 21 7) 13 (fil 1024 0 (ar (si (si (si (si S 24 1) 19 p0) 20 p1) 21 7) 13))) 2 0 4128768) 11 0 (-1)) 12 0 (-1)) 25 1) 13 978 1) 26)) b (cw_25 cy tE a rw (su (si (su (su (sv (sa (si (si (si (si S 24 1) 19 p0) 20 p1) 21 7) 13 (fil 1024 0 (ar (si (si (si (si S 24 1) 19 p0) 20 p1) 21 7) 13))) 2 0 4128768) 11 0 (-1)) 12 0 (-1)) 25 1) 13 978 1)) rfl in_X8 (by decide) wf_X11_214 rfl dX11_gain_52 ?_
      refine z_eqi h_i_26 ?_
      refine z_if_eq_t (tgt := 61) b dX11_gain_55 (by decide) (by decide) ?_
      refine z_aload_n b dX11_gain_61 rfl rfl ?_
      refine z_get (q0 := 0) (k9 := 6) (v := .ref (a 25)) b (cw_0 cy tE a rw (su (si (su (su (sv (sa (si (si (si (si S 24 1) 19 p0) 20 p1) 21 7) 13 (fil 1024 0 (ar (si (si (si (si S 24 1) 19 p0) 20 p1) 21 7) 13))) 2 0 4128768) 11 0 (-1)) 12 0 (-1)) 25 1) 13 978 1)) rfl in_X11 (by decide) wf_X11_52 rfl dX11_gain_62 ?_
      refine z_iload_n b dX11_gain_65 rfl rfl ?_
      refine z_calli b (z_runV (q0 := 25) (As := [.int 0]) (st := []) b (c_X8_richest (su (si (su (su (sv (sa (si (si (si (si S 24 1) 19 p0) 20 p1) 21 7) 13 (fil 1024 0 (ar (si (si (si (si S 24 1) 19 p0) 20 p1) 21 7) 13))) 2 0 4128768) 11 0 (-1)) 12 0 (-1)) 25 1) 13 978 1) rfl rfl h_a_9_50 h_a_9_40 h_a_9_41 h_a_9_42 h_a_9_0 h_a_9_11 h_a_9_21 h_a_9_31 h_a_9_12 h_a_9_22 h_a_9_32 h_a_9_1 h_a_9_13 h_a_9_23 h_a_9_33 h_a_9_15 h_a_9_25 h_a_9_35 h_a_9_2 h_a_9_16 h_a_9_26 h_a_9_36 h_a_9_17 h_a_9_27 h_a_9_37) cf_X8_richest (cw_25 cy tE a rw (su (si (su (su (sv (sa (si (si (si (si S 24 1) 19 p0) 20 p1) 21 7) 13 (fil 1024 0 (ar (si (si (si (si S 24 1) 19 p0) 20 p1) 21 7) 13))) 2 0 4128768) 11 0 (-1)) 12 0 (-1)) 25 1) 13 978 1)) rfl wm_X11_238 wi_X8_richest ws_X8_richest dX11_gain_66 rfl (Nat.le_of_ble_eq_true rfl) ⟨by decide, by decide, by decide, by decide⟩) (fun r12378 u12379 h12377 => ?_)
      obtain ⟨rfl, rfl⟩ := h12377
      refine z_istore (lv' := [(5, .int 0), (0, .ref (a 0)), (1, .int 0), (2, .int p0), (3, .int p1), (4, .int p2)]) b dX11_gain_69 (by decide) rfl ?_
      refine z_iload b dX11_gain_71 rfl ?_
      refine y_if_ne (tgt := 87) (xl := p2.toInt) b rfl dX11_gain_73 (by decide) (fun c12380 => ?_) (fun c12380 => ?_)
      · refine z_iload b dX11_gain_87 rfl ?_
        refine z_iconst (v := 1) b dX11_gain_89 (by decide) ?_
        refine y_icmp_ne (tgt := 103) (xl := p2.toInt) (yl := 1) b rfl (by decide) dX11_gain_90 (by decide) (fun c12381 => ?_) (fun c12381 => ?_)
        · refine z_aload_n b dX11_gain_103 rfl rfl ?_
          refine z_get (q0 := 0) (k9 := 6) (v := .ref (a 25)) b (cw_0 cy tE a rw (su (si (su (su (sv (sa (si (si (si (si S 24 1) 19 p0) 20 p1) 21 7) 13 (fil 1024 0 (ar (si (si (si (si S 24 1) 19 p0) 20 p1) 21 7) 13))) 2 0 4128768) 11 0 (-1)) 12 0 (-1)) 25 1) 13 978 1)) rfl in_X11 (by decide) wf_X11_52 rfl dX11_gain_104 ?_
          refine z_iload b dX11_gain_107 rfl ?_
          refine z_iload b dX11_gain_109 rfl ?_
          refine z_iconst (v := 2) b dX11_gain_111 (by decide) ?_
          refine z_isub b dX11_gain_112 rfl ?_
          have f12382 : ((p2 - 2) : Int32).toInt = p2.toInt + (-2) := zisub (k := 2) (by decide) (by omega) (by omega)
          refine z_calli b (z_runV (q0 := 25) (As := [.int 0, .int (p2 - 2)]) (st := []) b (c_X8_code (su (si (su (su (sv (sa (si (si (si (si S 24 1) 19 p0) 20 p1) 21 7) 13 (fil 1024 0 (ar (si (si (si (si S 24 1) 19 p0) 20 p1) 21 7) 13))) 2 0 4128768) 11 0 (-1)) 12 0 (-1)) 25 1) 13 978 1) (p2 - 2) rfl h_a_10_0 ⟨by omega, by omega⟩) cf_X8_code (cw_25 cy tE a rw (su (si (su (su (sv (sa (si (si (si (si S 24 1) 19 p0) 20 p1) 21 7) 13 (fil 1024 0 (ar (si (si (si (si S 24 1) 19 p0) 20 p1) 21 7) 13))) 2 0 4128768) 11 0 (-1)) 12 0 (-1)) 25 1) 13 978 1)) rfl wm_X11_219 wi_X8_code ws_X8_code dX11_gain_113 rfl (Nat.le_of_ble_eq_true rfl) ⟨by decide, by decide, by decide, by decide⟩) (fun r12384 u12385 h12383 => ?_)
          obtain ⟨rfl, rfl⟩ := h12383
          refine z_istore (lv' := [(6, .int (-1)), (5, .int 0), (0, .ref (a 0)), (1, .int 0), (2, .int p0), (3, .int p1), (4, .int p2)]) b dX11_gain_116 (by decide) rfl ?_
          refine z_iload b dX11_gain_118 rfl ?_
          refine z_iconst (v := (-1)) b dX11_gain_120 (by decide) ?_
          refine z_icmp_ne_f (tgt := 129) b dX11_gain_121 (by decide) (by decide) ?_
          refine z_bipush (v := (-100)) b dX11_gain_124 (by decide) ?_
          refine z_goto (tgt := 131) b dX11_gain_126 (by decide) ?_
          exact z_iret (u := (su (si (su (su (sv (sa (si (si (si (si S 24 1) 19 p0) 20 p1) 21 7) 13 (fil 1024 0 (ar (si (si (si (si S 24 1) 19 p0) 20 p1) 21 7) 13))) 2 0 4128768) 11 0 (-1)) 12 0 (-1)) 25 1) 13 978 1)) b rfl dX11_gain_131 (Or.inr ⟨⟨c12359, c12367, c12380, c12381⟩, rfl, rfl⟩) rfl (by decide) (by decide)
        · exfalso; omega
      · exfalso; omega
  · exfalso; omega

set_option maxHeartbeats 4000000 in
set_option maxRecDepth 100000 in
theorem c_X12_gain_23 {l : Launch} {D : va_G} {cy : Nat → ClassId} {T0 tB tE : Nat} {a : Nat → Nat} (S : GS) (p0 : Int32) (p1 : Int32) (p2 : Int32) (h_i_21 : fi S 21 = 0) (h_i_23 : fi S 23 = 0) (h_l_0 : fl S 0 = 1649317774848) (h_a_29_992 : ar S 29 992 = (-1)) (h_a_28_0 : ar S 28 0 = 0) (h_a_7_0 : ar S 7 0 = 0) (h_a_7_1 : ar S 7 1 = 0) (h_a_4_7 : ar S 4 7 = 0) (h_a_1_7 : ar S 1 7 = 0) (h_a_4_6 : ar S 4 6 = 0) (h_a_1_6 : ar S 1 6 = 0) (h_a_3_6 : ar S 3 6 = 0) (h_a_3_2 : ar S 3 2 = 0) (h_a_2_2 : ar S 2 2 = 3) (h_a_0_2 : ar S 0 2 = 0) (h_a_4_3 : ar S 4 3 = 0) (h_a_1_3 : ar S 1 3 = 0) (h_a_4_5 : ar S 4 5 = 0) (h_a_1_5 : ar S 1 5 = 0) (h_a_3_5 : ar S 3 5 = 0) (h_a_3_7 : ar S 3 7 = 0) (h_a_2_1 : ar S 2 1 = 3) (h_a_0_1 : ar S 0 1 = 0) (h_a_4_2 : ar S 4 2 = 0) (h_a_1_2 : ar S 1 2 = 0) (h_a_4_1 : ar S 4 1 = 0) (h_a_1_1 : ar S 1 1 = 0) (h_a_3_1 : ar S 3 1 = 0) (h_a_3_3 : ar S 3 3 = 0) (h_a_2_0 : ar S 2 0 = 3) (h_a_0_0 : ar S 0 0 = 0) (h_i_0 : fi S 0 = 0) (hr_p0 : 1 ≤ p0.toInt ∧ p0.toInt ≤ 3) (hr_p1 : 1 ≤ p1.toInt ∧ p1.toInt ≤ 6) (hr_p2 : 2 ≤ p2.toInt ∧ p2.toInt ≤ 7) : Ct l D cy T0 tB tE yX12_gain cX12_gain 9 (some .int) 4 99 0 0 (mw cy a S) [.ref (a 0), .int 0, .int p0, .int p1, .int p2] (QI D (U := GS) (fun r u => (-100) = r ∧ (si (su (su (sv (su (su (si S 22 (-1)) 29 992 0) 30 0 992) 0 0 1649317774848) 26 0 (-1)) 27 0 (-1)) 21 1) = u) (mw cy a)) := by
  refine Ct.ofZ RX12 "gain" [(0, .ref (a 0)), (1, .int 0), (2, .int p0), (3, .int p1), (4, .int p2)] rfl rfl rfl rfl (Nat.le_of_ble_eq_true rfl) ?_
  intro p e R s m args below meth c A b
  refine z_iload_n b dX12_gain_0 rfl rfl ?_
  refine z_calli b (z_runS (As := [.int 0]) (st := []) b (c_X12_isOne_3 S ) cf_X12_isOne wm_X12_170 ws_X12_isOne dX12_gain_1 rfl (Nat.le_of_ble_eq_true rfl) ⟨by decide, by decide, by decide, by decide⟩) (fun r12387 u12388 h12386 => ?_)
  obtain ⟨rfl, rfl⟩ := h12386
  refine z_if_eq_f (tgt := 27) b dX12_gain_4 (by decide) (by decide) ?_
  refine z_aload_n b dX12_gain_7 rfl rfl ?_
  refine z_iload_n b dX12_gain_8 rfl rfl ?_
  refine z_iload_n b dX12_gain_9 rfl rfl ?_
  refine z_calli b (z_runV (q0 := 0) (As := [.int p0, .int p1]) (st := []) b (c_X12_canSearch_5 S p0 p1 ⟨by omega, by omega⟩ ⟨by omega, by omega⟩) cf_X12_canSearch (mw_0 cy a S) rfl wm_X12_433 wi_X12_canSearch ws_X12_canSearch dX12_gain_10 rfl (Nat.le_of_ble_eq_true rfl) ⟨by decide, by decide, by decide, by decide⟩) (fun r12390 u12391 h12389 => ?_)
  obtain ⟨rfl, rfl⟩ := h12389
  refine z_if_eq_f (tgt := 27) b dX12_gain_13 (by decide) (by decide) ?_
  refine z_iload b dX12_gain_16 rfl ?_
  refine z_iconst (v := 0) b dX12_gain_18 (by decide) ?_
  refine z_bipush (v := 7) b dX12_gain_19 (by decide) ?_
  refine z_calli b (z_runS (As := [.int p2, .int 0, .int 7]) (st := []) b (c_X12_isIn_61 S p2 ⟨by omega, by omega⟩) cf_X12_isIn wm_X12_1 ws_X12_isIn dX12_gain_21 rfl (Nat.le_of_ble_eq_true rfl) ⟨by decide, by decide, by decide, by decide⟩) (fun r12393 u12394 h12392 => ?_)
  obtain ⟨rfl, rfl⟩ := h12392
  refine z_if_ne_t (tgt := 30) b dX12_gain_24 (by decide) (by decide) ?_
  refine z_aload_n b dX12_gain_30 rfl rfl ?_
  refine z_iconst (v := (-1)) b dX12_gain_31 (by decide) ?_
  refine z_iload_n b dX12_gain_32 rfl rfl ?_
  refine z_iload_n b dX12_gain_33 rfl rfl ?_
  refine z_bipush (v := 7) b dX12_gain_34 (by decide) ?_
  refine z_iconst (v := 0) b dX12_gain_36 (by decide) ?_
  refine z_callv b (z_runV (q0 := 0) (As := [.int (-1), .int p0, .int p1, .int 7, .int 0]) (st := []) b (c_X12_searches_2 S p0 p1 h_i_21 h_i_23 h_l_0 h_a_29_992 h_a_28_0 h_a_7_0 h_a_7_1 ⟨by omega, by omega⟩ ⟨by omega, by omega⟩) cf_X12_searches (mw_0 cy a S) rfl wm_X12_436 wi_X12_searches ws_X12_searches dX12_gain_37 rfl (Nat.le_of_ble_eq_true rfl) ⟨by decide, by decide, by decide, by decide⟩) (fun u12397 h12395 => ?_)
  obtain rfl := h12395
  refine z_aload_n b dX12_gain_40 rfl rfl ?_
  refine z_get (q0 := 0) (k9 := 57) (v := .int (fi (si (su (su (sv (su (su (si S 22 (-1)) 29 992 0) 30 0 992) 0 0 1649317774848) 26 0 (-1)) 27 0 (-1)) 21 1) 23)) b (mw_0 cy a (si (su (su (sv (su (su (si S 22 (-1)) 29 992 0) 30 0 992) 0 0 1649317774848) 26 0 (-1)) 27 0 (-1)) 21 1)) rfl in_X12 (by decide) wf_X12_408 rfl dX12_gain_41 ?_
  refine z_eqi h_i_23 ?_
  refine z_if_eq_t (tgt := 50) b dX12_gain_44 (by decide) (by decide) ?_
  refine z_iconst (v := (-1)) b dX12_gain_50 (by decide) ?_
  refine z_istore (lv' := [(5, .int (-1)), (0, .ref (a 0)), (1, .int 0), (2, .int p0), (3, .int p1), (4, .int p2)]) b dX12_gain_51 (by decide) rfl ?_
  refine z_iconst (v := 0) b dX12_gain_53 (by decide) ?_
  refine z_istore (lv' := [(6, .int 0), (5, .int (-1)), (0, .ref (a 0)), (1, .int 0), (2, .int p0), (3, .int p1), (4, .int p2)]) b dX12_gain_54 (by decide) rfl ?_
  refine z_iconst (v := 0) b dX12_gain_56 (by decide) ?_
  refine z_istore (lv' := [(7, .int 0), (6, .int 0), (5, .int (-1)), (0, .ref (a 0)), (1, .int 0), (2, .int p0), (3, .int p1), (4, .int p2)]) b dX12_gain_57 (by decide) rfl ?_
  refine z_iload b dX12_gain_59 rfl ?_
  refine z_aload_n b dX12_gain_61 rfl rfl ?_
  refine z_get (q0 := 0) (k9 := 55) (v := .int 1) b (mw_0 cy a (si (su (su (sv (su (su (si S 22 (-1)) 29 992 0) 30 0 992) 0 0 1649317774848) 26 0 (-1)) 27 0 (-1)) 21 1)) rfl in_X12 (by decide) wf_X12_405 rfl dX12_gain_62 ?_
  refine z_icmp_ge_f (tgt := 147) b dX12_gain_65 (by decide) (by decide) ?_
  refine z_aload_n b dX12_gain_68 rfl rfl ?_
  refine z_aload_n b dX12_gain_69 rfl rfl ?_
  refine z_get (q0 := 0) (k9 := 49) (v := .ref (a 27)) b (mw_0 cy a (si (su (su (sv (su (su (si S 22 (-1)) 29 992 0) 30 0 992) 0 0 1649317774848) 26 0 (-1)) 27 0 (-1)) 21 1)) rfl in_X12 (by decide) wf_X12_97 rfl dX12_gain_70 ?_
  refine z_iload b dX12_gain_73 rfl ?_
  refine y_lald (q0 := 27) (j := 0) (v := 1649317774848) b (mw_27 cy a (si (su (su (sv (su (su (si S 22 (-1)) 29 992 0) 30 0 992) 0 0 1649317774848) 26 0 (-1)) 27 0 (-1)) 21 1)) (by decide) rfl dX12_gain_75 ?_
  refine z_callv b (z_runV (q0 := 0) (As := [.long 1649317774848]) (st := []) b (c_X12_takes (si (su (su (sv (su (su (si S 22 (-1)) 29 992 0) 30 0 992) 0 0 1649317774848) 26 0 (-1)) 27 0 (-1)) 21 1) h_a_4_7 h_a_1_7 h_a_4_6 h_a_1_6 h_a_3_6 h_a_3_2 h_a_2_2 h_a_0_2 h_a_4_3 h_a_1_3 h_a_4_5 h_a_1_5 h_a_3_5 h_a_3_7 h_a_2_1 h_a_0_1 h_a_4_2 h_a_1_2 h_a_4_1 h_a_1_1 h_a_3_1 h_a_3_3 h_a_2_0 h_a_0_0 h_i_0) cf_X12_takes (mw_0 cy a (si (su (su (sv (su (su (si S 22 (-1)) 29 992 0) 30 0 992) 0 0 1649317774848) 26 0 (-1)) 27 0 (-1)) 21 1)) rfl wm_X12_174 wi_X12_takes ws_X12_takes dX12_gain_76 rfl (Nat.le_of_ble_eq_true rfl) ⟨by decide, by decide, by decide, by decide⟩) (fun u12400 h12398 => ?_)
  obtain rfl := h12398
  refine z_aload_n b dX12_gain_79 rfl rfl ?_
  refine z_get (q0 := 0) (k9 := 0) (v := .ref (a 1)) b (mw_0 cy a (si (su (su (sv (su (su (si S 22 (-1)) 29 992 0) 30 0 992) 0 0 1649317774848) 26 0 (-1)) 27 0 (-1)) 21 1)) rfl in_X12 (by decide) wf_X12_13 rfl dX12_gain_80 ?_
  refine z_iload_n b dX12_gain_83 rfl rfl ?_
  refine y_iald (q0 := 1) (j := 0) (v := (ar (si (su (su (sv (su (su (si S 22 (-1)) 29 992 0) 30 0 992) 0 0 1649317774848) 26 0 (-1)) 27 0 (-1)) 21 1) 0 0)) b (mw_1 cy a (si (su (su (sv (su (su (si S 22 (-1)) 29 992 0) 30 0 992) 0 0 1649317774848) 26 0 (-1)) 27 0 (-1)) 21 1)) (by decide) rfl dX12_gain_84 ?_
  refine z_eqi h_a_0_0 ?_
  refine z_aload_n b dX12_gain_85 rfl rfl ?_
  refine z_get (q0 := 0) (k9 := 1) (v := .ref (a 2)) b (mw_0 cy a (si (su (su (sv (su (su (si S 22 (-1)) 29 992 0) 30 0 992) 0 0 1649317774848) 26 0 (-1)) 27 0 (-1)) 21 1)) rfl in_X12 (by decide) wf_X12_17 rfl dX12_gain_86 ?_
  refine z_iconst (v := 3) b dX12_gain_89 (by decide) ?_
  refine z_iload_n b dX12_gain_90 rfl rfl ?_
  refine z_imul (v := 0) b dX12_gain_91 (by decide) ?_
  refine z_iload_n b dX12_gain_92 rfl rfl ?_
  refine z_iconst (v := 0) b dX12_gain_93 (by decide) ?_
  refine z_calli b (z_runS (As := [.int 0, .int 0]) (st := [.int 0, .ref (a 2), .int 0]) b (c_X12_other_6 (si (su (su (sv (su (su (si S 22 (-1)) 29 992 0) 30 0 992) 0 0 1649317774848) 26 0 (-1)) 27 0 (-1)) 21 1) ) cf_X12_other wm_X12_160 ws_X12_other dX12_gain_94 rfl (Nat.le_of_ble_eq_true rfl) ⟨by decide, by decide, by decide, by decide⟩) (fun r12402 u12403 h12401 => ?_)
  obtain ⟨rfl, rfl⟩ := h12401
  refine z_iadd (v := 1) b dX12_gain_97 (by decide) ?_
  refine y_iald (q0 := 2) (j := 1) (v := (ar (si (su (su (sv (su (su (si S 22 (-1)) 29 992 0) 30 0 992) 0 0 1649317774848) 26 0 (-1)) 27 0 (-1)) 21 1) 1 1)) b (mw_2 cy a (si (su (su (sv (su (su (si S 22 (-1)) 29 992 0) 30 0 992) 0 0 1649317774848) 26 0 (-1)) 27 0 (-1)) 21 1)) (by decide) rfl dX12_gain_98 ?_
  refine z_eqi h_a_1_1 ?_
  refine z_isub (v := 0) b dX12_gain_99 (by decide) ?_
  refine z_aload_n b dX12_gain_100 rfl rfl ?_
  refine z_get (q0 := 0) (k9 := 1) (v := .ref (a 2)) b (mw_0 cy a (si (su (su (sv (su (su (si S 22 (-1)) 29 992 0) 30 0 992) 0 0 1649317774848) 26 0 (-1)) 27 0 (-1)) 21 1)) rfl in_X12 (by decide) wf_X12_17 rfl dX12_gain_101 ?_
  refine z_iconst (v := 3) b dX12_gain_104 (by decide) ?_
  refine z_iload_n b dX12_gain_105 rfl rfl ?_
  refine z_imul (v := 0) b dX12_gain_106 (by decide) ?_
  refine z_iload_n b dX12_gain_107 rfl rfl ?_
  refine z_iconst (v := 1) b dX12_gain_108 (by decide) ?_
  refine z_calli b (z_runS (As := [.int 0, .int 1]) (st := [.int 0, .ref (a 2), .int 0]) b (c_X12_other_5 (si (su (su (sv (su (su (si S 22 (-1)) 29 992 0) 30 0 992) 0 0 1649317774848) 26 0 (-1)) 27 0 (-1)) 21 1) ) cf_X12_other wm_X12_160 ws_X12_other dX12_gain_109 rfl (Nat.le_of_ble_eq_true rfl) ⟨by decide, by decide, by decide, by decide⟩) (fun r12405 u12406 h12404 => ?_)
  obtain ⟨rfl, rfl⟩ := h12404
  refine z_iadd (v := 2) b dX12_gain_112 (by decide) ?_
  refine y_iald (q0 := 2) (j := 2) (v := (ar (si (su (su (sv (su (su (si S 22 (-1)) 29 992 0) 30 0 992) 0 0 1649317774848) 26 0 (-1)) 27 0 (-1)) 21 1) 1 2)) b (mw_2 cy a (si (su (su (sv (su (su (si S 22 (-1)) 29 992 0) 30 0 992) 0 0 1649317774848) 26 0 (-1)) 27 0 (-1)) 21 1)) (by decide) rfl dX12_gain_113 ?_
  refine z_eqi h_a_1_2 ?_
  refine z_isub (v := 0) b dX12_gain_114 (by decide) ?_
  refine z_istore (lv' := [(8, .int 0), (7, .int 0), (6, .int 0), (5, .int (-1)), (0, .ref (a 0)), (1, .int 0), (2, .int p0), (3, .int p1), (4, .int p2)]) b dX12_gain_115 (by decide) rfl ?_
  refine z_iload b dX12_gain_117 rfl ?_
  refine z_iconst (v := (-1)) b dX12_gain_119 (by decide) ?_
  refine z_icmp_eq_t (tgt := 133) b dX12_gain_120 (by decide) (by decide) ?_
  refine z_iload b dX12_gain_133 rfl ?_
  refine z_istore (lv' := [(5, .int 0), (8, .int 0), (7, .int 0), (6, .int 0), (0, .ref (a 0)), (1, .int 0), (2, .int p0), (3, .int p1), (4, .int p2)]) b dX12_gain_135 (by decide) rfl ?_
  refine z_iload b dX12_gain_137 rfl ?_
  refine z_istore (lv' := [(6, .int 0), (5, .int 0), (8, .int 0), (7, .int 0), (0, .ref (a 0)), (1, .int 0), (2, .int p0), (3, .int p1), (4, .int p2)]) b dX12_gain_139 (by decide) rfl ?_
  refine z_iinc (k9 := 3) (v := 1) (lv' := [(7, .int 1), (6, .int 0), (5, .int 0), (8, .int 0), (0, .ref (a 0)), (1, .int 0), (2, .int p0), (3, .int p1), (4, .int p2)]) b dX12_gain_141 rfl (by decide) (by decide) rfl ?_
  refine z_goto (tgt := 59) b dX12_gain_144 (by decide) ?_
  refine z_iload b dX12_gain_59 rfl ?_
  refine z_aload_n b dX12_gain_61 rfl rfl ?_
  refine z_get (q0 := 0) (k9 := 55) (v := .int 1) b (mw_0 cy a (si (su (su (sv (su (su (si S 22 (-1)) 29 992 0) 30 0 992) 0 0 1649317774848) 26 0 (-1)) 27 0 (-1)) 21 1)) rfl in_X12 (by decide) wf_X12_405 rfl dX12_gain_62 ?_
  refine z_icmp_ge_t (tgt := 147) b dX12_gain_65 (by decide) (by decide) ?_
  refine z_iload b dX12_gain_147 rfl ?_
  refine z_iconst (v := 2) b dX12_gain_149 (by decide) ?_
  refine y_icmp_ge (tgt := 171) (xl := p2.toInt) (yl := 2) b rfl (by decide) dX12_gain_150 (by decide) (fun c12407 => ?_) (fun c12407 => ?_)
  · refine z_iload b dX12_gain_171 rfl ?_
    refine z_iconst (v := 2) b dX12_gain_173 (by decide) ?_
    refine z_isub b dX12_gain_174 rfl ?_
    have f12408 : ((p2 - 2) : Int32).toInt = p2.toInt + (-2) := zisub (k := 2) (by decide) (by omega) (by omega)
    refine z_aload_n b dX12_gain_175 rfl rfl ?_
    refine z_get (q0 := 0) (k9 := 52) (v := .ref (a 30)) b (mw_0 cy a (si (su (su (sv (su (su (si S 22 (-1)) 29 992 0) 30 0 992) 0 0 1649317774848) 26 0 (-1)) 27 0 (-1)) 21 1)) rfl in_X12 (by decide) wf_X12_107 rfl dX12_gain_176 ?_
    refine z_iload b dX12_gain_179 rfl ?_
    refine y_iald (q0 := 30) (j := 0) (v := (ar (si (su (su (sv (su (su (si S 22 (-1)) 29 992 0) 30 0 992) 0 0 1649317774848) 26 0 (-1)) 27 0 (-1)) 21 1) 28 0)) b (mw_30 cy a (si (su (su (sv (su (su (si S 22 (-1)) 29 992 0) 30 0 992) 0 0 1649317774848) 26 0 (-1)) 27 0 (-1)) 21 1)) (by decide) rfl dX12_gain_181 ?_
    refine z_eqi h_a_28_0 ?_
    refine y_icmp_ge (tgt := 198) (xl := ((p2 - 2) : Int32).toInt) (yl := 0) b rfl (by decide) dX12_gain_182 (by decide) (fun c12409 => ?_) (fun c12409 => ?_)
    · refine z_bipush (v := (-100)) b dX12_gain_198 (by decide) ?_
      exact z_iret (u := (si (su (su (sv (su (su (si S 22 (-1)) 29 992 0) 30 0 992) 0 0 1649317774848) 26 0 (-1)) 27 0 (-1)) 21 1)) b rfl dX12_gain_200 ⟨rfl, rfl⟩ rfl (by decide) (by decide)
    · exfalso; omega
  · exfalso; omega

set_option maxHeartbeats 4000000 in
set_option maxRecDepth 100000 in
theorem c_X11_gain_24 {l : Launch} {D : va_G} {cy : Nat → ClassId} {T0 tB tE : Nat} {a : Nat → Nat} {rw : Nat → Option Nat} (S : GS) (p0 : Int32) (p1 : Int32) (p2 : Int32) (h_i_19 : fi S 19 = 0) (h_i_24 : fi S 24 = 0) (h_i_22 : fi S 22 = 0) (h_i_18 : fi S 18 = 0) (h_i_25 : fi S 25 = 0) (h_i_23 : fi S 23 = 0) (h_i_26 : fi S 26 = 0) (h_a_4_50 : ar S 4 50 = 0) (h_a_4_40 : ar S 4 40 = 3) (h_a_4_41 : ar S 4 41 = 3) (h_a_4_42 : ar S 4 42 = 3) (h_a_4_0 : ar S 4 0 = 0) (h_a_4_11 : ar S 4 11 = 0) (h_a_4_21 : ar S 4 21 = 0) (h_a_4_31 : ar S 4 31 = 0) (h_a_4_12 : ar S 4 12 = 0) (h_a_4_22 : ar S 4 22 = 0) (h_a_4_32 : ar S 4 32 = 0) (h_a_4_1 : ar S 4 1 = 0) (h_a_4_13 : ar S 4 13 = 0) (h_a_4_23 : ar S 4 23 = 0) (h_a_4_33 : ar S 4 33 = 0) (h_a_4_15 : ar S 4 15 = 0) (h_a_4_25 : ar S 4 25 = 0) (h_a_4_35 : ar S 4 35 = 0) (h_a_4_2 : ar S 4 2 = 0) (h_a_4_16 : ar S 4 16 = 0) (h_a_4_26 : ar S 4 26 = 0) (h_a_4_36 : ar S 4 36 = 0) (h_a_4_17 : ar S 4 17 = 0) (h_a_4_27 : ar S 4 27 = 0) (h_a_4_37 : ar S 4 37 = 0) (h_a_10_0 : ar S 10 0 = 0) (h_a_9_50 : ar S 9 50 = 0) (h_a_9_40 : ar S 9 40 = 3) (h_a_9_41 : ar S 9 41 = 3) (h_a_9_42 : ar S 9 42 = 3) (h_a_9_0 : ar S 9 0 = 0) (h_a_9_11 : ar S 9 11 = 0) (h_a_9_21 : ar S 9 21 = 0) (h_a_9_31 : ar S 9 31 = 0) (h_a_9_12 : ar S 9 12 = 0) (h_a_9_22 : ar S 9 22 = 0) (h_a_9_32 : ar S 9 32 = 0) (h_a_9_1 : ar S 9 1 = 0) (h_a_9_13 : ar S 9 13 = 0) (h_a_9_23 : ar S 9 23 = 0) (h_a_9_33 : ar S 9 33 = 0) (h_a_9_15 : ar S 9 15 = 0) (h_a_9_25 : ar S 9 25 = 0) (h_a_9_35 : ar S 9 35 = 0) (h_a_9_2 : ar S 9 2 = 0) (h_a_9_16 : ar S 9 16 = 0) (h_a_9_26 : ar S 9 26 = 0) (h_a_9_36 : ar S 9 36 = 0) (h_a_9_17 : ar S 9 17 = 0) (h_a_9_27 : ar S 9 27 = 0) (h_a_9_37 : ar S 9 37 = 0) (hr_p0 : 1 ≤ p0.toInt ∧ p0.toInt ≤ 3) (hr_p1 : 1 ≤ p1.toInt ∧ p1.toInt ≤ 6) (hr_p2 : 8 ≤ p2.toInt ∧ p2.toInt ≤ 2147483647) : Ct l D cy T0 tB tE yX11_gain cX11_gain 7 (some .int) 5 117 0 0 (cw cy tE a rw S) [.ref (a 0), .int 0, .int p0, .int p1, .int p2] (QI D (U := GS) (fun r u => (((0 ≤ p2.toInt) ∧ (((0 < ((fi (su (si (su (su (sv (sa (si (si (si (si S 24 1) 19 p0) 20 p1) 21 7) 13 (fil 1024 0 (ar (si (si (si (si S 24 1) 19 p0) 20 p1) 21 7) 13))) 2 0 4128768) 11 0 (-1)) 12 0 (-1)) 25 1) 13 978 1) 20) : Int32).toInt))) ∧ (p2.toInt ≠ 0) ∧ (p2.toInt ≠ 1)) ∧ (-100) = r ∧ (si (su (si (su (su (sv (sa (si (si (si (si S 24 1) 19 p0) 20 p1) 21 7) 13 (fil 1024 0 (ar (si (si (si (si S 24 1) 19 p0) 20 p1) 21 7) 13))) 2 0 4128768) 11 0 (-1)) 12 0 (-1)) 25 1) 13 978 1) 23 1) = u) ∨ (((0 ≤ p2.toInt) ∧ (((((fi (su (si (su (su (sv (sa (si (si (si (si S 24 1) 19 p0) 20 p1) 21 7) 13 (fil 1024 0 (ar (si (si (si (si S 24 1) 19 p0) 20 p1) 21 7) 13))) 2 0 4128768) 11 0 (-1)) 12 0 (-1)) 25 1) 13 978 1) 20) : Int32).toInt ≤ 0))) ∧ (p2.toInt ≠ 0) ∧ (p2.toInt ≠ 1)) ∧ (-100) = r ∧ (su (si (su (su (sv (sa (si (si (si (si S 24 1) 19 p0) 20 p1) 21 7) 13 (fil 1024 0 (ar (si (si (si (si S 24 1) 19 p0) 20 p1) 21 7) 13))) 2 0 4128768) 11 0 (-1)) 12 0 (-1)) 25 1) 13 978 1) = u)) (cw cy tE a rw)) := by
  refine Ct.ofZ RX11 "gain" [(0, .ref (a 0)), (1, .int 0), (2, .int p0), (3, .int p1), (4, .int p2)] rfl rfl rfl rfl (Nat.le_of_ble_eq_true rfl) ?_
  intro p e R s m args below meth c A b
  refine z_iload_n b dX11_gain_0 rfl rfl ?_
  refine z_calli b (z_runS (As := [.int 0]) (st := []) b (c_X11_isPerson_3 S ) cf_X11_isPerson wm_X11_69 ws_X11_isPerson dX11_gain_1 rfl (Nat.le_of_ble_eq_true rfl) ⟨by decide, by decide, by decide, by decide⟩) (fun r12411 u12412 h12410 => ?_)
  obtain ⟨rfl, rfl⟩ := h12410
  refine z_if_eq_f (tgt := 26) b dX11_gain_4 (by decide) (by decide) ?_
  refine z_iload_n b dX11_gain_7 rfl rfl ?_
  refine z_calli b (z_runS (As := [.int p0]) (st := []) b (c_X11_areLaws_3 S p0 ⟨by omega, by omega⟩) cf_X11_areLaws wm_X11_181 ws_X11_areLaws dX11_gain_8 rfl (Nat.le_of_ble_eq_true rfl) ⟨by decide, by decide, by decide, by decide⟩) (fun r12414 u12415 h12413 => ?_)
  obtain ⟨rfl, rfl⟩ := h12413
  refine z_if_eq_f (tgt := 26) b dX11_gain_11 (by decide) (by decide) ?_
  refine z_iload_n b dX11_gain_14 rfl rfl ?_
  refine z_calli b (z_runS (As := [.int p1]) (st := []) b (c_X11_isDepth_3 S p1 ⟨by omega, by omega⟩) cf_X11_isDepth wm_X11_203 ws_X11_isDepth dX11_gain_15 rfl (Nat.le_of_ble_eq_true rfl) ⟨by decide, by decide, by decide, by decide⟩) (fun r12417 u12418 h12416 => ?_)
  obtain ⟨rfl, rfl⟩ := h12416
  refine z_if_eq_f (tgt := 26) b dX11_gain_18 (by decide) (by decide) ?_
  refine z_iload b dX11_gain_21 rfl ?_
  refine y_if_ge (tgt := 29) (xl := p2.toInt) b rfl dX11_gain_23 (by decide) (fun c12419 => ?_) (fun c12419 => ?_)
  · refine z_aload_n b dX11_gain_29 rfl rfl ?_
    refine z_get (q0 := 0) (k9 := 6) (v := .ref (a 25)) b (cw_0 cy tE a rw S) rfl in_X11 (by decide) wf_X11_52 rfl dX11_gain_30 ?_
    refine z_iload_n b dX11_gain_33 rfl rfl ?_
    refine z_iload_n b dX11_gain_34 rfl rfl ?_
    refine z_bipush (v := 7) b dX11_gain_35 (by decide) ?_
    refine z_iconst (v := 0) b dX11_gain_37 (by decide) ?_
    refine z_callv b (z_runV (q0 := 25) (As := [.int p0, .int p1, .int 7, .int 0]) (st := []) b (c_X8_begin_2 S p0 p1 h_i_19 h_i_24 h_i_22 h_i_18 h_i_25 h_i_23 h_i_26 h_a_4_50 h_a_4_40 h_a_4_41 h_a_4_42 h_a_4_0 h_a_4_11 h_a_4_21 h_a_4_31 h_a_4_12 h_a_4_22 h_a_4_32 h_a_4_1 h_a_4_13 h_a_4_23 h_a_4_33 h_a_4_15 h_a_4_25 h_a_4_35 h_a_4_2 h_a_4_16 h_a_4_26 h_a_4_36 h_a_4_17 h_a_4_27 h_a_4_37 h_a_10_0 ⟨by omega, by omega⟩ ⟨by omega, by omega⟩) cf_X8_begin (cw_25 cy tE a rw S) rfl wm_X11_206 wi_X8_begin ws_X8_begin dX11_gain_38 rfl (Nat.le_of_ble_eq_true rfl) ⟨by decide, by decide, by decide, by decide⟩) (fun u12422 h12420 => ?_)
    obtain rfl := h12420
    refine z_aload_n b dX11_gain_41 rfl rfl ?_
    refine z_get (q0 := 0) (k9 := 6) (v := .ref (a 25)) b (cw_0 cy tE a rw (su (si (su (su (sv (sa (si (si (si (si S 24 1) 19 p0) 20 p1) 21 7) 13 (fil 1024 0 (ar (si (si (si (si S 24 1) 19 p0) 20 p1) 21 7) 13))) 2 0 4128768) 11 0 (-1)) 12 0 (-1)) 25 1) 13 978 1)) rfl in_X11 (by decide) wf_X11_52 rfl dX11_gain_42 ?_
    refine z_callv b (z_runV (q0 := 25) (As := []) (st := []) b (c_X8_finish_2 (su (si (su (su (sv (sa (si (si (si (si S 24 1) 19 p0) 20 p1) 21 7) 13 (fil 1024 0 (ar (si (si (si (si S 24 1) 19 p0) 20 p1) 21 7) 13))) 2 0 4128768) 11 0 (-1)) 12 0 (-1)) 25 1) 13 978 1) h_i_26 h_i_23 rfl h_a_10_0 rfl h_a_9_50 h_a_9_40 h_a_9_41 h_a_9_42 h_a_9_0 h_a_9_11 h_a_9_21 h_a_9_31 h_a_9_12 h_a_9_22 h_a_9_32 h_a_9_1 h_a_9_13 h_a_9_23 h_a_9_33 h_a_9_15 h_a_9_25 h_a_9_35 h_a_9_2 h_a_9_16 h_a_9_26 h_a_9_36 h_a_9_17 h_a_9_27 h_a_9_37 h_i_18) cf_X8_finish (cw_25 cy tE a rw (su (si (su (su (sv (sa (si (si (si (si S 24 1) 19 p0) 20 p1) 21 7) 13 (fil 1024 0 (ar (si (si (si (si S 24 1) 19 p0) 20 p1) 21 7) 13))) 2 0 4128768) 11 0 (-1)) 12 0 (-1)) 25 1) 13 978 1)) rfl wm_X11_232 wi_X8_finish ws_X8_finish dX11_gain_45 rfl (Nat.le_of_ble_eq_true rfl) ⟨by decide, by decide, by decide, by decide⟩) (fun u12425 h12423 => ?_)
    rcases h12423 with ⟨c12426, rfl⟩ | ⟨c12427, rfl⟩
    · refine z_aload_n b dX11_gain_48 rfl rfl ?_
      refine z_get (q0 := 0) (k9 := 6) (v := .ref (a 25)) b (cw_0 cy tE a rw (si (su (si (su (su (sv (sa (si (si (si (si S 24 1) 19 p0) 20 p1) 21 7) 13 (fil 1024 0 (ar (si (si (si (si S 24 1) 19 p0) 20 p1) 21 7) 13))) 2 0 4128768) 11 0 (-1)) 12 0 (-1)) 25 1) 13 978 1) 23 1)) rfl in_X11 (by decide) wf_X11_52 rfl dX11_gain_49 ?_
      refine z_get (q0 := 25) (k9 := 18) (v := .int (fi (si (su (si (su (su (sv (sa (si (si (si (si S 24 1) 19 p0) 20 p1) 21 7) 13 (fil 1024 0 (ar (si (si (si (si S 24 1) 19 p0) 20 p1) 21 7) 13))) 2 0 4128768) 11 0 (-1)) 12 0 (-1)) 25 1) 13 978 1) 23 1) 26)) b (cw_25 cy tE a rw (si (su (si (su (su (sv (sa (si (si (si (si S 24 1) 19 p0) 20 p1) 21 7) 13 (fil 1024 0 (ar (si (si (si (si S 24 1) 19 p0) 20 p1) 21 7) 13))) 2 0 4128768) 11 0 (-1)) 12 0 (-1)) 25 1) 13 978 1) 23 1)) rfl in_X8 (by decide) wf_X11_214 rfl dX11_gain_52 ?_
      refine z_eqi h_i_26 ?_
      refine z_if_eq_t (tgt := 61) b dX11_gain_55 (by decide) (by decide) ?_
      refine z_aload_n b dX11_gain_61 rfl rfl ?_
      refine z_get (q0 := 0) (k9 := 6) (v := .ref (a 25)) b (cw_0 cy tE a rw (si (su (si (su (su (sv (sa (si (si (si (si S 24 1) 19 p0) 20 p1) 21 7) 13 (fil 1024 0 (ar (si (si (si (si S 24 1) 19 p0) 20 p1) 21 7) 13))) 2 0 4128768) 11 0 (-1)) 12 0 (-1)) 25 1) 13 978 1) 23 1)) rfl in_X11 (by decide) wf_X11_52 rfl dX11_gain_62 ?_
      refine z_iload_n b dX11_gain_65 rfl rfl ?_
      refine z_calli b (z_runV (q0 := 25) (As := [.int 0]) (st := []) b (c_X8_richest (si (su (si (su (su (sv (sa (si (si (si (si S 24 1) 19 p0) 20 p1) 21 7) 13 (fil 1024 0 (ar (si (si (si (si S 24 1) 19 p0) 20 p1) 21 7) 13))) 2 0 4128768) 11 0 (-1)) 12 0 (-1)) 25 1) 13 978 1) 23 1) rfl rfl h_a_9_50 h_a_9_40 h_a_9_41 h_a_9_42 h_a_9_0 h_a_9_11 h_a_9_21 h_a_9_31 h_a_9_12 h_a_9_22 h_a_9_32 h_a_9_1 h_a_9_13 h_a_9_23 h_a_9_33 h_a_9_15 h_a_9_25 h_a_9_35 h_a_9_2 h_a_9_16 h_a_9_26 h_a_9_36 h_a_9_17 h_a_9_27 h_a_9_37) cf_X8_richest (cw_25 cy tE a rw (si (su (si (su (su (sv (sa (si (si (si (si S 24 1) 19 p0) 20 p1) 21 7) 13 (fil 1024 0 (ar (si (si (si (si S 24 1) 19 p0) 20 p1) 21 7) 13))) 2 0 4128768) 11 0 (-1)) 12 0 (-1)) 25 1) 13 978 1) 23 1)) rfl wm_X11_238 wi_X8_richest ws_X8_richest dX11_gain_66 rfl (Nat.le_of_ble_eq_true rfl) ⟨by decide, by decide, by decide, by decide⟩) (fun r12429 u12430 h12428 => ?_)
      obtain ⟨rfl, rfl⟩ := h12428
      refine z_istore (lv' := [(5, .int 0), (0, .ref (a 0)), (1, .int 0), (2, .int p0), (3, .int p1), (4, .int p2)]) b dX11_gain_69 (by decide) rfl ?_
      refine z_iload b dX11_gain_71 rfl ?_
      refine y_if_ne (tgt := 87) (xl := p2.toInt) b rfl dX11_gain_73 (by decide) (fun c12431 => ?_) (fun c12431 => ?_)
      · refine z_iload b dX11_gain_87 rfl ?_
        refine z_iconst (v := 1) b dX11_gain_89 (by decide) ?_
        refine y_icmp_ne (tgt := 103) (xl := p2.toInt) (yl := 1) b rfl (by decide) dX11_gain_90 (by decide) (fun c12432 => ?_) (fun c12432 => ?_)
        · refine z_aload_n b dX11_gain_103 rfl rfl ?_
          refine z_get (q0 := 0) (k9 := 6) (v := .ref (a 25)) b (cw_0 cy tE a rw (si (su (si (su (su (sv (sa (si (si (si (si S 24 1) 19 p0) 20 p1) 21 7) 13 (fil 1024 0 (ar (si (si (si (si S 24 1) 19 p0) 20 p1) 21 7) 13))) 2 0 4128768) 11 0 (-1)) 12 0 (-1)) 25 1) 13 978 1) 23 1)) rfl in_X11 (by decide) wf_X11_52 rfl dX11_gain_104 ?_
          refine z_iload b dX11_gain_107 rfl ?_
          refine z_iload b dX11_gain_109 rfl ?_
          refine z_iconst (v := 2) b dX11_gain_111 (by decide) ?_
          refine z_isub b dX11_gain_112 rfl ?_
          have f12433 : ((p2 - 2) : Int32).toInt = p2.toInt + (-2) := zisub (k := 2) (by decide) (by omega) (by omega)
          refine z_calli b (z_runV (q0 := 25) (As := [.int 0, .int (p2 - 2)]) (st := []) b (c_X8_code_2 (si (su (si (su (su (sv (sa (si (si (si (si S 24 1) 19 p0) 20 p1) 21 7) 13 (fil 1024 0 (ar (si (si (si (si S 24 1) 19 p0) 20 p1) 21 7) 13))) 2 0 4128768) 11 0 (-1)) 12 0 (-1)) 25 1) 13 978 1) 23 1) (p2 - 2) rfl h_a_10_0 ⟨by omega, by omega⟩) cf_X8_code (cw_25 cy tE a rw (si (su (si (su (su (sv (sa (si (si (si (si S 24 1) 19 p0) 20 p1) 21 7) 13 (fil 1024 0 (ar (si (si (si (si S 24 1) 19 p0) 20 p1) 21 7) 13))) 2 0 4128768) 11 0 (-1)) 12 0 (-1)) 25 1) 13 978 1) 23 1)) rfl wm_X11_219 wi_X8_code ws_X8_code dX11_gain_113 rfl (Nat.le_of_ble_eq_true rfl) ⟨by decide, by decide, by decide, by decide⟩) (fun r12435 u12436 h12434 => ?_)
          obtain ⟨rfl, rfl⟩ := h12434
          refine z_istore (lv' := [(6, .int (-1)), (5, .int 0), (0, .ref (a 0)), (1, .int 0), (2, .int p0), (3, .int p1), (4, .int p2)]) b dX11_gain_116 (by decide) rfl ?_
          refine z_iload b dX11_gain_118 rfl ?_
          refine z_iconst (v := (-1)) b dX11_gain_120 (by decide) ?_
          refine z_icmp_ne_f (tgt := 129) b dX11_gain_121 (by decide) (by decide) ?_
          refine z_bipush (v := (-100)) b dX11_gain_124 (by decide) ?_
          refine z_goto (tgt := 131) b dX11_gain_126 (by decide) ?_
          exact z_iret (u := (si (su (si (su (su (sv (sa (si (si (si (si S 24 1) 19 p0) 20 p1) 21 7) 13 (fil 1024 0 (ar (si (si (si (si S 24 1) 19 p0) 20 p1) 21 7) 13))) 2 0 4128768) 11 0 (-1)) 12 0 (-1)) 25 1) 13 978 1) 23 1)) b rfl dX11_gain_131 (Or.inl ⟨⟨c12419, c12426, c12431, c12432⟩, rfl, rfl⟩) rfl (by decide) (by decide)
        · exfalso; omega
      · exfalso; omega
    · refine z_aload_n b dX11_gain_48 rfl rfl ?_
      refine z_get (q0 := 0) (k9 := 6) (v := .ref (a 25)) b (cw_0 cy tE a rw (su (si (su (su (sv (sa (si (si (si (si S 24 1) 19 p0) 20 p1) 21 7) 13 (fil 1024 0 (ar (si (si (si (si S 24 1) 19 p0) 20 p1) 21 7) 13))) 2 0 4128768) 11 0 (-1)) 12 0 (-1)) 25 1) 13 978 1)) rfl in_X11 (by decide) wf_X11_52 rfl dX11_gain_49 ?_
      refine z_get (q0 := 25) (k9 := 18) (v := .int (fi (su (si (su (su (sv (sa (si (si (si (si S 24 1) 19 p0) 20 p1) 21 7) 13 (fil 1024 0 (ar (si (si (si (si S 24 1) 19 p0) 20 p1) 21 7) 13))) 2 0 4128768) 11 0 (-1)) 12 0 (-1)) 25 1) 13 978 1) 26)) b (cw_25 cy tE a rw (su (si (su (su (sv (sa (si (si (si (si S 24 1) 19 p0) 20 p1) 21 7) 13 (fil 1024 0 (ar (si (si (si (si S 24 1) 19 p0) 20 p1) 21 7) 13))) 2 0 4128768) 11 0 (-1)) 12 0 (-1)) 25 1) 13 978 1)) rfl in_X8 (by decide) wf_X11_214 rfl dX11_gain_52 ?_
      refine z_eqi h_i_26 ?_
      refine z_if_eq_t (tgt := 61) b dX11_gain_55 (by decide) (by decide) ?_
      refine z_aload_n b dX11_gain_61 rfl rfl ?_
      refine z_get (q0 := 0) (k9 := 6) (v := .ref (a 25)) b (cw_0 cy tE a rw (su (si (su (su (sv (sa (si (si (si (si S 24 1) 19 p0) 20 p1) 21 7) 13 (fil 1024 0 (ar (si (si (si (si S 24 1) 19 p0) 20 p1) 21 7) 13))) 2 0 4128768) 11 0 (-1)) 12 0 (-1)) 25 1) 13 978 1)) rfl in_X11 (by decide) wf_X11_52 rfl dX11_gain_62 ?_
      refine z_iload_n b dX11_gain_65 rfl rfl ?_
      refine z_calli b (z_runV (q0 := 25) (As := [.int 0]) (st := []) b (c_X8_richest (su (si (su (su (sv (sa (si (si (si (si S 24 1) 19 p0) 20 p1) 21 7) 13 (fil 1024 0 (ar (si (si (si (si S 24 1) 19 p0) 20 p1) 21 7) 13))) 2 0 4128768) 11 0 (-1)) 12 0 (-1)) 25 1) 13 978 1) rfl rfl h_a_9_50 h_a_9_40 h_a_9_41 h_a_9_42 h_a_9_0 h_a_9_11 h_a_9_21 h_a_9_31 h_a_9_12 h_a_9_22 h_a_9_32 h_a_9_1 h_a_9_13 h_a_9_23 h_a_9_33 h_a_9_15 h_a_9_25 h_a_9_35 h_a_9_2 h_a_9_16 h_a_9_26 h_a_9_36 h_a_9_17 h_a_9_27 h_a_9_37) cf_X8_richest (cw_25 cy tE a rw (su (si (su (su (sv (sa (si (si (si (si S 24 1) 19 p0) 20 p1) 21 7) 13 (fil 1024 0 (ar (si (si (si (si S 24 1) 19 p0) 20 p1) 21 7) 13))) 2 0 4128768) 11 0 (-1)) 12 0 (-1)) 25 1) 13 978 1)) rfl wm_X11_238 wi_X8_richest ws_X8_richest dX11_gain_66 rfl (Nat.le_of_ble_eq_true rfl) ⟨by decide, by decide, by decide, by decide⟩) (fun r12438 u12439 h12437 => ?_)
      obtain ⟨rfl, rfl⟩ := h12437
      refine z_istore (lv' := [(5, .int 0), (0, .ref (a 0)), (1, .int 0), (2, .int p0), (3, .int p1), (4, .int p2)]) b dX11_gain_69 (by decide) rfl ?_
      refine z_iload b dX11_gain_71 rfl ?_
      refine y_if_ne (tgt := 87) (xl := p2.toInt) b rfl dX11_gain_73 (by decide) (fun c12440 => ?_) (fun c12440 => ?_)
      · refine z_iload b dX11_gain_87 rfl ?_
        refine z_iconst (v := 1) b dX11_gain_89 (by decide) ?_
        refine y_icmp_ne (tgt := 103) (xl := p2.toInt) (yl := 1) b rfl (by decide) dX11_gain_90 (by decide) (fun c12441 => ?_) (fun c12441 => ?_)
        · refine z_aload_n b dX11_gain_103 rfl rfl ?_
          refine z_get (q0 := 0) (k9 := 6) (v := .ref (a 25)) b (cw_0 cy tE a rw (su (si (su (su (sv (sa (si (si (si (si S 24 1) 19 p0) 20 p1) 21 7) 13 (fil 1024 0 (ar (si (si (si (si S 24 1) 19 p0) 20 p1) 21 7) 13))) 2 0 4128768) 11 0 (-1)) 12 0 (-1)) 25 1) 13 978 1)) rfl in_X11 (by decide) wf_X11_52 rfl dX11_gain_104 ?_
          refine z_iload b dX11_gain_107 rfl ?_
          refine z_iload b dX11_gain_109 rfl ?_
          refine z_iconst (v := 2) b dX11_gain_111 (by decide) ?_
          refine z_isub b dX11_gain_112 rfl ?_
          have f12442 : ((p2 - 2) : Int32).toInt = p2.toInt + (-2) := zisub (k := 2) (by decide) (by omega) (by omega)
          refine z_calli b (z_runV (q0 := 25) (As := [.int 0, .int (p2 - 2)]) (st := []) b (c_X8_code_2 (su (si (su (su (sv (sa (si (si (si (si S 24 1) 19 p0) 20 p1) 21 7) 13 (fil 1024 0 (ar (si (si (si (si S 24 1) 19 p0) 20 p1) 21 7) 13))) 2 0 4128768) 11 0 (-1)) 12 0 (-1)) 25 1) 13 978 1) (p2 - 2) rfl h_a_10_0 ⟨by omega, by omega⟩) cf_X8_code (cw_25 cy tE a rw (su (si (su (su (sv (sa (si (si (si (si S 24 1) 19 p0) 20 p1) 21 7) 13 (fil 1024 0 (ar (si (si (si (si S 24 1) 19 p0) 20 p1) 21 7) 13))) 2 0 4128768) 11 0 (-1)) 12 0 (-1)) 25 1) 13 978 1)) rfl wm_X11_219 wi_X8_code ws_X8_code dX11_gain_113 rfl (Nat.le_of_ble_eq_true rfl) ⟨by decide, by decide, by decide, by decide⟩) (fun r12444 u12445 h12443 => ?_)
          obtain ⟨rfl, rfl⟩ := h12443
          refine z_istore (lv' := [(6, .int (-1)), (5, .int 0), (0, .ref (a 0)), (1, .int 0), (2, .int p0), (3, .int p1), (4, .int p2)]) b dX11_gain_116 (by decide) rfl ?_
          refine z_iload b dX11_gain_118 rfl ?_
          refine z_iconst (v := (-1)) b dX11_gain_120 (by decide) ?_
          refine z_icmp_ne_f (tgt := 129) b dX11_gain_121 (by decide) (by decide) ?_
          refine z_bipush (v := (-100)) b dX11_gain_124 (by decide) ?_
          refine z_goto (tgt := 131) b dX11_gain_126 (by decide) ?_
          exact z_iret (u := (su (si (su (su (sv (sa (si (si (si (si S 24 1) 19 p0) 20 p1) 21 7) 13 (fil 1024 0 (ar (si (si (si (si S 24 1) 19 p0) 20 p1) 21 7) 13))) 2 0 4128768) 11 0 (-1)) 12 0 (-1)) 25 1) 13 978 1)) b rfl dX11_gain_131 (Or.inr ⟨⟨c12419, c12427, c12440, c12441⟩, rfl, rfl⟩) rfl (by decide) (by decide)
        · exfalso; omega
      · exfalso; omega
  · exfalso; omega

set_option maxHeartbeats 4000000 in
set_option maxRecDepth 100000 in
theorem c_X12_gain_24 {l : Launch} {D : va_G} {cy : Nat → ClassId} {T0 tB tE : Nat} {a : Nat → Nat} (S : GS) (p0 : Int32) (p1 : Int32) (p2 : Int32)  (hr_p0 : 1 ≤ p0.toInt ∧ p0.toInt ≤ 3) (hr_p1 : 1 ≤ p1.toInt ∧ p1.toInt ≤ 6) (hr_p2 : 8 ≤ p2.toInt ∧ p2.toInt ≤ 2147483647) : Ct l D cy T0 tB tE yX12_gain cX12_gain 9 (some .int) 2 44 0 0 (mw cy a S) [.ref (a 0), .int 0, .int p0, .int p1, .int p2] (QI D (U := GS) (fun r u => (-100) = r ∧ S = u) (mw cy a)) := by
  refine Ct.ofZ RX12 "gain" [(0, .ref (a 0)), (1, .int 0), (2, .int p0), (3, .int p1), (4, .int p2)] rfl rfl rfl rfl (Nat.le_of_ble_eq_true rfl) ?_
  intro p e R s m args below meth c A b
  refine z_iload_n b dX12_gain_0 rfl rfl ?_
  refine z_calli b (z_runS (As := [.int 0]) (st := []) b (c_X12_isOne_3 S ) cf_X12_isOne wm_X12_170 ws_X12_isOne dX12_gain_1 rfl (Nat.le_of_ble_eq_true rfl) ⟨by decide, by decide, by decide, by decide⟩) (fun r12447 u12448 h12446 => ?_)
  obtain ⟨rfl, rfl⟩ := h12446
  refine z_if_eq_f (tgt := 27) b dX12_gain_4 (by decide) (by decide) ?_
  refine z_aload_n b dX12_gain_7 rfl rfl ?_
  refine z_iload_n b dX12_gain_8 rfl rfl ?_
  refine z_iload_n b dX12_gain_9 rfl rfl ?_
  refine z_calli b (z_runV (q0 := 0) (As := [.int p0, .int p1]) (st := []) b (c_X12_canSearch_5 S p0 p1 ⟨by omega, by omega⟩ ⟨by omega, by omega⟩) cf_X12_canSearch (mw_0 cy a S) rfl wm_X12_433 wi_X12_canSearch ws_X12_canSearch dX12_gain_10 rfl (Nat.le_of_ble_eq_true rfl) ⟨by decide, by decide, by decide, by decide⟩) (fun r12450 u12451 h12449 => ?_)
  obtain ⟨rfl, rfl⟩ := h12449
  refine z_if_eq_f (tgt := 27) b dX12_gain_13 (by decide) (by decide) ?_
  refine z_iload b dX12_gain_16 rfl ?_
  refine z_iconst (v := 0) b dX12_gain_18 (by decide) ?_
  refine z_bipush (v := 7) b dX12_gain_19 (by decide) ?_
  refine z_calli b (z_runS (As := [.int p2, .int 0, .int 7]) (st := []) b (c_X12_isIn_14 S p2 ⟨by omega, by omega⟩) cf_X12_isIn wm_X12_1 ws_X12_isIn dX12_gain_21 rfl (Nat.le_of_ble_eq_true rfl) ⟨by decide, by decide, by decide, by decide⟩) (fun r12453 u12454 h12452 => ?_)
  obtain ⟨rfl, rfl⟩ := h12452
  refine z_if_ne_f (tgt := 30) b dX12_gain_24 (by decide) (by decide) ?_
  refine z_bipush (v := (-100)) b dX12_gain_27 (by decide) ?_
  exact z_iret (u := S) b rfl dX12_gain_29 ⟨rfl, rfl⟩ rfl (by decide) (by decide)

set_option maxHeartbeats 4000000 in
set_option maxRecDepth 100000 in
theorem c_X11_gain_25 {l : Launch} {D : va_G} {cy : Nat → ClassId} {T0 tB tE : Nat} {a : Nat → Nat} {rw : Nat → Option Nat} (S : GS) (p0 : Int32) (p1 : Int32)  (hr_p0 : 1 ≤ p0.toInt ∧ p0.toInt ≤ 3) (hr_p1 : (-2147483648) ≤ p1.toInt ∧ p1.toInt ≤ (-1)) : Ct l D cy T0 tB tE yX11_gain cX11_gain 7 (some .int) 1 20 0 0 (cw cy tE a rw S) [.ref (a 0), .int 1, .int p0, .int 0, .int p1] (QI D (U := GS) (fun r u => (-100) = r ∧ S = u) (cw cy tE a rw)) := by
  refine Ct.ofZ RX11 "gain" [(0, .ref (a 0)), (1, .int 1), (2, .int p0), (3, .int 0), (4, .int p1)] rfl rfl rfl rfl (Nat.le_of_ble_eq_true rfl) ?_
  intro p e R s m args below meth c A b
  refine z_iload_n b dX11_gain_0 rfl rfl ?_
  refine z_calli b (z_runS (As := [.int 1]) (st := []) b (c_X11_isPerson_4 S ) cf_X11_isPerson wm_X11_69 ws_X11_isPerson dX11_gain_1 rfl (Nat.le_of_ble_eq_true rfl) ⟨by decide, by decide, by decide, by decide⟩) (fun r12456 u12457 h12455 => ?_)
  obtain ⟨rfl, rfl⟩ := h12455
  refine z_if_eq_f (tgt := 26) b dX11_gain_4 (by decide) (by decide) ?_
  refine z_iload_n b dX11_gain_7 rfl rfl ?_
  refine z_calli b (z_runS (As := [.int p0]) (st := []) b (c_X11_areLaws_3 S p0 ⟨by omega, by omega⟩) cf_X11_areLaws wm_X11_181 ws_X11_areLaws dX11_gain_8 rfl (Nat.le_of_ble_eq_true rfl) ⟨by decide, by decide, by decide, by decide⟩) (fun r12459 u12460 h12458 => ?_)
  obtain ⟨rfl, rfl⟩ := h12458
  refine z_if_eq_f (tgt := 26) b dX11_gain_11 (by decide) (by decide) ?_
  refine z_iload_n b dX11_gain_14 rfl rfl ?_
  refine z_calli b (z_runS (As := [.int 0]) (st := []) b (c_X11_isDepth_2 S ) cf_X11_isDepth wm_X11_203 ws_X11_isDepth dX11_gain_15 rfl (Nat.le_of_ble_eq_true rfl) ⟨by decide, by decide, by decide, by decide⟩) (fun r12462 u12463 h12461 => ?_)
  obtain ⟨rfl, rfl⟩ := h12461
  refine z_if_eq_f (tgt := 26) b dX11_gain_18 (by decide) (by decide) ?_
  refine z_iload b dX11_gain_21 rfl ?_
  refine y_if_ge (tgt := 29) (xl := p1.toInt) b rfl dX11_gain_23 (by decide) (fun c12464 => ?_) (fun c12464 => ?_)
  · exfalso; omega
  · refine z_bipush (v := (-100)) b dX11_gain_26 (by decide) ?_
    exact z_iret (u := S) b rfl dX11_gain_28 ⟨rfl, rfl⟩ rfl (by decide) (by decide)

set_option maxHeartbeats 4000000 in
set_option maxRecDepth 100000 in
theorem c_X12_gain_25 {l : Launch} {D : va_G} {cy : Nat → ClassId} {T0 tB tE : Nat} {a : Nat → Nat} (S : GS) (p0 : Int32) (p1 : Int32)  (hr_p0 : 1 ≤ p0.toInt ∧ p0.toInt ≤ 3) (hr_p1 : (-2147483648) ≤ p1.toInt ∧ p1.toInt ≤ (-1)) : Ct l D cy T0 tB tE yX12_gain cX12_gain 9 (some .int) 2 44 0 0 (mw cy a S) [.ref (a 0), .int 1, .int p0, .int 0, .int p1] (QI D (U := GS) (fun r u => (-100) = r ∧ S = u) (mw cy a)) := by
  refine Ct.ofZ RX12 "gain" [(0, .ref (a 0)), (1, .int 1), (2, .int p0), (3, .int 0), (4, .int p1)] rfl rfl rfl rfl (Nat.le_of_ble_eq_true rfl) ?_
  intro p e R s m args below meth c A b
  refine z_iload_n b dX12_gain_0 rfl rfl ?_
  refine z_calli b (z_runS (As := [.int 1]) (st := []) b (c_X12_isOne_4 S ) cf_X12_isOne wm_X12_170 ws_X12_isOne dX12_gain_1 rfl (Nat.le_of_ble_eq_true rfl) ⟨by decide, by decide, by decide, by decide⟩) (fun r12466 u12467 h12465 => ?_)
  obtain ⟨rfl, rfl⟩ := h12465
  refine z_if_eq_f (tgt := 27) b dX12_gain_4 (by decide) (by decide) ?_
  refine z_aload_n b dX12_gain_7 rfl rfl ?_
  refine z_iload_n b dX12_gain_8 rfl rfl ?_
  refine z_iload_n b dX12_gain_9 rfl rfl ?_
  refine z_calli b (z_runV (q0 := 0) (As := [.int p0, .int 0]) (st := []) b (c_X12_canSearch_4 S p0 ⟨by omega, by omega⟩) cf_X12_canSearch (mw_0 cy a S) rfl wm_X12_433 wi_X12_canSearch ws_X12_canSearch dX12_gain_10 rfl (Nat.le_of_ble_eq_true rfl) ⟨by decide, by decide, by decide, by decide⟩) (fun r12469 u12470 h12468 => ?_)
  obtain ⟨rfl, rfl⟩ := h12468
  refine z_if_eq_f (tgt := 27) b dX12_gain_13 (by decide) (by decide) ?_
  refine z_iload b dX12_gain_16 rfl ?_
  refine z_iconst (v := 0) b dX12_gain_18 (by decide) ?_
  refine z_bipush (v := 7) b dX12_gain_19 (by decide) ?_
  refine z_calli b (z_runS (As := [.int p1, .int 0, .int 7]) (st := []) b (c_X12_isIn_12 S p1 ⟨by omega, by omega⟩) cf_X12_isIn wm_X12_1 ws_X12_isIn dX12_gain_21 rfl (Nat.le_of_ble_eq_true rfl) ⟨by decide, by decide, by decide, by decide⟩) (fun r12472 u12473 h12471 => ?_)
  obtain ⟨rfl, rfl⟩ := h12471
  refine z_if_ne_f (tgt := 30) b dX12_gain_24 (by decide) (by decide) ?_
  refine z_bipush (v := (-100)) b dX12_gain_27 (by decide) ?_
  exact z_iret (u := S) b rfl dX12_gain_29 ⟨rfl, rfl⟩ rfl (by decide) (by decide)

set_option maxHeartbeats 4000000 in
set_option maxRecDepth 100000 in
theorem c_X9_get_4 {l : Launch} {D : va_G} {cy : Nat → ClassId} {T0 tB tE : Nat} {a : Nat → Nat} {rw : Nat → Option Nat} (S : GS)  (h_a_9_1 : ar S 9 1 = 0) : Ct l D cy T0 tB tE yX9_get cX9_get 2 (some .int) 0 0 0 0 (cw cy tE a rw S) [.ref (a 26), .int 1] (QI D (U := GS) (fun r u => 0 = r ∧ S = u) (cw cy tE a rw)) := by
  refine Ct.ofZ RX9 "get" [(0, .ref (a 26)), (1, .int 1)] rfl rfl rfl rfl (Nat.le_of_ble_eq_true rfl) ?_
  intro p e R s m args below meth c A b
  refine z_iload_n b dX9_get_0 rfl rfl ?_
  refine z_if_lt_f (tgt := 22) b dX9_get_1 (by decide) (by decide) ?_
  refine z_iload_n b dX9_get_4 rfl rfl ?_
  refine z_aload_n b dX9_get_5 rfl rfl ?_
  refine z_get (q0 := 26) (k9 := 0) (v := .ref (a 27)) b (cw_26 cy tE a rw S) rfl in_X9 (by decide) wf_X9_11 rfl dX9_get_6 ?_
  refine z_alen (q0 := 27) (t0 := 0) (v := 51) b (cw_27 cy tE a rw S) rfl rfl dX9_get_9 ?_
  refine z_icmp_ge_f (tgt := 22) b dX9_get_10 (by decide) (by decide) ?_
  refine z_aload_n b dX9_get_13 rfl rfl ?_
  refine z_get (q0 := 26) (k9 := 0) (v := .ref (a 27)) b (cw_26 cy tE a rw S) rfl in_X9 (by decide) wf_X9_11 rfl dX9_get_14 ?_
  refine z_iload_n b dX9_get_17 rfl rfl ?_
  refine y_iald (q0 := 27) (j := 1) (v := (ar S 9 1)) b (cw_27 cy tE a rw S) (by decide) rfl dX9_get_18 ?_
  refine z_eqi h_a_9_1 ?_
  refine z_goto (tgt := 23) b dX9_get_19 (by decide) ?_
  exact z_iret (u := S) b rfl dX9_get_23 ⟨rfl, rfl⟩ rfl (by decide) (by decide)

set_option maxHeartbeats 4000000 in
set_option maxRecDepth 100000 in
theorem c_X9_get_5 {l : Launch} {D : va_G} {cy : Nat → ClassId} {T0 tB tE : Nat} {a : Nat → Nat} {rw : Nat → Option Nat} (S : GS)  (h_a_9_13 : ar S 9 13 = 0) : Ct l D cy T0 tB tE yX9_get cX9_get 2 (some .int) 0 0 0 0 (cw cy tE a rw S) [.ref (a 26), .int 13] (QI D (U := GS) (fun r u => 0 = r ∧ S = u) (cw cy tE a rw)) := by
  refine Ct.ofZ RX9 "get" [(0, .ref (a 26)), (1, .int 13)] rfl rfl rfl rfl (Nat.le_of_ble_eq_true rfl) ?_
  intro p e R s m args below meth c A b
  refine z_iload_n b dX9_get_0 rfl rfl ?_
  refine z_if_lt_f (tgt := 22) b dX9_get_1 (by decide) (by decide) ?_
  refine z_iload_n b dX9_get_4 rfl rfl ?_
  refine z_aload_n b dX9_get_5 rfl rfl ?_
  refine z_get (q0 := 26) (k9 := 0) (v := .ref (a 27)) b (cw_26 cy tE a rw S) rfl in_X9 (by decide) wf_X9_11 rfl dX9_get_6 ?_
  refine z_alen (q0 := 27) (t0 := 0) (v := 51) b (cw_27 cy tE a rw S) rfl rfl dX9_get_9 ?_
  refine z_icmp_ge_f (tgt := 22) b dX9_get_10 (by decide) (by decide) ?_
  refine z_aload_n b dX9_get_13 rfl rfl ?_
  refine z_get (q0 := 26) (k9 := 0) (v := .ref (a 27)) b (cw_26 cy tE a rw S) rfl in_X9 (by decide) wf_X9_11 rfl dX9_get_14 ?_
  refine z_iload_n b dX9_get_17 rfl rfl ?_
  refine y_iald (q0 := 27) (j := 13) (v := (ar S 9 13)) b (cw_27 cy tE a rw S) (by decide) rfl dX9_get_18 ?_
  refine z_eqi h_a_9_13 ?_
  refine z_goto (tgt := 23) b dX9_get_19 (by decide) ?_
  exact z_iret (u := S) b rfl dX9_get_23 ⟨rfl, rfl⟩ rfl (by decide) (by decide)

set_option maxHeartbeats 4000000 in
set_option maxRecDepth 100000 in
theorem c_X9_get_6 {l : Launch} {D : va_G} {cy : Nat → ClassId} {T0 tB tE : Nat} {a : Nat → Nat} {rw : Nat → Option Nat} (S : GS)  (h_a_9_15 : ar S 9 15 = 0) : Ct l D cy T0 tB tE yX9_get cX9_get 2 (some .int) 0 0 0 0 (cw cy tE a rw S) [.ref (a 26), .int 15] (QI D (U := GS) (fun r u => 0 = r ∧ S = u) (cw cy tE a rw)) := by
  refine Ct.ofZ RX9 "get" [(0, .ref (a 26)), (1, .int 15)] rfl rfl rfl rfl (Nat.le_of_ble_eq_true rfl) ?_
  intro p e R s m args below meth c A b
  refine z_iload_n b dX9_get_0 rfl rfl ?_
  refine z_if_lt_f (tgt := 22) b dX9_get_1 (by decide) (by decide) ?_
  refine z_iload_n b dX9_get_4 rfl rfl ?_
  refine z_aload_n b dX9_get_5 rfl rfl ?_
  refine z_get (q0 := 26) (k9 := 0) (v := .ref (a 27)) b (cw_26 cy tE a rw S) rfl in_X9 (by decide) wf_X9_11 rfl dX9_get_6 ?_
  refine z_alen (q0 := 27) (t0 := 0) (v := 51) b (cw_27 cy tE a rw S) rfl rfl dX9_get_9 ?_
  refine z_icmp_ge_f (tgt := 22) b dX9_get_10 (by decide) (by decide) ?_
  refine z_aload_n b dX9_get_13 rfl rfl ?_
  refine z_get (q0 := 26) (k9 := 0) (v := .ref (a 27)) b (cw_26 cy tE a rw S) rfl in_X9 (by decide) wf_X9_11 rfl dX9_get_14 ?_
  refine z_iload_n b dX9_get_17 rfl rfl ?_
  refine y_iald (q0 := 27) (j := 15) (v := (ar S 9 15)) b (cw_27 cy tE a rw S) (by decide) rfl dX9_get_18 ?_
  refine z_eqi h_a_9_15 ?_
  refine z_goto (tgt := 23) b dX9_get_19 (by decide) ?_
  exact z_iret (u := S) b rfl dX9_get_23 ⟨rfl, rfl⟩ rfl (by decide) (by decide)

set_option maxHeartbeats 4000000 in
set_option maxRecDepth 100000 in
theorem c_X8_wealth_2 {l : Launch} {D : va_G} {cy : Nat → ClassId} {T0 tB tE : Nat} {a : Nat → Nat} {rw : Nat → Option Nat} (S : GS)  (h_i_25 : fi S 25 = 1) (h_A_2_0 : al S 2 0 = 4128768) (h_a_9_50 : ar S 9 50 = 0) (h_a_9_40 : ar S 9 40 = 3) (h_a_9_41 : ar S 9 41 = 3) (h_a_9_42 : ar S 9 42 = 3) (h_a_9_0 : ar S 9 0 = 0) (h_a_9_11 : ar S 9 11 = 0) (h_a_9_21 : ar S 9 21 = 0) (h_a_9_31 : ar S 9 31 = 0) (h_a_9_12 : ar S 9 12 = 0) (h_a_9_22 : ar S 9 22 = 0) (h_a_9_32 : ar S 9 32 = 0) (h_a_9_1 : ar S 9 1 = 0) (h_a_9_13 : ar S 9 13 = 0) (h_a_9_23 : ar S 9 23 = 0) (h_a_9_33 : ar S 9 33 = 0) (h_a_9_15 : ar S 9 15 = 0) (h_a_9_25 : ar S 9 25 = 0) (h_a_9_35 : ar S 9 35 = 0) (h_a_9_2 : ar S 9 2 = 0) (h_a_9_16 : ar S 9 16 = 0) (h_a_9_26 : ar S 9 26 = 0) (h_a_9_36 : ar S 9 36 = 0) (h_a_9_17 : ar S 9 17 = 0) (h_a_9_27 : ar S 9 27 = 0) (h_a_9_37 : ar S 9 37 = 0) : Ct l D cy T0 tB tE yX8_wealth cX8_wealth 5 (some .int) 3 68 0 0 (cw cy tE a rw S) [.ref (a 25), .int 0, .int 1] (QI D (U := GS) (fun r u => 0 = r ∧ S = u) (cw cy tE a rw)) := by
  refine Ct.ofZ RX8 "wealth" [(0, .ref (a 25)), (1, .int 0), (2, .int 1)] rfl rfl rfl rfl (Nat.le_of_ble_eq_true rfl) ?_
  intro p e R s m args below meth c A b
  refine z_aload_n b dX8_wealth_0 rfl rfl ?_
  refine z_iload_n b dX8_wealth_1 rfl rfl ?_
  refine z_callv b (z_runV (q0 := 25) (As := [.int 0]) (st := []) b (c_X8_load S h_i_25 h_A_2_0 h_a_9_50 h_a_9_40 h_a_9_41 h_a_9_42 h_a_9_0 h_a_9_11 h_a_9_21 h_a_9_31 h_a_9_12 h_a_9_22 h_a_9_32 h_a_9_1 h_a_9_13 h_a_9_23 h_a_9_33 h_a_9_15 h_a_9_25 h_a_9_35 h_a_9_2 h_a_9_16 h_a_9_26 h_a_9_36 h_a_9_17 h_a_9_27 h_a_9_37) cf_X8_load (cw_25 cy tE a rw S) rfl wm_X8_153 wi_X8_load ws_X8_load dX8_wealth_2 rfl (Nat.le_of_ble_eq_true rfl) ⟨by decide, by decide, by decide, by decide⟩) (fun u12491 h12489 => ?_)
  obtain rfl := h12489
  refine z_aload_n b dX8_wealth_5 rfl rfl ?_
  refine z_get (q0 := 25) (k9 := 2) (v := .ref (a 26)) b (cw_25 cy tE a rw S) rfl in_X8 (by decide) wf_X8_12 rfl dX8_wealth_6 ?_
  refine z_iload_n b dX8_wealth_9 rfl rfl ?_
  refine z_calli b (z_runV (q0 := 26) (As := [.int 1]) (st := []) b (c_X9_get_4 S h_a_9_1) cf_X9_get (cw_26 cy tE a rw S) rfl wm_X8_161 wi_X9_get ws_X9_get dX8_wealth_10 rfl (Nat.le_of_ble_eq_true rfl) ⟨by decide, by decide, by decide, by decide⟩) (fun r12493 u12494 h12492 => ?_)
  obtain ⟨rfl, rfl⟩ := h12492
  refine z_istore_n (lv' := [(3, .int 0), (0, .ref (a 25)), (1, .int 0), (2, .int 1)]) b dX8_wealth_13 rfl (by decide) rfl ?_
  refine z_iconst (v := 0) b dX8_wealth_14 (by decide) ?_
  refine z_istore (lv' := [(4, .int 0), (3, .int 0), (0, .ref (a 25)), (1, .int 0), (2, .int 1)]) b dX8_wealth_15 (by decide) rfl ?_
  refine z_iload b dX8_wealth_17 rfl ?_
  refine z_iconst (v := 3) b dX8_wealth_19 (by decide) ?_
  refine z_icmp_ge_f (tgt := 54) b dX8_wealth_20 (by decide) (by decide) ?_
  refine z_iload b dX8_wealth_23 rfl ?_
  refine z_iload_n b dX8_wealth_25 rfl rfl ?_
  refine z_icmp_eq_f (tgt := 48) b dX8_wealth_26 (by decide) (by decide) ?_
  refine z_iload_n b dX8_wealth_29 rfl rfl ?_
  refine z_aload_n b dX8_wealth_30 rfl rfl ?_
  refine z_get (q0 := 25) (k9 := 2) (v := .ref (a 26)) b (cw_25 cy tE a rw S) rfl in_X8 (by decide) wf_X8_12 rfl dX8_wealth_31 ?_
  refine z_bipush (v := 10) b dX8_wealth_34 (by decide) ?_
  refine z_iconst (v := 3) b dX8_wealth_36 (by decide) ?_
  refine z_iload_n b dX8_wealth_37 rfl rfl ?_
  refine z_imul (v := 3) b dX8_wealth_38 (by decide) ?_
  refine z_iadd (v := 13) b dX8_wealth_39 (by decide) ?_
  refine z_iload b dX8_wealth_40 rfl ?_
  refine z_iadd (v := 13) b dX8_wealth_42 (by decide) ?_
  refine z_calli b (z_runV (q0 := 26) (As := [.int 13]) (st := [.int 0]) b (c_X9_get_5 S h_a_9_13) cf_X9_get (cw_26 cy tE a rw S) rfl wm_X8_161 wi_X9_get ws_X9_get dX8_wealth_43 rfl (Nat.le_of_ble_eq_true rfl) ⟨by decide, by decide, by decide, by decide⟩) (fun r12496 u12497 h12495 => ?_)
  obtain ⟨rfl, rfl⟩ := h12495
  refine z_isub (v := 0) b dX8_wealth_46 (by decide) ?_
  refine z_istore_n (lv' := [(3, .int 0), (4, .int 0), (0, .ref (a 25)), (1, .int 0), (2, .int 1)]) b dX8_wealth_47 rfl (by decide) rfl ?_
  refine z_iinc (k9 := 1) (v := 1) (lv' := [(4, .int 1), (3, .int 0), (0, .ref (a 25)), (1, .int 0), (2, .int 1)]) b dX8_wealth_48 rfl (by decide) (by decide) rfl ?_
  refine z_goto (tgt := 17) b dX8_wealth_51 (by decide) ?_
  refine z_iload b dX8_wealth_17 rfl ?_
  refine z_iconst (v := 3) b dX8_wealth_19 (by decide) ?_
  refine z_icmp_ge_f (tgt := 54) b dX8_wealth_20 (by decide) (by decide) ?_
  refine z_iload b dX8_wealth_23 rfl ?_
  refine z_iload_n b dX8_wealth_25 rfl rfl ?_
  refine z_icmp_eq_t (tgt := 48) b dX8_wealth_26 (by decide) (by decide) ?_
  refine z_iinc (k9 := 0) (v := 2) (lv' := [(4, .int 2), (3, .int 0), (0, .ref (a 25)), (1, .int 0), (2, .int 1)]) b dX8_wealth_48 rfl (by decide) (by decide) rfl ?_
  refine z_goto (tgt := 17) b dX8_wealth_51 (by decide) ?_
  refine z_iload b dX8_wealth_17 rfl ?_
  refine z_iconst (v := 3) b dX8_wealth_19 (by decide) ?_
  refine z_icmp_ge_f (tgt := 54) b dX8_wealth_20 (by decide) (by decide) ?_
  refine z_iload b dX8_wealth_23 rfl ?_
  refine z_iload_n b dX8_wealth_25 rfl rfl ?_
  refine z_icmp_eq_f (tgt := 48) b dX8_wealth_26 (by decide) (by decide) ?_
  refine z_iload_n b dX8_wealth_29 rfl rfl ?_
  refine z_aload_n b dX8_wealth_30 rfl rfl ?_
  refine z_get (q0 := 25) (k9 := 2) (v := .ref (a 26)) b (cw_25 cy tE a rw S) rfl in_X8 (by decide) wf_X8_12 rfl dX8_wealth_31 ?_
  refine z_bipush (v := 10) b dX8_wealth_34 (by decide) ?_
  refine z_iconst (v := 3) b dX8_wealth_36 (by decide) ?_
  refine z_iload_n b dX8_wealth_37 rfl rfl ?_
  refine z_imul (v := 3) b dX8_wealth_38 (by decide) ?_
  refine z_iadd (v := 13) b dX8_wealth_39 (by decide) ?_
  refine z_iload b dX8_wealth_40 rfl ?_
  refine z_iadd (v := 15) b dX8_wealth_42 (by decide) ?_
  refine z_calli b (z_runV (q0 := 26) (As := [.int 15]) (st := [.int 0]) b (c_X9_get_6 S h_a_9_15) cf_X9_get (cw_26 cy tE a rw S) rfl wm_X8_161 wi_X9_get ws_X9_get dX8_wealth_43 rfl (Nat.le_of_ble_eq_true rfl) ⟨by decide, by decide, by decide, by decide⟩) (fun r12499 u12500 h12498 => ?_)
  obtain ⟨rfl, rfl⟩ := h12498
  refine z_isub (v := 0) b dX8_wealth_46 (by decide) ?_
  refine z_istore_n (lv' := [(3, .int 0), (4, .int 2), (0, .ref (a 25)), (1, .int 0), (2, .int 1)]) b dX8_wealth_47 rfl (by decide) rfl ?_
  refine z_iinc (k9 := 1) (v := 3) (lv' := [(4, .int 3), (3, .int 0), (0, .ref (a 25)), (1, .int 0), (2, .int 1)]) b dX8_wealth_48 rfl (by decide) (by decide) rfl ?_
  refine z_goto (tgt := 17) b dX8_wealth_51 (by decide) ?_
  refine z_iload b dX8_wealth_17 rfl ?_
  refine z_iconst (v := 3) b dX8_wealth_19 (by decide) ?_
  refine z_icmp_ge_t (tgt := 54) b dX8_wealth_20 (by decide) (by decide) ?_
  refine z_iload_n b dX8_wealth_54 rfl rfl ?_
  exact z_iret (u := S) b rfl dX8_wealth_55 ⟨rfl, rfl⟩ rfl (by decide) (by decide)

set_option maxHeartbeats 4000000 in
set_option maxRecDepth 100000 in
theorem c_X8_richest_2 {l : Launch} {D : va_G} {cy : Nat → ClassId} {T0 tB tE : Nat} {a : Nat → Nat} {rw : Nat → Option Nat} (S : GS)  (h_i_25 : fi S 25 = 1) (h_A_2_0 : al S 2 0 = 4128768) (h_a_9_50 : ar S 9 50 = 0) (h_a_9_40 : ar S 9 40 = 3) (h_a_9_41 : ar S 9 41 = 3) (h_a_9_42 : ar S 9 42 = 3) (h_a_9_0 : ar S 9 0 = 0) (h_a_9_11 : ar S 9 11 = 0) (h_a_9_21 : ar S 9 21 = 0) (h_a_9_31 : ar S 9 31 = 0) (h_a_9_12 : ar S 9 12 = 0) (h_a_9_22 : ar S 9 22 = 0) (h_a_9_32 : ar S 9 32 = 0) (h_a_9_1 : ar S 9 1 = 0) (h_a_9_13 : ar S 9 13 = 0) (h_a_9_23 : ar S 9 23 = 0) (h_a_9_33 : ar S 9 33 = 0) (h_a_9_15 : ar S 9 15 = 0) (h_a_9_25 : ar S 9 25 = 0) (h_a_9_35 : ar S 9 35 = 0) (h_a_9_2 : ar S 9 2 = 0) (h_a_9_16 : ar S 9 16 = 0) (h_a_9_26 : ar S 9 26 = 0) (h_a_9_36 : ar S 9 36 = 0) (h_a_9_17 : ar S 9 17 = 0) (h_a_9_27 : ar S 9 27 = 0) (h_a_9_37 : ar S 9 37 = 0) : Ct l D cy T0 tB tE yX8_richest cX8_richest 6 (some .int) 4 92 0 0 (cw cy tE a rw S) [.ref (a 25), .int 1] (QI D (U := GS) (fun r u => 0 = r ∧ S = u) (cw cy tE a rw)) := by
  refine Ct.ofZ RX8 "richest" [(0, .ref (a 25)), (1, .int 1)] rfl rfl rfl rfl (Nat.le_of_ble_eq_true rfl) ?_
  intro p e R s m args below meth c A b
  refine z_iconst (v := 0) b dX8_richest_0 (by decide) ?_
  refine z_istore_n (lv' := [(2, .int 0), (0, .ref (a 25)), (1, .int 1)]) b dX8_richest_1 rfl (by decide) rfl ?_
  refine z_aload_n b dX8_richest_2 rfl rfl ?_
  refine z_iconst (v := 0) b dX8_richest_3 (by decide) ?_
  refine z_iload_n b dX8_richest_4 rfl rfl ?_
  refine z_calli b (z_runV (q0 := 25) (As := [.int 0, .int 1]) (st := []) b (c_X8_wealth_2 S h_i_25 h_A_2_0 h_a_9_50 h_a_9_40 h_a_9_41 h_a_9_42 h_a_9_0 h_a_9_11 h_a_9_21 h_a_9_31 h_a_9_12 h_a_9_22 h_a_9_32 h_a_9_1 h_a_9_13 h_a_9_23 h_a_9_33 h_a_9_15 h_a_9_25 h_a_9_35 h_a_9_2 h_a_9_16 h_a_9_26 h_a_9_36 h_a_9_17 h_a_9_27 h_a_9_37) cf_X8_wealth (cw_25 cy tE a rw S) rfl wm_X8_163 wi_X8_wealth ws_X8_wealth dX8_richest_5 rfl (Nat.le_of_ble_eq_true rfl) ⟨by decide, by decide, by decide, by decide⟩) (fun r12502 u12503 h12501 => ?_)
  obtain ⟨rfl, rfl⟩ := h12501
  refine z_istore_n (lv' := [(3, .int 0), (2, .int 0), (0, .ref (a 25)), (1, .int 1)]) b dX8_richest_8 rfl (by decide) rfl ?_
  refine z_iconst (v := 1) b dX8_richest_9 (by decide) ?_
  refine z_istore (lv' := [(4, .int 1), (3, .int 0), (2, .int 0), (0, .ref (a 25)), (1, .int 1)]) b dX8_richest_10 (by decide) rfl ?_
  refine z_iload b dX8_richest_12 rfl ?_
  refine z_aload_n b dX8_richest_14 rfl rfl ?_
  refine z_get (q0 := 25) (k9 := 17) (v := .int (fi S 25)) b (cw_25 cy tE a rw S) rfl in_X8 (by decide) wf_X8_64 rfl dX8_richest_15 ?_
  refine z_eqi h_i_25 ?_
  refine z_icmp_ge_t (tgt := 56) b dX8_richest_18 (by decide) (by decide) ?_
  refine z_iload_n b dX8_richest_56 rfl rfl ?_
  exact z_iret (u := S) b rfl dX8_richest_57 ⟨rfl, rfl⟩ rfl (by decide) (by decide)

set_option maxHeartbeats 4000000 in
set_option maxRecDepth 100000 in
theorem c_X11_gain_26 {l : Launch} {D : va_G} {cy : Nat → ClassId} {T0 tB tE : Nat} {a : Nat → Nat} {rw : Nat → Option Nat} (S : GS) (p0 : Int32) (h_i_19 : fi S 19 = 0) (h_i_24 : fi S 24 = 0) (h_i_20 : fi S 20 = 0) (h_i_22 : fi S 22 = 0) (h_i_18 : fi S 18 = 0) (h_i_25 : fi S 25 = 0) (h_i_23 : fi S 23 = 0) (h_i_26 : fi S 26 = 0) (h_a_4_50 : ar S 4 50 = 0) (h_a_4_40 : ar S 4 40 = 3) (h_a_4_41 : ar S 4 41 = 3) (h_a_4_42 : ar S 4 42 = 3) (h_a_4_0 : ar S 4 0 = 0) (h_a_4_11 : ar S 4 11 = 0) (h_a_4_21 : ar S 4 21 = 0) (h_a_4_31 : ar S 4 31 = 0) (h_a_4_12 : ar S 4 12 = 0) (h_a_4_22 : ar S 4 22 = 0) (h_a_4_32 : ar S 4 32 = 0) (h_a_4_1 : ar S 4 1 = 0) (h_a_4_13 : ar S 4 13 = 0) (h_a_4_23 : ar S 4 23 = 0) (h_a_4_33 : ar S 4 33 = 0) (h_a_4_15 : ar S 4 15 = 0) (h_a_4_25 : ar S 4 25 = 0) (h_a_4_35 : ar S 4 35 = 0) (h_a_4_2 : ar S 4 2 = 0) (h_a_4_16 : ar S 4 16 = 0) (h_a_4_26 : ar S 4 26 = 0) (h_a_4_36 : ar S 4 36 = 0) (h_a_4_17 : ar S 4 17 = 0) (h_a_4_27 : ar S 4 27 = 0) (h_a_4_37 : ar S 4 37 = 0) (h_a_10_0 : ar S 10 0 = 0) (h_a_9_50 : ar S 9 50 = 0) (h_a_9_40 : ar S 9 40 = 3) (h_a_9_41 : ar S 9 41 = 3) (h_a_9_42 : ar S 9 42 = 3) (h_a_9_0 : ar S 9 0 = 0) (h_a_9_11 : ar S 9 11 = 0) (h_a_9_21 : ar S 9 21 = 0) (h_a_9_31 : ar S 9 31 = 0) (h_a_9_12 : ar S 9 12 = 0) (h_a_9_22 : ar S 9 22 = 0) (h_a_9_32 : ar S 9 32 = 0) (h_a_9_1 : ar S 9 1 = 0) (h_a_9_13 : ar S 9 13 = 0) (h_a_9_23 : ar S 9 23 = 0) (h_a_9_33 : ar S 9 33 = 0) (h_a_9_15 : ar S 9 15 = 0) (h_a_9_25 : ar S 9 25 = 0) (h_a_9_35 : ar S 9 35 = 0) (h_a_9_2 : ar S 9 2 = 0) (h_a_9_16 : ar S 9 16 = 0) (h_a_9_26 : ar S 9 26 = 0) (h_a_9_36 : ar S 9 36 = 0) (h_a_9_17 : ar S 9 17 = 0) (h_a_9_27 : ar S 9 27 = 0) (h_a_9_37 : ar S 9 37 = 0) (hr_p0 : 1 ≤ p0.toInt ∧ p0.toInt ≤ 3) : Ct l D cy T0 tB tE yX11_gain cX11_gain 7 (some .int) 5 117 0 0 (cw cy tE a rw S) [.ref (a 0), .int 1, .int p0, .int 0, .int 0] (QI D (U := GS) (fun r u => 0 = r ∧ (su (si (su (su (sv (sa (si (si (si S 24 1) 19 p0) 21 7) 13 (fil 1024 0 (ar (si (si (si S 24 1) 19 p0) 21 7) 13))) 2 0 4128768) 11 0 (-1)) 12 0 (-1)) 25 1) 13 978 1) = u) (cw cy tE a rw)) := by
  refine Ct.ofZ RX11 "gain" [(0, .ref (a 0)), (1, .int 1), (2, .int p0), (3, .int 0), (4, .int 0)] rfl rfl rfl rfl (Nat.le_of_ble_eq_true rfl) ?_
  intro p e R s m args below meth c A b
  refine z_iload_n b dX11_gain_0 rfl rfl ?_
  refine z_calli b (z_runS (As := [.int 1]) (st := []) b (c_X11_isPerson_4 S ) cf_X11_isPerson wm_X11_69 ws_X11_isPerson dX11_gain_1 rfl (Nat.le_of_ble_eq_true rfl) ⟨by decide, by decide, by decide, by decide⟩) (fun r12475 u12476 h12474 => ?_)
  obtain ⟨rfl, rfl⟩ := h12474
  refine z_if_eq_f (tgt := 26) b dX11_gain_4 (by decide) (by decide) ?_
  refine z_iload_n b dX11_gain_7 rfl rfl ?_
  refine z_calli b (z_runS (As := [.int p0]) (st := []) b (c_X11_areLaws_3 S p0 ⟨by omega, by omega⟩) cf_X11_areLaws wm_X11_181 ws_X11_areLaws dX11_gain_8 rfl (Nat.le_of_ble_eq_true rfl) ⟨by decide, by decide, by decide, by decide⟩) (fun r12478 u12479 h12477 => ?_)
  obtain ⟨rfl, rfl⟩ := h12477
  refine z_if_eq_f (tgt := 26) b dX11_gain_11 (by decide) (by decide) ?_
  refine z_iload_n b dX11_gain_14 rfl rfl ?_
  refine z_calli b (z_runS (As := [.int 0]) (st := []) b (c_X11_isDepth_2 S ) cf_X11_isDepth wm_X11_203 ws_X11_isDepth dX11_gain_15 rfl (Nat.le_of_ble_eq_true rfl) ⟨by decide, by decide, by decide, by decide⟩) (fun r12481 u12482 h12480 => ?_)
  obtain ⟨rfl, rfl⟩ := h12480
  refine z_if_eq_f (tgt := 26) b dX11_gain_18 (by decide) (by decide) ?_
  refine z_iload b dX11_gain_21 rfl ?_
  refine z_if_ge_t (tgt := 29) b dX11_gain_23 (by decide) (by decide) ?_
  refine z_aload_n b dX11_gain_29 rfl rfl ?_
  refine z_get (q0 := 0) (k9 := 6) (v := .ref (a 25)) b (cw_0 cy tE a rw S) rfl in_X11 (by decide) wf_X11_52 rfl dX11_gain_30 ?_
  refine z_iload_n b dX11_gain_33 rfl rfl ?_
  refine z_iload_n b dX11_gain_34 rfl rfl ?_
  refine z_bipush (v := 7) b dX11_gain_35 (by decide) ?_
  refine z_iconst (v := 0) b dX11_gain_37 (by decide) ?_
  refine z_callv b (z_runV (q0 := 25) (As := [.int p0, .int 0, .int 7, .int 0]) (st := []) b (c_X8_begin S p0 h_i_19 h_i_24 h_i_20 h_i_22 h_i_18 h_i_25 h_i_23 h_i_26 h_a_4_50 h_a_4_40 h_a_4_41 h_a_4_42 h_a_4_0 h_a_4_11 h_a_4_21 h_a_4_31 h_a_4_12 h_a_4_22 h_a_4_32 h_a_4_1 h_a_4_13 h_a_4_23 h_a_4_33 h_a_4_15 h_a_4_25 h_a_4_35 h_a_4_2 h_a_4_16 h_a_4_26 h_a_4_36 h_a_4_17 h_a_4_27 h_a_4_37 h_a_10_0 ⟨by omega, by omega⟩) cf_X8_begin (cw_25 cy tE a rw S) rfl wm_X11_206 wi_X8_begin ws_X8_begin dX11_gain_38 rfl (Nat.le_of_ble_eq_true rfl) ⟨by decide, by decide, by decide, by decide⟩) (fun u12485 h12483 => ?_)
  obtain rfl := h12483
  refine z_aload_n b dX11_gain_41 rfl rfl ?_
  refine z_get (q0 := 0) (k9 := 6) (v := .ref (a 25)) b (cw_0 cy tE a rw (su (si (su (su (sv (sa (si (si (si S 24 1) 19 p0) 21 7) 13 (fil 1024 0 (ar (si (si (si S 24 1) 19 p0) 21 7) 13))) 2 0 4128768) 11 0 (-1)) 12 0 (-1)) 25 1) 13 978 1)) rfl in_X11 (by decide) wf_X11_52 rfl dX11_gain_42 ?_
  refine z_callv b (z_runV (q0 := 25) (As := []) (st := []) b (c_X8_finish (su (si (su (su (sv (sa (si (si (si S 24 1) 19 p0) 21 7) 13 (fil 1024 0 (ar (si (si (si S 24 1) 19 p0) 21 7) 13))) 2 0 4128768) 11 0 (-1)) 12 0 (-1)) 25 1) 13 978 1) h_i_26 h_i_23 rfl h_a_10_0 h_i_20) cf_X8_finish (cw_25 cy tE a rw (su (si (su (su (sv (sa (si (si (si S 24 1) 19 p0) 21 7) 13 (fil 1024 0 (ar (si (si (si S 24 1) 19 p0) 21 7) 13))) 2 0 4128768) 11 0 (-1)) 12 0 (-1)) 25 1) 13 978 1)) rfl wm_X11_232 wi_X8_finish ws_X8_finish dX11_gain_45 rfl (Nat.le_of_ble_eq_true rfl) ⟨by decide, by decide, by decide, by decide⟩) (fun u12488 h12486 => ?_)
  obtain rfl := h12486
  refine z_aload_n b dX11_gain_48 rfl rfl ?_
  refine z_get (q0 := 0) (k9 := 6) (v := .ref (a 25)) b (cw_0 cy tE a rw (su (si (su (su (sv (sa (si (si (si S 24 1) 19 p0) 21 7) 13 (fil 1024 0 (ar (si (si (si S 24 1) 19 p0) 21 7) 13))) 2 0 4128768) 11 0 (-1)) 12 0 (-1)) 25 1) 13 978 1)) rfl in_X11 (by decide) wf_X11_52 rfl dX11_gain_49 ?_
  refine z_get (q0 := 25) (k9 := 18) (v := .int (fi (su (si (su (su (sv (sa (si (si (si S 24 1) 19 p0) 21 7) 13 (fil 1024 0 (ar (si (si (si S 24 1) 19 p0) 21 7) 13))) 2 0 4128768) 11 0 (-1)) 12 0 (-1)) 25 1) 13 978 1) 26)) b (cw_25 cy tE a rw (su (si (su (su (sv (sa (si (si (si S 24 1) 19 p0) 21 7) 13 (fil 1024 0 (ar (si (si (si S 24 1) 19 p0) 21 7) 13))) 2 0 4128768) 11 0 (-1)) 12 0 (-1)) 25 1) 13 978 1)) rfl in_X8 (by decide) wf_X11_214 rfl dX11_gain_52 ?_
  refine z_eqi h_i_26 ?_
  refine z_if_eq_t (tgt := 61) b dX11_gain_55 (by decide) (by decide) ?_
  refine z_aload_n b dX11_gain_61 rfl rfl ?_
  refine z_get (q0 := 0) (k9 := 6) (v := .ref (a 25)) b (cw_0 cy tE a rw (su (si (su (su (sv (sa (si (si (si S 24 1) 19 p0) 21 7) 13 (fil 1024 0 (ar (si (si (si S 24 1) 19 p0) 21 7) 13))) 2 0 4128768) 11 0 (-1)) 12 0 (-1)) 25 1) 13 978 1)) rfl in_X11 (by decide) wf_X11_52 rfl dX11_gain_62 ?_
  refine z_iload_n b dX11_gain_65 rfl rfl ?_
  refine z_calli b (z_runV (q0 := 25) (As := [.int 1]) (st := []) b (c_X8_richest_2 (su (si (su (su (sv (sa (si (si (si S 24 1) 19 p0) 21 7) 13 (fil 1024 0 (ar (si (si (si S 24 1) 19 p0) 21 7) 13))) 2 0 4128768) 11 0 (-1)) 12 0 (-1)) 25 1) 13 978 1) rfl rfl h_a_9_50 h_a_9_40 h_a_9_41 h_a_9_42 h_a_9_0 h_a_9_11 h_a_9_21 h_a_9_31 h_a_9_12 h_a_9_22 h_a_9_32 h_a_9_1 h_a_9_13 h_a_9_23 h_a_9_33 h_a_9_15 h_a_9_25 h_a_9_35 h_a_9_2 h_a_9_16 h_a_9_26 h_a_9_36 h_a_9_17 h_a_9_27 h_a_9_37) cf_X8_richest (cw_25 cy tE a rw (su (si (su (su (sv (sa (si (si (si S 24 1) 19 p0) 21 7) 13 (fil 1024 0 (ar (si (si (si S 24 1) 19 p0) 21 7) 13))) 2 0 4128768) 11 0 (-1)) 12 0 (-1)) 25 1) 13 978 1)) rfl wm_X11_238 wi_X8_richest ws_X8_richest dX11_gain_66 rfl (Nat.le_of_ble_eq_true rfl) ⟨by decide, by decide, by decide, by decide⟩) (fun r12505 u12506 h12504 => ?_)
  obtain ⟨rfl, rfl⟩ := h12504
  refine z_istore (lv' := [(5, .int 0), (0, .ref (a 0)), (1, .int 1), (2, .int p0), (3, .int 0), (4, .int 0)]) b dX11_gain_69 (by decide) rfl ?_
  refine z_iload b dX11_gain_71 rfl ?_
  refine z_if_ne_f (tgt := 87) b dX11_gain_73 (by decide) (by decide) ?_
  refine z_aload_n b dX11_gain_76 rfl rfl ?_
  refine z_get (q0 := 0) (k9 := 6) (v := .ref (a 25)) b (cw_0 cy tE a rw (su (si (su (su (sv (sa (si (si (si S 24 1) 19 p0) 21 7) 13 (fil 1024 0 (ar (si (si (si S 24 1) 19 p0) 21 7) 13))) 2 0 4128768) 11 0 (-1)) 12 0 (-1)) 25 1) 13 978 1)) rfl in_X11 (by decide) wf_X11_52 rfl dX11_gain_77 ?_
  refine z_iload b dX11_gain_80 rfl ?_
  refine z_iload_n b dX11_gain_82 rfl rfl ?_
  refine z_calli b (z_runV (q0 := 25) (As := [.int 0, .int 1]) (st := []) b (c_X8_wealth_2 (su (si (su (su (sv (sa (si (si (si S 24 1) 19 p0) 21 7) 13 (fil 1024 0 (ar (si (si (si S 24 1) 19 p0) 21 7) 13))) 2 0 4128768) 11 0 (-1)) 12 0 (-1)) 25 1) 13 978 1) rfl rfl h_a_9_50 h_a_9_40 h_a_9_41 h_a_9_42 h_a_9_0 h_a_9_11 h_a_9_21 h_a_9_31 h_a_9_12 h_a_9_22 h_a_9_32 h_a_9_1 h_a_9_13 h_a_9_23 h_a_9_33 h_a_9_15 h_a_9_25 h_a_9_35 h_a_9_2 h_a_9_16 h_a_9_26 h_a_9_36 h_a_9_17 h_a_9_27 h_a_9_37) cf_X8_wealth (cw_25 cy tE a rw (su (si (su (su (sv (sa (si (si (si S 24 1) 19 p0) 21 7) 13 (fil 1024 0 (ar (si (si (si S 24 1) 19 p0) 21 7) 13))) 2 0 4128768) 11 0 (-1)) 12 0 (-1)) 25 1) 13 978 1)) rfl wm_X11_241 wi_X8_wealth ws_X8_wealth dX11_gain_83 rfl (Nat.le_of_ble_eq_true rfl) ⟨by decide, by decide, by decide, by decide⟩) (fun r12508 u12509 h12507 => ?_)
  obtain ⟨rfl, rfl⟩ := h12507
  exact z_iret (u := (su (si (su (su (sv (sa (si (si (si S 24 1) 19 p0) 21 7) 13 (fil 1024 0 (ar (si (si (si S 24 1) 19 p0) 21 7) 13))) 2 0 4128768) 11 0 (-1)) 12 0 (-1)) 25 1) 13 978 1)) b rfl dX11_gain_86 ⟨rfl, rfl⟩ rfl (by decide) (by decide)

set_option maxHeartbeats 4000000 in
set_option maxRecDepth 100000 in
theorem c_X12_gain_26 {l : Launch} {D : va_G} {cy : Nat → ClassId} {T0 tB tE : Nat} {a : Nat → Nat} (S : GS) (p0 : Int32) (h_i_21 : fi S 21 = 0) (h_i_23 : fi S 23 = 0) (h_l_0 : fl S 0 = 1649317774848) (h_a_29_992 : ar S 29 992 = (-1)) (h_a_28_0 : ar S 28 0 = 0) (h_a_4_7 : ar S 4 7 = 0) (h_a_1_7 : ar S 1 7 = 0) (h_a_4_6 : ar S 4 6 = 0) (h_a_1_6 : ar S 1 6 = 0) (h_a_3_6 : ar S 3 6 = 0) (h_a_3_2 : ar S 3 2 = 0) (h_a_2_2 : ar S 2 2 = 3) (h_a_0_2 : ar S 0 2 = 0) (h_a_4_3 : ar S 4 3 = 0) (h_a_1_3 : ar S 1 3 = 0) (h_a_4_5 : ar S 4 5 = 0) (h_a_1_5 : ar S 1 5 = 0) (h_a_3_5 : ar S 3 5 = 0) (h_a_3_7 : ar S 3 7 = 0) (h_a_2_1 : ar S 2 1 = 3) (h_a_0_1 : ar S 0 1 = 0) (h_a_4_2 : ar S 4 2 = 0) (h_a_1_2 : ar S 1 2 = 0) (h_a_4_1 : ar S 4 1 = 0) (h_a_1_1 : ar S 1 1 = 0) (h_a_3_1 : ar S 3 1 = 0) (h_a_3_3 : ar S 3 3 = 0) (h_a_2_0 : ar S 2 0 = 3) (h_a_0_0 : ar S 0 0 = 0) (h_i_0 : fi S 0 = 0) (hr_p0 : 1 ≤ p0.toInt ∧ p0.toInt ≤ 3) : Ct l D cy T0 tB tE yX12_gain cX12_gain 9 (some .int) 3 74 0 0 (mw cy a S) [.ref (a 0), .int 1, .int p0, .int 0, .int 0] (QI D (U := GS) (fun r u => 0 = r ∧ (si (su (su (sv (su (su (si S 22 (-1)) 29 992 0) 30 0 992) 0 0 1649317774848) 26 0 (-1)) 27 0 (-1)) 21 1) = u) (mw cy a)) := by
  refine Ct.ofZ RX12 "gain" [(0, .ref (a 0)), (1, .int 1), (2, .int p0), (3, .int 0), (4, .int 0)] rfl rfl rfl rfl (Nat.le_of_ble_eq_true rfl) ?_
  intro p e R s m args below meth c A b
  refine z_iload_n b dX12_gain_0 rfl rfl ?_
  refine z_calli b (z_runS (As := [.int 1]) (st := []) b (c_X12_isOne_4 S ) cf_X12_isOne wm_X12_170 ws_X12_isOne dX12_gain_1 rfl (Nat.le_of_ble_eq_true rfl) ⟨by decide, by decide, by decide, by decide⟩) (fun r12511 u12512 h12510 => ?_)
  obtain ⟨rfl, rfl⟩ := h12510
  refine z_if_eq_f (tgt := 27) b dX12_gain_4 (by decide) (by decide) ?_
  refine z_aload_n b dX12_gain_7 rfl rfl ?_
  refine z_iload_n b dX12_gain_8 rfl rfl ?_
  refine z_iload_n b dX12_gain_9 rfl rfl ?_
  refine z_calli b (z_runV (q0 := 0) (As := [.int p0, .int 0]) (st := []) b (c_X12_canSearch_4 S p0 ⟨by omega, by omega⟩) cf_X12_canSearch (mw_0 cy a S) rfl wm_X12_433 wi_X12_canSearch ws_X12_canSearch dX12_gain_10 rfl (Nat.le_of_ble_eq_true rfl) ⟨by decide, by decide, by decide, by decide⟩) (fun r12514 u12515 h12513 => ?_)
  obtain ⟨rfl, rfl⟩ := h12513
  refine z_if_eq_f (tgt := 27) b dX12_gain_13 (by decide) (by decide) ?_
  refine z_iload b dX12_gain_16 rfl ?_
  refine z_iconst (v := 0) b dX12_gain_18 (by decide) ?_
  refine z_bipush (v := 7) b dX12_gain_19 (by decide) ?_
  refine z_calli b (z_runS (As := [.int 0, .int 0, .int 7]) (st := []) b (c_X12_isIn_59 S ) cf_X12_isIn wm_X12_1 ws_X12_isIn dX12_gain_21 rfl (Nat.le_of_ble_eq_true rfl) ⟨by decide, by decide, by decide, by decide⟩) (fun r12517 u12518 h12516 => ?_)
  obtain ⟨rfl, rfl⟩ := h12516
  refine z_if_ne_t (tgt := 30) b dX12_gain_24 (by decide) (by decide) ?_
  refine z_aload_n b dX12_gain_30 rfl rfl ?_
  refine z_iconst (v := (-1)) b dX12_gain_31 (by decide) ?_
  refine z_iload_n b dX12_gain_32 rfl rfl ?_
  refine z_iload_n b dX12_gain_33 rfl rfl ?_
  refine z_bipush (v := 7) b dX12_gain_34 (by decide) ?_
  refine z_iconst (v := 0) b dX12_gain_36 (by decide) ?_
  refine z_callv b (z_runV (q0 := 0) (As := [.int (-1), .int p0, .int 0, .int 7, .int 0]) (st := []) b (c_X12_searches S p0 h_i_21 h_i_23 h_l_0 h_a_29_992 h_a_28_0 ⟨by omega, by omega⟩) cf_X12_searches (mw_0 cy a S) rfl wm_X12_436 wi_X12_searches ws_X12_searches dX12_gain_37 rfl (Nat.le_of_ble_eq_true rfl) ⟨by decide, by decide, by decide, by decide⟩) (fun u12521 h12519 => ?_)
  obtain rfl := h12519
  refine z_aload_n b dX12_gain_40 rfl rfl ?_
  refine z_get (q0 := 0) (k9 := 57) (v := .int (fi (si (su (su (sv (su (su (si S 22 (-1)) 29 992 0) 30 0 992) 0 0 1649317774848) 26 0 (-1)) 27 0 (-1)) 21 1) 23)) b (mw_0 cy a (si (su (su (sv (su (su (si S 22 (-1)) 29 992 0) 30 0 992) 0 0 1649317774848) 26 0 (-1)) 27 0 (-1)) 21 1)) rfl in_X12 (by decide) wf_X12_408 rfl dX12_gain_41 ?_
  refine z_eqi h_i_23 ?_
  refine z_if_eq_t (tgt := 50) b dX12_gain_44 (by decide) (by decide) ?_
  refine z_iconst (v := (-1)) b dX12_gain_50 (by decide) ?_
  refine z_istore (lv' := [(5, .int (-1)), (0, .ref (a 0)), (1, .int 1), (2, .int p0), (3, .int 0), (4, .int 0)]) b dX12_gain_51 (by decide) rfl ?_
  refine z_iconst (v := 0) b dX12_gain_53 (by decide) ?_
  refine z_istore (lv' := [(6, .int 0), (5, .int (-1)), (0, .ref (a 0)), (1, .int 1), (2, .int p0), (3, .int 0), (4, .int 0)]) b dX12_gain_54 (by decide) rfl ?_
  refine z_iconst (v := 0) b dX12_gain_56 (by decide) ?_
  refine z_istore (lv' := [(7, .int 0), (6, .int 0), (5, .int (-1)), (0, .ref (a 0)), (1, .int 1), (2, .int p0), (3, .int 0), (4, .int 0)]) b dX12_gain_57 (by decide) rfl ?_
  refine z_iload b dX12_gain_59 rfl ?_
  refine z_aload_n b dX12_gain_61 rfl rfl ?_
  refine z_get (q0 := 0) (k9 := 55) (v := .int 1) b (mw_0 cy a (si (su (su (sv (su (su (si S 22 (-1)) 29 992 0) 30 0 992) 0 0 1649317774848) 26 0 (-1)) 27 0 (-1)) 21 1)) rfl in_X12 (by decide) wf_X12_405 rfl dX12_gain_62 ?_
  refine z_icmp_ge_f (tgt := 147) b dX12_gain_65 (by decide) (by decide) ?_
  refine z_aload_n b dX12_gain_68 rfl rfl ?_
  refine z_aload_n b dX12_gain_69 rfl rfl ?_
  refine z_get (q0 := 0) (k9 := 49) (v := .ref (a 27)) b (mw_0 cy a (si (su (su (sv (su (su (si S 22 (-1)) 29 992 0) 30 0 992) 0 0 1649317774848) 26 0 (-1)) 27 0 (-1)) 21 1)) rfl in_X12 (by decide) wf_X12_97 rfl dX12_gain_70 ?_
  refine z_iload b dX12_gain_73 rfl ?_
  refine y_lald (q0 := 27) (j := 0) (v := 1649317774848) b (mw_27 cy a (si (su (su (sv (su (su (si S 22 (-1)) 29 992 0) 30 0 992) 0 0 1649317774848) 26 0 (-1)) 27 0 (-1)) 21 1)) (by decide) rfl dX12_gain_75 ?_
  refine z_callv b (z_runV (q0 := 0) (As := [.long 1649317774848]) (st := []) b (c_X12_takes (si (su (su (sv (su (su (si S 22 (-1)) 29 992 0) 30 0 992) 0 0 1649317774848) 26 0 (-1)) 27 0 (-1)) 21 1) h_a_4_7 h_a_1_7 h_a_4_6 h_a_1_6 h_a_3_6 h_a_3_2 h_a_2_2 h_a_0_2 h_a_4_3 h_a_1_3 h_a_4_5 h_a_1_5 h_a_3_5 h_a_3_7 h_a_2_1 h_a_0_1 h_a_4_2 h_a_1_2 h_a_4_1 h_a_1_1 h_a_3_1 h_a_3_3 h_a_2_0 h_a_0_0 h_i_0) cf_X12_takes (mw_0 cy a (si (su (su (sv (su (su (si S 22 (-1)) 29 992 0) 30 0 992) 0 0 1649317774848) 26 0 (-1)) 27 0 (-1)) 21 1)) rfl wm_X12_174 wi_X12_takes ws_X12_takes dX12_gain_76 rfl (Nat.le_of_ble_eq_true rfl) ⟨by decide, by decide, by decide, by decide⟩) (fun u12524 h12522 => ?_)
  obtain rfl := h12522
  refine z_aload_n b dX12_gain_79 rfl rfl ?_
  refine z_get (q0 := 0) (k9 := 0) (v := .ref (a 1)) b (mw_0 cy a (si (su (su (sv (su (su (si S 22 (-1)) 29 992 0) 30 0 992) 0 0 1649317774848) 26 0 (-1)) 27 0 (-1)) 21 1)) rfl in_X12 (by decide) wf_X12_13 rfl dX12_gain_80 ?_
  refine z_iload_n b dX12_gain_83 rfl rfl ?_
  refine y_iald (q0 := 1) (j := 1) (v := (ar (si (su (su (sv (su (su (si S 22 (-1)) 29 992 0) 30 0 992) 0 0 1649317774848) 26 0 (-1)) 27 0 (-1)) 21 1) 0 1)) b (mw_1 cy a (si (su (su (sv (su (su (si S 22 (-1)) 29 992 0) 30 0 992) 0 0 1649317774848) 26 0 (-1)) 27 0 (-1)) 21 1)) (by decide) rfl dX12_gain_84 ?_
  refine z_eqi h_a_0_1 ?_
  refine z_aload_n b dX12_gain_85 rfl rfl ?_
  refine z_get (q0 := 0) (k9 := 1) (v := .ref (a 2)) b (mw_0 cy a (si (su (su (sv (su (su (si S 22 (-1)) 29 992 0) 30 0 992) 0 0 1649317774848) 26 0 (-1)) 27 0 (-1)) 21 1)) rfl in_X12 (by decide) wf_X12_17 rfl dX12_gain_86 ?_
  refine z_iconst (v := 3) b dX12_gain_89 (by decide) ?_
  refine z_iload_n b dX12_gain_90 rfl rfl ?_
  refine z_imul (v := 3) b dX12_gain_91 (by decide) ?_
  refine z_iload_n b dX12_gain_92 rfl rfl ?_
  refine z_iconst (v := 0) b dX12_gain_93 (by decide) ?_
  refine z_calli b (z_runS (As := [.int 1, .int 0]) (st := [.int 3, .ref (a 2), .int 0]) b (c_X12_other_4 (si (su (su (sv (su (su (si S 22 (-1)) 29 992 0) 30 0 992) 0 0 1649317774848) 26 0 (-1)) 27 0 (-1)) 21 1) ) cf_X12_other wm_X12_160 ws_X12_other dX12_gain_94 rfl (Nat.le_of_ble_eq_true rfl) ⟨by decide, by decide, by decide, by decide⟩) (fun r12526 u12527 h12525 => ?_)
  obtain ⟨rfl, rfl⟩ := h12525
  refine z_iadd (v := 5) b dX12_gain_97 (by decide) ?_
  refine y_iald (q0 := 2) (j := 5) (v := (ar (si (su (su (sv (su (su (si S 22 (-1)) 29 992 0) 30 0 992) 0 0 1649317774848) 26 0 (-1)) 27 0 (-1)) 21 1) 1 5)) b (mw_2 cy a (si (su (su (sv (su (su (si S 22 (-1)) 29 992 0) 30 0 992) 0 0 1649317774848) 26 0 (-1)) 27 0 (-1)) 21 1)) (by decide) rfl dX12_gain_98 ?_
  refine z_eqi h_a_1_5 ?_
  refine z_isub (v := 0) b dX12_gain_99 (by decide) ?_
  refine z_aload_n b dX12_gain_100 rfl rfl ?_
  refine z_get (q0 := 0) (k9 := 1) (v := .ref (a 2)) b (mw_0 cy a (si (su (su (sv (su (su (si S 22 (-1)) 29 992 0) 30 0 992) 0 0 1649317774848) 26 0 (-1)) 27 0 (-1)) 21 1)) rfl in_X12 (by decide) wf_X12_17 rfl dX12_gain_101 ?_
  refine z_iconst (v := 3) b dX12_gain_104 (by decide) ?_
  refine z_iload_n b dX12_gain_105 rfl rfl ?_
  refine z_imul (v := 3) b dX12_gain_106 (by decide) ?_
  refine z_iload_n b dX12_gain_107 rfl rfl ?_
  refine z_iconst (v := 1) b dX12_gain_108 (by decide) ?_
  refine z_calli b (z_runS (As := [.int 1, .int 1]) (st := [.int 3, .ref (a 2), .int 0]) b (c_X12_other_3 (si (su (su (sv (su (su (si S 22 (-1)) 29 992 0) 30 0 992) 0 0 1649317774848) 26 0 (-1)) 27 0 (-1)) 21 1) ) cf_X12_other wm_X12_160 ws_X12_other dX12_gain_109 rfl (Nat.le_of_ble_eq_true rfl) ⟨by decide, by decide, by decide, by decide⟩) (fun r12529 u12530 h12528 => ?_)
  obtain ⟨rfl, rfl⟩ := h12528
  refine z_iadd (v := 3) b dX12_gain_112 (by decide) ?_
  refine y_iald (q0 := 2) (j := 3) (v := (ar (si (su (su (sv (su (su (si S 22 (-1)) 29 992 0) 30 0 992) 0 0 1649317774848) 26 0 (-1)) 27 0 (-1)) 21 1) 1 3)) b (mw_2 cy a (si (su (su (sv (su (su (si S 22 (-1)) 29 992 0) 30 0 992) 0 0 1649317774848) 26 0 (-1)) 27 0 (-1)) 21 1)) (by decide) rfl dX12_gain_113 ?_
  refine z_eqi h_a_1_3 ?_
  refine z_isub (v := 0) b dX12_gain_114 (by decide) ?_
  refine z_istore (lv' := [(8, .int 0), (7, .int 0), (6, .int 0), (5, .int (-1)), (0, .ref (a 0)), (1, .int 1), (2, .int p0), (3, .int 0), (4, .int 0)]) b dX12_gain_115 (by decide) rfl ?_
  refine z_iload b dX12_gain_117 rfl ?_
  refine z_iconst (v := (-1)) b dX12_gain_119 (by decide) ?_
  refine z_icmp_eq_t (tgt := 133) b dX12_gain_120 (by decide) (by decide) ?_
  refine z_iload b dX12_gain_133 rfl ?_
  refine z_istore (lv' := [(5, .int 0), (8, .int 0), (7, .int 0), (6, .int 0), (0, .ref (a 0)), (1, .int 1), (2, .int p0), (3, .int 0), (4, .int 0)]) b dX12_gain_135 (by decide) rfl ?_
  refine z_iload b dX12_gain_137 rfl ?_
  refine z_istore (lv' := [(6, .int 0), (5, .int 0), (8, .int 0), (7, .int 0), (0, .ref (a 0)), (1, .int 1), (2, .int p0), (3, .int 0), (4, .int 0)]) b dX12_gain_139 (by decide) rfl ?_
  refine z_iinc (k9 := 3) (v := 1) (lv' := [(7, .int 1), (6, .int 0), (5, .int 0), (8, .int 0), (0, .ref (a 0)), (1, .int 1), (2, .int p0), (3, .int 0), (4, .int 0)]) b dX12_gain_141 rfl (by decide) (by decide) rfl ?_
  refine z_goto (tgt := 59) b dX12_gain_144 (by decide) ?_
  refine z_iload b dX12_gain_59 rfl ?_
  refine z_aload_n b dX12_gain_61 rfl rfl ?_
  refine z_get (q0 := 0) (k9 := 55) (v := .int 1) b (mw_0 cy a (si (su (su (sv (su (su (si S 22 (-1)) 29 992 0) 30 0 992) 0 0 1649317774848) 26 0 (-1)) 27 0 (-1)) 21 1)) rfl in_X12 (by decide) wf_X12_405 rfl dX12_gain_62 ?_
  refine z_icmp_ge_t (tgt := 147) b dX12_gain_65 (by decide) (by decide) ?_
  refine z_iload b dX12_gain_147 rfl ?_
  refine z_iconst (v := 2) b dX12_gain_149 (by decide) ?_
  refine z_icmp_ge_f (tgt := 171) b dX12_gain_150 (by decide) (by decide) ?_
  refine z_iload b dX12_gain_153 rfl ?_
  refine z_if_ne_f (tgt := 163) b dX12_gain_155 (by decide) (by decide) ?_
  refine z_iload b dX12_gain_158 rfl ?_
  refine z_goto (tgt := 170) b dX12_gain_160 (by decide) ?_
  exact z_iret (u := (si (su (su (sv (su (su (si S 22 (-1)) 29 992 0) 30 0 992) 0 0 1649317774848) 26 0 (-1)) 27 0 (-1)) 21 1)) b rfl dX12_gain_170 ⟨rfl, rfl⟩ rfl (by decide) (by decide)

set_option maxHeartbeats 4000000 in
set_option maxRecDepth 100000 in
theorem c_X11_gain_27 {l : Launch} {D : va_G} {cy : Nat → ClassId} {T0 tB tE : Nat} {a : Nat → Nat} {rw : Nat → Option Nat} (S : GS) (p0 : Int32) (h_i_19 : fi S 19 = 0) (h_i_24 : fi S 24 = 0) (h_i_20 : fi S 20 = 0) (h_i_22 : fi S 22 = 0) (h_i_18 : fi S 18 = 0) (h_i_25 : fi S 25 = 0) (h_i_23 : fi S 23 = 0) (h_i_26 : fi S 26 = 0) (h_a_4_50 : ar S 4 50 = 0) (h_a_4_40 : ar S 4 40 = 3) (h_a_4_41 : ar S 4 41 = 3) (h_a_4_42 : ar S 4 42 = 3) (h_a_4_0 : ar S 4 0 = 0) (h_a_4_11 : ar S 4 11 = 0) (h_a_4_21 : ar S 4 21 = 0) (h_a_4_31 : ar S 4 31 = 0) (h_a_4_12 : ar S 4 12 = 0) (h_a_4_22 : ar S 4 22 = 0) (h_a_4_32 : ar S 4 32 = 0) (h_a_4_1 : ar S 4 1 = 0) (h_a_4_13 : ar S 4 13 = 0) (h_a_4_23 : ar S 4 23 = 0) (h_a_4_33 : ar S 4 33 = 0) (h_a_4_15 : ar S 4 15 = 0) (h_a_4_25 : ar S 4 25 = 0) (h_a_4_35 : ar S 4 35 = 0) (h_a_4_2 : ar S 4 2 = 0) (h_a_4_16 : ar S 4 16 = 0) (h_a_4_26 : ar S 4 26 = 0) (h_a_4_36 : ar S 4 36 = 0) (h_a_4_17 : ar S 4 17 = 0) (h_a_4_27 : ar S 4 27 = 0) (h_a_4_37 : ar S 4 37 = 0) (h_a_10_0 : ar S 10 0 = 0) (h_a_9_50 : ar S 9 50 = 0) (h_a_9_40 : ar S 9 40 = 3) (h_a_9_41 : ar S 9 41 = 3) (h_a_9_42 : ar S 9 42 = 3) (h_a_9_0 : ar S 9 0 = 0) (h_a_9_11 : ar S 9 11 = 0) (h_a_9_21 : ar S 9 21 = 0) (h_a_9_31 : ar S 9 31 = 0) (h_a_9_12 : ar S 9 12 = 0) (h_a_9_22 : ar S 9 22 = 0) (h_a_9_32 : ar S 9 32 = 0) (h_a_9_1 : ar S 9 1 = 0) (h_a_9_13 : ar S 9 13 = 0) (h_a_9_23 : ar S 9 23 = 0) (h_a_9_33 : ar S 9 33 = 0) (h_a_9_15 : ar S 9 15 = 0) (h_a_9_25 : ar S 9 25 = 0) (h_a_9_35 : ar S 9 35 = 0) (h_a_9_2 : ar S 9 2 = 0) (h_a_9_16 : ar S 9 16 = 0) (h_a_9_26 : ar S 9 26 = 0) (h_a_9_36 : ar S 9 36 = 0) (h_a_9_17 : ar S 9 17 = 0) (h_a_9_27 : ar S 9 27 = 0) (h_a_9_37 : ar S 9 37 = 0) (hr_p0 : 1 ≤ p0.toInt ∧ p0.toInt ≤ 3) : Ct l D cy T0 tB tE yX11_gain cX11_gain 7 (some .int) 5 117 0 0 (cw cy tE a rw S) [.ref (a 0), .int 1, .int p0, .int 0, .int 1] (QI D (U := GS) (fun r u => 0 = r ∧ (su (si (su (su (sv (sa (si (si (si S 24 1) 19 p0) 21 7) 13 (fil 1024 0 (ar (si (si (si S 24 1) 19 p0) 21 7) 13))) 2 0 4128768) 11 0 (-1)) 12 0 (-1)) 25 1) 13 978 1) = u) (cw cy tE a rw)) := by
  refine Ct.ofZ RX11 "gain" [(0, .ref (a 0)), (1, .int 1), (2, .int p0), (3, .int 0), (4, .int 1)] rfl rfl rfl rfl (Nat.le_of_ble_eq_true rfl) ?_
  intro p e R s m args below meth c A b
  refine z_iload_n b dX11_gain_0 rfl rfl ?_
  refine z_calli b (z_runS (As := [.int 1]) (st := []) b (c_X11_isPerson_4 S ) cf_X11_isPerson wm_X11_69 ws_X11_isPerson dX11_gain_1 rfl (Nat.le_of_ble_eq_true rfl) ⟨by decide, by decide, by decide, by decide⟩) (fun r12532 u12533 h12531 => ?_)
  obtain ⟨rfl, rfl⟩ := h12531
  refine z_if_eq_f (tgt := 26) b dX11_gain_4 (by decide) (by decide) ?_
  refine z_iload_n b dX11_gain_7 rfl rfl ?_
  refine z_calli b (z_runS (As := [.int p0]) (st := []) b (c_X11_areLaws_3 S p0 ⟨by omega, by omega⟩) cf_X11_areLaws wm_X11_181 ws_X11_areLaws dX11_gain_8 rfl (Nat.le_of_ble_eq_true rfl) ⟨by decide, by decide, by decide, by decide⟩) (fun r12535 u12536 h12534 => ?_)
  obtain ⟨rfl, rfl⟩ := h12534
  refine z_if_eq_f (tgt := 26) b dX11_gain_11 (by decide) (by decide) ?_
  refine z_iload_n b dX11_gain_14 rfl rfl ?_
  refine z_calli b (z_runS (As := [.int 0]) (st := []) b (c_X11_isDepth_2 S ) cf_X11_isDepth wm_X11_203 ws_X11_isDepth dX11_gain_15 rfl (Nat.le_of_ble_eq_true rfl) ⟨by decide, by decide, by decide, by decide⟩) (fun r12538 u12539 h12537 => ?_)
  obtain ⟨rfl, rfl⟩ := h12537
  refine z_if_eq_f (tgt := 26) b dX11_gain_18 (by decide) (by decide) ?_
  refine z_iload b dX11_gain_21 rfl ?_
  refine z_if_ge_t (tgt := 29) b dX11_gain_23 (by decide) (by decide) ?_
  refine z_aload_n b dX11_gain_29 rfl rfl ?_
  refine z_get (q0 := 0) (k9 := 6) (v := .ref (a 25)) b (cw_0 cy tE a rw S) rfl in_X11 (by decide) wf_X11_52 rfl dX11_gain_30 ?_
  refine z_iload_n b dX11_gain_33 rfl rfl ?_
  refine z_iload_n b dX11_gain_34 rfl rfl ?_
  refine z_bipush (v := 7) b dX11_gain_35 (by decide) ?_
  refine z_iconst (v := 0) b dX11_gain_37 (by decide) ?_
  refine z_callv b (z_runV (q0 := 25) (As := [.int p0, .int 0, .int 7, .int 0]) (st := []) b (c_X8_begin S p0 h_i_19 h_i_24 h_i_20 h_i_22 h_i_18 h_i_25 h_i_23 h_i_26 h_a_4_50 h_a_4_40 h_a_4_41 h_a_4_42 h_a_4_0 h_a_4_11 h_a_4_21 h_a_4_31 h_a_4_12 h_a_4_22 h_a_4_32 h_a_4_1 h_a_4_13 h_a_4_23 h_a_4_33 h_a_4_15 h_a_4_25 h_a_4_35 h_a_4_2 h_a_4_16 h_a_4_26 h_a_4_36 h_a_4_17 h_a_4_27 h_a_4_37 h_a_10_0 ⟨by omega, by omega⟩) cf_X8_begin (cw_25 cy tE a rw S) rfl wm_X11_206 wi_X8_begin ws_X8_begin dX11_gain_38 rfl (Nat.le_of_ble_eq_true rfl) ⟨by decide, by decide, by decide, by decide⟩) (fun u12542 h12540 => ?_)
  obtain rfl := h12540
  refine z_aload_n b dX11_gain_41 rfl rfl ?_
  refine z_get (q0 := 0) (k9 := 6) (v := .ref (a 25)) b (cw_0 cy tE a rw (su (si (su (su (sv (sa (si (si (si S 24 1) 19 p0) 21 7) 13 (fil 1024 0 (ar (si (si (si S 24 1) 19 p0) 21 7) 13))) 2 0 4128768) 11 0 (-1)) 12 0 (-1)) 25 1) 13 978 1)) rfl in_X11 (by decide) wf_X11_52 rfl dX11_gain_42 ?_
  refine z_callv b (z_runV (q0 := 25) (As := []) (st := []) b (c_X8_finish (su (si (su (su (sv (sa (si (si (si S 24 1) 19 p0) 21 7) 13 (fil 1024 0 (ar (si (si (si S 24 1) 19 p0) 21 7) 13))) 2 0 4128768) 11 0 (-1)) 12 0 (-1)) 25 1) 13 978 1) h_i_26 h_i_23 rfl h_a_10_0 h_i_20) cf_X8_finish (cw_25 cy tE a rw (su (si (su (su (sv (sa (si (si (si S 24 1) 19 p0) 21 7) 13 (fil 1024 0 (ar (si (si (si S 24 1) 19 p0) 21 7) 13))) 2 0 4128768) 11 0 (-1)) 12 0 (-1)) 25 1) 13 978 1)) rfl wm_X11_232 wi_X8_finish ws_X8_finish dX11_gain_45 rfl (Nat.le_of_ble_eq_true rfl) ⟨by decide, by decide, by decide, by decide⟩) (fun u12545 h12543 => ?_)
  obtain rfl := h12543
  refine z_aload_n b dX11_gain_48 rfl rfl ?_
  refine z_get (q0 := 0) (k9 := 6) (v := .ref (a 25)) b (cw_0 cy tE a rw (su (si (su (su (sv (sa (si (si (si S 24 1) 19 p0) 21 7) 13 (fil 1024 0 (ar (si (si (si S 24 1) 19 p0) 21 7) 13))) 2 0 4128768) 11 0 (-1)) 12 0 (-1)) 25 1) 13 978 1)) rfl in_X11 (by decide) wf_X11_52 rfl dX11_gain_49 ?_
  refine z_get (q0 := 25) (k9 := 18) (v := .int (fi (su (si (su (su (sv (sa (si (si (si S 24 1) 19 p0) 21 7) 13 (fil 1024 0 (ar (si (si (si S 24 1) 19 p0) 21 7) 13))) 2 0 4128768) 11 0 (-1)) 12 0 (-1)) 25 1) 13 978 1) 26)) b (cw_25 cy tE a rw (su (si (su (su (sv (sa (si (si (si S 24 1) 19 p0) 21 7) 13 (fil 1024 0 (ar (si (si (si S 24 1) 19 p0) 21 7) 13))) 2 0 4128768) 11 0 (-1)) 12 0 (-1)) 25 1) 13 978 1)) rfl in_X8 (by decide) wf_X11_214 rfl dX11_gain_52 ?_
  refine z_eqi h_i_26 ?_
  refine z_if_eq_t (tgt := 61) b dX11_gain_55 (by decide) (by decide) ?_
  refine z_aload_n b dX11_gain_61 rfl rfl ?_
  refine z_get (q0 := 0) (k9 := 6) (v := .ref (a 25)) b (cw_0 cy tE a rw (su (si (su (su (sv (sa (si (si (si S 24 1) 19 p0) 21 7) 13 (fil 1024 0 (ar (si (si (si S 24 1) 19 p0) 21 7) 13))) 2 0 4128768) 11 0 (-1)) 12 0 (-1)) 25 1) 13 978 1)) rfl in_X11 (by decide) wf_X11_52 rfl dX11_gain_62 ?_
  refine z_iload_n b dX11_gain_65 rfl rfl ?_
  refine z_calli b (z_runV (q0 := 25) (As := [.int 1]) (st := []) b (c_X8_richest_2 (su (si (su (su (sv (sa (si (si (si S 24 1) 19 p0) 21 7) 13 (fil 1024 0 (ar (si (si (si S 24 1) 19 p0) 21 7) 13))) 2 0 4128768) 11 0 (-1)) 12 0 (-1)) 25 1) 13 978 1) rfl rfl h_a_9_50 h_a_9_40 h_a_9_41 h_a_9_42 h_a_9_0 h_a_9_11 h_a_9_21 h_a_9_31 h_a_9_12 h_a_9_22 h_a_9_32 h_a_9_1 h_a_9_13 h_a_9_23 h_a_9_33 h_a_9_15 h_a_9_25 h_a_9_35 h_a_9_2 h_a_9_16 h_a_9_26 h_a_9_36 h_a_9_17 h_a_9_27 h_a_9_37) cf_X8_richest (cw_25 cy tE a rw (su (si (su (su (sv (sa (si (si (si S 24 1) 19 p0) 21 7) 13 (fil 1024 0 (ar (si (si (si S 24 1) 19 p0) 21 7) 13))) 2 0 4128768) 11 0 (-1)) 12 0 (-1)) 25 1) 13 978 1)) rfl wm_X11_238 wi_X8_richest ws_X8_richest dX11_gain_66 rfl (Nat.le_of_ble_eq_true rfl) ⟨by decide, by decide, by decide, by decide⟩) (fun r12547 u12548 h12546 => ?_)
  obtain ⟨rfl, rfl⟩ := h12546
  refine z_istore (lv' := [(5, .int 0), (0, .ref (a 0)), (1, .int 1), (2, .int p0), (3, .int 0), (4, .int 1)]) b dX11_gain_69 (by decide) rfl ?_
  refine z_iload b dX11_gain_71 rfl ?_
  refine z_if_ne_t (tgt := 87) b dX11_gain_73 (by decide) (by decide) ?_
  refine z_iload b dX11_gain_87 rfl ?_
  refine z_iconst (v := 1) b dX11_gain_89 (by decide) ?_
  refine z_icmp_ne_f (tgt := 103) b dX11_gain_90 (by decide) (by decide) ?_
  refine z_aload_n b dX11_gain_93 rfl rfl ?_
  refine z_get (q0 := 0) (k9 := 6) (v := .ref (a 25)) b (cw_0 cy tE a rw (su (si (su (su (sv (sa (si (si (si S 24 1) 19 p0) 21 7) 13 (fil 1024 0 (ar (si (si (si S 24 1) 19 p0) 21 7) 13))) 2 0 4128768) 11 0 (-1)) 12 0 (-1)) 25 1) 13 978 1)) rfl in_X11 (by decide) wf_X11_52 rfl dX11_gain_94 ?_
  refine z_iload b dX11_gain_97 rfl ?_
  refine z_calli b (z_runV (q0 := 25) (As := [.int 0]) (st := []) b (c_X8_acts (su (si (su (su (sv (sa (si (si (si S 24 1) 19 p0) 21 7) 13 (fil 1024 0 (ar (si (si (si S 24 1) 19 p0) 21 7) 13))) 2 0 4128768) 11 0 (-1)) 12 0 (-1)) 25 1) 13 978 1) rfl h_a_10_0) cf_X8_acts (cw_25 cy tE a rw (su (si (su (su (sv (sa (si (si (si S 24 1) 19 p0) 21 7) 13 (fil 1024 0 (ar (si (si (si S 24 1) 19 p0) 21 7) 13))) 2 0 4128768) 11 0 (-1)) 12 0 (-1)) 25 1) 13 978 1)) rfl wm_X11_217 wi_X8_acts ws_X8_acts dX11_gain_99 rfl (Nat.le_of_ble_eq_true rfl) ⟨by decide, by decide, by decide, by decide⟩) (fun r12550 u12551 h12549 => ?_)
  obtain ⟨rfl, rfl⟩ := h12549
  exact z_iret (u := (su (si (su (su (sv (sa (si (si (si S 24 1) 19 p0) 21 7) 13 (fil 1024 0 (ar (si (si (si S 24 1) 19 p0) 21 7) 13))) 2 0 4128768) 11 0 (-1)) 12 0 (-1)) 25 1) 13 978 1)) b rfl dX11_gain_102 ⟨rfl, rfl⟩ rfl (by decide) (by decide)

set_option maxHeartbeats 4000000 in
set_option maxRecDepth 100000 in
theorem c_X12_gain_27 {l : Launch} {D : va_G} {cy : Nat → ClassId} {T0 tB tE : Nat} {a : Nat → Nat} (S : GS) (p0 : Int32) (h_i_21 : fi S 21 = 0) (h_i_23 : fi S 23 = 0) (h_l_0 : fl S 0 = 1649317774848) (h_a_29_992 : ar S 29 992 = (-1)) (h_a_28_0 : ar S 28 0 = 0) (h_a_4_7 : ar S 4 7 = 0) (h_a_1_7 : ar S 1 7 = 0) (h_a_4_6 : ar S 4 6 = 0) (h_a_1_6 : ar S 1 6 = 0) (h_a_3_6 : ar S 3 6 = 0) (h_a_3_2 : ar S 3 2 = 0) (h_a_2_2 : ar S 2 2 = 3) (h_a_0_2 : ar S 0 2 = 0) (h_a_4_3 : ar S 4 3 = 0) (h_a_1_3 : ar S 1 3 = 0) (h_a_4_5 : ar S 4 5 = 0) (h_a_1_5 : ar S 1 5 = 0) (h_a_3_5 : ar S 3 5 = 0) (h_a_3_7 : ar S 3 7 = 0) (h_a_2_1 : ar S 2 1 = 3) (h_a_0_1 : ar S 0 1 = 0) (h_a_4_2 : ar S 4 2 = 0) (h_a_1_2 : ar S 1 2 = 0) (h_a_4_1 : ar S 4 1 = 0) (h_a_1_1 : ar S 1 1 = 0) (h_a_3_1 : ar S 3 1 = 0) (h_a_3_3 : ar S 3 3 = 0) (h_a_2_0 : ar S 2 0 = 3) (h_a_0_0 : ar S 0 0 = 0) (h_i_0 : fi S 0 = 0) (hr_p0 : 1 ≤ p0.toInt ∧ p0.toInt ≤ 3) : Ct l D cy T0 tB tE yX12_gain cX12_gain 9 (some .int) 3 74 0 0 (mw cy a S) [.ref (a 0), .int 1, .int p0, .int 0, .int 1] (QI D (U := GS) (fun r u => 0 = r ∧ (si (su (su (sv (su (su (si S 22 (-1)) 29 992 0) 30 0 992) 0 0 1649317774848) 26 0 (-1)) 27 0 (-1)) 21 1) = u) (mw cy a)) := by
  refine Ct.ofZ RX12 "gain" [(0, .ref (a 0)), (1, .int 1), (2, .int p0), (3, .int 0), (4, .int 1)] rfl rfl rfl rfl (Nat.le_of_ble_eq_true rfl) ?_
  intro p e R s m args below meth c A b
  refine z_iload_n b dX12_gain_0 rfl rfl ?_
  refine z_calli b (z_runS (As := [.int 1]) (st := []) b (c_X12_isOne_4 S ) cf_X12_isOne wm_X12_170 ws_X12_isOne dX12_gain_1 rfl (Nat.le_of_ble_eq_true rfl) ⟨by decide, by decide, by decide, by decide⟩) (fun r12553 u12554 h12552 => ?_)
  obtain ⟨rfl, rfl⟩ := h12552
  refine z_if_eq_f (tgt := 27) b dX12_gain_4 (by decide) (by decide) ?_
  refine z_aload_n b dX12_gain_7 rfl rfl ?_
  refine z_iload_n b dX12_gain_8 rfl rfl ?_
  refine z_iload_n b dX12_gain_9 rfl rfl ?_
  refine z_calli b (z_runV (q0 := 0) (As := [.int p0, .int 0]) (st := []) b (c_X12_canSearch_4 S p0 ⟨by omega, by omega⟩) cf_X12_canSearch (mw_0 cy a S) rfl wm_X12_433 wi_X12_canSearch ws_X12_canSearch dX12_gain_10 rfl (Nat.le_of_ble_eq_true rfl) ⟨by decide, by decide, by decide, by decide⟩) (fun r12556 u12557 h12555 => ?_)
  obtain ⟨rfl, rfl⟩ := h12555
  refine z_if_eq_f (tgt := 27) b dX12_gain_13 (by decide) (by decide) ?_
  refine z_iload b dX12_gain_16 rfl ?_
  refine z_iconst (v := 0) b dX12_gain_18 (by decide) ?_
  refine z_bipush (v := 7) b dX12_gain_19 (by decide) ?_
  refine z_calli b (z_runS (As := [.int 1, .int 0, .int 7]) (st := []) b (c_X12_isIn_60 S ) cf_X12_isIn wm_X12_1 ws_X12_isIn dX12_gain_21 rfl (Nat.le_of_ble_eq_true rfl) ⟨by decide, by decide, by decide, by decide⟩) (fun r12559 u12560 h12558 => ?_)
  obtain ⟨rfl, rfl⟩ := h12558
  refine z_if_ne_t (tgt := 30) b dX12_gain_24 (by decide) (by decide) ?_
  refine z_aload_n b dX12_gain_30 rfl rfl ?_
  refine z_iconst (v := (-1)) b dX12_gain_31 (by decide) ?_
  refine z_iload_n b dX12_gain_32 rfl rfl ?_
  refine z_iload_n b dX12_gain_33 rfl rfl ?_
  refine z_bipush (v := 7) b dX12_gain_34 (by decide) ?_
  refine z_iconst (v := 0) b dX12_gain_36 (by decide) ?_
  refine z_callv b (z_runV (q0 := 0) (As := [.int (-1), .int p0, .int 0, .int 7, .int 0]) (st := []) b (c_X12_searches S p0 h_i_21 h_i_23 h_l_0 h_a_29_992 h_a_28_0 ⟨by omega, by omega⟩) cf_X12_searches (mw_0 cy a S) rfl wm_X12_436 wi_X12_searches ws_X12_searches dX12_gain_37 rfl (Nat.le_of_ble_eq_true rfl) ⟨by decide, by decide, by decide, by decide⟩) (fun u12563 h12561 => ?_)
  obtain rfl := h12561
  refine z_aload_n b dX12_gain_40 rfl rfl ?_
  refine z_get (q0 := 0) (k9 := 57) (v := .int (fi (si (su (su (sv (su (su (si S 22 (-1)) 29 992 0) 30 0 992) 0 0 1649317774848) 26 0 (-1)) 27 0 (-1)) 21 1) 23)) b (mw_0 cy a (si (su (su (sv (su (su (si S 22 (-1)) 29 992 0) 30 0 992) 0 0 1649317774848) 26 0 (-1)) 27 0 (-1)) 21 1)) rfl in_X12 (by decide) wf_X12_408 rfl dX12_gain_41 ?_
  refine z_eqi h_i_23 ?_
  refine z_if_eq_t (tgt := 50) b dX12_gain_44 (by decide) (by decide) ?_
  refine z_iconst (v := (-1)) b dX12_gain_50 (by decide) ?_
  refine z_istore (lv' := [(5, .int (-1)), (0, .ref (a 0)), (1, .int 1), (2, .int p0), (3, .int 0), (4, .int 1)]) b dX12_gain_51 (by decide) rfl ?_
  refine z_iconst (v := 0) b dX12_gain_53 (by decide) ?_
  refine z_istore (lv' := [(6, .int 0), (5, .int (-1)), (0, .ref (a 0)), (1, .int 1), (2, .int p0), (3, .int 0), (4, .int 1)]) b dX12_gain_54 (by decide) rfl ?_
  refine z_iconst (v := 0) b dX12_gain_56 (by decide) ?_
  refine z_istore (lv' := [(7, .int 0), (6, .int 0), (5, .int (-1)), (0, .ref (a 0)), (1, .int 1), (2, .int p0), (3, .int 0), (4, .int 1)]) b dX12_gain_57 (by decide) rfl ?_
  refine z_iload b dX12_gain_59 rfl ?_
  refine z_aload_n b dX12_gain_61 rfl rfl ?_
  refine z_get (q0 := 0) (k9 := 55) (v := .int 1) b (mw_0 cy a (si (su (su (sv (su (su (si S 22 (-1)) 29 992 0) 30 0 992) 0 0 1649317774848) 26 0 (-1)) 27 0 (-1)) 21 1)) rfl in_X12 (by decide) wf_X12_405 rfl dX12_gain_62 ?_
  refine z_icmp_ge_f (tgt := 147) b dX12_gain_65 (by decide) (by decide) ?_
  refine z_aload_n b dX12_gain_68 rfl rfl ?_
  refine z_aload_n b dX12_gain_69 rfl rfl ?_
  refine z_get (q0 := 0) (k9 := 49) (v := .ref (a 27)) b (mw_0 cy a (si (su (su (sv (su (su (si S 22 (-1)) 29 992 0) 30 0 992) 0 0 1649317774848) 26 0 (-1)) 27 0 (-1)) 21 1)) rfl in_X12 (by decide) wf_X12_97 rfl dX12_gain_70 ?_
  refine z_iload b dX12_gain_73 rfl ?_
  refine y_lald (q0 := 27) (j := 0) (v := 1649317774848) b (mw_27 cy a (si (su (su (sv (su (su (si S 22 (-1)) 29 992 0) 30 0 992) 0 0 1649317774848) 26 0 (-1)) 27 0 (-1)) 21 1)) (by decide) rfl dX12_gain_75 ?_
  refine z_callv b (z_runV (q0 := 0) (As := [.long 1649317774848]) (st := []) b (c_X12_takes (si (su (su (sv (su (su (si S 22 (-1)) 29 992 0) 30 0 992) 0 0 1649317774848) 26 0 (-1)) 27 0 (-1)) 21 1) h_a_4_7 h_a_1_7 h_a_4_6 h_a_1_6 h_a_3_6 h_a_3_2 h_a_2_2 h_a_0_2 h_a_4_3 h_a_1_3 h_a_4_5 h_a_1_5 h_a_3_5 h_a_3_7 h_a_2_1 h_a_0_1 h_a_4_2 h_a_1_2 h_a_4_1 h_a_1_1 h_a_3_1 h_a_3_3 h_a_2_0 h_a_0_0 h_i_0) cf_X12_takes (mw_0 cy a (si (su (su (sv (su (su (si S 22 (-1)) 29 992 0) 30 0 992) 0 0 1649317774848) 26 0 (-1)) 27 0 (-1)) 21 1)) rfl wm_X12_174 wi_X12_takes ws_X12_takes dX12_gain_76 rfl (Nat.le_of_ble_eq_true rfl) ⟨by decide, by decide, by decide, by decide⟩) (fun u12566 h12564 => ?_)
  obtain rfl := h12564
  refine z_aload_n b dX12_gain_79 rfl rfl ?_
  refine z_get (q0 := 0) (k9 := 0) (v := .ref (a 1)) b (mw_0 cy a (si (su (su (sv (su (su (si S 22 (-1)) 29 992 0) 30 0 992) 0 0 1649317774848) 26 0 (-1)) 27 0 (-1)) 21 1)) rfl in_X12 (by decide) wf_X12_13 rfl dX12_gain_80 ?_
  refine z_iload_n b dX12_gain_83 rfl rfl ?_
  refine y_iald (q0 := 1) (j := 1) (v := (ar (si (su (su (sv (su (su (si S 22 (-1)) 29 992 0) 30 0 992) 0 0 1649317774848) 26 0 (-1)) 27 0 (-1)) 21 1) 0 1)) b (mw_1 cy a (si (su (su (sv (su (su (si S 22 (-1)) 29 992 0) 30 0 992) 0 0 1649317774848) 26 0 (-1)) 27 0 (-1)) 21 1)) (by decide) rfl dX12_gain_84 ?_
  refine z_eqi h_a_0_1 ?_
  refine z_aload_n b dX12_gain_85 rfl rfl ?_
  refine z_get (q0 := 0) (k9 := 1) (v := .ref (a 2)) b (mw_0 cy a (si (su (su (sv (su (su (si S 22 (-1)) 29 992 0) 30 0 992) 0 0 1649317774848) 26 0 (-1)) 27 0 (-1)) 21 1)) rfl in_X12 (by decide) wf_X12_17 rfl dX12_gain_86 ?_
  refine z_iconst (v := 3) b dX12_gain_89 (by decide) ?_
  refine z_iload_n b dX12_gain_90 rfl rfl ?_
  refine z_imul (v := 3) b dX12_gain_91 (by decide) ?_
  refine z_iload_n b dX12_gain_92 rfl rfl ?_
  refine z_iconst (v := 0) b dX12_gain_93 (by decide) ?_
  refine z_calli b (z_runS (As := [.int 1, .int 0]) (st := [.int 3, .ref (a 2), .int 0]) b (c_X12_other_4 (si (su (su (sv (su (su (si S 22 (-1)) 29 992 0) 30 0 992) 0 0 1649317774848) 26 0 (-1)) 27 0 (-1)) 21 1) ) cf_X12_other wm_X12_160 ws_X12_other dX12_gain_94 rfl (Nat.le_of_ble_eq_true rfl) ⟨by decide, by decide, by decide, by decide⟩) (fun r12568 u12569 h12567 => ?_)
  obtain ⟨rfl, rfl⟩ := h12567
  refine z_iadd (v := 5) b dX12_gain_97 (by decide) ?_
  refine y_iald (q0 := 2) (j := 5) (v := (ar (si (su (su (sv (su (su (si S 22 (-1)) 29 992 0) 30 0 992) 0 0 1649317774848) 26 0 (-1)) 27 0 (-1)) 21 1) 1 5)) b (mw_2 cy a (si (su (su (sv (su (su (si S 22 (-1)) 29 992 0) 30 0 992) 0 0 1649317774848) 26 0 (-1)) 27 0 (-1)) 21 1)) (by decide) rfl dX12_gain_98 ?_
  refine z_eqi h_a_1_5 ?_
  refine z_isub (v := 0) b dX12_gain_99 (by decide) ?_
  refine z_aload_n b dX12_gain_100 rfl rfl ?_
  refine z_get (q0 := 0) (k9 := 1) (v := .ref (a 2)) b (mw_0 cy a (si (su (su (sv (su (su (si S 22 (-1)) 29 992 0) 30 0 992) 0 0 1649317774848) 26 0 (-1)) 27 0 (-1)) 21 1)) rfl in_X12 (by decide) wf_X12_17 rfl dX12_gain_101 ?_
  refine z_iconst (v := 3) b dX12_gain_104 (by decide) ?_
  refine z_iload_n b dX12_gain_105 rfl rfl ?_
  refine z_imul (v := 3) b dX12_gain_106 (by decide) ?_
  refine z_iload_n b dX12_gain_107 rfl rfl ?_
  refine z_iconst (v := 1) b dX12_gain_108 (by decide) ?_
  refine z_calli b (z_runS (As := [.int 1, .int 1]) (st := [.int 3, .ref (a 2), .int 0]) b (c_X12_other_3 (si (su (su (sv (su (su (si S 22 (-1)) 29 992 0) 30 0 992) 0 0 1649317774848) 26 0 (-1)) 27 0 (-1)) 21 1) ) cf_X12_other wm_X12_160 ws_X12_other dX12_gain_109 rfl (Nat.le_of_ble_eq_true rfl) ⟨by decide, by decide, by decide, by decide⟩) (fun r12571 u12572 h12570 => ?_)
  obtain ⟨rfl, rfl⟩ := h12570
  refine z_iadd (v := 3) b dX12_gain_112 (by decide) ?_
  refine y_iald (q0 := 2) (j := 3) (v := (ar (si (su (su (sv (su (su (si S 22 (-1)) 29 992 0) 30 0 992) 0 0 1649317774848) 26 0 (-1)) 27 0 (-1)) 21 1) 1 3)) b (mw_2 cy a (si (su (su (sv (su (su (si S 22 (-1)) 29 992 0) 30 0 992) 0 0 1649317774848) 26 0 (-1)) 27 0 (-1)) 21 1)) (by decide) rfl dX12_gain_113 ?_
  refine z_eqi h_a_1_3 ?_
  refine z_isub (v := 0) b dX12_gain_114 (by decide) ?_
  refine z_istore (lv' := [(8, .int 0), (7, .int 0), (6, .int 0), (5, .int (-1)), (0, .ref (a 0)), (1, .int 1), (2, .int p0), (3, .int 0), (4, .int 1)]) b dX12_gain_115 (by decide) rfl ?_
  refine z_iload b dX12_gain_117 rfl ?_
  refine z_iconst (v := (-1)) b dX12_gain_119 (by decide) ?_
  refine z_icmp_eq_t (tgt := 133) b dX12_gain_120 (by decide) (by decide) ?_
  refine z_iload b dX12_gain_133 rfl ?_
  refine z_istore (lv' := [(5, .int 0), (8, .int 0), (7, .int 0), (6, .int 0), (0, .ref (a 0)), (1, .int 1), (2, .int p0), (3, .int 0), (4, .int 1)]) b dX12_gain_135 (by decide) rfl ?_
  refine z_iload b dX12_gain_137 rfl ?_
  refine z_istore (lv' := [(6, .int 0), (5, .int 0), (8, .int 0), (7, .int 0), (0, .ref (a 0)), (1, .int 1), (2, .int p0), (3, .int 0), (4, .int 1)]) b dX12_gain_139 (by decide) rfl ?_
  refine z_iinc (k9 := 3) (v := 1) (lv' := [(7, .int 1), (6, .int 0), (5, .int 0), (8, .int 0), (0, .ref (a 0)), (1, .int 1), (2, .int p0), (3, .int 0), (4, .int 1)]) b dX12_gain_141 rfl (by decide) (by decide) rfl ?_
  refine z_goto (tgt := 59) b dX12_gain_144 (by decide) ?_
  refine z_iload b dX12_gain_59 rfl ?_
  refine z_aload_n b dX12_gain_61 rfl rfl ?_
  refine z_get (q0 := 0) (k9 := 55) (v := .int 1) b (mw_0 cy a (si (su (su (sv (su (su (si S 22 (-1)) 29 992 0) 30 0 992) 0 0 1649317774848) 26 0 (-1)) 27 0 (-1)) 21 1)) rfl in_X12 (by decide) wf_X12_405 rfl dX12_gain_62 ?_
  refine z_icmp_ge_t (tgt := 147) b dX12_gain_65 (by decide) (by decide) ?_
  refine z_iload b dX12_gain_147 rfl ?_
  refine z_iconst (v := 2) b dX12_gain_149 (by decide) ?_
  refine z_icmp_ge_f (tgt := 171) b dX12_gain_150 (by decide) (by decide) ?_
  refine z_iload b dX12_gain_153 rfl ?_
  refine z_if_ne_t (tgt := 163) b dX12_gain_155 (by decide) (by decide) ?_
  refine z_aload_n b dX12_gain_163 rfl rfl ?_
  refine z_get (q0 := 0) (k9 := 52) (v := .ref (a 30)) b (mw_0 cy a (si (su (su (sv (su (su (si S 22 (-1)) 29 992 0) 30 0 992) 0 0 1649317774848) 26 0 (-1)) 27 0 (-1)) 21 1)) rfl in_X12 (by decide) wf_X12_107 rfl dX12_gain_164 ?_
  refine z_iload b dX12_gain_167 rfl ?_
  refine y_iald (q0 := 30) (j := 0) (v := (ar (si (su (su (sv (su (su (si S 22 (-1)) 29 992 0) 30 0 992) 0 0 1649317774848) 26 0 (-1)) 27 0 (-1)) 21 1) 28 0)) b (mw_30 cy a (si (su (su (sv (su (su (si S 22 (-1)) 29 992 0) 30 0 992) 0 0 1649317774848) 26 0 (-1)) 27 0 (-1)) 21 1)) (by decide) rfl dX12_gain_169 ?_
  refine z_eqi h_a_28_0 ?_
  exact z_iret (u := (si (su (su (sv (su (su (si S 22 (-1)) 29 992 0) 30 0 992) 0 0 1649317774848) 26 0 (-1)) 27 0 (-1)) 21 1)) b rfl dX12_gain_170 ⟨rfl, rfl⟩ rfl (by decide) (by decide)

set_option maxHeartbeats 4000000 in
set_option maxRecDepth 100000 in
theorem c_X11_gain_28 {l : Launch} {D : va_G} {cy : Nat → ClassId} {T0 tB tE : Nat} {a : Nat → Nat} {rw : Nat → Option Nat} (S : GS) (p0 : Int32) (p1 : Int32) (h_i_19 : fi S 19 = 0) (h_i_24 : fi S 24 = 0) (h_i_20 : fi S 20 = 0) (h_i_22 : fi S 22 = 0) (h_i_18 : fi S 18 = 0) (h_i_25 : fi S 25 = 0) (h_i_23 : fi S 23 = 0) (h_i_26 : fi S 26 = 0) (h_a_4_50 : ar S 4 50 = 0) (h_a_4_40 : ar S 4 40 = 3) (h_a_4_41 : ar S 4 41 = 3) (h_a_4_42 : ar S 4 42 = 3) (h_a_4_0 : ar S 4 0 = 0) (h_a_4_11 : ar S 4 11 = 0) (h_a_4_21 : ar S 4 21 = 0) (h_a_4_31 : ar S 4 31 = 0) (h_a_4_12 : ar S 4 12 = 0) (h_a_4_22 : ar S 4 22 = 0) (h_a_4_32 : ar S 4 32 = 0) (h_a_4_1 : ar S 4 1 = 0) (h_a_4_13 : ar S 4 13 = 0) (h_a_4_23 : ar S 4 23 = 0) (h_a_4_33 : ar S 4 33 = 0) (h_a_4_15 : ar S 4 15 = 0) (h_a_4_25 : ar S 4 25 = 0) (h_a_4_35 : ar S 4 35 = 0) (h_a_4_2 : ar S 4 2 = 0) (h_a_4_16 : ar S 4 16 = 0) (h_a_4_26 : ar S 4 26 = 0) (h_a_4_36 : ar S 4 36 = 0) (h_a_4_17 : ar S 4 17 = 0) (h_a_4_27 : ar S 4 27 = 0) (h_a_4_37 : ar S 4 37 = 0) (h_a_10_0 : ar S 10 0 = 0) (h_a_9_50 : ar S 9 50 = 0) (h_a_9_40 : ar S 9 40 = 3) (h_a_9_41 : ar S 9 41 = 3) (h_a_9_42 : ar S 9 42 = 3) (h_a_9_0 : ar S 9 0 = 0) (h_a_9_11 : ar S 9 11 = 0) (h_a_9_21 : ar S 9 21 = 0) (h_a_9_31 : ar S 9 31 = 0) (h_a_9_12 : ar S 9 12 = 0) (h_a_9_22 : ar S 9 22 = 0) (h_a_9_32 : ar S 9 32 = 0) (h_a_9_1 : ar S 9 1 = 0) (h_a_9_13 : ar S 9 13 = 0) (h_a_9_23 : ar S 9 23 = 0) (h_a_9_33 : ar S 9 33 = 0) (h_a_9_15 : ar S 9 15 = 0) (h_a_9_25 : ar S 9 25 = 0) (h_a_9_35 : ar S 9 35 = 0) (h_a_9_2 : ar S 9 2 = 0) (h_a_9_16 : ar S 9 16 = 0) (h_a_9_26 : ar S 9 26 = 0) (h_a_9_36 : ar S 9 36 = 0) (h_a_9_17 : ar S 9 17 = 0) (h_a_9_27 : ar S 9 27 = 0) (h_a_9_37 : ar S 9 37 = 0) (hr_p0 : 1 ≤ p0.toInt ∧ p0.toInt ≤ 3) (hr_p1 : 2 ≤ p1.toInt ∧ p1.toInt ≤ 7) : Ct l D cy T0 tB tE yX11_gain cX11_gain 7 (some .int) 5 117 0 0 (cw cy tE a rw S) [.ref (a 0), .int 1, .int p0, .int 0, .int p1] (QI D (U := GS) (fun r u => (-100) = r ∧ (su (si (su (su (sv (sa (si (si (si S 24 1) 19 p0) 21 7) 13 (fil 1024 0 (ar (si (si (si S 24 1) 19 p0) 21 7) 13))) 2 0 4128768) 11 0 (-1)) 12 0 (-1)) 25 1) 13 978 1) = u) (cw cy tE a rw)) := by
  refine Ct.ofZ RX11 "gain" [(0, .ref (a 0)), (1, .int 1), (2, .int p0), (3, .int 0), (4, .int p1)] rfl rfl rfl rfl (Nat.le_of_ble_eq_true rfl) ?_
  intro p e R s m args below meth c A b
  refine z_iload_n b dX11_gain_0 rfl rfl ?_
  refine z_calli b (z_runS (As := [.int 1]) (st := []) b (c_X11_isPerson_4 S ) cf_X11_isPerson wm_X11_69 ws_X11_isPerson dX11_gain_1 rfl (Nat.le_of_ble_eq_true rfl) ⟨by decide, by decide, by decide, by decide⟩) (fun r12574 u12575 h12573 => ?_)
  obtain ⟨rfl, rfl⟩ := h12573
  refine z_if_eq_f (tgt := 26) b dX11_gain_4 (by decide) (by decide) ?_
  refine z_iload_n b dX11_gain_7 rfl rfl ?_
  refine z_calli b (z_runS (As := [.int p0]) (st := []) b (c_X11_areLaws_3 S p0 ⟨by omega, by omega⟩) cf_X11_areLaws wm_X11_181 ws_X11_areLaws dX11_gain_8 rfl (Nat.le_of_ble_eq_true rfl) ⟨by decide, by decide, by decide, by decide⟩) (fun r12577 u12578 h12576 => ?_)
  obtain ⟨rfl, rfl⟩ := h12576
  refine z_if_eq_f (tgt := 26) b dX11_gain_11 (by decide) (by decide) ?_
  refine z_iload_n b dX11_gain_14 rfl rfl ?_
  refine z_calli b (z_runS (As := [.int 0]) (st := []) b (c_X11_isDepth_2 S ) cf_X11_isDepth wm_X11_203 ws_X11_isDepth dX11_gain_15 rfl (Nat.le_of_ble_eq_true rfl) ⟨by decide, by decide, by decide, by decide⟩) (fun r12580 u12581 h12579 => ?_)
  obtain ⟨rfl, rfl⟩ := h12579
  refine z_if_eq_f (tgt := 26) b dX11_gain_18 (by decide) (by decide) ?_
  refine z_iload b dX11_gain_21 rfl ?_
  refine y_if_ge (tgt := 29) (xl := p1.toInt) b rfl dX11_gain_23 (by decide) (fun c12582 => ?_) (fun c12582 => ?_)
  · refine z_aload_n b dX11_gain_29 rfl rfl ?_
    refine z_get (q0 := 0) (k9 := 6) (v := .ref (a 25)) b (cw_0 cy tE a rw S) rfl in_X11 (by decide) wf_X11_52 rfl dX11_gain_30 ?_
    refine z_iload_n b dX11_gain_33 rfl rfl ?_
    refine z_iload_n b dX11_gain_34 rfl rfl ?_
    refine z_bipush (v := 7) b dX11_gain_35 (by decide) ?_
    refine z_iconst (v := 0) b dX11_gain_37 (by decide) ?_
    refine z_callv b (z_runV (q0 := 25) (As := [.int p0, .int 0, .int 7, .int 0]) (st := []) b (c_X8_begin S p0 h_i_19 h_i_24 h_i_20 h_i_22 h_i_18 h_i_25 h_i_23 h_i_26 h_a_4_50 h_a_4_40 h_a_4_41 h_a_4_42 h_a_4_0 h_a_4_11 h_a_4_21 h_a_4_31 h_a_4_12 h_a_4_22 h_a_4_32 h_a_4_1 h_a_4_13 h_a_4_23 h_a_4_33 h_a_4_15 h_a_4_25 h_a_4_35 h_a_4_2 h_a_4_16 h_a_4_26 h_a_4_36 h_a_4_17 h_a_4_27 h_a_4_37 h_a_10_0 ⟨by omega, by omega⟩) cf_X8_begin (cw_25 cy tE a rw S) rfl wm_X11_206 wi_X8_begin ws_X8_begin dX11_gain_38 rfl (Nat.le_of_ble_eq_true rfl) ⟨by decide, by decide, by decide, by decide⟩) (fun u12585 h12583 => ?_)
    obtain rfl := h12583
    refine z_aload_n b dX11_gain_41 rfl rfl ?_
    refine z_get (q0 := 0) (k9 := 6) (v := .ref (a 25)) b (cw_0 cy tE a rw (su (si (su (su (sv (sa (si (si (si S 24 1) 19 p0) 21 7) 13 (fil 1024 0 (ar (si (si (si S 24 1) 19 p0) 21 7) 13))) 2 0 4128768) 11 0 (-1)) 12 0 (-1)) 25 1) 13 978 1)) rfl in_X11 (by decide) wf_X11_52 rfl dX11_gain_42 ?_
    refine z_callv b (z_runV (q0 := 25) (As := []) (st := []) b (c_X8_finish (su (si (su (su (sv (sa (si (si (si S 24 1) 19 p0) 21 7) 13 (fil 1024 0 (ar (si (si (si S 24 1) 19 p0) 21 7) 13))) 2 0 4128768) 11 0 (-1)) 12 0 (-1)) 25 1) 13 978 1) h_i_26 h_i_23 rfl h_a_10_0 h_i_20) cf_X8_finish (cw_25 cy tE a rw (su (si (su (su (sv (sa (si (si (si S 24 1) 19 p0) 21 7) 13 (fil 1024 0 (ar (si (si (si S 24 1) 19 p0) 21 7) 13))) 2 0 4128768) 11 0 (-1)) 12 0 (-1)) 25 1) 13 978 1)) rfl wm_X11_232 wi_X8_finish ws_X8_finish dX11_gain_45 rfl (Nat.le_of_ble_eq_true rfl) ⟨by decide, by decide, by decide, by decide⟩) (fun u12588 h12586 => ?_)
    obtain rfl := h12586
    refine z_aload_n b dX11_gain_48 rfl rfl ?_
    refine z_get (q0 := 0) (k9 := 6) (v := .ref (a 25)) b (cw_0 cy tE a rw (su (si (su (su (sv (sa (si (si (si S 24 1) 19 p0) 21 7) 13 (fil 1024 0 (ar (si (si (si S 24 1) 19 p0) 21 7) 13))) 2 0 4128768) 11 0 (-1)) 12 0 (-1)) 25 1) 13 978 1)) rfl in_X11 (by decide) wf_X11_52 rfl dX11_gain_49 ?_
    refine z_get (q0 := 25) (k9 := 18) (v := .int (fi (su (si (su (su (sv (sa (si (si (si S 24 1) 19 p0) 21 7) 13 (fil 1024 0 (ar (si (si (si S 24 1) 19 p0) 21 7) 13))) 2 0 4128768) 11 0 (-1)) 12 0 (-1)) 25 1) 13 978 1) 26)) b (cw_25 cy tE a rw (su (si (su (su (sv (sa (si (si (si S 24 1) 19 p0) 21 7) 13 (fil 1024 0 (ar (si (si (si S 24 1) 19 p0) 21 7) 13))) 2 0 4128768) 11 0 (-1)) 12 0 (-1)) 25 1) 13 978 1)) rfl in_X8 (by decide) wf_X11_214 rfl dX11_gain_52 ?_
    refine z_eqi h_i_26 ?_
    refine z_if_eq_t (tgt := 61) b dX11_gain_55 (by decide) (by decide) ?_
    refine z_aload_n b dX11_gain_61 rfl rfl ?_
    refine z_get (q0 := 0) (k9 := 6) (v := .ref (a 25)) b (cw_0 cy tE a rw (su (si (su (su (sv (sa (si (si (si S 24 1) 19 p0) 21 7) 13 (fil 1024 0 (ar (si (si (si S 24 1) 19 p0) 21 7) 13))) 2 0 4128768) 11 0 (-1)) 12 0 (-1)) 25 1) 13 978 1)) rfl in_X11 (by decide) wf_X11_52 rfl dX11_gain_62 ?_
    refine z_iload_n b dX11_gain_65 rfl rfl ?_
    refine z_calli b (z_runV (q0 := 25) (As := [.int 1]) (st := []) b (c_X8_richest_2 (su (si (su (su (sv (sa (si (si (si S 24 1) 19 p0) 21 7) 13 (fil 1024 0 (ar (si (si (si S 24 1) 19 p0) 21 7) 13))) 2 0 4128768) 11 0 (-1)) 12 0 (-1)) 25 1) 13 978 1) rfl rfl h_a_9_50 h_a_9_40 h_a_9_41 h_a_9_42 h_a_9_0 h_a_9_11 h_a_9_21 h_a_9_31 h_a_9_12 h_a_9_22 h_a_9_32 h_a_9_1 h_a_9_13 h_a_9_23 h_a_9_33 h_a_9_15 h_a_9_25 h_a_9_35 h_a_9_2 h_a_9_16 h_a_9_26 h_a_9_36 h_a_9_17 h_a_9_27 h_a_9_37) cf_X8_richest (cw_25 cy tE a rw (su (si (su (su (sv (sa (si (si (si S 24 1) 19 p0) 21 7) 13 (fil 1024 0 (ar (si (si (si S 24 1) 19 p0) 21 7) 13))) 2 0 4128768) 11 0 (-1)) 12 0 (-1)) 25 1) 13 978 1)) rfl wm_X11_238 wi_X8_richest ws_X8_richest dX11_gain_66 rfl (Nat.le_of_ble_eq_true rfl) ⟨by decide, by decide, by decide, by decide⟩) (fun r12590 u12591 h12589 => ?_)
    obtain ⟨rfl, rfl⟩ := h12589
    refine z_istore (lv' := [(5, .int 0), (0, .ref (a 0)), (1, .int 1), (2, .int p0), (3, .int 0), (4, .int p1)]) b dX11_gain_69 (by decide) rfl ?_
    refine z_iload b dX11_gain_71 rfl ?_
    refine y_if_ne (tgt := 87) (xl := p1.toInt) b rfl dX11_gain_73 (by decide) (fun c12592 => ?_) (fun c12592 => ?_)
    · refine z_iload b dX11_gain_87 rfl ?_
      refine z_iconst (v := 1) b dX11_gain_89 (by decide) ?_
      refine y_icmp_ne (tgt := 103) (xl := p1.toInt) (yl := 1) b rfl (by decide) dX11_gain_90 (by decide) (fun c12593 => ?_) (fun c12593 => ?_)
      · refine z_aload_n b dX11_gain_103 rfl rfl ?_
        refine z_get (q0 := 0) (k9 := 6) (v := .ref (a 25)) b (cw_0 cy tE a rw (su (si (su (su (sv (sa (si (si (si S 24 1) 19 p0) 21 7) 13 (fil 1024 0 (ar (si (si (si S 24 1) 19 p0) 21 7) 13))) 2 0 4128768) 11 0 (-1)) 12 0 (-1)) 25 1) 13 978 1)) rfl in_X11 (by decide) wf_X11_52 rfl dX11_gain_104 ?_
        refine z_iload b dX11_gain_107 rfl ?_
        refine z_iload b dX11_gain_109 rfl ?_
        refine z_iconst (v := 2) b dX11_gain_111 (by decide) ?_
        refine z_isub b dX11_gain_112 rfl ?_
        have f12594 : ((p1 - 2) : Int32).toInt = p1.toInt + (-2) := zisub (k := 2) (by decide) (by omega) (by omega)
        refine z_calli b (z_runV (q0 := 25) (As := [.int 0, .int (p1 - 2)]) (st := []) b (c_X8_code (su (si (su (su (sv (sa (si (si (si S 24 1) 19 p0) 21 7) 13 (fil 1024 0 (ar (si (si (si S 24 1) 19 p0) 21 7) 13))) 2 0 4128768) 11 0 (-1)) 12 0 (-1)) 25 1) 13 978 1) (p1 - 2) rfl h_a_10_0 ⟨by omega, by omega⟩) cf_X8_code (cw_25 cy tE a rw (su (si (su (su (sv (sa (si (si (si S 24 1) 19 p0) 21 7) 13 (fil 1024 0 (ar (si (si (si S 24 1) 19 p0) 21 7) 13))) 2 0 4128768) 11 0 (-1)) 12 0 (-1)) 25 1) 13 978 1)) rfl wm_X11_219 wi_X8_code ws_X8_code dX11_gain_113 rfl (Nat.le_of_ble_eq_true rfl) ⟨by decide, by decide, by decide, by decide⟩) (fun r12596 u12597 h12595 => ?_)
        obtain ⟨rfl, rfl⟩ := h12595
        refine z_istore (lv' := [(6, .int (-1)), (5, .int 0), (0, .ref (a 0)), (1, .int 1), (2, .int p0), (3, .int 0), (4, .int p1)]) b dX11_gain_116 (by decide) rfl ?_
        refine z_iload b dX11_gain_118 rfl ?_
        refine z_iconst (v := (-1)) b dX11_gain_120 (by decide) ?_
        refine z_icmp_ne_f (tgt := 129) b dX11_gain_121 (by decide) (by decide) ?_
        refine z_bipush (v := (-100)) b dX11_gain_124 (by decide) ?_
        refine z_goto (tgt := 131) b dX11_gain_126 (by decide) ?_
        exact z_iret (u := (su (si (su (su (sv (sa (si (si (si S 24 1) 19 p0) 21 7) 13 (fil 1024 0 (ar (si (si (si S 24 1) 19 p0) 21 7) 13))) 2 0 4128768) 11 0 (-1)) 12 0 (-1)) 25 1) 13 978 1)) b rfl dX11_gain_131 ⟨rfl, rfl⟩ rfl (by decide) (by decide)
      · exfalso; omega
    · exfalso; omega
  · exfalso; omega

set_option maxHeartbeats 4000000 in
set_option maxRecDepth 100000 in
theorem c_X12_gain_28 {l : Launch} {D : va_G} {cy : Nat → ClassId} {T0 tB tE : Nat} {a : Nat → Nat} (S : GS) (p0 : Int32) (p1 : Int32) (h_i_21 : fi S 21 = 0) (h_i_23 : fi S 23 = 0) (h_l_0 : fl S 0 = 1649317774848) (h_a_29_992 : ar S 29 992 = (-1)) (h_a_28_0 : ar S 28 0 = 0) (h_a_4_7 : ar S 4 7 = 0) (h_a_1_7 : ar S 1 7 = 0) (h_a_4_6 : ar S 4 6 = 0) (h_a_1_6 : ar S 1 6 = 0) (h_a_3_6 : ar S 3 6 = 0) (h_a_3_2 : ar S 3 2 = 0) (h_a_2_2 : ar S 2 2 = 3) (h_a_0_2 : ar S 0 2 = 0) (h_a_4_3 : ar S 4 3 = 0) (h_a_1_3 : ar S 1 3 = 0) (h_a_4_5 : ar S 4 5 = 0) (h_a_1_5 : ar S 1 5 = 0) (h_a_3_5 : ar S 3 5 = 0) (h_a_3_7 : ar S 3 7 = 0) (h_a_2_1 : ar S 2 1 = 3) (h_a_0_1 : ar S 0 1 = 0) (h_a_4_2 : ar S 4 2 = 0) (h_a_1_2 : ar S 1 2 = 0) (h_a_4_1 : ar S 4 1 = 0) (h_a_1_1 : ar S 1 1 = 0) (h_a_3_1 : ar S 3 1 = 0) (h_a_3_3 : ar S 3 3 = 0) (h_a_2_0 : ar S 2 0 = 3) (h_a_0_0 : ar S 0 0 = 0) (h_i_0 : fi S 0 = 0) (hr_p0 : 1 ≤ p0.toInt ∧ p0.toInt ≤ 3) (hr_p1 : 2 ≤ p1.toInt ∧ p1.toInt ≤ 7) : Ct l D cy T0 tB tE yX12_gain cX12_gain 9 (some .int) 3 74 0 0 (mw cy a S) [.ref (a 0), .int 1, .int p0, .int 0, .int p1] (QI D (U := GS) (fun r u => (-100) = r ∧ (si (su (su (sv (su (su (si S 22 (-1)) 29 992 0) 30 0 992) 0 0 1649317774848) 26 0 (-1)) 27 0 (-1)) 21 1) = u) (mw cy a)) := by
  refine Ct.ofZ RX12 "gain" [(0, .ref (a 0)), (1, .int 1), (2, .int p0), (3, .int 0), (4, .int p1)] rfl rfl rfl rfl (Nat.le_of_ble_eq_true rfl) ?_
  intro p e R s m args below meth c A b
  refine z_iload_n b dX12_gain_0 rfl rfl ?_
  refine z_calli b (z_runS (As := [.int 1]) (st := []) b (c_X12_isOne_4 S ) cf_X12_isOne wm_X12_170 ws_X12_isOne dX12_gain_1 rfl (Nat.le_of_ble_eq_true rfl) ⟨by decide, by decide, by decide, by decide⟩) (fun r12599 u12600 h12598 => ?_)
  obtain ⟨rfl, rfl⟩ := h12598
  refine z_if_eq_f (tgt := 27) b dX12_gain_4 (by decide) (by decide) ?_
  refine z_aload_n b dX12_gain_7 rfl rfl ?_
  refine z_iload_n b dX12_gain_8 rfl rfl ?_
  refine z_iload_n b dX12_gain_9 rfl rfl ?_
  refine z_calli b (z_runV (q0 := 0) (As := [.int p0, .int 0]) (st := []) b (c_X12_canSearch_4 S p0 ⟨by omega, by omega⟩) cf_X12_canSearch (mw_0 cy a S) rfl wm_X12_433 wi_X12_canSearch ws_X12_canSearch dX12_gain_10 rfl (Nat.le_of_ble_eq_true rfl) ⟨by decide, by decide, by decide, by decide⟩) (fun r12602 u12603 h12601 => ?_)
  obtain ⟨rfl, rfl⟩ := h12601
  refine z_if_eq_f (tgt := 27) b dX12_gain_13 (by decide) (by decide) ?_
  refine z_iload b dX12_gain_16 rfl ?_
  refine z_iconst (v := 0) b dX12_gain_18 (by decide) ?_
  refine z_bipush (v := 7) b dX12_gain_19 (by decide) ?_
  refine z_calli b (z_runS (As := [.int p1, .int 0, .int 7]) (st := []) b (c_X12_isIn_61 S p1 ⟨by omega, by omega⟩) cf_X12_isIn wm_X12_1 ws_X12_isIn dX12_gain_21 rfl (Nat.le_of_ble_eq_true rfl) ⟨by decide, by decide, by decide, by decide⟩) (fun r12605 u12606 h12604 => ?_)
  obtain ⟨rfl, rfl⟩ := h12604
  refine z_if_ne_t (tgt := 30) b dX12_gain_24 (by decide) (by decide) ?_
  refine z_aload_n b dX12_gain_30 rfl rfl ?_
  refine z_iconst (v := (-1)) b dX12_gain_31 (by decide) ?_
  refine z_iload_n b dX12_gain_32 rfl rfl ?_
  refine z_iload_n b dX12_gain_33 rfl rfl ?_
  refine z_bipush (v := 7) b dX12_gain_34 (by decide) ?_
  refine z_iconst (v := 0) b dX12_gain_36 (by decide) ?_
  refine z_callv b (z_runV (q0 := 0) (As := [.int (-1), .int p0, .int 0, .int 7, .int 0]) (st := []) b (c_X12_searches S p0 h_i_21 h_i_23 h_l_0 h_a_29_992 h_a_28_0 ⟨by omega, by omega⟩) cf_X12_searches (mw_0 cy a S) rfl wm_X12_436 wi_X12_searches ws_X12_searches dX12_gain_37 rfl (Nat.le_of_ble_eq_true rfl) ⟨by decide, by decide, by decide, by decide⟩) (fun u12609 h12607 => ?_)
  obtain rfl := h12607
  refine z_aload_n b dX12_gain_40 rfl rfl ?_
  refine z_get (q0 := 0) (k9 := 57) (v := .int (fi (si (su (su (sv (su (su (si S 22 (-1)) 29 992 0) 30 0 992) 0 0 1649317774848) 26 0 (-1)) 27 0 (-1)) 21 1) 23)) b (mw_0 cy a (si (su (su (sv (su (su (si S 22 (-1)) 29 992 0) 30 0 992) 0 0 1649317774848) 26 0 (-1)) 27 0 (-1)) 21 1)) rfl in_X12 (by decide) wf_X12_408 rfl dX12_gain_41 ?_
  refine z_eqi h_i_23 ?_
  refine z_if_eq_t (tgt := 50) b dX12_gain_44 (by decide) (by decide) ?_
  refine z_iconst (v := (-1)) b dX12_gain_50 (by decide) ?_
  refine z_istore (lv' := [(5, .int (-1)), (0, .ref (a 0)), (1, .int 1), (2, .int p0), (3, .int 0), (4, .int p1)]) b dX12_gain_51 (by decide) rfl ?_
  refine z_iconst (v := 0) b dX12_gain_53 (by decide) ?_
  refine z_istore (lv' := [(6, .int 0), (5, .int (-1)), (0, .ref (a 0)), (1, .int 1), (2, .int p0), (3, .int 0), (4, .int p1)]) b dX12_gain_54 (by decide) rfl ?_
  refine z_iconst (v := 0) b dX12_gain_56 (by decide) ?_
  refine z_istore (lv' := [(7, .int 0), (6, .int 0), (5, .int (-1)), (0, .ref (a 0)), (1, .int 1), (2, .int p0), (3, .int 0), (4, .int p1)]) b dX12_gain_57 (by decide) rfl ?_
  refine z_iload b dX12_gain_59 rfl ?_
  refine z_aload_n b dX12_gain_61 rfl rfl ?_
  refine z_get (q0 := 0) (k9 := 55) (v := .int 1) b (mw_0 cy a (si (su (su (sv (su (su (si S 22 (-1)) 29 992 0) 30 0 992) 0 0 1649317774848) 26 0 (-1)) 27 0 (-1)) 21 1)) rfl in_X12 (by decide) wf_X12_405 rfl dX12_gain_62 ?_
  refine z_icmp_ge_f (tgt := 147) b dX12_gain_65 (by decide) (by decide) ?_
  refine z_aload_n b dX12_gain_68 rfl rfl ?_
  refine z_aload_n b dX12_gain_69 rfl rfl ?_
  refine z_get (q0 := 0) (k9 := 49) (v := .ref (a 27)) b (mw_0 cy a (si (su (su (sv (su (su (si S 22 (-1)) 29 992 0) 30 0 992) 0 0 1649317774848) 26 0 (-1)) 27 0 (-1)) 21 1)) rfl in_X12 (by decide) wf_X12_97 rfl dX12_gain_70 ?_
  refine z_iload b dX12_gain_73 rfl ?_
  refine y_lald (q0 := 27) (j := 0) (v := 1649317774848) b (mw_27 cy a (si (su (su (sv (su (su (si S 22 (-1)) 29 992 0) 30 0 992) 0 0 1649317774848) 26 0 (-1)) 27 0 (-1)) 21 1)) (by decide) rfl dX12_gain_75 ?_
  refine z_callv b (z_runV (q0 := 0) (As := [.long 1649317774848]) (st := []) b (c_X12_takes (si (su (su (sv (su (su (si S 22 (-1)) 29 992 0) 30 0 992) 0 0 1649317774848) 26 0 (-1)) 27 0 (-1)) 21 1) h_a_4_7 h_a_1_7 h_a_4_6 h_a_1_6 h_a_3_6 h_a_3_2 h_a_2_2 h_a_0_2 h_a_4_3 h_a_1_3 h_a_4_5 h_a_1_5 h_a_3_5 h_a_3_7 h_a_2_1 h_a_0_1 h_a_4_2 h_a_1_2 h_a_4_1 h_a_1_1 h_a_3_1 h_a_3_3 h_a_2_0 h_a_0_0 h_i_0) cf_X12_takes (mw_0 cy a (si (su (su (sv (su (su (si S 22 (-1)) 29 992 0) 30 0 992) 0 0 1649317774848) 26 0 (-1)) 27 0 (-1)) 21 1)) rfl wm_X12_174 wi_X12_takes ws_X12_takes dX12_gain_76 rfl (Nat.le_of_ble_eq_true rfl) ⟨by decide, by decide, by decide, by decide⟩) (fun u12612 h12610 => ?_)
  obtain rfl := h12610
  refine z_aload_n b dX12_gain_79 rfl rfl ?_
  refine z_get (q0 := 0) (k9 := 0) (v := .ref (a 1)) b (mw_0 cy a (si (su (su (sv (su (su (si S 22 (-1)) 29 992 0) 30 0 992) 0 0 1649317774848) 26 0 (-1)) 27 0 (-1)) 21 1)) rfl in_X12 (by decide) wf_X12_13 rfl dX12_gain_80 ?_
  refine z_iload_n b dX12_gain_83 rfl rfl ?_
  refine y_iald (q0 := 1) (j := 1) (v := (ar (si (su (su (sv (su (su (si S 22 (-1)) 29 992 0) 30 0 992) 0 0 1649317774848) 26 0 (-1)) 27 0 (-1)) 21 1) 0 1)) b (mw_1 cy a (si (su (su (sv (su (su (si S 22 (-1)) 29 992 0) 30 0 992) 0 0 1649317774848) 26 0 (-1)) 27 0 (-1)) 21 1)) (by decide) rfl dX12_gain_84 ?_
  refine z_eqi h_a_0_1 ?_
  refine z_aload_n b dX12_gain_85 rfl rfl ?_
  refine z_get (q0 := 0) (k9 := 1) (v := .ref (a 2)) b (mw_0 cy a (si (su (su (sv (su (su (si S 22 (-1)) 29 992 0) 30 0 992) 0 0 1649317774848) 26 0 (-1)) 27 0 (-1)) 21 1)) rfl in_X12 (by decide) wf_X12_17 rfl dX12_gain_86 ?_
  refine z_iconst (v := 3) b dX12_gain_89 (by decide) ?_
  refine z_iload_n b dX12_gain_90 rfl rfl ?_
  refine z_imul (v := 3) b dX12_gain_91 (by decide) ?_
  refine z_iload_n b dX12_gain_92 rfl rfl ?_
  refine z_iconst (v := 0) b dX12_gain_93 (by decide) ?_
  refine z_calli b (z_runS (As := [.int 1, .int 0]) (st := [.int 3, .ref (a 2), .int 0]) b (c_X12_other_4 (si (su (su (sv (su (su (si S 22 (-1)) 29 992 0) 30 0 992) 0 0 1649317774848) 26 0 (-1)) 27 0 (-1)) 21 1) ) cf_X12_other wm_X12_160 ws_X12_other dX12_gain_94 rfl (Nat.le_of_ble_eq_true rfl) ⟨by decide, by decide, by decide, by decide⟩) (fun r12614 u12615 h12613 => ?_)
  obtain ⟨rfl, rfl⟩ := h12613
  refine z_iadd (v := 5) b dX12_gain_97 (by decide) ?_
  refine y_iald (q0 := 2) (j := 5) (v := (ar (si (su (su (sv (su (su (si S 22 (-1)) 29 992 0) 30 0 992) 0 0 1649317774848) 26 0 (-1)) 27 0 (-1)) 21 1) 1 5)) b (mw_2 cy a (si (su (su (sv (su (su (si S 22 (-1)) 29 992 0) 30 0 992) 0 0 1649317774848) 26 0 (-1)) 27 0 (-1)) 21 1)) (by decide) rfl dX12_gain_98 ?_
  refine z_eqi h_a_1_5 ?_
  refine z_isub (v := 0) b dX12_gain_99 (by decide) ?_
  refine z_aload_n b dX12_gain_100 rfl rfl ?_
  refine z_get (q0 := 0) (k9 := 1) (v := .ref (a 2)) b (mw_0 cy a (si (su (su (sv (su (su (si S 22 (-1)) 29 992 0) 30 0 992) 0 0 1649317774848) 26 0 (-1)) 27 0 (-1)) 21 1)) rfl in_X12 (by decide) wf_X12_17 rfl dX12_gain_101 ?_
  refine z_iconst (v := 3) b dX12_gain_104 (by decide) ?_
  refine z_iload_n b dX12_gain_105 rfl rfl ?_
  refine z_imul (v := 3) b dX12_gain_106 (by decide) ?_
  refine z_iload_n b dX12_gain_107 rfl rfl ?_
  refine z_iconst (v := 1) b dX12_gain_108 (by decide) ?_
  refine z_calli b (z_runS (As := [.int 1, .int 1]) (st := [.int 3, .ref (a 2), .int 0]) b (c_X12_other_3 (si (su (su (sv (su (su (si S 22 (-1)) 29 992 0) 30 0 992) 0 0 1649317774848) 26 0 (-1)) 27 0 (-1)) 21 1) ) cf_X12_other wm_X12_160 ws_X12_other dX12_gain_109 rfl (Nat.le_of_ble_eq_true rfl) ⟨by decide, by decide, by decide, by decide⟩) (fun r12617 u12618 h12616 => ?_)
  obtain ⟨rfl, rfl⟩ := h12616
  refine z_iadd (v := 3) b dX12_gain_112 (by decide) ?_
  refine y_iald (q0 := 2) (j := 3) (v := (ar (si (su (su (sv (su (su (si S 22 (-1)) 29 992 0) 30 0 992) 0 0 1649317774848) 26 0 (-1)) 27 0 (-1)) 21 1) 1 3)) b (mw_2 cy a (si (su (su (sv (su (su (si S 22 (-1)) 29 992 0) 30 0 992) 0 0 1649317774848) 26 0 (-1)) 27 0 (-1)) 21 1)) (by decide) rfl dX12_gain_113 ?_
  refine z_eqi h_a_1_3 ?_
  refine z_isub (v := 0) b dX12_gain_114 (by decide) ?_
  refine z_istore (lv' := [(8, .int 0), (7, .int 0), (6, .int 0), (5, .int (-1)), (0, .ref (a 0)), (1, .int 1), (2, .int p0), (3, .int 0), (4, .int p1)]) b dX12_gain_115 (by decide) rfl ?_
  refine z_iload b dX12_gain_117 rfl ?_
  refine z_iconst (v := (-1)) b dX12_gain_119 (by decide) ?_
  refine z_icmp_eq_t (tgt := 133) b dX12_gain_120 (by decide) (by decide) ?_
  refine z_iload b dX12_gain_133 rfl ?_
  refine z_istore (lv' := [(5, .int 0), (8, .int 0), (7, .int 0), (6, .int 0), (0, .ref (a 0)), (1, .int 1), (2, .int p0), (3, .int 0), (4, .int p1)]) b dX12_gain_135 (by decide) rfl ?_
  refine z_iload b dX12_gain_137 rfl ?_
  refine z_istore (lv' := [(6, .int 0), (5, .int 0), (8, .int 0), (7, .int 0), (0, .ref (a 0)), (1, .int 1), (2, .int p0), (3, .int 0), (4, .int p1)]) b dX12_gain_139 (by decide) rfl ?_
  refine z_iinc (k9 := 3) (v := 1) (lv' := [(7, .int 1), (6, .int 0), (5, .int 0), (8, .int 0), (0, .ref (a 0)), (1, .int 1), (2, .int p0), (3, .int 0), (4, .int p1)]) b dX12_gain_141 rfl (by decide) (by decide) rfl ?_
  refine z_goto (tgt := 59) b dX12_gain_144 (by decide) ?_
  refine z_iload b dX12_gain_59 rfl ?_
  refine z_aload_n b dX12_gain_61 rfl rfl ?_
  refine z_get (q0 := 0) (k9 := 55) (v := .int 1) b (mw_0 cy a (si (su (su (sv (su (su (si S 22 (-1)) 29 992 0) 30 0 992) 0 0 1649317774848) 26 0 (-1)) 27 0 (-1)) 21 1)) rfl in_X12 (by decide) wf_X12_405 rfl dX12_gain_62 ?_
  refine z_icmp_ge_t (tgt := 147) b dX12_gain_65 (by decide) (by decide) ?_
  refine z_iload b dX12_gain_147 rfl ?_
  refine z_iconst (v := 2) b dX12_gain_149 (by decide) ?_
  refine y_icmp_ge (tgt := 171) (xl := p1.toInt) (yl := 2) b rfl (by decide) dX12_gain_150 (by decide) (fun c12619 => ?_) (fun c12619 => ?_)
  · refine z_iload b dX12_gain_171 rfl ?_
    refine z_iconst (v := 2) b dX12_gain_173 (by decide) ?_
    refine z_isub b dX12_gain_174 rfl ?_
    have f12620 : ((p1 - 2) : Int32).toInt = p1.toInt + (-2) := zisub (k := 2) (by decide) (by omega) (by omega)
    refine z_aload_n b dX12_gain_175 rfl rfl ?_
    refine z_get (q0 := 0) (k9 := 52) (v := .ref (a 30)) b (mw_0 cy a (si (su (su (sv (su (su (si S 22 (-1)) 29 992 0) 30 0 992) 0 0 1649317774848) 26 0 (-1)) 27 0 (-1)) 21 1)) rfl in_X12 (by decide) wf_X12_107 rfl dX12_gain_176 ?_
    refine z_iload b dX12_gain_179 rfl ?_
    refine y_iald (q0 := 30) (j := 0) (v := (ar (si (su (su (sv (su (su (si S 22 (-1)) 29 992 0) 30 0 992) 0 0 1649317774848) 26 0 (-1)) 27 0 (-1)) 21 1) 28 0)) b (mw_30 cy a (si (su (su (sv (su (su (si S 22 (-1)) 29 992 0) 30 0 992) 0 0 1649317774848) 26 0 (-1)) 27 0 (-1)) 21 1)) (by decide) rfl dX12_gain_181 ?_
    refine z_eqi h_a_28_0 ?_
    refine y_icmp_ge (tgt := 198) (xl := ((p1 - 2) : Int32).toInt) (yl := 0) b rfl (by decide) dX12_gain_182 (by decide) (fun c12621 => ?_) (fun c12621 => ?_)
    · refine z_bipush (v := (-100)) b dX12_gain_198 (by decide) ?_
      exact z_iret (u := (si (su (su (sv (su (su (si S 22 (-1)) 29 992 0) 30 0 992) 0 0 1649317774848) 26 0 (-1)) 27 0 (-1)) 21 1)) b rfl dX12_gain_200 ⟨rfl, rfl⟩ rfl (by decide) (by decide)
    · exfalso; omega
  · exfalso; omega

set_option maxHeartbeats 4000000 in
set_option maxRecDepth 100000 in
theorem c_X11_gain_29 {l : Launch} {D : va_G} {cy : Nat → ClassId} {T0 tB tE : Nat} {a : Nat → Nat} {rw : Nat → Option Nat} (S : GS) (p0 : Int32) (p1 : Int32) (h_i_19 : fi S 19 = 0) (h_i_24 : fi S 24 = 0) (h_i_20 : fi S 20 = 0) (h_i_22 : fi S 22 = 0) (h_i_18 : fi S 18 = 0) (h_i_25 : fi S 25 = 0) (h_i_23 : fi S 23 = 0) (h_i_26 : fi S 26 = 0) (h_a_4_50 : ar S 4 50 = 0) (h_a_4_40 : ar S 4 40 = 3) (h_a_4_41 : ar S 4 41 = 3) (h_a_4_42 : ar S 4 42 = 3) (h_a_4_0 : ar S 4 0 = 0) (h_a_4_11 : ar S 4 11 = 0) (h_a_4_21 : ar S 4 21 = 0) (h_a_4_31 : ar S 4 31 = 0) (h_a_4_12 : ar S 4 12 = 0) (h_a_4_22 : ar S 4 22 = 0) (h_a_4_32 : ar S 4 32 = 0) (h_a_4_1 : ar S 4 1 = 0) (h_a_4_13 : ar S 4 13 = 0) (h_a_4_23 : ar S 4 23 = 0) (h_a_4_33 : ar S 4 33 = 0) (h_a_4_15 : ar S 4 15 = 0) (h_a_4_25 : ar S 4 25 = 0) (h_a_4_35 : ar S 4 35 = 0) (h_a_4_2 : ar S 4 2 = 0) (h_a_4_16 : ar S 4 16 = 0) (h_a_4_26 : ar S 4 26 = 0) (h_a_4_36 : ar S 4 36 = 0) (h_a_4_17 : ar S 4 17 = 0) (h_a_4_27 : ar S 4 27 = 0) (h_a_4_37 : ar S 4 37 = 0) (h_a_10_0 : ar S 10 0 = 0) (h_a_9_50 : ar S 9 50 = 0) (h_a_9_40 : ar S 9 40 = 3) (h_a_9_41 : ar S 9 41 = 3) (h_a_9_42 : ar S 9 42 = 3) (h_a_9_0 : ar S 9 0 = 0) (h_a_9_11 : ar S 9 11 = 0) (h_a_9_21 : ar S 9 21 = 0) (h_a_9_31 : ar S 9 31 = 0) (h_a_9_12 : ar S 9 12 = 0) (h_a_9_22 : ar S 9 22 = 0) (h_a_9_32 : ar S 9 32 = 0) (h_a_9_1 : ar S 9 1 = 0) (h_a_9_13 : ar S 9 13 = 0) (h_a_9_23 : ar S 9 23 = 0) (h_a_9_33 : ar S 9 33 = 0) (h_a_9_15 : ar S 9 15 = 0) (h_a_9_25 : ar S 9 25 = 0) (h_a_9_35 : ar S 9 35 = 0) (h_a_9_2 : ar S 9 2 = 0) (h_a_9_16 : ar S 9 16 = 0) (h_a_9_26 : ar S 9 26 = 0) (h_a_9_36 : ar S 9 36 = 0) (h_a_9_17 : ar S 9 17 = 0) (h_a_9_27 : ar S 9 27 = 0) (h_a_9_37 : ar S 9 37 = 0) (hr_p0 : 1 ≤ p0.toInt ∧ p0.toInt ≤ 3) (hr_p1 : 8 ≤ p1.toInt ∧ p1.toInt ≤ 2147483647) : Ct l D cy T0 tB tE yX11_gain cX11_gain 7 (some .int) 5 117 0 0 (cw cy tE a rw S) [.ref (a 0), .int 1, .int p0, .int 0, .int p1] (QI D (U := GS) (fun r u => (-100) = r ∧ (su (si (su (su (sv (sa (si (si (si S 24 1) 19 p0) 21 7) 13 (fil 1024 0 (ar (si (si (si S 24 1) 19 p0) 21 7) 13))) 2 0 4128768) 11 0 (-1)) 12 0 (-1)) 25 1) 13 978 1) = u) (cw cy tE a rw)) := by
  refine Ct.ofZ RX11 "gain" [(0, .ref (a 0)), (1, .int 1), (2, .int p0), (3, .int 0), (4, .int p1)] rfl rfl rfl rfl (Nat.le_of_ble_eq_true rfl) ?_
  intro p e R s m args below meth c A b
  refine z_iload_n b dX11_gain_0 rfl rfl ?_
  refine z_calli b (z_runS (As := [.int 1]) (st := []) b (c_X11_isPerson_4 S ) cf_X11_isPerson wm_X11_69 ws_X11_isPerson dX11_gain_1 rfl (Nat.le_of_ble_eq_true rfl) ⟨by decide, by decide, by decide, by decide⟩) (fun r12623 u12624 h12622 => ?_)
  obtain ⟨rfl, rfl⟩ := h12622
  refine z_if_eq_f (tgt := 26) b dX11_gain_4 (by decide) (by decide) ?_
  refine z_iload_n b dX11_gain_7 rfl rfl ?_
  refine z_calli b (z_runS (As := [.int p0]) (st := []) b (c_X11_areLaws_3 S p0 ⟨by omega, by omega⟩) cf_X11_areLaws wm_X11_181 ws_X11_areLaws dX11_gain_8 rfl (Nat.le_of_ble_eq_true rfl) ⟨by decide, by decide, by decide, by decide⟩) (fun r12626 u12627 h12625 => ?_)
  obtain ⟨rfl, rfl⟩ := h12625
  refine z_if_eq_f (tgt := 26) b dX11_gain_11 (by decide) (by decide) ?_
  refine z_iload_n b dX11_gain_14 rfl rfl ?_
  refine z_calli b (z_runS (As := [.int 0]) (st := []) b (c_X11_isDepth_2 S ) cf_X11_isDepth wm_X11_203 ws_X11_isDepth dX11_gain_15 rfl (Nat.le_of_ble_eq_true rfl) ⟨by decide, by decide, by decide, by decide⟩) (fun r12629 u12630 h12628 => ?_)
  obtain ⟨rfl, rfl⟩ := h12628
  refine z_if_eq_f (tgt := 26) b dX11_gain_18 (by decide) (by decide) ?_
  refine z_iload b dX11_gain_21 rfl ?_
  refine y_if_ge (tgt := 29) (xl := p1.toInt) b rfl dX11_gain_23 (by decide) (fun c12631 => ?_) (fun c12631 => ?_)
  · refine z_aload_n b dX11_gain_29 rfl rfl ?_
    refine z_get (q0 := 0) (k9 := 6) (v := .ref (a 25)) b (cw_0 cy tE a rw S) rfl in_X11 (by decide) wf_X11_52 rfl dX11_gain_30 ?_
    refine z_iload_n b dX11_gain_33 rfl rfl ?_
    refine z_iload_n b dX11_gain_34 rfl rfl ?_
    refine z_bipush (v := 7) b dX11_gain_35 (by decide) ?_
    refine z_iconst (v := 0) b dX11_gain_37 (by decide) ?_
    refine z_callv b (z_runV (q0 := 25) (As := [.int p0, .int 0, .int 7, .int 0]) (st := []) b (c_X8_begin S p0 h_i_19 h_i_24 h_i_20 h_i_22 h_i_18 h_i_25 h_i_23 h_i_26 h_a_4_50 h_a_4_40 h_a_4_41 h_a_4_42 h_a_4_0 h_a_4_11 h_a_4_21 h_a_4_31 h_a_4_12 h_a_4_22 h_a_4_32 h_a_4_1 h_a_4_13 h_a_4_23 h_a_4_33 h_a_4_15 h_a_4_25 h_a_4_35 h_a_4_2 h_a_4_16 h_a_4_26 h_a_4_36 h_a_4_17 h_a_4_27 h_a_4_37 h_a_10_0 ⟨by omega, by omega⟩) cf_X8_begin (cw_25 cy tE a rw S) rfl wm_X11_206 wi_X8_begin ws_X8_begin dX11_gain_38 rfl (Nat.le_of_ble_eq_true rfl) ⟨by decide, by decide, by decide, by decide⟩) (fun u12634 h12632 => ?_)
    obtain rfl := h12632
    refine z_aload_n b dX11_gain_41 rfl rfl ?_
    refine z_get (q0 := 0) (k9 := 6) (v := .ref (a 25)) b (cw_0 cy tE a rw (su (si (su (su (sv (sa (si (si (si S 24 1) 19 p0) 21 7) 13 (fil 1024 0 (ar (si (si (si S 24 1) 19 p0) 21 7) 13))) 2 0 4128768) 11 0 (-1)) 12 0 (-1)) 25 1) 13 978 1)) rfl in_X11 (by decide) wf_X11_52 rfl dX11_gain_42 ?_
    refine z_callv b (z_runV (q0 := 25) (As := []) (st := []) b (c_X8_finish (su (si (su (su (sv (sa (si (si (si S 24 1) 19 p0) 21 7) 13 (fil 1024 0 (ar (si (si (si S 24 1) 19 p0) 21 7) 13))) 2 0 4128768) 11 0 (-1)) 12 0 (-1)) 25 1) 13 978 1) h_i_26 h_i_23 rfl h_a_10_0 h_i_20) cf_X8_finish (cw_25 cy tE a rw (su (si (su (su (sv (sa (si (si (si S 24 1) 19 p0) 21 7) 13 (fil 1024 0 (ar (si (si (si S 24 1) 19 p0) 21 7) 13))) 2 0 4128768) 11 0 (-1)) 12 0 (-1)) 25 1) 13 978 1)) rfl wm_X11_232 wi_X8_finish ws_X8_finish dX11_gain_45 rfl (Nat.le_of_ble_eq_true rfl) ⟨by decide, by decide, by decide, by decide⟩) (fun u12637 h12635 => ?_)
    obtain rfl := h12635
    refine z_aload_n b dX11_gain_48 rfl rfl ?_
    refine z_get (q0 := 0) (k9 := 6) (v := .ref (a 25)) b (cw_0 cy tE a rw (su (si (su (su (sv (sa (si (si (si S 24 1) 19 p0) 21 7) 13 (fil 1024 0 (ar (si (si (si S 24 1) 19 p0) 21 7) 13))) 2 0 4128768) 11 0 (-1)) 12 0 (-1)) 25 1) 13 978 1)) rfl in_X11 (by decide) wf_X11_52 rfl dX11_gain_49 ?_
    refine z_get (q0 := 25) (k9 := 18) (v := .int (fi (su (si (su (su (sv (sa (si (si (si S 24 1) 19 p0) 21 7) 13 (fil 1024 0 (ar (si (si (si S 24 1) 19 p0) 21 7) 13))) 2 0 4128768) 11 0 (-1)) 12 0 (-1)) 25 1) 13 978 1) 26)) b (cw_25 cy tE a rw (su (si (su (su (sv (sa (si (si (si S 24 1) 19 p0) 21 7) 13 (fil 1024 0 (ar (si (si (si S 24 1) 19 p0) 21 7) 13))) 2 0 4128768) 11 0 (-1)) 12 0 (-1)) 25 1) 13 978 1)) rfl in_X8 (by decide) wf_X11_214 rfl dX11_gain_52 ?_
    refine z_eqi h_i_26 ?_
    refine z_if_eq_t (tgt := 61) b dX11_gain_55 (by decide) (by decide) ?_
    refine z_aload_n b dX11_gain_61 rfl rfl ?_
    refine z_get (q0 := 0) (k9 := 6) (v := .ref (a 25)) b (cw_0 cy tE a rw (su (si (su (su (sv (sa (si (si (si S 24 1) 19 p0) 21 7) 13 (fil 1024 0 (ar (si (si (si S 24 1) 19 p0) 21 7) 13))) 2 0 4128768) 11 0 (-1)) 12 0 (-1)) 25 1) 13 978 1)) rfl in_X11 (by decide) wf_X11_52 rfl dX11_gain_62 ?_
    refine z_iload_n b dX11_gain_65 rfl rfl ?_
    refine z_calli b (z_runV (q0 := 25) (As := [.int 1]) (st := []) b (c_X8_richest_2 (su (si (su (su (sv (sa (si (si (si S 24 1) 19 p0) 21 7) 13 (fil 1024 0 (ar (si (si (si S 24 1) 19 p0) 21 7) 13))) 2 0 4128768) 11 0 (-1)) 12 0 (-1)) 25 1) 13 978 1) rfl rfl h_a_9_50 h_a_9_40 h_a_9_41 h_a_9_42 h_a_9_0 h_a_9_11 h_a_9_21 h_a_9_31 h_a_9_12 h_a_9_22 h_a_9_32 h_a_9_1 h_a_9_13 h_a_9_23 h_a_9_33 h_a_9_15 h_a_9_25 h_a_9_35 h_a_9_2 h_a_9_16 h_a_9_26 h_a_9_36 h_a_9_17 h_a_9_27 h_a_9_37) cf_X8_richest (cw_25 cy tE a rw (su (si (su (su (sv (sa (si (si (si S 24 1) 19 p0) 21 7) 13 (fil 1024 0 (ar (si (si (si S 24 1) 19 p0) 21 7) 13))) 2 0 4128768) 11 0 (-1)) 12 0 (-1)) 25 1) 13 978 1)) rfl wm_X11_238 wi_X8_richest ws_X8_richest dX11_gain_66 rfl (Nat.le_of_ble_eq_true rfl) ⟨by decide, by decide, by decide, by decide⟩) (fun r12639 u12640 h12638 => ?_)
    obtain ⟨rfl, rfl⟩ := h12638
    refine z_istore (lv' := [(5, .int 0), (0, .ref (a 0)), (1, .int 1), (2, .int p0), (3, .int 0), (4, .int p1)]) b dX11_gain_69 (by decide) rfl ?_
    refine z_iload b dX11_gain_71 rfl ?_
    refine y_if_ne (tgt := 87) (xl := p1.toInt) b rfl dX11_gain_73 (by decide) (fun c12641 => ?_) (fun c12641 => ?_)
    · refine z_iload b dX11_gain_87 rfl ?_
      refine z_iconst (v := 1) b dX11_gain_89 (by decide) ?_
      refine y_icmp_ne (tgt := 103) (xl := p1.toInt) (yl := 1) b rfl (by decide) dX11_gain_90 (by decide) (fun c12642 => ?_) (fun c12642 => ?_)
      · refine z_aload_n b dX11_gain_103 rfl rfl ?_
        refine z_get (q0 := 0) (k9 := 6) (v := .ref (a 25)) b (cw_0 cy tE a rw (su (si (su (su (sv (sa (si (si (si S 24 1) 19 p0) 21 7) 13 (fil 1024 0 (ar (si (si (si S 24 1) 19 p0) 21 7) 13))) 2 0 4128768) 11 0 (-1)) 12 0 (-1)) 25 1) 13 978 1)) rfl in_X11 (by decide) wf_X11_52 rfl dX11_gain_104 ?_
        refine z_iload b dX11_gain_107 rfl ?_
        refine z_iload b dX11_gain_109 rfl ?_
        refine z_iconst (v := 2) b dX11_gain_111 (by decide) ?_
        refine z_isub b dX11_gain_112 rfl ?_
        have f12643 : ((p1 - 2) : Int32).toInt = p1.toInt + (-2) := zisub (k := 2) (by decide) (by omega) (by omega)
        refine z_calli b (z_runV (q0 := 25) (As := [.int 0, .int (p1 - 2)]) (st := []) b (c_X8_code_2 (su (si (su (su (sv (sa (si (si (si S 24 1) 19 p0) 21 7) 13 (fil 1024 0 (ar (si (si (si S 24 1) 19 p0) 21 7) 13))) 2 0 4128768) 11 0 (-1)) 12 0 (-1)) 25 1) 13 978 1) (p1 - 2) rfl h_a_10_0 ⟨by omega, by omega⟩) cf_X8_code (cw_25 cy tE a rw (su (si (su (su (sv (sa (si (si (si S 24 1) 19 p0) 21 7) 13 (fil 1024 0 (ar (si (si (si S 24 1) 19 p0) 21 7) 13))) 2 0 4128768) 11 0 (-1)) 12 0 (-1)) 25 1) 13 978 1)) rfl wm_X11_219 wi_X8_code ws_X8_code dX11_gain_113 rfl (Nat.le_of_ble_eq_true rfl) ⟨by decide, by decide, by decide, by decide⟩) (fun r12645 u12646 h12644 => ?_)
        obtain ⟨rfl, rfl⟩ := h12644
        refine z_istore (lv' := [(6, .int (-1)), (5, .int 0), (0, .ref (a 0)), (1, .int 1), (2, .int p0), (3, .int 0), (4, .int p1)]) b dX11_gain_116 (by decide) rfl ?_
        refine z_iload b dX11_gain_118 rfl ?_
        refine z_iconst (v := (-1)) b dX11_gain_120 (by decide) ?_
        refine z_icmp_ne_f (tgt := 129) b dX11_gain_121 (by decide) (by decide) ?_
        refine z_bipush (v := (-100)) b dX11_gain_124 (by decide) ?_
        refine z_goto (tgt := 131) b dX11_gain_126 (by decide) ?_
        exact z_iret (u := (su (si (su (su (sv (sa (si (si (si S 24 1) 19 p0) 21 7) 13 (fil 1024 0 (ar (si (si (si S 24 1) 19 p0) 21 7) 13))) 2 0 4128768) 11 0 (-1)) 12 0 (-1)) 25 1) 13 978 1)) b rfl dX11_gain_131 ⟨rfl, rfl⟩ rfl (by decide) (by decide)
      · exfalso; omega
    · exfalso; omega
  · exfalso; omega

set_option maxHeartbeats 4000000 in
set_option maxRecDepth 100000 in
theorem c_X12_gain_29 {l : Launch} {D : va_G} {cy : Nat → ClassId} {T0 tB tE : Nat} {a : Nat → Nat} (S : GS) (p0 : Int32) (p1 : Int32)  (hr_p0 : 1 ≤ p0.toInt ∧ p0.toInt ≤ 3) (hr_p1 : 8 ≤ p1.toInt ∧ p1.toInt ≤ 2147483647) : Ct l D cy T0 tB tE yX12_gain cX12_gain 9 (some .int) 2 44 0 0 (mw cy a S) [.ref (a 0), .int 1, .int p0, .int 0, .int p1] (QI D (U := GS) (fun r u => (-100) = r ∧ S = u) (mw cy a)) := by
  refine Ct.ofZ RX12 "gain" [(0, .ref (a 0)), (1, .int 1), (2, .int p0), (3, .int 0), (4, .int p1)] rfl rfl rfl rfl (Nat.le_of_ble_eq_true rfl) ?_
  intro p e R s m args below meth c A b
  refine z_iload_n b dX12_gain_0 rfl rfl ?_
  refine z_calli b (z_runS (As := [.int 1]) (st := []) b (c_X12_isOne_4 S ) cf_X12_isOne wm_X12_170 ws_X12_isOne dX12_gain_1 rfl (Nat.le_of_ble_eq_true rfl) ⟨by decide, by decide, by decide, by decide⟩) (fun r12648 u12649 h12647 => ?_)
  obtain ⟨rfl, rfl⟩ := h12647
  refine z_if_eq_f (tgt := 27) b dX12_gain_4 (by decide) (by decide) ?_
  refine z_aload_n b dX12_gain_7 rfl rfl ?_
  refine z_iload_n b dX12_gain_8 rfl rfl ?_
  refine z_iload_n b dX12_gain_9 rfl rfl ?_
  refine z_calli b (z_runV (q0 := 0) (As := [.int p0, .int 0]) (st := []) b (c_X12_canSearch_4 S p0 ⟨by omega, by omega⟩) cf_X12_canSearch (mw_0 cy a S) rfl wm_X12_433 wi_X12_canSearch ws_X12_canSearch dX12_gain_10 rfl (Nat.le_of_ble_eq_true rfl) ⟨by decide, by decide, by decide, by decide⟩) (fun r12651 u12652 h12650 => ?_)
  obtain ⟨rfl, rfl⟩ := h12650
  refine z_if_eq_f (tgt := 27) b dX12_gain_13 (by decide) (by decide) ?_
  refine z_iload b dX12_gain_16 rfl ?_
  refine z_iconst (v := 0) b dX12_gain_18 (by decide) ?_
  refine z_bipush (v := 7) b dX12_gain_19 (by decide) ?_
  refine z_calli b (z_runS (As := [.int p1, .int 0, .int 7]) (st := []) b (c_X12_isIn_14 S p1 ⟨by omega, by omega⟩) cf_X12_isIn wm_X12_1 ws_X12_isIn dX12_gain_21 rfl (Nat.le_of_ble_eq_true rfl) ⟨by decide, by decide, by decide, by decide⟩) (fun r12654 u12655 h12653 => ?_)
  obtain ⟨rfl, rfl⟩ := h12653
  refine z_if_ne_f (tgt := 30) b dX12_gain_24 (by decide) (by decide) ?_
  refine z_bipush (v := (-100)) b dX12_gain_27 (by decide) ?_
  exact z_iret (u := S) b rfl dX12_gain_29 ⟨rfl, rfl⟩ rfl (by decide) (by decide)

set_option maxHeartbeats 4000000 in
set_option maxRecDepth 100000 in
theorem c_X11_gain_30 {l : Launch} {D : va_G} {cy : Nat → ClassId} {T0 tB tE : Nat} {a : Nat → Nat} {rw : Nat → Option Nat} (S : GS) (p0 : Int32) (p1 : Int32) (p2 : Int32)  (hr_p0 : 1 ≤ p0.toInt ∧ p0.toInt ≤ 3) (hr_p1 : 1 ≤ p1.toInt ∧ p1.toInt ≤ 6) (hr_p2 : (-2147483648) ≤ p2.toInt ∧ p2.toInt ≤ (-1)) : Ct l D cy T0 tB tE yX11_gain cX11_gain 7 (some .int) 1 20 0 0 (cw cy tE a rw S) [.ref (a 0), .int 1, .int p0, .int p1, .int p2] (QI D (U := GS) (fun r u => (-100) = r ∧ S = u) (cw cy tE a rw)) := by
  refine Ct.ofZ RX11 "gain" [(0, .ref (a 0)), (1, .int 1), (2, .int p0), (3, .int p1), (4, .int p2)] rfl rfl rfl rfl (Nat.le_of_ble_eq_true rfl) ?_
  intro p e R s m args below meth c A b
  refine z_iload_n b dX11_gain_0 rfl rfl ?_
  refine z_calli b (z_runS (As := [.int 1]) (st := []) b (c_X11_isPerson_4 S ) cf_X11_isPerson wm_X11_69 ws_X11_isPerson dX11_gain_1 rfl (Nat.le_of_ble_eq_true rfl) ⟨by decide, by decide, by decide, by decide⟩) (fun r12657 u12658 h12656 => ?_)
  obtain ⟨rfl, rfl⟩ := h12656
  refine z_if_eq_f (tgt := 26) b dX11_gain_4 (by decide) (by decide) ?_
  refine z_iload_n b dX11_gain_7 rfl rfl ?_
  refine z_calli b (z_runS (As := [.int p0]) (st := []) b (c_X11_areLaws_3 S p0 ⟨by omega, by omega⟩) cf_X11_areLaws wm_X11_181 ws_X11_areLaws dX11_gain_8 rfl (Nat.le_of_ble_eq_true rfl) ⟨by decide, by decide, by decide, by decide⟩) (fun r12660 u12661 h12659 => ?_)
  obtain ⟨rfl, rfl⟩ := h12659
  refine z_if_eq_f (tgt := 26) b dX11_gain_11 (by decide) (by decide) ?_
  refine z_iload_n b dX11_gain_14 rfl rfl ?_
  refine z_calli b (z_runS (As := [.int p1]) (st := []) b (c_X11_isDepth_3 S p1 ⟨by omega, by omega⟩) cf_X11_isDepth wm_X11_203 ws_X11_isDepth dX11_gain_15 rfl (Nat.le_of_ble_eq_true rfl) ⟨by decide, by decide, by decide, by decide⟩) (fun r12663 u12664 h12662 => ?_)
  obtain ⟨rfl, rfl⟩ := h12662
  refine z_if_eq_f (tgt := 26) b dX11_gain_18 (by decide) (by decide) ?_
  refine z_iload b dX11_gain_21 rfl ?_
  refine y_if_ge (tgt := 29) (xl := p2.toInt) b rfl dX11_gain_23 (by decide) (fun c12665 => ?_) (fun c12665 => ?_)
  · exfalso; omega
  · refine z_bipush (v := (-100)) b dX11_gain_26 (by decide) ?_
    exact z_iret (u := S) b rfl dX11_gain_28 ⟨rfl, rfl⟩ rfl (by decide) (by decide)

set_option maxHeartbeats 4000000 in
set_option maxRecDepth 100000 in
theorem c_X12_gain_30 {l : Launch} {D : va_G} {cy : Nat → ClassId} {T0 tB tE : Nat} {a : Nat → Nat} (S : GS) (p0 : Int32) (p1 : Int32) (p2 : Int32)  (hr_p0 : 1 ≤ p0.toInt ∧ p0.toInt ≤ 3) (hr_p1 : 1 ≤ p1.toInt ∧ p1.toInt ≤ 6) (hr_p2 : (-2147483648) ≤ p2.toInt ∧ p2.toInt ≤ (-1)) : Ct l D cy T0 tB tE yX12_gain cX12_gain 9 (some .int) 2 44 0 0 (mw cy a S) [.ref (a 0), .int 1, .int p0, .int p1, .int p2] (QI D (U := GS) (fun r u => (-100) = r ∧ S = u) (mw cy a)) := by
  refine Ct.ofZ RX12 "gain" [(0, .ref (a 0)), (1, .int 1), (2, .int p0), (3, .int p1), (4, .int p2)] rfl rfl rfl rfl (Nat.le_of_ble_eq_true rfl) ?_
  intro p e R s m args below meth c A b
  refine z_iload_n b dX12_gain_0 rfl rfl ?_
  refine z_calli b (z_runS (As := [.int 1]) (st := []) b (c_X12_isOne_4 S ) cf_X12_isOne wm_X12_170 ws_X12_isOne dX12_gain_1 rfl (Nat.le_of_ble_eq_true rfl) ⟨by decide, by decide, by decide, by decide⟩) (fun r12667 u12668 h12666 => ?_)
  obtain ⟨rfl, rfl⟩ := h12666
  refine z_if_eq_f (tgt := 27) b dX12_gain_4 (by decide) (by decide) ?_
  refine z_aload_n b dX12_gain_7 rfl rfl ?_
  refine z_iload_n b dX12_gain_8 rfl rfl ?_
  refine z_iload_n b dX12_gain_9 rfl rfl ?_
  refine z_calli b (z_runV (q0 := 0) (As := [.int p0, .int p1]) (st := []) b (c_X12_canSearch_5 S p0 p1 ⟨by omega, by omega⟩ ⟨by omega, by omega⟩) cf_X12_canSearch (mw_0 cy a S) rfl wm_X12_433 wi_X12_canSearch ws_X12_canSearch dX12_gain_10 rfl (Nat.le_of_ble_eq_true rfl) ⟨by decide, by decide, by decide, by decide⟩) (fun r12670 u12671 h12669 => ?_)
  obtain ⟨rfl, rfl⟩ := h12669
  refine z_if_eq_f (tgt := 27) b dX12_gain_13 (by decide) (by decide) ?_
  refine z_iload b dX12_gain_16 rfl ?_
  refine z_iconst (v := 0) b dX12_gain_18 (by decide) ?_
  refine z_bipush (v := 7) b dX12_gain_19 (by decide) ?_
  refine z_calli b (z_runS (As := [.int p2, .int 0, .int 7]) (st := []) b (c_X12_isIn_12 S p2 ⟨by omega, by omega⟩) cf_X12_isIn wm_X12_1 ws_X12_isIn dX12_gain_21 rfl (Nat.le_of_ble_eq_true rfl) ⟨by decide, by decide, by decide, by decide⟩) (fun r12673 u12674 h12672 => ?_)
  obtain ⟨rfl, rfl⟩ := h12672
  refine z_if_ne_f (tgt := 30) b dX12_gain_24 (by decide) (by decide) ?_
  refine z_bipush (v := (-100)) b dX12_gain_27 (by decide) ?_
  exact z_iret (u := S) b rfl dX12_gain_29 ⟨rfl, rfl⟩ rfl (by decide) (by decide)

set_option maxHeartbeats 4000000 in
set_option maxRecDepth 100000 in
theorem c_X11_gain_31 {l : Launch} {D : va_G} {cy : Nat → ClassId} {T0 tB tE : Nat} {a : Nat → Nat} {rw : Nat → Option Nat} (S : GS) (p0 : Int32) (p1 : Int32) (h_i_19 : fi S 19 = 0) (h_i_24 : fi S 24 = 0) (h_i_22 : fi S 22 = 0) (h_i_18 : fi S 18 = 0) (h_i_25 : fi S 25 = 0) (h_i_23 : fi S 23 = 0) (h_i_26 : fi S 26 = 0) (h_a_4_50 : ar S 4 50 = 0) (h_a_4_40 : ar S 4 40 = 3) (h_a_4_41 : ar S 4 41 = 3) (h_a_4_42 : ar S 4 42 = 3) (h_a_4_0 : ar S 4 0 = 0) (h_a_4_11 : ar S 4 11 = 0) (h_a_4_21 : ar S 4 21 = 0) (h_a_4_31 : ar S 4 31 = 0) (h_a_4_12 : ar S 4 12 = 0) (h_a_4_22 : ar S 4 22 = 0) (h_a_4_32 : ar S 4 32 = 0) (h_a_4_1 : ar S 4 1 = 0) (h_a_4_13 : ar S 4 13 = 0) (h_a_4_23 : ar S 4 23 = 0) (h_a_4_33 : ar S 4 33 = 0) (h_a_4_15 : ar S 4 15 = 0) (h_a_4_25 : ar S 4 25 = 0) (h_a_4_35 : ar S 4 35 = 0) (h_a_4_2 : ar S 4 2 = 0) (h_a_4_16 : ar S 4 16 = 0) (h_a_4_26 : ar S 4 26 = 0) (h_a_4_36 : ar S 4 36 = 0) (h_a_4_17 : ar S 4 17 = 0) (h_a_4_27 : ar S 4 27 = 0) (h_a_4_37 : ar S 4 37 = 0) (h_a_10_0 : ar S 10 0 = 0) (h_a_9_50 : ar S 9 50 = 0) (h_a_9_40 : ar S 9 40 = 3) (h_a_9_41 : ar S 9 41 = 3) (h_a_9_42 : ar S 9 42 = 3) (h_a_9_0 : ar S 9 0 = 0) (h_a_9_11 : ar S 9 11 = 0) (h_a_9_21 : ar S 9 21 = 0) (h_a_9_31 : ar S 9 31 = 0) (h_a_9_12 : ar S 9 12 = 0) (h_a_9_22 : ar S 9 22 = 0) (h_a_9_32 : ar S 9 32 = 0) (h_a_9_1 : ar S 9 1 = 0) (h_a_9_13 : ar S 9 13 = 0) (h_a_9_23 : ar S 9 23 = 0) (h_a_9_33 : ar S 9 33 = 0) (h_a_9_15 : ar S 9 15 = 0) (h_a_9_25 : ar S 9 25 = 0) (h_a_9_35 : ar S 9 35 = 0) (h_a_9_2 : ar S 9 2 = 0) (h_a_9_16 : ar S 9 16 = 0) (h_a_9_26 : ar S 9 26 = 0) (h_a_9_36 : ar S 9 36 = 0) (h_a_9_17 : ar S 9 17 = 0) (h_a_9_27 : ar S 9 27 = 0) (h_a_9_37 : ar S 9 37 = 0) (hr_p0 : 1 ≤ p0.toInt ∧ p0.toInt ≤ 3) (hr_p1 : 1 ≤ p1.toInt ∧ p1.toInt ≤ 6) : Ct l D cy T0 tB tE yX11_gain cX11_gain 7 (some .int) 5 117 0 0 (cw cy tE a rw S) [.ref (a 0), .int 1, .int p0, .int p1, .int 0] (QI D (U := GS) (fun r u => (((((0 < ((fi (su (si (su (su (sv (sa (si (si (si (si S 24 1) 19 p0) 20 p1) 21 7) 13 (fil 1024 0 (ar (si (si (si (si S 24 1) 19 p0) 20 p1) 21 7) 13))) 2 0 4128768) 11 0 (-1)) 12 0 (-1)) 25 1) 13 978 1) 20) : Int32).toInt)))) ∧ 0 = r ∧ (si (su (si (su (su (sv (sa (si (si (si (si S 24 1) 19 p0) 20 p1) 21 7) 13 (fil 1024 0 (ar (si (si (si (si S 24 1) 19 p0) 20 p1) 21 7) 13))) 2 0 4128768) 11 0 (-1)) 12 0 (-1)) 25 1) 13 978 1) 23 1) = u) ∨ (((((((fi (su (si (su (su (sv (sa (si (si (si (si S 24 1) 19 p0) 20 p1) 21 7) 13 (fil 1024 0 (ar (si (si (si (si S 24 1) 19 p0) 20 p1) 21 7) 13))) 2 0 4128768) 11 0 (-1)) 12 0 (-1)) 25 1) 13 978 1) 20) : Int32).toInt ≤ 0)))) ∧ 0 = r ∧ (su (si (su (su (sv (sa (si (si (si (si S 24 1) 19 p0) 20 p1) 21 7) 13 (fil 1024 0 (ar (si (si (si (si S 24 1) 19 p0) 20 p1) 21 7) 13))) 2 0 4128768) 11 0 (-1)) 12 0 (-1)) 25 1) 13 978 1) = u)) (cw cy tE a rw)) := by
  refine Ct.ofZ RX11 "gain" [(0, .ref (a 0)), (1, .int 1), (2, .int p0), (3, .int p1), (4, .int 0)] rfl rfl rfl rfl (Nat.le_of_ble_eq_true rfl) ?_
  intro p e R s m args below meth c A b
  refine z_iload_n b dX11_gain_0 rfl rfl ?_
  refine z_calli b (z_runS (As := [.int 1]) (st := []) b (c_X11_isPerson_4 S ) cf_X11_isPerson wm_X11_69 ws_X11_isPerson dX11_gain_1 rfl (Nat.le_of_ble_eq_true rfl) ⟨by decide, by decide, by decide, by decide⟩) (fun r12676 u12677 h12675 => ?_)
  obtain ⟨rfl, rfl⟩ := h12675
  refine z_if_eq_f (tgt := 26) b dX11_gain_4 (by decide) (by decide) ?_
  refine z_iload_n b dX11_gain_7 rfl rfl ?_
  refine z_calli b (z_runS (As := [.int p0]) (st := []) b (c_X11_areLaws_3 S p0 ⟨by omega, by omega⟩) cf_X11_areLaws wm_X11_181 ws_X11_areLaws dX11_gain_8 rfl (Nat.le_of_ble_eq_true rfl) ⟨by decide, by decide, by decide, by decide⟩) (fun r12679 u12680 h12678 => ?_)
  obtain ⟨rfl, rfl⟩ := h12678
  refine z_if_eq_f (tgt := 26) b dX11_gain_11 (by decide) (by decide) ?_
  refine z_iload_n b dX11_gain_14 rfl rfl ?_
  refine z_calli b (z_runS (As := [.int p1]) (st := []) b (c_X11_isDepth_3 S p1 ⟨by omega, by omega⟩) cf_X11_isDepth wm_X11_203 ws_X11_isDepth dX11_gain_15 rfl (Nat.le_of_ble_eq_true rfl) ⟨by decide, by decide, by decide, by decide⟩) (fun r12682 u12683 h12681 => ?_)
  obtain ⟨rfl, rfl⟩ := h12681
  refine z_if_eq_f (tgt := 26) b dX11_gain_18 (by decide) (by decide) ?_
  refine z_iload b dX11_gain_21 rfl ?_
  refine z_if_ge_t (tgt := 29) b dX11_gain_23 (by decide) (by decide) ?_
  refine z_aload_n b dX11_gain_29 rfl rfl ?_
  refine z_get (q0 := 0) (k9 := 6) (v := .ref (a 25)) b (cw_0 cy tE a rw S) rfl in_X11 (by decide) wf_X11_52 rfl dX11_gain_30 ?_
  refine z_iload_n b dX11_gain_33 rfl rfl ?_
  refine z_iload_n b dX11_gain_34 rfl rfl ?_
  refine z_bipush (v := 7) b dX11_gain_35 (by decide) ?_
  refine z_iconst (v := 0) b dX11_gain_37 (by decide) ?_
  refine z_callv b (z_runV (q0 := 25) (As := [.int p0, .int p1, .int 7, .int 0]) (st := []) b (c_X8_begin_2 S p0 p1 h_i_19 h_i_24 h_i_22 h_i_18 h_i_25 h_i_23 h_i_26 h_a_4_50 h_a_4_40 h_a_4_41 h_a_4_42 h_a_4_0 h_a_4_11 h_a_4_21 h_a_4_31 h_a_4_12 h_a_4_22 h_a_4_32 h_a_4_1 h_a_4_13 h_a_4_23 h_a_4_33 h_a_4_15 h_a_4_25 h_a_4_35 h_a_4_2 h_a_4_16 h_a_4_26 h_a_4_36 h_a_4_17 h_a_4_27 h_a_4_37 h_a_10_0 ⟨by omega, by omega⟩ ⟨by omega, by omega⟩) cf_X8_begin (cw_25 cy tE a rw S) rfl wm_X11_206 wi_X8_begin ws_X8_begin dX11_gain_38 rfl (Nat.le_of_ble_eq_true rfl) ⟨by decide, by decide, by decide, by decide⟩) (fun u12686 h12684 => ?_)
  obtain rfl := h12684
  refine z_aload_n b dX11_gain_41 rfl rfl ?_
  refine z_get (q0 := 0) (k9 := 6) (v := .ref (a 25)) b (cw_0 cy tE a rw (su (si (su (su (sv (sa (si (si (si (si S 24 1) 19 p0) 20 p1) 21 7) 13 (fil 1024 0 (ar (si (si (si (si S 24 1) 19 p0) 20 p1) 21 7) 13))) 2 0 4128768) 11 0 (-1)) 12 0 (-1)) 25 1) 13 978 1)) rfl in_X11 (by decide) wf_X11_52 rfl dX11_gain_42 ?_
  refine z_callv b (z_runV (q0 := 25) (As := []) (st := []) b (c_X8_finish_2 (su (si (su (su (sv (sa (si (si (si (si S 24 1) 19 p0) 20 p1) 21 7) 13 (fil 1024 0 (ar (si (si (si (si S 24 1) 19 p0) 20 p1) 21 7) 13))) 2 0 4128768) 11 0 (-1)) 12 0 (-1)) 25 1) 13 978 1) h_i_26 h_i_23 rfl h_a_10_0 rfl h_a_9_50 h_a_9_40 h_a_9_41 h_a_9_42 h_a_9_0 h_a_9_11 h_a_9_21 h_a_9_31 h_a_9_12 h_a_9_22 h_a_9_32 h_a_9_1 h_a_9_13 h_a_9_23 h_a_9_33 h_a_9_15 h_a_9_25 h_a_9_35 h_a_9_2 h_a_9_16 h_a_9_26 h_a_9_36 h_a_9_17 h_a_9_27 h_a_9_37 h_i_18) cf_X8_finish (cw_25 cy tE a rw (su (si (su (su (sv (sa (si (si (si (si S 24 1) 19 p0) 20 p1) 21 7) 13 (fil 1024 0 (ar (si (si (si (si S 24 1) 19 p0) 20 p1) 21 7) 13))) 2 0 4128768) 11 0 (-1)) 12 0 (-1)) 25 1) 13 978 1)) rfl wm_X11_232 wi_X8_finish ws_X8_finish dX11_gain_45 rfl (Nat.le_of_ble_eq_true rfl) ⟨by decide, by decide, by decide, by decide⟩) (fun u12689 h12687 => ?_)
  rcases h12687 with ⟨c12690, rfl⟩ | ⟨c12691, rfl⟩
  · refine z_aload_n b dX11_gain_48 rfl rfl ?_
    refine z_get (q0 := 0) (k9 := 6) (v := .ref (a 25)) b (cw_0 cy tE a rw (si (su (si (su (su (sv (sa (si (si (si (si S 24 1) 19 p0) 20 p1) 21 7) 13 (fil 1024 0 (ar (si (si (si (si S 24 1) 19 p0) 20 p1) 21 7) 13))) 2 0 4128768) 11 0 (-1)) 12 0 (-1)) 25 1) 13 978 1) 23 1)) rfl in_X11 (by decide) wf_X11_52 rfl dX11_gain_49 ?_
    refine z_get (q0 := 25) (k9 := 18) (v := .int (fi (si (su (si (su (su (sv (sa (si (si (si (si S 24 1) 19 p0) 20 p1) 21 7) 13 (fil 1024 0 (ar (si (si (si (si S 24 1) 19 p0) 20 p1) 21 7) 13))) 2 0 4128768) 11 0 (-1)) 12 0 (-1)) 25 1) 13 978 1) 23 1) 26)) b (cw_25 cy tE a rw (si (su (si (su (su (sv (sa (si (si (si (si S 24 1) 19 p0) 20 p1) 21 7) 13 (fil 1024 0 (ar (si (si (si (si S 24 1) 19 p0) 20 p1) 21 7) 13))) 2 0 4128768) 11 0 (-1)) 12 0 (-1)) 25 1) 13 978 1) 23 1)) rfl in_X8 (by decide) wf_X11_214 rfl dX11_gain_52 ?_
    refine z_eqi h_i_26 ?_
    refine z_if_eq_t (tgt := 61) b dX11_gain_55 (by decide) (by decide) ?_
    refine z_aload_n b dX11_gain_61 rfl rfl ?_
    refine z_get (q0 := 0) (k9 := 6) (v := .ref (a 25)) b (cw_0 cy tE a rw (si (su (si (su (su (sv (sa (si (si (si (si S 24 1) 19 p0) 20 p1) 21 7) 13 (fil 1024 0 (ar (si (si (si (si S 24 1) 19 p0) 20 p1) 21 7) 13))) 2 0 4128768) 11 0 (-1)) 12 0 (-1)) 25 1) 13 978 1) 23 1)) rfl in_X11 (by decide) wf_X11_52 rfl dX11_gain_62 ?_
    refine z_iload_n b dX11_gain_65 rfl rfl ?_
    refine z_calli b (z_runV (q0 := 25) (As := [.int 1]) (st := []) b (c_X8_richest_2 (si (su (si (su (su (sv (sa (si (si (si (si S 24 1) 19 p0) 20 p1) 21 7) 13 (fil 1024 0 (ar (si (si (si (si S 24 1) 19 p0) 20 p1) 21 7) 13))) 2 0 4128768) 11 0 (-1)) 12 0 (-1)) 25 1) 13 978 1) 23 1) rfl rfl h_a_9_50 h_a_9_40 h_a_9_41 h_a_9_42 h_a_9_0 h_a_9_11 h_a_9_21 h_a_9_31 h_a_9_12 h_a_9_22 h_a_9_32 h_a_9_1 h_a_9_13 h_a_9_23 h_a_9_33 h_a_9_15 h_a_9_25 h_a_9_35 h_a_9_2 h_a_9_16 h_a_9_26 h_a_9_36 h_a_9_17 h_a_9_27 h_a_9_37) cf_X8_richest (cw_25 cy tE a rw (si (su (si (su (su (sv (sa (si (si (si (si S 24 1) 19 p0) 20 p1) 21 7) 13 (fil 1024 0 (ar (si (si (si (si S 24 1) 19 p0) 20 p1) 21 7) 13))) 2 0 4128768) 11 0 (-1)) 12 0 (-1)) 25 1) 13 978 1) 23 1)) rfl wm_X11_238 wi_X8_richest ws_X8_richest dX11_gain_66 rfl (Nat.le_of_ble_eq_true rfl) ⟨by decide, by decide, by decide, by decide⟩) (fun r12693 u12694 h12692 => ?_)
    obtain ⟨rfl, rfl⟩ := h12692
    refine z_istore (lv' := [(5, .int 0), (0, .ref (a 0)), (1, .int 1), (2, .int p0), (3, .int p1), (4, .int 0)]) b dX11_gain_69 (by decide) rfl ?_
    refine z_iload b dX11_gain_71 rfl ?_
    refine z_if_ne_f (tgt := 87) b dX11_gain_73 (by decide) (by decide) ?_
    refine z_aload_n b dX11_gain_76 rfl rfl ?_
    refine z_get (q0 := 0) (k9 := 6) (v := .ref (a 25)) b (cw_0 cy tE a rw (si (su (si (su (su (sv (sa (si (si (si (si S 24 1) 19 p0) 20 p1) 21 7) 13 (fil 1024 0 (ar (si (si (si (si S 24 1) 19 p0) 20 p1) 21 7) 13))) 2 0 4128768) 11 0 (-1)) 12 0 (-1)) 25 1) 13 978 1) 23 1)) rfl in_X11 (by decide) wf_X11_52 rfl dX11_gain_77 ?_
    refine z_iload b dX11_gain_80 rfl ?_
    refine z_iload_n b dX11_gain_82 rfl rfl ?_
    refine z_calli b (z_runV (q0 := 25) (As := [.int 0, .int 1]) (st := []) b (c_X8_wealth_2 (si (su (si (su (su (sv (sa (si (si (si (si S 24 1) 19 p0) 20 p1) 21 7) 13 (fil 1024 0 (ar (si (si (si (si S 24 1) 19 p0) 20 p1) 21 7) 13))) 2 0 4128768) 11 0 (-1)) 12 0 (-1)) 25 1) 13 978 1) 23 1) rfl rfl h_a_9_50 h_a_9_40 h_a_9_41 h_a_9_42 h_a_9_0 h_a_9_11 h_a_9_21 h_a_9_31 h_a_9_12 h_a_9_22 h_a_9_32 h_a_9_1 h_a_9_13 h_a_9_23 h_a_9_33 h_a_9_15 h_a_9_25 h_a_9_35 h_a_9_2 h_a_9_16 h_a_9_26 h_a_9_36 h_a_9_17 h_a_9_27 h_a_9_37) cf_X8_wealth (cw_25 cy tE a rw (si (su (si (su (su (sv (sa (si (si (si (si S 24 1) 19 p0) 20 p1) 21 7) 13 (fil 1024 0 (ar (si (si (si (si S 24 1) 19 p0) 20 p1) 21 7) 13))) 2 0 4128768) 11 0 (-1)) 12 0 (-1)) 25 1) 13 978 1) 23 1)) rfl wm_X11_241 wi_X8_wealth ws_X8_wealth dX11_gain_83 rfl (Nat.le_of_ble_eq_true rfl) ⟨by decide, by decide, by decide, by decide⟩) (fun r12696 u12697 h12695 => ?_)
    obtain ⟨rfl, rfl⟩ := h12695
    exact z_iret (u := (si (su (si (su (su (sv (sa (si (si (si (si S 24 1) 19 p0) 20 p1) 21 7) 13 (fil 1024 0 (ar (si (si (si (si S 24 1) 19 p0) 20 p1) 21 7) 13))) 2 0 4128768) 11 0 (-1)) 12 0 (-1)) 25 1) 13 978 1) 23 1)) b rfl dX11_gain_86 (Or.inl ⟨c12690, rfl, rfl⟩) rfl (by decide) (by decide)
  · refine z_aload_n b dX11_gain_48 rfl rfl ?_
    refine z_get (q0 := 0) (k9 := 6) (v := .ref (a 25)) b (cw_0 cy tE a rw (su (si (su (su (sv (sa (si (si (si (si S 24 1) 19 p0) 20 p1) 21 7) 13 (fil 1024 0 (ar (si (si (si (si S 24 1) 19 p0) 20 p1) 21 7) 13))) 2 0 4128768) 11 0 (-1)) 12 0 (-1)) 25 1) 13 978 1)) rfl in_X11 (by decide) wf_X11_52 rfl dX11_gain_49 ?_
    refine z_get (q0 := 25) (k9 := 18) (v := .int (fi (su (si (su (su (sv (sa (si (si (si (si S 24 1) 19 p0) 20 p1) 21 7) 13 (fil 1024 0 (ar (si (si (si (si S 24 1) 19 p0) 20 p1) 21 7) 13))) 2 0 4128768) 11 0 (-1)) 12 0 (-1)) 25 1) 13 978 1) 26)) b (cw_25 cy tE a rw (su (si (su (su (sv (sa (si (si (si (si S 24 1) 19 p0) 20 p1) 21 7) 13 (fil 1024 0 (ar (si (si (si (si S 24 1) 19 p0) 20 p1) 21 7) 13))) 2 0 4128768) 11 0 (-1)) 12 0 (-1)) 25 1) 13 978 1)) rfl in_X8 (by decide) wf_X11_214 rfl dX11_gain_52 ?_
    refine z_eqi h_i_26 ?_
    refine z_if_eq_t (tgt := 61) b dX11_gain_55 (by decide) (by decide) ?_
    refine z_aload_n b dX11_gain_61 rfl rfl ?_
    refine z_get (q0 := 0) (k9 := 6) (v := .ref (a 25)) b (cw_0 cy tE a rw (su (si (su (su (sv (sa (si (si (si (si S 24 1) 19 p0) 20 p1) 21 7) 13 (fil 1024 0 (ar (si (si (si (si S 24 1) 19 p0) 20 p1) 21 7) 13))) 2 0 4128768) 11 0 (-1)) 12 0 (-1)) 25 1) 13 978 1)) rfl in_X11 (by decide) wf_X11_52 rfl dX11_gain_62 ?_
    refine z_iload_n b dX11_gain_65 rfl rfl ?_
    refine z_calli b (z_runV (q0 := 25) (As := [.int 1]) (st := []) b (c_X8_richest_2 (su (si (su (su (sv (sa (si (si (si (si S 24 1) 19 p0) 20 p1) 21 7) 13 (fil 1024 0 (ar (si (si (si (si S 24 1) 19 p0) 20 p1) 21 7) 13))) 2 0 4128768) 11 0 (-1)) 12 0 (-1)) 25 1) 13 978 1) rfl rfl h_a_9_50 h_a_9_40 h_a_9_41 h_a_9_42 h_a_9_0 h_a_9_11 h_a_9_21 h_a_9_31 h_a_9_12 h_a_9_22 h_a_9_32 h_a_9_1 h_a_9_13 h_a_9_23 h_a_9_33 h_a_9_15 h_a_9_25 h_a_9_35 h_a_9_2 h_a_9_16 h_a_9_26 h_a_9_36 h_a_9_17 h_a_9_27 h_a_9_37) cf_X8_richest (cw_25 cy tE a rw (su (si (su (su (sv (sa (si (si (si (si S 24 1) 19 p0) 20 p1) 21 7) 13 (fil 1024 0 (ar (si (si (si (si S 24 1) 19 p0) 20 p1) 21 7) 13))) 2 0 4128768) 11 0 (-1)) 12 0 (-1)) 25 1) 13 978 1)) rfl wm_X11_238 wi_X8_richest ws_X8_richest dX11_gain_66 rfl (Nat.le_of_ble_eq_true rfl) ⟨by decide, by decide, by decide, by decide⟩) (fun r12699 u12700 h12698 => ?_)
    obtain ⟨rfl, rfl⟩ := h12698
    refine z_istore (lv' := [(5, .int 0), (0, .ref (a 0)), (1, .int 1), (2, .int p0), (3, .int p1), (4, .int 0)]) b dX11_gain_69 (by decide) rfl ?_
    refine z_iload b dX11_gain_71 rfl ?_
    refine z_if_ne_f (tgt := 87) b dX11_gain_73 (by decide) (by decide) ?_
    refine z_aload_n b dX11_gain_76 rfl rfl ?_
    refine z_get (q0 := 0) (k9 := 6) (v := .ref (a 25)) b (cw_0 cy tE a rw (su (si (su (su (sv (sa (si (si (si (si S 24 1) 19 p0) 20 p1) 21 7) 13 (fil 1024 0 (ar (si (si (si (si S 24 1) 19 p0) 20 p1) 21 7) 13))) 2 0 4128768) 11 0 (-1)) 12 0 (-1)) 25 1) 13 978 1)) rfl in_X11 (by decide) wf_X11_52 rfl dX11_gain_77 ?_
    refine z_iload b dX11_gain_80 rfl ?_
    refine z_iload_n b dX11_gain_82 rfl rfl ?_
    refine z_calli b (z_runV (q0 := 25) (As := [.int 0, .int 1]) (st := []) b (c_X8_wealth_2 (su (si (su (su (sv (sa (si (si (si (si S 24 1) 19 p0) 20 p1) 21 7) 13 (fil 1024 0 (ar (si (si (si (si S 24 1) 19 p0) 20 p1) 21 7) 13))) 2 0 4128768) 11 0 (-1)) 12 0 (-1)) 25 1) 13 978 1) rfl rfl h_a_9_50 h_a_9_40 h_a_9_41 h_a_9_42 h_a_9_0 h_a_9_11 h_a_9_21 h_a_9_31 h_a_9_12 h_a_9_22 h_a_9_32 h_a_9_1 h_a_9_13 h_a_9_23 h_a_9_33 h_a_9_15 h_a_9_25 h_a_9_35 h_a_9_2 h_a_9_16 h_a_9_26 h_a_9_36 h_a_9_17 h_a_9_27 h_a_9_37) cf_X8_wealth (cw_25 cy tE a rw (su (si (su (su (sv (sa (si (si (si (si S 24 1) 19 p0) 20 p1) 21 7) 13 (fil 1024 0 (ar (si (si (si (si S 24 1) 19 p0) 20 p1) 21 7) 13))) 2 0 4128768) 11 0 (-1)) 12 0 (-1)) 25 1) 13 978 1)) rfl wm_X11_241 wi_X8_wealth ws_X8_wealth dX11_gain_83 rfl (Nat.le_of_ble_eq_true rfl) ⟨by decide, by decide, by decide, by decide⟩) (fun r12702 u12703 h12701 => ?_)
    obtain ⟨rfl, rfl⟩ := h12701
    exact z_iret (u := (su (si (su (su (sv (sa (si (si (si (si S 24 1) 19 p0) 20 p1) 21 7) 13 (fil 1024 0 (ar (si (si (si (si S 24 1) 19 p0) 20 p1) 21 7) 13))) 2 0 4128768) 11 0 (-1)) 12 0 (-1)) 25 1) 13 978 1)) b rfl dX11_gain_86 (Or.inr ⟨c12691, rfl, rfl⟩) rfl (by decide) (by decide)

set_option maxHeartbeats 4000000 in
set_option maxRecDepth 100000 in
theorem c_X12_gain_31 {l : Launch} {D : va_G} {cy : Nat → ClassId} {T0 tB tE : Nat} {a : Nat → Nat} (S : GS) (p0 : Int32) (p1 : Int32) (h_i_21 : fi S 21 = 0) (h_i_23 : fi S 23 = 0) (h_l_0 : fl S 0 = 1649317774848) (h_a_29_992 : ar S 29 992 = (-1)) (h_a_28_0 : ar S 28 0 = 0) (h_a_7_0 : ar S 7 0 = 0) (h_a_7_1 : ar S 7 1 = 0) (h_a_4_7 : ar S 4 7 = 0) (h_a_1_7 : ar S 1 7 = 0) (h_a_4_6 : ar S 4 6 = 0) (h_a_1_6 : ar S 1 6 = 0) (h_a_3_6 : ar S 3 6 = 0) (h_a_3_2 : ar S 3 2 = 0) (h_a_2_2 : ar S 2 2 = 3) (h_a_0_2 : ar S 0 2 = 0) (h_a_4_3 : ar S 4 3 = 0) (h_a_1_3 : ar S 1 3 = 0) (h_a_4_5 : ar S 4 5 = 0) (h_a_1_5 : ar S 1 5 = 0) (h_a_3_5 : ar S 3 5 = 0) (h_a_3_7 : ar S 3 7 = 0) (h_a_2_1 : ar S 2 1 = 3) (h_a_0_1 : ar S 0 1 = 0) (h_a_4_2 : ar S 4 2 = 0) (h_a_1_2 : ar S 1 2 = 0) (h_a_4_1 : ar S 4 1 = 0) (h_a_1_1 : ar S 1 1 = 0) (h_a_3_1 : ar S 3 1 = 0) (h_a_3_3 : ar S 3 3 = 0) (h_a_2_0 : ar S 2 0 = 3) (h_a_0_0 : ar S 0 0 = 0) (h_i_0 : fi S 0 = 0) (hr_p0 : 1 ≤ p0.toInt ∧ p0.toInt ≤ 3) (hr_p1 : 1 ≤ p1.toInt ∧ p1.toInt ≤ 6) : Ct l D cy T0 tB tE yX12_gain cX12_gain 9 (some .int) 4 99 0 0 (mw cy a S) [.ref (a 0), .int 1, .int p0, .int p1, .int 0] (QI D (U := GS) (fun r u => 0 = r ∧ (si (su (su (sv (su (su (si S 22 (-1)) 29 992 0) 30 0 992) 0 0 1649317774848) 26 0 (-1)) 27 0 (-1)) 21 1) = u) (mw cy a)) := by
  refine Ct.ofZ RX12 "gain" [(0, .ref (a 0)), (1, .int 1), (2, .int p0), (3, .int p1), (4, .int 0)] rfl rfl rfl rfl (Nat.le_of_ble_eq_true rfl) ?_
  intro p e R s m args below meth c A b
  refine z_iload_n b dX12_gain_0 rfl rfl ?_
  refine z_calli b (z_runS (As := [.int 1]) (st := []) b (c_X12_isOne_4 S ) cf_X12_isOne wm_X12_170 ws_X12_isOne dX12_gain_1 rfl (Nat.le_of_ble_eq_true rfl) ⟨by decide, by decide, by decide, by decide⟩) (fun r12705 u12706 h12704 => ?_)
  obtain ⟨rfl, rfl⟩ := h12704
  refine z_if_eq_f (tgt := 27) b dX12_gain_4 (by decide) (by decide) ?_
  refine z_aload_n b dX12_gain_7 rfl rfl ?_
  refine z_iload_n b dX12_gain_8 rfl rfl ?_
  refine z_iload_n b dX12_gain_9 rfl rfl ?_
  refine z_calli b (z_runV (q0 := 0) (As := [.int p0, .int p1]) (st := []) b (c_X12_canSearch_5 S p0 p1 ⟨by omega, by omega⟩ ⟨by omega, by omega⟩) cf_X12_canSearch (mw_0 cy a S) rfl wm_X12_433 wi_X12_canSearch ws_X12_canSearch dX12_gain_10 rfl (Nat.le_of_ble_eq_true rfl) ⟨by decide, by decide, by decide, by decide⟩) (fun r12708 u12709 h12707 => ?_)
  obtain ⟨rfl, rfl⟩ := h12707
  refine z_if_eq_f (tgt := 27) b dX12_gain_13 (by decide) (by decide) ?_
  refine z_iload b dX12_gain_16 rfl ?_
  refine z_iconst (v := 0) b dX12_gain_18 (by decide) ?_
  refine z_bipush (v := 7) b dX12_gain_19 (by decide) ?_
  refine z_calli b (z_runS (As := [.int 0, .int 0, .int 7]) (st := []) b (c_X12_isIn_59 S ) cf_X12_isIn wm_X12_1 ws_X12_isIn dX12_gain_21 rfl (Nat.le_of_ble_eq_true rfl) ⟨by decide, by decide, by decide, by decide⟩) (fun r12711 u12712 h12710 => ?_)
  obtain ⟨rfl, rfl⟩ := h12710
  refine z_if_ne_t (tgt := 30) b dX12_gain_24 (by decide) (by decide) ?_
  refine z_aload_n b dX12_gain_30 rfl rfl ?_
  refine z_iconst (v := (-1)) b dX12_gain_31 (by decide) ?_
  refine z_iload_n b dX12_gain_32 rfl rfl ?_
  refine z_iload_n b dX12_gain_33 rfl rfl ?_
  refine z_bipush (v := 7) b dX12_gain_34 (by decide) ?_
  refine z_iconst (v := 0) b dX12_gain_36 (by decide) ?_
  refine z_callv b (z_runV (q0 := 0) (As := [.int (-1), .int p0, .int p1, .int 7, .int 0]) (st := []) b (c_X12_searches_2 S p0 p1 h_i_21 h_i_23 h_l_0 h_a_29_992 h_a_28_0 h_a_7_0 h_a_7_1 ⟨by omega, by omega⟩ ⟨by omega, by omega⟩) cf_X12_searches (mw_0 cy a S) rfl wm_X12_436 wi_X12_searches ws_X12_searches dX12_gain_37 rfl (Nat.le_of_ble_eq_true rfl) ⟨by decide, by decide, by decide, by decide⟩) (fun u12715 h12713 => ?_)
  obtain rfl := h12713
  refine z_aload_n b dX12_gain_40 rfl rfl ?_
  refine z_get (q0 := 0) (k9 := 57) (v := .int (fi (si (su (su (sv (su (su (si S 22 (-1)) 29 992 0) 30 0 992) 0 0 1649317774848) 26 0 (-1)) 27 0 (-1)) 21 1) 23)) b (mw_0 cy a (si (su (su (sv (su (su (si S 22 (-1)) 29 992 0) 30 0 992) 0 0 1649317774848) 26 0 (-1)) 27 0 (-1)) 21 1)) rfl in_X12 (by decide) wf_X12_408 rfl dX12_gain_41 ?_
  refine z_eqi h_i_23 ?_
  refine z_if_eq_t (tgt := 50) b dX12_gain_44 (by decide) (by decide) ?_
  refine z_iconst (v := (-1)) b dX12_gain_50 (by decide) ?_
  refine z_istore (lv' := [(5, .int (-1)), (0, .ref (a 0)), (1, .int 1), (2, .int p0), (3, .int p1), (4, .int 0)]) b dX12_gain_51 (by decide) rfl ?_
  refine z_iconst (v := 0) b dX12_gain_53 (by decide) ?_
  refine z_istore (lv' := [(6, .int 0), (5, .int (-1)), (0, .ref (a 0)), (1, .int 1), (2, .int p0), (3, .int p1), (4, .int 0)]) b dX12_gain_54 (by decide) rfl ?_
  refine z_iconst (v := 0) b dX12_gain_56 (by decide) ?_
  refine z_istore (lv' := [(7, .int 0), (6, .int 0), (5, .int (-1)), (0, .ref (a 0)), (1, .int 1), (2, .int p0), (3, .int p1), (4, .int 0)]) b dX12_gain_57 (by decide) rfl ?_
  refine z_iload b dX12_gain_59 rfl ?_
  refine z_aload_n b dX12_gain_61 rfl rfl ?_
  refine z_get (q0 := 0) (k9 := 55) (v := .int 1) b (mw_0 cy a (si (su (su (sv (su (su (si S 22 (-1)) 29 992 0) 30 0 992) 0 0 1649317774848) 26 0 (-1)) 27 0 (-1)) 21 1)) rfl in_X12 (by decide) wf_X12_405 rfl dX12_gain_62 ?_
  refine z_icmp_ge_f (tgt := 147) b dX12_gain_65 (by decide) (by decide) ?_
  refine z_aload_n b dX12_gain_68 rfl rfl ?_
  refine z_aload_n b dX12_gain_69 rfl rfl ?_
  refine z_get (q0 := 0) (k9 := 49) (v := .ref (a 27)) b (mw_0 cy a (si (su (su (sv (su (su (si S 22 (-1)) 29 992 0) 30 0 992) 0 0 1649317774848) 26 0 (-1)) 27 0 (-1)) 21 1)) rfl in_X12 (by decide) wf_X12_97 rfl dX12_gain_70 ?_
  refine z_iload b dX12_gain_73 rfl ?_
  refine y_lald (q0 := 27) (j := 0) (v := 1649317774848) b (mw_27 cy a (si (su (su (sv (su (su (si S 22 (-1)) 29 992 0) 30 0 992) 0 0 1649317774848) 26 0 (-1)) 27 0 (-1)) 21 1)) (by decide) rfl dX12_gain_75 ?_
  refine z_callv b (z_runV (q0 := 0) (As := [.long 1649317774848]) (st := []) b (c_X12_takes (si (su (su (sv (su (su (si S 22 (-1)) 29 992 0) 30 0 992) 0 0 1649317774848) 26 0 (-1)) 27 0 (-1)) 21 1) h_a_4_7 h_a_1_7 h_a_4_6 h_a_1_6 h_a_3_6 h_a_3_2 h_a_2_2 h_a_0_2 h_a_4_3 h_a_1_3 h_a_4_5 h_a_1_5 h_a_3_5 h_a_3_7 h_a_2_1 h_a_0_1 h_a_4_2 h_a_1_2 h_a_4_1 h_a_1_1 h_a_3_1 h_a_3_3 h_a_2_0 h_a_0_0 h_i_0) cf_X12_takes (mw_0 cy a (si (su (su (sv (su (su (si S 22 (-1)) 29 992 0) 30 0 992) 0 0 1649317774848) 26 0 (-1)) 27 0 (-1)) 21 1)) rfl wm_X12_174 wi_X12_takes ws_X12_takes dX12_gain_76 rfl (Nat.le_of_ble_eq_true rfl) ⟨by decide, by decide, by decide, by decide⟩) (fun u12718 h12716 => ?_)
  obtain rfl := h12716
  refine z_aload_n b dX12_gain_79 rfl rfl ?_
  refine z_get (q0 := 0) (k9 := 0) (v := .ref (a 1)) b (mw_0 cy a (si (su (su (sv (su (su (si S 22 (-1)) 29 992 0) 30 0 992) 0 0 1649317774848) 26 0 (-1)) 27 0 (-1)) 21 1)) rfl in_X12 (by decide) wf_X12_13 rfl dX12_gain_80 ?_
  refine z_iload_n b dX12_gain_83 rfl rfl ?_
  refine y_iald (q0 := 1) (j := 1) (v := (ar (si (su (su (sv (su (su (si S 22 (-1)) 29 992 0) 30 0 992) 0 0 1649317774848) 26 0 (-1)) 27 0 (-1)) 21 1) 0 1)) b (mw_1 cy a (si (su (su (sv (su (su (si S 22 (-1)) 29 992 0) 30 0 992) 0 0 1649317774848) 26 0 (-1)) 27 0 (-1)) 21 1)) (by decide) rfl dX12_gain_84 ?_
  refine z_eqi h_a_0_1 ?_
  refine z_aload_n b dX12_gain_85 rfl rfl ?_
  refine z_get (q0 := 0) (k9 := 1) (v := .ref (a 2)) b (mw_0 cy a (si (su (su (sv (su (su (si S 22 (-1)) 29 992 0) 30 0 992) 0 0 1649317774848) 26 0 (-1)) 27 0 (-1)) 21 1)) rfl in_X12 (by decide) wf_X12_17 rfl dX12_gain_86 ?_
  refine z_iconst (v := 3) b dX12_gain_89 (by decide) ?_
  refine z_iload_n b dX12_gain_90 rfl rfl ?_
  refine z_imul (v := 3) b dX12_gain_91 (by decide) ?_
  refine z_iload_n b dX12_gain_92 rfl rfl ?_
  refine z_iconst (v := 0) b dX12_gain_93 (by decide) ?_
  refine z_calli b (z_runS (As := [.int 1, .int 0]) (st := [.int 3, .ref (a 2), .int 0]) b (c_X12_other_4 (si (su (su (sv (su (su (si S 22 (-1)) 29 992 0) 30 0 992) 0 0 1649317774848) 26 0 (-1)) 27 0 (-1)) 21 1) ) cf_X12_other wm_X12_160 ws_X12_other dX12_gain_94 rfl (Nat.le_of_ble_eq_true rfl) ⟨by decide, by decide, by decide, by decide⟩) (fun r12720 u12721 h12719 => ?_)
  obtain ⟨rfl, rfl⟩ := h12719
  refine z_iadd (v := 5) b dX12_gain_97 (by decide) ?_
  refine y_iald (q0 := 2) (j := 5) (v := (ar (si (su (su (sv (su (su (si S 22 (-1)) 29 992 0) 30 0 992) 0 0 1649317774848) 26 0 (-1)) 27 0 (-1)) 21 1) 1 5)) b (mw_2 cy a (si (su (su (sv (su (su (si S 22 (-1)) 29 992 0) 30 0 992) 0 0 1649317774848) 26 0 (-1)) 27 0 (-1)) 21 1)) (by decide) rfl dX12_gain_98 ?_
  refine z_eqi h_a_1_5 ?_
  refine z_isub (v := 0) b dX12_gain_99 (by decide) ?_
  refine z_aload_n b dX12_gain_100 rfl rfl ?_
  refine z_get (q0 := 0) (k9 := 1) (v := .ref (a 2)) b (mw_0 cy a (si (su (su (sv (su (su (si S 22 (-1)) 29 992 0) 30 0 992) 0 0 1649317774848) 26 0 (-1)) 27 0 (-1)) 21 1)) rfl in_X12 (by decide) wf_X12_17 rfl dX12_gain_101 ?_
  refine z_iconst (v := 3) b dX12_gain_104 (by decide) ?_
  refine z_iload_n b dX12_gain_105 rfl rfl ?_
  refine z_imul (v := 3) b dX12_gain_106 (by decide) ?_
  refine z_iload_n b dX12_gain_107 rfl rfl ?_
  refine z_iconst (v := 1) b dX12_gain_108 (by decide) ?_
  refine z_calli b (z_runS (As := [.int 1, .int 1]) (st := [.int 3, .ref (a 2), .int 0]) b (c_X12_other_3 (si (su (su (sv (su (su (si S 22 (-1)) 29 992 0) 30 0 992) 0 0 1649317774848) 26 0 (-1)) 27 0 (-1)) 21 1) ) cf_X12_other wm_X12_160 ws_X12_other dX12_gain_109 rfl (Nat.le_of_ble_eq_true rfl) ⟨by decide, by decide, by decide, by decide⟩) (fun r12723 u12724 h12722 => ?_)
  obtain ⟨rfl, rfl⟩ := h12722
  refine z_iadd (v := 3) b dX12_gain_112 (by decide) ?_
  refine y_iald (q0 := 2) (j := 3) (v := (ar (si (su (su (sv (su (su (si S 22 (-1)) 29 992 0) 30 0 992) 0 0 1649317774848) 26 0 (-1)) 27 0 (-1)) 21 1) 1 3)) b (mw_2 cy a (si (su (su (sv (su (su (si S 22 (-1)) 29 992 0) 30 0 992) 0 0 1649317774848) 26 0 (-1)) 27 0 (-1)) 21 1)) (by decide) rfl dX12_gain_113 ?_
  refine z_eqi h_a_1_3 ?_
  refine z_isub (v := 0) b dX12_gain_114 (by decide) ?_
  refine z_istore (lv' := [(8, .int 0), (7, .int 0), (6, .int 0), (5, .int (-1)), (0, .ref (a 0)), (1, .int 1), (2, .int p0), (3, .int p1), (4, .int 0)]) b dX12_gain_115 (by decide) rfl ?_
  refine z_iload b dX12_gain_117 rfl ?_
  refine z_iconst (v := (-1)) b dX12_gain_119 (by decide) ?_
  refine z_icmp_eq_t (tgt := 133) b dX12_gain_120 (by decide) (by decide) ?_
  refine z_iload b dX12_gain_133 rfl ?_
  refine z_istore (lv' := [(5, .int 0), (8, .int 0), (7, .int 0), (6, .int 0), (0, .ref (a 0)), (1, .int 1), (2, .int p0), (3, .int p1), (4, .int 0)]) b dX12_gain_135 (by decide) rfl ?_
  refine z_iload b dX12_gain_137 rfl ?_
  refine z_istore (lv' := [(6, .int 0), (5, .int 0), (8, .int 0), (7, .int 0), (0, .ref (a 0)), (1, .int 1), (2, .int p0), (3, .int p1), (4, .int 0)]) b dX12_gain_139 (by decide) rfl ?_
  refine z_iinc (k9 := 3) (v := 1) (lv' := [(7, .int 1), (6, .int 0), (5, .int 0), (8, .int 0), (0, .ref (a 0)), (1, .int 1), (2, .int p0), (3, .int p1), (4, .int 0)]) b dX12_gain_141 rfl (by decide) (by decide) rfl ?_
  refine z_goto (tgt := 59) b dX12_gain_144 (by decide) ?_
  refine z_iload b dX12_gain_59 rfl ?_
  refine z_aload_n b dX12_gain_61 rfl rfl ?_
  refine z_get (q0 := 0) (k9 := 55) (v := .int 1) b (mw_0 cy a (si (su (su (sv (su (su (si S 22 (-1)) 29 992 0) 30 0 992) 0 0 1649317774848) 26 0 (-1)) 27 0 (-1)) 21 1)) rfl in_X12 (by decide) wf_X12_405 rfl dX12_gain_62 ?_
  refine z_icmp_ge_t (tgt := 147) b dX12_gain_65 (by decide) (by decide) ?_
  refine z_iload b dX12_gain_147 rfl ?_
  refine z_iconst (v := 2) b dX12_gain_149 (by decide) ?_
  refine z_icmp_ge_f (tgt := 171) b dX12_gain_150 (by decide) (by decide) ?_
  refine z_iload b dX12_gain_153 rfl ?_
  refine z_if_ne_f (tgt := 163) b dX12_gain_155 (by decide) (by decide) ?_
  refine z_iload b dX12_gain_158 rfl ?_
  refine z_goto (tgt := 170) b dX12_gain_160 (by decide) ?_
  exact z_iret (u := (si (su (su (sv (su (su (si S 22 (-1)) 29 992 0) 30 0 992) 0 0 1649317774848) 26 0 (-1)) 27 0 (-1)) 21 1)) b rfl dX12_gain_170 ⟨rfl, rfl⟩ rfl (by decide) (by decide)

set_option maxHeartbeats 4000000 in
set_option maxRecDepth 100000 in
theorem c_X11_gain_32 {l : Launch} {D : va_G} {cy : Nat → ClassId} {T0 tB tE : Nat} {a : Nat → Nat} {rw : Nat → Option Nat} (S : GS) (p0 : Int32) (p1 : Int32) (h_i_19 : fi S 19 = 0) (h_i_24 : fi S 24 = 0) (h_i_22 : fi S 22 = 0) (h_i_18 : fi S 18 = 0) (h_i_25 : fi S 25 = 0) (h_i_23 : fi S 23 = 0) (h_i_26 : fi S 26 = 0) (h_a_4_50 : ar S 4 50 = 0) (h_a_4_40 : ar S 4 40 = 3) (h_a_4_41 : ar S 4 41 = 3) (h_a_4_42 : ar S 4 42 = 3) (h_a_4_0 : ar S 4 0 = 0) (h_a_4_11 : ar S 4 11 = 0) (h_a_4_21 : ar S 4 21 = 0) (h_a_4_31 : ar S 4 31 = 0) (h_a_4_12 : ar S 4 12 = 0) (h_a_4_22 : ar S 4 22 = 0) (h_a_4_32 : ar S 4 32 = 0) (h_a_4_1 : ar S 4 1 = 0) (h_a_4_13 : ar S 4 13 = 0) (h_a_4_23 : ar S 4 23 = 0) (h_a_4_33 : ar S 4 33 = 0) (h_a_4_15 : ar S 4 15 = 0) (h_a_4_25 : ar S 4 25 = 0) (h_a_4_35 : ar S 4 35 = 0) (h_a_4_2 : ar S 4 2 = 0) (h_a_4_16 : ar S 4 16 = 0) (h_a_4_26 : ar S 4 26 = 0) (h_a_4_36 : ar S 4 36 = 0) (h_a_4_17 : ar S 4 17 = 0) (h_a_4_27 : ar S 4 27 = 0) (h_a_4_37 : ar S 4 37 = 0) (h_a_10_0 : ar S 10 0 = 0) (h_a_9_50 : ar S 9 50 = 0) (h_a_9_40 : ar S 9 40 = 3) (h_a_9_41 : ar S 9 41 = 3) (h_a_9_42 : ar S 9 42 = 3) (h_a_9_0 : ar S 9 0 = 0) (h_a_9_11 : ar S 9 11 = 0) (h_a_9_21 : ar S 9 21 = 0) (h_a_9_31 : ar S 9 31 = 0) (h_a_9_12 : ar S 9 12 = 0) (h_a_9_22 : ar S 9 22 = 0) (h_a_9_32 : ar S 9 32 = 0) (h_a_9_1 : ar S 9 1 = 0) (h_a_9_13 : ar S 9 13 = 0) (h_a_9_23 : ar S 9 23 = 0) (h_a_9_33 : ar S 9 33 = 0) (h_a_9_15 : ar S 9 15 = 0) (h_a_9_25 : ar S 9 25 = 0) (h_a_9_35 : ar S 9 35 = 0) (h_a_9_2 : ar S 9 2 = 0) (h_a_9_16 : ar S 9 16 = 0) (h_a_9_26 : ar S 9 26 = 0) (h_a_9_36 : ar S 9 36 = 0) (h_a_9_17 : ar S 9 17 = 0) (h_a_9_27 : ar S 9 27 = 0) (h_a_9_37 : ar S 9 37 = 0) (hr_p0 : 1 ≤ p0.toInt ∧ p0.toInt ≤ 3) (hr_p1 : 1 ≤ p1.toInt ∧ p1.toInt ≤ 6) : Ct l D cy T0 tB tE yX11_gain cX11_gain 7 (some .int) 5 117 0 0 (cw cy tE a rw S) [.ref (a 0), .int 1, .int p0, .int p1, .int 1] (QI D (U := GS) (fun r u => (((((0 < ((fi (su (si (su (su (sv (sa (si (si (si (si S 24 1) 19 p0) 20 p1) 21 7) 13 (fil 1024 0 (ar (si (si (si (si S 24 1) 19 p0) 20 p1) 21 7) 13))) 2 0 4128768) 11 0 (-1)) 12 0 (-1)) 25 1) 13 978 1) 20) : Int32).toInt)))) ∧ 0 = r ∧ (si (su (si (su (su (sv (sa (si (si (si (si S 24 1) 19 p0) 20 p1) 21 7) 13 (fil 1024 0 (ar (si (si (si (si S 24 1) 19 p0) 20 p1) 21 7) 13))) 2 0 4128768) 11 0 (-1)) 12 0 (-1)) 25 1) 13 978 1) 23 1) = u) ∨ (((((((fi (su (si (su (su (sv (sa (si (si (si (si S 24 1) 19 p0) 20 p1) 21 7) 13 (fil 1024 0 (ar (si (si (si (si S 24 1) 19 p0) 20 p1) 21 7) 13))) 2 0 4128768) 11 0 (-1)) 12 0 (-1)) 25 1) 13 978 1) 20) : Int32).toInt ≤ 0)))) ∧ 0 = r ∧ (su (si (su (su (sv (sa (si (si (si (si S 24 1) 19 p0) 20 p1) 21 7) 13 (fil 1024 0 (ar (si (si (si (si S 24 1) 19 p0) 20 p1) 21 7) 13))) 2 0 4128768) 11 0 (-1)) 12 0 (-1)) 25 1) 13 978 1) = u)) (cw cy tE a rw)) := by
  refine Ct.ofZ RX11 "gain" [(0, .ref (a 0)), (1, .int 1), (2, .int p0), (3, .int p1), (4, .int 1)] rfl rfl rfl rfl (Nat.le_of_ble_eq_true rfl) ?_
  intro p e R s m args below meth c A b
  refine z_iload_n b dX11_gain_0 rfl rfl ?_
  refine z_calli b (z_runS (As := [.int 1]) (st := []) b (c_X11_isPerson_4 S ) cf_X11_isPerson wm_X11_69 ws_X11_isPerson dX11_gain_1 rfl (Nat.le_of_ble_eq_true rfl) ⟨by decide, by decide, by decide, by decide⟩) (fun r12726 u12727 h12725 => ?_)
  obtain ⟨rfl, rfl⟩ := h12725
  refine z_if_eq_f (tgt := 26) b dX11_gain_4 (by decide) (by decide) ?_
  refine z_iload_n b dX11_gain_7 rfl rfl ?_
  refine z_calli b (z_runS (As := [.int p0]) (st := []) b (c_X11_areLaws_3 S p0 ⟨by omega, by omega⟩) cf_X11_areLaws wm_X11_181 ws_X11_areLaws dX11_gain_8 rfl (Nat.le_of_ble_eq_true rfl) ⟨by decide, by decide, by decide, by decide⟩) (fun r12729 u12730 h12728 => ?_)
  obtain ⟨rfl, rfl⟩ := h12728
  refine z_if_eq_f (tgt := 26) b dX11_gain_11 (by decide) (by decide) ?_
  refine z_iload_n b dX11_gain_14 rfl rfl ?_
  refine z_calli b (z_runS (As := [.int p1]) (st := []) b (c_X11_isDepth_3 S p1 ⟨by omega, by omega⟩) cf_X11_isDepth wm_X11_203 ws_X11_isDepth dX11_gain_15 rfl (Nat.le_of_ble_eq_true rfl) ⟨by decide, by decide, by decide, by decide⟩) (fun r12732 u12733 h12731 => ?_)
  obtain ⟨rfl, rfl⟩ := h12731
  refine z_if_eq_f (tgt := 26) b dX11_gain_18 (by decide) (by decide) ?_
  refine z_iload b dX11_gain_21 rfl ?_
  refine z_if_ge_t (tgt := 29) b dX11_gain_23 (by decide) (by decide) ?_
  refine z_aload_n b dX11_gain_29 rfl rfl ?_
  refine z_get (q0 := 0) (k9 := 6) (v := .ref (a 25)) b (cw_0 cy tE a rw S) rfl in_X11 (by decide) wf_X11_52 rfl dX11_gain_30 ?_
  refine z_iload_n b dX11_gain_33 rfl rfl ?_
  refine z_iload_n b dX11_gain_34 rfl rfl ?_
  refine z_bipush (v := 7) b dX11_gain_35 (by decide) ?_
  refine z_iconst (v := 0) b dX11_gain_37 (by decide) ?_
  refine z_callv b (z_runV (q0 := 25) (As := [.int p0, .int p1, .int 7, .int 0]) (st := []) b (c_X8_begin_2 S p0 p1 h_i_19 h_i_24 h_i_22 h_i_18 h_i_25 h_i_23 h_i_26 h_a_4_50 h_a_4_40 h_a_4_41 h_a_4_42 h_a_4_0 h_a_4_11 h_a_4_21 h_a_4_31 h_a_4_12 h_a_4_22 h_a_4_32 h_a_4_1 h_a_4_13 h_a_4_23 h_a_4_33 h_a_4_15 h_a_4_25 h_a_4_35 h_a_4_2 h_a_4_16 h_a_4_26 h_a_4_36 h_a_4_17 h_a_4_27 h_a_4_37 h_a_10_0 ⟨by omega, by omega⟩ ⟨by omega, by omega⟩) cf_X8_begin (cw_25 cy tE a rw S) rfl wm_X11_206 wi_X8_begin ws_X8_begin dX11_gain_38 rfl (Nat.le_of_ble_eq_true rfl) ⟨by decide, by decide, by decide, by decide⟩) (fun u12736 h12734 => ?_)
  obtain rfl := h12734
  refine z_aload_n b dX11_gain_41 rfl rfl ?_
  refine z_get (q0 := 0) (k9 := 6) (v := .ref (a 25)) b (cw_0 cy tE a rw (su (si (su (su (sv (sa (si (si (si (si S 24 1) 19 p0) 20 p1) 21 7) 13 (fil 1024 0 (ar (si (si (si (si S 24 1) 19 p0) 20 p1) 21 7) 13))) 2 0 4128768) 11 0 (-1)) 12 0 (-1)) 25 1) 13 978 1)) rfl in_X11 (by decide) wf_X11_52 rfl dX11_gain_42 ?_
  refine z_callv b (z_runV (q0 := 25) (As := []) (st := []) b (c_X8_finish_2 (su (si (su (su (sv (sa (si (si (si (si S 24 1) 19 p0) 20 p1) 21 7) 13 (fil 1024 0 (ar (si (si (si (si S 24 1) 19 p0) 20 p1) 21 7) 13))) 2 0 4128768) 11 0 (-1)) 12 0 (-1)) 25 1) 13 978 1) h_i_26 h_i_23 rfl h_a_10_0 rfl h_a_9_50 h_a_9_40 h_a_9_41 h_a_9_42 h_a_9_0 h_a_9_11 h_a_9_21 h_a_9_31 h_a_9_12 h_a_9_22 h_a_9_32 h_a_9_1 h_a_9_13 h_a_9_23 h_a_9_33 h_a_9_15 h_a_9_25 h_a_9_35 h_a_9_2 h_a_9_16 h_a_9_26 h_a_9_36 h_a_9_17 h_a_9_27 h_a_9_37 h_i_18) cf_X8_finish (cw_25 cy tE a rw (su (si (su (su (sv (sa (si (si (si (si S 24 1) 19 p0) 20 p1) 21 7) 13 (fil 1024 0 (ar (si (si (si (si S 24 1) 19 p0) 20 p1) 21 7) 13))) 2 0 4128768) 11 0 (-1)) 12 0 (-1)) 25 1) 13 978 1)) rfl wm_X11_232 wi_X8_finish ws_X8_finish dX11_gain_45 rfl (Nat.le_of_ble_eq_true rfl) ⟨by decide, by decide, by decide, by decide⟩) (fun u12739 h12737 => ?_)
  rcases h12737 with ⟨c12740, rfl⟩ | ⟨c12741, rfl⟩
  · refine z_aload_n b dX11_gain_48 rfl rfl ?_
    refine z_get (q0 := 0) (k9 := 6) (v := .ref (a 25)) b (cw_0 cy tE a rw (si (su (si (su (su (sv (sa (si (si (si (si S 24 1) 19 p0) 20 p1) 21 7) 13 (fil 1024 0 (ar (si (si (si (si S 24 1) 19 p0) 20 p1) 21 7) 13))) 2 0 4128768) 11 0 (-1)) 12 0 (-1)) 25 1) 13 978 1) 23 1)) rfl in_X11 (by decide) wf_X11_52 rfl dX11_gain_49 ?_
    refine z_get (q0 := 25) (k9 := 18) (v := .int (fi (si (su (si (su (su (sv (sa (si (si (si (si S 24 1) 19 p0) 20 p1) 21 7) 13 (fil 1024 0 (ar (si (si (si (si S 24 1) 19 p0) 20 p1) 21 7) 13))) 2 0 4128768) 11 0 (-1)) 12 0 (-1)) 25 1) 13 978 1) 23 1) 26)) b (cw_25 cy tE a rw (si (su (si (su (su (sv (sa (si (si (si (si S 24 1) 19 p0) 20 p1) 21 7) 13 (fil 1024 0 (ar (si (si (si (si S 24 1) 19 p0) 20 p1) 21 7) 13))) 2 0 4128768) 11 0 (-1)) 12 0 (-1)) 25 1) 13 978 1) 23 1)) rfl in_X8 (by decide) wf_X11_214 rfl dX11_gain_52 ?_
    refine z_eqi h_i_26 ?_
    refine z_if_eq_t (tgt := 61) b dX11_gain_55 (by decide) (by decide) ?_
    refine z_aload_n b dX11_gain_61 rfl rfl ?_
    refine z_get (q0 := 0) (k9 := 6) (v := .ref (a 25)) b (cw_0 cy tE a rw (si (su (si (su (su (sv (sa (si (si (si (si S 24 1) 19 p0) 20 p1) 21 7) 13 (fil 1024 0 (ar (si (si (si (si S 24 1) 19 p0) 20 p1) 21 7) 13))) 2 0 4128768) 11 0 (-1)) 12 0 (-1)) 25 1) 13 978 1) 23 1)) rfl in_X11 (by decide) wf_X11_52 rfl dX11_gain_62 ?_
    refine z_iload_n b dX11_gain_65 rfl rfl ?_
    refine z_calli b (z_runV (q0 := 25) (As := [.int 1]) (st := []) b (c_X8_richest_2 (si (su (si (su (su (sv (sa (si (si (si (si S 24 1) 19 p0) 20 p1) 21 7) 13 (fil 1024 0 (ar (si (si (si (si S 24 1) 19 p0) 20 p1) 21 7) 13))) 2 0 4128768) 11 0 (-1)) 12 0 (-1)) 25 1) 13 978 1) 23 1) rfl rfl h_a_9_50 h_a_9_40 h_a_9_41 h_a_9_42 h_a_9_0 h_a_9_11 h_a_9_21 h_a_9_31 h_a_9_12 h_a_9_22 h_a_9_32 h_a_9_1 h_a_9_13 h_a_9_23 h_a_9_33 h_a_9_15 h_a_9_25 h_a_9_35 h_a_9_2 h_a_9_16 h_a_9_26 h_a_9_36 h_a_9_17 h_a_9_27 h_a_9_37) cf_X8_richest (cw_25 cy tE a rw (si (su (si (su (su (sv (sa (si (si (si (si S 24 1) 19 p0) 20 p1) 21 7) 13 (fil 1024 0 (ar (si (si (si (si S 24 1) 19 p0) 20 p1) 21 7) 13))) 2 0 4128768) 11 0 (-1)) 12 0 (-1)) 25 1) 13 978 1) 23 1)) rfl wm_X11_238 wi_X8_richest ws_X8_richest dX11_gain_66 rfl (Nat.le_of_ble_eq_true rfl) ⟨by decide, by decide, by decide, by decide⟩) (fun r12743 u12744 h12742 => ?_)
    obtain ⟨rfl, rfl⟩ := h12742
    refine z_istore (lv' := [(5, .int 0), (0, .ref (a 0)), (1, .int 1), (2, .int p0), (3, .int p1), (4, .int 1)]) b dX11_gain_69 (by decide) rfl ?_
    refine z_iload b dX11_gain_71 rfl ?_
    refine z_if_ne_t (tgt := 87) b dX11_gain_73 (by decide) (by decide) ?_
    refine z_iload b dX11_gain_87 rfl ?_
    refine z_iconst (v := 1) b dX11_gain_89 (by decide) ?_
    refine z_icmp_ne_f (tgt := 103) b dX11_gain_90 (by decide) (by decide) ?_
    refine z_aload_n b dX11_gain_93 rfl rfl ?_
    refine z_get (q0 := 0) (k9 := 6) (v := .ref (a 25)) b (cw_0 cy tE a rw (si (su (si (su (su (sv (sa (si (si (si (si S 24 1) 19 p0) 20 p1) 21 7) 13 (fil 1024 0 (ar (si (si (si (si S 24 1) 19 p0) 20 p1) 21 7) 13))) 2 0 4128768) 11 0 (-1)) 12 0 (-1)) 25 1) 13 978 1) 23 1)) rfl in_X11 (by decide) wf_X11_52 rfl dX11_gain_94 ?_
    refine z_iload b dX11_gain_97 rfl ?_
    refine z_calli b (z_runV (q0 := 25) (As := [.int 0]) (st := []) b (c_X8_acts (si (su (si (su (su (sv (sa (si (si (si (si S 24 1) 19 p0) 20 p1) 21 7) 13 (fil 1024 0 (ar (si (si (si (si S 24 1) 19 p0) 20 p1) 21 7) 13))) 2 0 4128768) 11 0 (-1)) 12 0 (-1)) 25 1) 13 978 1) 23 1) rfl h_a_10_0) cf_X8_acts (cw_25 cy tE a rw (si (su (si (su (su (sv (sa (si (si (si (si S 24 1) 19 p0) 20 p1) 21 7) 13 (fil 1024 0 (ar (si (si (si (si S 24 1) 19 p0) 20 p1) 21 7) 13))) 2 0 4128768) 11 0 (-1)) 12 0 (-1)) 25 1) 13 978 1) 23 1)) rfl wm_X11_217 wi_X8_acts ws_X8_acts dX11_gain_99 rfl (Nat.le_of_ble_eq_true rfl) ⟨by decide, by decide, by decide, by decide⟩) (fun r12746 u12747 h12745 => ?_)
    obtain ⟨rfl, rfl⟩ := h12745
    exact z_iret (u := (si (su (si (su (su (sv (sa (si (si (si (si S 24 1) 19 p0) 20 p1) 21 7) 13 (fil 1024 0 (ar (si (si (si (si S 24 1) 19 p0) 20 p1) 21 7) 13))) 2 0 4128768) 11 0 (-1)) 12 0 (-1)) 25 1) 13 978 1) 23 1)) b rfl dX11_gain_102 (Or.inl ⟨c12740, rfl, rfl⟩) rfl (by decide) (by decide)
  · refine z_aload_n b dX11_gain_48 rfl rfl ?_
    refine z_get (q0 := 0) (k9 := 6) (v := .ref (a 25)) b (cw_0 cy tE a rw (su (si (su (su (sv (sa (si (si (si (si S 24 1) 19 p0) 20 p1) 21 7) 13 (fil 1024 0 (ar (si (si (si (si S 24 1) 19 p0) 20 p1) 21 7) 13))) 2 0 4128768) 11 0 (-1)) 12 0 (-1)) 25 1) 13 978 1)) rfl in_X11 (by decide) wf_X11_52 rfl dX11_gain_49 ?_
    refine z_get (q0 := 25) (k9 := 18) (v := .int (fi (su (si (su (su (sv (sa (si (si (si (si S 24 1) 19 p0) 20 p1) 21 7) 13 (fil 1024 0 (ar (si (si (si (si S 24 1) 19 p0) 20 p1) 21 7) 13))) 2 0 4128768) 11 0 (-1)) 12 0 (-1)) 25 1) 13 978 1) 26)) b (cw_25 cy tE a rw (su (si (su (su (sv (sa (si (si (si (si S 24 1) 19 p0) 20 p1) 21 7) 13 (fil 1024 0 (ar (si (si (si (si S 24 1) 19 p0) 20 p1) 21 7) 13))) 2 0 4128768) 11 0 (-1)) 12 0 (-1)) 25 1) 13 978 1)) rfl in_X8 (by decide) wf_X11_214 rfl dX11_gain_52 ?_
    refine z_eqi h_i_26 ?_
    refine z_if_eq_t (tgt := 61) b dX11_gain_55 (by decide) (by decide) ?_
    refine z_aload_n b dX11_gain_61 rfl rfl ?_
    refine z_get (q0 := 0) (k9 := 6) (v := .ref (a 25)) b (cw_0 cy tE a rw (su (si (su (su (sv (sa (si (si (si (si S 24 1) 19 p0) 20 p1) 21 7) 13 (fil 1024 0 (ar (si (si (si (si S 24 1) 19 p0) 20 p1) 21 7) 13))) 2 0 4128768) 11 0 (-1)) 12 0 (-1)) 25 1) 13 978 1)) rfl in_X11 (by decide) wf_X11_52 rfl dX11_gain_62 ?_
    refine z_iload_n b dX11_gain_65 rfl rfl ?_
    refine z_calli b (z_runV (q0 := 25) (As := [.int 1]) (st := []) b (c_X8_richest_2 (su (si (su (su (sv (sa (si (si (si (si S 24 1) 19 p0) 20 p1) 21 7) 13 (fil 1024 0 (ar (si (si (si (si S 24 1) 19 p0) 20 p1) 21 7) 13))) 2 0 4128768) 11 0 (-1)) 12 0 (-1)) 25 1) 13 978 1) rfl rfl h_a_9_50 h_a_9_40 h_a_9_41 h_a_9_42 h_a_9_0 h_a_9_11 h_a_9_21 h_a_9_31 h_a_9_12 h_a_9_22 h_a_9_32 h_a_9_1 h_a_9_13 h_a_9_23 h_a_9_33 h_a_9_15 h_a_9_25 h_a_9_35 h_a_9_2 h_a_9_16 h_a_9_26 h_a_9_36 h_a_9_17 h_a_9_27 h_a_9_37) cf_X8_richest (cw_25 cy tE a rw (su (si (su (su (sv (sa (si (si (si (si S 24 1) 19 p0) 20 p1) 21 7) 13 (fil 1024 0 (ar (si (si (si (si S 24 1) 19 p0) 20 p1) 21 7) 13))) 2 0 4128768) 11 0 (-1)) 12 0 (-1)) 25 1) 13 978 1)) rfl wm_X11_238 wi_X8_richest ws_X8_richest dX11_gain_66 rfl (Nat.le_of_ble_eq_true rfl) ⟨by decide, by decide, by decide, by decide⟩) (fun r12749 u12750 h12748 => ?_)
    obtain ⟨rfl, rfl⟩ := h12748
    refine z_istore (lv' := [(5, .int 0), (0, .ref (a 0)), (1, .int 1), (2, .int p0), (3, .int p1), (4, .int 1)]) b dX11_gain_69 (by decide) rfl ?_
    refine z_iload b dX11_gain_71 rfl ?_
    refine z_if_ne_t (tgt := 87) b dX11_gain_73 (by decide) (by decide) ?_
    refine z_iload b dX11_gain_87 rfl ?_
    refine z_iconst (v := 1) b dX11_gain_89 (by decide) ?_
    refine z_icmp_ne_f (tgt := 103) b dX11_gain_90 (by decide) (by decide) ?_
    refine z_aload_n b dX11_gain_93 rfl rfl ?_
    refine z_get (q0 := 0) (k9 := 6) (v := .ref (a 25)) b (cw_0 cy tE a rw (su (si (su (su (sv (sa (si (si (si (si S 24 1) 19 p0) 20 p1) 21 7) 13 (fil 1024 0 (ar (si (si (si (si S 24 1) 19 p0) 20 p1) 21 7) 13))) 2 0 4128768) 11 0 (-1)) 12 0 (-1)) 25 1) 13 978 1)) rfl in_X11 (by decide) wf_X11_52 rfl dX11_gain_94 ?_
    refine z_iload b dX11_gain_97 rfl ?_
    refine z_calli b (z_runV (q0 := 25) (As := [.int 0]) (st := []) b (c_X8_acts (su (si (su (su (sv (sa (si (si (si (si S 24 1) 19 p0) 20 p1) 21 7) 13 (fil 1024 0 (ar (si (si (si (si S 24 1) 19 p0) 20 p1) 21 7) 13))) 2 0 4128768) 11 0 (-1)) 12 0 (-1)) 25 1) 13 978 1) rfl h_a_10_0) cf_X8_acts (cw_25 cy tE a rw (su (si (su (su (sv (sa (si (si (si (si S 24 1) 19 p0) 20 p1) 21 7) 13 (fil 1024 0 (ar (si (si (si (si S 24 1) 19 p0) 20 p1) 21 7) 13))) 2 0 4128768) 11 0 (-1)) 12 0 (-1)) 25 1) 13 978 1)) rfl wm_X11_217 wi_X8_acts ws_X8_acts dX11_gain_99 rfl (Nat.le_of_ble_eq_true rfl) ⟨by decide, by decide, by decide, by decide⟩) (fun r12752 u12753 h12751 => ?_)
    obtain ⟨rfl, rfl⟩ := h12751
    exact z_iret (u := (su (si (su (su (sv (sa (si (si (si (si S 24 1) 19 p0) 20 p1) 21 7) 13 (fil 1024 0 (ar (si (si (si (si S 24 1) 19 p0) 20 p1) 21 7) 13))) 2 0 4128768) 11 0 (-1)) 12 0 (-1)) 25 1) 13 978 1)) b rfl dX11_gain_102 (Or.inr ⟨c12741, rfl, rfl⟩) rfl (by decide) (by decide)

set_option maxHeartbeats 4000000 in
set_option maxRecDepth 100000 in
theorem c_X12_gain_32 {l : Launch} {D : va_G} {cy : Nat → ClassId} {T0 tB tE : Nat} {a : Nat → Nat} (S : GS) (p0 : Int32) (p1 : Int32) (h_i_21 : fi S 21 = 0) (h_i_23 : fi S 23 = 0) (h_l_0 : fl S 0 = 1649317774848) (h_a_29_992 : ar S 29 992 = (-1)) (h_a_28_0 : ar S 28 0 = 0) (h_a_7_0 : ar S 7 0 = 0) (h_a_7_1 : ar S 7 1 = 0) (h_a_4_7 : ar S 4 7 = 0) (h_a_1_7 : ar S 1 7 = 0) (h_a_4_6 : ar S 4 6 = 0) (h_a_1_6 : ar S 1 6 = 0) (h_a_3_6 : ar S 3 6 = 0) (h_a_3_2 : ar S 3 2 = 0) (h_a_2_2 : ar S 2 2 = 3) (h_a_0_2 : ar S 0 2 = 0) (h_a_4_3 : ar S 4 3 = 0) (h_a_1_3 : ar S 1 3 = 0) (h_a_4_5 : ar S 4 5 = 0) (h_a_1_5 : ar S 1 5 = 0) (h_a_3_5 : ar S 3 5 = 0) (h_a_3_7 : ar S 3 7 = 0) (h_a_2_1 : ar S 2 1 = 3) (h_a_0_1 : ar S 0 1 = 0) (h_a_4_2 : ar S 4 2 = 0) (h_a_1_2 : ar S 1 2 = 0) (h_a_4_1 : ar S 4 1 = 0) (h_a_1_1 : ar S 1 1 = 0) (h_a_3_1 : ar S 3 1 = 0) (h_a_3_3 : ar S 3 3 = 0) (h_a_2_0 : ar S 2 0 = 3) (h_a_0_0 : ar S 0 0 = 0) (h_i_0 : fi S 0 = 0) (hr_p0 : 1 ≤ p0.toInt ∧ p0.toInt ≤ 3) (hr_p1 : 1 ≤ p1.toInt ∧ p1.toInt ≤ 6) : Ct l D cy T0 tB tE yX12_gain cX12_gain 9 (some .int) 4 99 0 0 (mw cy a S) [.ref (a 0), .int 1, .int p0, .int p1, .int 1] (QI D (U := GS) (fun r u => 0 = r ∧ (si (su (su (sv (su (su (si S 22 (-1)) 29 992 0) 30 0 992) 0 0 1649317774848) 26 0 (-1)) 27 0 (-1)) 21 1) = u) (mw cy a)) := by
  refine Ct.ofZ RX12 "gain" [(0, .ref (a 0)), (1, .int 1), (2, .int p0), (3, .int p1), (4, .int 1)] rfl rfl rfl rfl (Nat.le_of_ble_eq_true rfl) ?_
  intro p e R s m args below meth c A b
  refine z_iload_n b dX12_gain_0 rfl rfl ?_
  refine z_calli b (z_runS (As := [.int 1]) (st := []) b (c_X12_isOne_4 S ) cf_X12_isOne wm_X12_170 ws_X12_isOne dX12_gain_1 rfl (Nat.le_of_ble_eq_true rfl) ⟨by decide, by decide, by decide, by decide⟩) (fun r12755 u12756 h12754 => ?_)
  obtain ⟨rfl, rfl⟩ := h12754
  refine z_if_eq_f (tgt := 27) b dX12_gain_4 (by decide) (by decide) ?_
  refine z_aload_n b dX12_gain_7 rfl rfl ?_
  refine z_iload_n b dX12_gain_8 rfl rfl ?_
  refine z_iload_n b dX12_gain_9 rfl rfl ?_
  refine z_calli b (z_runV (q0 := 0) (As := [.int p0, .int p1]) (st := []) b (c_X12_canSearch_5 S p0 p1 ⟨by omega, by omega⟩ ⟨by omega, by omega⟩) cf_X12_canSearch (mw_0 cy a S) rfl wm_X12_433 wi_X12_canSearch ws_X12_canSearch dX12_gain_10 rfl (Nat.le_of_ble_eq_true rfl) ⟨by decide, by decide, by decide, by decide⟩) (fun r12758 u12759 h12757 => ?_)
  obtain ⟨rfl, rfl⟩ := h12757
  refine z_if_eq_f (tgt := 27) b dX12_gain_13 (by decide) (by decide) ?_
  refine z_iload b dX12_gain_16 rfl ?_
  refine z_iconst (v := 0) b dX12_gain_18 (by decide) ?_
  refine z_bipush (v := 7) b dX12_gain_19 (by decide) ?_
  refine z_calli b (z_runS (As := [.int 1, .int 0, .int 7]) (st := []) b (c_X12_isIn_60 S ) cf_X12_isIn wm_X12_1 ws_X12_isIn dX12_gain_21 rfl (Nat.le_of_ble_eq_true rfl) ⟨by decide, by decide, by decide, by decide⟩) (fun r12761 u12762 h12760 => ?_)
  obtain ⟨rfl, rfl⟩ := h12760
  refine z_if_ne_t (tgt := 30) b dX12_gain_24 (by decide) (by decide) ?_
  refine z_aload_n b dX12_gain_30 rfl rfl ?_
  refine z_iconst (v := (-1)) b dX12_gain_31 (by decide) ?_
  refine z_iload_n b dX12_gain_32 rfl rfl ?_
  refine z_iload_n b dX12_gain_33 rfl rfl ?_
  refine z_bipush (v := 7) b dX12_gain_34 (by decide) ?_
  refine z_iconst (v := 0) b dX12_gain_36 (by decide) ?_
  refine z_callv b (z_runV (q0 := 0) (As := [.int (-1), .int p0, .int p1, .int 7, .int 0]) (st := []) b (c_X12_searches_2 S p0 p1 h_i_21 h_i_23 h_l_0 h_a_29_992 h_a_28_0 h_a_7_0 h_a_7_1 ⟨by omega, by omega⟩ ⟨by omega, by omega⟩) cf_X12_searches (mw_0 cy a S) rfl wm_X12_436 wi_X12_searches ws_X12_searches dX12_gain_37 rfl (Nat.le_of_ble_eq_true rfl) ⟨by decide, by decide, by decide, by decide⟩) (fun u12765 h12763 => ?_)
  obtain rfl := h12763
  refine z_aload_n b dX12_gain_40 rfl rfl ?_
  refine z_get (q0 := 0) (k9 := 57) (v := .int (fi (si (su (su (sv (su (su (si S 22 (-1)) 29 992 0) 30 0 992) 0 0 1649317774848) 26 0 (-1)) 27 0 (-1)) 21 1) 23)) b (mw_0 cy a (si (su (su (sv (su (su (si S 22 (-1)) 29 992 0) 30 0 992) 0 0 1649317774848) 26 0 (-1)) 27 0 (-1)) 21 1)) rfl in_X12 (by decide) wf_X12_408 rfl dX12_gain_41 ?_
  refine z_eqi h_i_23 ?_
  refine z_if_eq_t (tgt := 50) b dX12_gain_44 (by decide) (by decide) ?_
  refine z_iconst (v := (-1)) b dX12_gain_50 (by decide) ?_
  refine z_istore (lv' := [(5, .int (-1)), (0, .ref (a 0)), (1, .int 1), (2, .int p0), (3, .int p1), (4, .int 1)]) b dX12_gain_51 (by decide) rfl ?_
  refine z_iconst (v := 0) b dX12_gain_53 (by decide) ?_
  refine z_istore (lv' := [(6, .int 0), (5, .int (-1)), (0, .ref (a 0)), (1, .int 1), (2, .int p0), (3, .int p1), (4, .int 1)]) b dX12_gain_54 (by decide) rfl ?_
  refine z_iconst (v := 0) b dX12_gain_56 (by decide) ?_
  refine z_istore (lv' := [(7, .int 0), (6, .int 0), (5, .int (-1)), (0, .ref (a 0)), (1, .int 1), (2, .int p0), (3, .int p1), (4, .int 1)]) b dX12_gain_57 (by decide) rfl ?_
  refine z_iload b dX12_gain_59 rfl ?_
  refine z_aload_n b dX12_gain_61 rfl rfl ?_
  refine z_get (q0 := 0) (k9 := 55) (v := .int 1) b (mw_0 cy a (si (su (su (sv (su (su (si S 22 (-1)) 29 992 0) 30 0 992) 0 0 1649317774848) 26 0 (-1)) 27 0 (-1)) 21 1)) rfl in_X12 (by decide) wf_X12_405 rfl dX12_gain_62 ?_
  refine z_icmp_ge_f (tgt := 147) b dX12_gain_65 (by decide) (by decide) ?_
  refine z_aload_n b dX12_gain_68 rfl rfl ?_
  refine z_aload_n b dX12_gain_69 rfl rfl ?_
  refine z_get (q0 := 0) (k9 := 49) (v := .ref (a 27)) b (mw_0 cy a (si (su (su (sv (su (su (si S 22 (-1)) 29 992 0) 30 0 992) 0 0 1649317774848) 26 0 (-1)) 27 0 (-1)) 21 1)) rfl in_X12 (by decide) wf_X12_97 rfl dX12_gain_70 ?_
  refine z_iload b dX12_gain_73 rfl ?_
  refine y_lald (q0 := 27) (j := 0) (v := 1649317774848) b (mw_27 cy a (si (su (su (sv (su (su (si S 22 (-1)) 29 992 0) 30 0 992) 0 0 1649317774848) 26 0 (-1)) 27 0 (-1)) 21 1)) (by decide) rfl dX12_gain_75 ?_
  refine z_callv b (z_runV (q0 := 0) (As := [.long 1649317774848]) (st := []) b (c_X12_takes (si (su (su (sv (su (su (si S 22 (-1)) 29 992 0) 30 0 992) 0 0 1649317774848) 26 0 (-1)) 27 0 (-1)) 21 1) h_a_4_7 h_a_1_7 h_a_4_6 h_a_1_6 h_a_3_6 h_a_3_2 h_a_2_2 h_a_0_2 h_a_4_3 h_a_1_3 h_a_4_5 h_a_1_5 h_a_3_5 h_a_3_7 h_a_2_1 h_a_0_1 h_a_4_2 h_a_1_2 h_a_4_1 h_a_1_1 h_a_3_1 h_a_3_3 h_a_2_0 h_a_0_0 h_i_0) cf_X12_takes (mw_0 cy a (si (su (su (sv (su (su (si S 22 (-1)) 29 992 0) 30 0 992) 0 0 1649317774848) 26 0 (-1)) 27 0 (-1)) 21 1)) rfl wm_X12_174 wi_X12_takes ws_X12_takes dX12_gain_76 rfl (Nat.le_of_ble_eq_true rfl) ⟨by decide, by decide, by decide, by decide⟩) (fun u12768 h12766 => ?_)
  obtain rfl := h12766
  refine z_aload_n b dX12_gain_79 rfl rfl ?_
  refine z_get (q0 := 0) (k9 := 0) (v := .ref (a 1)) b (mw_0 cy a (si (su (su (sv (su (su (si S 22 (-1)) 29 992 0) 30 0 992) 0 0 1649317774848) 26 0 (-1)) 27 0 (-1)) 21 1)) rfl in_X12 (by decide) wf_X12_13 rfl dX12_gain_80 ?_
  refine z_iload_n b dX12_gain_83 rfl rfl ?_
  refine y_iald (q0 := 1) (j := 1) (v := (ar (si (su (su (sv (su (su (si S 22 (-1)) 29 992 0) 30 0 992) 0 0 1649317774848) 26 0 (-1)) 27 0 (-1)) 21 1) 0 1)) b (mw_1 cy a (si (su (su (sv (su (su (si S 22 (-1)) 29 992 0) 30 0 992) 0 0 1649317774848) 26 0 (-1)) 27 0 (-1)) 21 1)) (by decide) rfl dX12_gain_84 ?_
  refine z_eqi h_a_0_1 ?_
  refine z_aload_n b dX12_gain_85 rfl rfl ?_
  refine z_get (q0 := 0) (k9 := 1) (v := .ref (a 2)) b (mw_0 cy a (si (su (su (sv (su (su (si S 22 (-1)) 29 992 0) 30 0 992) 0 0 1649317774848) 26 0 (-1)) 27 0 (-1)) 21 1)) rfl in_X12 (by decide) wf_X12_17 rfl dX12_gain_86 ?_
  refine z_iconst (v := 3) b dX12_gain_89 (by decide) ?_
  refine z_iload_n b dX12_gain_90 rfl rfl ?_
  refine z_imul (v := 3) b dX12_gain_91 (by decide) ?_
  refine z_iload_n b dX12_gain_92 rfl rfl ?_
  refine z_iconst (v := 0) b dX12_gain_93 (by decide) ?_
  refine z_calli b (z_runS (As := [.int 1, .int 0]) (st := [.int 3, .ref (a 2), .int 0]) b (c_X12_other_4 (si (su (su (sv (su (su (si S 22 (-1)) 29 992 0) 30 0 992) 0 0 1649317774848) 26 0 (-1)) 27 0 (-1)) 21 1) ) cf_X12_other wm_X12_160 ws_X12_other dX12_gain_94 rfl (Nat.le_of_ble_eq_true rfl) ⟨by decide, by decide, by decide, by decide⟩) (fun r12770 u12771 h12769 => ?_)
  obtain ⟨rfl, rfl⟩ := h12769
  refine z_iadd (v := 5) b dX12_gain_97 (by decide) ?_
  refine y_iald (q0 := 2) (j := 5) (v := (ar (si (su (su (sv (su (su (si S 22 (-1)) 29 992 0) 30 0 992) 0 0 1649317774848) 26 0 (-1)) 27 0 (-1)) 21 1) 1 5)) b (mw_2 cy a (si (su (su (sv (su (su (si S 22 (-1)) 29 992 0) 30 0 992) 0 0 1649317774848) 26 0 (-1)) 27 0 (-1)) 21 1)) (by decide) rfl dX12_gain_98 ?_
  refine z_eqi h_a_1_5 ?_
  refine z_isub (v := 0) b dX12_gain_99 (by decide) ?_
  refine z_aload_n b dX12_gain_100 rfl rfl ?_
  refine z_get (q0 := 0) (k9 := 1) (v := .ref (a 2)) b (mw_0 cy a (si (su (su (sv (su (su (si S 22 (-1)) 29 992 0) 30 0 992) 0 0 1649317774848) 26 0 (-1)) 27 0 (-1)) 21 1)) rfl in_X12 (by decide) wf_X12_17 rfl dX12_gain_101 ?_
  refine z_iconst (v := 3) b dX12_gain_104 (by decide) ?_
  refine z_iload_n b dX12_gain_105 rfl rfl ?_
  refine z_imul (v := 3) b dX12_gain_106 (by decide) ?_
  refine z_iload_n b dX12_gain_107 rfl rfl ?_
  refine z_iconst (v := 1) b dX12_gain_108 (by decide) ?_
  refine z_calli b (z_runS (As := [.int 1, .int 1]) (st := [.int 3, .ref (a 2), .int 0]) b (c_X12_other_3 (si (su (su (sv (su (su (si S 22 (-1)) 29 992 0) 30 0 992) 0 0 1649317774848) 26 0 (-1)) 27 0 (-1)) 21 1) ) cf_X12_other wm_X12_160 ws_X12_other dX12_gain_109 rfl (Nat.le_of_ble_eq_true rfl) ⟨by decide, by decide, by decide, by decide⟩) (fun r12773 u12774 h12772 => ?_)
  obtain ⟨rfl, rfl⟩ := h12772
  refine z_iadd (v := 3) b dX12_gain_112 (by decide) ?_
  refine y_iald (q0 := 2) (j := 3) (v := (ar (si (su (su (sv (su (su (si S 22 (-1)) 29 992 0) 30 0 992) 0 0 1649317774848) 26 0 (-1)) 27 0 (-1)) 21 1) 1 3)) b (mw_2 cy a (si (su (su (sv (su (su (si S 22 (-1)) 29 992 0) 30 0 992) 0 0 1649317774848) 26 0 (-1)) 27 0 (-1)) 21 1)) (by decide) rfl dX12_gain_113 ?_
  refine z_eqi h_a_1_3 ?_
  refine z_isub (v := 0) b dX12_gain_114 (by decide) ?_
  refine z_istore (lv' := [(8, .int 0), (7, .int 0), (6, .int 0), (5, .int (-1)), (0, .ref (a 0)), (1, .int 1), (2, .int p0), (3, .int p1), (4, .int 1)]) b dX12_gain_115 (by decide) rfl ?_
  refine z_iload b dX12_gain_117 rfl ?_
  refine z_iconst (v := (-1)) b dX12_gain_119 (by decide) ?_
  refine z_icmp_eq_t (tgt := 133) b dX12_gain_120 (by decide) (by decide) ?_
  refine z_iload b dX12_gain_133 rfl ?_
  refine z_istore (lv' := [(5, .int 0), (8, .int 0), (7, .int 0), (6, .int 0), (0, .ref (a 0)), (1, .int 1), (2, .int p0), (3, .int p1), (4, .int 1)]) b dX12_gain_135 (by decide) rfl ?_
  refine z_iload b dX12_gain_137 rfl ?_
  refine z_istore (lv' := [(6, .int 0), (5, .int 0), (8, .int 0), (7, .int 0), (0, .ref (a 0)), (1, .int 1), (2, .int p0), (3, .int p1), (4, .int 1)]) b dX12_gain_139 (by decide) rfl ?_
  refine z_iinc (k9 := 3) (v := 1) (lv' := [(7, .int 1), (6, .int 0), (5, .int 0), (8, .int 0), (0, .ref (a 0)), (1, .int 1), (2, .int p0), (3, .int p1), (4, .int 1)]) b dX12_gain_141 rfl (by decide) (by decide) rfl ?_
  refine z_goto (tgt := 59) b dX12_gain_144 (by decide) ?_
  refine z_iload b dX12_gain_59 rfl ?_
  refine z_aload_n b dX12_gain_61 rfl rfl ?_
  refine z_get (q0 := 0) (k9 := 55) (v := .int 1) b (mw_0 cy a (si (su (su (sv (su (su (si S 22 (-1)) 29 992 0) 30 0 992) 0 0 1649317774848) 26 0 (-1)) 27 0 (-1)) 21 1)) rfl in_X12 (by decide) wf_X12_405 rfl dX12_gain_62 ?_
  refine z_icmp_ge_t (tgt := 147) b dX12_gain_65 (by decide) (by decide) ?_
  refine z_iload b dX12_gain_147 rfl ?_
  refine z_iconst (v := 2) b dX12_gain_149 (by decide) ?_
  refine z_icmp_ge_f (tgt := 171) b dX12_gain_150 (by decide) (by decide) ?_
  refine z_iload b dX12_gain_153 rfl ?_
  refine z_if_ne_t (tgt := 163) b dX12_gain_155 (by decide) (by decide) ?_
  refine z_aload_n b dX12_gain_163 rfl rfl ?_
  refine z_get (q0 := 0) (k9 := 52) (v := .ref (a 30)) b (mw_0 cy a (si (su (su (sv (su (su (si S 22 (-1)) 29 992 0) 30 0 992) 0 0 1649317774848) 26 0 (-1)) 27 0 (-1)) 21 1)) rfl in_X12 (by decide) wf_X12_107 rfl dX12_gain_164 ?_
  refine z_iload b dX12_gain_167 rfl ?_
  refine y_iald (q0 := 30) (j := 0) (v := (ar (si (su (su (sv (su (su (si S 22 (-1)) 29 992 0) 30 0 992) 0 0 1649317774848) 26 0 (-1)) 27 0 (-1)) 21 1) 28 0)) b (mw_30 cy a (si (su (su (sv (su (su (si S 22 (-1)) 29 992 0) 30 0 992) 0 0 1649317774848) 26 0 (-1)) 27 0 (-1)) 21 1)) (by decide) rfl dX12_gain_169 ?_
  refine z_eqi h_a_28_0 ?_
  exact z_iret (u := (si (su (su (sv (su (su (si S 22 (-1)) 29 992 0) 30 0 992) 0 0 1649317774848) 26 0 (-1)) 27 0 (-1)) 21 1)) b rfl dX12_gain_170 ⟨rfl, rfl⟩ rfl (by decide) (by decide)

set_option maxHeartbeats 4000000 in
set_option maxRecDepth 100000 in
theorem c_X11_gain_33 {l : Launch} {D : va_G} {cy : Nat → ClassId} {T0 tB tE : Nat} {a : Nat → Nat} {rw : Nat → Option Nat} (S : GS) (p0 : Int32) (p1 : Int32) (p2 : Int32) (h_i_19 : fi S 19 = 0) (h_i_24 : fi S 24 = 0) (h_i_22 : fi S 22 = 0) (h_i_18 : fi S 18 = 0) (h_i_25 : fi S 25 = 0) (h_i_23 : fi S 23 = 0) (h_i_26 : fi S 26 = 0) (h_a_4_50 : ar S 4 50 = 0) (h_a_4_40 : ar S 4 40 = 3) (h_a_4_41 : ar S 4 41 = 3) (h_a_4_42 : ar S 4 42 = 3) (h_a_4_0 : ar S 4 0 = 0) (h_a_4_11 : ar S 4 11 = 0) (h_a_4_21 : ar S 4 21 = 0) (h_a_4_31 : ar S 4 31 = 0) (h_a_4_12 : ar S 4 12 = 0) (h_a_4_22 : ar S 4 22 = 0) (h_a_4_32 : ar S 4 32 = 0) (h_a_4_1 : ar S 4 1 = 0) (h_a_4_13 : ar S 4 13 = 0) (h_a_4_23 : ar S 4 23 = 0) (h_a_4_33 : ar S 4 33 = 0) (h_a_4_15 : ar S 4 15 = 0) (h_a_4_25 : ar S 4 25 = 0) (h_a_4_35 : ar S 4 35 = 0) (h_a_4_2 : ar S 4 2 = 0) (h_a_4_16 : ar S 4 16 = 0) (h_a_4_26 : ar S 4 26 = 0) (h_a_4_36 : ar S 4 36 = 0) (h_a_4_17 : ar S 4 17 = 0) (h_a_4_27 : ar S 4 27 = 0) (h_a_4_37 : ar S 4 37 = 0) (h_a_10_0 : ar S 10 0 = 0) (h_a_9_50 : ar S 9 50 = 0) (h_a_9_40 : ar S 9 40 = 3) (h_a_9_41 : ar S 9 41 = 3) (h_a_9_42 : ar S 9 42 = 3) (h_a_9_0 : ar S 9 0 = 0) (h_a_9_11 : ar S 9 11 = 0) (h_a_9_21 : ar S 9 21 = 0) (h_a_9_31 : ar S 9 31 = 0) (h_a_9_12 : ar S 9 12 = 0) (h_a_9_22 : ar S 9 22 = 0) (h_a_9_32 : ar S 9 32 = 0) (h_a_9_1 : ar S 9 1 = 0) (h_a_9_13 : ar S 9 13 = 0) (h_a_9_23 : ar S 9 23 = 0) (h_a_9_33 : ar S 9 33 = 0) (h_a_9_15 : ar S 9 15 = 0) (h_a_9_25 : ar S 9 25 = 0) (h_a_9_35 : ar S 9 35 = 0) (h_a_9_2 : ar S 9 2 = 0) (h_a_9_16 : ar S 9 16 = 0) (h_a_9_26 : ar S 9 26 = 0) (h_a_9_36 : ar S 9 36 = 0) (h_a_9_17 : ar S 9 17 = 0) (h_a_9_27 : ar S 9 27 = 0) (h_a_9_37 : ar S 9 37 = 0) (hr_p0 : 1 ≤ p0.toInt ∧ p0.toInt ≤ 3) (hr_p1 : 1 ≤ p1.toInt ∧ p1.toInt ≤ 6) (hr_p2 : 2 ≤ p2.toInt ∧ p2.toInt ≤ 7) : Ct l D cy T0 tB tE yX11_gain cX11_gain 7 (some .int) 5 117 0 0 (cw cy tE a rw S) [.ref (a 0), .int 1, .int p0, .int p1, .int p2] (QI D (U := GS) (fun r u => (((0 ≤ p2.toInt) ∧ (((0 < ((fi (su (si (su (su (sv (sa (si (si (si (si S 24 1) 19 p0) 20 p1) 21 7) 13 (fil 1024 0 (ar (si (si (si (si S 24 1) 19 p0) 20 p1) 21 7) 13))) 2 0 4128768) 11 0 (-1)) 12 0 (-1)) 25 1) 13 978 1) 20) : Int32).toInt))) ∧ (p2.toInt ≠ 0) ∧ (p2.toInt ≠ 1)) ∧ (-100) = r ∧ (si (su (si (su (su (sv (sa (si (si (si (si S 24 1) 19 p0) 20 p1) 21 7) 13 (fil 1024 0 (ar (si (si (si (si S 24 1) 19 p0) 20 p1) 21 7) 13))) 2 0 4128768) 11 0 (-1)) 12 0 (-1)) 25 1) 13 978 1) 23 1) = u) ∨ (((0 ≤ p2.toInt) ∧ (((((fi (su (si (su (su (sv (sa (si (si (si (si S 24 1) 19 p0) 20 p1) 21 7) 13 (fil 1024 0 (ar (si (si (si (si S 24 1) 19 p0) 20 p1) 21 7) 13))) 2 0 4128768) 11 0 (-1)) 12 0 (-1)) 25 1) 13 978 1) 20) : Int32).toInt ≤ 0))) ∧ (p2.toInt ≠ 0) ∧ (p2.toInt ≠ 1)) ∧ (-100) = r ∧ (su (si (su (su (sv (sa (si (si (si (si S 24 1) 19 p0) 20 p1) 21 7) 13 (fil 1024 0 (ar (si (si (si (si S 24 1) 19 p0) 20 p1) 21 7) 13))) 2 0 4128768) 11 0 (-1)) 12 0 (-1)) 25 1) 13 978 1) = u)) (cw cy tE a rw)) := by
  refine Ct.ofZ RX11 "gain" [(0, .ref (a 0)), (1, .int 1), (2, .int p0), (3, .int p1), (4, .int p2)] rfl rfl rfl rfl (Nat.le_of_ble_eq_true rfl) ?_
  intro p e R s m args below meth c A b
  refine z_iload_n b dX11_gain_0 rfl rfl ?_
  refine z_calli b (z_runS (As := [.int 1]) (st := []) b (c_X11_isPerson_4 S ) cf_X11_isPerson wm_X11_69 ws_X11_isPerson dX11_gain_1 rfl (Nat.le_of_ble_eq_true rfl) ⟨by decide, by decide, by decide, by decide⟩) (fun r12776 u12777 h12775 => ?_)
  obtain ⟨rfl, rfl⟩ := h12775
  refine z_if_eq_f (tgt := 26) b dX11_gain_4 (by decide) (by decide) ?_
  refine z_iload_n b dX11_gain_7 rfl rfl ?_
  refine z_calli b (z_runS (As := [.int p0]) (st := []) b (c_X11_areLaws_3 S p0 ⟨by omega, by omega⟩) cf_X11_areLaws wm_X11_181 ws_X11_areLaws dX11_gain_8 rfl (Nat.le_of_ble_eq_true rfl) ⟨by decide, by decide, by decide, by decide⟩) (fun r12779 u12780 h12778 => ?_)
  obtain ⟨rfl, rfl⟩ := h12778
  refine z_if_eq_f (tgt := 26) b dX11_gain_11 (by decide) (by decide) ?_
  refine z_iload_n b dX11_gain_14 rfl rfl ?_
  refine z_calli b (z_runS (As := [.int p1]) (st := []) b (c_X11_isDepth_3 S p1 ⟨by omega, by omega⟩) cf_X11_isDepth wm_X11_203 ws_X11_isDepth dX11_gain_15 rfl (Nat.le_of_ble_eq_true rfl) ⟨by decide, by decide, by decide, by decide⟩) (fun r12782 u12783 h12781 => ?_)
  obtain ⟨rfl, rfl⟩ := h12781
  refine z_if_eq_f (tgt := 26) b dX11_gain_18 (by decide) (by decide) ?_
  refine z_iload b dX11_gain_21 rfl ?_
  refine y_if_ge (tgt := 29) (xl := p2.toInt) b rfl dX11_gain_23 (by decide) (fun c12784 => ?_) (fun c12784 => ?_)
  · refine z_aload_n b dX11_gain_29 rfl rfl ?_
    refine z_get (q0 := 0) (k9 := 6) (v := .ref (a 25)) b (cw_0 cy tE a rw S) rfl in_X11 (by decide) wf_X11_52 rfl dX11_gain_30 ?_
    refine z_iload_n b dX11_gain_33 rfl rfl ?_
    refine z_iload_n b dX11_gain_34 rfl rfl ?_
    refine z_bipush (v := 7) b dX11_gain_35 (by decide) ?_
    refine z_iconst (v := 0) b dX11_gain_37 (by decide) ?_
    refine z_callv b (z_runV (q0 := 25) (As := [.int p0, .int p1, .int 7, .int 0]) (st := []) b (c_X8_begin_2 S p0 p1 h_i_19 h_i_24 h_i_22 h_i_18 h_i_25 h_i_23 h_i_26 h_a_4_50 h_a_4_40 h_a_4_41 h_a_4_42 h_a_4_0 h_a_4_11 h_a_4_21 h_a_4_31 h_a_4_12 h_a_4_22 h_a_4_32 h_a_4_1 h_a_4_13 h_a_4_23 h_a_4_33 h_a_4_15 h_a_4_25 h_a_4_35 h_a_4_2 h_a_4_16 h_a_4_26 h_a_4_36 h_a_4_17 h_a_4_27 h_a_4_37 h_a_10_0 ⟨by omega, by omega⟩ ⟨by omega, by omega⟩) cf_X8_begin (cw_25 cy tE a rw S) rfl wm_X11_206 wi_X8_begin ws_X8_begin dX11_gain_38 rfl (Nat.le_of_ble_eq_true rfl) ⟨by decide, by decide, by decide, by decide⟩) (fun u12787 h12785 => ?_)
    obtain rfl := h12785
    refine z_aload_n b dX11_gain_41 rfl rfl ?_
    refine z_get (q0 := 0) (k9 := 6) (v := .ref (a 25)) b (cw_0 cy tE a rw (su (si (su (su (sv (sa (si (si (si (si S 24 1) 19 p0) 20 p1) 21 7) 13 (fil 1024 0 (ar (si (si (si (si S 24 1) 19 p0) 20 p1) 21 7) 13))) 2 0 4128768) 11 0 (-1)) 12 0 (-1)) 25 1) 13 978 1)) rfl in_X11 (by decide) wf_X11_52 rfl dX11_gain_42 ?_
    refine z_callv b (z_runV (q0 := 25) (As := []) (st := []) b (c_X8_finish_2 (su (si (su (su (sv (sa (si (si (si (si S 24 1) 19 p0) 20 p1) 21 7) 13 (fil 1024 0 (ar (si (si (si (si S 24 1) 19 p0) 20 p1) 21 7) 13))) 2 0 4128768) 11 0 (-1)) 12 0 (-1)) 25 1) 13 978 1) h_i_26 h_i_23 rfl h_a_10_0 rfl h_a_9_50 h_a_9_40 h_a_9_41 h_a_9_42 h_a_9_0 h_a_9_11 h_a_9_21 h_a_9_31 h_a_9_12 h_a_9_22 h_a_9_32 h_a_9_1 h_a_9_13 h_a_9_23 h_a_9_33 h_a_9_15 h_a_9_25 h_a_9_35 h_a_9_2 h_a_9_16 h_a_9_26 h_a_9_36 h_a_9_17 h_a_9_27 h_a_9_37 h_i_18) cf_X8_finish (cw_25 cy tE a rw (su (si (su (su (sv (sa (si (si (si (si S 24 1) 19 p0) 20 p1) 21 7) 13 (fil 1024 0 (ar (si (si (si (si S 24 1) 19 p0) 20 p1) 21 7) 13))) 2 0 4128768) 11 0 (-1)) 12 0 (-1)) 25 1) 13 978 1)) rfl wm_X11_232 wi_X8_finish ws_X8_finish dX11_gain_45 rfl (Nat.le_of_ble_eq_true rfl) ⟨by decide, by decide, by decide, by decide⟩) (fun u12790 h12788 => ?_)
    rcases h12788 with ⟨c12791, rfl⟩ | ⟨c12792, rfl⟩
    · refine z_aload_n b dX11_gain_48 rfl rfl ?_
      refine z_get (q0 := 0) (k9 := 6) (v := .ref (a 25)) b (cw_0 cy tE a rw (si (su (si (su (su (sv (sa (si (si (si (si S 24 1) 19 p0) 20 p1) 21 7) 13 (fil 1024 0 (ar (si (si (si (si S 24 1) 19 p0) 20 p1) 21 7) 13))) 2 0 4128768) 11 0 (-1)) 12 0 (-1)) 25 1) 13 978 1) 23 1)) rfl in_X11 (by decide) wf_X11_52 rfl dX11_gain_49 ?_
      refine z_get (q0 := 25) (k9 := 18) (v := .int (fi (si (su (si (su (su (sv (sa (si (si (si (si S 24 1) 19 p0) 20 p1) 21 7) 13 (fil 1024 0 (ar (si (si (si (si S 24 1) 19 p0) 20 p1) 21 7) 13))) 2 0 4128768) 11 0 (-1)) 12 0 (-1)) 25 1) 13 978 1) 23 1) 26)) b (cw_25 cy tE a rw (si (su (si (su (su (sv (sa (si (si (si (si S 24 1) 19 p0) 20 p1) 21 7) 13 (fil 1024 0 (ar (si (si (si (si S 24 1) 19 p0) 20 p1) 21 7) 13))) 2 0 4128768) 11 0 (-1)) 12 0 (-1)) 25 1) 13 978 1) 23 1)) rfl in_X8 (by decide) wf_X11_214 rfl dX11_gain_52 ?_
      refine z_eqi h_i_26 ?_
      refine z_if_eq_t (tgt := 61) b dX11_gain_55 (by decide) (by decide) ?_
      refine z_aload_n b dX11_gain_61 rfl rfl ?_
      refine z_get (q0 := 0) (k9 := 6) (v := .ref (a 25)) b (cw_0 cy tE a rw (si (su (si (su (su (sv (sa (si (si (si (si S 24 1) 19 p0) 20 p1) 21 7) 13 (fil 1024 0 (ar (si (si (si (si S 24 1) 19 p0) 20 p1) 21 7) 13))) 2 0 4128768) 11 0 (-1)) 12 0 (-1)) 25 1) 13 978 1) 23 1)) rfl in_X11 (by decide) wf_X11_52 rfl dX11_gain_62 ?_
      refine z_iload_n b dX11_gain_65 rfl rfl ?_
      refine z_calli b (z_runV (q0 := 25) (As := [.int 1]) (st := []) b (c_X8_richest_2 (si (su (si (su (su (sv (sa (si (si (si (si S 24 1) 19 p0) 20 p1) 21 7) 13 (fil 1024 0 (ar (si (si (si (si S 24 1) 19 p0) 20 p1) 21 7) 13))) 2 0 4128768) 11 0 (-1)) 12 0 (-1)) 25 1) 13 978 1) 23 1) rfl rfl h_a_9_50 h_a_9_40 h_a_9_41 h_a_9_42 h_a_9_0 h_a_9_11 h_a_9_21 h_a_9_31 h_a_9_12 h_a_9_22 h_a_9_32 h_a_9_1 h_a_9_13 h_a_9_23 h_a_9_33 h_a_9_15 h_a_9_25 h_a_9_35 h_a_9_2 h_a_9_16 h_a_9_26 h_a_9_36 h_a_9_17 h_a_9_27 h_a_9_37) cf_X8_richest (cw_25 cy tE a rw (si (su (si (su (su (sv (sa (si (si (si (si S 24 1) 19 p0) 20 p1) 21 7) 13 (fil 1024 0 (ar (si (si (si (si S 24 1) 19 p0) 20 p1) 21 7) 13))) 2 0 4128768) 11 0 (-1)) 12 0 (-1)) 25 1) 13 978 1) 23 1)) rfl wm_X11_238 wi_X8_richest ws_X8_richest dX11_gain_66 rfl (Nat.le_of_ble_eq_true rfl) ⟨by decide, by decide, by decide, by decide⟩) (fun r12794 u12795 h12793 => ?_)
      obtain ⟨rfl, rfl⟩ := h12793
      refine z_istore (lv' := [(5, .int 0), (0, .ref (a 0)), (1, .int 1), (2, .int p0), (3, .int p1), (4, .int p2)]) b dX11_gain_69 (by decide) rfl ?_
      refine z_iload b dX11_gain_71 rfl ?_
      refine y_if_ne (tgt := 87) (xl := p2.toInt) b rfl dX11_gain_73 (by decide) (fun c12796 => ?_) (fun c12796 => ?_)
      · refine z_iload b dX11_gain_87 rfl ?_
        refine z_iconst (v := 1) b dX11_gain_89 (by decide) ?_
        refine y_icmp_ne (tgt := 103) (xl := p2.toInt) (yl := 1) b rfl (by decide) dX11_gain_90 (by decide) (fun c12797 => ?_) (fun c12797 => ?_)
        · refine z_aload_n b dX11_gain_103 rfl rfl ?_
          refine z_get (q0 := 0) (k9 := 6) (v := .ref (a 25)) b (cw_0 cy tE a rw (si (su (si (su (su (sv (sa (si (si (si (si S 24 1) 19 p0) 20 p1) 21 7) 13 (fil 1024 0 (ar (si (si (si (si S 24 1) 19 p0) 20 p1) 21 7) 13))) 2 0 4128768) 11 0 (-1)) 12 0 (-1)) 25 1) 13 978 1) 23 1)) rfl in_X11 (by decide) wf_X11_52 rfl dX11_gain_104 ?_
          refine z_iload b dX11_gain_107 rfl ?_
          refine z_iload b dX11_gain_109 rfl ?_
          refine z_iconst (v := 2) b dX11_gain_111 (by decide) ?_
          refine z_isub b dX11_gain_112 rfl ?_
          have f12798 : ((p2 - 2) : Int32).toInt = p2.toInt + (-2) := zisub (k := 2) (by decide) (by omega) (by omega)
          refine z_calli b (z_runV (q0 := 25) (As := [.int 0, .int (p2 - 2)]) (st := []) b (c_X8_code (si (su (si (su (su (sv (sa (si (si (si (si S 24 1) 19 p0) 20 p1) 21 7) 13 (fil 1024 0 (ar (si (si (si (si S 24 1) 19 p0) 20 p1) 21 7) 13))) 2 0 4128768) 11 0 (-1)) 12 0 (-1)) 25 1) 13 978 1) 23 1) (p2 - 2) rfl h_a_10_0 ⟨by omega, by omega⟩) cf_X8_code (cw_25 cy tE a rw (si (su (si (su (su (sv (sa (si (si (si (si S 24 1) 19 p0) 20 p1) 21 7) 13 (fil 1024 0 (ar (si (si (si (si S 24 1) 19 p0) 20 p1) 21 7) 13))) 2 0 4128768) 11 0 (-1)) 12 0 (-1)) 25 1) 13 978 1) 23 1)) rfl wm_X11_219 wi_X8_code ws_X8_code dX11_gain_113 rfl (Nat.le_of_ble_eq_true rfl) ⟨by decide, by decide, by decide, by decide⟩) (fun r12800 u12801 h12799 => ?_)
          obtain ⟨rfl, rfl⟩ := h12799
          refine z_istore (lv' := [(6, .int (-1)), (5, .int 0), (0, .ref (a 0)), (1, .int 1), (2, .int p0), (3, .int p1), (4, .int p2)]) b dX11_gain_116 (by decide) rfl ?_
          refine z_iload b dX11_gain_118 rfl ?_
          refine z_iconst (v := (-1)) b dX11_gain_120 (by decide) ?_
          refine z_icmp_ne_f (tgt := 129) b dX11_gain_121 (by decide) (by decide) ?_
          refine z_bipush (v := (-100)) b dX11_gain_124 (by decide) ?_
          refine z_goto (tgt := 131) b dX11_gain_126 (by decide) ?_
          exact z_iret (u := (si (su (si (su (su (sv (sa (si (si (si (si S 24 1) 19 p0) 20 p1) 21 7) 13 (fil 1024 0 (ar (si (si (si (si S 24 1) 19 p0) 20 p1) 21 7) 13))) 2 0 4128768) 11 0 (-1)) 12 0 (-1)) 25 1) 13 978 1) 23 1)) b rfl dX11_gain_131 (Or.inl ⟨⟨c12784, c12791, c12796, c12797⟩, rfl, rfl⟩) rfl (by decide) (by decide)
        · exfalso; omega
      · exfalso; omega
    · refine z_aload_n b dX11_gain_48 rfl rfl ?_
      refine z_get (q0 := 0) (k9 := 6) (v := .ref (a 25)) b (cw_0 cy tE a rw (su (si (su (su (sv (sa (si (si (si (si S 24 1) 19 p0) 20 p1) 21 7) 13 (fil 1024 0 (ar (si (si (si (si S 24 1) 19 p0) 20 p1) 21 7) 13))) 2 0 4128768) 11 0 (-1)) 12 0 (-1)) 25 1) 13 978 1)) rfl in_X11 (by decide) wf_X11_52 rfl dX11_gain_49 ?_
      refine z_get (q0 := 25) (k9 := 18) (v := .int (fi (su (si (su (su (sv (sa (si (si (si (si S 24 1) 19 p0) 20 p1) 21 7) 13 (fil 1024 0 (ar (si (si (si (si S 24 1) 19 p0) 20 p1) 21 7) 13))) 2 0 4128768) 11 0 (-1)) 12 0 (-1)) 25 1) 13 978 1) 26)) b (cw_25 cy tE a rw (su (si (su (su (sv (sa (si (si (si (si S 24 1) 19 p0) 20 p1) 21 7) 13 (fil 1024 0 (ar (si (si (si (si S 24 1) 19 p0) 20 p1) 21 7) 13))) 2 0 4128768) 11 0 (-1)) 12 0 (-1)) 25 1) 13 978 1)) rfl in_X8 (by decide) wf_X11_214 rfl dX11_gain_52 ?_
      refine z_eqi h_i_26 ?_
      refine z_if_eq_t (tgt := 61) b dX11_gain_55 (by decide) (by decide) ?_
      refine z_aload_n b dX11_gain_61 rfl rfl ?_
      refine z_get (q0 := 0) (k9 := 6) (v := .ref (a 25)) b (cw_0 cy tE a rw (su (si (su (su (sv (sa (si (si (si (si S 24 1) 19 p0) 20 p1) 21 7) 13 (fil 1024 0 (ar (si (si (si (si S 24 1) 19 p0) 20 p1) 21 7) 13))) 2 0 4128768) 11 0 (-1)) 12 0 (-1)) 25 1) 13 978 1)) rfl in_X11 (by decide) wf_X11_52 rfl dX11_gain_62 ?_
      refine z_iload_n b dX11_gain_65 rfl rfl ?_
      refine z_calli b (z_runV (q0 := 25) (As := [.int 1]) (st := []) b (c_X8_richest_2 (su (si (su (su (sv (sa (si (si (si (si S 24 1) 19 p0) 20 p1) 21 7) 13 (fil 1024 0 (ar (si (si (si (si S 24 1) 19 p0) 20 p1) 21 7) 13))) 2 0 4128768) 11 0 (-1)) 12 0 (-1)) 25 1) 13 978 1) rfl rfl h_a_9_50 h_a_9_40 h_a_9_41 h_a_9_42 h_a_9_0 h_a_9_11 h_a_9_21 h_a_9_31 h_a_9_12 h_a_9_22 h_a_9_32 h_a_9_1 h_a_9_13 h_a_9_23 h_a_9_33 h_a_9_15 h_a_9_25 h_a_9_35 h_a_9_2 h_a_9_16 h_a_9_26 h_a_9_36 h_a_9_17 h_a_9_27 h_a_9_37) cf_X8_richest (cw_25 cy tE a rw (su (si (su (su (sv (sa (si (si (si (si S 24 1) 19 p0) 20 p1) 21 7) 13 (fil 1024 0 (ar (si (si (si (si S 24 1) 19 p0) 20 p1) 21 7) 13))) 2 0 4128768) 11 0 (-1)) 12 0 (-1)) 25 1) 13 978 1)) rfl wm_X11_238 wi_X8_richest ws_X8_richest dX11_gain_66 rfl (Nat.le_of_ble_eq_true rfl) ⟨by decide, by decide, by decide, by decide⟩) (fun r12803 u12804 h12802 => ?_)
      obtain ⟨rfl, rfl⟩ := h12802
      refine z_istore (lv' := [(5, .int 0), (0, .ref (a 0)), (1, .int 1), (2, .int p0), (3, .int p1), (4, .int p2)]) b dX11_gain_69 (by decide) rfl ?_
      refine z_iload b dX11_gain_71 rfl ?_
      refine y_if_ne (tgt := 87) (xl := p2.toInt) b rfl dX11_gain_73 (by decide) (fun c12805 => ?_) (fun c12805 => ?_)
      · refine z_iload b dX11_gain_87 rfl ?_
        refine z_iconst (v := 1) b dX11_gain_89 (by decide) ?_
        refine y_icmp_ne (tgt := 103) (xl := p2.toInt) (yl := 1) b rfl (by decide) dX11_gain_90 (by decide) (fun c12806 => ?_) (fun c12806 => ?_)
        · refine z_aload_n b dX11_gain_103 rfl rfl ?_
          refine z_get (q0 := 0) (k9 := 6) (v := .ref (a 25)) b (cw_0 cy tE a rw (su (si (su (su (sv (sa (si (si (si (si S 24 1) 19 p0) 20 p1) 21 7) 13 (fil 1024 0 (ar (si (si (si (si S 24 1) 19 p0) 20 p1) 21 7) 13))) 2 0 4128768) 11 0 (-1)) 12 0 (-1)) 25 1) 13 978 1)) rfl in_X11 (by decide) wf_X11_52 rfl dX11_gain_104 ?_
          refine z_iload b dX11_gain_107 rfl ?_
          refine z_iload b dX11_gain_109 rfl ?_
          refine z_iconst (v := 2) b dX11_gain_111 (by decide) ?_
          refine z_isub b dX11_gain_112 rfl ?_
          have f12807 : ((p2 - 2) : Int32).toInt = p2.toInt + (-2) := zisub (k := 2) (by decide) (by omega) (by omega)
          refine z_calli b (z_runV (q0 := 25) (As := [.int 0, .int (p2 - 2)]) (st := []) b (c_X8_code (su (si (su (su (sv (sa (si (si (si (si S 24 1) 19 p0) 20 p1) 21 7) 13 (fil 1024 0 (ar (si (si (si (si S 24 1) 19 p0) 20 p1) 21 7) 13))) 2 0 4128768) 11 0 (-1)) 12 0 (-1)) 25 1) 13 978 1) (p2 - 2) rfl h_a_10_0 ⟨by omega, by omega⟩) cf_X8_code (cw_25 cy tE a rw (su (si (su (su (sv (sa (si (si (si (si S 24 1) 19 p0) 20 p1) 21 7) 13 (fil 1024 0 (ar (si (si (si (si S 24 1) 19 p0) 20 p1) 21 7) 13))) 2 0 4128768) 11 0 (-1)) 12 0 (-1)) 25 1) 13 978 1)) rfl wm_X11_219 wi_X8_code ws_X8_code dX11_gain_113 rfl (Nat.le_of_ble_eq_true rfl) ⟨by decide, by decide, by decide, by decide⟩) (fun r12809 u12810 h12808 => ?_)
          obtain ⟨rfl, rfl⟩ := h12808
          refine z_istore (lv' := [(6, .int (-1)), (5, .int 0), (0, .ref (a 0)), (1, .int 1), (2, .int p0), (3, .int p1), (4, .int p2)]) b dX11_gain_116 (by decide) rfl ?_
          refine z_iload b dX11_gain_118 rfl ?_
          refine z_iconst (v := (-1)) b dX11_gain_120 (by decide) ?_
          refine z_icmp_ne_f (tgt := 129) b dX11_gain_121 (by decide) (by decide) ?_
          refine z_bipush (v := (-100)) b dX11_gain_124 (by decide) ?_
          refine z_goto (tgt := 131) b dX11_gain_126 (by decide) ?_
          exact z_iret (u := (su (si (su (su (sv (sa (si (si (si (si S 24 1) 19 p0) 20 p1) 21 7) 13 (fil 1024 0 (ar (si (si (si (si S 24 1) 19 p0) 20 p1) 21 7) 13))) 2 0 4128768) 11 0 (-1)) 12 0 (-1)) 25 1) 13 978 1)) b rfl dX11_gain_131 (Or.inr ⟨⟨c12784, c12792, c12805, c12806⟩, rfl, rfl⟩) rfl (by decide) (by decide)
        · exfalso; omega
      · exfalso; omega
  · exfalso; omega

set_option maxHeartbeats 4000000 in
set_option maxRecDepth 100000 in
theorem c_X12_gain_33 {l : Launch} {D : va_G} {cy : Nat → ClassId} {T0 tB tE : Nat} {a : Nat → Nat} (S : GS) (p0 : Int32) (p1 : Int32) (p2 : Int32) (h_i_21 : fi S 21 = 0) (h_i_23 : fi S 23 = 0) (h_l_0 : fl S 0 = 1649317774848) (h_a_29_992 : ar S 29 992 = (-1)) (h_a_28_0 : ar S 28 0 = 0) (h_a_7_0 : ar S 7 0 = 0) (h_a_7_1 : ar S 7 1 = 0) (h_a_4_7 : ar S 4 7 = 0) (h_a_1_7 : ar S 1 7 = 0) (h_a_4_6 : ar S 4 6 = 0) (h_a_1_6 : ar S 1 6 = 0) (h_a_3_6 : ar S 3 6 = 0) (h_a_3_2 : ar S 3 2 = 0) (h_a_2_2 : ar S 2 2 = 3) (h_a_0_2 : ar S 0 2 = 0) (h_a_4_3 : ar S 4 3 = 0) (h_a_1_3 : ar S 1 3 = 0) (h_a_4_5 : ar S 4 5 = 0) (h_a_1_5 : ar S 1 5 = 0) (h_a_3_5 : ar S 3 5 = 0) (h_a_3_7 : ar S 3 7 = 0) (h_a_2_1 : ar S 2 1 = 3) (h_a_0_1 : ar S 0 1 = 0) (h_a_4_2 : ar S 4 2 = 0) (h_a_1_2 : ar S 1 2 = 0) (h_a_4_1 : ar S 4 1 = 0) (h_a_1_1 : ar S 1 1 = 0) (h_a_3_1 : ar S 3 1 = 0) (h_a_3_3 : ar S 3 3 = 0) (h_a_2_0 : ar S 2 0 = 3) (h_a_0_0 : ar S 0 0 = 0) (h_i_0 : fi S 0 = 0) (hr_p0 : 1 ≤ p0.toInt ∧ p0.toInt ≤ 3) (hr_p1 : 1 ≤ p1.toInt ∧ p1.toInt ≤ 6) (hr_p2 : 2 ≤ p2.toInt ∧ p2.toInt ≤ 7) : Ct l D cy T0 tB tE yX12_gain cX12_gain 9 (some .int) 4 99 0 0 (mw cy a S) [.ref (a 0), .int 1, .int p0, .int p1, .int p2] (QI D (U := GS) (fun r u => (-100) = r ∧ (si (su (su (sv (su (su (si S 22 (-1)) 29 992 0) 30 0 992) 0 0 1649317774848) 26 0 (-1)) 27 0 (-1)) 21 1) = u) (mw cy a)) := by
  refine Ct.ofZ RX12 "gain" [(0, .ref (a 0)), (1, .int 1), (2, .int p0), (3, .int p1), (4, .int p2)] rfl rfl rfl rfl (Nat.le_of_ble_eq_true rfl) ?_
  intro p e R s m args below meth c A b
  refine z_iload_n b dX12_gain_0 rfl rfl ?_
  refine z_calli b (z_runS (As := [.int 1]) (st := []) b (c_X12_isOne_4 S ) cf_X12_isOne wm_X12_170 ws_X12_isOne dX12_gain_1 rfl (Nat.le_of_ble_eq_true rfl) ⟨by decide, by decide, by decide, by decide⟩) (fun r12812 u12813 h12811 => ?_)
  obtain ⟨rfl, rfl⟩ := h12811
  refine z_if_eq_f (tgt := 27) b dX12_gain_4 (by decide) (by decide) ?_
  refine z_aload_n b dX12_gain_7 rfl rfl ?_
  refine z_iload_n b dX12_gain_8 rfl rfl ?_
  refine z_iload_n b dX12_gain_9 rfl rfl ?_
  refine z_calli b (z_runV (q0 := 0) (As := [.int p0, .int p1]) (st := []) b (c_X12_canSearch_5 S p0 p1 ⟨by omega, by omega⟩ ⟨by omega, by omega⟩) cf_X12_canSearch (mw_0 cy a S) rfl wm_X12_433 wi_X12_canSearch ws_X12_canSearch dX12_gain_10 rfl (Nat.le_of_ble_eq_true rfl) ⟨by decide, by decide, by decide, by decide⟩) (fun r12815 u12816 h12814 => ?_)
  obtain ⟨rfl, rfl⟩ := h12814
  refine z_if_eq_f (tgt := 27) b dX12_gain_13 (by decide) (by decide) ?_
  refine z_iload b dX12_gain_16 rfl ?_
  refine z_iconst (v := 0) b dX12_gain_18 (by decide) ?_
  refine z_bipush (v := 7) b dX12_gain_19 (by decide) ?_
  refine z_calli b (z_runS (As := [.int p2, .int 0, .int 7]) (st := []) b (c_X12_isIn_61 S p2 ⟨by omega, by omega⟩) cf_X12_isIn wm_X12_1 ws_X12_isIn dX12_gain_21 rfl (Nat.le_of_ble_eq_true rfl) ⟨by decide, by decide, by decide, by decide⟩) (fun r12818 u12819 h12817 => ?_)
  obtain ⟨rfl, rfl⟩ := h12817
  refine z_if_ne_t (tgt := 30) b dX12_gain_24 (by decide) (by decide) ?_
  refine z_aload_n b dX12_gain_30 rfl rfl ?_
  refine z_iconst (v := (-1)) b dX12_gain_31 (by decide) ?_
  refine z_iload_n b dX12_gain_32 rfl rfl ?_
  refine z_iload_n b dX12_gain_33 rfl rfl ?_
  refine z_bipush (v := 7) b dX12_gain_34 (by decide) ?_
  refine z_iconst (v := 0) b dX12_gain_36 (by decide) ?_
  refine z_callv b (z_runV (q0 := 0) (As := [.int (-1), .int p0, .int p1, .int 7, .int 0]) (st := []) b (c_X12_searches_2 S p0 p1 h_i_21 h_i_23 h_l_0 h_a_29_992 h_a_28_0 h_a_7_0 h_a_7_1 ⟨by omega, by omega⟩ ⟨by omega, by omega⟩) cf_X12_searches (mw_0 cy a S) rfl wm_X12_436 wi_X12_searches ws_X12_searches dX12_gain_37 rfl (Nat.le_of_ble_eq_true rfl) ⟨by decide, by decide, by decide, by decide⟩) (fun u12822 h12820 => ?_)
  obtain rfl := h12820
  refine z_aload_n b dX12_gain_40 rfl rfl ?_
  refine z_get (q0 := 0) (k9 := 57) (v := .int (fi (si (su (su (sv (su (su (si S 22 (-1)) 29 992 0) 30 0 992) 0 0 1649317774848) 26 0 (-1)) 27 0 (-1)) 21 1) 23)) b (mw_0 cy a (si (su (su (sv (su (su (si S 22 (-1)) 29 992 0) 30 0 992) 0 0 1649317774848) 26 0 (-1)) 27 0 (-1)) 21 1)) rfl in_X12 (by decide) wf_X12_408 rfl dX12_gain_41 ?_
  refine z_eqi h_i_23 ?_
  refine z_if_eq_t (tgt := 50) b dX12_gain_44 (by decide) (by decide) ?_
  refine z_iconst (v := (-1)) b dX12_gain_50 (by decide) ?_
  refine z_istore (lv' := [(5, .int (-1)), (0, .ref (a 0)), (1, .int 1), (2, .int p0), (3, .int p1), (4, .int p2)]) b dX12_gain_51 (by decide) rfl ?_
  refine z_iconst (v := 0) b dX12_gain_53 (by decide) ?_
  refine z_istore (lv' := [(6, .int 0), (5, .int (-1)), (0, .ref (a 0)), (1, .int 1), (2, .int p0), (3, .int p1), (4, .int p2)]) b dX12_gain_54 (by decide) rfl ?_
  refine z_iconst (v := 0) b dX12_gain_56 (by decide) ?_
  refine z_istore (lv' := [(7, .int 0), (6, .int 0), (5, .int (-1)), (0, .ref (a 0)), (1, .int 1), (2, .int p0), (3, .int p1), (4, .int p2)]) b dX12_gain_57 (by decide) rfl ?_
  refine z_iload b dX12_gain_59 rfl ?_
  refine z_aload_n b dX12_gain_61 rfl rfl ?_
  refine z_get (q0 := 0) (k9 := 55) (v := .int 1) b (mw_0 cy a (si (su (su (sv (su (su (si S 22 (-1)) 29 992 0) 30 0 992) 0 0 1649317774848) 26 0 (-1)) 27 0 (-1)) 21 1)) rfl in_X12 (by decide) wf_X12_405 rfl dX12_gain_62 ?_
  refine z_icmp_ge_f (tgt := 147) b dX12_gain_65 (by decide) (by decide) ?_
  refine z_aload_n b dX12_gain_68 rfl rfl ?_
  refine z_aload_n b dX12_gain_69 rfl rfl ?_
  refine z_get (q0 := 0) (k9 := 49) (v := .ref (a 27)) b (mw_0 cy a (si (su (su (sv (su (su (si S 22 (-1)) 29 992 0) 30 0 992) 0 0 1649317774848) 26 0 (-1)) 27 0 (-1)) 21 1)) rfl in_X12 (by decide) wf_X12_97 rfl dX12_gain_70 ?_
  refine z_iload b dX12_gain_73 rfl ?_
  refine y_lald (q0 := 27) (j := 0) (v := 1649317774848) b (mw_27 cy a (si (su (su (sv (su (su (si S 22 (-1)) 29 992 0) 30 0 992) 0 0 1649317774848) 26 0 (-1)) 27 0 (-1)) 21 1)) (by decide) rfl dX12_gain_75 ?_
  refine z_callv b (z_runV (q0 := 0) (As := [.long 1649317774848]) (st := []) b (c_X12_takes (si (su (su (sv (su (su (si S 22 (-1)) 29 992 0) 30 0 992) 0 0 1649317774848) 26 0 (-1)) 27 0 (-1)) 21 1) h_a_4_7 h_a_1_7 h_a_4_6 h_a_1_6 h_a_3_6 h_a_3_2 h_a_2_2 h_a_0_2 h_a_4_3 h_a_1_3 h_a_4_5 h_a_1_5 h_a_3_5 h_a_3_7 h_a_2_1 h_a_0_1 h_a_4_2 h_a_1_2 h_a_4_1 h_a_1_1 h_a_3_1 h_a_3_3 h_a_2_0 h_a_0_0 h_i_0) cf_X12_takes (mw_0 cy a (si (su (su (sv (su (su (si S 22 (-1)) 29 992 0) 30 0 992) 0 0 1649317774848) 26 0 (-1)) 27 0 (-1)) 21 1)) rfl wm_X12_174 wi_X12_takes ws_X12_takes dX12_gain_76 rfl (Nat.le_of_ble_eq_true rfl) ⟨by decide, by decide, by decide, by decide⟩) (fun u12825 h12823 => ?_)
  obtain rfl := h12823
  refine z_aload_n b dX12_gain_79 rfl rfl ?_
  refine z_get (q0 := 0) (k9 := 0) (v := .ref (a 1)) b (mw_0 cy a (si (su (su (sv (su (su (si S 22 (-1)) 29 992 0) 30 0 992) 0 0 1649317774848) 26 0 (-1)) 27 0 (-1)) 21 1)) rfl in_X12 (by decide) wf_X12_13 rfl dX12_gain_80 ?_
  refine z_iload_n b dX12_gain_83 rfl rfl ?_
  refine y_iald (q0 := 1) (j := 1) (v := (ar (si (su (su (sv (su (su (si S 22 (-1)) 29 992 0) 30 0 992) 0 0 1649317774848) 26 0 (-1)) 27 0 (-1)) 21 1) 0 1)) b (mw_1 cy a (si (su (su (sv (su (su (si S 22 (-1)) 29 992 0) 30 0 992) 0 0 1649317774848) 26 0 (-1)) 27 0 (-1)) 21 1)) (by decide) rfl dX12_gain_84 ?_
  refine z_eqi h_a_0_1 ?_
  refine z_aload_n b dX12_gain_85 rfl rfl ?_
  refine z_get (q0 := 0) (k9 := 1) (v := .ref (a 2)) b (mw_0 cy a (si (su (su (sv (su (su (si S 22 (-1)) 29 992 0) 30 0 992) 0 0 1649317774848) 26 0 (-1)) 27 0 (-1)) 21 1)) rfl in_X12 (by decide) wf_X12_17 rfl dX12_gain_86 ?_
  refine z_iconst (v := 3) b dX12_gain_89 (by decide) ?_
  refine z_iload_n b dX12_gain_90 rfl rfl ?_
  refine z_imul (v := 3) b dX12_gain_91 (by decide) ?_
  refine z_iload_n b dX12_gain_92 rfl rfl ?_
  refine z_iconst (v := 0) b dX12_gain_93 (by decide) ?_
  refine z_calli b (z_runS (As := [.int 1, .int 0]) (st := [.int 3, .ref (a 2), .int 0]) b (c_X12_other_4 (si (su (su (sv (su (su (si S 22 (-1)) 29 992 0) 30 0 992) 0 0 1649317774848) 26 0 (-1)) 27 0 (-1)) 21 1) ) cf_X12_other wm_X12_160 ws_X12_other dX12_gain_94 rfl (Nat.le_of_ble_eq_true rfl) ⟨by decide, by decide, by decide, by decide⟩) (fun r12827 u12828 h12826 => ?_)
  obtain ⟨rfl, rfl⟩ := h12826
  refine z_iadd (v := 5) b dX12_gain_97 (by decide) ?_
  refine y_iald (q0 := 2) (j := 5) (v := (ar (si (su (su (sv (su (su (si S 22 (-1)) 29 992 0) 30 0 992) 0 0 1649317774848) 26 0 (-1)) 27 0 (-1)) 21 1) 1 5)) b (mw_2 cy a (si (su (su (sv (su (su (si S 22 (-1)) 29 992 0) 30 0 992) 0 0 1649317774848) 26 0 (-1)) 27 0 (-1)) 21 1)) (by decide) rfl dX12_gain_98 ?_
  refine z_eqi h_a_1_5 ?_
  refine z_isub (v := 0) b dX12_gain_99 (by decide) ?_
  refine z_aload_n b dX12_gain_100 rfl rfl ?_
  refine z_get (q0 := 0) (k9 := 1) (v := .ref (a 2)) b (mw_0 cy a (si (su (su (sv (su (su (si S 22 (-1)) 29 992 0) 30 0 992) 0 0 1649317774848) 26 0 (-1)) 27 0 (-1)) 21 1)) rfl in_X12 (by decide) wf_X12_17 rfl dX12_gain_101 ?_
  refine z_iconst (v := 3) b dX12_gain_104 (by decide) ?_
  refine z_iload_n b dX12_gain_105 rfl rfl ?_
  refine z_imul (v := 3) b dX12_gain_106 (by decide) ?_
  refine z_iload_n b dX12_gain_107 rfl rfl ?_
  refine z_iconst (v := 1) b dX12_gain_108 (by decide) ?_
  refine z_calli b (z_runS (As := [.int 1, .int 1]) (st := [.int 3, .ref (a 2), .int 0]) b (c_X12_other_3 (si (su (su (sv (su (su (si S 22 (-1)) 29 992 0) 30 0 992) 0 0 1649317774848) 26 0 (-1)) 27 0 (-1)) 21 1) ) cf_X12_other wm_X12_160 ws_X12_other dX12_gain_109 rfl (Nat.le_of_ble_eq_true rfl) ⟨by decide, by decide, by decide, by decide⟩) (fun r12830 u12831 h12829 => ?_)
  obtain ⟨rfl, rfl⟩ := h12829
  refine z_iadd (v := 3) b dX12_gain_112 (by decide) ?_
  refine y_iald (q0 := 2) (j := 3) (v := (ar (si (su (su (sv (su (su (si S 22 (-1)) 29 992 0) 30 0 992) 0 0 1649317774848) 26 0 (-1)) 27 0 (-1)) 21 1) 1 3)) b (mw_2 cy a (si (su (su (sv (su (su (si S 22 (-1)) 29 992 0) 30 0 992) 0 0 1649317774848) 26 0 (-1)) 27 0 (-1)) 21 1)) (by decide) rfl dX12_gain_113 ?_
  refine z_eqi h_a_1_3 ?_
  refine z_isub (v := 0) b dX12_gain_114 (by decide) ?_
  refine z_istore (lv' := [(8, .int 0), (7, .int 0), (6, .int 0), (5, .int (-1)), (0, .ref (a 0)), (1, .int 1), (2, .int p0), (3, .int p1), (4, .int p2)]) b dX12_gain_115 (by decide) rfl ?_
  refine z_iload b dX12_gain_117 rfl ?_
  refine z_iconst (v := (-1)) b dX12_gain_119 (by decide) ?_
  refine z_icmp_eq_t (tgt := 133) b dX12_gain_120 (by decide) (by decide) ?_
  refine z_iload b dX12_gain_133 rfl ?_
  refine z_istore (lv' := [(5, .int 0), (8, .int 0), (7, .int 0), (6, .int 0), (0, .ref (a 0)), (1, .int 1), (2, .int p0), (3, .int p1), (4, .int p2)]) b dX12_gain_135 (by decide) rfl ?_
  refine z_iload b dX12_gain_137 rfl ?_
  refine z_istore (lv' := [(6, .int 0), (5, .int 0), (8, .int 0), (7, .int 0), (0, .ref (a 0)), (1, .int 1), (2, .int p0), (3, .int p1), (4, .int p2)]) b dX12_gain_139 (by decide) rfl ?_
  refine z_iinc (k9 := 3) (v := 1) (lv' := [(7, .int 1), (6, .int 0), (5, .int 0), (8, .int 0), (0, .ref (a 0)), (1, .int 1), (2, .int p0), (3, .int p1), (4, .int p2)]) b dX12_gain_141 rfl (by decide) (by decide) rfl ?_
  refine z_goto (tgt := 59) b dX12_gain_144 (by decide) ?_
  refine z_iload b dX12_gain_59 rfl ?_
  refine z_aload_n b dX12_gain_61 rfl rfl ?_
  refine z_get (q0 := 0) (k9 := 55) (v := .int 1) b (mw_0 cy a (si (su (su (sv (su (su (si S 22 (-1)) 29 992 0) 30 0 992) 0 0 1649317774848) 26 0 (-1)) 27 0 (-1)) 21 1)) rfl in_X12 (by decide) wf_X12_405 rfl dX12_gain_62 ?_
  refine z_icmp_ge_t (tgt := 147) b dX12_gain_65 (by decide) (by decide) ?_
  refine z_iload b dX12_gain_147 rfl ?_
  refine z_iconst (v := 2) b dX12_gain_149 (by decide) ?_
  refine y_icmp_ge (tgt := 171) (xl := p2.toInt) (yl := 2) b rfl (by decide) dX12_gain_150 (by decide) (fun c12832 => ?_) (fun c12832 => ?_)
  · refine z_iload b dX12_gain_171 rfl ?_
    refine z_iconst (v := 2) b dX12_gain_173 (by decide) ?_
    refine z_isub b dX12_gain_174 rfl ?_
    have f12833 : ((p2 - 2) : Int32).toInt = p2.toInt + (-2) := zisub (k := 2) (by decide) (by omega) (by omega)
    refine z_aload_n b dX12_gain_175 rfl rfl ?_
    refine z_get (q0 := 0) (k9 := 52) (v := .ref (a 30)) b (mw_0 cy a (si (su (su (sv (su (su (si S 22 (-1)) 29 992 0) 30 0 992) 0 0 1649317774848) 26 0 (-1)) 27 0 (-1)) 21 1)) rfl in_X12 (by decide) wf_X12_107 rfl dX12_gain_176 ?_
    refine z_iload b dX12_gain_179 rfl ?_
    refine y_iald (q0 := 30) (j := 0) (v := (ar (si (su (su (sv (su (su (si S 22 (-1)) 29 992 0) 30 0 992) 0 0 1649317774848) 26 0 (-1)) 27 0 (-1)) 21 1) 28 0)) b (mw_30 cy a (si (su (su (sv (su (su (si S 22 (-1)) 29 992 0) 30 0 992) 0 0 1649317774848) 26 0 (-1)) 27 0 (-1)) 21 1)) (by decide) rfl dX12_gain_181 ?_
    refine z_eqi h_a_28_0 ?_
    refine y_icmp_ge (tgt := 198) (xl := ((p2 - 2) : Int32).toInt) (yl := 0) b rfl (by decide) dX12_gain_182 (by decide) (fun c12834 => ?_) (fun c12834 => ?_)
    · refine z_bipush (v := (-100)) b dX12_gain_198 (by decide) ?_
      exact z_iret (u := (si (su (su (sv (su (su (si S 22 (-1)) 29 992 0) 30 0 992) 0 0 1649317774848) 26 0 (-1)) 27 0 (-1)) 21 1)) b rfl dX12_gain_200 ⟨rfl, rfl⟩ rfl (by decide) (by decide)
    · exfalso; omega
  · exfalso; omega

set_option maxHeartbeats 4000000 in
set_option maxRecDepth 100000 in
theorem c_X11_gain_34 {l : Launch} {D : va_G} {cy : Nat → ClassId} {T0 tB tE : Nat} {a : Nat → Nat} {rw : Nat → Option Nat} (S : GS) (p0 : Int32) (p1 : Int32) (p2 : Int32) (h_i_19 : fi S 19 = 0) (h_i_24 : fi S 24 = 0) (h_i_22 : fi S 22 = 0) (h_i_18 : fi S 18 = 0) (h_i_25 : fi S 25 = 0) (h_i_23 : fi S 23 = 0) (h_i_26 : fi S 26 = 0) (h_a_4_50 : ar S 4 50 = 0) (h_a_4_40 : ar S 4 40 = 3) (h_a_4_41 : ar S 4 41 = 3) (h_a_4_42 : ar S 4 42 = 3) (h_a_4_0 : ar S 4 0 = 0) (h_a_4_11 : ar S 4 11 = 0) (h_a_4_21 : ar S 4 21 = 0) (h_a_4_31 : ar S 4 31 = 0) (h_a_4_12 : ar S 4 12 = 0) (h_a_4_22 : ar S 4 22 = 0) (h_a_4_32 : ar S 4 32 = 0) (h_a_4_1 : ar S 4 1 = 0) (h_a_4_13 : ar S 4 13 = 0) (h_a_4_23 : ar S 4 23 = 0) (h_a_4_33 : ar S 4 33 = 0) (h_a_4_15 : ar S 4 15 = 0) (h_a_4_25 : ar S 4 25 = 0) (h_a_4_35 : ar S 4 35 = 0) (h_a_4_2 : ar S 4 2 = 0) (h_a_4_16 : ar S 4 16 = 0) (h_a_4_26 : ar S 4 26 = 0) (h_a_4_36 : ar S 4 36 = 0) (h_a_4_17 : ar S 4 17 = 0) (h_a_4_27 : ar S 4 27 = 0) (h_a_4_37 : ar S 4 37 = 0) (h_a_10_0 : ar S 10 0 = 0) (h_a_9_50 : ar S 9 50 = 0) (h_a_9_40 : ar S 9 40 = 3) (h_a_9_41 : ar S 9 41 = 3) (h_a_9_42 : ar S 9 42 = 3) (h_a_9_0 : ar S 9 0 = 0) (h_a_9_11 : ar S 9 11 = 0) (h_a_9_21 : ar S 9 21 = 0) (h_a_9_31 : ar S 9 31 = 0) (h_a_9_12 : ar S 9 12 = 0) (h_a_9_22 : ar S 9 22 = 0) (h_a_9_32 : ar S 9 32 = 0) (h_a_9_1 : ar S 9 1 = 0) (h_a_9_13 : ar S 9 13 = 0) (h_a_9_23 : ar S 9 23 = 0) (h_a_9_33 : ar S 9 33 = 0) (h_a_9_15 : ar S 9 15 = 0) (h_a_9_25 : ar S 9 25 = 0) (h_a_9_35 : ar S 9 35 = 0) (h_a_9_2 : ar S 9 2 = 0) (h_a_9_16 : ar S 9 16 = 0) (h_a_9_26 : ar S 9 26 = 0) (h_a_9_36 : ar S 9 36 = 0) (h_a_9_17 : ar S 9 17 = 0) (h_a_9_27 : ar S 9 27 = 0) (h_a_9_37 : ar S 9 37 = 0) (hr_p0 : 1 ≤ p0.toInt ∧ p0.toInt ≤ 3) (hr_p1 : 1 ≤ p1.toInt ∧ p1.toInt ≤ 6) (hr_p2 : 8 ≤ p2.toInt ∧ p2.toInt ≤ 2147483647) : Ct l D cy T0 tB tE yX11_gain cX11_gain 7 (some .int) 5 117 0 0 (cw cy tE a rw S) [.ref (a 0), .int 1, .int p0, .int p1, .int p2] (QI D (U := GS) (fun r u => (((0 ≤ p2.toInt) ∧ (((0 < ((fi (su (si (su (su (sv (sa (si (si (si (si S 24 1) 19 p0) 20 p1) 21 7) 13 (fil 1024 0 (ar (si (si (si (si S 24 1) 19 p0) 20 p1) 21 7) 13))) 2 0 4128768) 11 0 (-1)) 12 0 (-1)) 25 1) 13 978 1) 20) : Int32).toInt))) ∧ (p2.toInt ≠ 0) ∧ (p2.toInt ≠ 1)) ∧ (-100) = r ∧ (si (su (si (su (su (sv (sa (si (si (si (si S 24 1) 19 p0) 20 p1) 21 7) 13 (fil 1024 0 (ar (si (si (si (si S 24 1) 19 p0) 20 p1) 21 7) 13))) 2 0 4128768) 11 0 (-1)) 12 0 (-1)) 25 1) 13 978 1) 23 1) = u) ∨ (((0 ≤ p2.toInt) ∧ (((((fi (su (si (su (su (sv (sa (si (si (si (si S 24 1) 19 p0) 20 p1) 21 7) 13 (fil 1024 0 (ar (si (si (si (si S 24 1) 19 p0) 20 p1) 21 7) 13))) 2 0 4128768) 11 0 (-1)) 12 0 (-1)) 25 1) 13 978 1) 20) : Int32).toInt ≤ 0))) ∧ (p2.toInt ≠ 0) ∧ (p2.toInt ≠ 1)) ∧ (-100) = r ∧ (su (si (su (su (sv (sa (si (si (si (si S 24 1) 19 p0) 20 p1) 21 7) 13 (fil 1024 0 (ar (si (si (si (si S 24 1) 19 p0) 20 p1) 21 7) 13))) 2 0 4128768) 11 0 (-1)) 12 0 (-1)) 25 1) 13 978 1) = u)) (cw cy tE a rw)) := by
  refine Ct.ofZ RX11 "gain" [(0, .ref (a 0)), (1, .int 1), (2, .int p0), (3, .int p1), (4, .int p2)] rfl rfl rfl rfl (Nat.le_of_ble_eq_true rfl) ?_
  intro p e R s m args below meth c A b
  refine z_iload_n b dX11_gain_0 rfl rfl ?_
  refine z_calli b (z_runS (As := [.int 1]) (st := []) b (c_X11_isPerson_4 S ) cf_X11_isPerson wm_X11_69 ws_X11_isPerson dX11_gain_1 rfl (Nat.le_of_ble_eq_true rfl) ⟨by decide, by decide, by decide, by decide⟩) (fun r12836 u12837 h12835 => ?_)
  obtain ⟨rfl, rfl⟩ := h12835
  refine z_if_eq_f (tgt := 26) b dX11_gain_4 (by decide) (by decide) ?_
  refine z_iload_n b dX11_gain_7 rfl rfl ?_
  refine z_calli b (z_runS (As := [.int p0]) (st := []) b (c_X11_areLaws_3 S p0 ⟨by omega, by omega⟩) cf_X11_areLaws wm_X11_181 ws_X11_areLaws dX11_gain_8 rfl (Nat.le_of_ble_eq_true rfl) ⟨by decide, by decide, by decide, by decide⟩) (fun r12839 u12840 h12838 => ?_)
  obtain ⟨rfl, rfl⟩ := h12838
  refine z_if_eq_f (tgt := 26) b dX11_gain_11 (by decide) (by decide) ?_
  refine z_iload_n b dX11_gain_14 rfl rfl ?_
  refine z_calli b (z_runS (As := [.int p1]) (st := []) b (c_X11_isDepth_3 S p1 ⟨by omega, by omega⟩) cf_X11_isDepth wm_X11_203 ws_X11_isDepth dX11_gain_15 rfl (Nat.le_of_ble_eq_true rfl) ⟨by decide, by decide, by decide, by decide⟩) (fun r12842 u12843 h12841 => ?_)
  obtain ⟨rfl, rfl⟩ := h12841
  refine z_if_eq_f (tgt := 26) b dX11_gain_18 (by decide) (by decide) ?_
  refine z_iload b dX11_gain_21 rfl ?_
  refine y_if_ge (tgt := 29) (xl := p2.toInt) b rfl dX11_gain_23 (by decide) (fun c12844 => ?_) (fun c12844 => ?_)
  · refine z_aload_n b dX11_gain_29 rfl rfl ?_
    refine z_get (q0 := 0) (k9 := 6) (v := .ref (a 25)) b (cw_0 cy tE a rw S) rfl in_X11 (by decide) wf_X11_52 rfl dX11_gain_30 ?_
    refine z_iload_n b dX11_gain_33 rfl rfl ?_
    refine z_iload_n b dX11_gain_34 rfl rfl ?_
    refine z_bipush (v := 7) b dX11_gain_35 (by decide) ?_
    refine z_iconst (v := 0) b dX11_gain_37 (by decide) ?_
    refine z_callv b (z_runV (q0 := 25) (As := [.int p0, .int p1, .int 7, .int 0]) (st := []) b (c_X8_begin_2 S p0 p1 h_i_19 h_i_24 h_i_22 h_i_18 h_i_25 h_i_23 h_i_26 h_a_4_50 h_a_4_40 h_a_4_41 h_a_4_42 h_a_4_0 h_a_4_11 h_a_4_21 h_a_4_31 h_a_4_12 h_a_4_22 h_a_4_32 h_a_4_1 h_a_4_13 h_a_4_23 h_a_4_33 h_a_4_15 h_a_4_25 h_a_4_35 h_a_4_2 h_a_4_16 h_a_4_26 h_a_4_36 h_a_4_17 h_a_4_27 h_a_4_37 h_a_10_0 ⟨by omega, by omega⟩ ⟨by omega, by omega⟩) cf_X8_begin (cw_25 cy tE a rw S) rfl wm_X11_206 wi_X8_begin ws_X8_begin dX11_gain_38 rfl (Nat.le_of_ble_eq_true rfl) ⟨by decide, by decide, by decide, by decide⟩) (fun u12847 h12845 => ?_)
    obtain rfl := h12845
    refine z_aload_n b dX11_gain_41 rfl rfl ?_
    refine z_get (q0 := 0) (k9 := 6) (v := .ref (a 25)) b (cw_0 cy tE a rw (su (si (su (su (sv (sa (si (si (si (si S 24 1) 19 p0) 20 p1) 21 7) 13 (fil 1024 0 (ar (si (si (si (si S 24 1) 19 p0) 20 p1) 21 7) 13))) 2 0 4128768) 11 0 (-1)) 12 0 (-1)) 25 1) 13 978 1)) rfl in_X11 (by decide) wf_X11_52 rfl dX11_gain_42 ?_
    refine z_callv b (z_runV (q0 := 25) (As := []) (st := []) b (c_X8_finish_2 (su (si (su (su (sv (sa (si (si (si (si S 24 1) 19 p0) 20 p1) 21 7) 13 (fil 1024 0 (ar (si (si (si (si S 24 1) 19 p0) 20 p1) 21 7) 13))) 2 0 4128768) 11 0 (-1)) 12 0 (-1)) 25 1) 13 978 1) h_i_26 h_i_23 rfl h_a_10_0 rfl h_a_9_50 h_a_9_40 h_a_9_41 h_a_9_42 h_a_9_0 h_a_9_11 h_a_9_21 h_a_9_31 h_a_9_12 h_a_9_22 h_a_9_32 h_a_9_1 h_a_9_13 h_a_9_23 h_a_9_33 h_a_9_15 h_a_9_25 h_a_9_35 h_a_9_2 h_a_9_16 h_a_9_26 h_a_9_36 h_a_9_17 h_a_9_27 h_a_9_37 h_i_18) cf_X8_finish (cw_25 cy tE a rw (su (si (su (su (sv (sa (si (si (si (si S 24 1) 19 p0) 20 p1) 21 7) 13 (fil 1024 0 (ar (si (si (si (si S 24 1) 19 p0) 20 p1) 21 7) 13))) 2 0 4128768) 11 0 (-1)) 12 0 (-1)) 25 1) 13 978 1)) rfl wm_X11_232 wi_X8_finish ws_X8_finish dX11_gain_45 rfl (Nat.le_of_ble_eq_true rfl) ⟨by decide, by decide, by decide, by decide⟩) (fun u12850 h12848 => ?_)
    rcases h12848 with ⟨c12851, rfl⟩ | ⟨c12852, rfl⟩
    · refine z_aload_n b dX11_gain_48 rfl rfl ?_
      refine z_get (q0 := 0) (k9 := 6) (v := .ref (a 25)) b (cw_0 cy tE a rw (si (su (si (su (su (sv (sa (si (si (si (si S 24 1) 19 p0) 20 p1) 21 7) 13 (fil 1024 0 (ar (si (si (si (si S 24 1) 19 p0) 20 p1) 21 7) 13))) 2 0 4128768) 11 0 (-1)) 12 0 (-1)) 25 1) 13 978 1) 23 1)) rfl in_X11 (by decide) wf_X11_52 rfl dX11_gain_49 ?_
      refine z_get (q0 := 25) (k9 := 18) (v := .int (fi (si (su (si (su (su (sv (sa (si (si (si (si S 24 1) 19 p0) 20 p1) 21 7) 13 (fil 1024 0 (ar (si (si (si (si S 24 1) 19 p0) 20 p1) 21 7) 13))) 2 0 4128768) 11 0 (-1)) 12 0 (-1)) 25 1) 13 978 1) 23 1) 26)) b (cw_25 cy tE a rw (si (su (si (su (su (sv (sa (si (si (si (si S 24 1) 19 p0) 20 p1) 21 7) 13 (fil 1024 0 (ar (si (si (si (si S 24 1) 19 p0) 20 p1) 21 7) 13))) 2 0 4128768) 11 0 (-1)) 12 0 (-1)) 25 1) 13 978 1) 23 1)) rfl in_X8 (by decide) wf_X11_214 rfl dX11_gain_52 ?_
      refine z_eqi h_i_26 ?_
      refine z_if_eq_t (tgt := 61) b dX11_gain_55 (by decide) (by decide) ?_
      refine z_aload_n b dX11_gain_61 rfl rfl ?_
      refine z_get (q0 := 0) (k9 := 6) (v := .ref (a 25)) b (cw_0 cy tE a rw (si (su (si (su (su (sv (sa (si (si (si (si S 24 1) 19 p0) 20 p1) 21 7) 13 (fil 1024 0 (ar (si (si (si (si S 24 1) 19 p0) 20 p1) 21 7) 13))) 2 0 4128768) 11 0 (-1)) 12 0 (-1)) 25 1) 13 978 1) 23 1)) rfl in_X11 (by decide) wf_X11_52 rfl dX11_gain_62 ?_
      refine z_iload_n b dX11_gain_65 rfl rfl ?_
      refine z_calli b (z_runV (q0 := 25) (As := [.int 1]) (st := []) b (c_X8_richest_2 (si (su (si (su (su (sv (sa (si (si (si (si S 24 1) 19 p0) 20 p1) 21 7) 13 (fil 1024 0 (ar (si (si (si (si S 24 1) 19 p0) 20 p1) 21 7) 13))) 2 0 4128768) 11 0 (-1)) 12 0 (-1)) 25 1) 13 978 1) 23 1) rfl rfl h_a_9_50 h_a_9_40 h_a_9_41 h_a_9_42 h_a_9_0 h_a_9_11 h_a_9_21 h_a_9_31 h_a_9_12 h_a_9_22 h_a_9_32 h_a_9_1 h_a_9_13 h_a_9_23 h_a_9_33 h_a_9_15 h_a_9_25 h_a_9_35 h_a_9_2 h_a_9_16 h_a_9_26 h_a_9_36 h_a_9_17 h_a_9_27 h_a_9_37) cf_X8_richest (cw_25 cy tE a rw (si (su (si (su (su (sv (sa (si (si (si (si S 24 1) 19 p0) 20 p1) 21 7) 13 (fil 1024 0 (ar (si (si (si (si S 24 1) 19 p0) 20 p1) 21 7) 13))) 2 0 4128768) 11 0 (-1)) 12 0 (-1)) 25 1) 13 978 1) 23 1)) rfl wm_X11_238 wi_X8_richest ws_X8_richest dX11_gain_66 rfl (Nat.le_of_ble_eq_true rfl) ⟨by decide, by decide, by decide, by decide⟩) (fun r12854 u12855 h12853 => ?_)
      obtain ⟨rfl, rfl⟩ := h12853
      refine z_istore (lv' := [(5, .int 0), (0, .ref (a 0)), (1, .int 1), (2, .int p0), (3, .int p1), (4, .int p2)]) b dX11_gain_69 (by decide) rfl ?_
      refine z_iload b dX11_gain_71 rfl ?_
      refine y_if_ne (tgt := 87) (xl := p2.toInt) b rfl dX11_gain_73 (by decide) (fun c12856 => ?_) (fun c12856 => ?_)
      · refine z_iload b dX11_gain_87 rfl ?_
        refine z_iconst (v := 1) b dX11_gain_89 (by decide) ?_
        refine y_icmp_ne (tgt := 103) (xl := p2.toInt) (yl := 1) b rfl (by decide) dX11_gain_90 (by decide) (fun c12857 => ?_) (fun c12857 => ?_)
        · refine z_aload_n b dX11_gain_103 rfl rfl ?_
          refine z_get (q0 := 0) (k9 := 6) (v := .ref (a 25)) b (cw_0 cy tE a rw (si (su (si (su (su (sv (sa (si (si (si (si S 24 1) 19 p0) 20 p1) 21 7) 13 (fil 1024 0 (ar (si (si (si (si S 24 1) 19 p0) 20 p1) 21 7) 13))) 2 0 4128768) 11 0 (-1)) 12 0 (-1)) 25 1) 13 978 1) 23 1)) rfl in_X11 (by decide) wf_X11_52 rfl dX11_gain_104 ?_
          refine z_iload b dX11_gain_107 rfl ?_
          refine z_iload b dX11_gain_109 rfl ?_
          refine z_iconst (v := 2) b dX11_gain_111 (by decide) ?_
          refine z_isub b dX11_gain_112 rfl ?_
          have f12858 : ((p2 - 2) : Int32).toInt = p2.toInt + (-2) := zisub (k := 2) (by decide) (by omega) (by omega)
          refine z_calli b (z_runV (q0 := 25) (As := [.int 0, .int (p2 - 2)]) (st := []) b (c_X8_code_2 (si (su (si (su (su (sv (sa (si (si (si (si S 24 1) 19 p0) 20 p1) 21 7) 13 (fil 1024 0 (ar (si (si (si (si S 24 1) 19 p0) 20 p1) 21 7) 13))) 2 0 4128768) 11 0 (-1)) 12 0 (-1)) 25 1) 13 978 1) 23 1) (p2 - 2) rfl h_a_10_0 ⟨by omega, by omega⟩) cf_X8_code (cw_25 cy tE a rw (si (su (si (su (su (sv (sa (si (si (si (si S 24 1) 19 p0) 20 p1) 21 7) 13 (fil 1024 0 (ar (si (si (si (si S 24 1) 19 p0) 20 p1) 21 7) 13))) 2 0 4128768) 11 0 (-1)) 12 0 (-1)) 25 1) 13 978 1) 23 1)) rfl wm_X11_219 wi_X8_code ws_X8_code dX11_gain_113 rfl (Nat.le_of_ble_eq_true rfl) ⟨by decide, by decide, by decide, by decide⟩) (fun r12860 u12861 h12859 => ?_)
          obtain ⟨rfl, rfl⟩ := h12859
          refine z_istore (lv' := [(6, .int (-1)), (5, .int 0), (0, .ref (a 0)), (1, .int 1), (2, .int p0), (3, .int p1), (4, .int p2)]) b dX11_gain_116 (by decide) rfl ?_
          refine z_iload b dX11_gain_118 rfl ?_
          refine z_iconst (v := (-1)) b dX11_gain_120 (by decide) ?_
          refine z_icmp_ne_f (tgt := 129) b dX11_gain_121 (by decide) (by decide) ?_
          refine z_bipush (v := (-100)) b dX11_gain_124 (by decide) ?_
          refine z_goto (tgt := 131) b dX11_gain_126 (by decide) ?_
          exact z_iret (u := (si (su (si (su (su (sv (sa (si (si (si (si S 24 1) 19 p0) 20 p1) 21 7) 13 (fil 1024 0 (ar (si (si (si (si S 24 1) 19 p0) 20 p1) 21 7) 13))) 2 0 4128768) 11 0 (-1)) 12 0 (-1)) 25 1) 13 978 1) 23 1)) b rfl dX11_gain_131 (Or.inl ⟨⟨c12844, c12851, c12856, c12857⟩, rfl, rfl⟩) rfl (by decide) (by decide)
        · exfalso; omega
      · exfalso; omega
    · refine z_aload_n b dX11_gain_48 rfl rfl ?_
      refine z_get (q0 := 0) (k9 := 6) (v := .ref (a 25)) b (cw_0 cy tE a rw (su (si (su (su (sv (sa (si (si (si (si S 24 1) 19 p0) 20 p1) 21 7) 13 (fil 1024 0 (ar (si (si (si (si S 24 1) 19 p0) 20 p1) 21 7) 13))) 2 0 4128768) 11 0 (-1)) 12 0 (-1)) 25 1) 13 978 1)) rfl in_X11 (by decide) wf_X11_52 rfl dX11_gain_49 ?_
      refine z_get (q0 := 25) (k9 := 18) (v := .int (fi (su (si (su (su (sv (sa (si (si (si (si S 24 1) 19 p0) 20 p1) 21 7) 13 (fil 1024 0 (ar (si (si (si (si S 24 1) 19 p0) 20 p1) 21 7) 13))) 2 0 4128768) 11 0 (-1)) 12 0 (-1)) 25 1) 13 978 1) 26)) b (cw_25 cy tE a rw (su (si (su (su (sv (sa (si (si (si (si S 24 1) 19 p0) 20 p1) 21 7) 13 (fil 1024 0 (ar (si (si (si (si S 24 1) 19 p0) 20 p1) 21 7) 13))) 2 0 4128768) 11 0 (-1)) 12 0 (-1)) 25 1) 13 978 1)) rfl in_X8 (by decide) wf_X11_214 rfl dX11_gain_52 ?_
      refine z_eqi h_i_26 ?_
      refine z_if_eq_t (tgt := 61) b dX11_gain_55 (by decide) (by decide) ?_
      refine z_aload_n b dX11_gain_61 rfl rfl ?_
      refine z_get (q0 := 0) (k9 := 6) (v := .ref (a 25)) b (cw_0 cy tE a rw (su (si (su (su (sv (sa (si (si (si (si S 24 1) 19 p0) 20 p1) 21 7) 13 (fil 1024 0 (ar (si (si (si (si S 24 1) 19 p0) 20 p1) 21 7) 13))) 2 0 4128768) 11 0 (-1)) 12 0 (-1)) 25 1) 13 978 1)) rfl in_X11 (by decide) wf_X11_52 rfl dX11_gain_62 ?_
      refine z_iload_n b dX11_gain_65 rfl rfl ?_
      refine z_calli b (z_runV (q0 := 25) (As := [.int 1]) (st := []) b (c_X8_richest_2 (su (si (su (su (sv (sa (si (si (si (si S 24 1) 19 p0) 20 p1) 21 7) 13 (fil 1024 0 (ar (si (si (si (si S 24 1) 19 p0) 20 p1) 21 7) 13))) 2 0 4128768) 11 0 (-1)) 12 0 (-1)) 25 1) 13 978 1) rfl rfl h_a_9_50 h_a_9_40 h_a_9_41 h_a_9_42 h_a_9_0 h_a_9_11 h_a_9_21 h_a_9_31 h_a_9_12 h_a_9_22 h_a_9_32 h_a_9_1 h_a_9_13 h_a_9_23 h_a_9_33 h_a_9_15 h_a_9_25 h_a_9_35 h_a_9_2 h_a_9_16 h_a_9_26 h_a_9_36 h_a_9_17 h_a_9_27 h_a_9_37) cf_X8_richest (cw_25 cy tE a rw (su (si (su (su (sv (sa (si (si (si (si S 24 1) 19 p0) 20 p1) 21 7) 13 (fil 1024 0 (ar (si (si (si (si S 24 1) 19 p0) 20 p1) 21 7) 13))) 2 0 4128768) 11 0 (-1)) 12 0 (-1)) 25 1) 13 978 1)) rfl wm_X11_238 wi_X8_richest ws_X8_richest dX11_gain_66 rfl (Nat.le_of_ble_eq_true rfl) ⟨by decide, by decide, by decide, by decide⟩) (fun r12863 u12864 h12862 => ?_)
      obtain ⟨rfl, rfl⟩ := h12862
      refine z_istore (lv' := [(5, .int 0), (0, .ref (a 0)), (1, .int 1), (2, .int p0), (3, .int p1), (4, .int p2)]) b dX11_gain_69 (by decide) rfl ?_
      refine z_iload b dX11_gain_71 rfl ?_
      refine y_if_ne (tgt := 87) (xl := p2.toInt) b rfl dX11_gain_73 (by decide) (fun c12865 => ?_) (fun c12865 => ?_)
      · refine z_iload b dX11_gain_87 rfl ?_
        refine z_iconst (v := 1) b dX11_gain_89 (by decide) ?_
        refine y_icmp_ne (tgt := 103) (xl := p2.toInt) (yl := 1) b rfl (by decide) dX11_gain_90 (by decide) (fun c12866 => ?_) (fun c12866 => ?_)
        · refine z_aload_n b dX11_gain_103 rfl rfl ?_
          refine z_get (q0 := 0) (k9 := 6) (v := .ref (a 25)) b (cw_0 cy tE a rw (su (si (su (su (sv (sa (si (si (si (si S 24 1) 19 p0) 20 p1) 21 7) 13 (fil 1024 0 (ar (si (si (si (si S 24 1) 19 p0) 20 p1) 21 7) 13))) 2 0 4128768) 11 0 (-1)) 12 0 (-1)) 25 1) 13 978 1)) rfl in_X11 (by decide) wf_X11_52 rfl dX11_gain_104 ?_
          refine z_iload b dX11_gain_107 rfl ?_
          refine z_iload b dX11_gain_109 rfl ?_
          refine z_iconst (v := 2) b dX11_gain_111 (by decide) ?_
          refine z_isub b dX11_gain_112 rfl ?_
          have f12867 : ((p2 - 2) : Int32).toInt = p2.toInt + (-2) := zisub (k := 2) (by decide) (by omega) (by omega)
          refine z_calli b (z_runV (q0 := 25) (As := [.int 0, .int (p2 - 2)]) (st := []) b (c_X8_code_2 (su (si (su (su (sv (sa (si (si (si (si S 24 1) 19 p0) 20 p1) 21 7) 13 (fil 1024 0 (ar (si (si (si (si S 24 1) 19 p0) 20 p1) 21 7) 13))) 2 0 4128768) 11 0 (-1)) 12 0 (-1)) 25 1) 13 978 1) (p2 - 2) rfl h_a_10_0 ⟨by omega, by omega⟩) cf_X8_code (cw_25 cy tE a rw (su (si (su (su (sv (sa (si (si (si (si S 24 1) 19 p0) 20 p1) 21 7) 13 (fil 1024 0 (ar (si (si (si (si S 24 1) 19 p0) 20 p1) 21 7) 13))) 2 0 4128768) 11 0 (-1)) 12 0 (-1)) 25 1) 13 978 1)) rfl wm_X11_219 wi_X8_code ws_X8_code dX11_gain_113 rfl (Nat.le_of_ble_eq_true rfl) ⟨by decide, by decide, by decide, by decide⟩) (fun r12869 u12870 h12868 => ?_)
          obtain ⟨rfl, rfl⟩ := h12868
          refine z_istore (lv' := [(6, .int (-1)), (5, .int 0), (0, .ref (a 0)), (1, .int 1), (2, .int p0), (3, .int p1), (4, .int p2)]) b dX11_gain_116 (by decide) rfl ?_
          refine z_iload b dX11_gain_118 rfl ?_
          refine z_iconst (v := (-1)) b dX11_gain_120 (by decide) ?_
          refine z_icmp_ne_f (tgt := 129) b dX11_gain_121 (by decide) (by decide) ?_
          refine z_bipush (v := (-100)) b dX11_gain_124 (by decide) ?_
          refine z_goto (tgt := 131) b dX11_gain_126 (by decide) ?_
          exact z_iret (u := (su (si (su (su (sv (sa (si (si (si (si S 24 1) 19 p0) 20 p1) 21 7) 13 (fil 1024 0 (ar (si (si (si (si S 24 1) 19 p0) 20 p1) 21 7) 13))) 2 0 4128768) 11 0 (-1)) 12 0 (-1)) 25 1) 13 978 1)) b rfl dX11_gain_131 (Or.inr ⟨⟨c12844, c12852, c12865, c12866⟩, rfl, rfl⟩) rfl (by decide) (by decide)
        · exfalso; omega
      · exfalso; omega
  · exfalso; omega

set_option maxHeartbeats 4000000 in
set_option maxRecDepth 100000 in
theorem c_X12_gain_34 {l : Launch} {D : va_G} {cy : Nat → ClassId} {T0 tB tE : Nat} {a : Nat → Nat} (S : GS) (p0 : Int32) (p1 : Int32) (p2 : Int32)  (hr_p0 : 1 ≤ p0.toInt ∧ p0.toInt ≤ 3) (hr_p1 : 1 ≤ p1.toInt ∧ p1.toInt ≤ 6) (hr_p2 : 8 ≤ p2.toInt ∧ p2.toInt ≤ 2147483647) : Ct l D cy T0 tB tE yX12_gain cX12_gain 9 (some .int) 2 44 0 0 (mw cy a S) [.ref (a 0), .int 1, .int p0, .int p1, .int p2] (QI D (U := GS) (fun r u => (-100) = r ∧ S = u) (mw cy a)) := by
  refine Ct.ofZ RX12 "gain" [(0, .ref (a 0)), (1, .int 1), (2, .int p0), (3, .int p1), (4, .int p2)] rfl rfl rfl rfl (Nat.le_of_ble_eq_true rfl) ?_
  intro p e R s m args below meth c A b
  refine z_iload_n b dX12_gain_0 rfl rfl ?_
  refine z_calli b (z_runS (As := [.int 1]) (st := []) b (c_X12_isOne_4 S ) cf_X12_isOne wm_X12_170 ws_X12_isOne dX12_gain_1 rfl (Nat.le_of_ble_eq_true rfl) ⟨by decide, by decide, by decide, by decide⟩) (fun r12872 u12873 h12871 => ?_)
  obtain ⟨rfl, rfl⟩ := h12871
  refine z_if_eq_f (tgt := 27) b dX12_gain_4 (by decide) (by decide) ?_
  refine z_aload_n b dX12_gain_7 rfl rfl ?_
  refine z_iload_n b dX12_gain_8 rfl rfl ?_
  refine z_iload_n b dX12_gain_9 rfl rfl ?_
  refine z_calli b (z_runV (q0 := 0) (As := [.int p0, .int p1]) (st := []) b (c_X12_canSearch_5 S p0 p1 ⟨by omega, by omega⟩ ⟨by omega, by omega⟩) cf_X12_canSearch (mw_0 cy a S) rfl wm_X12_433 wi_X12_canSearch ws_X12_canSearch dX12_gain_10 rfl (Nat.le_of_ble_eq_true rfl) ⟨by decide, by decide, by decide, by decide⟩) (fun r12875 u12876 h12874 => ?_)
  obtain ⟨rfl, rfl⟩ := h12874
  refine z_if_eq_f (tgt := 27) b dX12_gain_13 (by decide) (by decide) ?_
  refine z_iload b dX12_gain_16 rfl ?_
  refine z_iconst (v := 0) b dX12_gain_18 (by decide) ?_
  refine z_bipush (v := 7) b dX12_gain_19 (by decide) ?_
  refine z_calli b (z_runS (As := [.int p2, .int 0, .int 7]) (st := []) b (c_X12_isIn_14 S p2 ⟨by omega, by omega⟩) cf_X12_isIn wm_X12_1 ws_X12_isIn dX12_gain_21 rfl (Nat.le_of_ble_eq_true rfl) ⟨by decide, by decide, by decide, by decide⟩) (fun r12878 u12879 h12877 => ?_)
  obtain ⟨rfl, rfl⟩ := h12877
  refine z_if_ne_f (tgt := 30) b dX12_gain_24 (by decide) (by decide) ?_
  refine z_bipush (v := (-100)) b dX12_gain_27 (by decide) ?_
  exact z_iret (u := S) b rfl dX12_gain_29 ⟨rfl, rfl⟩ rfl (by decide) (by decide)

set_option maxHeartbeats 4000000 in
set_option maxRecDepth 100000 in
theorem c_X11_gain_35 {l : Launch} {D : va_G} {cy : Nat → ClassId} {T0 tB tE : Nat} {a : Nat → Nat} {rw : Nat → Option Nat} (S : GS) (p0 : Int32) (p1 : Int32)  (hr_p0 : 1 ≤ p0.toInt ∧ p0.toInt ≤ 3) (hr_p1 : (-2147483648) ≤ p1.toInt ∧ p1.toInt ≤ (-1)) : Ct l D cy T0 tB tE yX11_gain cX11_gain 7 (some .int) 1 20 0 0 (cw cy tE a rw S) [.ref (a 0), .int 2, .int p0, .int 0, .int p1] (QI D (U := GS) (fun r u => (-100) = r ∧ S = u) (cw cy tE a rw)) := by
  refine Ct.ofZ RX11 "gain" [(0, .ref (a 0)), (1, .int 2), (2, .int p0), (3, .int 0), (4, .int p1)] rfl rfl rfl rfl (Nat.le_of_ble_eq_true rfl) ?_
  intro p e R s m args below meth c A b
  refine z_iload_n b dX11_gain_0 rfl rfl ?_
  refine z_calli b (z_runS (As := [.int 2]) (st := []) b (c_X11_isPerson_5 S ) cf_X11_isPerson wm_X11_69 ws_X11_isPerson dX11_gain_1 rfl (Nat.le_of_ble_eq_true rfl) ⟨by decide, by decide, by decide, by decide⟩) (fun r12881 u12882 h12880 => ?_)
  obtain ⟨rfl, rfl⟩ := h12880
  refine z_if_eq_f (tgt := 26) b dX11_gain_4 (by decide) (by decide) ?_
  refine z_iload_n b dX11_gain_7 rfl rfl ?_
  refine z_calli b (z_runS (As := [.int p0]) (st := []) b (c_X11_areLaws_3 S p0 ⟨by omega, by omega⟩) cf_X11_areLaws wm_X11_181 ws_X11_areLaws dX11_gain_8 rfl (Nat.le_of_ble_eq_true rfl) ⟨by decide, by decide, by decide, by decide⟩) (fun r12884 u12885 h12883 => ?_)
  obtain ⟨rfl, rfl⟩ := h12883
  refine z_if_eq_f (tgt := 26) b dX11_gain_11 (by decide) (by decide) ?_
  refine z_iload_n b dX11_gain_14 rfl rfl ?_
  refine z_calli b (z_runS (As := [.int 0]) (st := []) b (c_X11_isDepth_2 S ) cf_X11_isDepth wm_X11_203 ws_X11_isDepth dX11_gain_15 rfl (Nat.le_of_ble_eq_true rfl) ⟨by decide, by decide, by decide, by decide⟩) (fun r12887 u12888 h12886 => ?_)
  obtain ⟨rfl, rfl⟩ := h12886
  refine z_if_eq_f (tgt := 26) b dX11_gain_18 (by decide) (by decide) ?_
  refine z_iload b dX11_gain_21 rfl ?_
  refine y_if_ge (tgt := 29) (xl := p1.toInt) b rfl dX11_gain_23 (by decide) (fun c12889 => ?_) (fun c12889 => ?_)
  · exfalso; omega
  · refine z_bipush (v := (-100)) b dX11_gain_26 (by decide) ?_
    exact z_iret (u := S) b rfl dX11_gain_28 ⟨rfl, rfl⟩ rfl (by decide) (by decide)

set_option maxHeartbeats 4000000 in
set_option maxRecDepth 100000 in
theorem c_X12_gain_35 {l : Launch} {D : va_G} {cy : Nat → ClassId} {T0 tB tE : Nat} {a : Nat → Nat} (S : GS) (p0 : Int32) (p1 : Int32)  (hr_p0 : 1 ≤ p0.toInt ∧ p0.toInt ≤ 3) (hr_p1 : (-2147483648) ≤ p1.toInt ∧ p1.toInt ≤ (-1)) : Ct l D cy T0 tB tE yX12_gain cX12_gain 9 (some .int) 2 44 0 0 (mw cy a S) [.ref (a 0), .int 2, .int p0, .int 0, .int p1] (QI D (U := GS) (fun r u => (-100) = r ∧ S = u) (mw cy a)) := by
  refine Ct.ofZ RX12 "gain" [(0, .ref (a 0)), (1, .int 2), (2, .int p0), (3, .int 0), (4, .int p1)] rfl rfl rfl rfl (Nat.le_of_ble_eq_true rfl) ?_
  intro p e R s m args below meth c A b
  refine z_iload_n b dX12_gain_0 rfl rfl ?_
  refine z_calli b (z_runS (As := [.int 2]) (st := []) b (c_X12_isOne_5 S ) cf_X12_isOne wm_X12_170 ws_X12_isOne dX12_gain_1 rfl (Nat.le_of_ble_eq_true rfl) ⟨by decide, by decide, by decide, by decide⟩) (fun r12891 u12892 h12890 => ?_)
  obtain ⟨rfl, rfl⟩ := h12890
  refine z_if_eq_f (tgt := 27) b dX12_gain_4 (by decide) (by decide) ?_
  refine z_aload_n b dX12_gain_7 rfl rfl ?_
  refine z_iload_n b dX12_gain_8 rfl rfl ?_
  refine z_iload_n b dX12_gain_9 rfl rfl ?_
  refine z_calli b (z_runV (q0 := 0) (As := [.int p0, .int 0]) (st := []) b (c_X12_canSearch_4 S p0 ⟨by omega, by omega⟩) cf_X12_canSearch (mw_0 cy a S) rfl wm_X12_433 wi_X12_canSearch ws_X12_canSearch dX12_gain_10 rfl (Nat.le_of_ble_eq_true rfl) ⟨by decide, by decide, by decide, by decide⟩) (fun r12894 u12895 h12893 => ?_)
  obtain ⟨rfl, rfl⟩ := h12893
  refine z_if_eq_f (tgt := 27) b dX12_gain_13 (by decide) (by decide) ?_
  refine z_iload b dX12_gain_16 rfl ?_
  refine z_iconst (v := 0) b dX12_gain_18 (by decide) ?_
  refine z_bipush (v := 7) b dX12_gain_19 (by decide) ?_
  refine z_calli b (z_runS (As := [.int p1, .int 0, .int 7]) (st := []) b (c_X12_isIn_12 S p1 ⟨by omega, by omega⟩) cf_X12_isIn wm_X12_1 ws_X12_isIn dX12_gain_21 rfl (Nat.le_of_ble_eq_true rfl) ⟨by decide, by decide, by decide, by decide⟩) (fun r12897 u12898 h12896 => ?_)
  obtain ⟨rfl, rfl⟩ := h12896
  refine z_if_ne_f (tgt := 30) b dX12_gain_24 (by decide) (by decide) ?_
  refine z_bipush (v := (-100)) b dX12_gain_27 (by decide) ?_
  exact z_iret (u := S) b rfl dX12_gain_29 ⟨rfl, rfl⟩ rfl (by decide) (by decide)

set_option maxHeartbeats 4000000 in
set_option maxRecDepth 100000 in
theorem c_X9_get_7 {l : Launch} {D : va_G} {cy : Nat → ClassId} {T0 tB tE : Nat} {a : Nat → Nat} {rw : Nat → Option Nat} (S : GS)  (h_a_9_2 : ar S 9 2 = 0) : Ct l D cy T0 tB tE yX9_get cX9_get 2 (some .int) 0 0 0 0 (cw cy tE a rw S) [.ref (a 26), .int 2] (QI D (U := GS) (fun r u => 0 = r ∧ S = u) (cw cy tE a rw)) := by
  refine Ct.ofZ RX9 "get" [(0, .ref (a 26)), (1, .int 2)] rfl rfl rfl rfl (Nat.le_of_ble_eq_true rfl) ?_
  intro p e R s m args below meth c A b
  refine z_iload_n b dX9_get_0 rfl rfl ?_
  refine z_if_lt_f (tgt := 22) b dX9_get_1 (by decide) (by decide) ?_
  refine z_iload_n b dX9_get_4 rfl rfl ?_
  refine z_aload_n b dX9_get_5 rfl rfl ?_
  refine z_get (q0 := 26) (k9 := 0) (v := .ref (a 27)) b (cw_26 cy tE a rw S) rfl in_X9 (by decide) wf_X9_11 rfl dX9_get_6 ?_
  refine z_alen (q0 := 27) (t0 := 0) (v := 51) b (cw_27 cy tE a rw S) rfl rfl dX9_get_9 ?_
  refine z_icmp_ge_f (tgt := 22) b dX9_get_10 (by decide) (by decide) ?_
  refine z_aload_n b dX9_get_13 rfl rfl ?_
  refine z_get (q0 := 26) (k9 := 0) (v := .ref (a 27)) b (cw_26 cy tE a rw S) rfl in_X9 (by decide) wf_X9_11 rfl dX9_get_14 ?_
  refine z_iload_n b dX9_get_17 rfl rfl ?_
  refine y_iald (q0 := 27) (j := 2) (v := (ar S 9 2)) b (cw_27 cy tE a rw S) (by decide) rfl dX9_get_18 ?_
  refine z_eqi h_a_9_2 ?_
  refine z_goto (tgt := 23) b dX9_get_19 (by decide) ?_
  exact z_iret (u := S) b rfl dX9_get_23 ⟨rfl, rfl⟩ rfl (by decide) (by decide)

set_option maxHeartbeats 4000000 in
set_option maxRecDepth 100000 in
theorem c_X9_get_8 {l : Launch} {D : va_G} {cy : Nat → ClassId} {T0 tB tE : Nat} {a : Nat → Nat} {rw : Nat → Option Nat} (S : GS)  (h_a_9_16 : ar S 9 16 = 0) : Ct l D cy T0 tB tE yX9_get cX9_get 2 (some .int) 0 0 0 0 (cw cy tE a rw S) [.ref (a 26), .int 16] (QI D (U := GS) (fun r u => 0 = r ∧ S = u) (cw cy tE a rw)) := by
  refine Ct.ofZ RX9 "get" [(0, .ref (a 26)), (1, .int 16)] rfl rfl rfl rfl (Nat.le_of_ble_eq_true rfl) ?_
  intro p e R s m args below meth c A b
  refine z_iload_n b dX9_get_0 rfl rfl ?_
  refine z_if_lt_f (tgt := 22) b dX9_get_1 (by decide) (by decide) ?_
  refine z_iload_n b dX9_get_4 rfl rfl ?_
  refine z_aload_n b dX9_get_5 rfl rfl ?_
  refine z_get (q0 := 26) (k9 := 0) (v := .ref (a 27)) b (cw_26 cy tE a rw S) rfl in_X9 (by decide) wf_X9_11 rfl dX9_get_6 ?_
  refine z_alen (q0 := 27) (t0 := 0) (v := 51) b (cw_27 cy tE a rw S) rfl rfl dX9_get_9 ?_
  refine z_icmp_ge_f (tgt := 22) b dX9_get_10 (by decide) (by decide) ?_
  refine z_aload_n b dX9_get_13 rfl rfl ?_
  refine z_get (q0 := 26) (k9 := 0) (v := .ref (a 27)) b (cw_26 cy tE a rw S) rfl in_X9 (by decide) wf_X9_11 rfl dX9_get_14 ?_
  refine z_iload_n b dX9_get_17 rfl rfl ?_
  refine y_iald (q0 := 27) (j := 16) (v := (ar S 9 16)) b (cw_27 cy tE a rw S) (by decide) rfl dX9_get_18 ?_
  refine z_eqi h_a_9_16 ?_
  refine z_goto (tgt := 23) b dX9_get_19 (by decide) ?_
  exact z_iret (u := S) b rfl dX9_get_23 ⟨rfl, rfl⟩ rfl (by decide) (by decide)

set_option maxHeartbeats 4000000 in
set_option maxRecDepth 100000 in
theorem c_X9_get_9 {l : Launch} {D : va_G} {cy : Nat → ClassId} {T0 tB tE : Nat} {a : Nat → Nat} {rw : Nat → Option Nat} (S : GS)  (h_a_9_17 : ar S 9 17 = 0) : Ct l D cy T0 tB tE yX9_get cX9_get 2 (some .int) 0 0 0 0 (cw cy tE a rw S) [.ref (a 26), .int 17] (QI D (U := GS) (fun r u => 0 = r ∧ S = u) (cw cy tE a rw)) := by
  refine Ct.ofZ RX9 "get" [(0, .ref (a 26)), (1, .int 17)] rfl rfl rfl rfl (Nat.le_of_ble_eq_true rfl) ?_
  intro p e R s m args below meth c A b
  refine z_iload_n b dX9_get_0 rfl rfl ?_
  refine z_if_lt_f (tgt := 22) b dX9_get_1 (by decide) (by decide) ?_
  refine z_iload_n b dX9_get_4 rfl rfl ?_
  refine z_aload_n b dX9_get_5 rfl rfl ?_
  refine z_get (q0 := 26) (k9 := 0) (v := .ref (a 27)) b (cw_26 cy tE a rw S) rfl in_X9 (by decide) wf_X9_11 rfl dX9_get_6 ?_
  refine z_alen (q0 := 27) (t0 := 0) (v := 51) b (cw_27 cy tE a rw S) rfl rfl dX9_get_9 ?_
  refine z_icmp_ge_f (tgt := 22) b dX9_get_10 (by decide) (by decide) ?_
  refine z_aload_n b dX9_get_13 rfl rfl ?_
  refine z_get (q0 := 26) (k9 := 0) (v := .ref (a 27)) b (cw_26 cy tE a rw S) rfl in_X9 (by decide) wf_X9_11 rfl dX9_get_14 ?_
  refine z_iload_n b dX9_get_17 rfl rfl ?_
  refine y_iald (q0 := 27) (j := 17) (v := (ar S 9 17)) b (cw_27 cy tE a rw S) (by decide) rfl dX9_get_18 ?_
  refine z_eqi h_a_9_17 ?_
  refine z_goto (tgt := 23) b dX9_get_19 (by decide) ?_
  exact z_iret (u := S) b rfl dX9_get_23 ⟨rfl, rfl⟩ rfl (by decide) (by decide)

set_option maxHeartbeats 4000000 in
set_option maxRecDepth 100000 in
theorem c_X8_wealth_3 {l : Launch} {D : va_G} {cy : Nat → ClassId} {T0 tB tE : Nat} {a : Nat → Nat} {rw : Nat → Option Nat} (S : GS)  (h_i_25 : fi S 25 = 1) (h_A_2_0 : al S 2 0 = 4128768) (h_a_9_50 : ar S 9 50 = 0) (h_a_9_40 : ar S 9 40 = 3) (h_a_9_41 : ar S 9 41 = 3) (h_a_9_42 : ar S 9 42 = 3) (h_a_9_0 : ar S 9 0 = 0) (h_a_9_11 : ar S 9 11 = 0) (h_a_9_21 : ar S 9 21 = 0) (h_a_9_31 : ar S 9 31 = 0) (h_a_9_12 : ar S 9 12 = 0) (h_a_9_22 : ar S 9 22 = 0) (h_a_9_32 : ar S 9 32 = 0) (h_a_9_1 : ar S 9 1 = 0) (h_a_9_13 : ar S 9 13 = 0) (h_a_9_23 : ar S 9 23 = 0) (h_a_9_33 : ar S 9 33 = 0) (h_a_9_15 : ar S 9 15 = 0) (h_a_9_25 : ar S 9 25 = 0) (h_a_9_35 : ar S 9 35 = 0) (h_a_9_2 : ar S 9 2 = 0) (h_a_9_16 : ar S 9 16 = 0) (h_a_9_26 : ar S 9 26 = 0) (h_a_9_36 : ar S 9 36 = 0) (h_a_9_17 : ar S 9 17 = 0) (h_a_9_27 : ar S 9 27 = 0) (h_a_9_37 : ar S 9 37 = 0) : Ct l D cy T0 tB tE yX8_wealth cX8_wealth 5 (some .int) 3 68 0 0 (cw cy tE a rw S) [.ref (a 25), .int 0, .int 2] (QI D (U := GS) (fun r u => 0 = r ∧ S = u) (cw cy tE a rw)) := by
  refine Ct.ofZ RX8 "wealth" [(0, .ref (a 25)), (1, .int 0), (2, .int 2)] rfl rfl rfl rfl (Nat.le_of_ble_eq_true rfl) ?_
  intro p e R s m args below meth c A b
  refine z_aload_n b dX8_wealth_0 rfl rfl ?_
  refine z_iload_n b dX8_wealth_1 rfl rfl ?_
  refine z_callv b (z_runV (q0 := 25) (As := [.int 0]) (st := []) b (c_X8_load S h_i_25 h_A_2_0 h_a_9_50 h_a_9_40 h_a_9_41 h_a_9_42 h_a_9_0 h_a_9_11 h_a_9_21 h_a_9_31 h_a_9_12 h_a_9_22 h_a_9_32 h_a_9_1 h_a_9_13 h_a_9_23 h_a_9_33 h_a_9_15 h_a_9_25 h_a_9_35 h_a_9_2 h_a_9_16 h_a_9_26 h_a_9_36 h_a_9_17 h_a_9_27 h_a_9_37) cf_X8_load (cw_25 cy tE a rw S) rfl wm_X8_153 wi_X8_load ws_X8_load dX8_wealth_2 rfl (Nat.le_of_ble_eq_true rfl) ⟨by decide, by decide, by decide, by decide⟩) (fun u12916 h12914 => ?_)
  obtain rfl := h12914
  refine z_aload_n b dX8_wealth_5 rfl rfl ?_
  refine z_get (q0 := 25) (k9 := 2) (v := .ref (a 26)) b (cw_25 cy tE a rw S) rfl in_X8 (by decide) wf_X8_12 rfl dX8_wealth_6 ?_
  refine z_iload_n b dX8_wealth_9 rfl rfl ?_
  refine z_calli b (z_runV (q0 := 26) (As := [.int 2]) (st := []) b (c_X9_get_7 S h_a_9_2) cf_X9_get (cw_26 cy tE a rw S) rfl wm_X8_161 wi_X9_get ws_X9_get dX8_wealth_10 rfl (Nat.le_of_ble_eq_true rfl) ⟨by decide, by decide, by decide, by decide⟩) (fun r12918 u12919 h12917 => ?_)
  obtain ⟨rfl, rfl⟩ := h12917
  refine z_istore_n (lv' := [(3, .int 0), (0, .ref (a 25)), (1, .int 0), (2, .int 2)]) b dX8_wealth_13 rfl (by decide) rfl ?_
  refine z_iconst (v := 0) b dX8_wealth_14 (by decide) ?_
  refine z_istore (lv' := [(4, .int 0), (3, .int 0), (0, .ref (a 25)), (1, .int 0), (2, .int 2)]) b dX8_wealth_15 (by decide) rfl ?_
  refine z_iload b dX8_wealth_17 rfl ?_
  refine z_iconst (v := 3) b dX8_wealth_19 (by decide) ?_
  refine z_icmp_ge_f (tgt := 54) b dX8_wealth_20 (by decide) (by decide) ?_
  refine z_iload b dX8_wealth_23 rfl ?_
  refine z_iload_n b dX8_wealth_25 rfl rfl ?_
  refine z_icmp_eq_f (tgt := 48) b dX8_wealth_26 (by decide) (by decide) ?_
  refine z_iload_n b dX8_wealth_29 rfl rfl ?_
  refine z_aload_n b dX8_wealth_30 rfl rfl ?_
  refine z_get (q0 := 25) (k9 := 2) (v := .ref (a 26)) b (cw_25 cy tE a rw S) rfl in_X8 (by decide) wf_X8_12 rfl dX8_wealth_31 ?_
  refine z_bipush (v := 10) b dX8_wealth_34 (by decide) ?_
  refine z_iconst (v := 3) b dX8_wealth_36 (by decide) ?_
  refine z_iload_n b dX8_wealth_37 rfl rfl ?_
  refine z_imul (v := 6) b dX8_wealth_38 (by decide) ?_
  refine z_iadd (v := 16) b dX8_wealth_39 (by decide) ?_
  refine z_iload b dX8_wealth_40 rfl ?_
  refine z_iadd (v := 16) b dX8_wealth_42 (by decide) ?_
  refine z_calli b (z_runV (q0 := 26) (As := [.int 16]) (st := [.int 0]) b (c_X9_get_8 S h_a_9_16) cf_X9_get (cw_26 cy tE a rw S) rfl wm_X8_161 wi_X9_get ws_X9_get dX8_wealth_43 rfl (Nat.le_of_ble_eq_true rfl) ⟨by decide, by decide, by decide, by decide⟩) (fun r12921 u12922 h12920 => ?_)
  obtain ⟨rfl, rfl⟩ := h12920
  refine z_isub (v := 0) b dX8_wealth_46 (by decide) ?_
  refine z_istore_n (lv' := [(3, .int 0), (4, .int 0), (0, .ref (a 25)), (1, .int 0), (2, .int 2)]) b dX8_wealth_47 rfl (by decide) rfl ?_
  refine z_iinc (k9 := 1) (v := 1) (lv' := [(4, .int 1), (3, .int 0), (0, .ref (a 25)), (1, .int 0), (2, .int 2)]) b dX8_wealth_48 rfl (by decide) (by decide) rfl ?_
  refine z_goto (tgt := 17) b dX8_wealth_51 (by decide) ?_
  refine z_iload b dX8_wealth_17 rfl ?_
  refine z_iconst (v := 3) b dX8_wealth_19 (by decide) ?_
  refine z_icmp_ge_f (tgt := 54) b dX8_wealth_20 (by decide) (by decide) ?_
  refine z_iload b dX8_wealth_23 rfl ?_
  refine z_iload_n b dX8_wealth_25 rfl rfl ?_
  refine z_icmp_eq_f (tgt := 48) b dX8_wealth_26 (by decide) (by decide) ?_
  refine z_iload_n b dX8_wealth_29 rfl rfl ?_
  refine z_aload_n b dX8_wealth_30 rfl rfl ?_
  refine z_get (q0 := 25) (k9 := 2) (v := .ref (a 26)) b (cw_25 cy tE a rw S) rfl in_X8 (by decide) wf_X8_12 rfl dX8_wealth_31 ?_
  refine z_bipush (v := 10) b dX8_wealth_34 (by decide) ?_
  refine z_iconst (v := 3) b dX8_wealth_36 (by decide) ?_
  refine z_iload_n b dX8_wealth_37 rfl rfl ?_
  refine z_imul (v := 6) b dX8_wealth_38 (by decide) ?_
  refine z_iadd (v := 16) b dX8_wealth_39 (by decide) ?_
  refine z_iload b dX8_wealth_40 rfl ?_
  refine z_iadd (v := 17) b dX8_wealth_42 (by decide) ?_
  refine z_calli b (z_runV (q0 := 26) (As := [.int 17]) (st := [.int 0]) b (c_X9_get_9 S h_a_9_17) cf_X9_get (cw_26 cy tE a rw S) rfl wm_X8_161 wi_X9_get ws_X9_get dX8_wealth_43 rfl (Nat.le_of_ble_eq_true rfl) ⟨by decide, by decide, by decide, by decide⟩) (fun r12924 u12925 h12923 => ?_)
  obtain ⟨rfl, rfl⟩ := h12923
  refine z_isub (v := 0) b dX8_wealth_46 (by decide) ?_
  refine z_istore_n (lv' := [(3, .int 0), (4, .int 1), (0, .ref (a 25)), (1, .int 0), (2, .int 2)]) b dX8_wealth_47 rfl (by decide) rfl ?_
  refine z_iinc (k9 := 1) (v := 2) (lv' := [(4, .int 2), (3, .int 0), (0, .ref (a 25)), (1, .int 0), (2, .int 2)]) b dX8_wealth_48 rfl (by decide) (by decide) rfl ?_
  refine z_goto (tgt := 17) b dX8_wealth_51 (by decide) ?_
  refine z_iload b dX8_wealth_17 rfl ?_
  refine z_iconst (v := 3) b dX8_wealth_19 (by decide) ?_
  refine z_icmp_ge_f (tgt := 54) b dX8_wealth_20 (by decide) (by decide) ?_
  refine z_iload b dX8_wealth_23 rfl ?_
  refine z_iload_n b dX8_wealth_25 rfl rfl ?_
  refine z_icmp_eq_t (tgt := 48) b dX8_wealth_26 (by decide) (by decide) ?_
  refine z_iinc (k9 := 0) (v := 3) (lv' := [(4, .int 3), (3, .int 0), (0, .ref (a 25)), (1, .int 0), (2, .int 2)]) b dX8_wealth_48 rfl (by decide) (by decide) rfl ?_
  refine z_goto (tgt := 17) b dX8_wealth_51 (by decide) ?_
  refine z_iload b dX8_wealth_17 rfl ?_
  refine z_iconst (v := 3) b dX8_wealth_19 (by decide) ?_
  refine z_icmp_ge_t (tgt := 54) b dX8_wealth_20 (by decide) (by decide) ?_
  refine z_iload_n b dX8_wealth_54 rfl rfl ?_
  exact z_iret (u := S) b rfl dX8_wealth_55 ⟨rfl, rfl⟩ rfl (by decide) (by decide)

set_option maxHeartbeats 4000000 in
set_option maxRecDepth 100000 in
theorem c_X8_richest_3 {l : Launch} {D : va_G} {cy : Nat → ClassId} {T0 tB tE : Nat} {a : Nat → Nat} {rw : Nat → Option Nat} (S : GS)  (h_i_25 : fi S 25 = 1) (h_A_2_0 : al S 2 0 = 4128768) (h_a_9_50 : ar S 9 50 = 0) (h_a_9_40 : ar S 9 40 = 3) (h_a_9_41 : ar S 9 41 = 3) (h_a_9_42 : ar S 9 42 = 3) (h_a_9_0 : ar S 9 0 = 0) (h_a_9_11 : ar S 9 11 = 0) (h_a_9_21 : ar S 9 21 = 0) (h_a_9_31 : ar S 9 31 = 0) (h_a_9_12 : ar S 9 12 = 0) (h_a_9_22 : ar S 9 22 = 0) (h_a_9_32 : ar S 9 32 = 0) (h_a_9_1 : ar S 9 1 = 0) (h_a_9_13 : ar S 9 13 = 0) (h_a_9_23 : ar S 9 23 = 0) (h_a_9_33 : ar S 9 33 = 0) (h_a_9_15 : ar S 9 15 = 0) (h_a_9_25 : ar S 9 25 = 0) (h_a_9_35 : ar S 9 35 = 0) (h_a_9_2 : ar S 9 2 = 0) (h_a_9_16 : ar S 9 16 = 0) (h_a_9_26 : ar S 9 26 = 0) (h_a_9_36 : ar S 9 36 = 0) (h_a_9_17 : ar S 9 17 = 0) (h_a_9_27 : ar S 9 27 = 0) (h_a_9_37 : ar S 9 37 = 0) : Ct l D cy T0 tB tE yX8_richest cX8_richest 6 (some .int) 4 92 0 0 (cw cy tE a rw S) [.ref (a 25), .int 2] (QI D (U := GS) (fun r u => 0 = r ∧ S = u) (cw cy tE a rw)) := by
  refine Ct.ofZ RX8 "richest" [(0, .ref (a 25)), (1, .int 2)] rfl rfl rfl rfl (Nat.le_of_ble_eq_true rfl) ?_
  intro p e R s m args below meth c A b
  refine z_iconst (v := 0) b dX8_richest_0 (by decide) ?_
  refine z_istore_n (lv' := [(2, .int 0), (0, .ref (a 25)), (1, .int 2)]) b dX8_richest_1 rfl (by decide) rfl ?_
  refine z_aload_n b dX8_richest_2 rfl rfl ?_
  refine z_iconst (v := 0) b dX8_richest_3 (by decide) ?_
  refine z_iload_n b dX8_richest_4 rfl rfl ?_
  refine z_calli b (z_runV (q0 := 25) (As := [.int 0, .int 2]) (st := []) b (c_X8_wealth_3 S h_i_25 h_A_2_0 h_a_9_50 h_a_9_40 h_a_9_41 h_a_9_42 h_a_9_0 h_a_9_11 h_a_9_21 h_a_9_31 h_a_9_12 h_a_9_22 h_a_9_32 h_a_9_1 h_a_9_13 h_a_9_23 h_a_9_33 h_a_9_15 h_a_9_25 h_a_9_35 h_a_9_2 h_a_9_16 h_a_9_26 h_a_9_36 h_a_9_17 h_a_9_27 h_a_9_37) cf_X8_wealth (cw_25 cy tE a rw S) rfl wm_X8_163 wi_X8_wealth ws_X8_wealth dX8_richest_5 rfl (Nat.le_of_ble_eq_true rfl) ⟨by decide, by decide, by decide, by decide⟩) (fun r12927 u12928 h12926 => ?_)
  obtain ⟨rfl, rfl⟩ := h12926
  refine z_istore_n (lv' := [(3, .int 0), (2, .int 0), (0, .ref (a 25)), (1, .int 2)]) b dX8_richest_8 rfl (by decide) rfl ?_
  refine z_iconst (v := 1) b dX8_richest_9 (by decide) ?_
  refine z_istore (lv' := [(4, .int 1), (3, .int 0), (2, .int 0), (0, .ref (a 25)), (1, .int 2)]) b dX8_richest_10 (by decide) rfl ?_
  refine z_iload b dX8_richest_12 rfl ?_
  refine z_aload_n b dX8_richest_14 rfl rfl ?_
  refine z_get (q0 := 25) (k9 := 17) (v := .int (fi S 25)) b (cw_25 cy tE a rw S) rfl in_X8 (by decide) wf_X8_64 rfl dX8_richest_15 ?_
  refine z_eqi h_i_25 ?_
  refine z_icmp_ge_t (tgt := 56) b dX8_richest_18 (by decide) (by decide) ?_
  refine z_iload_n b dX8_richest_56 rfl rfl ?_
  exact z_iret (u := S) b rfl dX8_richest_57 ⟨rfl, rfl⟩ rfl (by decide) (by decide)

set_option maxHeartbeats 4000000 in
set_option maxRecDepth 100000 in
theorem c_X11_gain_36 {l : Launch} {D : va_G} {cy : Nat → ClassId} {T0 tB tE : Nat} {a : Nat → Nat} {rw : Nat → Option Nat} (S : GS) (p0 : Int32) (h_i_19 : fi S 19 = 0) (h_i_24 : fi S 24 = 0) (h_i_20 : fi S 20 = 0) (h_i_22 : fi S 22 = 0) (h_i_18 : fi S 18 = 0) (h_i_25 : fi S 25 = 0) (h_i_23 : fi S 23 = 0) (h_i_26 : fi S 26 = 0) (h_a_4_50 : ar S 4 50 = 0) (h_a_4_40 : ar S 4 40 = 3) (h_a_4_41 : ar S 4 41 = 3) (h_a_4_42 : ar S 4 42 = 3) (h_a_4_0 : ar S 4 0 = 0) (h_a_4_11 : ar S 4 11 = 0) (h_a_4_21 : ar S 4 21 = 0) (h_a_4_31 : ar S 4 31 = 0) (h_a_4_12 : ar S 4 12 = 0) (h_a_4_22 : ar S 4 22 = 0) (h_a_4_32 : ar S 4 32 = 0) (h_a_4_1 : ar S 4 1 = 0) (h_a_4_13 : ar S 4 13 = 0) (h_a_4_23 : ar S 4 23 = 0) (h_a_4_33 : ar S 4 33 = 0) (h_a_4_15 : ar S 4 15 = 0) (h_a_4_25 : ar S 4 25 = 0) (h_a_4_35 : ar S 4 35 = 0) (h_a_4_2 : ar S 4 2 = 0) (h_a_4_16 : ar S 4 16 = 0) (h_a_4_26 : ar S 4 26 = 0) (h_a_4_36 : ar S 4 36 = 0) (h_a_4_17 : ar S 4 17 = 0) (h_a_4_27 : ar S 4 27 = 0) (h_a_4_37 : ar S 4 37 = 0) (h_a_10_0 : ar S 10 0 = 0) (h_a_9_50 : ar S 9 50 = 0) (h_a_9_40 : ar S 9 40 = 3) (h_a_9_41 : ar S 9 41 = 3) (h_a_9_42 : ar S 9 42 = 3) (h_a_9_0 : ar S 9 0 = 0) (h_a_9_11 : ar S 9 11 = 0) (h_a_9_21 : ar S 9 21 = 0) (h_a_9_31 : ar S 9 31 = 0) (h_a_9_12 : ar S 9 12 = 0) (h_a_9_22 : ar S 9 22 = 0) (h_a_9_32 : ar S 9 32 = 0) (h_a_9_1 : ar S 9 1 = 0) (h_a_9_13 : ar S 9 13 = 0) (h_a_9_23 : ar S 9 23 = 0) (h_a_9_33 : ar S 9 33 = 0) (h_a_9_15 : ar S 9 15 = 0) (h_a_9_25 : ar S 9 25 = 0) (h_a_9_35 : ar S 9 35 = 0) (h_a_9_2 : ar S 9 2 = 0) (h_a_9_16 : ar S 9 16 = 0) (h_a_9_26 : ar S 9 26 = 0) (h_a_9_36 : ar S 9 36 = 0) (h_a_9_17 : ar S 9 17 = 0) (h_a_9_27 : ar S 9 27 = 0) (h_a_9_37 : ar S 9 37 = 0) (hr_p0 : 1 ≤ p0.toInt ∧ p0.toInt ≤ 3) : Ct l D cy T0 tB tE yX11_gain cX11_gain 7 (some .int) 5 117 0 0 (cw cy tE a rw S) [.ref (a 0), .int 2, .int p0, .int 0, .int 0] (QI D (U := GS) (fun r u => 0 = r ∧ (su (si (su (su (sv (sa (si (si (si S 24 1) 19 p0) 21 7) 13 (fil 1024 0 (ar (si (si (si S 24 1) 19 p0) 21 7) 13))) 2 0 4128768) 11 0 (-1)) 12 0 (-1)) 25 1) 13 978 1) = u) (cw cy tE a rw)) := by
  refine Ct.ofZ RX11 "gain" [(0, .ref (a 0)), (1, .int 2), (2, .int p0), (3, .int 0), (4, .int 0)] rfl rfl rfl rfl (Nat.le_of_ble_eq_true rfl) ?_
  intro p e R s m args below meth c A b
  refine z_iload_n b dX11_gain_0 rfl rfl ?_
  refine z_calli b (z_runS (As := [.int 2]) (st := []) b (c_X11_isPerson_5 S ) cf_X11_isPerson wm_X11_69 ws_X11_isPerson dX11_gain_1 rfl (Nat.le_of_ble_eq_true rfl) ⟨by decide, by decide, by decide, by decide⟩) (fun r12900 u12901 h12899 => ?_)
  obtain ⟨rfl, rfl⟩ := h12899
  refine z_if_eq_f (tgt := 26) b dX11_gain_4 (by decide) (by decide) ?_
  refine z_iload_n b dX11_gain_7 rfl rfl ?_
  refine z_calli b (z_runS (As := [.int p0]) (st := []) b (c_X11_areLaws_3 S p0 ⟨by omega, by omega⟩) cf_X11_areLaws wm_X11_181 ws_X11_areLaws dX11_gain_8 rfl (Nat.le_of_ble_eq_true rfl) ⟨by decide, by decide, by decide, by decide⟩) (fun r12903 u12904 h12902 => ?_)
  obtain ⟨rfl, rfl⟩ := h12902
  refine z_if_eq_f (tgt := 26) b dX11_gain_11 (by decide) (by decide) ?_
  refine z_iload_n b dX11_gain_14 rfl rfl ?_
  refine z_calli b (z_runS (As := [.int 0]) (st := []) b (c_X11_isDepth_2 S ) cf_X11_isDepth wm_X11_203 ws_X11_isDepth dX11_gain_15 rfl (Nat.le_of_ble_eq_true rfl) ⟨by decide, by decide, by decide, by decide⟩) (fun r12906 u12907 h12905 => ?_)
  obtain ⟨rfl, rfl⟩ := h12905
  refine z_if_eq_f (tgt := 26) b dX11_gain_18 (by decide) (by decide) ?_
  refine z_iload b dX11_gain_21 rfl ?_
  refine z_if_ge_t (tgt := 29) b dX11_gain_23 (by decide) (by decide) ?_
  refine z_aload_n b dX11_gain_29 rfl rfl ?_
  refine z_get (q0 := 0) (k9 := 6) (v := .ref (a 25)) b (cw_0 cy tE a rw S) rfl in_X11 (by decide) wf_X11_52 rfl dX11_gain_30 ?_
  refine z_iload_n b dX11_gain_33 rfl rfl ?_
  refine z_iload_n b dX11_gain_34 rfl rfl ?_
  refine z_bipush (v := 7) b dX11_gain_35 (by decide) ?_
  refine z_iconst (v := 0) b dX11_gain_37 (by decide) ?_
  refine z_callv b (z_runV (q0 := 25) (As := [.int p0, .int 0, .int 7, .int 0]) (st := []) b (c_X8_begin S p0 h_i_19 h_i_24 h_i_20 h_i_22 h_i_18 h_i_25 h_i_23 h_i_26 h_a_4_50 h_a_4_40 h_a_4_41 h_a_4_42 h_a_4_0 h_a_4_11 h_a_4_21 h_a_4_31 h_a_4_12 h_a_4_22 h_a_4_32 h_a_4_1 h_a_4_13 h_a_4_23 h_a_4_33 h_a_4_15 h_a_4_25 h_a_4_35 h_a_4_2 h_a_4_16 h_a_4_26 h_a_4_36 h_a_4_17 h_a_4_27 h_a_4_37 h_a_10_0 ⟨by omega, by omega⟩) cf_X8_begin (cw_25 cy tE a rw S) rfl wm_X11_206 wi_X8_begin ws_X8_begin dX11_gain_38 rfl (Nat.le_of_ble_eq_true rfl) ⟨by decide, by decide, by decide, by decide⟩) (fun u12910 h12908 => ?_)
  obtain rfl := h12908
  refine z_aload_n b dX11_gain_41 rfl rfl ?_
  refine z_get (q0 := 0) (k9 := 6) (v := .ref (a 25)) b (cw_0 cy tE a rw (su (si (su (su (sv (sa (si (si (si S 24 1) 19 p0) 21 7) 13 (fil 1024 0 (ar (si (si (si S 24 1) 19 p0) 21 7) 13))) 2 0 4128768) 11 0 (-1)) 12 0 (-1)) 25 1) 13 978 1)) rfl in_X11 (by decide) wf_X11_52 rfl dX11_gain_42 ?_
  refine z_callv b (z_runV (q0 := 25) (As := []) (st := []) b (c_X8_finish (su (si (su (su (sv (sa (si (si (si S 24 1) 19 p0) 21 7) 13 (fil 1024 0 (ar (si (si (si S 24 1) 19 p0) 21 7) 13))) 2 0 4128768) 11 0 (-1)) 12 0 (-1)) 25 1) 13 978 1) h_i_26 h_i_23 rfl h_a_10_0 h_i_20) cf_X8_finish (cw_25 cy tE a rw (su (si (su (su (sv (sa (si (si (si S 24 1) 19 p0) 21 7) 13 (fil 1024 0 (ar (si (si (si S 24 1) 19 p0) 21 7) 13))) 2 0 4128768) 11 0 (-1)) 12 0 (-1)) 25 1) 13 978 1)) rfl wm_X11_232 wi_X8_finish ws_X8_finish dX11_gain_45 rfl (Nat.le_of_ble_eq_true rfl) ⟨by decide, by decide, by decide, by decide⟩) (fun u12913 h12911 => ?_)
  obtain rfl := h12911
  refine z_aload_n b dX11_gain_48 rfl rfl ?_
  refine z_get (q0 := 0) (k9 := 6) (v := .ref (a 25)) b (cw_0 cy tE a rw (su (si (su (su (sv (sa (si (si (si S 24 1) 19 p0) 21 7) 13 (fil 1024 0 (ar (si (si (si S 24 1) 19 p0) 21 7) 13))) 2 0 4128768) 11 0 (-1)) 12 0 (-1)) 25 1) 13 978 1)) rfl in_X11 (by decide) wf_X11_52 rfl dX11_gain_49 ?_
  refine z_get (q0 := 25) (k9 := 18) (v := .int (fi (su (si (su (su (sv (sa (si (si (si S 24 1) 19 p0) 21 7) 13 (fil 1024 0 (ar (si (si (si S 24 1) 19 p0) 21 7) 13))) 2 0 4128768) 11 0 (-1)) 12 0 (-1)) 25 1) 13 978 1) 26)) b (cw_25 cy tE a rw (su (si (su (su (sv (sa (si (si (si S 24 1) 19 p0) 21 7) 13 (fil 1024 0 (ar (si (si (si S 24 1) 19 p0) 21 7) 13))) 2 0 4128768) 11 0 (-1)) 12 0 (-1)) 25 1) 13 978 1)) rfl in_X8 (by decide) wf_X11_214 rfl dX11_gain_52 ?_
  refine z_eqi h_i_26 ?_
  refine z_if_eq_t (tgt := 61) b dX11_gain_55 (by decide) (by decide) ?_
  refine z_aload_n b dX11_gain_61 rfl rfl ?_
  refine z_get (q0 := 0) (k9 := 6) (v := .ref (a 25)) b (cw_0 cy tE a rw (su (si (su (su (sv (sa (si (si (si S 24 1) 19 p0) 21 7) 13 (fil 1024 0 (ar (si (si (si S 24 1) 19 p0) 21 7) 13))) 2 0 4128768) 11 0 (-1)) 12 0 (-1)) 25 1) 13 978 1)) rfl in_X11 (by decide) wf_X11_52 rfl dX11_gain_62 ?_
  refine z_iload_n b dX11_gain_65 rfl rfl ?_
  refine z_calli b (z_runV (q0 := 25) (As := [.int 2]) (st := []) b (c_X8_richest_3 (su (si (su (su (sv (sa (si (si (si S 24 1) 19 p0) 21 7) 13 (fil 1024 0 (ar (si (si (si S 24 1) 19 p0) 21 7) 13))) 2 0 4128768) 11 0 (-1)) 12 0 (-1)) 25 1) 13 978 1) rfl rfl h_a_9_50 h_a_9_40 h_a_9_41 h_a_9_42 h_a_9_0 h_a_9_11 h_a_9_21 h_a_9_31 h_a_9_12 h_a_9_22 h_a_9_32 h_a_9_1 h_a_9_13 h_a_9_23 h_a_9_33 h_a_9_15 h_a_9_25 h_a_9_35 h_a_9_2 h_a_9_16 h_a_9_26 h_a_9_36 h_a_9_17 h_a_9_27 h_a_9_37) cf_X8_richest (cw_25 cy tE a rw (su (si (su (su (sv (sa (si (si (si S 24 1) 19 p0) 21 7) 13 (fil 1024 0 (ar (si (si (si S 24 1) 19 p0) 21 7) 13))) 2 0 4128768) 11 0 (-1)) 12 0 (-1)) 25 1) 13 978 1)) rfl wm_X11_238 wi_X8_richest ws_X8_richest dX11_gain_66 rfl (Nat.le_of_ble_eq_true rfl) ⟨by decide, by decide, by decide, by decide⟩) (fun r12930 u12931 h12929 => ?_)
  obtain ⟨rfl, rfl⟩ := h12929
  refine z_istore (lv' := [(5, .int 0), (0, .ref (a 0)), (1, .int 2), (2, .int p0), (3, .int 0), (4, .int 0)]) b dX11_gain_69 (by decide) rfl ?_
  refine z_iload b dX11_gain_71 rfl ?_
  refine z_if_ne_f (tgt := 87) b dX11_gain_73 (by decide) (by decide) ?_
  refine z_aload_n b dX11_gain_76 rfl rfl ?_
  refine z_get (q0 := 0) (k9 := 6) (v := .ref (a 25)) b (cw_0 cy tE a rw (su (si (su (su (sv (sa (si (si (si S 24 1) 19 p0) 21 7) 13 (fil 1024 0 (ar (si (si (si S 24 1) 19 p0) 21 7) 13))) 2 0 4128768) 11 0 (-1)) 12 0 (-1)) 25 1) 13 978 1)) rfl in_X11 (by decide) wf_X11_52 rfl dX11_gain_77 ?_
  refine z_iload b dX11_gain_80 rfl ?_
  refine z_iload_n b dX11_gain_82 rfl rfl ?_
  refine z_calli b (z_runV (q0 := 25) (As := [.int 0, .int 2]) (st := []) b (c_X8_wealth_3 (su (si (su (su (sv (sa (si (si (si S 24 1) 19 p0) 21 7) 13 (fil 1024 0 (ar (si (si (si S 24 1) 19 p0) 21 7) 13))) 2 0 4128768) 11 0 (-1)) 12 0 (-1)) 25 1) 13 978 1) rfl rfl h_a_9_50 h_a_9_40 h_a_9_41 h_a_9_42 h_a_9_0 h_a_9_11 h_a_9_21 h_a_9_31 h_a_9_12 h_a_9_22 h_a_9_32 h_a_9_1 h_a_9_13 h_a_9_23 h_a_9_33 h_a_9_15 h_a_9_25 h_a_9_35 h_a_9_2 h_a_9_16 h_a_9_26 h_a_9_36 h_a_9_17 h_a_9_27 h_a_9_37) cf_X8_wealth (cw_25 cy tE a rw (su (si (su (su (sv (sa (si (si (si S 24 1) 19 p0) 21 7) 13 (fil 1024 0 (ar (si (si (si S 24 1) 19 p0) 21 7) 13))) 2 0 4128768) 11 0 (-1)) 12 0 (-1)) 25 1) 13 978 1)) rfl wm_X11_241 wi_X8_wealth ws_X8_wealth dX11_gain_83 rfl (Nat.le_of_ble_eq_true rfl) ⟨by decide, by decide, by decide, by decide⟩) (fun r12933 u12934 h12932 => ?_)
  obtain ⟨rfl, rfl⟩ := h12932
  exact z_iret (u := (su (si (su (su (sv (sa (si (si (si S 24 1) 19 p0) 21 7) 13 (fil 1024 0 (ar (si (si (si S 24 1) 19 p0) 21 7) 13))) 2 0 4128768) 11 0 (-1)) 12 0 (-1)) 25 1) 13 978 1)) b rfl dX11_gain_86 ⟨rfl, rfl⟩ rfl (by decide) (by decide)

set_option maxHeartbeats 4000000 in
set_option maxRecDepth 100000 in
theorem c_X12_gain_36 {l : Launch} {D : va_G} {cy : Nat → ClassId} {T0 tB tE : Nat} {a : Nat → Nat} (S : GS) (p0 : Int32) (h_i_21 : fi S 21 = 0) (h_i_23 : fi S 23 = 0) (h_l_0 : fl S 0 = 1649317774848) (h_a_29_992 : ar S 29 992 = (-1)) (h_a_28_0 : ar S 28 0 = 0) (h_a_4_7 : ar S 4 7 = 0) (h_a_1_7 : ar S 1 7 = 0) (h_a_4_6 : ar S 4 6 = 0) (h_a_1_6 : ar S 1 6 = 0) (h_a_3_6 : ar S 3 6 = 0) (h_a_3_2 : ar S 3 2 = 0) (h_a_2_2 : ar S 2 2 = 3) (h_a_0_2 : ar S 0 2 = 0) (h_a_4_3 : ar S 4 3 = 0) (h_a_1_3 : ar S 1 3 = 0) (h_a_4_5 : ar S 4 5 = 0) (h_a_1_5 : ar S 1 5 = 0) (h_a_3_5 : ar S 3 5 = 0) (h_a_3_7 : ar S 3 7 = 0) (h_a_2_1 : ar S 2 1 = 3) (h_a_0_1 : ar S 0 1 = 0) (h_a_4_2 : ar S 4 2 = 0) (h_a_1_2 : ar S 1 2 = 0) (h_a_4_1 : ar S 4 1 = 0) (h_a_1_1 : ar S 1 1 = 0) (h_a_3_1 : ar S 3 1 = 0) (h_a_3_3 : ar S 3 3 = 0) (h_a_2_0 : ar S 2 0 = 3) (h_a_0_0 : ar S 0 0 = 0) (h_i_0 : fi S 0 = 0) (hr_p0 : 1 ≤ p0.toInt ∧ p0.toInt ≤ 3) : Ct l D cy T0 tB tE yX12_gain cX12_gain 9 (some .int) 3 74 0 0 (mw cy a S) [.ref (a 0), .int 2, .int p0, .int 0, .int 0] (QI D (U := GS) (fun r u => 0 = r ∧ (si (su (su (sv (su (su (si S 22 (-1)) 29 992 0) 30 0 992) 0 0 1649317774848) 26 0 (-1)) 27 0 (-1)) 21 1) = u) (mw cy a)) := by
  refine Ct.ofZ RX12 "gain" [(0, .ref (a 0)), (1, .int 2), (2, .int p0), (3, .int 0), (4, .int 0)] rfl rfl rfl rfl (Nat.le_of_ble_eq_true rfl) ?_
  intro p e R s m args below meth c A b
  refine z_iload_n b dX12_gain_0 rfl rfl ?_
  refine z_calli b (z_runS (As := [.int 2]) (st := []) b (c_X12_isOne_5 S ) cf_X12_isOne wm_X12_170 ws_X12_isOne dX12_gain_1 rfl (Nat.le_of_ble_eq_true rfl) ⟨by decide, by decide, by decide, by decide⟩) (fun r12936 u12937 h12935 => ?_)
  obtain ⟨rfl, rfl⟩ := h12935
  refine z_if_eq_f (tgt := 27) b dX12_gain_4 (by decide) (by decide) ?_
  refine z_aload_n b dX12_gain_7 rfl rfl ?_
  refine z_iload_n b dX12_gain_8 rfl rfl ?_
  refine z_iload_n b dX12_gain_9 rfl rfl ?_
  refine z_calli b (z_runV (q0 := 0) (As := [.int p0, .int 0]) (st := []) b (c_X12_canSearch_4 S p0 ⟨by omega, by omega⟩) cf_X12_canSearch (mw_0 cy a S) rfl wm_X12_433 wi_X12_canSearch ws_X12_canSearch dX12_gain_10 rfl (Nat.le_of_ble_eq_true rfl) ⟨by decide, by decide, by decide, by decide⟩) (fun r12939 u12940 h12938 => ?_)
  obtain ⟨rfl, rfl⟩ := h12938
  refine z_if_eq_f (tgt := 27) b dX12_gain_13 (by decide) (by decide) ?_
  refine z_iload b dX12_gain_16 rfl ?_
  refine z_iconst (v := 0) b dX12_gain_18 (by decide) ?_
  refine z_bipush (v := 7) b dX12_gain_19 (by decide) ?_
  refine z_calli b (z_runS (As := [.int 0, .int 0, .int 7]) (st := []) b (c_X12_isIn_59 S ) cf_X12_isIn wm_X12_1 ws_X12_isIn dX12_gain_21 rfl (Nat.le_of_ble_eq_true rfl) ⟨by decide, by decide, by decide, by decide⟩) (fun r12942 u12943 h12941 => ?_)
  obtain ⟨rfl, rfl⟩ := h12941
  refine z_if_ne_t (tgt := 30) b dX12_gain_24 (by decide) (by decide) ?_
  refine z_aload_n b dX12_gain_30 rfl rfl ?_
  refine z_iconst (v := (-1)) b dX12_gain_31 (by decide) ?_
  refine z_iload_n b dX12_gain_32 rfl rfl ?_
  refine z_iload_n b dX12_gain_33 rfl rfl ?_
  refine z_bipush (v := 7) b dX12_gain_34 (by decide) ?_
  refine z_iconst (v := 0) b dX12_gain_36 (by decide) ?_
  refine z_callv b (z_runV (q0 := 0) (As := [.int (-1), .int p0, .int 0, .int 7, .int 0]) (st := []) b (c_X12_searches S p0 h_i_21 h_i_23 h_l_0 h_a_29_992 h_a_28_0 ⟨by omega, by omega⟩) cf_X12_searches (mw_0 cy a S) rfl wm_X12_436 wi_X12_searches ws_X12_searches dX12_gain_37 rfl (Nat.le_of_ble_eq_true rfl) ⟨by decide, by decide, by decide, by decide⟩) (fun u12946 h12944 => ?_)
  obtain rfl := h12944
  refine z_aload_n b dX12_gain_40 rfl rfl ?_
  refine z_get (q0 := 0) (k9 := 57) (v := .int (fi (si (su (su (sv (su (su (si S 22 (-1)) 29 992 0) 30 0 992) 0 0 1649317774848) 26 0 (-1)) 27 0 (-1)) 21 1) 23)) b (mw_0 cy a (si (su (su (sv (su (su (si S 22 (-1)) 29 992 0) 30 0 992) 0 0 1649317774848) 26 0 (-1)) 27 0 (-1)) 21 1)) rfl in_X12 (by decide) wf_X12_408 rfl dX12_gain_41 ?_
  refine z_eqi h_i_23 ?_
  refine z_if_eq_t (tgt := 50) b dX12_gain_44 (by decide) (by decide) ?_
  refine z_iconst (v := (-1)) b dX12_gain_50 (by decide) ?_
  refine z_istore (lv' := [(5, .int (-1)), (0, .ref (a 0)), (1, .int 2), (2, .int p0), (3, .int 0), (4, .int 0)]) b dX12_gain_51 (by decide) rfl ?_
  refine z_iconst (v := 0) b dX12_gain_53 (by decide) ?_
  refine z_istore (lv' := [(6, .int 0), (5, .int (-1)), (0, .ref (a 0)), (1, .int 2), (2, .int p0), (3, .int 0), (4, .int 0)]) b dX12_gain_54 (by decide) rfl ?_
  refine z_iconst (v := 0) b dX12_gain_56 (by decide) ?_
  refine z_istore (lv' := [(7, .int 0), (6, .int 0), (5, .int (-1)), (0, .ref (a 0)), (1, .int 2), (2, .int p0), (3, .int 0), (4, .int 0)]) b dX12_gain_57 (by decide) rfl ?_
  refine z_iload b dX12_gain_59 rfl ?_
  refine z_aload_n b dX12_gain_61 rfl rfl ?_
  refine z_get (q0 := 0) (k9 := 55) (v := .int 1) b (mw_0 cy a (si (su (su (sv (su (su (si S 22 (-1)) 29 992 0) 30 0 992) 0 0 1649317774848) 26 0 (-1)) 27 0 (-1)) 21 1)) rfl in_X12 (by decide) wf_X12_405 rfl dX12_gain_62 ?_
  refine z_icmp_ge_f (tgt := 147) b dX12_gain_65 (by decide) (by decide) ?_
  refine z_aload_n b dX12_gain_68 rfl rfl ?_
  refine z_aload_n b dX12_gain_69 rfl rfl ?_
  refine z_get (q0 := 0) (k9 := 49) (v := .ref (a 27)) b (mw_0 cy a (si (su (su (sv (su (su (si S 22 (-1)) 29 992 0) 30 0 992) 0 0 1649317774848) 26 0 (-1)) 27 0 (-1)) 21 1)) rfl in_X12 (by decide) wf_X12_97 rfl dX12_gain_70 ?_
  refine z_iload b dX12_gain_73 rfl ?_
  refine y_lald (q0 := 27) (j := 0) (v := 1649317774848) b (mw_27 cy a (si (su (su (sv (su (su (si S 22 (-1)) 29 992 0) 30 0 992) 0 0 1649317774848) 26 0 (-1)) 27 0 (-1)) 21 1)) (by decide) rfl dX12_gain_75 ?_
  refine z_callv b (z_runV (q0 := 0) (As := [.long 1649317774848]) (st := []) b (c_X12_takes (si (su (su (sv (su (su (si S 22 (-1)) 29 992 0) 30 0 992) 0 0 1649317774848) 26 0 (-1)) 27 0 (-1)) 21 1) h_a_4_7 h_a_1_7 h_a_4_6 h_a_1_6 h_a_3_6 h_a_3_2 h_a_2_2 h_a_0_2 h_a_4_3 h_a_1_3 h_a_4_5 h_a_1_5 h_a_3_5 h_a_3_7 h_a_2_1 h_a_0_1 h_a_4_2 h_a_1_2 h_a_4_1 h_a_1_1 h_a_3_1 h_a_3_3 h_a_2_0 h_a_0_0 h_i_0) cf_X12_takes (mw_0 cy a (si (su (su (sv (su (su (si S 22 (-1)) 29 992 0) 30 0 992) 0 0 1649317774848) 26 0 (-1)) 27 0 (-1)) 21 1)) rfl wm_X12_174 wi_X12_takes ws_X12_takes dX12_gain_76 rfl (Nat.le_of_ble_eq_true rfl) ⟨by decide, by decide, by decide, by decide⟩) (fun u12949 h12947 => ?_)
  obtain rfl := h12947
  refine z_aload_n b dX12_gain_79 rfl rfl ?_
  refine z_get (q0 := 0) (k9 := 0) (v := .ref (a 1)) b (mw_0 cy a (si (su (su (sv (su (su (si S 22 (-1)) 29 992 0) 30 0 992) 0 0 1649317774848) 26 0 (-1)) 27 0 (-1)) 21 1)) rfl in_X12 (by decide) wf_X12_13 rfl dX12_gain_80 ?_
  refine z_iload_n b dX12_gain_83 rfl rfl ?_
  refine y_iald (q0 := 1) (j := 2) (v := (ar (si (su (su (sv (su (su (si S 22 (-1)) 29 992 0) 30 0 992) 0 0 1649317774848) 26 0 (-1)) 27 0 (-1)) 21 1) 0 2)) b (mw_1 cy a (si (su (su (sv (su (su (si S 22 (-1)) 29 992 0) 30 0 992) 0 0 1649317774848) 26 0 (-1)) 27 0 (-1)) 21 1)) (by decide) rfl dX12_gain_84 ?_
  refine z_eqi h_a_0_2 ?_
  refine z_aload_n b dX12_gain_85 rfl rfl ?_
  refine z_get (q0 := 0) (k9 := 1) (v := .ref (a 2)) b (mw_0 cy a (si (su (su (sv (su (su (si S 22 (-1)) 29 992 0) 30 0 992) 0 0 1649317774848) 26 0 (-1)) 27 0 (-1)) 21 1)) rfl in_X12 (by decide) wf_X12_17 rfl dX12_gain_86 ?_
  refine z_iconst (v := 3) b dX12_gain_89 (by decide) ?_
  refine z_iload_n b dX12_gain_90 rfl rfl ?_
  refine z_imul (v := 6) b dX12_gain_91 (by decide) ?_
  refine z_iload_n b dX12_gain_92 rfl rfl ?_
  refine z_iconst (v := 0) b dX12_gain_93 (by decide) ?_
  refine z_calli b (z_runS (As := [.int 2, .int 0]) (st := [.int 6, .ref (a 2), .int 0]) b (c_X12_other_2 (si (su (su (sv (su (su (si S 22 (-1)) 29 992 0) 30 0 992) 0 0 1649317774848) 26 0 (-1)) 27 0 (-1)) 21 1) ) cf_X12_other wm_X12_160 ws_X12_other dX12_gain_94 rfl (Nat.le_of_ble_eq_true rfl) ⟨by decide, by decide, by decide, by decide⟩) (fun r12951 u12952 h12950 => ?_)
  obtain ⟨rfl, rfl⟩ := h12950
  refine z_iadd (v := 6) b dX12_gain_97 (by decide) ?_
  refine y_iald (q0 := 2) (j := 6) (v := (ar (si (su (su (sv (su (su (si S 22 (-1)) 29 992 0) 30 0 992) 0 0 1649317774848) 26 0 (-1)) 27 0 (-1)) 21 1) 1 6)) b (mw_2 cy a (si (su (su (sv (su (su (si S 22 (-1)) 29 992 0) 30 0 992) 0 0 1649317774848) 26 0 (-1)) 27 0 (-1)) 21 1)) (by decide) rfl dX12_gain_98 ?_
  refine z_eqi h_a_1_6 ?_
  refine z_isub (v := 0) b dX12_gain_99 (by decide) ?_
  refine z_aload_n b dX12_gain_100 rfl rfl ?_
  refine z_get (q0 := 0) (k9 := 1) (v := .ref (a 2)) b (mw_0 cy a (si (su (su (sv (su (su (si S 22 (-1)) 29 992 0) 30 0 992) 0 0 1649317774848) 26 0 (-1)) 27 0 (-1)) 21 1)) rfl in_X12 (by decide) wf_X12_17 rfl dX12_gain_101 ?_
  refine z_iconst (v := 3) b dX12_gain_104 (by decide) ?_
  refine z_iload_n b dX12_gain_105 rfl rfl ?_
  refine z_imul (v := 6) b dX12_gain_106 (by decide) ?_
  refine z_iload_n b dX12_gain_107 rfl rfl ?_
  refine z_iconst (v := 1) b dX12_gain_108 (by decide) ?_
  refine z_calli b (z_runS (As := [.int 2, .int 1]) (st := [.int 6, .ref (a 2), .int 0]) b (c_X12_other (si (su (su (sv (su (su (si S 22 (-1)) 29 992 0) 30 0 992) 0 0 1649317774848) 26 0 (-1)) 27 0 (-1)) 21 1) ) cf_X12_other wm_X12_160 ws_X12_other dX12_gain_109 rfl (Nat.le_of_ble_eq_true rfl) ⟨by decide, by decide, by decide, by decide⟩) (fun r12954 u12955 h12953 => ?_)
  obtain ⟨rfl, rfl⟩ := h12953
  refine z_iadd (v := 7) b dX12_gain_112 (by decide) ?_
  refine y_iald (q0 := 2) (j := 7) (v := (ar (si (su (su (sv (su (su (si S 22 (-1)) 29 992 0) 30 0 992) 0 0 1649317774848) 26 0 (-1)) 27 0 (-1)) 21 1) 1 7)) b (mw_2 cy a (si (su (su (sv (su (su (si S 22 (-1)) 29 992 0) 30 0 992) 0 0 1649317774848) 26 0 (-1)) 27 0 (-1)) 21 1)) (by decide) rfl dX12_gain_113 ?_
  refine z_eqi h_a_1_7 ?_
  refine z_isub (v := 0) b dX12_gain_114 (by decide) ?_
  refine z_istore (lv' := [(8, .int 0), (7, .int 0), (6, .int 0), (5, .int (-1)), (0, .ref (a 0)), (1, .int 2), (2, .int p0), (3, .int 0), (4, .int 0)]) b dX12_gain_115 (by decide) rfl ?_
  refine z_iload b dX12_gain_117 rfl ?_
  refine z_iconst (v := (-1)) b dX12_gain_119 (by decide) ?_
  refine z_icmp_eq_t (tgt := 133) b dX12_gain_120 (by decide) (by decide) ?_
  refine z_iload b dX12_gain_133 rfl ?_
  refine z_istore (lv' := [(5, .int 0), (8, .int 0), (7, .int 0), (6, .int 0), (0, .ref (a 0)), (1, .int 2), (2, .int p0), (3, .int 0), (4, .int 0)]) b dX12_gain_135 (by decide) rfl ?_
  refine z_iload b dX12_gain_137 rfl ?_
  refine z_istore (lv' := [(6, .int 0), (5, .int 0), (8, .int 0), (7, .int 0), (0, .ref (a 0)), (1, .int 2), (2, .int p0), (3, .int 0), (4, .int 0)]) b dX12_gain_139 (by decide) rfl ?_
  refine z_iinc (k9 := 3) (v := 1) (lv' := [(7, .int 1), (6, .int 0), (5, .int 0), (8, .int 0), (0, .ref (a 0)), (1, .int 2), (2, .int p0), (3, .int 0), (4, .int 0)]) b dX12_gain_141 rfl (by decide) (by decide) rfl ?_
  refine z_goto (tgt := 59) b dX12_gain_144 (by decide) ?_
  refine z_iload b dX12_gain_59 rfl ?_
  refine z_aload_n b dX12_gain_61 rfl rfl ?_
  refine z_get (q0 := 0) (k9 := 55) (v := .int 1) b (mw_0 cy a (si (su (su (sv (su (su (si S 22 (-1)) 29 992 0) 30 0 992) 0 0 1649317774848) 26 0 (-1)) 27 0 (-1)) 21 1)) rfl in_X12 (by decide) wf_X12_405 rfl dX12_gain_62 ?_
  refine z_icmp_ge_t (tgt := 147) b dX12_gain_65 (by decide) (by decide) ?_
  refine z_iload b dX12_gain_147 rfl ?_
  refine z_iconst (v := 2) b dX12_gain_149 (by decide) ?_
  refine z_icmp_ge_f (tgt := 171) b dX12_gain_150 (by decide) (by decide) ?_
  refine z_iload b dX12_gain_153 rfl ?_
  refine z_if_ne_f (tgt := 163) b dX12_gain_155 (by decide) (by decide) ?_
  refine z_iload b dX12_gain_158 rfl ?_
  refine z_goto (tgt := 170) b dX12_gain_160 (by decide) ?_
  exact z_iret (u := (si (su (su (sv (su (su (si S 22 (-1)) 29 992 0) 30 0 992) 0 0 1649317774848) 26 0 (-1)) 27 0 (-1)) 21 1)) b rfl dX12_gain_170 ⟨rfl, rfl⟩ rfl (by decide) (by decide)

set_option maxHeartbeats 4000000 in
set_option maxRecDepth 100000 in
theorem c_X11_gain_37 {l : Launch} {D : va_G} {cy : Nat → ClassId} {T0 tB tE : Nat} {a : Nat → Nat} {rw : Nat → Option Nat} (S : GS) (p0 : Int32) (h_i_19 : fi S 19 = 0) (h_i_24 : fi S 24 = 0) (h_i_20 : fi S 20 = 0) (h_i_22 : fi S 22 = 0) (h_i_18 : fi S 18 = 0) (h_i_25 : fi S 25 = 0) (h_i_23 : fi S 23 = 0) (h_i_26 : fi S 26 = 0) (h_a_4_50 : ar S 4 50 = 0) (h_a_4_40 : ar S 4 40 = 3) (h_a_4_41 : ar S 4 41 = 3) (h_a_4_42 : ar S 4 42 = 3) (h_a_4_0 : ar S 4 0 = 0) (h_a_4_11 : ar S 4 11 = 0) (h_a_4_21 : ar S 4 21 = 0) (h_a_4_31 : ar S 4 31 = 0) (h_a_4_12 : ar S 4 12 = 0) (h_a_4_22 : ar S 4 22 = 0) (h_a_4_32 : ar S 4 32 = 0) (h_a_4_1 : ar S 4 1 = 0) (h_a_4_13 : ar S 4 13 = 0) (h_a_4_23 : ar S 4 23 = 0) (h_a_4_33 : ar S 4 33 = 0) (h_a_4_15 : ar S 4 15 = 0) (h_a_4_25 : ar S 4 25 = 0) (h_a_4_35 : ar S 4 35 = 0) (h_a_4_2 : ar S 4 2 = 0) (h_a_4_16 : ar S 4 16 = 0) (h_a_4_26 : ar S 4 26 = 0) (h_a_4_36 : ar S 4 36 = 0) (h_a_4_17 : ar S 4 17 = 0) (h_a_4_27 : ar S 4 27 = 0) (h_a_4_37 : ar S 4 37 = 0) (h_a_10_0 : ar S 10 0 = 0) (h_a_9_50 : ar S 9 50 = 0) (h_a_9_40 : ar S 9 40 = 3) (h_a_9_41 : ar S 9 41 = 3) (h_a_9_42 : ar S 9 42 = 3) (h_a_9_0 : ar S 9 0 = 0) (h_a_9_11 : ar S 9 11 = 0) (h_a_9_21 : ar S 9 21 = 0) (h_a_9_31 : ar S 9 31 = 0) (h_a_9_12 : ar S 9 12 = 0) (h_a_9_22 : ar S 9 22 = 0) (h_a_9_32 : ar S 9 32 = 0) (h_a_9_1 : ar S 9 1 = 0) (h_a_9_13 : ar S 9 13 = 0) (h_a_9_23 : ar S 9 23 = 0) (h_a_9_33 : ar S 9 33 = 0) (h_a_9_15 : ar S 9 15 = 0) (h_a_9_25 : ar S 9 25 = 0) (h_a_9_35 : ar S 9 35 = 0) (h_a_9_2 : ar S 9 2 = 0) (h_a_9_16 : ar S 9 16 = 0) (h_a_9_26 : ar S 9 26 = 0) (h_a_9_36 : ar S 9 36 = 0) (h_a_9_17 : ar S 9 17 = 0) (h_a_9_27 : ar S 9 27 = 0) (h_a_9_37 : ar S 9 37 = 0) (hr_p0 : 1 ≤ p0.toInt ∧ p0.toInt ≤ 3) : Ct l D cy T0 tB tE yX11_gain cX11_gain 7 (some .int) 5 117 0 0 (cw cy tE a rw S) [.ref (a 0), .int 2, .int p0, .int 0, .int 1] (QI D (U := GS) (fun r u => 0 = r ∧ (su (si (su (su (sv (sa (si (si (si S 24 1) 19 p0) 21 7) 13 (fil 1024 0 (ar (si (si (si S 24 1) 19 p0) 21 7) 13))) 2 0 4128768) 11 0 (-1)) 12 0 (-1)) 25 1) 13 978 1) = u) (cw cy tE a rw)) := by
  refine Ct.ofZ RX11 "gain" [(0, .ref (a 0)), (1, .int 2), (2, .int p0), (3, .int 0), (4, .int 1)] rfl rfl rfl rfl (Nat.le_of_ble_eq_true rfl) ?_
  intro p e R s m args below meth c A b
  refine z_iload_n b dX11_gain_0 rfl rfl ?_
  refine z_calli b (z_runS (As := [.int 2]) (st := []) b (c_X11_isPerson_5 S ) cf_X11_isPerson wm_X11_69 ws_X11_isPerson dX11_gain_1 rfl (Nat.le_of_ble_eq_true rfl) ⟨by decide, by decide, by decide, by decide⟩) (fun r12957 u12958 h12956 => ?_)
  obtain ⟨rfl, rfl⟩ := h12956
  refine z_if_eq_f (tgt := 26) b dX11_gain_4 (by decide) (by decide) ?_
  refine z_iload_n b dX11_gain_7 rfl rfl ?_
  refine z_calli b (z_runS (As := [.int p0]) (st := []) b (c_X11_areLaws_3 S p0 ⟨by omega, by omega⟩) cf_X11_areLaws wm_X11_181 ws_X11_areLaws dX11_gain_8 rfl (Nat.le_of_ble_eq_true rfl) ⟨by decide, by decide, by decide, by decide⟩) (fun r12960 u12961 h12959 => ?_)
  obtain ⟨rfl, rfl⟩ := h12959
  refine z_if_eq_f (tgt := 26) b dX11_gain_11 (by decide) (by decide) ?_
  refine z_iload_n b dX11_gain_14 rfl rfl ?_
  refine z_calli b (z_runS (As := [.int 0]) (st := []) b (c_X11_isDepth_2 S ) cf_X11_isDepth wm_X11_203 ws_X11_isDepth dX11_gain_15 rfl (Nat.le_of_ble_eq_true rfl) ⟨by decide, by decide, by decide, by decide⟩) (fun r12963 u12964 h12962 => ?_)
  obtain ⟨rfl, rfl⟩ := h12962
  refine z_if_eq_f (tgt := 26) b dX11_gain_18 (by decide) (by decide) ?_
  refine z_iload b dX11_gain_21 rfl ?_
  refine z_if_ge_t (tgt := 29) b dX11_gain_23 (by decide) (by decide) ?_
  refine z_aload_n b dX11_gain_29 rfl rfl ?_
  refine z_get (q0 := 0) (k9 := 6) (v := .ref (a 25)) b (cw_0 cy tE a rw S) rfl in_X11 (by decide) wf_X11_52 rfl dX11_gain_30 ?_
  refine z_iload_n b dX11_gain_33 rfl rfl ?_
  refine z_iload_n b dX11_gain_34 rfl rfl ?_
  refine z_bipush (v := 7) b dX11_gain_35 (by decide) ?_
  refine z_iconst (v := 0) b dX11_gain_37 (by decide) ?_
  refine z_callv b (z_runV (q0 := 25) (As := [.int p0, .int 0, .int 7, .int 0]) (st := []) b (c_X8_begin S p0 h_i_19 h_i_24 h_i_20 h_i_22 h_i_18 h_i_25 h_i_23 h_i_26 h_a_4_50 h_a_4_40 h_a_4_41 h_a_4_42 h_a_4_0 h_a_4_11 h_a_4_21 h_a_4_31 h_a_4_12 h_a_4_22 h_a_4_32 h_a_4_1 h_a_4_13 h_a_4_23 h_a_4_33 h_a_4_15 h_a_4_25 h_a_4_35 h_a_4_2 h_a_4_16 h_a_4_26 h_a_4_36 h_a_4_17 h_a_4_27 h_a_4_37 h_a_10_0 ⟨by omega, by omega⟩) cf_X8_begin (cw_25 cy tE a rw S) rfl wm_X11_206 wi_X8_begin ws_X8_begin dX11_gain_38 rfl (Nat.le_of_ble_eq_true rfl) ⟨by decide, by decide, by decide, by decide⟩) (fun u12967 h12965 => ?_)
  obtain rfl := h12965
  refine z_aload_n b dX11_gain_41 rfl rfl ?_
  refine z_get (q0 := 0) (k9 := 6) (v := .ref (a 25)) b (cw_0 cy tE a rw (su (si (su (su (sv (sa (si (si (si S 24 1) 19 p0) 21 7) 13 (fil 1024 0 (ar (si (si (si S 24 1) 19 p0) 21 7) 13))) 2 0 4128768) 11 0 (-1)) 12 0 (-1)) 25 1) 13 978 1)) rfl in_X11 (by decide) wf_X11_52 rfl dX11_gain_42 ?_
  refine z_callv b (z_runV (q0 := 25) (As := []) (st := []) b (c_X8_finish (su (si (su (su (sv (sa (si (si (si S 24 1) 19 p0) 21 7) 13 (fil 1024 0 (ar (si (si (si S 24 1) 19 p0) 21 7) 13))) 2 0 4128768) 11 0 (-1)) 12 0 (-1)) 25 1) 13 978 1) h_i_26 h_i_23 rfl h_a_10_0 h_i_20) cf_X8_finish (cw_25 cy tE a rw (su (si (su (su (sv (sa (si (si (si S 24 1) 19 p0) 21 7) 13 (fil 1024 0 (ar (si (si (si S 24 1) 19 p0) 21 7) 13))) 2 0 4128768) 11 0 (-1)) 12 0 (-1)) 25 1) 13 978 1)) rfl wm_X11_232 wi_X8_finish ws_X8_finish dX11_gain_45 rfl (Nat.le_of_ble_eq_true rfl) ⟨by decide, by decide, by decide, by decide⟩) (fun u12970 h12968 => ?_)
  obtain rfl := h12968
  refine z_aload_n b dX11_gain_48 rfl rfl ?_
  refine z_get (q0 := 0) (k9 := 6) (v := .ref (a 25)) b (cw_0 cy tE a rw (su (si (su (su (sv (sa (si (si (si S 24 1) 19 p0) 21 7) 13 (fil 1024 0 (ar (si (si (si S 24 1) 19 p0) 21 7) 13))) 2 0 4128768) 11 0 (-1)) 12 0 (-1)) 25 1) 13 978 1)) rfl in_X11 (by decide) wf_X11_52 rfl dX11_gain_49 ?_
  refine z_get (q0 := 25) (k9 := 18) (v := .int (fi (su (si (su (su (sv (sa (si (si (si S 24 1) 19 p0) 21 7) 13 (fil 1024 0 (ar (si (si (si S 24 1) 19 p0) 21 7) 13))) 2 0 4128768) 11 0 (-1)) 12 0 (-1)) 25 1) 13 978 1) 26)) b (cw_25 cy tE a rw (su (si (su (su (sv (sa (si (si (si S 24 1) 19 p0) 21 7) 13 (fil 1024 0 (ar (si (si (si S 24 1) 19 p0) 21 7) 13))) 2 0 4128768) 11 0 (-1)) 12 0 (-1)) 25 1) 13 978 1)) rfl in_X8 (by decide) wf_X11_214 rfl dX11_gain_52 ?_
  refine z_eqi h_i_26 ?_
  refine z_if_eq_t (tgt := 61) b dX11_gain_55 (by decide) (by decide) ?_
  refine z_aload_n b dX11_gain_61 rfl rfl ?_
  refine z_get (q0 := 0) (k9 := 6) (v := .ref (a 25)) b (cw_0 cy tE a rw (su (si (su (su (sv (sa (si (si (si S 24 1) 19 p0) 21 7) 13 (fil 1024 0 (ar (si (si (si S 24 1) 19 p0) 21 7) 13))) 2 0 4128768) 11 0 (-1)) 12 0 (-1)) 25 1) 13 978 1)) rfl in_X11 (by decide) wf_X11_52 rfl dX11_gain_62 ?_
  refine z_iload_n b dX11_gain_65 rfl rfl ?_
  refine z_calli b (z_runV (q0 := 25) (As := [.int 2]) (st := []) b (c_X8_richest_3 (su (si (su (su (sv (sa (si (si (si S 24 1) 19 p0) 21 7) 13 (fil 1024 0 (ar (si (si (si S 24 1) 19 p0) 21 7) 13))) 2 0 4128768) 11 0 (-1)) 12 0 (-1)) 25 1) 13 978 1) rfl rfl h_a_9_50 h_a_9_40 h_a_9_41 h_a_9_42 h_a_9_0 h_a_9_11 h_a_9_21 h_a_9_31 h_a_9_12 h_a_9_22 h_a_9_32 h_a_9_1 h_a_9_13 h_a_9_23 h_a_9_33 h_a_9_15 h_a_9_25 h_a_9_35 h_a_9_2 h_a_9_16 h_a_9_26 h_a_9_36 h_a_9_17 h_a_9_27 h_a_9_37) cf_X8_richest (cw_25 cy tE a rw (su (si (su (su (sv (sa (si (si (si S 24 1) 19 p0) 21 7) 13 (fil 1024 0 (ar (si (si (si S 24 1) 19 p0) 21 7) 13))) 2 0 4128768) 11 0 (-1)) 12 0 (-1)) 25 1) 13 978 1)) rfl wm_X11_238 wi_X8_richest ws_X8_richest dX11_gain_66 rfl (Nat.le_of_ble_eq_true rfl) ⟨by decide, by decide, by decide, by decide⟩) (fun r12972 u12973 h12971 => ?_)
  obtain ⟨rfl, rfl⟩ := h12971
  refine z_istore (lv' := [(5, .int 0), (0, .ref (a 0)), (1, .int 2), (2, .int p0), (3, .int 0), (4, .int 1)]) b dX11_gain_69 (by decide) rfl ?_
  refine z_iload b dX11_gain_71 rfl ?_
  refine z_if_ne_t (tgt := 87) b dX11_gain_73 (by decide) (by decide) ?_
  refine z_iload b dX11_gain_87 rfl ?_
  refine z_iconst (v := 1) b dX11_gain_89 (by decide) ?_
  refine z_icmp_ne_f (tgt := 103) b dX11_gain_90 (by decide) (by decide) ?_
  refine z_aload_n b dX11_gain_93 rfl rfl ?_
  refine z_get (q0 := 0) (k9 := 6) (v := .ref (a 25)) b (cw_0 cy tE a rw (su (si (su (su (sv (sa (si (si (si S 24 1) 19 p0) 21 7) 13 (fil 1024 0 (ar (si (si (si S 24 1) 19 p0) 21 7) 13))) 2 0 4128768) 11 0 (-1)) 12 0 (-1)) 25 1) 13 978 1)) rfl in_X11 (by decide) wf_X11_52 rfl dX11_gain_94 ?_
  refine z_iload b dX11_gain_97 rfl ?_
  refine z_calli b (z_runV (q0 := 25) (As := [.int 0]) (st := []) b (c_X8_acts (su (si (su (su (sv (sa (si (si (si S 24 1) 19 p0) 21 7) 13 (fil 1024 0 (ar (si (si (si S 24 1) 19 p0) 21 7) 13))) 2 0 4128768) 11 0 (-1)) 12 0 (-1)) 25 1) 13 978 1) rfl h_a_10_0) cf_X8_acts (cw_25 cy tE a rw (su (si (su (su (sv (sa (si (si (si S 24 1) 19 p0) 21 7) 13 (fil 1024 0 (ar (si (si (si S 24 1) 19 p0) 21 7) 13))) 2 0 4128768) 11 0 (-1)) 12 0 (-1)) 25 1) 13 978 1)) rfl wm_X11_217 wi_X8_acts ws_X8_acts dX11_gain_99 rfl (Nat.le_of_ble_eq_true rfl) ⟨by decide, by decide, by decide, by decide⟩) (fun r12975 u12976 h12974 => ?_)
  obtain ⟨rfl, rfl⟩ := h12974
  exact z_iret (u := (su (si (su (su (sv (sa (si (si (si S 24 1) 19 p0) 21 7) 13 (fil 1024 0 (ar (si (si (si S 24 1) 19 p0) 21 7) 13))) 2 0 4128768) 11 0 (-1)) 12 0 (-1)) 25 1) 13 978 1)) b rfl dX11_gain_102 ⟨rfl, rfl⟩ rfl (by decide) (by decide)

set_option maxHeartbeats 4000000 in
set_option maxRecDepth 100000 in
theorem c_X12_gain_37 {l : Launch} {D : va_G} {cy : Nat → ClassId} {T0 tB tE : Nat} {a : Nat → Nat} (S : GS) (p0 : Int32) (h_i_21 : fi S 21 = 0) (h_i_23 : fi S 23 = 0) (h_l_0 : fl S 0 = 1649317774848) (h_a_29_992 : ar S 29 992 = (-1)) (h_a_28_0 : ar S 28 0 = 0) (h_a_4_7 : ar S 4 7 = 0) (h_a_1_7 : ar S 1 7 = 0) (h_a_4_6 : ar S 4 6 = 0) (h_a_1_6 : ar S 1 6 = 0) (h_a_3_6 : ar S 3 6 = 0) (h_a_3_2 : ar S 3 2 = 0) (h_a_2_2 : ar S 2 2 = 3) (h_a_0_2 : ar S 0 2 = 0) (h_a_4_3 : ar S 4 3 = 0) (h_a_1_3 : ar S 1 3 = 0) (h_a_4_5 : ar S 4 5 = 0) (h_a_1_5 : ar S 1 5 = 0) (h_a_3_5 : ar S 3 5 = 0) (h_a_3_7 : ar S 3 7 = 0) (h_a_2_1 : ar S 2 1 = 3) (h_a_0_1 : ar S 0 1 = 0) (h_a_4_2 : ar S 4 2 = 0) (h_a_1_2 : ar S 1 2 = 0) (h_a_4_1 : ar S 4 1 = 0) (h_a_1_1 : ar S 1 1 = 0) (h_a_3_1 : ar S 3 1 = 0) (h_a_3_3 : ar S 3 3 = 0) (h_a_2_0 : ar S 2 0 = 3) (h_a_0_0 : ar S 0 0 = 0) (h_i_0 : fi S 0 = 0) (hr_p0 : 1 ≤ p0.toInt ∧ p0.toInt ≤ 3) : Ct l D cy T0 tB tE yX12_gain cX12_gain 9 (some .int) 3 74 0 0 (mw cy a S) [.ref (a 0), .int 2, .int p0, .int 0, .int 1] (QI D (U := GS) (fun r u => 0 = r ∧ (si (su (su (sv (su (su (si S 22 (-1)) 29 992 0) 30 0 992) 0 0 1649317774848) 26 0 (-1)) 27 0 (-1)) 21 1) = u) (mw cy a)) := by
  refine Ct.ofZ RX12 "gain" [(0, .ref (a 0)), (1, .int 2), (2, .int p0), (3, .int 0), (4, .int 1)] rfl rfl rfl rfl (Nat.le_of_ble_eq_true rfl) ?_
  intro p e R s m args below meth c A b
  refine z_iload_n b dX12_gain_0 rfl rfl ?_
  refine z_calli b (z_runS (As := [.int 2]) (st := []) b (c_X12_isOne_5 S ) cf_X12_isOne wm_X12_170 ws_X12_isOne dX12_gain_1 rfl (Nat.le_of_ble_eq_true rfl) ⟨by decide, by decide, by decide, by decide⟩) (fun r12978 u12979 h12977 => ?_)
  obtain ⟨rfl, rfl⟩ := h12977
  refine z_if_eq_f (tgt := 27) b dX12_gain_4 (by decide) (by decide) ?_
  refine z_aload_n b dX12_gain_7 rfl rfl ?_
  refine z_iload_n b dX12_gain_8 rfl rfl ?_
  refine z_iload_n b dX12_gain_9 rfl rfl ?_
  refine z_calli b (z_runV (q0 := 0) (As := [.int p0, .int 0]) (st := []) b (c_X12_canSearch_4 S p0 ⟨by omega, by omega⟩) cf_X12_canSearch (mw_0 cy a S) rfl wm_X12_433 wi_X12_canSearch ws_X12_canSearch dX12_gain_10 rfl (Nat.le_of_ble_eq_true rfl) ⟨by decide, by decide, by decide, by decide⟩) (fun r12981 u12982 h12980 => ?_)
  obtain ⟨rfl, rfl⟩ := h12980
  refine z_if_eq_f (tgt := 27) b dX12_gain_13 (by decide) (by decide) ?_
  refine z_iload b dX12_gain_16 rfl ?_
  refine z_iconst (v := 0) b dX12_gain_18 (by decide) ?_
  refine z_bipush (v := 7) b dX12_gain_19 (by decide) ?_
  refine z_calli b (z_runS (As := [.int 1, .int 0, .int 7]) (st := []) b (c_X12_isIn_60 S ) cf_X12_isIn wm_X12_1 ws_X12_isIn dX12_gain_21 rfl (Nat.le_of_ble_eq_true rfl) ⟨by decide, by decide, by decide, by decide⟩) (fun r12984 u12985 h12983 => ?_)
  obtain ⟨rfl, rfl⟩ := h12983
  refine z_if_ne_t (tgt := 30) b dX12_gain_24 (by decide) (by decide) ?_
  refine z_aload_n b dX12_gain_30 rfl rfl ?_
  refine z_iconst (v := (-1)) b dX12_gain_31 (by decide) ?_
  refine z_iload_n b dX12_gain_32 rfl rfl ?_
  refine z_iload_n b dX12_gain_33 rfl rfl ?_
  refine z_bipush (v := 7) b dX12_gain_34 (by decide) ?_
  refine z_iconst (v := 0) b dX12_gain_36 (by decide) ?_
  refine z_callv b (z_runV (q0 := 0) (As := [.int (-1), .int p0, .int 0, .int 7, .int 0]) (st := []) b (c_X12_searches S p0 h_i_21 h_i_23 h_l_0 h_a_29_992 h_a_28_0 ⟨by omega, by omega⟩) cf_X12_searches (mw_0 cy a S) rfl wm_X12_436 wi_X12_searches ws_X12_searches dX12_gain_37 rfl (Nat.le_of_ble_eq_true rfl) ⟨by decide, by decide, by decide, by decide⟩) (fun u12988 h12986 => ?_)
  obtain rfl := h12986
  refine z_aload_n b dX12_gain_40 rfl rfl ?_
  refine z_get (q0 := 0) (k9 := 57) (v := .int (fi (si (su (su (sv (su (su (si S 22 (-1)) 29 992 0) 30 0 992) 0 0 1649317774848) 26 0 (-1)) 27 0 (-1)) 21 1) 23)) b (mw_0 cy a (si (su (su (sv (su (su (si S 22 (-1)) 29 992 0) 30 0 992) 0 0 1649317774848) 26 0 (-1)) 27 0 (-1)) 21 1)) rfl in_X12 (by decide) wf_X12_408 rfl dX12_gain_41 ?_
  refine z_eqi h_i_23 ?_
  refine z_if_eq_t (tgt := 50) b dX12_gain_44 (by decide) (by decide) ?_
  refine z_iconst (v := (-1)) b dX12_gain_50 (by decide) ?_
  refine z_istore (lv' := [(5, .int (-1)), (0, .ref (a 0)), (1, .int 2), (2, .int p0), (3, .int 0), (4, .int 1)]) b dX12_gain_51 (by decide) rfl ?_
  refine z_iconst (v := 0) b dX12_gain_53 (by decide) ?_
  refine z_istore (lv' := [(6, .int 0), (5, .int (-1)), (0, .ref (a 0)), (1, .int 2), (2, .int p0), (3, .int 0), (4, .int 1)]) b dX12_gain_54 (by decide) rfl ?_
  refine z_iconst (v := 0) b dX12_gain_56 (by decide) ?_
  refine z_istore (lv' := [(7, .int 0), (6, .int 0), (5, .int (-1)), (0, .ref (a 0)), (1, .int 2), (2, .int p0), (3, .int 0), (4, .int 1)]) b dX12_gain_57 (by decide) rfl ?_
  refine z_iload b dX12_gain_59 rfl ?_
  refine z_aload_n b dX12_gain_61 rfl rfl ?_
  refine z_get (q0 := 0) (k9 := 55) (v := .int 1) b (mw_0 cy a (si (su (su (sv (su (su (si S 22 (-1)) 29 992 0) 30 0 992) 0 0 1649317774848) 26 0 (-1)) 27 0 (-1)) 21 1)) rfl in_X12 (by decide) wf_X12_405 rfl dX12_gain_62 ?_
  refine z_icmp_ge_f (tgt := 147) b dX12_gain_65 (by decide) (by decide) ?_
  refine z_aload_n b dX12_gain_68 rfl rfl ?_
  refine z_aload_n b dX12_gain_69 rfl rfl ?_
  refine z_get (q0 := 0) (k9 := 49) (v := .ref (a 27)) b (mw_0 cy a (si (su (su (sv (su (su (si S 22 (-1)) 29 992 0) 30 0 992) 0 0 1649317774848) 26 0 (-1)) 27 0 (-1)) 21 1)) rfl in_X12 (by decide) wf_X12_97 rfl dX12_gain_70 ?_
  refine z_iload b dX12_gain_73 rfl ?_
  refine y_lald (q0 := 27) (j := 0) (v := 1649317774848) b (mw_27 cy a (si (su (su (sv (su (su (si S 22 (-1)) 29 992 0) 30 0 992) 0 0 1649317774848) 26 0 (-1)) 27 0 (-1)) 21 1)) (by decide) rfl dX12_gain_75 ?_
  refine z_callv b (z_runV (q0 := 0) (As := [.long 1649317774848]) (st := []) b (c_X12_takes (si (su (su (sv (su (su (si S 22 (-1)) 29 992 0) 30 0 992) 0 0 1649317774848) 26 0 (-1)) 27 0 (-1)) 21 1) h_a_4_7 h_a_1_7 h_a_4_6 h_a_1_6 h_a_3_6 h_a_3_2 h_a_2_2 h_a_0_2 h_a_4_3 h_a_1_3 h_a_4_5 h_a_1_5 h_a_3_5 h_a_3_7 h_a_2_1 h_a_0_1 h_a_4_2 h_a_1_2 h_a_4_1 h_a_1_1 h_a_3_1 h_a_3_3 h_a_2_0 h_a_0_0 h_i_0) cf_X12_takes (mw_0 cy a (si (su (su (sv (su (su (si S 22 (-1)) 29 992 0) 30 0 992) 0 0 1649317774848) 26 0 (-1)) 27 0 (-1)) 21 1)) rfl wm_X12_174 wi_X12_takes ws_X12_takes dX12_gain_76 rfl (Nat.le_of_ble_eq_true rfl) ⟨by decide, by decide, by decide, by decide⟩) (fun u12991 h12989 => ?_)
  obtain rfl := h12989
  refine z_aload_n b dX12_gain_79 rfl rfl ?_
  refine z_get (q0 := 0) (k9 := 0) (v := .ref (a 1)) b (mw_0 cy a (si (su (su (sv (su (su (si S 22 (-1)) 29 992 0) 30 0 992) 0 0 1649317774848) 26 0 (-1)) 27 0 (-1)) 21 1)) rfl in_X12 (by decide) wf_X12_13 rfl dX12_gain_80 ?_
  refine z_iload_n b dX12_gain_83 rfl rfl ?_
  refine y_iald (q0 := 1) (j := 2) (v := (ar (si (su (su (sv (su (su (si S 22 (-1)) 29 992 0) 30 0 992) 0 0 1649317774848) 26 0 (-1)) 27 0 (-1)) 21 1) 0 2)) b (mw_1 cy a (si (su (su (sv (su (su (si S 22 (-1)) 29 992 0) 30 0 992) 0 0 1649317774848) 26 0 (-1)) 27 0 (-1)) 21 1)) (by decide) rfl dX12_gain_84 ?_
  refine z_eqi h_a_0_2 ?_
  refine z_aload_n b dX12_gain_85 rfl rfl ?_
  refine z_get (q0 := 0) (k9 := 1) (v := .ref (a 2)) b (mw_0 cy a (si (su (su (sv (su (su (si S 22 (-1)) 29 992 0) 30 0 992) 0 0 1649317774848) 26 0 (-1)) 27 0 (-1)) 21 1)) rfl in_X12 (by decide) wf_X12_17 rfl dX12_gain_86 ?_
  refine z_iconst (v := 3) b dX12_gain_89 (by decide) ?_
  refine z_iload_n b dX12_gain_90 rfl rfl ?_
  refine z_imul (v := 6) b dX12_gain_91 (by decide) ?_
  refine z_iload_n b dX12_gain_92 rfl rfl ?_
  refine z_iconst (v := 0) b dX12_gain_93 (by decide) ?_
  refine z_calli b (z_runS (As := [.int 2, .int 0]) (st := [.int 6, .ref (a 2), .int 0]) b (c_X12_other_2 (si (su (su (sv (su (su (si S 22 (-1)) 29 992 0) 30 0 992) 0 0 1649317774848) 26 0 (-1)) 27 0 (-1)) 21 1) ) cf_X12_other wm_X12_160 ws_X12_other dX12_gain_94 rfl (Nat.le_of_ble_eq_true rfl) ⟨by decide, by decide, by decide, by decide⟩) (fun r12993 u12994 h12992 => ?_)
  obtain ⟨rfl, rfl⟩ := h12992
  refine z_iadd (v := 6) b dX12_gain_97 (by decide) ?_
  refine y_iald (q0 := 2) (j := 6) (v := (ar (si (su (su (sv (su (su (si S 22 (-1)) 29 992 0) 30 0 992) 0 0 1649317774848) 26 0 (-1)) 27 0 (-1)) 21 1) 1 6)) b (mw_2 cy a (si (su (su (sv (su (su (si S 22 (-1)) 29 992 0) 30 0 992) 0 0 1649317774848) 26 0 (-1)) 27 0 (-1)) 21 1)) (by decide) rfl dX12_gain_98 ?_
  refine z_eqi h_a_1_6 ?_
  refine z_isub (v := 0) b dX12_gain_99 (by decide) ?_
  refine z_aload_n b dX12_gain_100 rfl rfl ?_
  refine z_get (q0 := 0) (k9 := 1) (v := .ref (a 2)) b (mw_0 cy a (si (su (su (sv (su (su (si S 22 (-1)) 29 992 0) 30 0 992) 0 0 1649317774848) 26 0 (-1)) 27 0 (-1)) 21 1)) rfl in_X12 (by decide) wf_X12_17 rfl dX12_gain_101 ?_
  refine z_iconst (v := 3) b dX12_gain_104 (by decide) ?_
  refine z_iload_n b dX12_gain_105 rfl rfl ?_
  refine z_imul (v := 6) b dX12_gain_106 (by decide) ?_
  refine z_iload_n b dX12_gain_107 rfl rfl ?_
  refine z_iconst (v := 1) b dX12_gain_108 (by decide) ?_
  refine z_calli b (z_runS (As := [.int 2, .int 1]) (st := [.int 6, .ref (a 2), .int 0]) b (c_X12_other (si (su (su (sv (su (su (si S 22 (-1)) 29 992 0) 30 0 992) 0 0 1649317774848) 26 0 (-1)) 27 0 (-1)) 21 1) ) cf_X12_other wm_X12_160 ws_X12_other dX12_gain_109 rfl (Nat.le_of_ble_eq_true rfl) ⟨by decide, by decide, by decide, by decide⟩) (fun r12996 u12997 h12995 => ?_)
  obtain ⟨rfl, rfl⟩ := h12995
  refine z_iadd (v := 7) b dX12_gain_112 (by decide) ?_
  refine y_iald (q0 := 2) (j := 7) (v := (ar (si (su (su (sv (su (su (si S 22 (-1)) 29 992 0) 30 0 992) 0 0 1649317774848) 26 0 (-1)) 27 0 (-1)) 21 1) 1 7)) b (mw_2 cy a (si (su (su (sv (su (su (si S 22 (-1)) 29 992 0) 30 0 992) 0 0 1649317774848) 26 0 (-1)) 27 0 (-1)) 21 1)) (by decide) rfl dX12_gain_113 ?_
  refine z_eqi h_a_1_7 ?_
  refine z_isub (v := 0) b dX12_gain_114 (by decide) ?_
  refine z_istore (lv' := [(8, .int 0), (7, .int 0), (6, .int 0), (5, .int (-1)), (0, .ref (a 0)), (1, .int 2), (2, .int p0), (3, .int 0), (4, .int 1)]) b dX12_gain_115 (by decide) rfl ?_
  refine z_iload b dX12_gain_117 rfl ?_
  refine z_iconst (v := (-1)) b dX12_gain_119 (by decide) ?_
  refine z_icmp_eq_t (tgt := 133) b dX12_gain_120 (by decide) (by decide) ?_
  refine z_iload b dX12_gain_133 rfl ?_
  refine z_istore (lv' := [(5, .int 0), (8, .int 0), (7, .int 0), (6, .int 0), (0, .ref (a 0)), (1, .int 2), (2, .int p0), (3, .int 0), (4, .int 1)]) b dX12_gain_135 (by decide) rfl ?_
  refine z_iload b dX12_gain_137 rfl ?_
  refine z_istore (lv' := [(6, .int 0), (5, .int 0), (8, .int 0), (7, .int 0), (0, .ref (a 0)), (1, .int 2), (2, .int p0), (3, .int 0), (4, .int 1)]) b dX12_gain_139 (by decide) rfl ?_
  refine z_iinc (k9 := 3) (v := 1) (lv' := [(7, .int 1), (6, .int 0), (5, .int 0), (8, .int 0), (0, .ref (a 0)), (1, .int 2), (2, .int p0), (3, .int 0), (4, .int 1)]) b dX12_gain_141 rfl (by decide) (by decide) rfl ?_
  refine z_goto (tgt := 59) b dX12_gain_144 (by decide) ?_
  refine z_iload b dX12_gain_59 rfl ?_
  refine z_aload_n b dX12_gain_61 rfl rfl ?_
  refine z_get (q0 := 0) (k9 := 55) (v := .int 1) b (mw_0 cy a (si (su (su (sv (su (su (si S 22 (-1)) 29 992 0) 30 0 992) 0 0 1649317774848) 26 0 (-1)) 27 0 (-1)) 21 1)) rfl in_X12 (by decide) wf_X12_405 rfl dX12_gain_62 ?_
  refine z_icmp_ge_t (tgt := 147) b dX12_gain_65 (by decide) (by decide) ?_
  refine z_iload b dX12_gain_147 rfl ?_
  refine z_iconst (v := 2) b dX12_gain_149 (by decide) ?_
  refine z_icmp_ge_f (tgt := 171) b dX12_gain_150 (by decide) (by decide) ?_
  refine z_iload b dX12_gain_153 rfl ?_
  refine z_if_ne_t (tgt := 163) b dX12_gain_155 (by decide) (by decide) ?_
  refine z_aload_n b dX12_gain_163 rfl rfl ?_
  refine z_get (q0 := 0) (k9 := 52) (v := .ref (a 30)) b (mw_0 cy a (si (su (su (sv (su (su (si S 22 (-1)) 29 992 0) 30 0 992) 0 0 1649317774848) 26 0 (-1)) 27 0 (-1)) 21 1)) rfl in_X12 (by decide) wf_X12_107 rfl dX12_gain_164 ?_
  refine z_iload b dX12_gain_167 rfl ?_
  refine y_iald (q0 := 30) (j := 0) (v := (ar (si (su (su (sv (su (su (si S 22 (-1)) 29 992 0) 30 0 992) 0 0 1649317774848) 26 0 (-1)) 27 0 (-1)) 21 1) 28 0)) b (mw_30 cy a (si (su (su (sv (su (su (si S 22 (-1)) 29 992 0) 30 0 992) 0 0 1649317774848) 26 0 (-1)) 27 0 (-1)) 21 1)) (by decide) rfl dX12_gain_169 ?_
  refine z_eqi h_a_28_0 ?_
  exact z_iret (u := (si (su (su (sv (su (su (si S 22 (-1)) 29 992 0) 30 0 992) 0 0 1649317774848) 26 0 (-1)) 27 0 (-1)) 21 1)) b rfl dX12_gain_170 ⟨rfl, rfl⟩ rfl (by decide) (by decide)

set_option maxHeartbeats 4000000 in
set_option maxRecDepth 100000 in
theorem c_X11_gain_38 {l : Launch} {D : va_G} {cy : Nat → ClassId} {T0 tB tE : Nat} {a : Nat → Nat} {rw : Nat → Option Nat} (S : GS) (p0 : Int32) (p1 : Int32) (h_i_19 : fi S 19 = 0) (h_i_24 : fi S 24 = 0) (h_i_20 : fi S 20 = 0) (h_i_22 : fi S 22 = 0) (h_i_18 : fi S 18 = 0) (h_i_25 : fi S 25 = 0) (h_i_23 : fi S 23 = 0) (h_i_26 : fi S 26 = 0) (h_a_4_50 : ar S 4 50 = 0) (h_a_4_40 : ar S 4 40 = 3) (h_a_4_41 : ar S 4 41 = 3) (h_a_4_42 : ar S 4 42 = 3) (h_a_4_0 : ar S 4 0 = 0) (h_a_4_11 : ar S 4 11 = 0) (h_a_4_21 : ar S 4 21 = 0) (h_a_4_31 : ar S 4 31 = 0) (h_a_4_12 : ar S 4 12 = 0) (h_a_4_22 : ar S 4 22 = 0) (h_a_4_32 : ar S 4 32 = 0) (h_a_4_1 : ar S 4 1 = 0) (h_a_4_13 : ar S 4 13 = 0) (h_a_4_23 : ar S 4 23 = 0) (h_a_4_33 : ar S 4 33 = 0) (h_a_4_15 : ar S 4 15 = 0) (h_a_4_25 : ar S 4 25 = 0) (h_a_4_35 : ar S 4 35 = 0) (h_a_4_2 : ar S 4 2 = 0) (h_a_4_16 : ar S 4 16 = 0) (h_a_4_26 : ar S 4 26 = 0) (h_a_4_36 : ar S 4 36 = 0) (h_a_4_17 : ar S 4 17 = 0) (h_a_4_27 : ar S 4 27 = 0) (h_a_4_37 : ar S 4 37 = 0) (h_a_10_0 : ar S 10 0 = 0) (h_a_9_50 : ar S 9 50 = 0) (h_a_9_40 : ar S 9 40 = 3) (h_a_9_41 : ar S 9 41 = 3) (h_a_9_42 : ar S 9 42 = 3) (h_a_9_0 : ar S 9 0 = 0) (h_a_9_11 : ar S 9 11 = 0) (h_a_9_21 : ar S 9 21 = 0) (h_a_9_31 : ar S 9 31 = 0) (h_a_9_12 : ar S 9 12 = 0) (h_a_9_22 : ar S 9 22 = 0) (h_a_9_32 : ar S 9 32 = 0) (h_a_9_1 : ar S 9 1 = 0) (h_a_9_13 : ar S 9 13 = 0) (h_a_9_23 : ar S 9 23 = 0) (h_a_9_33 : ar S 9 33 = 0) (h_a_9_15 : ar S 9 15 = 0) (h_a_9_25 : ar S 9 25 = 0) (h_a_9_35 : ar S 9 35 = 0) (h_a_9_2 : ar S 9 2 = 0) (h_a_9_16 : ar S 9 16 = 0) (h_a_9_26 : ar S 9 26 = 0) (h_a_9_36 : ar S 9 36 = 0) (h_a_9_17 : ar S 9 17 = 0) (h_a_9_27 : ar S 9 27 = 0) (h_a_9_37 : ar S 9 37 = 0) (hr_p0 : 1 ≤ p0.toInt ∧ p0.toInt ≤ 3) (hr_p1 : 2 ≤ p1.toInt ∧ p1.toInt ≤ 7) : Ct l D cy T0 tB tE yX11_gain cX11_gain 7 (some .int) 5 117 0 0 (cw cy tE a rw S) [.ref (a 0), .int 2, .int p0, .int 0, .int p1] (QI D (U := GS) (fun r u => (-100) = r ∧ (su (si (su (su (sv (sa (si (si (si S 24 1) 19 p0) 21 7) 13 (fil 1024 0 (ar (si (si (si S 24 1) 19 p0) 21 7) 13))) 2 0 4128768) 11 0 (-1)) 12 0 (-1)) 25 1) 13 978 1) = u) (cw cy tE a rw)) := by
  refine Ct.ofZ RX11 "gain" [(0, .ref (a 0)), (1, .int 2), (2, .int p0), (3, .int 0), (4, .int p1)] rfl rfl rfl rfl (Nat.le_of_ble_eq_true rfl) ?_
  intro p e R s m args below meth c A b
  refine z_iload_n b dX11_gain_0 rfl rfl ?_
  refine z_calli b (z_runS (As := [.int 2]) (st := []) b (c_X11_isPerson_5 S ) cf_X11_isPerson wm_X11_69 ws_X11_isPerson dX11_gain_1 rfl (Nat.le_of_ble_eq_true rfl) ⟨by decide, by decide, by decide, by decide⟩) (fun r12999 u13000 h12998 => ?_)
  obtain ⟨rfl, rfl⟩ := h12998
  refine z_if_eq_f (tgt := 26) b dX11_gain_4 (by decide) (by decide) ?_
  refine z_iload_n b dX11_gain_7 rfl rfl ?_
  refine z_calli b (z_runS (As := [.int p0]) (st := []) b (c_X11_areLaws_3 S p0 ⟨by omega, by omega⟩) cf_X11_areLaws wm_X11_181 ws_X11_areLaws dX11_gain_8 rfl (Nat.le_of_ble_eq_true rfl) ⟨by decide, by decide, by decide, by decide⟩) (fun r13002 u13003 h13001 => ?_)
  obtain ⟨rfl, rfl⟩ := h13001
  refine z_if_eq_f (tgt := 26) b dX11_gain_11 (by decide) (by decide) ?_
  refine z_iload_n b dX11_gain_14 rfl rfl ?_
  refine z_calli b (z_runS (As := [.int 0]) (st := []) b (c_X11_isDepth_2 S ) cf_X11_isDepth wm_X11_203 ws_X11_isDepth dX11_gain_15 rfl (Nat.le_of_ble_eq_true rfl) ⟨by decide, by decide, by decide, by decide⟩) (fun r13005 u13006 h13004 => ?_)
  obtain ⟨rfl, rfl⟩ := h13004
  refine z_if_eq_f (tgt := 26) b dX11_gain_18 (by decide) (by decide) ?_
  refine z_iload b dX11_gain_21 rfl ?_
  refine y_if_ge (tgt := 29) (xl := p1.toInt) b rfl dX11_gain_23 (by decide) (fun c13007 => ?_) (fun c13007 => ?_)
  · refine z_aload_n b dX11_gain_29 rfl rfl ?_
    refine z_get (q0 := 0) (k9 := 6) (v := .ref (a 25)) b (cw_0 cy tE a rw S) rfl in_X11 (by decide) wf_X11_52 rfl dX11_gain_30 ?_
    refine z_iload_n b dX11_gain_33 rfl rfl ?_
    refine z_iload_n b dX11_gain_34 rfl rfl ?_
    refine z_bipush (v := 7) b dX11_gain_35 (by decide) ?_
    refine z_iconst (v := 0) b dX11_gain_37 (by decide) ?_
    refine z_callv b (z_runV (q0 := 25) (As := [.int p0, .int 0, .int 7, .int 0]) (st := []) b (c_X8_begin S p0 h_i_19 h_i_24 h_i_20 h_i_22 h_i_18 h_i_25 h_i_23 h_i_26 h_a_4_50 h_a_4_40 h_a_4_41 h_a_4_42 h_a_4_0 h_a_4_11 h_a_4_21 h_a_4_31 h_a_4_12 h_a_4_22 h_a_4_32 h_a_4_1 h_a_4_13 h_a_4_23 h_a_4_33 h_a_4_15 h_a_4_25 h_a_4_35 h_a_4_2 h_a_4_16 h_a_4_26 h_a_4_36 h_a_4_17 h_a_4_27 h_a_4_37 h_a_10_0 ⟨by omega, by omega⟩) cf_X8_begin (cw_25 cy tE a rw S) rfl wm_X11_206 wi_X8_begin ws_X8_begin dX11_gain_38 rfl (Nat.le_of_ble_eq_true rfl) ⟨by decide, by decide, by decide, by decide⟩) (fun u13010 h13008 => ?_)
    obtain rfl := h13008
    refine z_aload_n b dX11_gain_41 rfl rfl ?_
    refine z_get (q0 := 0) (k9 := 6) (v := .ref (a 25)) b (cw_0 cy tE a rw (su (si (su (su (sv (sa (si (si (si S 24 1) 19 p0) 21 7) 13 (fil 1024 0 (ar (si (si (si S 24 1) 19 p0) 21 7) 13))) 2 0 4128768) 11 0 (-1)) 12 0 (-1)) 25 1) 13 978 1)) rfl in_X11 (by decide) wf_X11_52 rfl dX11_gain_42 ?_
    refine z_callv b (z_runV (q0 := 25) (As := []) (st := []) b (c_X8_finish (su (si (su (su (sv (sa (si (si (si S 24 1) 19 p0) 21 7) 13 (fil 1024 0 (ar (si (si (si S 24 1) 19 p0) 21 7) 13))) 2 0 4128768) 11 0 (-1)) 12 0 (-1)) 25 1) 13 978 1) h_i_26 h_i_23 rfl h_a_10_0 h_i_20) cf_X8_finish (cw_25 cy tE a rw (su (si (su (su (sv (sa (si (si (si S 24 1) 19 p0) 21 7) 13 (fil 1024 0 (ar (si (si (si S 24 1) 19 p0) 21 7) 13))) 2 0 4128768) 11 0 (-1)) 12 0 (-1)) 25 1) 13 978 1)) rfl wm_X11_232 wi_X8_finish ws_X8_finish dX11_gain_45 rfl (Nat.le_of_ble_eq_true rfl) ⟨by decide, by decide, by decide, by decide⟩) (fun u13013 h13011 => ?_)
    obtain rfl := h13011
    refine z_aload_n b dX11_gain_48 rfl rfl ?_
    refine z_get (q0 := 0) (k9 := 6) (v := .ref (a 25)) b (cw_0 cy tE a rw (su (si (su (su (sv (sa (si (si (si S 24 1) 19 p0) 21 7) 13 (fil 1024 0 (ar (si (si (si S 24 1) 19 p0) 21 7) 13))) 2 0 4128768) 11 0 (-1)) 12 0 (-1)) 25 1) 13 978 1)) rfl in_X11 (by decide) wf_X11_52 rfl dX11_gain_49 ?_
    refine z_get (q0 := 25) (k9 := 18) (v := .int (fi (su (si (su (su (sv (sa (si (si (si S 24 1) 19 p0) 21 7) 13 (fil 1024 0 (ar (si (si (si S 24 1) 19 p0) 21 7) 13))) 2 0 4128768) 11 0 (-1)) 12 0 (-1)) 25 1) 13 978 1) 26)) b (cw_25 cy tE a rw (su (si (su (su (sv (sa (si (si (si S 24 1) 19 p0) 21 7) 13 (fil 1024 0 (ar (si (si (si S 24 1) 19 p0) 21 7) 13))) 2 0 4128768) 11 0 (-1)) 12 0 (-1)) 25 1) 13 978 1)) rfl in_X8 (by decide) wf_X11_214 rfl dX11_gain_52 ?_
    refine z_eqi h_i_26 ?_
    refine z_if_eq_t (tgt := 61) b dX11_gain_55 (by decide) (by decide) ?_
    refine z_aload_n b dX11_gain_61 rfl rfl ?_
    refine z_get (q0 := 0) (k9 := 6) (v := .ref (a 25)) b (cw_0 cy tE a rw (su (si (su (su (sv (sa (si (si (si S 24 1) 19 p0) 21 7) 13 (fil 1024 0 (ar (si (si (si S 24 1) 19 p0) 21 7) 13))) 2 0 4128768) 11 0 (-1)) 12 0 (-1)) 25 1) 13 978 1)) rfl in_X11 (by decide) wf_X11_52 rfl dX11_gain_62 ?_
    refine z_iload_n b dX11_gain_65 rfl rfl ?_
    refine z_calli b (z_runV (q0 := 25) (As := [.int 2]) (st := []) b (c_X8_richest_3 (su (si (su (su (sv (sa (si (si (si S 24 1) 19 p0) 21 7) 13 (fil 1024 0 (ar (si (si (si S 24 1) 19 p0) 21 7) 13))) 2 0 4128768) 11 0 (-1)) 12 0 (-1)) 25 1) 13 978 1) rfl rfl h_a_9_50 h_a_9_40 h_a_9_41 h_a_9_42 h_a_9_0 h_a_9_11 h_a_9_21 h_a_9_31 h_a_9_12 h_a_9_22 h_a_9_32 h_a_9_1 h_a_9_13 h_a_9_23 h_a_9_33 h_a_9_15 h_a_9_25 h_a_9_35 h_a_9_2 h_a_9_16 h_a_9_26 h_a_9_36 h_a_9_17 h_a_9_27 h_a_9_37) cf_X8_richest (cw_25 cy tE a rw (su (si (su (su (sv (sa (si (si (si S 24 1) 19 p0) 21 7) 13 (fil 1024 0 (ar (si (si (si S 24 1) 19 p0) 21 7) 13))) 2 0 4128768) 11 0 (-1)) 12 0 (-1)) 25 1) 13 978 1)) rfl wm_X11_238 wi_X8_richest ws_X8_richest dX11_gain_66 rfl (Nat.le_of_ble_eq_true rfl) ⟨by decide, by decide, by decide, by decide⟩) (fun r13015 u13016 h13014 => ?_)
    obtain ⟨rfl, rfl⟩ := h13014
    refine z_istore (lv' := [(5, .int 0), (0, .ref (a 0)), (1, .int 2), (2, .int p0), (3, .int 0), (4, .int p1)]) b dX11_gain_69 (by decide) rfl ?_
    refine z_iload b dX11_gain_71 rfl ?_
    refine y_if_ne (tgt := 87) (xl := p1.toInt) b rfl dX11_gain_73 (by decide) (fun c13017 => ?_) (fun c13017 => ?_)
    · refine z_iload b dX11_gain_87 rfl ?_
      refine z_iconst (v := 1) b dX11_gain_89 (by decide) ?_
      refine y_icmp_ne (tgt := 103) (xl := p1.toInt) (yl := 1) b rfl (by decide) dX11_gain_90 (by decide) (fun c13018 => ?_) (fun c13018 => ?_)
      · refine z_aload_n b dX11_gain_103 rfl rfl ?_
        refine z_get (q0 := 0) (k9 := 6) (v := .ref (a 25)) b (cw_0 cy tE a rw (su (si (su (su (sv (sa (si (si (si S 24 1) 19 p0) 21 7) 13 (fil 1024 0 (ar (si (si (si S 24 1) 19 p0) 21 7) 13))) 2 0 4128768) 11 0 (-1)) 12 0 (-1)) 25 1) 13 978 1)) rfl in_X11 (by decide) wf_X11_52 rfl dX11_gain_104 ?_
        refine z_iload b dX11_gain_107 rfl ?_
        refine z_iload b dX11_gain_109 rfl ?_
        refine z_iconst (v := 2) b dX11_gain_111 (by decide) ?_
        refine z_isub b dX11_gain_112 rfl ?_
        have f13019 : ((p1 - 2) : Int32).toInt = p1.toInt + (-2) := zisub (k := 2) (by decide) (by omega) (by omega)
        refine z_calli b (z_runV (q0 := 25) (As := [.int 0, .int (p1 - 2)]) (st := []) b (c_X8_code (su (si (su (su (sv (sa (si (si (si S 24 1) 19 p0) 21 7) 13 (fil 1024 0 (ar (si (si (si S 24 1) 19 p0) 21 7) 13))) 2 0 4128768) 11 0 (-1)) 12 0 (-1)) 25 1) 13 978 1) (p1 - 2) rfl h_a_10_0 ⟨by omega, by omega⟩) cf_X8_code (cw_25 cy tE a rw (su (si (su (su (sv (sa (si (si (si S 24 1) 19 p0) 21 7) 13 (fil 1024 0 (ar (si (si (si S 24 1) 19 p0) 21 7) 13))) 2 0 4128768) 11 0 (-1)) 12 0 (-1)) 25 1) 13 978 1)) rfl wm_X11_219 wi_X8_code ws_X8_code dX11_gain_113 rfl (Nat.le_of_ble_eq_true rfl) ⟨by decide, by decide, by decide, by decide⟩) (fun r13021 u13022 h13020 => ?_)
        obtain ⟨rfl, rfl⟩ := h13020
        refine z_istore (lv' := [(6, .int (-1)), (5, .int 0), (0, .ref (a 0)), (1, .int 2), (2, .int p0), (3, .int 0), (4, .int p1)]) b dX11_gain_116 (by decide) rfl ?_
        refine z_iload b dX11_gain_118 rfl ?_
        refine z_iconst (v := (-1)) b dX11_gain_120 (by decide) ?_
        refine z_icmp_ne_f (tgt := 129) b dX11_gain_121 (by decide) (by decide) ?_
        refine z_bipush (v := (-100)) b dX11_gain_124 (by decide) ?_
        refine z_goto (tgt := 131) b dX11_gain_126 (by decide) ?_
        exact z_iret (u := (su (si (su (su (sv (sa (si (si (si S 24 1) 19 p0) 21 7) 13 (fil 1024 0 (ar (si (si (si S 24 1) 19 p0) 21 7) 13))) 2 0 4128768) 11 0 (-1)) 12 0 (-1)) 25 1) 13 978 1)) b rfl dX11_gain_131 ⟨rfl, rfl⟩ rfl (by decide) (by decide)
      · exfalso; omega
    · exfalso; omega
  · exfalso; omega

set_option maxHeartbeats 4000000 in
set_option maxRecDepth 100000 in
theorem c_X12_gain_38 {l : Launch} {D : va_G} {cy : Nat → ClassId} {T0 tB tE : Nat} {a : Nat → Nat} (S : GS) (p0 : Int32) (p1 : Int32) (h_i_21 : fi S 21 = 0) (h_i_23 : fi S 23 = 0) (h_l_0 : fl S 0 = 1649317774848) (h_a_29_992 : ar S 29 992 = (-1)) (h_a_28_0 : ar S 28 0 = 0) (h_a_4_7 : ar S 4 7 = 0) (h_a_1_7 : ar S 1 7 = 0) (h_a_4_6 : ar S 4 6 = 0) (h_a_1_6 : ar S 1 6 = 0) (h_a_3_6 : ar S 3 6 = 0) (h_a_3_2 : ar S 3 2 = 0) (h_a_2_2 : ar S 2 2 = 3) (h_a_0_2 : ar S 0 2 = 0) (h_a_4_3 : ar S 4 3 = 0) (h_a_1_3 : ar S 1 3 = 0) (h_a_4_5 : ar S 4 5 = 0) (h_a_1_5 : ar S 1 5 = 0) (h_a_3_5 : ar S 3 5 = 0) (h_a_3_7 : ar S 3 7 = 0) (h_a_2_1 : ar S 2 1 = 3) (h_a_0_1 : ar S 0 1 = 0) (h_a_4_2 : ar S 4 2 = 0) (h_a_1_2 : ar S 1 2 = 0) (h_a_4_1 : ar S 4 1 = 0) (h_a_1_1 : ar S 1 1 = 0) (h_a_3_1 : ar S 3 1 = 0) (h_a_3_3 : ar S 3 3 = 0) (h_a_2_0 : ar S 2 0 = 3) (h_a_0_0 : ar S 0 0 = 0) (h_i_0 : fi S 0 = 0) (hr_p0 : 1 ≤ p0.toInt ∧ p0.toInt ≤ 3) (hr_p1 : 2 ≤ p1.toInt ∧ p1.toInt ≤ 7) : Ct l D cy T0 tB tE yX12_gain cX12_gain 9 (some .int) 3 74 0 0 (mw cy a S) [.ref (a 0), .int 2, .int p0, .int 0, .int p1] (QI D (U := GS) (fun r u => (-100) = r ∧ (si (su (su (sv (su (su (si S 22 (-1)) 29 992 0) 30 0 992) 0 0 1649317774848) 26 0 (-1)) 27 0 (-1)) 21 1) = u) (mw cy a)) := by
  refine Ct.ofZ RX12 "gain" [(0, .ref (a 0)), (1, .int 2), (2, .int p0), (3, .int 0), (4, .int p1)] rfl rfl rfl rfl (Nat.le_of_ble_eq_true rfl) ?_
  intro p e R s m args below meth c A b
  refine z_iload_n b dX12_gain_0 rfl rfl ?_
  refine z_calli b (z_runS (As := [.int 2]) (st := []) b (c_X12_isOne_5 S ) cf_X12_isOne wm_X12_170 ws_X12_isOne dX12_gain_1 rfl (Nat.le_of_ble_eq_true rfl) ⟨by decide, by decide, by decide, by decide⟩) (fun r13024 u13025 h13023 => ?_)
  obtain ⟨rfl, rfl⟩ := h13023
  refine z_if_eq_f (tgt := 27) b dX12_gain_4 (by decide) (by decide) ?_
  refine z_aload_n b dX12_gain_7 rfl rfl ?_
  refine z_iload_n b dX12_gain_8 rfl rfl ?_
  refine z_iload_n b dX12_gain_9 rfl rfl ?_
  refine z_calli b (z_runV (q0 := 0) (As := [.int p0, .int 0]) (st := []) b (c_X12_canSearch_4 S p0 ⟨by omega, by omega⟩) cf_X12_canSearch (mw_0 cy a S) rfl wm_X12_433 wi_X12_canSearch ws_X12_canSearch dX12_gain_10 rfl (Nat.le_of_ble_eq_true rfl) ⟨by decide, by decide, by decide, by decide⟩) (fun r13027 u13028 h13026 => ?_)
  obtain ⟨rfl, rfl⟩ := h13026
  refine z_if_eq_f (tgt := 27) b dX12_gain_13 (by decide) (by decide) ?_
  refine z_iload b dX12_gain_16 rfl ?_
  refine z_iconst (v := 0) b dX12_gain_18 (by decide) ?_
  refine z_bipush (v := 7) b dX12_gain_19 (by decide) ?_
  refine z_calli b (z_runS (As := [.int p1, .int 0, .int 7]) (st := []) b (c_X12_isIn_61 S p1 ⟨by omega, by omega⟩) cf_X12_isIn wm_X12_1 ws_X12_isIn dX12_gain_21 rfl (Nat.le_of_ble_eq_true rfl) ⟨by decide, by decide, by decide, by decide⟩) (fun r13030 u13031 h13029 => ?_)
  obtain ⟨rfl, rfl⟩ := h13029
  refine z_if_ne_t (tgt := 30) b dX12_gain_24 (by decide) (by decide) ?_
  refine z_aload_n b dX12_gain_30 rfl rfl ?_
  refine z_iconst (v := (-1)) b dX12_gain_31 (by decide) ?_
  refine z_iload_n b dX12_gain_32 rfl rfl ?_
  refine z_iload_n b dX12_gain_33 rfl rfl ?_
  refine z_bipush (v := 7) b dX12_gain_34 (by decide) ?_
  refine z_iconst (v := 0) b dX12_gain_36 (by decide) ?_
  refine z_callv b (z_runV (q0 := 0) (As := [.int (-1), .int p0, .int 0, .int 7, .int 0]) (st := []) b (c_X12_searches S p0 h_i_21 h_i_23 h_l_0 h_a_29_992 h_a_28_0 ⟨by omega, by omega⟩) cf_X12_searches (mw_0 cy a S) rfl wm_X12_436 wi_X12_searches ws_X12_searches dX12_gain_37 rfl (Nat.le_of_ble_eq_true rfl) ⟨by decide, by decide, by decide, by decide⟩) (fun u13034 h13032 => ?_)
  obtain rfl := h13032
  refine z_aload_n b dX12_gain_40 rfl rfl ?_
  refine z_get (q0 := 0) (k9 := 57) (v := .int (fi (si (su (su (sv (su (su (si S 22 (-1)) 29 992 0) 30 0 992) 0 0 1649317774848) 26 0 (-1)) 27 0 (-1)) 21 1) 23)) b (mw_0 cy a (si (su (su (sv (su (su (si S 22 (-1)) 29 992 0) 30 0 992) 0 0 1649317774848) 26 0 (-1)) 27 0 (-1)) 21 1)) rfl in_X12 (by decide) wf_X12_408 rfl dX12_gain_41 ?_
  refine z_eqi h_i_23 ?_
  refine z_if_eq_t (tgt := 50) b dX12_gain_44 (by decide) (by decide) ?_
  refine z_iconst (v := (-1)) b dX12_gain_50 (by decide) ?_
  refine z_istore (lv' := [(5, .int (-1)), (0, .ref (a 0)), (1, .int 2), (2, .int p0), (3, .int 0), (4, .int p1)]) b dX12_gain_51 (by decide) rfl ?_
  refine z_iconst (v := 0) b dX12_gain_53 (by decide) ?_
  refine z_istore (lv' := [(6, .int 0), (5, .int (-1)), (0, .ref (a 0)), (1, .int 2), (2, .int p0), (3, .int 0), (4, .int p1)]) b dX12_gain_54 (by decide) rfl ?_
  refine z_iconst (v := 0) b dX12_gain_56 (by decide) ?_
  refine z_istore (lv' := [(7, .int 0), (6, .int 0), (5, .int (-1)), (0, .ref (a 0)), (1, .int 2), (2, .int p0), (3, .int 0), (4, .int p1)]) b dX12_gain_57 (by decide) rfl ?_
  refine z_iload b dX12_gain_59 rfl ?_
  refine z_aload_n b dX12_gain_61 rfl rfl ?_
  refine z_get (q0 := 0) (k9 := 55) (v := .int 1) b (mw_0 cy a (si (su (su (sv (su (su (si S 22 (-1)) 29 992 0) 30 0 992) 0 0 1649317774848) 26 0 (-1)) 27 0 (-1)) 21 1)) rfl in_X12 (by decide) wf_X12_405 rfl dX12_gain_62 ?_
  refine z_icmp_ge_f (tgt := 147) b dX12_gain_65 (by decide) (by decide) ?_
  refine z_aload_n b dX12_gain_68 rfl rfl ?_
  refine z_aload_n b dX12_gain_69 rfl rfl ?_
  refine z_get (q0 := 0) (k9 := 49) (v := .ref (a 27)) b (mw_0 cy a (si (su (su (sv (su (su (si S 22 (-1)) 29 992 0) 30 0 992) 0 0 1649317774848) 26 0 (-1)) 27 0 (-1)) 21 1)) rfl in_X12 (by decide) wf_X12_97 rfl dX12_gain_70 ?_
  refine z_iload b dX12_gain_73 rfl ?_
  refine y_lald (q0 := 27) (j := 0) (v := 1649317774848) b (mw_27 cy a (si (su (su (sv (su (su (si S 22 (-1)) 29 992 0) 30 0 992) 0 0 1649317774848) 26 0 (-1)) 27 0 (-1)) 21 1)) (by decide) rfl dX12_gain_75 ?_
  refine z_callv b (z_runV (q0 := 0) (As := [.long 1649317774848]) (st := []) b (c_X12_takes (si (su (su (sv (su (su (si S 22 (-1)) 29 992 0) 30 0 992) 0 0 1649317774848) 26 0 (-1)) 27 0 (-1)) 21 1) h_a_4_7 h_a_1_7 h_a_4_6 h_a_1_6 h_a_3_6 h_a_3_2 h_a_2_2 h_a_0_2 h_a_4_3 h_a_1_3 h_a_4_5 h_a_1_5 h_a_3_5 h_a_3_7 h_a_2_1 h_a_0_1 h_a_4_2 h_a_1_2 h_a_4_1 h_a_1_1 h_a_3_1 h_a_3_3 h_a_2_0 h_a_0_0 h_i_0) cf_X12_takes (mw_0 cy a (si (su (su (sv (su (su (si S 22 (-1)) 29 992 0) 30 0 992) 0 0 1649317774848) 26 0 (-1)) 27 0 (-1)) 21 1)) rfl wm_X12_174 wi_X12_takes ws_X12_takes dX12_gain_76 rfl (Nat.le_of_ble_eq_true rfl) ⟨by decide, by decide, by decide, by decide⟩) (fun u13037 h13035 => ?_)
  obtain rfl := h13035
  refine z_aload_n b dX12_gain_79 rfl rfl ?_
  refine z_get (q0 := 0) (k9 := 0) (v := .ref (a 1)) b (mw_0 cy a (si (su (su (sv (su (su (si S 22 (-1)) 29 992 0) 30 0 992) 0 0 1649317774848) 26 0 (-1)) 27 0 (-1)) 21 1)) rfl in_X12 (by decide) wf_X12_13 rfl dX12_gain_80 ?_
  refine z_iload_n b dX12_gain_83 rfl rfl ?_
  refine y_iald (q0 := 1) (j := 2) (v := (ar (si (su (su (sv (su (su (si S 22 (-1)) 29 992 0) 30 0 992) 0 0 1649317774848) 26 0 (-1)) 27 0 (-1)) 21 1) 0 2)) b (mw_1 cy a (si (su (su (sv (su (su (si S 22 (-1)) 29 992 0) 30 0 992) 0 0 1649317774848) 26 0 (-1)) 27 0 (-1)) 21 1)) (by decide) rfl dX12_gain_84 ?_
  refine z_eqi h_a_0_2 ?_
  refine z_aload_n b dX12_gain_85 rfl rfl ?_
  refine z_get (q0 := 0) (k9 := 1) (v := .ref (a 2)) b (mw_0 cy a (si (su (su (sv (su (su (si S 22 (-1)) 29 992 0) 30 0 992) 0 0 1649317774848) 26 0 (-1)) 27 0 (-1)) 21 1)) rfl in_X12 (by decide) wf_X12_17 rfl dX12_gain_86 ?_
  refine z_iconst (v := 3) b dX12_gain_89 (by decide) ?_
  refine z_iload_n b dX12_gain_90 rfl rfl ?_
  refine z_imul (v := 6) b dX12_gain_91 (by decide) ?_
  refine z_iload_n b dX12_gain_92 rfl rfl ?_
  refine z_iconst (v := 0) b dX12_gain_93 (by decide) ?_
  refine z_calli b (z_runS (As := [.int 2, .int 0]) (st := [.int 6, .ref (a 2), .int 0]) b (c_X12_other_2 (si (su (su (sv (su (su (si S 22 (-1)) 29 992 0) 30 0 992) 0 0 1649317774848) 26 0 (-1)) 27 0 (-1)) 21 1) ) cf_X12_other wm_X12_160 ws_X12_other dX12_gain_94 rfl (Nat.le_of_ble_eq_true rfl) ⟨by decide, by decide, by decide, by decide⟩) (fun r13039 u13040 h13038 => ?_)
  obtain ⟨rfl, rfl⟩ := h13038
  refine z_iadd (v := 6) b dX12_gain_97 (by decide) ?_
  refine y_iald (q0 := 2) (j := 6) (v := (ar (si (su (su (sv (su (su (si S 22 (-1)) 29 992 0) 30 0 992) 0 0 1649317774848) 26 0 (-1)) 27 0 (-1)) 21 1) 1 6)) b (mw_2 cy a (si (su (su (sv (su (su (si S 22 (-1)) 29 992 0) 30 0 992) 0 0 1649317774848) 26 0 (-1)) 27 0 (-1)) 21 1)) (by decide) rfl dX12_gain_98 ?_
  refine z_eqi h_a_1_6 ?_
  refine z_isub (v := 0) b dX12_gain_99 (by decide) ?_
  refine z_aload_n b dX12_gain_100 rfl rfl ?_
  refine z_get (q0 := 0) (k9 := 1) (v := .ref (a 2)) b (mw_0 cy a (si (su (su (sv (su (su (si S 22 (-1)) 29 992 0) 30 0 992) 0 0 1649317774848) 26 0 (-1)) 27 0 (-1)) 21 1)) rfl in_X12 (by decide) wf_X12_17 rfl dX12_gain_101 ?_
  refine z_iconst (v := 3) b dX12_gain_104 (by decide) ?_
  refine z_iload_n b dX12_gain_105 rfl rfl ?_
  refine z_imul (v := 6) b dX12_gain_106 (by decide) ?_
  refine z_iload_n b dX12_gain_107 rfl rfl ?_
  refine z_iconst (v := 1) b dX12_gain_108 (by decide) ?_
  refine z_calli b (z_runS (As := [.int 2, .int 1]) (st := [.int 6, .ref (a 2), .int 0]) b (c_X12_other (si (su (su (sv (su (su (si S 22 (-1)) 29 992 0) 30 0 992) 0 0 1649317774848) 26 0 (-1)) 27 0 (-1)) 21 1) ) cf_X12_other wm_X12_160 ws_X12_other dX12_gain_109 rfl (Nat.le_of_ble_eq_true rfl) ⟨by decide, by decide, by decide, by decide⟩) (fun r13042 u13043 h13041 => ?_)
  obtain ⟨rfl, rfl⟩ := h13041
  refine z_iadd (v := 7) b dX12_gain_112 (by decide) ?_
  refine y_iald (q0 := 2) (j := 7) (v := (ar (si (su (su (sv (su (su (si S 22 (-1)) 29 992 0) 30 0 992) 0 0 1649317774848) 26 0 (-1)) 27 0 (-1)) 21 1) 1 7)) b (mw_2 cy a (si (su (su (sv (su (su (si S 22 (-1)) 29 992 0) 30 0 992) 0 0 1649317774848) 26 0 (-1)) 27 0 (-1)) 21 1)) (by decide) rfl dX12_gain_113 ?_
  refine z_eqi h_a_1_7 ?_
  refine z_isub (v := 0) b dX12_gain_114 (by decide) ?_
  refine z_istore (lv' := [(8, .int 0), (7, .int 0), (6, .int 0), (5, .int (-1)), (0, .ref (a 0)), (1, .int 2), (2, .int p0), (3, .int 0), (4, .int p1)]) b dX12_gain_115 (by decide) rfl ?_
  refine z_iload b dX12_gain_117 rfl ?_
  refine z_iconst (v := (-1)) b dX12_gain_119 (by decide) ?_
  refine z_icmp_eq_t (tgt := 133) b dX12_gain_120 (by decide) (by decide) ?_
  refine z_iload b dX12_gain_133 rfl ?_
  refine z_istore (lv' := [(5, .int 0), (8, .int 0), (7, .int 0), (6, .int 0), (0, .ref (a 0)), (1, .int 2), (2, .int p0), (3, .int 0), (4, .int p1)]) b dX12_gain_135 (by decide) rfl ?_
  refine z_iload b dX12_gain_137 rfl ?_
  refine z_istore (lv' := [(6, .int 0), (5, .int 0), (8, .int 0), (7, .int 0), (0, .ref (a 0)), (1, .int 2), (2, .int p0), (3, .int 0), (4, .int p1)]) b dX12_gain_139 (by decide) rfl ?_
  refine z_iinc (k9 := 3) (v := 1) (lv' := [(7, .int 1), (6, .int 0), (5, .int 0), (8, .int 0), (0, .ref (a 0)), (1, .int 2), (2, .int p0), (3, .int 0), (4, .int p1)]) b dX12_gain_141 rfl (by decide) (by decide) rfl ?_
  refine z_goto (tgt := 59) b dX12_gain_144 (by decide) ?_
  refine z_iload b dX12_gain_59 rfl ?_
  refine z_aload_n b dX12_gain_61 rfl rfl ?_
  refine z_get (q0 := 0) (k9 := 55) (v := .int 1) b (mw_0 cy a (si (su (su (sv (su (su (si S 22 (-1)) 29 992 0) 30 0 992) 0 0 1649317774848) 26 0 (-1)) 27 0 (-1)) 21 1)) rfl in_X12 (by decide) wf_X12_405 rfl dX12_gain_62 ?_
  refine z_icmp_ge_t (tgt := 147) b dX12_gain_65 (by decide) (by decide) ?_
  refine z_iload b dX12_gain_147 rfl ?_
  refine z_iconst (v := 2) b dX12_gain_149 (by decide) ?_
  refine y_icmp_ge (tgt := 171) (xl := p1.toInt) (yl := 2) b rfl (by decide) dX12_gain_150 (by decide) (fun c13044 => ?_) (fun c13044 => ?_)
  · refine z_iload b dX12_gain_171 rfl ?_
    refine z_iconst (v := 2) b dX12_gain_173 (by decide) ?_
    refine z_isub b dX12_gain_174 rfl ?_
    have f13045 : ((p1 - 2) : Int32).toInt = p1.toInt + (-2) := zisub (k := 2) (by decide) (by omega) (by omega)
    refine z_aload_n b dX12_gain_175 rfl rfl ?_
    refine z_get (q0 := 0) (k9 := 52) (v := .ref (a 30)) b (mw_0 cy a (si (su (su (sv (su (su (si S 22 (-1)) 29 992 0) 30 0 992) 0 0 1649317774848) 26 0 (-1)) 27 0 (-1)) 21 1)) rfl in_X12 (by decide) wf_X12_107 rfl dX12_gain_176 ?_
    refine z_iload b dX12_gain_179 rfl ?_
    refine y_iald (q0 := 30) (j := 0) (v := (ar (si (su (su (sv (su (su (si S 22 (-1)) 29 992 0) 30 0 992) 0 0 1649317774848) 26 0 (-1)) 27 0 (-1)) 21 1) 28 0)) b (mw_30 cy a (si (su (su (sv (su (su (si S 22 (-1)) 29 992 0) 30 0 992) 0 0 1649317774848) 26 0 (-1)) 27 0 (-1)) 21 1)) (by decide) rfl dX12_gain_181 ?_
    refine z_eqi h_a_28_0 ?_
    refine y_icmp_ge (tgt := 198) (xl := ((p1 - 2) : Int32).toInt) (yl := 0) b rfl (by decide) dX12_gain_182 (by decide) (fun c13046 => ?_) (fun c13046 => ?_)
    · refine z_bipush (v := (-100)) b dX12_gain_198 (by decide) ?_
      exact z_iret (u := (si (su (su (sv (su (su (si S 22 (-1)) 29 992 0) 30 0 992) 0 0 1649317774848) 26 0 (-1)) 27 0 (-1)) 21 1)) b rfl dX12_gain_200 ⟨rfl, rfl⟩ rfl (by decide) (by decide)
    · exfalso; omega
  · exfalso; omega

set_option maxHeartbeats 4000000 in
set_option maxRecDepth 100000 in
theorem c_X11_gain_39 {l : Launch} {D : va_G} {cy : Nat → ClassId} {T0 tB tE : Nat} {a : Nat → Nat} {rw : Nat → Option Nat} (S : GS) (p0 : Int32) (p1 : Int32) (h_i_19 : fi S 19 = 0) (h_i_24 : fi S 24 = 0) (h_i_20 : fi S 20 = 0) (h_i_22 : fi S 22 = 0) (h_i_18 : fi S 18 = 0) (h_i_25 : fi S 25 = 0) (h_i_23 : fi S 23 = 0) (h_i_26 : fi S 26 = 0) (h_a_4_50 : ar S 4 50 = 0) (h_a_4_40 : ar S 4 40 = 3) (h_a_4_41 : ar S 4 41 = 3) (h_a_4_42 : ar S 4 42 = 3) (h_a_4_0 : ar S 4 0 = 0) (h_a_4_11 : ar S 4 11 = 0) (h_a_4_21 : ar S 4 21 = 0) (h_a_4_31 : ar S 4 31 = 0) (h_a_4_12 : ar S 4 12 = 0) (h_a_4_22 : ar S 4 22 = 0) (h_a_4_32 : ar S 4 32 = 0) (h_a_4_1 : ar S 4 1 = 0) (h_a_4_13 : ar S 4 13 = 0) (h_a_4_23 : ar S 4 23 = 0) (h_a_4_33 : ar S 4 33 = 0) (h_a_4_15 : ar S 4 15 = 0) (h_a_4_25 : ar S 4 25 = 0) (h_a_4_35 : ar S 4 35 = 0) (h_a_4_2 : ar S 4 2 = 0) (h_a_4_16 : ar S 4 16 = 0) (h_a_4_26 : ar S 4 26 = 0) (h_a_4_36 : ar S 4 36 = 0) (h_a_4_17 : ar S 4 17 = 0) (h_a_4_27 : ar S 4 27 = 0) (h_a_4_37 : ar S 4 37 = 0) (h_a_10_0 : ar S 10 0 = 0) (h_a_9_50 : ar S 9 50 = 0) (h_a_9_40 : ar S 9 40 = 3) (h_a_9_41 : ar S 9 41 = 3) (h_a_9_42 : ar S 9 42 = 3) (h_a_9_0 : ar S 9 0 = 0) (h_a_9_11 : ar S 9 11 = 0) (h_a_9_21 : ar S 9 21 = 0) (h_a_9_31 : ar S 9 31 = 0) (h_a_9_12 : ar S 9 12 = 0) (h_a_9_22 : ar S 9 22 = 0) (h_a_9_32 : ar S 9 32 = 0) (h_a_9_1 : ar S 9 1 = 0) (h_a_9_13 : ar S 9 13 = 0) (h_a_9_23 : ar S 9 23 = 0) (h_a_9_33 : ar S 9 33 = 0) (h_a_9_15 : ar S 9 15 = 0) (h_a_9_25 : ar S 9 25 = 0) (h_a_9_35 : ar S 9 35 = 0) (h_a_9_2 : ar S 9 2 = 0) (h_a_9_16 : ar S 9 16 = 0) (h_a_9_26 : ar S 9 26 = 0) (h_a_9_36 : ar S 9 36 = 0) (h_a_9_17 : ar S 9 17 = 0) (h_a_9_27 : ar S 9 27 = 0) (h_a_9_37 : ar S 9 37 = 0) (hr_p0 : 1 ≤ p0.toInt ∧ p0.toInt ≤ 3) (hr_p1 : 8 ≤ p1.toInt ∧ p1.toInt ≤ 2147483647) : Ct l D cy T0 tB tE yX11_gain cX11_gain 7 (some .int) 5 117 0 0 (cw cy tE a rw S) [.ref (a 0), .int 2, .int p0, .int 0, .int p1] (QI D (U := GS) (fun r u => (-100) = r ∧ (su (si (su (su (sv (sa (si (si (si S 24 1) 19 p0) 21 7) 13 (fil 1024 0 (ar (si (si (si S 24 1) 19 p0) 21 7) 13))) 2 0 4128768) 11 0 (-1)) 12 0 (-1)) 25 1) 13 978 1) = u) (cw cy tE a rw)) := by
  refine Ct.ofZ RX11 "gain" [(0, .ref (a 0)), (1, .int 2), (2, .int p0), (3, .int 0), (4, .int p1)] rfl rfl rfl rfl (Nat.le_of_ble_eq_true rfl) ?_
  intro p e R s m args below meth c A b
  refine z_iload_n b dX11_gain_0 rfl rfl ?_
  refine z_calli b (z_runS (As := [.int 2]) (st := []) b (c_X11_isPerson_5 S ) cf_X11_isPerson wm_X11_69 ws_X11_isPerson dX11_gain_1 rfl (Nat.le_of_ble_eq_true rfl) ⟨by decide, by decide, by decide, by decide⟩) (fun r13048 u13049 h13047 => ?_)
  obtain ⟨rfl, rfl⟩ := h13047
  refine z_if_eq_f (tgt := 26) b dX11_gain_4 (by decide) (by decide) ?_
  refine z_iload_n b dX11_gain_7 rfl rfl ?_
  refine z_calli b (z_runS (As := [.int p0]) (st := []) b (c_X11_areLaws_3 S p0 ⟨by omega, by omega⟩) cf_X11_areLaws wm_X11_181 ws_X11_areLaws dX11_gain_8 rfl (Nat.le_of_ble_eq_true rfl) ⟨by decide, by decide, by decide, by decide⟩) (fun r13051 u13052 h13050 => ?_)
  obtain ⟨rfl, rfl⟩ := h13050
  refine z_if_eq_f (tgt := 26) b dX11_gain_11 (by decide) (by decide) ?_
  refine z_iload_n b dX11_gain_14 rfl rfl ?_
  refine z_calli b (z_runS (As := [.int 0]) (st := []) b (c_X11_isDepth_2 S ) cf_X11_isDepth wm_X11_203 ws_X11_isDepth dX11_gain_15 rfl (Nat.le_of_ble_eq_true rfl) ⟨by decide, by decide, by decide, by decide⟩) (fun r13054 u13055 h13053 => ?_)
  obtain ⟨rfl, rfl⟩ := h13053
  refine z_if_eq_f (tgt := 26) b dX11_gain_18 (by decide) (by decide) ?_
  refine z_iload b dX11_gain_21 rfl ?_
  refine y_if_ge (tgt := 29) (xl := p1.toInt) b rfl dX11_gain_23 (by decide) (fun c13056 => ?_) (fun c13056 => ?_)
  · refine z_aload_n b dX11_gain_29 rfl rfl ?_
    refine z_get (q0 := 0) (k9 := 6) (v := .ref (a 25)) b (cw_0 cy tE a rw S) rfl in_X11 (by decide) wf_X11_52 rfl dX11_gain_30 ?_
    refine z_iload_n b dX11_gain_33 rfl rfl ?_
    refine z_iload_n b dX11_gain_34 rfl rfl ?_
    refine z_bipush (v := 7) b dX11_gain_35 (by decide) ?_
    refine z_iconst (v := 0) b dX11_gain_37 (by decide) ?_
    refine z_callv b (z_runV (q0 := 25) (As := [.int p0, .int 0, .int 7, .int 0]) (st := []) b (c_X8_begin S p0 h_i_19 h_i_24 h_i_20 h_i_22 h_i_18 h_i_25 h_i_23 h_i_26 h_a_4_50 h_a_4_40 h_a_4_41 h_a_4_42 h_a_4_0 h_a_4_11 h_a_4_21 h_a_4_31 h_a_4_12 h_a_4_22 h_a_4_32 h_a_4_1 h_a_4_13 h_a_4_23 h_a_4_33 h_a_4_15 h_a_4_25 h_a_4_35 h_a_4_2 h_a_4_16 h_a_4_26 h_a_4_36 h_a_4_17 h_a_4_27 h_a_4_37 h_a_10_0 ⟨by omega, by omega⟩) cf_X8_begin (cw_25 cy tE a rw S) rfl wm_X11_206 wi_X8_begin ws_X8_begin dX11_gain_38 rfl (Nat.le_of_ble_eq_true rfl) ⟨by decide, by decide, by decide, by decide⟩) (fun u13059 h13057 => ?_)
    obtain rfl := h13057
    refine z_aload_n b dX11_gain_41 rfl rfl ?_
    refine z_get (q0 := 0) (k9 := 6) (v := .ref (a 25)) b (cw_0 cy tE a rw (su (si (su (su (sv (sa (si (si (si S 24 1) 19 p0) 21 7) 13 (fil 1024 0 (ar (si (si (si S 24 1) 19 p0) 21 7) 13))) 2 0 4128768) 11 0 (-1)) 12 0 (-1)) 25 1) 13 978 1)) rfl in_X11 (by decide) wf_X11_52 rfl dX11_gain_42 ?_
    refine z_callv b (z_runV (q0 := 25) (As := []) (st := []) b (c_X8_finish (su (si (su (su (sv (sa (si (si (si S 24 1) 19 p0) 21 7) 13 (fil 1024 0 (ar (si (si (si S 24 1) 19 p0) 21 7) 13))) 2 0 4128768) 11 0 (-1)) 12 0 (-1)) 25 1) 13 978 1) h_i_26 h_i_23 rfl h_a_10_0 h_i_20) cf_X8_finish (cw_25 cy tE a rw (su (si (su (su (sv (sa (si (si (si S 24 1) 19 p0) 21 7) 13 (fil 1024 0 (ar (si (si (si S 24 1) 19 p0) 21 7) 13))) 2 0 4128768) 11 0 (-1)) 12 0 (-1)) 25 1) 13 978 1)) rfl wm_X11_232 wi_X8_finish ws_X8_finish dX11_gain_45 rfl (Nat.le_of_ble_eq_true rfl) ⟨by decide, by decide, by decide, by decide⟩) (fun u13062 h13060 => ?_)
    obtain rfl := h13060
    refine z_aload_n b dX11_gain_48 rfl rfl ?_
    refine z_get (q0 := 0) (k9 := 6) (v := .ref (a 25)) b (cw_0 cy tE a rw (su (si (su (su (sv (sa (si (si (si S 24 1) 19 p0) 21 7) 13 (fil 1024 0 (ar (si (si (si S 24 1) 19 p0) 21 7) 13))) 2 0 4128768) 11 0 (-1)) 12 0 (-1)) 25 1) 13 978 1)) rfl in_X11 (by decide) wf_X11_52 rfl dX11_gain_49 ?_
    refine z_get (q0 := 25) (k9 := 18) (v := .int (fi (su (si (su (su (sv (sa (si (si (si S 24 1) 19 p0) 21 7) 13 (fil 1024 0 (ar (si (si (si S 24 1) 19 p0) 21 7) 13))) 2 0 4128768) 11 0 (-1)) 12 0 (-1)) 25 1) 13 978 1) 26)) b (cw_25 cy tE a rw (su (si (su (su (sv (sa (si (si (si S 24 1) 19 p0) 21 7) 13 (fil 1024 0 (ar (si (si (si S 24 1) 19 p0) 21 7) 13))) 2 0 4128768) 11 0 (-1)) 12 0 (-1)) 25 1) 13 978 1)) rfl in_X8 (by decide) wf_X11_214 rfl dX11_gain_52 ?_
    refine z_eqi h_i_26 ?_
    refine z_if_eq_t (tgt := 61) b dX11_gain_55 (by decide) (by decide) ?_
    refine z_aload_n b dX11_gain_61 rfl rfl ?_
    refine z_get (q0 := 0) (k9 := 6) (v := .ref (a 25)) b (cw_0 cy tE a rw (su (si (su (su (sv (sa (si (si (si S 24 1) 19 p0) 21 7) 13 (fil 1024 0 (ar (si (si (si S 24 1) 19 p0) 21 7) 13))) 2 0 4128768) 11 0 (-1)) 12 0 (-1)) 25 1) 13 978 1)) rfl in_X11 (by decide) wf_X11_52 rfl dX11_gain_62 ?_
    refine z_iload_n b dX11_gain_65 rfl rfl ?_
    refine z_calli b (z_runV (q0 := 25) (As := [.int 2]) (st := []) b (c_X8_richest_3 (su (si (su (su (sv (sa (si (si (si S 24 1) 19 p0) 21 7) 13 (fil 1024 0 (ar (si (si (si S 24 1) 19 p0) 21 7) 13))) 2 0 4128768) 11 0 (-1)) 12 0 (-1)) 25 1) 13 978 1) rfl rfl h_a_9_50 h_a_9_40 h_a_9_41 h_a_9_42 h_a_9_0 h_a_9_11 h_a_9_21 h_a_9_31 h_a_9_12 h_a_9_22 h_a_9_32 h_a_9_1 h_a_9_13 h_a_9_23 h_a_9_33 h_a_9_15 h_a_9_25 h_a_9_35 h_a_9_2 h_a_9_16 h_a_9_26 h_a_9_36 h_a_9_17 h_a_9_27 h_a_9_37) cf_X8_richest (cw_25 cy tE a rw (su (si (su (su (sv (sa (si (si (si S 24 1) 19 p0) 21 7) 13 (fil 1024 0 (ar (si (si (si S 24 1) 19 p0) 21 7) 13))) 2 0 4128768) 11 0 (-1)) 12 0 (-1)) 25 1) 13 978 1)) rfl wm_X11_238 wi_X8_richest ws_X8_richest dX11_gain_66 rfl (Nat.le_of_ble_eq_true rfl) ⟨by decide, by decide, by decide, by decide⟩) (fun r13064 u13065 h13063 => ?_)
    obtain ⟨rfl, rfl⟩ := h13063
    refine z_istore (lv' := [(5, .int 0), (0, .ref (a 0)), (1, .int 2), (2, .int p0), (3, .int 0), (4, .int p1)]) b dX11_gain_69 (by decide) rfl ?_
    refine z_iload b dX11_gain_71 rfl ?_
    refine y_if_ne (tgt := 87) (xl := p1.toInt) b rfl dX11_gain_73 (by decide) (fun c13066 => ?_) (fun c13066 => ?_)
    · refine z_iload b dX11_gain_87 rfl ?_
      refine z_iconst (v := 1) b dX11_gain_89 (by decide) ?_
      refine y_icmp_ne (tgt := 103) (xl := p1.toInt) (yl := 1) b rfl (by decide) dX11_gain_90 (by decide) (fun c13067 => ?_) (fun c13067 => ?_)
      · refine z_aload_n b dX11_gain_103 rfl rfl ?_
        refine z_get (q0 := 0) (k9 := 6) (v := .ref (a 25)) b (cw_0 cy tE a rw (su (si (su (su (sv (sa (si (si (si S 24 1) 19 p0) 21 7) 13 (fil 1024 0 (ar (si (si (si S 24 1) 19 p0) 21 7) 13))) 2 0 4128768) 11 0 (-1)) 12 0 (-1)) 25 1) 13 978 1)) rfl in_X11 (by decide) wf_X11_52 rfl dX11_gain_104 ?_
        refine z_iload b dX11_gain_107 rfl ?_
        refine z_iload b dX11_gain_109 rfl ?_
        refine z_iconst (v := 2) b dX11_gain_111 (by decide) ?_
        refine z_isub b dX11_gain_112 rfl ?_
        have f13068 : ((p1 - 2) : Int32).toInt = p1.toInt + (-2) := zisub (k := 2) (by decide) (by omega) (by omega)
        refine z_calli b (z_runV (q0 := 25) (As := [.int 0, .int (p1 - 2)]) (st := []) b (c_X8_code_2 (su (si (su (su (sv (sa (si (si (si S 24 1) 19 p0) 21 7) 13 (fil 1024 0 (ar (si (si (si S 24 1) 19 p0) 21 7) 13))) 2 0 4128768) 11 0 (-1)) 12 0 (-1)) 25 1) 13 978 1) (p1 - 2) rfl h_a_10_0 ⟨by omega, by omega⟩) cf_X8_code (cw_25 cy tE a rw (su (si (su (su (sv (sa (si (si (si S 24 1) 19 p0) 21 7) 13 (fil 1024 0 (ar (si (si (si S 24 1) 19 p0) 21 7) 13))) 2 0 4128768) 11 0 (-1)) 12 0 (-1)) 25 1) 13 978 1)) rfl wm_X11_219 wi_X8_code ws_X8_code dX11_gain_113 rfl (Nat.le_of_ble_eq_true rfl) ⟨by decide, by decide, by decide, by decide⟩) (fun r13070 u13071 h13069 => ?_)
        obtain ⟨rfl, rfl⟩ := h13069
        refine z_istore (lv' := [(6, .int (-1)), (5, .int 0), (0, .ref (a 0)), (1, .int 2), (2, .int p0), (3, .int 0), (4, .int p1)]) b dX11_gain_116 (by decide) rfl ?_
        refine z_iload b dX11_gain_118 rfl ?_
        refine z_iconst (v := (-1)) b dX11_gain_120 (by decide) ?_
        refine z_icmp_ne_f (tgt := 129) b dX11_gain_121 (by decide) (by decide) ?_
        refine z_bipush (v := (-100)) b dX11_gain_124 (by decide) ?_
        refine z_goto (tgt := 131) b dX11_gain_126 (by decide) ?_
        exact z_iret (u := (su (si (su (su (sv (sa (si (si (si S 24 1) 19 p0) 21 7) 13 (fil 1024 0 (ar (si (si (si S 24 1) 19 p0) 21 7) 13))) 2 0 4128768) 11 0 (-1)) 12 0 (-1)) 25 1) 13 978 1)) b rfl dX11_gain_131 ⟨rfl, rfl⟩ rfl (by decide) (by decide)
      · exfalso; omega
    · exfalso; omega
  · exfalso; omega

set_option maxHeartbeats 4000000 in
set_option maxRecDepth 100000 in
theorem c_X12_gain_39 {l : Launch} {D : va_G} {cy : Nat → ClassId} {T0 tB tE : Nat} {a : Nat → Nat} (S : GS) (p0 : Int32) (p1 : Int32)  (hr_p0 : 1 ≤ p0.toInt ∧ p0.toInt ≤ 3) (hr_p1 : 8 ≤ p1.toInt ∧ p1.toInt ≤ 2147483647) : Ct l D cy T0 tB tE yX12_gain cX12_gain 9 (some .int) 2 44 0 0 (mw cy a S) [.ref (a 0), .int 2, .int p0, .int 0, .int p1] (QI D (U := GS) (fun r u => (-100) = r ∧ S = u) (mw cy a)) := by
  refine Ct.ofZ RX12 "gain" [(0, .ref (a 0)), (1, .int 2), (2, .int p0), (3, .int 0), (4, .int p1)] rfl rfl rfl rfl (Nat.le_of_ble_eq_true rfl) ?_
  intro p e R s m args below meth c A b
  refine z_iload_n b dX12_gain_0 rfl rfl ?_
  refine z_calli b (z_runS (As := [.int 2]) (st := []) b (c_X12_isOne_5 S ) cf_X12_isOne wm_X12_170 ws_X12_isOne dX12_gain_1 rfl (Nat.le_of_ble_eq_true rfl) ⟨by decide, by decide, by decide, by decide⟩) (fun r13073 u13074 h13072 => ?_)
  obtain ⟨rfl, rfl⟩ := h13072
  refine z_if_eq_f (tgt := 27) b dX12_gain_4 (by decide) (by decide) ?_
  refine z_aload_n b dX12_gain_7 rfl rfl ?_
  refine z_iload_n b dX12_gain_8 rfl rfl ?_
  refine z_iload_n b dX12_gain_9 rfl rfl ?_
  refine z_calli b (z_runV (q0 := 0) (As := [.int p0, .int 0]) (st := []) b (c_X12_canSearch_4 S p0 ⟨by omega, by omega⟩) cf_X12_canSearch (mw_0 cy a S) rfl wm_X12_433 wi_X12_canSearch ws_X12_canSearch dX12_gain_10 rfl (Nat.le_of_ble_eq_true rfl) ⟨by decide, by decide, by decide, by decide⟩) (fun r13076 u13077 h13075 => ?_)
  obtain ⟨rfl, rfl⟩ := h13075
  refine z_if_eq_f (tgt := 27) b dX12_gain_13 (by decide) (by decide) ?_
  refine z_iload b dX12_gain_16 rfl ?_
  refine z_iconst (v := 0) b dX12_gain_18 (by decide) ?_
  refine z_bipush (v := 7) b dX12_gain_19 (by decide) ?_
  refine z_calli b (z_runS (As := [.int p1, .int 0, .int 7]) (st := []) b (c_X12_isIn_14 S p1 ⟨by omega, by omega⟩) cf_X12_isIn wm_X12_1 ws_X12_isIn dX12_gain_21 rfl (Nat.le_of_ble_eq_true rfl) ⟨by decide, by decide, by decide, by decide⟩) (fun r13079 u13080 h13078 => ?_)
  obtain ⟨rfl, rfl⟩ := h13078
  refine z_if_ne_f (tgt := 30) b dX12_gain_24 (by decide) (by decide) ?_
  refine z_bipush (v := (-100)) b dX12_gain_27 (by decide) ?_
  exact z_iret (u := S) b rfl dX12_gain_29 ⟨rfl, rfl⟩ rfl (by decide) (by decide)

set_option maxHeartbeats 4000000 in
set_option maxRecDepth 100000 in
theorem c_X11_gain_40 {l : Launch} {D : va_G} {cy : Nat → ClassId} {T0 tB tE : Nat} {a : Nat → Nat} {rw : Nat → Option Nat} (S : GS) (p0 : Int32) (p1 : Int32) (p2 : Int32)  (hr_p0 : 1 ≤ p0.toInt ∧ p0.toInt ≤ 3) (hr_p1 : 1 ≤ p1.toInt ∧ p1.toInt ≤ 6) (hr_p2 : (-2147483648) ≤ p2.toInt ∧ p2.toInt ≤ (-1)) : Ct l D cy T0 tB tE yX11_gain cX11_gain 7 (some .int) 1 20 0 0 (cw cy tE a rw S) [.ref (a 0), .int 2, .int p0, .int p1, .int p2] (QI D (U := GS) (fun r u => (-100) = r ∧ S = u) (cw cy tE a rw)) := by
  refine Ct.ofZ RX11 "gain" [(0, .ref (a 0)), (1, .int 2), (2, .int p0), (3, .int p1), (4, .int p2)] rfl rfl rfl rfl (Nat.le_of_ble_eq_true rfl) ?_
  intro p e R s m args below meth c A b
  refine z_iload_n b dX11_gain_0 rfl rfl ?_
  refine z_calli b (z_runS (As := [.int 2]) (st := []) b (c_X11_isPerson_5 S ) cf_X11_isPerson wm_X11_69 ws_X11_isPerson dX11_gain_1 rfl (Nat.le_of_ble_eq_true rfl) ⟨by decide, by decide, by decide, by decide⟩) (fun r13082 u13083 h13081 => ?_)
  obtain ⟨rfl, rfl⟩ := h13081
  refine z_if_eq_f (tgt := 26) b dX11_gain_4 (by decide) (by decide) ?_
  refine z_iload_n b dX11_gain_7 rfl rfl ?_
  refine z_calli b (z_runS (As := [.int p0]) (st := []) b (c_X11_areLaws_3 S p0 ⟨by omega, by omega⟩) cf_X11_areLaws wm_X11_181 ws_X11_areLaws dX11_gain_8 rfl (Nat.le_of_ble_eq_true rfl) ⟨by decide, by decide, by decide, by decide⟩) (fun r13085 u13086 h13084 => ?_)
  obtain ⟨rfl, rfl⟩ := h13084
  refine z_if_eq_f (tgt := 26) b dX11_gain_11 (by decide) (by decide) ?_
  refine z_iload_n b dX11_gain_14 rfl rfl ?_
  refine z_calli b (z_runS (As := [.int p1]) (st := []) b (c_X11_isDepth_3 S p1 ⟨by omega, by omega⟩) cf_X11_isDepth wm_X11_203 ws_X11_isDepth dX11_gain_15 rfl (Nat.le_of_ble_eq_true rfl) ⟨by decide, by decide, by decide, by decide⟩) (fun r13088 u13089 h13087 => ?_)
  obtain ⟨rfl, rfl⟩ := h13087
  refine z_if_eq_f (tgt := 26) b dX11_gain_18 (by decide) (by decide) ?_
  refine z_iload b dX11_gain_21 rfl ?_
  refine y_if_ge (tgt := 29) (xl := p2.toInt) b rfl dX11_gain_23 (by decide) (fun c13090 => ?_) (fun c13090 => ?_)
  · exfalso; omega
  · refine z_bipush (v := (-100)) b dX11_gain_26 (by decide) ?_
    exact z_iret (u := S) b rfl dX11_gain_28 ⟨rfl, rfl⟩ rfl (by decide) (by decide)

set_option maxHeartbeats 4000000 in
set_option maxRecDepth 100000 in
theorem c_X12_gain_40 {l : Launch} {D : va_G} {cy : Nat → ClassId} {T0 tB tE : Nat} {a : Nat → Nat} (S : GS) (p0 : Int32) (p1 : Int32) (p2 : Int32)  (hr_p0 : 1 ≤ p0.toInt ∧ p0.toInt ≤ 3) (hr_p1 : 1 ≤ p1.toInt ∧ p1.toInt ≤ 6) (hr_p2 : (-2147483648) ≤ p2.toInt ∧ p2.toInt ≤ (-1)) : Ct l D cy T0 tB tE yX12_gain cX12_gain 9 (some .int) 2 44 0 0 (mw cy a S) [.ref (a 0), .int 2, .int p0, .int p1, .int p2] (QI D (U := GS) (fun r u => (-100) = r ∧ S = u) (mw cy a)) := by
  refine Ct.ofZ RX12 "gain" [(0, .ref (a 0)), (1, .int 2), (2, .int p0), (3, .int p1), (4, .int p2)] rfl rfl rfl rfl (Nat.le_of_ble_eq_true rfl) ?_
  intro p e R s m args below meth c A b
  refine z_iload_n b dX12_gain_0 rfl rfl ?_
  refine z_calli b (z_runS (As := [.int 2]) (st := []) b (c_X12_isOne_5 S ) cf_X12_isOne wm_X12_170 ws_X12_isOne dX12_gain_1 rfl (Nat.le_of_ble_eq_true rfl) ⟨by decide, by decide, by decide, by decide⟩) (fun r13092 u13093 h13091 => ?_)
  obtain ⟨rfl, rfl⟩ := h13091
  refine z_if_eq_f (tgt := 27) b dX12_gain_4 (by decide) (by decide) ?_
  refine z_aload_n b dX12_gain_7 rfl rfl ?_
  refine z_iload_n b dX12_gain_8 rfl rfl ?_
  refine z_iload_n b dX12_gain_9 rfl rfl ?_
  refine z_calli b (z_runV (q0 := 0) (As := [.int p0, .int p1]) (st := []) b (c_X12_canSearch_5 S p0 p1 ⟨by omega, by omega⟩ ⟨by omega, by omega⟩) cf_X12_canSearch (mw_0 cy a S) rfl wm_X12_433 wi_X12_canSearch ws_X12_canSearch dX12_gain_10 rfl (Nat.le_of_ble_eq_true rfl) ⟨by decide, by decide, by decide, by decide⟩) (fun r13095 u13096 h13094 => ?_)
  obtain ⟨rfl, rfl⟩ := h13094
  refine z_if_eq_f (tgt := 27) b dX12_gain_13 (by decide) (by decide) ?_
  refine z_iload b dX12_gain_16 rfl ?_
  refine z_iconst (v := 0) b dX12_gain_18 (by decide) ?_
  refine z_bipush (v := 7) b dX12_gain_19 (by decide) ?_
  refine z_calli b (z_runS (As := [.int p2, .int 0, .int 7]) (st := []) b (c_X12_isIn_12 S p2 ⟨by omega, by omega⟩) cf_X12_isIn wm_X12_1 ws_X12_isIn dX12_gain_21 rfl (Nat.le_of_ble_eq_true rfl) ⟨by decide, by decide, by decide, by decide⟩) (fun r13098 u13099 h13097 => ?_)
  obtain ⟨rfl, rfl⟩ := h13097
  refine z_if_ne_f (tgt := 30) b dX12_gain_24 (by decide) (by decide) ?_
  refine z_bipush (v := (-100)) b dX12_gain_27 (by decide) ?_
  exact z_iret (u := S) b rfl dX12_gain_29 ⟨rfl, rfl⟩ rfl (by decide) (by decide)

set_option maxHeartbeats 4000000 in
set_option maxRecDepth 100000 in
theorem c_X11_gain_41 {l : Launch} {D : va_G} {cy : Nat → ClassId} {T0 tB tE : Nat} {a : Nat → Nat} {rw : Nat → Option Nat} (S : GS) (p0 : Int32) (p1 : Int32) (h_i_19 : fi S 19 = 0) (h_i_24 : fi S 24 = 0) (h_i_22 : fi S 22 = 0) (h_i_18 : fi S 18 = 0) (h_i_25 : fi S 25 = 0) (h_i_23 : fi S 23 = 0) (h_i_26 : fi S 26 = 0) (h_a_4_50 : ar S 4 50 = 0) (h_a_4_40 : ar S 4 40 = 3) (h_a_4_41 : ar S 4 41 = 3) (h_a_4_42 : ar S 4 42 = 3) (h_a_4_0 : ar S 4 0 = 0) (h_a_4_11 : ar S 4 11 = 0) (h_a_4_21 : ar S 4 21 = 0) (h_a_4_31 : ar S 4 31 = 0) (h_a_4_12 : ar S 4 12 = 0) (h_a_4_22 : ar S 4 22 = 0) (h_a_4_32 : ar S 4 32 = 0) (h_a_4_1 : ar S 4 1 = 0) (h_a_4_13 : ar S 4 13 = 0) (h_a_4_23 : ar S 4 23 = 0) (h_a_4_33 : ar S 4 33 = 0) (h_a_4_15 : ar S 4 15 = 0) (h_a_4_25 : ar S 4 25 = 0) (h_a_4_35 : ar S 4 35 = 0) (h_a_4_2 : ar S 4 2 = 0) (h_a_4_16 : ar S 4 16 = 0) (h_a_4_26 : ar S 4 26 = 0) (h_a_4_36 : ar S 4 36 = 0) (h_a_4_17 : ar S 4 17 = 0) (h_a_4_27 : ar S 4 27 = 0) (h_a_4_37 : ar S 4 37 = 0) (h_a_10_0 : ar S 10 0 = 0) (h_a_9_50 : ar S 9 50 = 0) (h_a_9_40 : ar S 9 40 = 3) (h_a_9_41 : ar S 9 41 = 3) (h_a_9_42 : ar S 9 42 = 3) (h_a_9_0 : ar S 9 0 = 0) (h_a_9_11 : ar S 9 11 = 0) (h_a_9_21 : ar S 9 21 = 0) (h_a_9_31 : ar S 9 31 = 0) (h_a_9_12 : ar S 9 12 = 0) (h_a_9_22 : ar S 9 22 = 0) (h_a_9_32 : ar S 9 32 = 0) (h_a_9_1 : ar S 9 1 = 0) (h_a_9_13 : ar S 9 13 = 0) (h_a_9_23 : ar S 9 23 = 0) (h_a_9_33 : ar S 9 33 = 0) (h_a_9_15 : ar S 9 15 = 0) (h_a_9_25 : ar S 9 25 = 0) (h_a_9_35 : ar S 9 35 = 0) (h_a_9_2 : ar S 9 2 = 0) (h_a_9_16 : ar S 9 16 = 0) (h_a_9_26 : ar S 9 26 = 0) (h_a_9_36 : ar S 9 36 = 0) (h_a_9_17 : ar S 9 17 = 0) (h_a_9_27 : ar S 9 27 = 0) (h_a_9_37 : ar S 9 37 = 0) (hr_p0 : 1 ≤ p0.toInt ∧ p0.toInt ≤ 3) (hr_p1 : 1 ≤ p1.toInt ∧ p1.toInt ≤ 6) : Ct l D cy T0 tB tE yX11_gain cX11_gain 7 (some .int) 5 117 0 0 (cw cy tE a rw S) [.ref (a 0), .int 2, .int p0, .int p1, .int 0] (QI D (U := GS) (fun r u => (((((0 < ((fi (su (si (su (su (sv (sa (si (si (si (si S 24 1) 19 p0) 20 p1) 21 7) 13 (fil 1024 0 (ar (si (si (si (si S 24 1) 19 p0) 20 p1) 21 7) 13))) 2 0 4128768) 11 0 (-1)) 12 0 (-1)) 25 1) 13 978 1) 20) : Int32).toInt)))) ∧ 0 = r ∧ (si (su (si (su (su (sv (sa (si (si (si (si S 24 1) 19 p0) 20 p1) 21 7) 13 (fil 1024 0 (ar (si (si (si (si S 24 1) 19 p0) 20 p1) 21 7) 13))) 2 0 4128768) 11 0 (-1)) 12 0 (-1)) 25 1) 13 978 1) 23 1) = u) ∨ (((((((fi (su (si (su (su (sv (sa (si (si (si (si S 24 1) 19 p0) 20 p1) 21 7) 13 (fil 1024 0 (ar (si (si (si (si S 24 1) 19 p0) 20 p1) 21 7) 13))) 2 0 4128768) 11 0 (-1)) 12 0 (-1)) 25 1) 13 978 1) 20) : Int32).toInt ≤ 0)))) ∧ 0 = r ∧ (su (si (su (su (sv (sa (si (si (si (si S 24 1) 19 p0) 20 p1) 21 7) 13 (fil 1024 0 (ar (si (si (si (si S 24 1) 19 p0) 20 p1) 21 7) 13))) 2 0 4128768) 11 0 (-1)) 12 0 (-1)) 25 1) 13 978 1) = u)) (cw cy tE a rw)) := by
  refine Ct.ofZ RX11 "gain" [(0, .ref (a 0)), (1, .int 2), (2, .int p0), (3, .int p1), (4, .int 0)] rfl rfl rfl rfl (Nat.le_of_ble_eq_true rfl) ?_
  intro p e R s m args below meth c A b
  refine z_iload_n b dX11_gain_0 rfl rfl ?_
  refine z_calli b (z_runS (As := [.int 2]) (st := []) b (c_X11_isPerson_5 S ) cf_X11_isPerson wm_X11_69 ws_X11_isPerson dX11_gain_1 rfl (Nat.le_of_ble_eq_true rfl) ⟨by decide, by decide, by decide, by decide⟩) (fun r13101 u13102 h13100 => ?_)
  obtain ⟨rfl, rfl⟩ := h13100
  refine z_if_eq_f (tgt := 26) b dX11_gain_4 (by decide) (by decide) ?_
  refine z_iload_n b dX11_gain_7 rfl rfl ?_
  refine z_calli b (z_runS (As := [.int p0]) (st := []) b (c_X11_areLaws_3 S p0 ⟨by omega, by omega⟩) cf_X11_areLaws wm_X11_181 ws_X11_areLaws dX11_gain_8 rfl (Nat.le_of_ble_eq_true rfl) ⟨by decide, by decide, by decide, by decide⟩) (fun r13104 u13105 h13103 => ?_)
  obtain ⟨rfl, rfl⟩ := h13103
  refine z_if_eq_f (tgt := 26) b dX11_gain_11 (by decide) (by decide) ?_
  refine z_iload_n b dX11_gain_14 rfl rfl ?_
  refine z_calli b (z_runS (As := [.int p1]) (st := []) b (c_X11_isDepth_3 S p1 ⟨by omega, by omega⟩) cf_X11_isDepth wm_X11_203 ws_X11_isDepth dX11_gain_15 rfl (Nat.le_of_ble_eq_true rfl) ⟨by decide, by decide, by decide, by decide⟩) (fun r13107 u13108 h13106 => ?_)
  obtain ⟨rfl, rfl⟩ := h13106
  refine z_if_eq_f (tgt := 26) b dX11_gain_18 (by decide) (by decide) ?_
  refine z_iload b dX11_gain_21 rfl ?_
  refine z_if_ge_t (tgt := 29) b dX11_gain_23 (by decide) (by decide) ?_
  refine z_aload_n b dX11_gain_29 rfl rfl ?_
  refine z_get (q0 := 0) (k9 := 6) (v := .ref (a 25)) b (cw_0 cy tE a rw S) rfl in_X11 (by decide) wf_X11_52 rfl dX11_gain_30 ?_
  refine z_iload_n b dX11_gain_33 rfl rfl ?_
  refine z_iload_n b dX11_gain_34 rfl rfl ?_
  refine z_bipush (v := 7) b dX11_gain_35 (by decide) ?_
  refine z_iconst (v := 0) b dX11_gain_37 (by decide) ?_
  refine z_callv b (z_runV (q0 := 25) (As := [.int p0, .int p1, .int 7, .int 0]) (st := []) b (c_X8_begin_2 S p0 p1 h_i_19 h_i_24 h_i_22 h_i_18 h_i_25 h_i_23 h_i_26 h_a_4_50 h_a_4_40 h_a_4_41 h_a_4_42 h_a_4_0 h_a_4_11 h_a_4_21 h_a_4_31 h_a_4_12 h_a_4_22 h_a_4_32 h_a_4_1 h_a_4_13 h_a_4_23 h_a_4_33 h_a_4_15 h_a_4_25 h_a_4_35 h_a_4_2 h_a_4_16 h_a_4_26 h_a_4_36 h_a_4_17 h_a_4_27 h_a_4_37 h_a_10_0 ⟨by omega, by omega⟩ ⟨by omega, by omega⟩) cf_X8_begin (cw_25 cy tE a rw S) rfl wm_X11_206 wi_X8_begin ws_X8_begin dX11_gain_38 rfl (Nat.le_of_ble_eq_true rfl) ⟨by decide, by decide, by decide, by decide⟩) (fun u13111 h13109 => ?_)
  obtain rfl := h13109
  refine z_aload_n b dX11_gain_41 rfl rfl ?_
  refine z_get (q0 := 0) (k9 := 6) (v := .ref (a 25)) b (cw_0 cy tE a rw (su (si (su (su (sv (sa (si (si (si (si S 24 1) 19 p0) 20 p1) 21 7) 13 (fil 1024 0 (ar (si (si (si (si S 24 1) 19 p0) 20 p1) 21 7) 13))) 2 0 4128768) 11 0 (-1)) 12 0 (-1)) 25 1) 13 978 1)) rfl in_X11 (by decide) wf_X11_52 rfl dX11_gain_42 ?_
  refine z_callv b (z_runV (q0 := 25) (As := []) (st := []) b (c_X8_finish_2 (su (si (su (su (sv (sa (si (si (si (si S 24 1) 19 p0) 20 p1) 21 7) 13 (fil 1024 0 (ar (si (si (si (si S 24 1) 19 p0) 20 p1) 21 7) 13))) 2 0 4128768) 11 0 (-1)) 12 0 (-1)) 25 1) 13 978 1) h_i_26 h_i_23 rfl h_a_10_0 rfl h_a_9_50 h_a_9_40 h_a_9_41 h_a_9_42 h_a_9_0 h_a_9_11 h_a_9_21 h_a_9_31 h_a_9_12 h_a_9_22 h_a_9_32 h_a_9_1 h_a_9_13 h_a_9_23 h_a_9_33 h_a_9_15 h_a_9_25 h_a_9_35 h_a_9_2 h_a_9_16 h_a_9_26 h_a_9_36 h_a_9_17 h_a_9_27 h_a_9_37 h_i_18) cf_X8_finish (cw_25 cy tE a rw (su (si (su (su (sv (sa (si (si (si (si S 24 1) 19 p0) 20 p1) 21 7) 13 (fil 1024 0 (ar (si (si (si (si S 24 1) 19 p0) 20 p1) 21 7) 13))) 2 0 4128768) 11 0 (-1)) 12 0 (-1)) 25 1) 13 978 1)) rfl wm_X11_232 wi_X8_finish ws_X8_finish dX11_gain_45 rfl (Nat.le_of_ble_eq_true rfl) ⟨by decide, by decide, by decide, by decide⟩) (fun u13114 h13112 => ?_)
  rcases h13112 with ⟨c13115, rfl⟩ | ⟨c13116, rfl⟩
  · refine z_aload_n b dX11_gain_48 rfl rfl ?_
    refine z_get (q0 := 0) (k9 := 6) (v := .ref (a 25)) b (cw_0 cy tE a rw (si (su (si (su (su (sv (sa (si (si (si (si S 24 1) 19 p0) 20 p1) 21 7) 13 (fil 1024 0 (ar (si (si (si (si S 24 1) 19 p0) 20 p1) 21 7) 13))) 2 0 4128768) 11 0 (-1)) 12 0 (-1)) 25 1) 13 978 1) 23 1)) rfl in_X11 (by decide) wf_X11_52 rfl dX11_gain_49 ?_
    refine z_get (q0 := 25) (k9 := 18) (v := .int (fi (si (su (si (su (su (sv (sa (si (si (si (si S 24 1) 19 p0) 20 p1) 21 7) 13 (fil 1024 0 (ar (si (si (si (si S 24 1) 19 p0) 20 p1) 21 7) 13))) 2 0 4128768) 11 0 (-1)) 12 0 (-1)) 25 1) 13 978 1) 23 1) 26)) b (cw_25 cy tE a rw (si (su (si (su (su (sv (sa (si (si (si (si S 24 1) 19 p0) 20 p1) 21 7) 13 (fil 1024 0 (ar (si (si (si (si S 24 1) 19 p0) 20 p1) 21 7) 13))) 2 0 4128768) 11 0 (-1)) 12 0 (-1)) 25 1) 13 978 1) 23 1)) rfl in_X8 (by decide) wf_X11_214 rfl dX11_gain_52 ?_
    refine z_eqi h_i_26 ?_
    refine z_if_eq_t (tgt := 61) b dX11_gain_55 (by decide) (by decide) ?_
    refine z_aload_n b dX11_gain_61 rfl rfl ?_
    refine z_get (q0 := 0) (k9 := 6) (v := .ref (a 25)) b (cw_0 cy tE a rw (si (su (si (su (su (sv (sa (si (si (si (si S 24 1) 19 p0) 20 p1) 21 7) 13 (fil 1024 0 (ar (si (si (si (si S 24 1) 19 p0) 20 p1) 21 7) 13))) 2 0 4128768) 11 0 (-1)) 12 0 (-1)) 25 1) 13 978 1) 23 1)) rfl in_X11 (by decide) wf_X11_52 rfl dX11_gain_62 ?_
    refine z_iload_n b dX11_gain_65 rfl rfl ?_
    refine z_calli b (z_runV (q0 := 25) (As := [.int 2]) (st := []) b (c_X8_richest_3 (si (su (si (su (su (sv (sa (si (si (si (si S 24 1) 19 p0) 20 p1) 21 7) 13 (fil 1024 0 (ar (si (si (si (si S 24 1) 19 p0) 20 p1) 21 7) 13))) 2 0 4128768) 11 0 (-1)) 12 0 (-1)) 25 1) 13 978 1) 23 1) rfl rfl h_a_9_50 h_a_9_40 h_a_9_41 h_a_9_42 h_a_9_0 h_a_9_11 h_a_9_21 h_a_9_31 h_a_9_12 h_a_9_22 h_a_9_32 h_a_9_1 h_a_9_13 h_a_9_23 h_a_9_33 h_a_9_15 h_a_9_25 h_a_9_35 h_a_9_2 h_a_9_16 h_a_9_26 h_a_9_36 h_a_9_17 h_a_9_27 h_a_9_37) cf_X8_richest (cw_25 cy tE a rw (si (su (si (su (su (sv (sa (si (si (si (si S 24 1) 19 p0) 20 p1) 21 7) 13 (fil 1024 0 (ar (si (si (si (si S 24 1) 19 p0) 20 p1) 21 7) 13))) 2 0 4128768) 11 0 (-1)) 12 0 (-1)) 25 1) 13 978 1) 23 1)) rfl wm_X11_238 wi_X8_richest ws_X8_richest dX11_gain_66 rfl (Nat.le_of_ble_eq_true rfl) ⟨by decide, by decide, by decide, by decide⟩) (fun r13118 u13119 h13117 => ?_)
    obtain ⟨rfl, rfl⟩ := h13117
    refine z_istore (lv' := [(5, .int 0), (0, .ref (a 0)), (1, .int 2), (2, .int p0), (3, .int p1), (4, .int 0)]) b dX11_gain_69 (by decide) rfl ?_
    refine z_iload b dX11_gain_71 rfl ?_
    refine z_if_ne_f (tgt := 87) b dX11_gain_73 (by decide) (by decide) ?_
    refine z_aload_n b dX11_gain_76 rfl rfl ?_
    refine z_get (q0 := 0) (k9 := 6) (v := .ref (a 25)) b (cw_0 cy tE a rw (si (su (si (su (su (sv (sa (si (si (si (si S 24 1) 19 p0) 20 p1) 21 7) 13 (fil 1024 0 (ar (si (si (si (si S 24 1) 19 p0) 20 p1) 21 7) 13))) 2 0 4128768) 11 0 (-1)) 12 0 (-1)) 25 1) 13 978 1) 23 1)) rfl in_X11 (by decide) wf_X11_52 rfl dX11_gain_77 ?_
    refine z_iload b dX11_gain_80 rfl ?_
    refine z_iload_n b dX11_gain_82 rfl rfl ?_
    refine z_calli b (z_runV (q0 := 25) (As := [.int 0, .int 2]) (st := []) b (c_X8_wealth_3 (si (su (si (su (su (sv (sa (si (si (si (si S 24 1) 19 p0) 20 p1) 21 7) 13 (fil 1024 0 (ar (si (si (si (si S 24 1) 19 p0) 20 p1) 21 7) 13))) 2 0 4128768) 11 0 (-1)) 12 0 (-1)) 25 1) 13 978 1) 23 1) rfl rfl h_a_9_50 h_a_9_40 h_a_9_41 h_a_9_42 h_a_9_0 h_a_9_11 h_a_9_21 h_a_9_31 h_a_9_12 h_a_9_22 h_a_9_32 h_a_9_1 h_a_9_13 h_a_9_23 h_a_9_33 h_a_9_15 h_a_9_25 h_a_9_35 h_a_9_2 h_a_9_16 h_a_9_26 h_a_9_36 h_a_9_17 h_a_9_27 h_a_9_37) cf_X8_wealth (cw_25 cy tE a rw (si (su (si (su (su (sv (sa (si (si (si (si S 24 1) 19 p0) 20 p1) 21 7) 13 (fil 1024 0 (ar (si (si (si (si S 24 1) 19 p0) 20 p1) 21 7) 13))) 2 0 4128768) 11 0 (-1)) 12 0 (-1)) 25 1) 13 978 1) 23 1)) rfl wm_X11_241 wi_X8_wealth ws_X8_wealth dX11_gain_83 rfl (Nat.le_of_ble_eq_true rfl) ⟨by decide, by decide, by decide, by decide⟩) (fun r13121 u13122 h13120 => ?_)
    obtain ⟨rfl, rfl⟩ := h13120
    exact z_iret (u := (si (su (si (su (su (sv (sa (si (si (si (si S 24 1) 19 p0) 20 p1) 21 7) 13 (fil 1024 0 (ar (si (si (si (si S 24 1) 19 p0) 20 p1) 21 7) 13))) 2 0 4128768) 11 0 (-1)) 12 0 (-1)) 25 1) 13 978 1) 23 1)) b rfl dX11_gain_86 (Or.inl ⟨c13115, rfl, rfl⟩) rfl (by decide) (by decide)
  · refine z_aload_n b dX11_gain_48 rfl rfl ?_
    refine z_get (q0 := 0) (k9 := 6) (v := .ref (a 25)) b (cw_0 cy tE a rw (su (si (su (su (sv (sa (si (si (si (si S 24 1) 19 p0) 20 p1) 21 7) 13 (fil 1024 0 (ar (si (si (si (si S 24 1) 19 p0) 20 p1) 21 7) 13))) 2 0 4128768) 11 0 (-1)) 12 0 (-1)) 25 1) 13 978 1)) rfl in_X11 (by decide) wf_X11_52 rfl dX11_gain_49 ?_
    refine z_get (q0 := 25) (k9 := 18) (v := .int (fi (su (si (su (su (sv (sa (si (si (si (si S 24 1) 19 p0) 20 p1) 21 7) 13 (fil 1024 0 (ar (si (si (si (si S 24 1) 19 p0) 20 p1) 21 7) 13))) 2 0 4128768) 11 0 (-1)) 12 0 (-1)) 25 1) 13 978 1) 26)) b (cw_25 cy tE a rw (su (si (su (su (sv (sa (si (si (si (si S 24 1) 19 p0) 20 p1) 21 7) 13 (fil 1024 0 (ar (si (si (si (si S 24 1) 19 p0) 20 p1) 21 7) 13))) 2 0 4128768) 11 0 (-1)) 12 0 (-1)) 25 1) 13 978 1)) rfl in_X8 (by decide) wf_X11_214 rfl dX11_gain_52 ?_
    refine z_eqi h_i_26 ?_
    refine z_if_eq_t (tgt := 61) b dX11_gain_55 (by decide) (by decide) ?_
    refine z_aload_n b dX11_gain_61 rfl rfl ?_
    refine z_get (q0 := 0) (k9 := 6) (v := .ref (a 25)) b (cw_0 cy tE a rw (su (si (su (su (sv (sa (si (si (si (si S 24 1) 19 p0) 20 p1) 21 7) 13 (fil 1024 0 (ar (si (si (si (si S 24 1) 19 p0) 20 p1) 21 7) 13))) 2 0 4128768) 11 0 (-1)) 12 0 (-1)) 25 1) 13 978 1)) rfl in_X11 (by decide) wf_X11_52 rfl dX11_gain_62 ?_
    refine z_iload_n b dX11_gain_65 rfl rfl ?_
    refine z_calli b (z_runV (q0 := 25) (As := [.int 2]) (st := []) b (c_X8_richest_3 (su (si (su (su (sv (sa (si (si (si (si S 24 1) 19 p0) 20 p1) 21 7) 13 (fil 1024 0 (ar (si (si (si (si S 24 1) 19 p0) 20 p1) 21 7) 13))) 2 0 4128768) 11 0 (-1)) 12 0 (-1)) 25 1) 13 978 1) rfl rfl h_a_9_50 h_a_9_40 h_a_9_41 h_a_9_42 h_a_9_0 h_a_9_11 h_a_9_21 h_a_9_31 h_a_9_12 h_a_9_22 h_a_9_32 h_a_9_1 h_a_9_13 h_a_9_23 h_a_9_33 h_a_9_15 h_a_9_25 h_a_9_35 h_a_9_2 h_a_9_16 h_a_9_26 h_a_9_36 h_a_9_17 h_a_9_27 h_a_9_37) cf_X8_richest (cw_25 cy tE a rw (su (si (su (su (sv (sa (si (si (si (si S 24 1) 19 p0) 20 p1) 21 7) 13 (fil 1024 0 (ar (si (si (si (si S 24 1) 19 p0) 20 p1) 21 7) 13))) 2 0 4128768) 11 0 (-1)) 12 0 (-1)) 25 1) 13 978 1)) rfl wm_X11_238 wi_X8_richest ws_X8_richest dX11_gain_66 rfl (Nat.le_of_ble_eq_true rfl) ⟨by decide, by decide, by decide, by decide⟩) (fun r13124 u13125 h13123 => ?_)
    obtain ⟨rfl, rfl⟩ := h13123
    refine z_istore (lv' := [(5, .int 0), (0, .ref (a 0)), (1, .int 2), (2, .int p0), (3, .int p1), (4, .int 0)]) b dX11_gain_69 (by decide) rfl ?_
    refine z_iload b dX11_gain_71 rfl ?_
    refine z_if_ne_f (tgt := 87) b dX11_gain_73 (by decide) (by decide) ?_
    refine z_aload_n b dX11_gain_76 rfl rfl ?_
    refine z_get (q0 := 0) (k9 := 6) (v := .ref (a 25)) b (cw_0 cy tE a rw (su (si (su (su (sv (sa (si (si (si (si S 24 1) 19 p0) 20 p1) 21 7) 13 (fil 1024 0 (ar (si (si (si (si S 24 1) 19 p0) 20 p1) 21 7) 13))) 2 0 4128768) 11 0 (-1)) 12 0 (-1)) 25 1) 13 978 1)) rfl in_X11 (by decide) wf_X11_52 rfl dX11_gain_77 ?_
    refine z_iload b dX11_gain_80 rfl ?_
    refine z_iload_n b dX11_gain_82 rfl rfl ?_
    refine z_calli b (z_runV (q0 := 25) (As := [.int 0, .int 2]) (st := []) b (c_X8_wealth_3 (su (si (su (su (sv (sa (si (si (si (si S 24 1) 19 p0) 20 p1) 21 7) 13 (fil 1024 0 (ar (si (si (si (si S 24 1) 19 p0) 20 p1) 21 7) 13))) 2 0 4128768) 11 0 (-1)) 12 0 (-1)) 25 1) 13 978 1) rfl rfl h_a_9_50 h_a_9_40 h_a_9_41 h_a_9_42 h_a_9_0 h_a_9_11 h_a_9_21 h_a_9_31 h_a_9_12 h_a_9_22 h_a_9_32 h_a_9_1 h_a_9_13 h_a_9_23 h_a_9_33 h_a_9_15 h_a_9_25 h_a_9_35 h_a_9_2 h_a_9_16 h_a_9_26 h_a_9_36 h_a_9_17 h_a_9_27 h_a_9_37) cf_X8_wealth (cw_25 cy tE a rw (su (si (su (su (sv (sa (si (si (si (si S 24 1) 19 p0) 20 p1) 21 7) 13 (fil 1024 0 (ar (si (si (si (si S 24 1) 19 p0) 20 p1) 21 7) 13))) 2 0 4128768) 11 0 (-1)) 12 0 (-1)) 25 1) 13 978 1)) rfl wm_X11_241 wi_X8_wealth ws_X8_wealth dX11_gain_83 rfl (Nat.le_of_ble_eq_true rfl) ⟨by decide, by decide, by decide, by decide⟩) (fun r13127 u13128 h13126 => ?_)
    obtain ⟨rfl, rfl⟩ := h13126
    exact z_iret (u := (su (si (su (su (sv (sa (si (si (si (si S 24 1) 19 p0) 20 p1) 21 7) 13 (fil 1024 0 (ar (si (si (si (si S 24 1) 19 p0) 20 p1) 21 7) 13))) 2 0 4128768) 11 0 (-1)) 12 0 (-1)) 25 1) 13 978 1)) b rfl dX11_gain_86 (Or.inr ⟨c13116, rfl, rfl⟩) rfl (by decide) (by decide)

set_option maxHeartbeats 4000000 in
set_option maxRecDepth 100000 in
theorem c_X12_gain_41 {l : Launch} {D : va_G} {cy : Nat → ClassId} {T0 tB tE : Nat} {a : Nat → Nat} (S : GS) (p0 : Int32) (p1 : Int32) (h_i_21 : fi S 21 = 0) (h_i_23 : fi S 23 = 0) (h_l_0 : fl S 0 = 1649317774848) (h_a_29_992 : ar S 29 992 = (-1)) (h_a_28_0 : ar S 28 0 = 0) (h_a_7_0 : ar S 7 0 = 0) (h_a_7_1 : ar S 7 1 = 0) (h_a_4_7 : ar S 4 7 = 0) (h_a_1_7 : ar S 1 7 = 0) (h_a_4_6 : ar S 4 6 = 0) (h_a_1_6 : ar S 1 6 = 0) (h_a_3_6 : ar S 3 6 = 0) (h_a_3_2 : ar S 3 2 = 0) (h_a_2_2 : ar S 2 2 = 3) (h_a_0_2 : ar S 0 2 = 0) (h_a_4_3 : ar S 4 3 = 0) (h_a_1_3 : ar S 1 3 = 0) (h_a_4_5 : ar S 4 5 = 0) (h_a_1_5 : ar S 1 5 = 0) (h_a_3_5 : ar S 3 5 = 0) (h_a_3_7 : ar S 3 7 = 0) (h_a_2_1 : ar S 2 1 = 3) (h_a_0_1 : ar S 0 1 = 0) (h_a_4_2 : ar S 4 2 = 0) (h_a_1_2 : ar S 1 2 = 0) (h_a_4_1 : ar S 4 1 = 0) (h_a_1_1 : ar S 1 1 = 0) (h_a_3_1 : ar S 3 1 = 0) (h_a_3_3 : ar S 3 3 = 0) (h_a_2_0 : ar S 2 0 = 3) (h_a_0_0 : ar S 0 0 = 0) (h_i_0 : fi S 0 = 0) (hr_p0 : 1 ≤ p0.toInt ∧ p0.toInt ≤ 3) (hr_p1 : 1 ≤ p1.toInt ∧ p1.toInt ≤ 6) : Ct l D cy T0 tB tE yX12_gain cX12_gain 9 (some .int) 4 99 0 0 (mw cy a S) [.ref (a 0), .int 2, .int p0, .int p1, .int 0] (QI D (U := GS) (fun r u => 0 = r ∧ (si (su (su (sv (su (su (si S 22 (-1)) 29 992 0) 30 0 992) 0 0 1649317774848) 26 0 (-1)) 27 0 (-1)) 21 1) = u) (mw cy a)) := by
  refine Ct.ofZ RX12 "gain" [(0, .ref (a 0)), (1, .int 2), (2, .int p0), (3, .int p1), (4, .int 0)] rfl rfl rfl rfl (Nat.le_of_ble_eq_true rfl) ?_
  intro p e R s m args below meth c A b
  refine z_iload_n b dX12_gain_0 rfl rfl ?_
  refine z_calli b (z_runS (As := [.int 2]) (st := []) b (c_X12_isOne_5 S ) cf_X12_isOne wm_X12_170 ws_X12_isOne dX12_gain_1 rfl (Nat.le_of_ble_eq_true rfl) ⟨by decide, by decide, by decide, by decide⟩) (fun r13130 u13131 h13129 => ?_)
  obtain ⟨rfl, rfl⟩ := h13129
  refine z_if_eq_f (tgt := 27) b dX12_gain_4 (by decide) (by decide) ?_
  refine z_aload_n b dX12_gain_7 rfl rfl ?_
  refine z_iload_n b dX12_gain_8 rfl rfl ?_
  refine z_iload_n b dX12_gain_9 rfl rfl ?_
  refine z_calli b (z_runV (q0 := 0) (As := [.int p0, .int p1]) (st := []) b (c_X12_canSearch_5 S p0 p1 ⟨by omega, by omega⟩ ⟨by omega, by omega⟩) cf_X12_canSearch (mw_0 cy a S) rfl wm_X12_433 wi_X12_canSearch ws_X12_canSearch dX12_gain_10 rfl (Nat.le_of_ble_eq_true rfl) ⟨by decide, by decide, by decide, by decide⟩) (fun r13133 u13134 h13132 => ?_)
  obtain ⟨rfl, rfl⟩ := h13132
  refine z_if_eq_f (tgt := 27) b dX12_gain_13 (by decide) (by decide) ?_
  refine z_iload b dX12_gain_16 rfl ?_
  refine z_iconst (v := 0) b dX12_gain_18 (by decide) ?_
  refine z_bipush (v := 7) b dX12_gain_19 (by decide) ?_
  refine z_calli b (z_runS (As := [.int 0, .int 0, .int 7]) (st := []) b (c_X12_isIn_59 S ) cf_X12_isIn wm_X12_1 ws_X12_isIn dX12_gain_21 rfl (Nat.le_of_ble_eq_true rfl) ⟨by decide, by decide, by decide, by decide⟩) (fun r13136 u13137 h13135 => ?_)
  obtain ⟨rfl, rfl⟩ := h13135
  refine z_if_ne_t (tgt := 30) b dX12_gain_24 (by decide) (by decide) ?_
  refine z_aload_n b dX12_gain_30 rfl rfl ?_
  refine z_iconst (v := (-1)) b dX12_gain_31 (by decide) ?_
  refine z_iload_n b dX12_gain_32 rfl rfl ?_
  refine z_iload_n b dX12_gain_33 rfl rfl ?_
  refine z_bipush (v := 7) b dX12_gain_34 (by decide) ?_
  refine z_iconst (v := 0) b dX12_gain_36 (by decide) ?_
  refine z_callv b (z_runV (q0 := 0) (As := [.int (-1), .int p0, .int p1, .int 7, .int 0]) (st := []) b (c_X12_searches_2 S p0 p1 h_i_21 h_i_23 h_l_0 h_a_29_992 h_a_28_0 h_a_7_0 h_a_7_1 ⟨by omega, by omega⟩ ⟨by omega, by omega⟩) cf_X12_searches (mw_0 cy a S) rfl wm_X12_436 wi_X12_searches ws_X12_searches dX12_gain_37 rfl (Nat.le_of_ble_eq_true rfl) ⟨by decide, by decide, by decide, by decide⟩) (fun u13140 h13138 => ?_)
  obtain rfl := h13138
  refine z_aload_n b dX12_gain_40 rfl rfl ?_
  refine z_get (q0 := 0) (k9 := 57) (v := .int (fi (si (su (su (sv (su (su (si S 22 (-1)) 29 992 0) 30 0 992) 0 0 1649317774848) 26 0 (-1)) 27 0 (-1)) 21 1) 23)) b (mw_0 cy a (si (su (su (sv (su (su (si S 22 (-1)) 29 992 0) 30 0 992) 0 0 1649317774848) 26 0 (-1)) 27 0 (-1)) 21 1)) rfl in_X12 (by decide) wf_X12_408 rfl dX12_gain_41 ?_
  refine z_eqi h_i_23 ?_
  refine z_if_eq_t (tgt := 50) b dX12_gain_44 (by decide) (by decide) ?_
  refine z_iconst (v := (-1)) b dX12_gain_50 (by decide) ?_
  refine z_istore (lv' := [(5, .int (-1)), (0, .ref (a 0)), (1, .int 2), (2, .int p0), (3, .int p1), (4, .int 0)]) b dX12_gain_51 (by decide) rfl ?_
  refine z_iconst (v := 0) b dX12_gain_53 (by decide) ?_
  refine z_istore (lv' := [(6, .int 0), (5, .int (-1)), (0, .ref (a 0)), (1, .int 2), (2, .int p0), (3, .int p1), (4, .int 0)]) b dX12_gain_54 (by decide) rfl ?_
  refine z_iconst (v := 0) b dX12_gain_56 (by decide) ?_
  refine z_istore (lv' := [(7, .int 0), (6, .int 0), (5, .int (-1)), (0, .ref (a 0)), (1, .int 2), (2, .int p0), (3, .int p1), (4, .int 0)]) b dX12_gain_57 (by decide) rfl ?_
  refine z_iload b dX12_gain_59 rfl ?_
  refine z_aload_n b dX12_gain_61 rfl rfl ?_
  refine z_get (q0 := 0) (k9 := 55) (v := .int 1) b (mw_0 cy a (si (su (su (sv (su (su (si S 22 (-1)) 29 992 0) 30 0 992) 0 0 1649317774848) 26 0 (-1)) 27 0 (-1)) 21 1)) rfl in_X12 (by decide) wf_X12_405 rfl dX12_gain_62 ?_
  refine z_icmp_ge_f (tgt := 147) b dX12_gain_65 (by decide) (by decide) ?_
  refine z_aload_n b dX12_gain_68 rfl rfl ?_
  refine z_aload_n b dX12_gain_69 rfl rfl ?_
  refine z_get (q0 := 0) (k9 := 49) (v := .ref (a 27)) b (mw_0 cy a (si (su (su (sv (su (su (si S 22 (-1)) 29 992 0) 30 0 992) 0 0 1649317774848) 26 0 (-1)) 27 0 (-1)) 21 1)) rfl in_X12 (by decide) wf_X12_97 rfl dX12_gain_70 ?_
  refine z_iload b dX12_gain_73 rfl ?_
  refine y_lald (q0 := 27) (j := 0) (v := 1649317774848) b (mw_27 cy a (si (su (su (sv (su (su (si S 22 (-1)) 29 992 0) 30 0 992) 0 0 1649317774848) 26 0 (-1)) 27 0 (-1)) 21 1)) (by decide) rfl dX12_gain_75 ?_
  refine z_callv b (z_runV (q0 := 0) (As := [.long 1649317774848]) (st := []) b (c_X12_takes (si (su (su (sv (su (su (si S 22 (-1)) 29 992 0) 30 0 992) 0 0 1649317774848) 26 0 (-1)) 27 0 (-1)) 21 1) h_a_4_7 h_a_1_7 h_a_4_6 h_a_1_6 h_a_3_6 h_a_3_2 h_a_2_2 h_a_0_2 h_a_4_3 h_a_1_3 h_a_4_5 h_a_1_5 h_a_3_5 h_a_3_7 h_a_2_1 h_a_0_1 h_a_4_2 h_a_1_2 h_a_4_1 h_a_1_1 h_a_3_1 h_a_3_3 h_a_2_0 h_a_0_0 h_i_0) cf_X12_takes (mw_0 cy a (si (su (su (sv (su (su (si S 22 (-1)) 29 992 0) 30 0 992) 0 0 1649317774848) 26 0 (-1)) 27 0 (-1)) 21 1)) rfl wm_X12_174 wi_X12_takes ws_X12_takes dX12_gain_76 rfl (Nat.le_of_ble_eq_true rfl) ⟨by decide, by decide, by decide, by decide⟩) (fun u13143 h13141 => ?_)
  obtain rfl := h13141
  refine z_aload_n b dX12_gain_79 rfl rfl ?_
  refine z_get (q0 := 0) (k9 := 0) (v := .ref (a 1)) b (mw_0 cy a (si (su (su (sv (su (su (si S 22 (-1)) 29 992 0) 30 0 992) 0 0 1649317774848) 26 0 (-1)) 27 0 (-1)) 21 1)) rfl in_X12 (by decide) wf_X12_13 rfl dX12_gain_80 ?_
  refine z_iload_n b dX12_gain_83 rfl rfl ?_
  refine y_iald (q0 := 1) (j := 2) (v := (ar (si (su (su (sv (su (su (si S 22 (-1)) 29 992 0) 30 0 992) 0 0 1649317774848) 26 0 (-1)) 27 0 (-1)) 21 1) 0 2)) b (mw_1 cy a (si (su (su (sv (su (su (si S 22 (-1)) 29 992 0) 30 0 992) 0 0 1649317774848) 26 0 (-1)) 27 0 (-1)) 21 1)) (by decide) rfl dX12_gain_84 ?_
  refine z_eqi h_a_0_2 ?_
  refine z_aload_n b dX12_gain_85 rfl rfl ?_
  refine z_get (q0 := 0) (k9 := 1) (v := .ref (a 2)) b (mw_0 cy a (si (su (su (sv (su (su (si S 22 (-1)) 29 992 0) 30 0 992) 0 0 1649317774848) 26 0 (-1)) 27 0 (-1)) 21 1)) rfl in_X12 (by decide) wf_X12_17 rfl dX12_gain_86 ?_
  refine z_iconst (v := 3) b dX12_gain_89 (by decide) ?_
  refine z_iload_n b dX12_gain_90 rfl rfl ?_
  refine z_imul (v := 6) b dX12_gain_91 (by decide) ?_
  refine z_iload_n b dX12_gain_92 rfl rfl ?_
  refine z_iconst (v := 0) b dX12_gain_93 (by decide) ?_
  refine z_calli b (z_runS (As := [.int 2, .int 0]) (st := [.int 6, .ref (a 2), .int 0]) b (c_X12_other_2 (si (su (su (sv (su (su (si S 22 (-1)) 29 992 0) 30 0 992) 0 0 1649317774848) 26 0 (-1)) 27 0 (-1)) 21 1) ) cf_X12_other wm_X12_160 ws_X12_other dX12_gain_94 rfl (Nat.le_of_ble_eq_true rfl) ⟨by decide, by decide, by decide, by decide⟩) (fun r13145 u13146 h13144 => ?_)
  obtain ⟨rfl, rfl⟩ := h13144
  refine z_iadd (v := 6) b dX12_gain_97 (by decide) ?_
  refine y_iald (q0 := 2) (j := 6) (v := (ar (si (su (su (sv (su (su (si S 22 (-1)) 29 992 0) 30 0 992) 0 0 1649317774848) 26 0 (-1)) 27 0 (-1)) 21 1) 1 6)) b (mw_2 cy a (si (su (su (sv (su (su (si S 22 (-1)) 29 992 0) 30 0 992) 0 0 1649317774848) 26 0 (-1)) 27 0 (-1)) 21 1)) (by decide) rfl dX12_gain_98 ?_
  refine z_eqi h_a_1_6 ?_
  refine z_isub (v := 0) b dX12_gain_99 (by decide) ?_
  refine z_aload_n b dX12_gain_100 rfl rfl ?_
  refine z_get (q0 := 0) (k9 := 1) (v := .ref (a 2)) b (mw_0 cy a (si (su (su (sv (su (su (si S 22 (-1)) 29 992 0) 30 0 992) 0 0 1649317774848) 26 0 (-1)) 27 0 (-1)) 21 1)) rfl in_X12 (by decide) wf_X12_17 rfl dX12_gain_101 ?_
  refine z_iconst (v := 3) b dX12_gain_104 (by decide) ?_
  refine z_iload_n b dX12_gain_105 rfl rfl ?_
  refine z_imul (v := 6) b dX12_gain_106 (by decide) ?_
  refine z_iload_n b dX12_gain_107 rfl rfl ?_
  refine z_iconst (v := 1) b dX12_gain_108 (by decide) ?_
  refine z_calli b (z_runS (As := [.int 2, .int 1]) (st := [.int 6, .ref (a 2), .int 0]) b (c_X12_other (si (su (su (sv (su (su (si S 22 (-1)) 29 992 0) 30 0 992) 0 0 1649317774848) 26 0 (-1)) 27 0 (-1)) 21 1) ) cf_X12_other wm_X12_160 ws_X12_other dX12_gain_109 rfl (Nat.le_of_ble_eq_true rfl) ⟨by decide, by decide, by decide, by decide⟩) (fun r13148 u13149 h13147 => ?_)
  obtain ⟨rfl, rfl⟩ := h13147
  refine z_iadd (v := 7) b dX12_gain_112 (by decide) ?_
  refine y_iald (q0 := 2) (j := 7) (v := (ar (si (su (su (sv (su (su (si S 22 (-1)) 29 992 0) 30 0 992) 0 0 1649317774848) 26 0 (-1)) 27 0 (-1)) 21 1) 1 7)) b (mw_2 cy a (si (su (su (sv (su (su (si S 22 (-1)) 29 992 0) 30 0 992) 0 0 1649317774848) 26 0 (-1)) 27 0 (-1)) 21 1)) (by decide) rfl dX12_gain_113 ?_
  refine z_eqi h_a_1_7 ?_
  refine z_isub (v := 0) b dX12_gain_114 (by decide) ?_
  refine z_istore (lv' := [(8, .int 0), (7, .int 0), (6, .int 0), (5, .int (-1)), (0, .ref (a 0)), (1, .int 2), (2, .int p0), (3, .int p1), (4, .int 0)]) b dX12_gain_115 (by decide) rfl ?_
  refine z_iload b dX12_gain_117 rfl ?_
  refine z_iconst (v := (-1)) b dX12_gain_119 (by decide) ?_
  refine z_icmp_eq_t (tgt := 133) b dX12_gain_120 (by decide) (by decide) ?_
  refine z_iload b dX12_gain_133 rfl ?_
  refine z_istore (lv' := [(5, .int 0), (8, .int 0), (7, .int 0), (6, .int 0), (0, .ref (a 0)), (1, .int 2), (2, .int p0), (3, .int p1), (4, .int 0)]) b dX12_gain_135 (by decide) rfl ?_
  refine z_iload b dX12_gain_137 rfl ?_
  refine z_istore (lv' := [(6, .int 0), (5, .int 0), (8, .int 0), (7, .int 0), (0, .ref (a 0)), (1, .int 2), (2, .int p0), (3, .int p1), (4, .int 0)]) b dX12_gain_139 (by decide) rfl ?_
  refine z_iinc (k9 := 3) (v := 1) (lv' := [(7, .int 1), (6, .int 0), (5, .int 0), (8, .int 0), (0, .ref (a 0)), (1, .int 2), (2, .int p0), (3, .int p1), (4, .int 0)]) b dX12_gain_141 rfl (by decide) (by decide) rfl ?_
  refine z_goto (tgt := 59) b dX12_gain_144 (by decide) ?_
  refine z_iload b dX12_gain_59 rfl ?_
  refine z_aload_n b dX12_gain_61 rfl rfl ?_
  refine z_get (q0 := 0) (k9 := 55) (v := .int 1) b (mw_0 cy a (si (su (su (sv (su (su (si S 22 (-1)) 29 992 0) 30 0 992) 0 0 1649317774848) 26 0 (-1)) 27 0 (-1)) 21 1)) rfl in_X12 (by decide) wf_X12_405 rfl dX12_gain_62 ?_
  refine z_icmp_ge_t (tgt := 147) b dX12_gain_65 (by decide) (by decide) ?_
  refine z_iload b dX12_gain_147 rfl ?_
  refine z_iconst (v := 2) b dX12_gain_149 (by decide) ?_
  refine z_icmp_ge_f (tgt := 171) b dX12_gain_150 (by decide) (by decide) ?_
  refine z_iload b dX12_gain_153 rfl ?_
  refine z_if_ne_f (tgt := 163) b dX12_gain_155 (by decide) (by decide) ?_
  refine z_iload b dX12_gain_158 rfl ?_
  refine z_goto (tgt := 170) b dX12_gain_160 (by decide) ?_
  exact z_iret (u := (si (su (su (sv (su (su (si S 22 (-1)) 29 992 0) 30 0 992) 0 0 1649317774848) 26 0 (-1)) 27 0 (-1)) 21 1)) b rfl dX12_gain_170 ⟨rfl, rfl⟩ rfl (by decide) (by decide)

set_option maxHeartbeats 4000000 in
set_option maxRecDepth 100000 in
theorem c_X11_gain_42 {l : Launch} {D : va_G} {cy : Nat → ClassId} {T0 tB tE : Nat} {a : Nat → Nat} {rw : Nat → Option Nat} (S : GS) (p0 : Int32) (p1 : Int32) (h_i_19 : fi S 19 = 0) (h_i_24 : fi S 24 = 0) (h_i_22 : fi S 22 = 0) (h_i_18 : fi S 18 = 0) (h_i_25 : fi S 25 = 0) (h_i_23 : fi S 23 = 0) (h_i_26 : fi S 26 = 0) (h_a_4_50 : ar S 4 50 = 0) (h_a_4_40 : ar S 4 40 = 3) (h_a_4_41 : ar S 4 41 = 3) (h_a_4_42 : ar S 4 42 = 3) (h_a_4_0 : ar S 4 0 = 0) (h_a_4_11 : ar S 4 11 = 0) (h_a_4_21 : ar S 4 21 = 0) (h_a_4_31 : ar S 4 31 = 0) (h_a_4_12 : ar S 4 12 = 0) (h_a_4_22 : ar S 4 22 = 0) (h_a_4_32 : ar S 4 32 = 0) (h_a_4_1 : ar S 4 1 = 0) (h_a_4_13 : ar S 4 13 = 0) (h_a_4_23 : ar S 4 23 = 0) (h_a_4_33 : ar S 4 33 = 0) (h_a_4_15 : ar S 4 15 = 0) (h_a_4_25 : ar S 4 25 = 0) (h_a_4_35 : ar S 4 35 = 0) (h_a_4_2 : ar S 4 2 = 0) (h_a_4_16 : ar S 4 16 = 0) (h_a_4_26 : ar S 4 26 = 0) (h_a_4_36 : ar S 4 36 = 0) (h_a_4_17 : ar S 4 17 = 0) (h_a_4_27 : ar S 4 27 = 0) (h_a_4_37 : ar S 4 37 = 0) (h_a_10_0 : ar S 10 0 = 0) (h_a_9_50 : ar S 9 50 = 0) (h_a_9_40 : ar S 9 40 = 3) (h_a_9_41 : ar S 9 41 = 3) (h_a_9_42 : ar S 9 42 = 3) (h_a_9_0 : ar S 9 0 = 0) (h_a_9_11 : ar S 9 11 = 0) (h_a_9_21 : ar S 9 21 = 0) (h_a_9_31 : ar S 9 31 = 0) (h_a_9_12 : ar S 9 12 = 0) (h_a_9_22 : ar S 9 22 = 0) (h_a_9_32 : ar S 9 32 = 0) (h_a_9_1 : ar S 9 1 = 0) (h_a_9_13 : ar S 9 13 = 0) (h_a_9_23 : ar S 9 23 = 0) (h_a_9_33 : ar S 9 33 = 0) (h_a_9_15 : ar S 9 15 = 0) (h_a_9_25 : ar S 9 25 = 0) (h_a_9_35 : ar S 9 35 = 0) (h_a_9_2 : ar S 9 2 = 0) (h_a_9_16 : ar S 9 16 = 0) (h_a_9_26 : ar S 9 26 = 0) (h_a_9_36 : ar S 9 36 = 0) (h_a_9_17 : ar S 9 17 = 0) (h_a_9_27 : ar S 9 27 = 0) (h_a_9_37 : ar S 9 37 = 0) (hr_p0 : 1 ≤ p0.toInt ∧ p0.toInt ≤ 3) (hr_p1 : 1 ≤ p1.toInt ∧ p1.toInt ≤ 6) : Ct l D cy T0 tB tE yX11_gain cX11_gain 7 (some .int) 5 117 0 0 (cw cy tE a rw S) [.ref (a 0), .int 2, .int p0, .int p1, .int 1] (QI D (U := GS) (fun r u => (((((0 < ((fi (su (si (su (su (sv (sa (si (si (si (si S 24 1) 19 p0) 20 p1) 21 7) 13 (fil 1024 0 (ar (si (si (si (si S 24 1) 19 p0) 20 p1) 21 7) 13))) 2 0 4128768) 11 0 (-1)) 12 0 (-1)) 25 1) 13 978 1) 20) : Int32).toInt)))) ∧ 0 = r ∧ (si (su (si (su (su (sv (sa (si (si (si (si S 24 1) 19 p0) 20 p1) 21 7) 13 (fil 1024 0 (ar (si (si (si (si S 24 1) 19 p0) 20 p1) 21 7) 13))) 2 0 4128768) 11 0 (-1)) 12 0 (-1)) 25 1) 13 978 1) 23 1) = u) ∨ (((((((fi (su (si (su (su (sv (sa (si (si (si (si S 24 1) 19 p0) 20 p1) 21 7) 13 (fil 1024 0 (ar (si (si (si (si S 24 1) 19 p0) 20 p1) 21 7) 13))) 2 0 4128768) 11 0 (-1)) 12 0 (-1)) 25 1) 13 978 1) 20) : Int32).toInt ≤ 0)))) ∧ 0 = r ∧ (su (si (su (su (sv (sa (si (si (si (si S 24 1) 19 p0) 20 p1) 21 7) 13 (fil 1024 0 (ar (si (si (si (si S 24 1) 19 p0) 20 p1) 21 7) 13))) 2 0 4128768) 11 0 (-1)) 12 0 (-1)) 25 1) 13 978 1) = u)) (cw cy tE a rw)) := by
  refine Ct.ofZ RX11 "gain" [(0, .ref (a 0)), (1, .int 2), (2, .int p0), (3, .int p1), (4, .int 1)] rfl rfl rfl rfl (Nat.le_of_ble_eq_true rfl) ?_
  intro p e R s m args below meth c A b
  refine z_iload_n b dX11_gain_0 rfl rfl ?_
  refine z_calli b (z_runS (As := [.int 2]) (st := []) b (c_X11_isPerson_5 S ) cf_X11_isPerson wm_X11_69 ws_X11_isPerson dX11_gain_1 rfl (Nat.le_of_ble_eq_true rfl) ⟨by decide, by decide, by decide, by decide⟩) (fun r13151 u13152 h13150 => ?_)
  obtain ⟨rfl, rfl⟩ := h13150
  refine z_if_eq_f (tgt := 26) b dX11_gain_4 (by decide) (by decide) ?_
  refine z_iload_n b dX11_gain_7 rfl rfl ?_
  refine z_calli b (z_runS (As := [.int p0]) (st := []) b (c_X11_areLaws_3 S p0 ⟨by omega, by omega⟩) cf_X11_areLaws wm_X11_181 ws_X11_areLaws dX11_gain_8 rfl (Nat.le_of_ble_eq_true rfl) ⟨by decide, by decide, by decide, by decide⟩) (fun r13154 u13155 h13153 => ?_)
  obtain ⟨rfl, rfl⟩ := h13153
  refine z_if_eq_f (tgt := 26) b dX11_gain_11 (by decide) (by decide) ?_
  refine z_iload_n b dX11_gain_14 rfl rfl ?_
  refine z_calli b (z_runS (As := [.int p1]) (st := []) b (c_X11_isDepth_3 S p1 ⟨by omega, by omega⟩) cf_X11_isDepth wm_X11_203 ws_X11_isDepth dX11_gain_15 rfl (Nat.le_of_ble_eq_true rfl) ⟨by decide, by decide, by decide, by decide⟩) (fun r13157 u13158 h13156 => ?_)
  obtain ⟨rfl, rfl⟩ := h13156
  refine z_if_eq_f (tgt := 26) b dX11_gain_18 (by decide) (by decide) ?_
  refine z_iload b dX11_gain_21 rfl ?_
  refine z_if_ge_t (tgt := 29) b dX11_gain_23 (by decide) (by decide) ?_
  refine z_aload_n b dX11_gain_29 rfl rfl ?_
  refine z_get (q0 := 0) (k9 := 6) (v := .ref (a 25)) b (cw_0 cy tE a rw S) rfl in_X11 (by decide) wf_X11_52 rfl dX11_gain_30 ?_
  refine z_iload_n b dX11_gain_33 rfl rfl ?_
  refine z_iload_n b dX11_gain_34 rfl rfl ?_
  refine z_bipush (v := 7) b dX11_gain_35 (by decide) ?_
  refine z_iconst (v := 0) b dX11_gain_37 (by decide) ?_
  refine z_callv b (z_runV (q0 := 25) (As := [.int p0, .int p1, .int 7, .int 0]) (st := []) b (c_X8_begin_2 S p0 p1 h_i_19 h_i_24 h_i_22 h_i_18 h_i_25 h_i_23 h_i_26 h_a_4_50 h_a_4_40 h_a_4_41 h_a_4_42 h_a_4_0 h_a_4_11 h_a_4_21 h_a_4_31 h_a_4_12 h_a_4_22 h_a_4_32 h_a_4_1 h_a_4_13 h_a_4_23 h_a_4_33 h_a_4_15 h_a_4_25 h_a_4_35 h_a_4_2 h_a_4_16 h_a_4_26 h_a_4_36 h_a_4_17 h_a_4_27 h_a_4_37 h_a_10_0 ⟨by omega, by omega⟩ ⟨by omega, by omega⟩) cf_X8_begin (cw_25 cy tE a rw S) rfl wm_X11_206 wi_X8_begin ws_X8_begin dX11_gain_38 rfl (Nat.le_of_ble_eq_true rfl) ⟨by decide, by decide, by decide, by decide⟩) (fun u13161 h13159 => ?_)
  obtain rfl := h13159
  refine z_aload_n b dX11_gain_41 rfl rfl ?_
  refine z_get (q0 := 0) (k9 := 6) (v := .ref (a 25)) b (cw_0 cy tE a rw (su (si (su (su (sv (sa (si (si (si (si S 24 1) 19 p0) 20 p1) 21 7) 13 (fil 1024 0 (ar (si (si (si (si S 24 1) 19 p0) 20 p1) 21 7) 13))) 2 0 4128768) 11 0 (-1)) 12 0 (-1)) 25 1) 13 978 1)) rfl in_X11 (by decide) wf_X11_52 rfl dX11_gain_42 ?_
  refine z_callv b (z_runV (q0 := 25) (As := []) (st := []) b (c_X8_finish_2 (su (si (su (su (sv (sa (si (si (si (si S 24 1) 19 p0) 20 p1) 21 7) 13 (fil 1024 0 (ar (si (si (si (si S 24 1) 19 p0) 20 p1) 21 7) 13))) 2 0 4128768) 11 0 (-1)) 12 0 (-1)) 25 1) 13 978 1) h_i_26 h_i_23 rfl h_a_10_0 rfl h_a_9_50 h_a_9_40 h_a_9_41 h_a_9_42 h_a_9_0 h_a_9_11 h_a_9_21 h_a_9_31 h_a_9_12 h_a_9_22 h_a_9_32 h_a_9_1 h_a_9_13 h_a_9_23 h_a_9_33 h_a_9_15 h_a_9_25 h_a_9_35 h_a_9_2 h_a_9_16 h_a_9_26 h_a_9_36 h_a_9_17 h_a_9_27 h_a_9_37 h_i_18) cf_X8_finish (cw_25 cy tE a rw (su (si (su (su (sv (sa (si (si (si (si S 24 1) 19 p0) 20 p1) 21 7) 13 (fil 1024 0 (ar (si (si (si (si S 24 1) 19 p0) 20 p1) 21 7) 13))) 2 0 4128768) 11 0 (-1)) 12 0 (-1)) 25 1) 13 978 1)) rfl wm_X11_232 wi_X8_finish ws_X8_finish dX11_gain_45 rfl (Nat.le_of_ble_eq_true rfl) ⟨by decide, by decide, by decide, by decide⟩) (fun u13164 h13162 => ?_)
  rcases h13162 with ⟨c13165, rfl⟩ | ⟨c13166, rfl⟩
  · refine z_aload_n b dX11_gain_48 rfl rfl ?_
    refine z_get (q0 := 0) (k9 := 6) (v := .ref (a 25)) b (cw_0 cy tE a rw (si (su (si (su (su (sv (sa (si (si (si (si S 24 1) 19 p0) 20 p1) 21 7) 13 (fil 1024 0 (ar (si (si (si (si S 24 1) 19 p0) 20 p1) 21 7) 13))) 2 0 4128768) 11 0 (-1)) 12 0 (-1)) 25 1) 13 978 1) 23 1)) rfl in_X11 (by decide) wf_X11_52 rfl dX11_gain_49 ?_
    refine z_get (q0 := 25) (k9 := 18) (v := .int (fi (si (su (si (su (su (sv (sa (si (si (si (si S 24 1) 19 p0) 20 p1) 21 7) 13 (fil 1024 0 (ar (si (si (si (si S 24 1) 19 p0) 20 p1) 21 7) 13))) 2 0 4128768) 11 0 (-1)) 12 0 (-1)) 25 1) 13 978 1) 23 1) 26)) b (cw_25 cy tE a rw (si (su (si (su (su (sv (sa (si (si (si (si S 24 1) 19 p0) 20 p1) 21 7) 13 (fil 1024 0 (ar (si (si (si (si S 24 1) 19 p0) 20 p1) 21 7) 13))) 2 0 4128768) 11 0 (-1)) 12 0 (-1)) 25 1) 13 978 1) 23 1)) rfl in_X8 (by decide) wf_X11_214 rfl dX11_gain_52 ?_
    refine z_eqi h_i_26 ?_
    refine z_if_eq_t (tgt := 61) b dX11_gain_55 (by decide) (by decide) ?_
    refine z_aload_n b dX11_gain_61 rfl rfl ?_
    refine z_get (q0 := 0) (k9 := 6) (v := .ref (a 25)) b (cw_0 cy tE a rw (si (su (si (su (su (sv (sa (si (si (si (si S 24 1) 19 p0) 20 p1) 21 7) 13 (fil 1024 0 (ar (si (si (si (si S 24 1) 19 p0) 20 p1) 21 7) 13))) 2 0 4128768) 11 0 (-1)) 12 0 (-1)) 25 1) 13 978 1) 23 1)) rfl in_X11 (by decide) wf_X11_52 rfl dX11_gain_62 ?_
    refine z_iload_n b dX11_gain_65 rfl rfl ?_
    refine z_calli b (z_runV (q0 := 25) (As := [.int 2]) (st := []) b (c_X8_richest_3 (si (su (si (su (su (sv (sa (si (si (si (si S 24 1) 19 p0) 20 p1) 21 7) 13 (fil 1024 0 (ar (si (si (si (si S 24 1) 19 p0) 20 p1) 21 7) 13))) 2 0 4128768) 11 0 (-1)) 12 0 (-1)) 25 1) 13 978 1) 23 1) rfl rfl h_a_9_50 h_a_9_40 h_a_9_41 h_a_9_42 h_a_9_0 h_a_9_11 h_a_9_21 h_a_9_31 h_a_9_12 h_a_9_22 h_a_9_32 h_a_9_1 h_a_9_13 h_a_9_23 h_a_9_33 h_a_9_15 h_a_9_25 h_a_9_35 h_a_9_2 h_a_9_16 h_a_9_26 h_a_9_36 h_a_9_17 h_a_9_27 h_a_9_37) cf_X8_richest (cw_25 cy tE a rw (si (su (si (su (su (sv (sa (si (si (si (si S 24 1) 19 p0) 20 p1) 21 7) 13 (fil 1024 0 (ar (si (si (si (si S 24 1) 19 p0) 20 p1) 21 7) 13))) 2 0 4128768) 11 0 (-1)) 12 0 (-1)) 25 1) 13 978 1) 23 1)) rfl wm_X11_238 wi_X8_richest ws_X8_richest dX11_gain_66 rfl (Nat.le_of_ble_eq_true rfl) ⟨by decide, by decide, by decide, by decide⟩) (fun r13168 u13169 h13167 => ?_)
    obtain ⟨rfl, rfl⟩ := h13167
    refine z_istore (lv' := [(5, .int 0), (0, .ref (a 0)), (1, .int 2), (2, .int p0), (3, .int p1), (4, .int 1)]) b dX11_gain_69 (by decide) rfl ?_
    refine z_iload b dX11_gain_71 rfl ?_
    refine z_if_ne_t (tgt := 87) b dX11_gain_73 (by decide) (by decide) ?_
    refine z_iload b dX11_gain_87 rfl ?_
    refine z_iconst (v := 1) b dX11_gain_89 (by decide) ?_
    refine z_icmp_ne_f (tgt := 103) b dX11_gain_90 (by decide) (by decide) ?_
    refine z_aload_n b dX11_gain_93 rfl rfl ?_
    refine z_get (q0 := 0) (k9 := 6) (v := .ref (a 25)) b (cw_0 cy tE a rw (si (su (si (su (su (sv (sa (si (si (si (si S 24 1) 19 p0) 20 p1) 21 7) 13 (fil 1024 0 (ar (si (si (si (si S 24 1) 19 p0) 20 p1) 21 7) 13))) 2 0 4128768) 11 0 (-1)) 12 0 (-1)) 25 1) 13 978 1) 23 1)) rfl in_X11 (by decide) wf_X11_52 rfl dX11_gain_94 ?_
    refine z_iload b dX11_gain_97 rfl ?_
    refine z_calli b (z_runV (q0 := 25) (As := [.int 0]) (st := []) b (c_X8_acts (si (su (si (su (su (sv (sa (si (si (si (si S 24 1) 19 p0) 20 p1) 21 7) 13 (fil 1024 0 (ar (si (si (si (si S 24 1) 19 p0) 20 p1) 21 7) 13))) 2 0 4128768) 11 0 (-1)) 12 0 (-1)) 25 1) 13 978 1) 23 1) rfl h_a_10_0) cf_X8_acts (cw_25 cy tE a rw (si (su (si (su (su (sv (sa (si (si (si (si S 24 1) 19 p0) 20 p1) 21 7) 13 (fil 1024 0 (ar (si (si (si (si S 24 1) 19 p0) 20 p1) 21 7) 13))) 2 0 4128768) 11 0 (-1)) 12 0 (-1)) 25 1) 13 978 1) 23 1)) rfl wm_X11_217 wi_X8_acts ws_X8_acts dX11_gain_99 rfl (Nat.le_of_ble_eq_true rfl) ⟨by decide, by decide, by decide, by decide⟩) (fun r13171 u13172 h13170 => ?_)
    obtain ⟨rfl, rfl⟩ := h13170
    exact z_iret (u := (si (su (si (su (su (sv (sa (si (si (si (si S 24 1) 19 p0) 20 p1) 21 7) 13 (fil 1024 0 (ar (si (si (si (si S 24 1) 19 p0) 20 p1) 21 7) 13))) 2 0 4128768) 11 0 (-1)) 12 0 (-1)) 25 1) 13 978 1) 23 1)) b rfl dX11_gain_102 (Or.inl ⟨c13165, rfl, rfl⟩) rfl (by decide) (by decide)
  · refine z_aload_n b dX11_gain_48 rfl rfl ?_
    refine z_get (q0 := 0) (k9 := 6) (v := .ref (a 25)) b (cw_0 cy tE a rw (su (si (su (su (sv (sa (si (si (si (si S 24 1) 19 p0) 20 p1) 21 7) 13 (fil 1024 0 (ar (si (si (si (si S 24 1) 19 p0) 20 p1) 21 7) 13))) 2 0 4128768) 11 0 (-1)) 12 0 (-1)) 25 1) 13 978 1)) rfl in_X11 (by decide) wf_X11_52 rfl dX11_gain_49 ?_
    refine z_get (q0 := 25) (k9 := 18) (v := .int (fi (su (si (su (su (sv (sa (si (si (si (si S 24 1) 19 p0) 20 p1) 21 7) 13 (fil 1024 0 (ar (si (si (si (si S 24 1) 19 p0) 20 p1) 21 7) 13))) 2 0 4128768) 11 0 (-1)) 12 0 (-1)) 25 1) 13 978 1) 26)) b (cw_25 cy tE a rw (su (si (su (su (sv (sa (si (si (si (si S 24 1) 19 p0) 20 p1) 21 7) 13 (fil 1024 0 (ar (si (si (si (si S 24 1) 19 p0) 20 p1) 21 7) 13))) 2 0 4128768) 11 0 (-1)) 12 0 (-1)) 25 1) 13 978 1)) rfl in_X8 (by decide) wf_X11_214 rfl dX11_gain_52 ?_
    refine z_eqi h_i_26 ?_
    refine z_if_eq_t (tgt := 61) b dX11_gain_55 (by decide) (by decide) ?_
    refine z_aload_n b dX11_gain_61 rfl rfl ?_
    refine z_get (q0 := 0) (k9 := 6) (v := .ref (a 25)) b (cw_0 cy tE a rw (su (si (su (su (sv (sa (si (si (si (si S 24 1) 19 p0) 20 p1) 21 7) 13 (fil 1024 0 (ar (si (si (si (si S 24 1) 19 p0) 20 p1) 21 7) 13))) 2 0 4128768) 11 0 (-1)) 12 0 (-1)) 25 1) 13 978 1)) rfl in_X11 (by decide) wf_X11_52 rfl dX11_gain_62 ?_
    refine z_iload_n b dX11_gain_65 rfl rfl ?_
    refine z_calli b (z_runV (q0 := 25) (As := [.int 2]) (st := []) b (c_X8_richest_3 (su (si (su (su (sv (sa (si (si (si (si S 24 1) 19 p0) 20 p1) 21 7) 13 (fil 1024 0 (ar (si (si (si (si S 24 1) 19 p0) 20 p1) 21 7) 13))) 2 0 4128768) 11 0 (-1)) 12 0 (-1)) 25 1) 13 978 1) rfl rfl h_a_9_50 h_a_9_40 h_a_9_41 h_a_9_42 h_a_9_0 h_a_9_11 h_a_9_21 h_a_9_31 h_a_9_12 h_a_9_22 h_a_9_32 h_a_9_1 h_a_9_13 h_a_9_23 h_a_9_33 h_a_9_15 h_a_9_25 h_a_9_35 h_a_9_2 h_a_9_16 h_a_9_26 h_a_9_36 h_a_9_17 h_a_9_27 h_a_9_37) cf_X8_richest (cw_25 cy tE a rw (su (si (su (su (sv (sa (si (si (si (si S 24 1) 19 p0) 20 p1) 21 7) 13 (fil 1024 0 (ar (si (si (si (si S 24 1) 19 p0) 20 p1) 21 7) 13))) 2 0 4128768) 11 0 (-1)) 12 0 (-1)) 25 1) 13 978 1)) rfl wm_X11_238 wi_X8_richest ws_X8_richest dX11_gain_66 rfl (Nat.le_of_ble_eq_true rfl) ⟨by decide, by decide, by decide, by decide⟩) (fun r13174 u13175 h13173 => ?_)
    obtain ⟨rfl, rfl⟩ := h13173
    refine z_istore (lv' := [(5, .int 0), (0, .ref (a 0)), (1, .int 2), (2, .int p0), (3, .int p1), (4, .int 1)]) b dX11_gain_69 (by decide) rfl ?_
    refine z_iload b dX11_gain_71 rfl ?_
    refine z_if_ne_t (tgt := 87) b dX11_gain_73 (by decide) (by decide) ?_
    refine z_iload b dX11_gain_87 rfl ?_
    refine z_iconst (v := 1) b dX11_gain_89 (by decide) ?_
    refine z_icmp_ne_f (tgt := 103) b dX11_gain_90 (by decide) (by decide) ?_
    refine z_aload_n b dX11_gain_93 rfl rfl ?_
    refine z_get (q0 := 0) (k9 := 6) (v := .ref (a 25)) b (cw_0 cy tE a rw (su (si (su (su (sv (sa (si (si (si (si S 24 1) 19 p0) 20 p1) 21 7) 13 (fil 1024 0 (ar (si (si (si (si S 24 1) 19 p0) 20 p1) 21 7) 13))) 2 0 4128768) 11 0 (-1)) 12 0 (-1)) 25 1) 13 978 1)) rfl in_X11 (by decide) wf_X11_52 rfl dX11_gain_94 ?_
    refine z_iload b dX11_gain_97 rfl ?_
    refine z_calli b (z_runV (q0 := 25) (As := [.int 0]) (st := []) b (c_X8_acts (su (si (su (su (sv (sa (si (si (si (si S 24 1) 19 p0) 20 p1) 21 7) 13 (fil 1024 0 (ar (si (si (si (si S 24 1) 19 p0) 20 p1) 21 7) 13))) 2 0 4128768) 11 0 (-1)) 12 0 (-1)) 25 1) 13 978 1) rfl h_a_10_0) cf_X8_acts (cw_25 cy tE a rw (su (si (su (su (sv (sa (si (si (si (si S 24 1) 19 p0) 20 p1) 21 7) 13 (fil 1024 0 (ar (si (si (si (si S 24 1) 19 p0) 20 p1) 21 7) 13))) 2 0 4128768) 11 0 (-1)) 12 0 (-1)) 25 1) 13 978 1)) rfl wm_X11_217 wi_X8_acts ws_X8_acts dX11_gain_99 rfl (Nat.le_of_ble_eq_true rfl) ⟨by decide, by decide, by decide, by decide⟩) (fun r13177 u13178 h13176 => ?_)
    obtain ⟨rfl, rfl⟩ := h13176
    exact z_iret (u := (su (si (su (su (sv (sa (si (si (si (si S 24 1) 19 p0) 20 p1) 21 7) 13 (fil 1024 0 (ar (si (si (si (si S 24 1) 19 p0) 20 p1) 21 7) 13))) 2 0 4128768) 11 0 (-1)) 12 0 (-1)) 25 1) 13 978 1)) b rfl dX11_gain_102 (Or.inr ⟨c13166, rfl, rfl⟩) rfl (by decide) (by decide)

set_option maxHeartbeats 4000000 in
set_option maxRecDepth 100000 in
theorem c_X12_gain_42 {l : Launch} {D : va_G} {cy : Nat → ClassId} {T0 tB tE : Nat} {a : Nat → Nat} (S : GS) (p0 : Int32) (p1 : Int32) (h_i_21 : fi S 21 = 0) (h_i_23 : fi S 23 = 0) (h_l_0 : fl S 0 = 1649317774848) (h_a_29_992 : ar S 29 992 = (-1)) (h_a_28_0 : ar S 28 0 = 0) (h_a_7_0 : ar S 7 0 = 0) (h_a_7_1 : ar S 7 1 = 0) (h_a_4_7 : ar S 4 7 = 0) (h_a_1_7 : ar S 1 7 = 0) (h_a_4_6 : ar S 4 6 = 0) (h_a_1_6 : ar S 1 6 = 0) (h_a_3_6 : ar S 3 6 = 0) (h_a_3_2 : ar S 3 2 = 0) (h_a_2_2 : ar S 2 2 = 3) (h_a_0_2 : ar S 0 2 = 0) (h_a_4_3 : ar S 4 3 = 0) (h_a_1_3 : ar S 1 3 = 0) (h_a_4_5 : ar S 4 5 = 0) (h_a_1_5 : ar S 1 5 = 0) (h_a_3_5 : ar S 3 5 = 0) (h_a_3_7 : ar S 3 7 = 0) (h_a_2_1 : ar S 2 1 = 3) (h_a_0_1 : ar S 0 1 = 0) (h_a_4_2 : ar S 4 2 = 0) (h_a_1_2 : ar S 1 2 = 0) (h_a_4_1 : ar S 4 1 = 0) (h_a_1_1 : ar S 1 1 = 0) (h_a_3_1 : ar S 3 1 = 0) (h_a_3_3 : ar S 3 3 = 0) (h_a_2_0 : ar S 2 0 = 3) (h_a_0_0 : ar S 0 0 = 0) (h_i_0 : fi S 0 = 0) (hr_p0 : 1 ≤ p0.toInt ∧ p0.toInt ≤ 3) (hr_p1 : 1 ≤ p1.toInt ∧ p1.toInt ≤ 6) : Ct l D cy T0 tB tE yX12_gain cX12_gain 9 (some .int) 4 99 0 0 (mw cy a S) [.ref (a 0), .int 2, .int p0, .int p1, .int 1] (QI D (U := GS) (fun r u => 0 = r ∧ (si (su (su (sv (su (su (si S 22 (-1)) 29 992 0) 30 0 992) 0 0 1649317774848) 26 0 (-1)) 27 0 (-1)) 21 1) = u) (mw cy a)) := by
  refine Ct.ofZ RX12 "gain" [(0, .ref (a 0)), (1, .int 2), (2, .int p0), (3, .int p1), (4, .int 1)] rfl rfl rfl rfl (Nat.le_of_ble_eq_true rfl) ?_
  intro p e R s m args below meth c A b
  refine z_iload_n b dX12_gain_0 rfl rfl ?_
  refine z_calli b (z_runS (As := [.int 2]) (st := []) b (c_X12_isOne_5 S ) cf_X12_isOne wm_X12_170 ws_X12_isOne dX12_gain_1 rfl (Nat.le_of_ble_eq_true rfl) ⟨by decide, by decide, by decide, by decide⟩) (fun r13180 u13181 h13179 => ?_)
  obtain ⟨rfl, rfl⟩ := h13179
  refine z_if_eq_f (tgt := 27) b dX12_gain_4 (by decide) (by decide) ?_
  refine z_aload_n b dX12_gain_7 rfl rfl ?_
  refine z_iload_n b dX12_gain_8 rfl rfl ?_
  refine z_iload_n b dX12_gain_9 rfl rfl ?_
  refine z_calli b (z_runV (q0 := 0) (As := [.int p0, .int p1]) (st := []) b (c_X12_canSearch_5 S p0 p1 ⟨by omega, by omega⟩ ⟨by omega, by omega⟩) cf_X12_canSearch (mw_0 cy a S) rfl wm_X12_433 wi_X12_canSearch ws_X12_canSearch dX12_gain_10 rfl (Nat.le_of_ble_eq_true rfl) ⟨by decide, by decide, by decide, by decide⟩) (fun r13183 u13184 h13182 => ?_)
  obtain ⟨rfl, rfl⟩ := h13182
  refine z_if_eq_f (tgt := 27) b dX12_gain_13 (by decide) (by decide) ?_
  refine z_iload b dX12_gain_16 rfl ?_
  refine z_iconst (v := 0) b dX12_gain_18 (by decide) ?_
  refine z_bipush (v := 7) b dX12_gain_19 (by decide) ?_
  refine z_calli b (z_runS (As := [.int 1, .int 0, .int 7]) (st := []) b (c_X12_isIn_60 S ) cf_X12_isIn wm_X12_1 ws_X12_isIn dX12_gain_21 rfl (Nat.le_of_ble_eq_true rfl) ⟨by decide, by decide, by decide, by decide⟩) (fun r13186 u13187 h13185 => ?_)
  obtain ⟨rfl, rfl⟩ := h13185
  refine z_if_ne_t (tgt := 30) b dX12_gain_24 (by decide) (by decide) ?_
  refine z_aload_n b dX12_gain_30 rfl rfl ?_
  refine z_iconst (v := (-1)) b dX12_gain_31 (by decide) ?_
  refine z_iload_n b dX12_gain_32 rfl rfl ?_
  refine z_iload_n b dX12_gain_33 rfl rfl ?_
  refine z_bipush (v := 7) b dX12_gain_34 (by decide) ?_
  refine z_iconst (v := 0) b dX12_gain_36 (by decide) ?_
  refine z_callv b (z_runV (q0 := 0) (As := [.int (-1), .int p0, .int p1, .int 7, .int 0]) (st := []) b (c_X12_searches_2 S p0 p1 h_i_21 h_i_23 h_l_0 h_a_29_992 h_a_28_0 h_a_7_0 h_a_7_1 ⟨by omega, by omega⟩ ⟨by omega, by omega⟩) cf_X12_searches (mw_0 cy a S) rfl wm_X12_436 wi_X12_searches ws_X12_searches dX12_gain_37 rfl (Nat.le_of_ble_eq_true rfl) ⟨by decide, by decide, by decide, by decide⟩) (fun u13190 h13188 => ?_)
  obtain rfl := h13188
  refine z_aload_n b dX12_gain_40 rfl rfl ?_
  refine z_get (q0 := 0) (k9 := 57) (v := .int (fi (si (su (su (sv (su (su (si S 22 (-1)) 29 992 0) 30 0 992) 0 0 1649317774848) 26 0 (-1)) 27 0 (-1)) 21 1) 23)) b (mw_0 cy a (si (su (su (sv (su (su (si S 22 (-1)) 29 992 0) 30 0 992) 0 0 1649317774848) 26 0 (-1)) 27 0 (-1)) 21 1)) rfl in_X12 (by decide) wf_X12_408 rfl dX12_gain_41 ?_
  refine z_eqi h_i_23 ?_
  refine z_if_eq_t (tgt := 50) b dX12_gain_44 (by decide) (by decide) ?_
  refine z_iconst (v := (-1)) b dX12_gain_50 (by decide) ?_
  refine z_istore (lv' := [(5, .int (-1)), (0, .ref (a 0)), (1, .int 2), (2, .int p0), (3, .int p1), (4, .int 1)]) b dX12_gain_51 (by decide) rfl ?_
  refine z_iconst (v := 0) b dX12_gain_53 (by decide) ?_
  refine z_istore (lv' := [(6, .int 0), (5, .int (-1)), (0, .ref (a 0)), (1, .int 2), (2, .int p0), (3, .int p1), (4, .int 1)]) b dX12_gain_54 (by decide) rfl ?_
  refine z_iconst (v := 0) b dX12_gain_56 (by decide) ?_
  refine z_istore (lv' := [(7, .int 0), (6, .int 0), (5, .int (-1)), (0, .ref (a 0)), (1, .int 2), (2, .int p0), (3, .int p1), (4, .int 1)]) b dX12_gain_57 (by decide) rfl ?_
  refine z_iload b dX12_gain_59 rfl ?_
  refine z_aload_n b dX12_gain_61 rfl rfl ?_
  refine z_get (q0 := 0) (k9 := 55) (v := .int 1) b (mw_0 cy a (si (su (su (sv (su (su (si S 22 (-1)) 29 992 0) 30 0 992) 0 0 1649317774848) 26 0 (-1)) 27 0 (-1)) 21 1)) rfl in_X12 (by decide) wf_X12_405 rfl dX12_gain_62 ?_
  refine z_icmp_ge_f (tgt := 147) b dX12_gain_65 (by decide) (by decide) ?_
  refine z_aload_n b dX12_gain_68 rfl rfl ?_
  refine z_aload_n b dX12_gain_69 rfl rfl ?_
  refine z_get (q0 := 0) (k9 := 49) (v := .ref (a 27)) b (mw_0 cy a (si (su (su (sv (su (su (si S 22 (-1)) 29 992 0) 30 0 992) 0 0 1649317774848) 26 0 (-1)) 27 0 (-1)) 21 1)) rfl in_X12 (by decide) wf_X12_97 rfl dX12_gain_70 ?_
  refine z_iload b dX12_gain_73 rfl ?_
  refine y_lald (q0 := 27) (j := 0) (v := 1649317774848) b (mw_27 cy a (si (su (su (sv (su (su (si S 22 (-1)) 29 992 0) 30 0 992) 0 0 1649317774848) 26 0 (-1)) 27 0 (-1)) 21 1)) (by decide) rfl dX12_gain_75 ?_
  refine z_callv b (z_runV (q0 := 0) (As := [.long 1649317774848]) (st := []) b (c_X12_takes (si (su (su (sv (su (su (si S 22 (-1)) 29 992 0) 30 0 992) 0 0 1649317774848) 26 0 (-1)) 27 0 (-1)) 21 1) h_a_4_7 h_a_1_7 h_a_4_6 h_a_1_6 h_a_3_6 h_a_3_2 h_a_2_2 h_a_0_2 h_a_4_3 h_a_1_3 h_a_4_5 h_a_1_5 h_a_3_5 h_a_3_7 h_a_2_1 h_a_0_1 h_a_4_2 h_a_1_2 h_a_4_1 h_a_1_1 h_a_3_1 h_a_3_3 h_a_2_0 h_a_0_0 h_i_0) cf_X12_takes (mw_0 cy a (si (su (su (sv (su (su (si S 22 (-1)) 29 992 0) 30 0 992) 0 0 1649317774848) 26 0 (-1)) 27 0 (-1)) 21 1)) rfl wm_X12_174 wi_X12_takes ws_X12_takes dX12_gain_76 rfl (Nat.le_of_ble_eq_true rfl) ⟨by decide, by decide, by decide, by decide⟩) (fun u13193 h13191 => ?_)
  obtain rfl := h13191
  refine z_aload_n b dX12_gain_79 rfl rfl ?_
  refine z_get (q0 := 0) (k9 := 0) (v := .ref (a 1)) b (mw_0 cy a (si (su (su (sv (su (su (si S 22 (-1)) 29 992 0) 30 0 992) 0 0 1649317774848) 26 0 (-1)) 27 0 (-1)) 21 1)) rfl in_X12 (by decide) wf_X12_13 rfl dX12_gain_80 ?_
  refine z_iload_n b dX12_gain_83 rfl rfl ?_
  refine y_iald (q0 := 1) (j := 2) (v := (ar (si (su (su (sv (su (su (si S 22 (-1)) 29 992 0) 30 0 992) 0 0 1649317774848) 26 0 (-1)) 27 0 (-1)) 21 1) 0 2)) b (mw_1 cy a (si (su (su (sv (su (su (si S 22 (-1)) 29 992 0) 30 0 992) 0 0 1649317774848) 26 0 (-1)) 27 0 (-1)) 21 1)) (by decide) rfl dX12_gain_84 ?_
  refine z_eqi h_a_0_2 ?_
  refine z_aload_n b dX12_gain_85 rfl rfl ?_
  refine z_get (q0 := 0) (k9 := 1) (v := .ref (a 2)) b (mw_0 cy a (si (su (su (sv (su (su (si S 22 (-1)) 29 992 0) 30 0 992) 0 0 1649317774848) 26 0 (-1)) 27 0 (-1)) 21 1)) rfl in_X12 (by decide) wf_X12_17 rfl dX12_gain_86 ?_
  refine z_iconst (v := 3) b dX12_gain_89 (by decide) ?_
  refine z_iload_n b dX12_gain_90 rfl rfl ?_
  refine z_imul (v := 6) b dX12_gain_91 (by decide) ?_
  refine z_iload_n b dX12_gain_92 rfl rfl ?_
  refine z_iconst (v := 0) b dX12_gain_93 (by decide) ?_
  refine z_calli b (z_runS (As := [.int 2, .int 0]) (st := [.int 6, .ref (a 2), .int 0]) b (c_X12_other_2 (si (su (su (sv (su (su (si S 22 (-1)) 29 992 0) 30 0 992) 0 0 1649317774848) 26 0 (-1)) 27 0 (-1)) 21 1) ) cf_X12_other wm_X12_160 ws_X12_other dX12_gain_94 rfl (Nat.le_of_ble_eq_true rfl) ⟨by decide, by decide, by decide, by decide⟩) (fun r13195 u13196 h13194 => ?_)
  obtain ⟨rfl, rfl⟩ := h13194
  refine z_iadd (v := 6) b dX12_gain_97 (by decide) ?_
  refine y_iald (q0 := 2) (j := 6) (v := (ar (si (su (su (sv (su (su (si S 22 (-1)) 29 992 0) 30 0 992) 0 0 1649317774848) 26 0 (-1)) 27 0 (-1)) 21 1) 1 6)) b (mw_2 cy a (si (su (su (sv (su (su (si S 22 (-1)) 29 992 0) 30 0 992) 0 0 1649317774848) 26 0 (-1)) 27 0 (-1)) 21 1)) (by decide) rfl dX12_gain_98 ?_
  refine z_eqi h_a_1_6 ?_
  refine z_isub (v := 0) b dX12_gain_99 (by decide) ?_
  refine z_aload_n b dX12_gain_100 rfl rfl ?_
  refine z_get (q0 := 0) (k9 := 1) (v := .ref (a 2)) b (mw_0 cy a (si (su (su (sv (su (su (si S 22 (-1)) 29 992 0) 30 0 992) 0 0 1649317774848) 26 0 (-1)) 27 0 (-1)) 21 1)) rfl in_X12 (by decide) wf_X12_17 rfl dX12_gain_101 ?_
  refine z_iconst (v := 3) b dX12_gain_104 (by decide) ?_
  refine z_iload_n b dX12_gain_105 rfl rfl ?_
  refine z_imul (v := 6) b dX12_gain_106 (by decide) ?_
  refine z_iload_n b dX12_gain_107 rfl rfl ?_
  refine z_iconst (v := 1) b dX12_gain_108 (by decide) ?_
  refine z_calli b (z_runS (As := [.int 2, .int 1]) (st := [.int 6, .ref (a 2), .int 0]) b (c_X12_other (si (su (su (sv (su (su (si S 22 (-1)) 29 992 0) 30 0 992) 0 0 1649317774848) 26 0 (-1)) 27 0 (-1)) 21 1) ) cf_X12_other wm_X12_160 ws_X12_other dX12_gain_109 rfl (Nat.le_of_ble_eq_true rfl) ⟨by decide, by decide, by decide, by decide⟩) (fun r13198 u13199 h13197 => ?_)
  obtain ⟨rfl, rfl⟩ := h13197
  refine z_iadd (v := 7) b dX12_gain_112 (by decide) ?_
  refine y_iald (q0 := 2) (j := 7) (v := (ar (si (su (su (sv (su (su (si S 22 (-1)) 29 992 0) 30 0 992) 0 0 1649317774848) 26 0 (-1)) 27 0 (-1)) 21 1) 1 7)) b (mw_2 cy a (si (su (su (sv (su (su (si S 22 (-1)) 29 992 0) 30 0 992) 0 0 1649317774848) 26 0 (-1)) 27 0 (-1)) 21 1)) (by decide) rfl dX12_gain_113 ?_
  refine z_eqi h_a_1_7 ?_
  refine z_isub (v := 0) b dX12_gain_114 (by decide) ?_
  refine z_istore (lv' := [(8, .int 0), (7, .int 0), (6, .int 0), (5, .int (-1)), (0, .ref (a 0)), (1, .int 2), (2, .int p0), (3, .int p1), (4, .int 1)]) b dX12_gain_115 (by decide) rfl ?_
  refine z_iload b dX12_gain_117 rfl ?_
  refine z_iconst (v := (-1)) b dX12_gain_119 (by decide) ?_
  refine z_icmp_eq_t (tgt := 133) b dX12_gain_120 (by decide) (by decide) ?_
  refine z_iload b dX12_gain_133 rfl ?_
  refine z_istore (lv' := [(5, .int 0), (8, .int 0), (7, .int 0), (6, .int 0), (0, .ref (a 0)), (1, .int 2), (2, .int p0), (3, .int p1), (4, .int 1)]) b dX12_gain_135 (by decide) rfl ?_
  refine z_iload b dX12_gain_137 rfl ?_
  refine z_istore (lv' := [(6, .int 0), (5, .int 0), (8, .int 0), (7, .int 0), (0, .ref (a 0)), (1, .int 2), (2, .int p0), (3, .int p1), (4, .int 1)]) b dX12_gain_139 (by decide) rfl ?_
  refine z_iinc (k9 := 3) (v := 1) (lv' := [(7, .int 1), (6, .int 0), (5, .int 0), (8, .int 0), (0, .ref (a 0)), (1, .int 2), (2, .int p0), (3, .int p1), (4, .int 1)]) b dX12_gain_141 rfl (by decide) (by decide) rfl ?_
  refine z_goto (tgt := 59) b dX12_gain_144 (by decide) ?_
  refine z_iload b dX12_gain_59 rfl ?_
  refine z_aload_n b dX12_gain_61 rfl rfl ?_
  refine z_get (q0 := 0) (k9 := 55) (v := .int 1) b (mw_0 cy a (si (su (su (sv (su (su (si S 22 (-1)) 29 992 0) 30 0 992) 0 0 1649317774848) 26 0 (-1)) 27 0 (-1)) 21 1)) rfl in_X12 (by decide) wf_X12_405 rfl dX12_gain_62 ?_
  refine z_icmp_ge_t (tgt := 147) b dX12_gain_65 (by decide) (by decide) ?_
  refine z_iload b dX12_gain_147 rfl ?_
  refine z_iconst (v := 2) b dX12_gain_149 (by decide) ?_
  refine z_icmp_ge_f (tgt := 171) b dX12_gain_150 (by decide) (by decide) ?_
  refine z_iload b dX12_gain_153 rfl ?_
  refine z_if_ne_t (tgt := 163) b dX12_gain_155 (by decide) (by decide) ?_
  refine z_aload_n b dX12_gain_163 rfl rfl ?_
  refine z_get (q0 := 0) (k9 := 52) (v := .ref (a 30)) b (mw_0 cy a (si (su (su (sv (su (su (si S 22 (-1)) 29 992 0) 30 0 992) 0 0 1649317774848) 26 0 (-1)) 27 0 (-1)) 21 1)) rfl in_X12 (by decide) wf_X12_107 rfl dX12_gain_164 ?_
  refine z_iload b dX12_gain_167 rfl ?_
  refine y_iald (q0 := 30) (j := 0) (v := (ar (si (su (su (sv (su (su (si S 22 (-1)) 29 992 0) 30 0 992) 0 0 1649317774848) 26 0 (-1)) 27 0 (-1)) 21 1) 28 0)) b (mw_30 cy a (si (su (su (sv (su (su (si S 22 (-1)) 29 992 0) 30 0 992) 0 0 1649317774848) 26 0 (-1)) 27 0 (-1)) 21 1)) (by decide) rfl dX12_gain_169 ?_
  refine z_eqi h_a_28_0 ?_
  exact z_iret (u := (si (su (su (sv (su (su (si S 22 (-1)) 29 992 0) 30 0 992) 0 0 1649317774848) 26 0 (-1)) 27 0 (-1)) 21 1)) b rfl dX12_gain_170 ⟨rfl, rfl⟩ rfl (by decide) (by decide)

set_option maxHeartbeats 4000000 in
set_option maxRecDepth 100000 in
theorem c_X11_gain_43 {l : Launch} {D : va_G} {cy : Nat → ClassId} {T0 tB tE : Nat} {a : Nat → Nat} {rw : Nat → Option Nat} (S : GS) (p0 : Int32) (p1 : Int32) (p2 : Int32) (h_i_19 : fi S 19 = 0) (h_i_24 : fi S 24 = 0) (h_i_22 : fi S 22 = 0) (h_i_18 : fi S 18 = 0) (h_i_25 : fi S 25 = 0) (h_i_23 : fi S 23 = 0) (h_i_26 : fi S 26 = 0) (h_a_4_50 : ar S 4 50 = 0) (h_a_4_40 : ar S 4 40 = 3) (h_a_4_41 : ar S 4 41 = 3) (h_a_4_42 : ar S 4 42 = 3) (h_a_4_0 : ar S 4 0 = 0) (h_a_4_11 : ar S 4 11 = 0) (h_a_4_21 : ar S 4 21 = 0) (h_a_4_31 : ar S 4 31 = 0) (h_a_4_12 : ar S 4 12 = 0) (h_a_4_22 : ar S 4 22 = 0) (h_a_4_32 : ar S 4 32 = 0) (h_a_4_1 : ar S 4 1 = 0) (h_a_4_13 : ar S 4 13 = 0) (h_a_4_23 : ar S 4 23 = 0) (h_a_4_33 : ar S 4 33 = 0) (h_a_4_15 : ar S 4 15 = 0) (h_a_4_25 : ar S 4 25 = 0) (h_a_4_35 : ar S 4 35 = 0) (h_a_4_2 : ar S 4 2 = 0) (h_a_4_16 : ar S 4 16 = 0) (h_a_4_26 : ar S 4 26 = 0) (h_a_4_36 : ar S 4 36 = 0) (h_a_4_17 : ar S 4 17 = 0) (h_a_4_27 : ar S 4 27 = 0) (h_a_4_37 : ar S 4 37 = 0) (h_a_10_0 : ar S 10 0 = 0) (h_a_9_50 : ar S 9 50 = 0) (h_a_9_40 : ar S 9 40 = 3) (h_a_9_41 : ar S 9 41 = 3) (h_a_9_42 : ar S 9 42 = 3) (h_a_9_0 : ar S 9 0 = 0) (h_a_9_11 : ar S 9 11 = 0) (h_a_9_21 : ar S 9 21 = 0) (h_a_9_31 : ar S 9 31 = 0) (h_a_9_12 : ar S 9 12 = 0) (h_a_9_22 : ar S 9 22 = 0) (h_a_9_32 : ar S 9 32 = 0) (h_a_9_1 : ar S 9 1 = 0) (h_a_9_13 : ar S 9 13 = 0) (h_a_9_23 : ar S 9 23 = 0) (h_a_9_33 : ar S 9 33 = 0) (h_a_9_15 : ar S 9 15 = 0) (h_a_9_25 : ar S 9 25 = 0) (h_a_9_35 : ar S 9 35 = 0) (h_a_9_2 : ar S 9 2 = 0) (h_a_9_16 : ar S 9 16 = 0) (h_a_9_26 : ar S 9 26 = 0) (h_a_9_36 : ar S 9 36 = 0) (h_a_9_17 : ar S 9 17 = 0) (h_a_9_27 : ar S 9 27 = 0) (h_a_9_37 : ar S 9 37 = 0) (hr_p0 : 1 ≤ p0.toInt ∧ p0.toInt ≤ 3) (hr_p1 : 1 ≤ p1.toInt ∧ p1.toInt ≤ 6) (hr_p2 : 2 ≤ p2.toInt ∧ p2.toInt ≤ 7) : Ct l D cy T0 tB tE yX11_gain cX11_gain 7 (some .int) 5 117 0 0 (cw cy tE a rw S) [.ref (a 0), .int 2, .int p0, .int p1, .int p2] (QI D (U := GS) (fun r u => (((0 ≤ p2.toInt) ∧ (((0 < ((fi (su (si (su (su (sv (sa (si (si (si (si S 24 1) 19 p0) 20 p1) 21 7) 13 (fil 1024 0 (ar (si (si (si (si S 24 1) 19 p0) 20 p1) 21 7) 13))) 2 0 4128768) 11 0 (-1)) 12 0 (-1)) 25 1) 13 978 1) 20) : Int32).toInt))) ∧ (p2.toInt ≠ 0) ∧ (p2.toInt ≠ 1)) ∧ (-100) = r ∧ (si (su (si (su (su (sv (sa (si (si (si (si S 24 1) 19 p0) 20 p1) 21 7) 13 (fil 1024 0 (ar (si (si (si (si S 24 1) 19 p0) 20 p1) 21 7) 13))) 2 0 4128768) 11 0 (-1)) 12 0 (-1)) 25 1) 13 978 1) 23 1) = u) ∨ (((0 ≤ p2.toInt) ∧ (((((fi (su (si (su (su (sv (sa (si (si (si (si S 24 1) 19 p0) 20 p1) 21 7) 13 (fil 1024 0 (ar (si (si (si (si S 24 1) 19 p0) 20 p1) 21 7) 13))) 2 0 4128768) 11 0 (-1)) 12 0 (-1)) 25 1) 13 978 1) 20) : Int32).toInt ≤ 0))) ∧ (p2.toInt ≠ 0) ∧ (p2.toInt ≠ 1)) ∧ (-100) = r ∧ (su (si (su (su (sv (sa (si (si (si (si S 24 1) 19 p0) 20 p1) 21 7) 13 (fil 1024 0 (ar (si (si (si (si S 24 1) 19 p0) 20 p1) 21 7) 13))) 2 0 4128768) 11 0 (-1)) 12 0 (-1)) 25 1) 13 978 1) = u)) (cw cy tE a rw)) := by
  refine Ct.ofZ RX11 "gain" [(0, .ref (a 0)), (1, .int 2), (2, .int p0), (3, .int p1), (4, .int p2)] rfl rfl rfl rfl (Nat.le_of_ble_eq_true rfl) ?_
  intro p e R s m args below meth c A b
  refine z_iload_n b dX11_gain_0 rfl rfl ?_
  refine z_calli b (z_runS (As := [.int 2]) (st := []) b (c_X11_isPerson_5 S ) cf_X11_isPerson wm_X11_69 ws_X11_isPerson dX11_gain_1 rfl (Nat.le_of_ble_eq_true rfl) ⟨by decide, by decide, by decide, by decide⟩) (fun r13201 u13202 h13200 => ?_)
  obtain ⟨rfl, rfl⟩ := h13200
  refine z_if_eq_f (tgt := 26) b dX11_gain_4 (by decide) (by decide) ?_
  refine z_iload_n b dX11_gain_7 rfl rfl ?_
  refine z_calli b (z_runS (As := [.int p0]) (st := []) b (c_X11_areLaws_3 S p0 ⟨by omega, by omega⟩) cf_X11_areLaws wm_X11_181 ws_X11_areLaws dX11_gain_8 rfl (Nat.le_of_ble_eq_true rfl) ⟨by decide, by decide, by decide, by decide⟩) (fun r13204 u13205 h13203 => ?_)
  obtain ⟨rfl, rfl⟩ := h13203
  refine z_if_eq_f (tgt := 26) b dX11_gain_11 (by decide) (by decide) ?_
  refine z_iload_n b dX11_gain_14 rfl rfl ?_
  refine z_calli b (z_runS (As := [.int p1]) (st := []) b (c_X11_isDepth_3 S p1 ⟨by omega, by omega⟩) cf_X11_isDepth wm_X11_203 ws_X11_isDepth dX11_gain_15 rfl (Nat.le_of_ble_eq_true rfl) ⟨by decide, by decide, by decide, by decide⟩) (fun r13207 u13208 h13206 => ?_)
  obtain ⟨rfl, rfl⟩ := h13206
  refine z_if_eq_f (tgt := 26) b dX11_gain_18 (by decide) (by decide) ?_
  refine z_iload b dX11_gain_21 rfl ?_
  refine y_if_ge (tgt := 29) (xl := p2.toInt) b rfl dX11_gain_23 (by decide) (fun c13209 => ?_) (fun c13209 => ?_)
  · refine z_aload_n b dX11_gain_29 rfl rfl ?_
    refine z_get (q0 := 0) (k9 := 6) (v := .ref (a 25)) b (cw_0 cy tE a rw S) rfl in_X11 (by decide) wf_X11_52 rfl dX11_gain_30 ?_
    refine z_iload_n b dX11_gain_33 rfl rfl ?_
    refine z_iload_n b dX11_gain_34 rfl rfl ?_
    refine z_bipush (v := 7) b dX11_gain_35 (by decide) ?_
    refine z_iconst (v := 0) b dX11_gain_37 (by decide) ?_
    refine z_callv b (z_runV (q0 := 25) (As := [.int p0, .int p1, .int 7, .int 0]) (st := []) b (c_X8_begin_2 S p0 p1 h_i_19 h_i_24 h_i_22 h_i_18 h_i_25 h_i_23 h_i_26 h_a_4_50 h_a_4_40 h_a_4_41 h_a_4_42 h_a_4_0 h_a_4_11 h_a_4_21 h_a_4_31 h_a_4_12 h_a_4_22 h_a_4_32 h_a_4_1 h_a_4_13 h_a_4_23 h_a_4_33 h_a_4_15 h_a_4_25 h_a_4_35 h_a_4_2 h_a_4_16 h_a_4_26 h_a_4_36 h_a_4_17 h_a_4_27 h_a_4_37 h_a_10_0 ⟨by omega, by omega⟩ ⟨by omega, by omega⟩) cf_X8_begin (cw_25 cy tE a rw S) rfl wm_X11_206 wi_X8_begin ws_X8_begin dX11_gain_38 rfl (Nat.le_of_ble_eq_true rfl) ⟨by decide, by decide, by decide, by decide⟩) (fun u13212 h13210 => ?_)
    obtain rfl := h13210
    refine z_aload_n b dX11_gain_41 rfl rfl ?_
    refine z_get (q0 := 0) (k9 := 6) (v := .ref (a 25)) b (cw_0 cy tE a rw (su (si (su (su (sv (sa (si (si (si (si S 24 1) 19 p0) 20 p1) 21 7) 13 (fil 1024 0 (ar (si (si (si (si S 24 1) 19 p0) 20 p1) 21 7) 13))) 2 0 4128768) 11 0 (-1)) 12 0 (-1)) 25 1) 13 978 1)) rfl in_X11 (by decide) wf_X11_52 rfl dX11_gain_42 ?_
    refine z_callv b (z_runV (q0 := 25) (As := []) (st := []) b (c_X8_finish_2 (su (si (su (su (sv (sa (si (si (si (si S 24 1) 19 p0) 20 p1) 21 7) 13 (fil 1024 0 (ar (si (si (si (si S 24 1) 19 p0) 20 p1) 21 7) 13))) 2 0 4128768) 11 0 (-1)) 12 0 (-1)) 25 1) 13 978 1) h_i_26 h_i_23 rfl h_a_10_0 rfl h_a_9_50 h_a_9_40 h_a_9_41 h_a_9_42 h_a_9_0 h_a_9_11 h_a_9_21 h_a_9_31 h_a_9_12 h_a_9_22 h_a_9_32 h_a_9_1 h_a_9_13 h_a_9_23 h_a_9_33 h_a_9_15 h_a_9_25 h_a_9_35 h_a_9_2 h_a_9_16 h_a_9_26 h_a_9_36 h_a_9_17 h_a_9_27 h_a_9_37 h_i_18) cf_X8_finish (cw_25 cy tE a rw (su (si (su (su (sv (sa (si (si (si (si S 24 1) 19 p0) 20 p1) 21 7) 13 (fil 1024 0 (ar (si (si (si (si S 24 1) 19 p0) 20 p1) 21 7) 13))) 2 0 4128768) 11 0 (-1)) 12 0 (-1)) 25 1) 13 978 1)) rfl wm_X11_232 wi_X8_finish ws_X8_finish dX11_gain_45 rfl (Nat.le_of_ble_eq_true rfl) ⟨by decide, by decide, by decide, by decide⟩) (fun u13215 h13213 => ?_)
    rcases h13213 with ⟨c13216, rfl⟩ | ⟨c13217, rfl⟩
    · refine z_aload_n b dX11_gain_48 rfl rfl ?_
      refine z_get (q0 := 0) (k9 := 6) (v := .ref (a 25)) b (cw_0 cy tE a rw (si (su (si (su (su (sv (sa (si (si (si (si S 24 1) 19 p0) 20 p1) 21 7) 13 (fil 1024 0 (ar (si (si (si (si S 24 1) 19 p0) 20 p1) 21 7) 13))) 2 0 4128768) 11 0 (-1)) 12 0 (-1)) 25 1) 13 978 1) 23 1)) rfl in_X11 (by decide) wf_X11_52 rfl dX11_gain_49 ?_
      refine z_get (q0 := 25) (k9 := 18) (v := .int (fi (si (su (si (su (su (sv (sa (si (si (si (si S 24 1) 19 p0) 20 p1) 21 7) 13 (fil 1024 0 (ar (si (si (si (si S 24 1) 19 p0) 20 p1) 21 7) 13))) 2 0 4128768) 11 0 (-1)) 12 0 (-1)) 25 1) 13 978 1) 23 1) 26)) b (cw_25 cy tE a rw (si (su (si (su (su (sv (sa (si (si (si (si S 24 1) 19 p0) 20 p1) 21 7) 13 (fil 1024 0 (ar (si (si (si (si S 24 1) 19 p0) 20 p1) 21 7) 13))) 2 0 4128768) 11 0 (-1)) 12 0 (-1)) 25 1) 13 978 1) 23 1)) rfl in_X8 (by decide) wf_X11_214 rfl dX11_gain_52 ?_
      refine z_eqi h_i_26 ?_
      refine z_if_eq_t (tgt := 61) b dX11_gain_55 (by decide) (by decide) ?_
      refine z_aload_n b dX11_gain_61 rfl rfl ?_
      refine z_get (q0 := 0) (k9 := 6) (v := .ref (a 25)) b (cw_0 cy tE a rw (si (su (si (su (su (sv (sa (si (si (si (si S 24 1) 19 p0) 20 p1) 21 7) 13 (fil 1024 0 (ar (si (si (si (si S 24 1) 19 p0) 20 p1) 21 7) 13))) 2 0 4128768) 11 0 (-1)) 12 0 (-1)) 25 1) 13 978 1) 23 1)) rfl in_X11 (by decide) wf_X11_52 rfl dX11_gain_62 ?_
      refine z_iload_n b dX11_gain_65 rfl rfl ?_
      refine z_calli b (z_runV (q0 := 25) (As := [.int 2]) (st := []) b (c_X8_richest_3 (si (su (si (su (su (sv (sa (si (si (si (si S 24 1) 19 p0) 20 p1) 21 7) 13 (fil 1024 0 (ar (si (si (si (si S 24 1) 19 p0) 20 p1) 21 7) 13))) 2 0 4128768) 11 0 (-1)) 12 0 (-1)) 25 1) 13 978 1) 23 1) rfl rfl h_a_9_50 h_a_9_40 h_a_9_41 h_a_9_42 h_a_9_0 h_a_9_11 h_a_9_21 h_a_9_31 h_a_9_12 h_a_9_22 h_a_9_32 h_a_9_1 h_a_9_13 h_a_9_23 h_a_9_33 h_a_9_15 h_a_9_25 h_a_9_35 h_a_9_2 h_a_9_16 h_a_9_26 h_a_9_36 h_a_9_17 h_a_9_27 h_a_9_37) cf_X8_richest (cw_25 cy tE a rw (si (su (si (su (su (sv (sa (si (si (si (si S 24 1) 19 p0) 20 p1) 21 7) 13 (fil 1024 0 (ar (si (si (si (si S 24 1) 19 p0) 20 p1) 21 7) 13))) 2 0 4128768) 11 0 (-1)) 12 0 (-1)) 25 1) 13 978 1) 23 1)) rfl wm_X11_238 wi_X8_richest ws_X8_richest dX11_gain_66 rfl (Nat.le_of_ble_eq_true rfl) ⟨by decide, by decide, by decide, by decide⟩) (fun r13219 u13220 h13218 => ?_)
      obtain ⟨rfl, rfl⟩ := h13218
      refine z_istore (lv' := [(5, .int 0), (0, .ref (a 0)), (1, .int 2), (2, .int p0), (3, .int p1), (4, .int p2)]) b dX11_gain_69 (by decide) rfl ?_
      refine z_iload b dX11_gain_71 rfl ?_
      refine y_if_ne (tgt := 87) (xl := p2.toInt) b rfl dX11_gain_73 (by decide) (fun c13221 => ?_) (fun c13221 => ?_)
      · refine z_iload b dX11_gain_87 rfl ?_
        refine z_iconst (v := 1) b dX11_gain_89 (by decide) ?_
        refine y_icmp_ne (tgt := 103) (xl := p2.toInt) (yl := 1) b rfl (by decide) dX11_gain_90 (by decide) (fun c13222 => ?_) (fun c13222 => ?_)
        · refine z_aload_n b dX11_gain_103 rfl rfl ?_
          refine z_get (q0 := 0) (k9 := 6) (v := .ref (a 25)) b (cw_0 cy tE a rw (si (su (si (su (su (sv (sa (si (si (si (si S 24 1) 19 p0) 20 p1) 21 7) 13 (fil 1024 0 (ar (si (si (si (si S 24 1) 19 p0) 20 p1) 21 7) 13))) 2 0 4128768) 11 0 (-1)) 12 0 (-1)) 25 1) 13 978 1) 23 1)) rfl in_X11 (by decide) wf_X11_52 rfl dX11_gain_104 ?_
          refine z_iload b dX11_gain_107 rfl ?_
          refine z_iload b dX11_gain_109 rfl ?_
          refine z_iconst (v := 2) b dX11_gain_111 (by decide) ?_
          refine z_isub b dX11_gain_112 rfl ?_
          have f13223 : ((p2 - 2) : Int32).toInt = p2.toInt + (-2) := zisub (k := 2) (by decide) (by omega) (by omega)
          refine z_calli b (z_runV (q0 := 25) (As := [.int 0, .int (p2 - 2)]) (st := []) b (c_X8_code (si (su (si (su (su (sv (sa (si (si (si (si S 24 1) 19 p0) 20 p1) 21 7) 13 (fil 1024 0 (ar (si (si (si (si S 24 1) 19 p0) 20 p1) 21 7) 13))) 2 0 4128768) 11 0 (-1)) 12 0 (-1)) 25 1) 13 978 1) 23 1) (p2 - 2) rfl h_a_10_0 ⟨by omega, by omega⟩) cf_X8_code (cw_25 cy tE a rw (si (su (si (su (su (sv (sa (si (si (si (si S 24 1) 19 p0) 20 p1) 21 7) 13 (fil 1024 0 (ar (si (si (si (si S 24 1) 19 p0) 20 p1) 21 7) 13))) 2 0 4128768) 11 0 (-1)) 12 0 (-1)) 25 1) 13 978 1) 23 1)) rfl wm_X11_219 wi_X8_code ws_X8_code dX11_gain_113 rfl (Nat.le_of_ble_eq_true rfl) ⟨by decide, by decide, by decide, by decide⟩) (fun r13225 u13226 h13224 => ?_)
          obtain ⟨rfl, rfl⟩ := h13224
          refine z_istore (lv' := [(6, .int (-1)), (5, .int 0), (0, .ref (a 0)), (1, .int 2), (2, .int p0), (3, .int p1), (4, .int p2)]) b dX11_gain_116 (by decide) rfl ?_
          refine z_iload b dX11_gain_118 rfl ?_
          refine z_iconst (v := (-1)) b dX11_gain_120 (by decide) ?_
          refine z_icmp_ne_f (tgt := 129) b dX11_gain_121 (by decide) (by decide) ?_
          refine z_bipush (v := (-100)) b dX11_gain_124 (by decide) ?_
          refine z_goto (tgt := 131) b dX11_gain_126 (by decide) ?_
          exact z_iret (u := (si (su (si (su (su (sv (sa (si (si (si (si S 24 1) 19 p0) 20 p1) 21 7) 13 (fil 1024 0 (ar (si (si (si (si S 24 1) 19 p0) 20 p1) 21 7) 13))) 2 0 4128768) 11 0 (-1)) 12 0 (-1)) 25 1) 13 978 1) 23 1)) b rfl dX11_gain_131 (Or.inl ⟨⟨c13209, c13216, c13221, c13222⟩, rfl, rfl⟩) rfl (by decide) (by decide)
        · exfalso; omega
      · exfalso; omega
    · refine z_aload_n b dX11_gain_48 rfl rfl ?_
      refine z_get (q0 := 0) (k9 := 6) (v := .ref (a 25)) b (cw_0 cy tE a rw (su (si (su (su (sv (sa (si (si (si (si S 24 1) 19 p0) 20 p1) 21 7) 13 (fil 1024 0 (ar (si (si (si (si S 24 1) 19 p0) 20 p1) 21 7) 13))) 2 0 4128768) 11 0 (-1)) 12 0 (-1)) 25 1) 13 978 1)) rfl in_X11 (by decide) wf_X11_52 rfl dX11_gain_49 ?_
      refine z_get (q0 := 25) (k9 := 18) (v := .int (fi (su (si (su (su (sv (sa (si (si (si (si S 24 1) 19 p0) 20 p1) 21 7) 13 (fil 1024 0 (ar (si (si (si (si S 24 1) 19 p0) 20 p1) 21 7) 13))) 2 0 4128768) 11 0 (-1)) 12 0 (-1)) 25 1) 13 978 1) 26)) b (cw_25 cy tE a rw (su (si (su (su (sv (sa (si (si (si (si S 24 1) 19 p0) 20 p1) 21 7) 13 (fil 1024 0 (ar (si (si (si (si S 24 1) 19 p0) 20 p1) 21 7) 13))) 2 0 4128768) 11 0 (-1)) 12 0 (-1)) 25 1) 13 978 1)) rfl in_X8 (by decide) wf_X11_214 rfl dX11_gain_52 ?_
      refine z_eqi h_i_26 ?_
      refine z_if_eq_t (tgt := 61) b dX11_gain_55 (by decide) (by decide) ?_
      refine z_aload_n b dX11_gain_61 rfl rfl ?_
      refine z_get (q0 := 0) (k9 := 6) (v := .ref (a 25)) b (cw_0 cy tE a rw (su (si (su (su (sv (sa (si (si (si (si S 24 1) 19 p0) 20 p1) 21 7) 13 (fil 1024 0 (ar (si (si (si (si S 24 1) 19 p0) 20 p1) 21 7) 13))) 2 0 4128768) 11 0 (-1)) 12 0 (-1)) 25 1) 13 978 1)) rfl in_X11 (by decide) wf_X11_52 rfl dX11_gain_62 ?_
      refine z_iload_n b dX11_gain_65 rfl rfl ?_
      refine z_calli b (z_runV (q0 := 25) (As := [.int 2]) (st := []) b (c_X8_richest_3 (su (si (su (su (sv (sa (si (si (si (si S 24 1) 19 p0) 20 p1) 21 7) 13 (fil 1024 0 (ar (si (si (si (si S 24 1) 19 p0) 20 p1) 21 7) 13))) 2 0 4128768) 11 0 (-1)) 12 0 (-1)) 25 1) 13 978 1) rfl rfl h_a_9_50 h_a_9_40 h_a_9_41 h_a_9_42 h_a_9_0 h_a_9_11 h_a_9_21 h_a_9_31 h_a_9_12 h_a_9_22 h_a_9_32 h_a_9_1 h_a_9_13 h_a_9_23 h_a_9_33 h_a_9_15 h_a_9_25 h_a_9_35 h_a_9_2 h_a_9_16 h_a_9_26 h_a_9_36 h_a_9_17 h_a_9_27 h_a_9_37) cf_X8_richest (cw_25 cy tE a rw (su (si (su (su (sv (sa (si (si (si (si S 24 1) 19 p0) 20 p1) 21 7) 13 (fil 1024 0 (ar (si (si (si (si S 24 1) 19 p0) 20 p1) 21 7) 13))) 2 0 4128768) 11 0 (-1)) 12 0 (-1)) 25 1) 13 978 1)) rfl wm_X11_238 wi_X8_richest ws_X8_richest dX11_gain_66 rfl (Nat.le_of_ble_eq_true rfl) ⟨by decide, by decide, by decide, by decide⟩) (fun r13228 u13229 h13227 => ?_)
      obtain ⟨rfl, rfl⟩ := h13227
      refine z_istore (lv' := [(5, .int 0), (0, .ref (a 0)), (1, .int 2), (2, .int p0), (3, .int p1), (4, .int p2)]) b dX11_gain_69 (by decide) rfl ?_
      refine z_iload b dX11_gain_71 rfl ?_
      refine y_if_ne (tgt := 87) (xl := p2.toInt) b rfl dX11_gain_73 (by decide) (fun c13230 => ?_) (fun c13230 => ?_)
      · refine z_iload b dX11_gain_87 rfl ?_
        refine z_iconst (v := 1) b dX11_gain_89 (by decide) ?_
        refine y_icmp_ne (tgt := 103) (xl := p2.toInt) (yl := 1) b rfl (by decide) dX11_gain_90 (by decide) (fun c13231 => ?_) (fun c13231 => ?_)
        · refine z_aload_n b dX11_gain_103 rfl rfl ?_
          refine z_get (q0 := 0) (k9 := 6) (v := .ref (a 25)) b (cw_0 cy tE a rw (su (si (su (su (sv (sa (si (si (si (si S 24 1) 19 p0) 20 p1) 21 7) 13 (fil 1024 0 (ar (si (si (si (si S 24 1) 19 p0) 20 p1) 21 7) 13))) 2 0 4128768) 11 0 (-1)) 12 0 (-1)) 25 1) 13 978 1)) rfl in_X11 (by decide) wf_X11_52 rfl dX11_gain_104 ?_
          refine z_iload b dX11_gain_107 rfl ?_
          refine z_iload b dX11_gain_109 rfl ?_
          refine z_iconst (v := 2) b dX11_gain_111 (by decide) ?_
          refine z_isub b dX11_gain_112 rfl ?_
          have f13232 : ((p2 - 2) : Int32).toInt = p2.toInt + (-2) := zisub (k := 2) (by decide) (by omega) (by omega)
          refine z_calli b (z_runV (q0 := 25) (As := [.int 0, .int (p2 - 2)]) (st := []) b (c_X8_code (su (si (su (su (sv (sa (si (si (si (si S 24 1) 19 p0) 20 p1) 21 7) 13 (fil 1024 0 (ar (si (si (si (si S 24 1) 19 p0) 20 p1) 21 7) 13))) 2 0 4128768) 11 0 (-1)) 12 0 (-1)) 25 1) 13 978 1) (p2 - 2) rfl h_a_10_0 ⟨by omega, by omega⟩) cf_X8_code (cw_25 cy tE a rw (su (si (su (su (sv (sa (si (si (si (si S 24 1) 19 p0) 20 p1) 21 7) 13 (fil 1024 0 (ar (si (si (si (si S 24 1) 19 p0) 20 p1) 21 7) 13))) 2 0 4128768) 11 0 (-1)) 12 0 (-1)) 25 1) 13 978 1)) rfl wm_X11_219 wi_X8_code ws_X8_code dX11_gain_113 rfl (Nat.le_of_ble_eq_true rfl) ⟨by decide, by decide, by decide, by decide⟩) (fun r13234 u13235 h13233 => ?_)
          obtain ⟨rfl, rfl⟩ := h13233
          refine z_istore (lv' := [(6, .int (-1)), (5, .int 0), (0, .ref (a 0)), (1, .int 2), (2, .int p0), (3, .int p1), (4, .int p2)]) b dX11_gain_116 (by decide) rfl ?_
          refine z_iload b dX11_gain_118 rfl ?_
          refine z_iconst (v := (-1)) b dX11_gain_120 (by decide) ?_
          refine z_icmp_ne_f (tgt := 129) b dX11_gain_121 (by decide) (by decide) ?_
          refine z_bipush (v := (-100)) b dX11_gain_124 (by decide) ?_
          refine z_goto (tgt := 131) b dX11_gain_126 (by decide) ?_
          exact z_iret (u := (su (si (su (su (sv (sa (si (si (si (si S 24 1) 19 p0) 20 p1) 21 7) 13 (fil 1024 0 (ar (si (si (si (si S 24 1) 19 p0) 20 p1) 21 7) 13))) 2 0 4128768) 11 0 (-1)) 12 0 (-1)) 25 1) 13 978 1)) b rfl dX11_gain_131 (Or.inr ⟨⟨c13209, c13217, c13230, c13231⟩, rfl, rfl⟩) rfl (by decide) (by decide)
        · exfalso; omega
      · exfalso; omega
  · exfalso; omega

set_option maxHeartbeats 4000000 in
set_option maxRecDepth 100000 in
theorem c_X12_gain_43 {l : Launch} {D : va_G} {cy : Nat → ClassId} {T0 tB tE : Nat} {a : Nat → Nat} (S : GS) (p0 : Int32) (p1 : Int32) (p2 : Int32) (h_i_21 : fi S 21 = 0) (h_i_23 : fi S 23 = 0) (h_l_0 : fl S 0 = 1649317774848) (h_a_29_992 : ar S 29 992 = (-1)) (h_a_28_0 : ar S 28 0 = 0) (h_a_7_0 : ar S 7 0 = 0) (h_a_7_1 : ar S 7 1 = 0) (h_a_4_7 : ar S 4 7 = 0) (h_a_1_7 : ar S 1 7 = 0) (h_a_4_6 : ar S 4 6 = 0) (h_a_1_6 : ar S 1 6 = 0) (h_a_3_6 : ar S 3 6 = 0) (h_a_3_2 : ar S 3 2 = 0) (h_a_2_2 : ar S 2 2 = 3) (h_a_0_2 : ar S 0 2 = 0) (h_a_4_3 : ar S 4 3 = 0) (h_a_1_3 : ar S 1 3 = 0) (h_a_4_5 : ar S 4 5 = 0) (h_a_1_5 : ar S 1 5 = 0) (h_a_3_5 : ar S 3 5 = 0) (h_a_3_7 : ar S 3 7 = 0) (h_a_2_1 : ar S 2 1 = 3) (h_a_0_1 : ar S 0 1 = 0) (h_a_4_2 : ar S 4 2 = 0) (h_a_1_2 : ar S 1 2 = 0) (h_a_4_1 : ar S 4 1 = 0) (h_a_1_1 : ar S 1 1 = 0) (h_a_3_1 : ar S 3 1 = 0) (h_a_3_3 : ar S 3 3 = 0) (h_a_2_0 : ar S 2 0 = 3) (h_a_0_0 : ar S 0 0 = 0) (h_i_0 : fi S 0 = 0) (hr_p0 : 1 ≤ p0.toInt ∧ p0.toInt ≤ 3) (hr_p1 : 1 ≤ p1.toInt ∧ p1.toInt ≤ 6) (hr_p2 : 2 ≤ p2.toInt ∧ p2.toInt ≤ 7) : Ct l D cy T0 tB tE yX12_gain cX12_gain 9 (some .int) 4 99 0 0 (mw cy a S) [.ref (a 0), .int 2, .int p0, .int p1, .int p2] (QI D (U := GS) (fun r u => (-100) = r ∧ (si (su (su (sv (su (su (si S 22 (-1)) 29 992 0) 30 0 992) 0 0 1649317774848) 26 0 (-1)) 27 0 (-1)) 21 1) = u) (mw cy a)) := by
  refine Ct.ofZ RX12 "gain" [(0, .ref (a 0)), (1, .int 2), (2, .int p0), (3, .int p1), (4, .int p2)] rfl rfl rfl rfl (Nat.le_of_ble_eq_true rfl) ?_
  intro p e R s m args below meth c A b
  refine z_iload_n b dX12_gain_0 rfl rfl ?_
  refine z_calli b (z_runS (As := [.int 2]) (st := []) b (c_X12_isOne_5 S ) cf_X12_isOne wm_X12_170 ws_X12_isOne dX12_gain_1 rfl (Nat.le_of_ble_eq_true rfl) ⟨by decide, by decide, by decide, by decide⟩) (fun r13237 u13238 h13236 => ?_)
  obtain ⟨rfl, rfl⟩ := h13236
  refine z_if_eq_f (tgt := 27) b dX12_gain_4 (by decide) (by decide) ?_
  refine z_aload_n b dX12_gain_7 rfl rfl ?_
  refine z_iload_n b dX12_gain_8 rfl rfl ?_
  refine z_iload_n b dX12_gain_9 rfl rfl ?_
  refine z_calli b (z_runV (q0 := 0) (As := [.int p0, .int p1]) (st := []) b (c_X12_canSearch_5 S p0 p1 ⟨by omega, by omega⟩ ⟨by omega, by omega⟩) cf_X12_canSearch (mw_0 cy a S) rfl wm_X12_433 wi_X12_canSearch ws_X12_canSearch dX12_gain_10 rfl (Nat.le_of_ble_eq_true rfl) ⟨by decide, by decide, by decide, by decide⟩) (fun r13240 u13241 h13239 => ?_)
  obtain ⟨rfl, rfl⟩ := h13239
  refine z_if_eq_f (tgt := 27) b dX12_gain_13 (by decide) (by decide) ?_
  refine z_iload b dX12_gain_16 rfl ?_
  refine z_iconst (v := 0) b dX12_gain_18 (by decide) ?_
  refine z_bipush (v := 7) b dX12_gain_19 (by decide) ?_
  refine z_calli b (z_runS (As := [.int p2, .int 0, .int 7]) (st := []) b (c_X12_isIn_61 S p2 ⟨by omega, by omega⟩) cf_X12_isIn wm_X12_1 ws_X12_isIn dX12_gain_21 rfl (Nat.le_of_ble_eq_true rfl) ⟨by decide, by decide, by decide, by decide⟩) (fun r13243 u13244 h13242 => ?_)
  obtain ⟨rfl, rfl⟩ := h13242
  refine z_if_ne_t (tgt := 30) b dX12_gain_24 (by decide) (by decide) ?_
  refine z_aload_n b dX12_gain_30 rfl rfl ?_
  refine z_iconst (v := (-1)) b dX12_gain_31 (by decide) ?_
  refine z_iload_n b dX12_gain_32 rfl rfl ?_
  refine z_iload_n b dX12_gain_33 rfl rfl ?_
  refine z_bipush (v := 7) b dX12_gain_34 (by decide) ?_
  refine z_iconst (v := 0) b dX12_gain_36 (by decide) ?_
  refine z_callv b (z_runV (q0 := 0) (As := [.int (-1), .int p0, .int p1, .int 7, .int 0]) (st := []) b (c_X12_searches_2 S p0 p1 h_i_21 h_i_23 h_l_0 h_a_29_992 h_a_28_0 h_a_7_0 h_a_7_1 ⟨by omega, by omega⟩ ⟨by omega, by omega⟩) cf_X12_searches (mw_0 cy a S) rfl wm_X12_436 wi_X12_searches ws_X12_searches dX12_gain_37 rfl (Nat.le_of_ble_eq_true rfl) ⟨by decide, by decide, by decide, by decide⟩) (fun u13247 h13245 => ?_)
  obtain rfl := h13245
  refine z_aload_n b dX12_gain_40 rfl rfl ?_
  refine z_get (q0 := 0) (k9 := 57) (v := .int (fi (si (su (su (sv (su (su (si S 22 (-1)) 29 992 0) 30 0 992) 0 0 1649317774848) 26 0 (-1)) 27 0 (-1)) 21 1) 23)) b (mw_0 cy a (si (su (su (sv (su (su (si S 22 (-1)) 29 992 0) 30 0 992) 0 0 1649317774848) 26 0 (-1)) 27 0 (-1)) 21 1)) rfl in_X12 (by decide) wf_X12_408 rfl dX12_gain_41 ?_
  refine z_eqi h_i_23 ?_
  refine z_if_eq_t (tgt := 50) b dX12_gain_44 (by decide) (by decide) ?_
  refine z_iconst (v := (-1)) b dX12_gain_50 (by decide) ?_
  refine z_istore (lv' := [(5, .int (-1)), (0, .ref (a 0)), (1, .int 2), (2, .int p0), (3, .int p1), (4, .int p2)]) b dX12_gain_51 (by decide) rfl ?_
  refine z_iconst (v := 0) b dX12_gain_53 (by decide) ?_
  refine z_istore (lv' := [(6, .int 0), (5, .int (-1)), (0, .ref (a 0)), (1, .int 2), (2, .int p0), (3, .int p1), (4, .int p2)]) b dX12_gain_54 (by decide) rfl ?_
  refine z_iconst (v := 0) b dX12_gain_56 (by decide) ?_
  refine z_istore (lv' := [(7, .int 0), (6, .int 0), (5, .int (-1)), (0, .ref (a 0)), (1, .int 2), (2, .int p0), (3, .int p1), (4, .int p2)]) b dX12_gain_57 (by decide) rfl ?_
  refine z_iload b dX12_gain_59 rfl ?_
  refine z_aload_n b dX12_gain_61 rfl rfl ?_
  refine z_get (q0 := 0) (k9 := 55) (v := .int 1) b (mw_0 cy a (si (su (su (sv (su (su (si S 22 (-1)) 29 992 0) 30 0 992) 0 0 1649317774848) 26 0 (-1)) 27 0 (-1)) 21 1)) rfl in_X12 (by decide) wf_X12_405 rfl dX12_gain_62 ?_
  refine z_icmp_ge_f (tgt := 147) b dX12_gain_65 (by decide) (by decide) ?_
  refine z_aload_n b dX12_gain_68 rfl rfl ?_
  refine z_aload_n b dX12_gain_69 rfl rfl ?_
  refine z_get (q0 := 0) (k9 := 49) (v := .ref (a 27)) b (mw_0 cy a (si (su (su (sv (su (su (si S 22 (-1)) 29 992 0) 30 0 992) 0 0 1649317774848) 26 0 (-1)) 27 0 (-1)) 21 1)) rfl in_X12 (by decide) wf_X12_97 rfl dX12_gain_70 ?_
  refine z_iload b dX12_gain_73 rfl ?_
  refine y_lald (q0 := 27) (j := 0) (v := 1649317774848) b (mw_27 cy a (si (su (su (sv (su (su (si S 22 (-1)) 29 992 0) 30 0 992) 0 0 1649317774848) 26 0 (-1)) 27 0 (-1)) 21 1)) (by decide) rfl dX12_gain_75 ?_
  refine z_callv b (z_runV (q0 := 0) (As := [.long 1649317774848]) (st := []) b (c_X12_takes (si (su (su (sv (su (su (si S 22 (-1)) 29 992 0) 30 0 992) 0 0 1649317774848) 26 0 (-1)) 27 0 (-1)) 21 1) h_a_4_7 h_a_1_7 h_a_4_6 h_a_1_6 h_a_3_6 h_a_3_2 h_a_2_2 h_a_0_2 h_a_4_3 h_a_1_3 h_a_4_5 h_a_1_5 h_a_3_5 h_a_3_7 h_a_2_1 h_a_0_1 h_a_4_2 h_a_1_2 h_a_4_1 h_a_1_1 h_a_3_1 h_a_3_3 h_a_2_0 h_a_0_0 h_i_0) cf_X12_takes (mw_0 cy a (si (su (su (sv (su (su (si S 22 (-1)) 29 992 0) 30 0 992) 0 0 1649317774848) 26 0 (-1)) 27 0 (-1)) 21 1)) rfl wm_X12_174 wi_X12_takes ws_X12_takes dX12_gain_76 rfl (Nat.le_of_ble_eq_true rfl) ⟨by decide, by decide, by decide, by decide⟩) (fun u13250 h13248 => ?_)
  obtain rfl := h13248
  refine z_aload_n b dX12_gain_79 rfl rfl ?_
  refine z_get (q0 := 0) (k9 := 0) (v := .ref (a 1)) b (mw_0 cy a (si (su (su (sv (su (su (si S 22 (-1)) 29 992 0) 30 0 992) 0 0 1649317774848) 26 0 (-1)) 27 0 (-1)) 21 1)) rfl in_X12 (by decide) wf_X12_13 rfl dX12_gain_80 ?_
  refine z_iload_n b dX12_gain_83 rfl rfl ?_
  refine y_iald (q0 := 1) (j := 2) (v := (ar (si (su (su (sv (su (su (si S 22 (-1)) 29 992 0) 30 0 992) 0 0 1649317774848) 26 0 (-1)) 27 0 (-1)) 21 1) 0 2)) b (mw_1 cy a (si (su (su (sv (su (su (si S 22 (-1)) 29 992 0) 30 0 992) 0 0 1649317774848) 26 0 (-1)) 27 0 (-1)) 21 1)) (by decide) rfl dX12_gain_84 ?_
  refine z_eqi h_a_0_2 ?_
  refine z_aload_n b dX12_gain_85 rfl rfl ?_
  refine z_get (q0 := 0) (k9 := 1) (v := .ref (a 2)) b (mw_0 cy a (si (su (su (sv (su (su (si S 22 (-1)) 29 992 0) 30 0 992) 0 0 1649317774848) 26 0 (-1)) 27 0 (-1)) 21 1)) rfl in_X12 (by decide) wf_X12_17 rfl dX12_gain_86 ?_
  refine z_iconst (v := 3) b dX12_gain_89 (by decide) ?_
  refine z_iload_n b dX12_gain_90 rfl rfl ?_
  refine z_imul (v := 6) b dX12_gain_91 (by decide) ?_
  refine z_iload_n b dX12_gain_92 rfl rfl ?_
  refine z_iconst (v := 0) b dX12_gain_93 (by decide) ?_
  refine z_calli b (z_runS (As := [.int 2, .int 0]) (st := [.int 6, .ref (a 2), .int 0]) b (c_X12_other_2 (si (su (su (sv (su (su (si S 22 (-1)) 29 992 0) 30 0 992) 0 0 1649317774848) 26 0 (-1)) 27 0 (-1)) 21 1) ) cf_X12_other wm_X12_160 ws_X12_other dX12_gain_94 rfl (Nat.le_of_ble_eq_true rfl) ⟨by decide, by decide, by decide, by decide⟩) (fun r13252 u13253 h13251 => ?_)
  obtain ⟨rfl, rfl⟩ := h13251
  refine z_iadd (v := 6) b dX12_gain_97 (by decide) ?_
  refine y_iald (q0 := 2) (j := 6) (v := (ar (si (su (su (sv (su (su (si S 22 (-1)) 29 992 0) 30 0 992) 0 0 1649317774848) 26 0 (-1)) 27 0 (-1)) 21 1) 1 6)) b (mw_2 cy a (si (su (su (sv (su (su (si S 22 (-1)) 29 992 0) 30 0 992) 0 0 1649317774848) 26 0 (-1)) 27 0 (-1)) 21 1)) (by decide) rfl dX12_gain_98 ?_
  refine z_eqi h_a_1_6 ?_
  refine z_isub (v := 0) b dX12_gain_99 (by decide) ?_
  refine z_aload_n b dX12_gain_100 rfl rfl ?_
  refine z_get (q0 := 0) (k9 := 1) (v := .ref (a 2)) b (mw_0 cy a (si (su (su (sv (su (su (si S 22 (-1)) 29 992 0) 30 0 992) 0 0 1649317774848) 26 0 (-1)) 27 0 (-1)) 21 1)) rfl in_X12 (by decide) wf_X12_17 rfl dX12_gain_101 ?_
  refine z_iconst (v := 3) b dX12_gain_104 (by decide) ?_
  refine z_iload_n b dX12_gain_105 rfl rfl ?_
  refine z_imul (v := 6) b dX12_gain_106 (by decide) ?_
  refine z_iload_n b dX12_gain_107 rfl rfl ?_
  refine z_iconst (v := 1) b dX12_gain_108 (by decide) ?_
  refine z_calli b (z_runS (As := [.int 2, .int 1]) (st := [.int 6, .ref (a 2), .int 0]) b (c_X12_other (si (su (su (sv (su (su (si S 22 (-1)) 29 992 0) 30 0 992) 0 0 1649317774848) 26 0 (-1)) 27 0 (-1)) 21 1) ) cf_X12_other wm_X12_160 ws_X12_other dX12_gain_109 rfl (Nat.le_of_ble_eq_true rfl) ⟨by decide, by decide, by decide, by decide⟩) (fun r13255 u13256 h13254 => ?_)
  obtain ⟨rfl, rfl⟩ := h13254
  refine z_iadd (v := 7) b dX12_gain_112 (by decide) ?_
  refine y_iald (q0 := 2) (j := 7) (v := (ar (si (su (su (sv (su (su (si S 22 (-1)) 29 992 0) 30 0 992) 0 0 1649317774848) 26 0 (-1)) 27 0 (-1)) 21 1) 1 7)) b (mw_2 cy a (si (su (su (sv (su (su (si S 22 (-1)) 29 992 0) 30 0 992) 0 0 1649317774848) 26 0 (-1)) 27 0 (-1)) 21 1)) (by decide) rfl dX12_gain_113 ?_
  refine z_eqi h_a_1_7 ?_
  refine z_isub (v := 0) b dX12_gain_114 (by decide) ?_
  refine z_istore (lv' := [(8, .int 0), (7, .int 0), (6, .int 0), (5, .int (-1)), (0, .ref (a 0)), (1, .int 2), (2, .int p0), (3, .int p1), (4, .int p2)]) b dX12_gain_115 (by decide) rfl ?_
  refine z_iload b dX12_gain_117 rfl ?_
  refine z_iconst (v := (-1)) b dX12_gain_119 (by decide) ?_
  refine z_icmp_eq_t (tgt := 133) b dX12_gain_120 (by decide) (by decide) ?_
  refine z_iload b dX12_gain_133 rfl ?_
  refine z_istore (lv' := [(5, .int 0), (8, .int 0), (7, .int 0), (6, .int 0), (0, .ref (a 0)), (1, .int 2), (2, .int p0), (3, .int p1), (4, .int p2)]) b dX12_gain_135 (by decide) rfl ?_
  refine z_iload b dX12_gain_137 rfl ?_
  refine z_istore (lv' := [(6, .int 0), (5, .int 0), (8, .int 0), (7, .int 0), (0, .ref (a 0)), (1, .int 2), (2, .int p0), (3, .int p1), (4, .int p2)]) b dX12_gain_139 (by decide) rfl ?_
  refine z_iinc (k9 := 3) (v := 1) (lv' := [(7, .int 1), (6, .int 0), (5, .int 0), (8, .int 0), (0, .ref (a 0)), (1, .int 2), (2, .int p0), (3, .int p1), (4, .int p2)]) b dX12_gain_141 rfl (by decide) (by decide) rfl ?_
  refine z_goto (tgt := 59) b dX12_gain_144 (by decide) ?_
  refine z_iload b dX12_gain_59 rfl ?_
  refine z_aload_n b dX12_gain_61 rfl rfl ?_
  refine z_get (q0 := 0) (k9 := 55) (v := .int 1) b (mw_0 cy a (si (su (su (sv (su (su (si S 22 (-1)) 29 992 0) 30 0 992) 0 0 1649317774848) 26 0 (-1)) 27 0 (-1)) 21 1)) rfl in_X12 (by decide) wf_X12_405 rfl dX12_gain_62 ?_
  refine z_icmp_ge_t (tgt := 147) b dX12_gain_65 (by decide) (by decide) ?_
  refine z_iload b dX12_gain_147 rfl ?_
  refine z_iconst (v := 2) b dX12_gain_149 (by decide) ?_
  refine y_icmp_ge (tgt := 171) (xl := p2.toInt) (yl := 2) b rfl (by decide) dX12_gain_150 (by decide) (fun c13257 => ?_) (fun c13257 => ?_)
  · refine z_iload b dX12_gain_171 rfl ?_
    refine z_iconst (v := 2) b dX12_gain_173 (by decide) ?_
    refine z_isub b dX12_gain_174 rfl ?_
    have f13258 : ((p2 - 2) : Int32).toInt = p2.toInt + (-2) := zisub (k := 2) (by decide) (by omega) (by omega)
    refine z_aload_n b dX12_gain_175 rfl rfl ?_
    refine z_get (q0 := 0) (k9 := 52) (v := .ref (a 30)) b (mw_0 cy a (si (su (su (sv (su (su (si S 22 (-1)) 29 992 0) 30 0 992) 0 0 1649317774848) 26 0 (-1)) 27 0 (-1)) 21 1)) rfl in_X12 (by decide) wf_X12_107 rfl dX12_gain_176 ?_
    refine z_iload b dX12_gain_179 rfl ?_
    refine y_iald (q0 := 30) (j := 0) (v := (ar (si (su (su (sv (su (su (si S 22 (-1)) 29 992 0) 30 0 992) 0 0 1649317774848) 26 0 (-1)) 27 0 (-1)) 21 1) 28 0)) b (mw_30 cy a (si (su (su (sv (su (su (si S 22 (-1)) 29 992 0) 30 0 992) 0 0 1649317774848) 26 0 (-1)) 27 0 (-1)) 21 1)) (by decide) rfl dX12_gain_181 ?_
    refine z_eqi h_a_28_0 ?_
    refine y_icmp_ge (tgt := 198) (xl := ((p2 - 2) : Int32).toInt) (yl := 0) b rfl (by decide) dX12_gain_182 (by decide) (fun c13259 => ?_) (fun c13259 => ?_)
    · refine z_bipush (v := (-100)) b dX12_gain_198 (by decide) ?_
      exact z_iret (u := (si (su (su (sv (su (su (si S 22 (-1)) 29 992 0) 30 0 992) 0 0 1649317774848) 26 0 (-1)) 27 0 (-1)) 21 1)) b rfl dX12_gain_200 ⟨rfl, rfl⟩ rfl (by decide) (by decide)
    · exfalso; omega
  · exfalso; omega

set_option maxHeartbeats 4000000 in
set_option maxRecDepth 100000 in
theorem c_X11_gain_44 {l : Launch} {D : va_G} {cy : Nat → ClassId} {T0 tB tE : Nat} {a : Nat → Nat} {rw : Nat → Option Nat} (S : GS) (p0 : Int32) (p1 : Int32) (p2 : Int32) (h_i_19 : fi S 19 = 0) (h_i_24 : fi S 24 = 0) (h_i_22 : fi S 22 = 0) (h_i_18 : fi S 18 = 0) (h_i_25 : fi S 25 = 0) (h_i_23 : fi S 23 = 0) (h_i_26 : fi S 26 = 0) (h_a_4_50 : ar S 4 50 = 0) (h_a_4_40 : ar S 4 40 = 3) (h_a_4_41 : ar S 4 41 = 3) (h_a_4_42 : ar S 4 42 = 3) (h_a_4_0 : ar S 4 0 = 0) (h_a_4_11 : ar S 4 11 = 0) (h_a_4_21 : ar S 4 21 = 0) (h_a_4_31 : ar S 4 31 = 0) (h_a_4_12 : ar S 4 12 = 0) (h_a_4_22 : ar S 4 22 = 0) (h_a_4_32 : ar S 4 32 = 0) (h_a_4_1 : ar S 4 1 = 0) (h_a_4_13 : ar S 4 13 = 0) (h_a_4_23 : ar S 4 23 = 0) (h_a_4_33 : ar S 4 33 = 0) (h_a_4_15 : ar S 4 15 = 0) (h_a_4_25 : ar S 4 25 = 0) (h_a_4_35 : ar S 4 35 = 0) (h_a_4_2 : ar S 4 2 = 0) (h_a_4_16 : ar S 4 16 = 0) (h_a_4_26 : ar S 4 26 = 0) (h_a_4_36 : ar S 4 36 = 0) (h_a_4_17 : ar S 4 17 = 0) (h_a_4_27 : ar S 4 27 = 0) (h_a_4_37 : ar S 4 37 = 0) (h_a_10_0 : ar S 10 0 = 0) (h_a_9_50 : ar S 9 50 = 0) (h_a_9_40 : ar S 9 40 = 3) (h_a_9_41 : ar S 9 41 = 3) (h_a_9_42 : ar S 9 42 = 3) (h_a_9_0 : ar S 9 0 = 0) (h_a_9_11 : ar S 9 11 = 0) (h_a_9_21 : ar S 9 21 = 0) (h_a_9_31 : ar S 9 31 = 0) (h_a_9_12 : ar S 9 12 = 0) (h_a_9_22 : ar S 9 22 = 0) (h_a_9_32 : ar S 9 32 = 0) (h_a_9_1 : ar S 9 1 = 0) (h_a_9_13 : ar S 9 13 = 0) (h_a_9_23 : ar S 9 23 = 0) (h_a_9_33 : ar S 9 33 = 0) (h_a_9_15 : ar S 9 15 = 0) (h_a_9_25 : ar S 9 25 = 0) (h_a_9_35 : ar S 9 35 = 0) (h_a_9_2 : ar S 9 2 = 0) (h_a_9_16 : ar S 9 16 = 0) (h_a_9_26 : ar S 9 26 = 0) (h_a_9_36 : ar S 9 36 = 0) (h_a_9_17 : ar S 9 17 = 0) (h_a_9_27 : ar S 9 27 = 0) (h_a_9_37 : ar S 9 37 = 0) (hr_p0 : 1 ≤ p0.toInt ∧ p0.toInt ≤ 3) (hr_p1 : 1 ≤ p1.toInt ∧ p1.toInt ≤ 6) (hr_p2 : 8 ≤ p2.toInt ∧ p2.toInt ≤ 2147483647) : Ct l D cy T0 tB tE yX11_gain cX11_gain 7 (some .int) 5 117 0 0 (cw cy tE a rw S) [.ref (a 0), .int 2, .int p0, .int p1, .int p2] (QI D (U := GS) (fun r u => (((0 ≤ p2.toInt) ∧ (((0 < ((fi (su (si (su (su (sv (sa (si (si (si (si S 24 1) 19 p0) 20 p1) 21 7) 13 (fil 1024 0 (ar (si (si (si (si S 24 1) 19 p0) 20 p1) 21 7) 13))) 2 0 4128768) 11 0 (-1)) 12 0 (-1)) 25 1) 13 978 1) 20) : Int32).toInt))) ∧ (p2.toInt ≠ 0) ∧ (p2.toInt ≠ 1)) ∧ (-100) = r ∧ (si (su (si (su (su (sv (sa (si (si (si (si S 24 1) 19 p0) 20 p1) 21 7) 13 (fil 1024 0 (ar (si (si (si (si S 24 1) 19 p0) 20 p1) 21 7) 13))) 2 0 4128768) 11 0 (-1)) 12 0 (-1)) 25 1) 13 978 1) 23 1) = u) ∨ (((0 ≤ p2.toInt) ∧ (((((fi (su (si (su (su (sv (sa (si (si (si (si S 24 1) 19 p0) 20 p1) 21 7) 13 (fil 1024 0 (ar (si (si (si (si S 24 1) 19 p0) 20 p1) 21 7) 13))) 2 0 4128768) 11 0 (-1)) 12 0 (-1)) 25 1) 13 978 1) 20) : Int32).toInt ≤ 0))) ∧ (p2.toInt ≠ 0) ∧ (p2.toInt ≠ 1)) ∧ (-100) = r ∧ (su (si (su (su (sv (sa (si (si (si (si S 24 1) 19 p0) 20 p1) 21 7) 13 (fil 1024 0 (ar (si (si (si (si S 24 1) 19 p0) 20 p1) 21 7) 13))) 2 0 4128768) 11 0 (-1)) 12 0 (-1)) 25 1) 13 978 1) = u)) (cw cy tE a rw)) := by
  refine Ct.ofZ RX11 "gain" [(0, .ref (a 0)), (1, .int 2), (2, .int p0), (3, .int p1), (4, .int p2)] rfl rfl rfl rfl (Nat.le_of_ble_eq_true rfl) ?_
  intro p e R s m args below meth c A b
  refine z_iload_n b dX11_gain_0 rfl rfl ?_
  refine z_calli b (z_runS (As := [.int 2]) (st := []) b (c_X11_isPerson_5 S ) cf_X11_isPerson wm_X11_69 ws_X11_isPerson dX11_gain_1 rfl (Nat.le_of_ble_eq_true rfl) ⟨by decide, by decide, by decide, by decide⟩) (fun r13261 u13262 h13260 => ?_)
  obtain ⟨rfl, rfl⟩ := h13260
  refine z_if_eq_f (tgt := 26) b dX11_gain_4 (by decide) (by decide) ?_
  refine z_iload_n b dX11_gain_7 rfl rfl ?_
  refine z_calli b (z_runS (As := [.int p0]) (st := []) b (c_X11_areLaws_3 S p0 ⟨by omega, by omega⟩) cf_X11_areLaws wm_X11_181 ws_X11_areLaws dX11_gain_8 rfl (Nat.le_of_ble_eq_true rfl) ⟨by decide, by decide, by decide, by decide⟩) (fun r13264 u13265 h13263 => ?_)
  obtain ⟨rfl, rfl⟩ := h13263
  refine z_if_eq_f (tgt := 26) b dX11_gain_11 (by decide) (by decide) ?_
  refine z_iload_n b dX11_gain_14 rfl rfl ?_
  refine z_calli b (z_runS (As := [.int p1]) (st := []) b (c_X11_isDepth_3 S p1 ⟨by omega, by omega⟩) cf_X11_isDepth wm_X11_203 ws_X11_isDepth dX11_gain_15 rfl (Nat.le_of_ble_eq_true rfl) ⟨by decide, by decide, by decide, by decide⟩) (fun r13267 u13268 h13266 => ?_)
  obtain ⟨rfl, rfl⟩ := h13266
  refine z_if_eq_f (tgt := 26) b dX11_gain_18 (by decide) (by decide) ?_
  refine z_iload b dX11_gain_21 rfl ?_
  refine y_if_ge (tgt := 29) (xl := p2.toInt) b rfl dX11_gain_23 (by decide) (fun c13269 => ?_) (fun c13269 => ?_)
  · refine z_aload_n b dX11_gain_29 rfl rfl ?_
    refine z_get (q0 := 0) (k9 := 6) (v := .ref (a 25)) b (cw_0 cy tE a rw S) rfl in_X11 (by decide) wf_X11_52 rfl dX11_gain_30 ?_
    refine z_iload_n b dX11_gain_33 rfl rfl ?_
    refine z_iload_n b dX11_gain_34 rfl rfl ?_
    refine z_bipush (v := 7) b dX11_gain_35 (by decide) ?_
    refine z_iconst (v := 0) b dX11_gain_37 (by decide) ?_
    refine z_callv b (z_runV (q0 := 25) (As := [.int p0, .int p1, .int 7, .int 0]) (st := []) b (c_X8_begin_2 S p0 p1 h_i_19 h_i_24 h_i_22 h_i_18 h_i_25 h_i_23 h_i_26 h_a_4_50 h_a_4_40 h_a_4_41 h_a_4_42 h_a_4_0 h_a_4_11 h_a_4_21 h_a_4_31 h_a_4_12 h_a_4_22 h_a_4_32 h_a_4_1 h_a_4_13 h_a_4_23 h_a_4_33 h_a_4_15 h_a_4_25 h_a_4_35 h_a_4_2 h_a_4_16 h_a_4_26 h_a_4_36 h_a_4_17 h_a_4_27 h_a_4_37 h_a_10_0 ⟨by omega, by omega⟩ ⟨by omega, by omega⟩) cf_X8_begin (cw_25 cy tE a rw S) rfl wm_X11_206 wi_X8_begin ws_X8_begin dX11_gain_38 rfl (Nat.le_of_ble_eq_true rfl) ⟨by decide, by decide, by decide, by decide⟩) (fun u13272 h13270 => ?_)
    obtain rfl := h13270
    refine z_aload_n b dX11_gain_41 rfl rfl ?_
    refine z_get (q0 := 0) (k9 := 6) (v := .ref (a 25)) b (cw_0 cy tE a rw (su (si (su (su (sv (sa (si (si (si (si S 24 1) 19 p0) 20 p1) 21 7) 13 (fil 1024 0 (ar (si (si (si (si S 24 1) 19 p0) 20 p1) 21 7) 13))) 2 0 4128768) 11 0 (-1)) 12 0 (-1)) 25 1) 13 978 1)) rfl in_X11 (by decide) wf_X11_52 rfl dX11_gain_42 ?_
    refine z_callv b (z_runV (q0 := 25) (As := []) (st := []) b (c_X8_finish_2 (su (si (su (su (sv (sa (si (si (si (si S 24 1) 19 p0) 20 p1) 21 7) 13 (fil 1024 0 (ar (si (si (si (si S 24 1) 19 p0) 20 p1) 21 7) 13))) 2 0 4128768) 11 0 (-1)) 12 0 (-1)) 25 1) 13 978 1) h_i_26 h_i_23 rfl h_a_10_0 rfl h_a_9_50 h_a_9_40 h_a_9_41 h_a_9_42 h_a_9_0 h_a_9_11 h_a_9_21 h_a_9_31 h_a_9_12 h_a_9_22 h_a_9_32 h_a_9_1 h_a_9_13 h_a_9_23 h_a_9_33 h_a_9_15 h_a_9_25 h_a_9_35 h_a_9_2 h_a_9_16 h_a_9_26 h_a_9_36 h_a_9_17 h_a_9_27 h_a_9_37 h_i_18) cf_X8_finish (cw_25 cy tE a rw (su (si (su (su (sv (sa (si (si (si (si S 24 1) 19 p0) 20 p1) 21 7) 13 (fil 1024 0 (ar (si (si (si (si S 24 1) 19 p0) 20 p1) 21 7) 13))) 2 0 4128768) 11 0 (-1)) 12 0 (-1)) 25 1) 13 978 1)) rfl wm_X11_232 wi_X8_finish ws_X8_finish dX11_gain_45 rfl (Nat.le_of_ble_eq_true rfl) ⟨by decide, by decide, by decide, by decide⟩) (fun u13275 h13273 => ?_)
    rcases h13273 with ⟨c13276, rfl⟩ | ⟨c13277, rfl⟩
    · refine z_aload_n b dX11_gain_48 rfl rfl ?_
      refine z_get (q0 := 0) (k9 := 6) (v := .ref (a 25)) b (cw_0 cy tE a rw (si (su (si (su (su (sv (sa (si (si (si (si S 24 1) 19 p0) 20 p1) 21 7) 13 (fil 1024 0 (ar (si (si (si (si S 24 1) 19 p0) 20 p1) 21 7) 13))) 2 0 4128768) 11 0 (-1)) 12 0 (-1)) 25 1) 13 978 1) 23 1)) rfl in_X11 (by decide) wf_X11_52 rfl dX11_gain_49 ?_
      refine z_get (q0 := 25) (k9 := 18) (v := .int (fi (si (su (si (su (su (sv (sa (si (si (si (si S 24 1) 19 p0) 20 p1) 21 7) 13 (fil 1024 0 (ar (si (si (si (si S 24 1) 19 p0) 20 p1) 21 7) 13))) 2 0 4128768) 11 0 (-1)) 12 0 (-1)) 25 1) 13 978 1) 23 1) 26)) b (cw_25 cy tE a rw (si (su (si (su (su (sv (sa (si (si (si (si S 24 1) 19 p0) 20 p1) 21 7) 13 (fil 1024 0 (ar (si (si (si (si S 24 1) 19 p0) 20 p1) 21 7) 13))) 2 0 4128768) 11 0 (-1)) 12 0 (-1)) 25 1) 13 978 1) 23 1)) rfl in_X8 (by decide) wf_X11_214 rfl dX11_gain_52 ?_
      refine z_eqi h_i_26 ?_
      refine z_if_eq_t (tgt := 61) b dX11_gain_55 (by decide) (by decide) ?_
      refine z_aload_n b dX11_gain_61 rfl rfl ?_
      refine z_get (q0 := 0) (k9 := 6) (v := .ref (a 25)) b (cw_0 cy tE a rw (si (su (si (su (su (sv (sa (si (si (si (si S 24 1) 19 p0) 20 p1) 21 7) 13 (fil 1024 0 (ar (si (si (si (si S 24 1) 19 p0) 20 p1) 21 7) 13))) 2 0 4128768) 11 0 (-1)) 12 0 (-1)) 25 1) 13 978 1) 23 1)) rfl in_X11 (by decide) wf_X11_52 rfl dX11_gain_62 ?_
      refine z_iload_n b dX11_gain_65 rfl rfl ?_
      refine z_calli b (z_runV (q0 := 25) (As := [.int 2]) (st := []) b (c_X8_richest_3 (si (su (si (su (su (sv (sa (si (si (si (si S 24 1) 19 p0) 20 p1) 21 7) 13 (fil 1024 0 (ar (si (si (si (si S 24 1) 19 p0) 20 p1) 21 7) 13))) 2 0 4128768) 11 0 (-1)) 12 0 (-1)) 25 1) 13 978 1) 23 1) rfl rfl h_a_9_50 h_a_9_40 h_a_9_41 h_a_9_42 h_a_9_0 h_a_9_11 h_a_9_21 h_a_9_31 h_a_9_12 h_a_9_22 h_a_9_32 h_a_9_1 h_a_9_13 h_a_9_23 h_a_9_33 h_a_9_15 h_a_9_25 h_a_9_35 h_a_9_2 h_a_9_16 h_a_9_26 h_a_9_36 h_a_9_17 h_a_9_27 h_a_9_37) cf_X8_richest (cw_25 cy tE a rw (si (su (si (su (su (sv (sa (si (si (si (si S 24 1) 19 p0) 20 p1) 21 7) 13 (fil 1024 0 (ar (si (si (si (si S 24 1) 19 p0) 20 p1) 21 7) 13))) 2 0 4128768) 11 0 (-1)) 12 0 (-1)) 25 1) 13 978 1) 23 1)) rfl wm_X11_238 wi_X8_richest ws_X8_richest dX11_gain_66 rfl (Nat.le_of_ble_eq_true rfl) ⟨by decide, by decide, by decide, by decide⟩) (fun r13279 u13280 h13278 => ?_)
      obtain ⟨rfl, rfl⟩ := h13278
      refine z_istore (lv' := [(5, .int 0), (0, .ref (a 0)), (1, .int 2), (2, .int p0), (3, .int p1), (4, .int p2)]) b dX11_gain_69 (by decide) rfl ?_
      refine z_iload b dX11_gain_71 rfl ?_
      refine y_if_ne (tgt := 87) (xl := p2.toInt) b rfl dX11_gain_73 (by decide) (fun c13281 => ?_) (fun c13281 => ?_)
      · refine z_iload b dX11_gain_87 rfl ?_
        refine z_iconst (v := 1) b dX11_gain_89 (by decide) ?_
        refine y_icmp_ne (tgt := 103) (xl := p2.toInt) (yl := 1) b rfl (by decide) dX11_gain_90 (by decide) (fun c13282 => ?_) (fun c13282 => ?_)
        · refine z_aload_n b dX11_gain_103 rfl rfl ?_
          refine z_get (q0 := 0) (k9 := 6) (v := .ref (a 25)) b (cw_0 cy tE a rw (si (su (si (su (su (sv (sa (si (si (si (si S 24 1) 19 p0) 20 p1) 21 7) 13 (fil 1024 0 (ar (si (si (si (si S 24 1) 19 p0) 20 p1) 21 7) 13))) 2 0 4128768) 11 0 (-1)) 12 0 (-1)) 25 1) 13 978 1) 23 1)) rfl in_X11 (by decide) wf_X11_52 rfl dX11_gain_104 ?_
          refine z_iload b dX11_gain_107 rfl ?_
          refine z_iload b dX11_gain_109 rfl ?_
          refine z_iconst (v := 2) b dX11_gain_111 (by decide) ?_
          refine z_isub b dX11_gain_112 rfl ?_
          have f13283 : ((p2 - 2) : Int32).toInt = p2.toInt + (-2) := zisub (k := 2) (by decide) (by omega) (by omega)
          refine z_calli b (z_runV (q0 := 25) (As := [.int 0, .int (p2 - 2)]) (st := []) b (c_X8_code_2 (si (su (si (su (su (sv (sa (si (si (si (si S 24 1) 19 p0) 20 p1) 21 7) 13 (fil 1024 0 (ar (si (si (si (si S 24 1) 19 p0) 20 p1) 21 7) 13))) 2 0 4128768) 11 0 (-1)) 12 0 (-1)) 25 1) 13 978 1) 23 1) (p2 - 2) rfl h_a_10_0 ⟨by omega, by omega⟩) cf_X8_code (cw_25 cy tE a rw (si (su (si (su (su (sv (sa (si (si (si (si S 24 1) 19 p0) 20 p1) 21 7) 13 (fil 1024 0 (ar (si (si (si (si S 24 1) 19 p0) 20 p1) 21 7) 13))) 2 0 4128768) 11 0 (-1)) 12 0 (-1)) 25 1) 13 978 1) 23 1)) rfl wm_X11_219 wi_X8_code ws_X8_code dX11_gain_113 rfl (Nat.le_of_ble_eq_true rfl) ⟨by decide, by decide, by decide, by decide⟩) (fun r13285 u13286 h13284 => ?_)
          obtain ⟨rfl, rfl⟩ := h13284
          refine z_istore (lv' := [(6, .int (-1)), (5, .int 0), (0, .ref (a 0)), (1, .int 2), (2, .int p0), (3, .int p1), (4, .int p2)]) b dX11_gain_116 (by decide) rfl ?_
          refine z_iload b dX11_gain_118 rfl ?_
          refine z_iconst (v := (-1)) b dX11_gain_120 (by decide) ?_
          refine z_icmp_ne_f (tgt := 129) b dX11_gain_121 (by decide) (by decide) ?_
          refine z_bipush (v := (-100)) b dX11_gain_124 (by decide) ?_
          refine z_goto (tgt := 131) b dX11_gain_126 (by decide) ?_
          exact z_iret (u := (si (su (si (su (su (sv (sa (si (si (si (si S 24 1) 19 p0) 20 p1) 21 7) 13 (fil 1024 0 (ar (si (si (si (si S 24 1) 19 p0) 20 p1) 21 7) 13))) 2 0 4128768) 11 0 (-1)) 12 0 (-1)) 25 1) 13 978 1) 23 1)) b rfl dX11_gain_131 (Or.inl ⟨⟨c13269, c13276, c13281, c13282⟩, rfl, rfl⟩) rfl (by decide) (by decide)
        · exfalso; omega
      · exfalso; omega
    · refine z_aload_n b dX11_gain_48 rfl rfl ?_
      refine z_get (q0 := 0) (k9 := 6) (v := .ref (a 25)) b (cw_0 cy tE a rw (su (si (su (su (sv (sa (si (si (si (si S 24 1) 19 p0) 20 p1) 21 7) 13 (fil 1024 0 (ar (si (si (si (si S 24 1) 19 p0) 20 p1) 21 7) 13))) 2 0 4128768) 11 0 (-1)) 12 0 (-1)) 25 1) 13 978 1)) rfl in_X11 (by decide) wf_X11_52 rfl dX11_gain_49 ?_
      refine z_get (q0 := 25) (k9 := 18) (v := .int (fi (su (si (su (su (sv (sa (si (si (si (si S 24 1) 19 p0) 20 p1) 21 7) 13 (fil 1024 0 (ar (si (si (si (si S 24 1) 19 p0) 20 p1) 21 7) 13))) 2 0 4128768) 11 0 (-1)) 12 0 (-1)) 25 1) 13 978 1) 26)) b (cw_25 cy tE a rw (su (si (su (su (sv (sa (si (si (si (si S 24 1) 19 p0) 20 p1) 21 7) 13 (fil 1024 0 (ar (si (si (si (si S 24 1) 19 p0) 20 p1) 21 7) 13))) 2 0 4128768) 11 0 (-1)) 12 0 (-1)) 25 1) 13 978 1)) rfl in_X8 (by decide) wf_X11_214 rfl dX11_gain_52 ?_
      refine z_eqi h_i_26 ?_
      refine z_if_eq_t (tgt := 61) b dX11_gain_55 (by decide) (by decide) ?_
      refine z_aload_n b dX11_gain_61 rfl rfl ?_
      refine z_get (q0 := 0) (k9 := 6) (v := .ref (a 25)) b (cw_0 cy tE a rw (su (si (su (su (sv (sa (si (si (si (si S 24 1) 19 p0) 20 p1) 21 7) 13 (fil 1024 0 (ar (si (si (si (si S 24 1) 19 p0) 20 p1) 21 7) 13))) 2 0 4128768) 11 0 (-1)) 12 0 (-1)) 25 1) 13 978 1)) rfl in_X11 (by decide) wf_X11_52 rfl dX11_gain_62 ?_
      refine z_iload_n b dX11_gain_65 rfl rfl ?_
      refine z_calli b (z_runV (q0 := 25) (As := [.int 2]) (st := []) b (c_X8_richest_3 (su (si (su (su (sv (sa (si (si (si (si S 24 1) 19 p0) 20 p1) 21 7) 13 (fil 1024 0 (ar (si (si (si (si S 24 1) 19 p0) 20 p1) 21 7) 13))) 2 0 4128768) 11 0 (-1)) 12 0 (-1)) 25 1) 13 978 1) rfl rfl h_a_9_50 h_a_9_40 h_a_9_41 h_a_9_42 h_a_9_0 h_a_9_11 h_a_9_21 h_a_9_31 h_a_9_12 h_a_9_22 h_a_9_32 h_a_9_1 h_a_9_13 h_a_9_23 h_a_9_33 h_a_9_15 h_a_9_25 h_a_9_35 h_a_9_2 h_a_9_16 h_a_9_26 h_a_9_36 h_a_9_17 h_a_9_27 h_a_9_37) cf_X8_richest (cw_25 cy tE a rw (su (si (su (su (sv (sa (si (si (si (si S 24 1) 19 p0) 20 p1) 21 7) 13 (fil 1024 0 (ar (si (si (si (si S 24 1) 19 p0) 20 p1) 21 7) 13))) 2 0 4128768) 11 0 (-1)) 12 0 (-1)) 25 1) 13 978 1)) rfl wm_X11_238 wi_X8_richest ws_X8_richest dX11_gain_66 rfl (Nat.le_of_ble_eq_true rfl) ⟨by decide, by decide, by decide, by decide⟩) (fun r13288 u13289 h13287 => ?_)
      obtain ⟨rfl, rfl⟩ := h13287
      refine z_istore (lv' := [(5, .int 0), (0, .ref (a 0)), (1, .int 2), (2, .int p0), (3, .int p1), (4, .int p2)]) b dX11_gain_69 (by decide) rfl ?_
      refine z_iload b dX11_gain_71 rfl ?_
      refine y_if_ne (tgt := 87) (xl := p2.toInt) b rfl dX11_gain_73 (by decide) (fun c13290 => ?_) (fun c13290 => ?_)
      · refine z_iload b dX11_gain_87 rfl ?_
        refine z_iconst (v := 1) b dX11_gain_89 (by decide) ?_
        refine y_icmp_ne (tgt := 103) (xl := p2.toInt) (yl := 1) b rfl (by decide) dX11_gain_90 (by decide) (fun c13291 => ?_) (fun c13291 => ?_)
        · refine z_aload_n b dX11_gain_103 rfl rfl ?_
          refine z_get (q0 := 0) (k9 := 6) (v := .ref (a 25)) b (cw_0 cy tE a rw (su (si (su (su (sv (sa (si (si (si (si S 24 1) 19 p0) 20 p1) 21 7) 13 (fil 1024 0 (ar (si (si (si (si S 24 1) 19 p0) 20 p1) 21 7) 13))) 2 0 4128768) 11 0 (-1)) 12 0 (-1)) 25 1) 13 978 1)) rfl in_X11 (by decide) wf_X11_52 rfl dX11_gain_104 ?_
          refine z_iload b dX11_gain_107 rfl ?_
          refine z_iload b dX11_gain_109 rfl ?_
          refine z_iconst (v := 2) b dX11_gain_111 (by decide) ?_
          refine z_isub b dX11_gain_112 rfl ?_
          have f13292 : ((p2 - 2) : Int32).toInt = p2.toInt + (-2) := zisub (k := 2) (by decide) (by omega) (by omega)
          refine z_calli b (z_runV (q0 := 25) (As := [.int 0, .int (p2 - 2)]) (st := []) b (c_X8_code_2 (su (si (su (su (sv (sa (si (si (si (si S 24 1) 19 p0) 20 p1) 21 7) 13 (fil 1024 0 (ar (si (si (si (si S 24 1) 19 p0) 20 p1) 21 7) 13))) 2 0 4128768) 11 0 (-1)) 12 0 (-1)) 25 1) 13 978 1) (p2 - 2) rfl h_a_10_0 ⟨by omega, by omega⟩) cf_X8_code (cw_25 cy tE a rw (su (si (su (su (sv (sa (si (si (si (si S 24 1) 19 p0) 20 p1) 21 7) 13 (fil 1024 0 (ar (si (si (si (si S 24 1) 19 p0) 20 p1) 21 7) 13))) 2 0 4128768) 11 0 (-1)) 12 0 (-1)) 25 1) 13 978 1)) rfl wm_X11_219 wi_X8_code ws_X8_code dX11_gain_113 rfl (Nat.le_of_ble_eq_true rfl) ⟨by decide, by decide, by decide, by decide⟩) (fun r13294 u13295 h13293 => ?_)
          obtain ⟨rfl, rfl⟩ := h13293
          refine z_istore (lv' := [(6, .int (-1)), (5, .int 0), (0, .ref (a 0)), (1, .int 2), (2, .int p0), (3, .int p1), (4, .int p2)]) b dX11_gain_116 (by decide) rfl ?_
          refine z_iload b dX11_gain_118 rfl ?_
          refine z_iconst (v := (-1)) b dX11_gain_120 (by decide) ?_
          refine z_icmp_ne_f (tgt := 129) b dX11_gain_121 (by decide) (by decide) ?_
          refine z_bipush (v := (-100)) b dX11_gain_124 (by decide) ?_
          refine z_goto (tgt := 131) b dX11_gain_126 (by decide) ?_
          exact z_iret (u := (su (si (su (su (sv (sa (si (si (si (si S 24 1) 19 p0) 20 p1) 21 7) 13 (fil 1024 0 (ar (si (si (si (si S 24 1) 19 p0) 20 p1) 21 7) 13))) 2 0 4128768) 11 0 (-1)) 12 0 (-1)) 25 1) 13 978 1)) b rfl dX11_gain_131 (Or.inr ⟨⟨c13269, c13277, c13290, c13291⟩, rfl, rfl⟩) rfl (by decide) (by decide)
        · exfalso; omega
      · exfalso; omega
  · exfalso; omega

set_option maxHeartbeats 4000000 in
set_option maxRecDepth 100000 in
theorem c_X12_gain_44 {l : Launch} {D : va_G} {cy : Nat → ClassId} {T0 tB tE : Nat} {a : Nat → Nat} (S : GS) (p0 : Int32) (p1 : Int32) (p2 : Int32)  (hr_p0 : 1 ≤ p0.toInt ∧ p0.toInt ≤ 3) (hr_p1 : 1 ≤ p1.toInt ∧ p1.toInt ≤ 6) (hr_p2 : 8 ≤ p2.toInt ∧ p2.toInt ≤ 2147483647) : Ct l D cy T0 tB tE yX12_gain cX12_gain 9 (some .int) 2 44 0 0 (mw cy a S) [.ref (a 0), .int 2, .int p0, .int p1, .int p2] (QI D (U := GS) (fun r u => (-100) = r ∧ S = u) (mw cy a)) := by
  refine Ct.ofZ RX12 "gain" [(0, .ref (a 0)), (1, .int 2), (2, .int p0), (3, .int p1), (4, .int p2)] rfl rfl rfl rfl (Nat.le_of_ble_eq_true rfl) ?_
  intro p e R s m args below meth c A b
  refine z_iload_n b dX12_gain_0 rfl rfl ?_
  refine z_calli b (z_runS (As := [.int 2]) (st := []) b (c_X12_isOne_5 S ) cf_X12_isOne wm_X12_170 ws_X12_isOne dX12_gain_1 rfl (Nat.le_of_ble_eq_true rfl) ⟨by decide, by decide, by decide, by decide⟩) (fun r13297 u13298 h13296 => ?_)
  obtain ⟨rfl, rfl⟩ := h13296
  refine z_if_eq_f (tgt := 27) b dX12_gain_4 (by decide) (by decide) ?_
  refine z_aload_n b dX12_gain_7 rfl rfl ?_
  refine z_iload_n b dX12_gain_8 rfl rfl ?_
  refine z_iload_n b dX12_gain_9 rfl rfl ?_
  refine z_calli b (z_runV (q0 := 0) (As := [.int p0, .int p1]) (st := []) b (c_X12_canSearch_5 S p0 p1 ⟨by omega, by omega⟩ ⟨by omega, by omega⟩) cf_X12_canSearch (mw_0 cy a S) rfl wm_X12_433 wi_X12_canSearch ws_X12_canSearch dX12_gain_10 rfl (Nat.le_of_ble_eq_true rfl) ⟨by decide, by decide, by decide, by decide⟩) (fun r13300 u13301 h13299 => ?_)
  obtain ⟨rfl, rfl⟩ := h13299
  refine z_if_eq_f (tgt := 27) b dX12_gain_13 (by decide) (by decide) ?_
  refine z_iload b dX12_gain_16 rfl ?_
  refine z_iconst (v := 0) b dX12_gain_18 (by decide) ?_
  refine z_bipush (v := 7) b dX12_gain_19 (by decide) ?_
  refine z_calli b (z_runS (As := [.int p2, .int 0, .int 7]) (st := []) b (c_X12_isIn_14 S p2 ⟨by omega, by omega⟩) cf_X12_isIn wm_X12_1 ws_X12_isIn dX12_gain_21 rfl (Nat.le_of_ble_eq_true rfl) ⟨by decide, by decide, by decide, by decide⟩) (fun r13303 u13304 h13302 => ?_)
  obtain ⟨rfl, rfl⟩ := h13302
  refine z_if_ne_f (tgt := 30) b dX12_gain_24 (by decide) (by decide) ?_
  refine z_bipush (v := (-100)) b dX12_gain_27 (by decide) ?_
  exact z_iret (u := S) b rfl dX12_gain_29 ⟨rfl, rfl⟩ rfl (by decide) (by decide)

