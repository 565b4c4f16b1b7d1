theorem wm_L_13 : Cond.methodLink RL 13 yX11_coin ∈ gT := gT_of 473 (by decide +kernel) (by decide +kernel)
theorem cf_X11_coin : Cf yX11_coin cX11_coin 3 (some .boolean) 2 := ⟨gT_of 476 (by decide +kernel) (by decide +kernel), gT_of 84 (by decide +kernel) (by decide +kernel), by decide +kernel, by decide +kernel, by decide +kernel⟩
theorem wi_X11_coin : Cond.instanceMethod yX11_coin ∈ gT := gT_of 474 (by decide +kernel) (by decide +kernel)
theorem ws_X11_coin : Cond.selects yX11_coin.cls yX11_coin yX11_coin ∈ gT := gT_of 475 (by decide +kernel) (by decide +kernel)
theorem wm_L_17 : Cond.methodLink RL 17 yX12_coin ∈ gT := gT_of 1401 (by decide +kernel) (by decide +kernel)
theorem cf_X12_coin : Cf yX12_coin cX12_coin 3 (some .boolean) 2 := ⟨gT_of 1404 (by decide +kernel) (by decide +kernel), gT_of 101 (by decide +kernel) (by decide +kernel), by decide +kernel, by decide +kernel, by decide +kernel⟩
theorem wi_X12_coin : Cond.instanceMethod yX12_coin ∈ gT := gT_of 1402 (by decide +kernel) (by decide +kernel)
theorem ws_X12_coin : Cond.selects yX12_coin.cls yX12_coin yX12_coin ∈ gT := gT_of 1403 (by decide +kernel) (by decide +kernel)
theorem wm_L_18 : Cond.methodLink RL 18 yX11_debt ∈ gT := gT_of 491 (by decide +kernel) (by decide +kernel)
theorem cf_X11_debt : Cf yX11_debt cX11_debt 4 (some .boolean) 3 := ⟨gT_of 494 (by decide +kernel) (by decide +kernel), gT_of 84 (by decide +kernel) (by decide +kernel), by decide +kernel, by decide +kernel, by decide +kernel⟩
theorem wi_X11_debt : Cond.instanceMethod yX11_debt ∈ gT := gT_of 492 (by decide +kernel) (by decide +kernel)
theorem ws_X11_debt : Cond.selects yX11_debt.cls yX11_debt yX11_debt ∈ gT := gT_of 493 (by decide +kernel) (by decide +kernel)
theorem wm_L_22 : Cond.methodLink RL 22 yX12_debt ∈ gT := gT_of 1422 (by decide +kernel) (by decide +kernel)
theorem cf_X12_debt : Cf yX12_debt cX12_debt 4 (some .boolean) 3 := ⟨gT_of 1425 (by decide +kernel) (by decide +kernel), gT_of 101 (by decide +kernel) (by decide +kernel), by decide +kernel, by decide +kernel, by decide +kernel⟩
theorem wi_X12_debt : Cond.instanceMethod yX12_debt ∈ gT := gT_of 1423 (by decide +kernel) (by decide +kernel)
theorem ws_X12_debt : Cond.selects yX12_debt.cls yX12_debt yX12_debt ∈ gT := gT_of 1424 (by decide +kernel) (by decide +kernel)
theorem wm_L_23 : Cond.methodLink RL 23 yX11_kin ∈ gT := gT_of 498 (by decide +kernel) (by decide +kernel)
theorem cf_X11_kin : Cf yX11_kin cX11_kin 6 (some .boolean) 4 := ⟨gT_of 501 (by decide +kernel) (by decide +kernel), gT_of 84 (by decide +kernel) (by decide +kernel), by decide +kernel, by decide +kernel, by decide +kernel⟩
theorem wi_X11_kin : Cond.instanceMethod yX11_kin ∈ gT := gT_of 499 (by decide +kernel) (by decide +kernel)
theorem ws_X11_kin : Cond.selects yX11_kin.cls yX11_kin yX11_kin ∈ gT := gT_of 500 (by decide +kernel) (by decide +kernel)
theorem wm_L_27 : Cond.methodLink RL 27 yX12_kin ∈ gT := gT_of 1426 (by decide +kernel) (by decide +kernel)
theorem cf_X12_kin : Cf yX12_kin cX12_kin 5 (some .boolean) 4 := ⟨gT_of 1429 (by decide +kernel) (by decide +kernel), gT_of 101 (by decide +kernel) (by decide +kernel), by decide +kernel, by decide +kernel, by decide +kernel⟩
theorem wi_X12_kin : Cond.instanceMethod yX12_kin ∈ gT := gT_of 1427 (by decide +kernel) (by decide +kernel)
theorem ws_X12_kin : Cond.selects yX12_kin.cls yX12_kin yX12_kin ∈ gT := gT_of 1428 (by decide +kernel) (by decide +kernel)
theorem wm_L_28 : Cond.methodLink RL 28 yX11_owner ∈ gT := gT_of 502 (by decide +kernel) (by decide +kernel)
theorem cf_X11_owner : Cf yX11_owner cX11_owner 3 (some .boolean) 2 := ⟨gT_of 505 (by decide +kernel) (by decide +kernel), gT_of 84 (by decide +kernel) (by decide +kernel), by decide +kernel, by decide +kernel, by decide +kernel⟩
theorem wi_X11_owner : Cond.instanceMethod yX11_owner ∈ gT := gT_of 503 (by decide +kernel) (by decide +kernel)
theorem ws_X11_owner : Cond.selects yX11_owner.cls yX11_owner yX11_owner ∈ gT := gT_of 504 (by decide +kernel) (by decide +kernel)
theorem wm_L_31 : Cond.methodLink RL 31 yX12_owner ∈ gT := gT_of 1430 (by decide +kernel) (by decide +kernel)
theorem cf_X12_owner : Cf yX12_owner cX12_owner 3 (some .boolean) 2 := ⟨gT_of 1433 (by decide +kernel) (by decide +kernel), gT_of 101 (by decide +kernel) (by decide +kernel), by decide +kernel, by decide +kernel, by decide +kernel⟩
theorem wi_X12_owner : Cond.instanceMethod yX12_owner ∈ gT := gT_of 1431 (by decide +kernel) (by decide +kernel)
theorem ws_X12_owner : Cond.selects yX12_owner.cls yX12_owner yX12_owner ∈ gT := gT_of 1432 (by decide +kernel) (by decide +kernel)
theorem wm_L_32 : Cond.methodLink RL 32 yX11_day ∈ gT := gT_of 509 (by decide +kernel) (by decide +kernel)
theorem cf_X11_day : Cf yX11_day cX11_day 2 (some .boolean) 1 := ⟨gT_of 512 (by decide +kernel) (by decide +kernel), gT_of 84 (by decide +kernel) (by decide +kernel), by decide +kernel, by decide +kernel, by decide +kernel⟩
theorem wi_X11_day : Cond.instanceMethod yX11_day ∈ gT := gT_of 510 (by decide +kernel) (by decide +kernel)
theorem ws_X11_day : Cond.selects yX11_day.cls yX11_day yX11_day ∈ gT := gT_of 511 (by decide +kernel) (by decide +kernel)
theorem wm_L_36 : Cond.methodLink RL 36 yX12_day ∈ gT := gT_of 1434 (by decide +kernel) (by decide +kernel)
theorem cf_X12_day : Cf yX12_day cX12_day 2 (some .boolean) 1 := ⟨gT_of 1437 (by decide +kernel) (by decide +kernel), gT_of 101 (by decide +kernel) (by decide +kernel), by decide +kernel, by decide +kernel, by decide +kernel⟩
theorem wi_X12_day : Cond.instanceMethod yX12_day ∈ gT := gT_of 1435 (by decide +kernel) (by decide +kernel)
theorem ws_X12_day : Cond.selects yX12_day.cls yX12_day yX12_day ∈ gT := gT_of 1436 (by decide +kernel) (by decide +kernel)
theorem wm_L_37 : Cond.methodLink RL 37 yX11_feed ∈ gT := gT_of 513 (by decide +kernel) (by decide +kernel)
theorem cf_X11_feed : Cf yX11_feed cX11_feed 6 (some .int) 5 := ⟨gT_of 516 (by decide +kernel) (by decide +kernel), gT_of 84 (by decide +kernel) (by decide +kernel), by decide +kernel, by decide +kernel, by decide +kernel⟩
theorem wi_X11_feed : Cond.instanceMethod yX11_feed ∈ gT := gT_of 514 (by decide +kernel) (by decide +kernel)
theorem ws_X11_feed : Cond.selects yX11_feed.cls yX11_feed yX11_feed ∈ gT := gT_of 515 (by decide +kernel) (by decide +kernel)
theorem wm_L_41 : Cond.methodLink RL 41 yX12_feed ∈ gT := gT_of 1438 (by decide +kernel) (by decide +kernel)
theorem cf_X12_feed : Cf yX12_feed cX12_feed 8 (some .int) 5 := ⟨gT_of 1441 (by decide +kernel) (by decide +kernel), gT_of 101 (by decide +kernel) (by decide +kernel), by decide +kernel, by decide +kernel, by decide +kernel⟩
theorem wi_X12_feed : Cond.instanceMethod yX12_feed ∈ gT := gT_of 1439 (by decide +kernel) (by decide +kernel)
theorem ws_X12_feed : Cond.selects yX12_feed.cls yX12_feed yX12_feed ∈ gT := gT_of 1440 (by decide +kernel) (by decide +kernel)
theorem wm_L_42 : Cond.methodLink RL 42 yX11_end ∈ gT := gT_of 521 (by decide +kernel) (by decide +kernel)
theorem cf_X11_end : Cf yX11_end cX11_end 2 (some .boolean) 1 := ⟨gT_of 524 (by decide +kernel) (by decide +kernel), gT_of 84 (by decide +kernel) (by decide +kernel), by decide +kernel, by decide +kernel, by decide +kernel⟩
theorem wi_X11_end : Cond.instanceMethod yX11_end ∈ gT := gT_of 522 (by decide +kernel) (by decide +kernel)
theorem ws_X11_end : Cond.selects yX11_end.cls yX11_end yX11_end ∈ gT := gT_of 523 (by decide +kernel) (by decide +kernel)
theorem wm_L_45 : Cond.methodLink RL 45 yX12_end ∈ gT := gT_of 1442 (by decide +kernel) (by decide +kernel)
theorem cf_X12_end : Cf yX12_end cX12_end 2 (some .boolean) 1 := ⟨gT_of 1445 (by decide +kernel) (by decide +kernel), gT_of 101 (by decide +kernel) (by decide +kernel), by decide +kernel, by decide +kernel, by decide +kernel⟩
theorem wi_X12_end : Cond.instanceMethod yX12_end ∈ gT := gT_of 1443 (by decide +kernel) (by decide +kernel)
theorem ws_X12_end : Cond.selects yX12_end.cls yX12_end yX12_end ∈ gT := gT_of 1444 (by decide +kernel) (by decide +kernel)
theorem dL_law_0 : decode cL_law 0 = .ok (.new 7, 3) := by decide +kernel
theorem dL_law_3 : decode cL_law 3 = .ok (.dup, 1) := by decide +kernel
theorem dL_law_4 : decode cL_law 4 = .ok (.invokespecial 9, 3) := by decide +kernel
theorem dL_law_7 : decode cL_law 7 = .ok (.astore_n 1, 1) := by decide +kernel
theorem dL_law_8 : decode cL_law 8 = .ok (.new 10, 3) := by decide +kernel
theorem dL_law_11 : decode cL_law 11 = .ok (.dup, 1) := by decide +kernel
theorem dL_law_12 : decode cL_law 12 = .ok (.invokespecial 12, 3) := by decide +kernel
theorem dL_law_15 : decode cL_law 15 = .ok (.astore_n 2, 1) := by decide +kernel
theorem dL_law_16 : decode cL_law 16 = .ok (.iconst 0, 1) := by decide +kernel
theorem dL_law_17 : decode cL_law 17 = .ok (.istore_n 3, 1) := by decide +kernel
theorem dL_law_18 : decode cL_law 18 = .ok (.iload_n 3, 1) := by decide +kernel
theorem dL_law_19 : decode cL_law 19 = .ok (.aload_n 0, 1) := by decide +kernel
theorem dL_law_20 : decode cL_law 20 = .ok (.arraylength, 1) := by decide +kernel
theorem dL_law_21 : decode cL_law 21 = .ok (.bipush 6, 2) := by decide +kernel
theorem dL_law_23 : decode cL_law 23 = .ok (.isub, 1) := by decide +kernel
theorem dL_law_24 : decode cL_law 24 = .ok (.if_icmp .gt 1073, 3) := by decide +kernel
theorem dL_law_27 : decode cL_law 27 = .ok (.aload_n 0, 1) := by decide +kernel
theorem dL_law_28 : decode cL_law 28 = .ok (.iload_n 3, 1) := by decide +kernel
theorem dL_law_29 : decode cL_law 29 = .ok (.iaload, 1) := by decide +kernel
theorem dL_law_30 : decode cL_law 30 = .ok (.bipush 31, 2) := by decide +kernel
theorem dL_law_32 : decode cL_law 32 = .ok (.iand, 1) := by decide +kernel
theorem dL_law_33 : decode cL_law 33 = .ok (.tableswitch 1058 0 24 #[115, 148, 191, 260, 293, 316, 379, 402, 425, 438, 461, 484, 517, 550, 573, 622, 675, 708, 771, 814, 847, 906, 959, 1002, 1025], 115) := by decide +kernel
theorem dL_law_148 : decode cL_law 148 = .ok (.aload_n 1, 1) := by decide +kernel
theorem dL_law_149 : decode cL_law 149 = .ok (.aload_n 0, 1) := by decide +kernel
theorem dL_law_150 : decode cL_law 150 = .ok (.iload_n 3, 1) := by decide +kernel
theorem dL_law_151 : decode cL_law 151 = .ok (.iconst 1, 1) := by decide +kernel
theorem dL_law_152 : decode cL_law 152 = .ok (.iadd, 1) := by decide +kernel
theorem dL_law_153 : decode cL_law 153 = .ok (.iaload, 1) := by decide +kernel
theorem dL_law_154 : decode cL_law 154 = .ok (.aload_n 0, 1) := by decide +kernel
theorem dL_law_155 : decode cL_law 155 = .ok (.iload_n 3, 1) := by decide +kernel
theorem dL_law_156 : decode cL_law 156 = .ok (.iconst 2, 1) := by decide +kernel
theorem dL_law_157 : decode cL_law 157 = .ok (.iadd, 1) := by decide +kernel
theorem dL_law_158 : decode cL_law 158 = .ok (.iaload, 1) := by decide +kernel
theorem dL_law_159 : decode cL_law 159 = .ok (.invokevirtual 13, 3) := by decide +kernel
theorem dL_law_162 : decode cL_law 162 = .ok (.aload_n 2, 1) := by decide +kernel
theorem dL_law_163 : decode cL_law 163 = .ok (.aload_n 0, 1) := by decide +kernel
theorem dL_law_164 : decode cL_law 164 = .ok (.iload_n 3, 1) := by decide +kernel
theorem dL_law_165 : decode cL_law 165 = .ok (.iconst 1, 1) := by decide +kernel
theorem dL_law_166 : decode cL_law 166 = .ok (.iadd, 1) := by decide +kernel
theorem dL_law_167 : decode cL_law 167 = .ok (.iaload, 1) := by decide +kernel
theorem dL_law_168 : decode cL_law 168 = .ok (.aload_n 0, 1) := by decide +kernel
theorem dL_law_169 : decode cL_law 169 = .ok (.iload_n 3, 1) := by decide +kernel
theorem dL_law_170 : decode cL_law 170 = .ok (.iconst 2, 1) := by decide +kernel
theorem dL_law_171 : decode cL_law 171 = .ok (.iadd, 1) := by decide +kernel
theorem dL_law_172 : decode cL_law 172 = .ok (.iaload, 1) := by decide +kernel
theorem dL_law_173 : decode cL_law 173 = .ok (.invokevirtual 17, 3) := by decide +kernel
theorem dL_law_176 : decode cL_law 176 = .ok (.if_icmp .eq 915, 3) := by decide +kernel
theorem dL_law_179 : decode cL_law 179 = .ok (.iconst 0, 1) := by decide +kernel
theorem dL_law_180 : decode cL_law 180 = .ok (.ireturn, 1) := by decide +kernel
theorem dL_law_181 : decode cL_law 181 = .ok (.aload_n 1, 1) := by decide +kernel
theorem dL_law_182 : decode cL_law 182 = .ok (.aload_n 0, 1) := by decide +kernel
theorem dL_law_183 : decode cL_law 183 = .ok (.iload_n 3, 1) := by decide +kernel
theorem dL_law_184 : decode cL_law 184 = .ok (.iconst 1, 1) := by decide +kernel
theorem dL_law_185 : decode cL_law 185 = .ok (.iadd, 1) := by decide +kernel
theorem dL_law_186 : decode cL_law 186 = .ok (.iaload, 1) := by decide +kernel
theorem dL_law_187 : decode cL_law 187 = .ok (.aload_n 0, 1) := by decide +kernel
theorem dL_law_188 : decode cL_law 188 = .ok (.iload_n 3, 1) := by decide +kernel
theorem dL_law_189 : decode cL_law 189 = .ok (.iconst 2, 1) := by decide +kernel
theorem dL_law_190 : decode cL_law 190 = .ok (.iadd, 1) := by decide +kernel
theorem dL_law_191 : decode cL_law 191 = .ok (.iaload, 1) := by decide +kernel
theorem dL_law_192 : decode cL_law 192 = .ok (.aload_n 0, 1) := by decide +kernel
theorem dL_law_193 : decode cL_law 193 = .ok (.iload_n 3, 1) := by decide +kernel
theorem dL_law_194 : decode cL_law 194 = .ok (.iconst 3, 1) := by decide +kernel
theorem dL_law_195 : decode cL_law 195 = .ok (.iadd, 1) := by decide +kernel
theorem dL_law_196 : decode cL_law 196 = .ok (.iaload, 1) := by decide +kernel
theorem dL_law_197 : decode cL_law 197 = .ok (.invokevirtual 18, 3) := by decide +kernel
theorem dL_law_200 : decode cL_law 200 = .ok (.aload_n 2, 1) := by decide +kernel
theorem dL_law_201 : decode cL_law 201 = .ok (.aload_n 0, 1) := by decide +kernel
theorem dL_law_202 : decode cL_law 202 = .ok (.iload_n 3, 1) := by decide +kernel
theorem dL_law_203 : decode cL_law 203 = .ok (.iconst 1, 1) := by decide +kernel
theorem dL_law_204 : decode cL_law 204 = .ok (.iadd, 1) := by decide +kernel
theorem dL_law_205 : decode cL_law 205 = .ok (.iaload, 1) := by decide +kernel
theorem dL_law_206 : decode cL_law 206 = .ok (.aload_n 0, 1) := by decide +kernel
theorem dL_law_207 : decode cL_law 207 = .ok (.iload_n 3, 1) := by decide +kernel
theorem dL_law_208 : decode cL_law 208 = .ok (.iconst 2, 1) := by decide +kernel
theorem dL_law_209 : decode cL_law 209 = .ok (.iadd, 1) := by decide +kernel
theorem dL_law_210 : decode cL_law 210 = .ok (.iaload, 1) := by decide +kernel
theorem dL_law_211 : decode cL_law 211 = .ok (.aload_n 0, 1) := by decide +kernel
theorem dL_law_212 : decode cL_law 212 = .ok (.iload_n 3, 1) := by decide +kernel
theorem dL_law_213 : decode cL_law 213 = .ok (.iconst 3, 1) := by decide +kernel
theorem dL_law_214 : decode cL_law 214 = .ok (.iadd, 1) := by decide +kernel
theorem dL_law_215 : decode cL_law 215 = .ok (.iaload, 1) := by decide +kernel
theorem dL_law_216 : decode cL_law 216 = .ok (.invokevirtual 22, 3) := by decide +kernel
theorem dL_law_219 : decode cL_law 219 = .ok (.if_icmp .eq 872, 3) := by decide +kernel
theorem dL_law_222 : decode cL_law 222 = .ok (.iconst 0, 1) := by decide +kernel
theorem dL_law_223 : decode cL_law 223 = .ok (.ireturn, 1) := by decide +kernel
theorem dL_law_224 : decode cL_law 224 = .ok (.aload_n 1, 1) := by decide +kernel
theorem dL_law_225 : decode cL_law 225 = .ok (.aload_n 0, 1) := by decide +kernel
theorem dL_law_226 : decode cL_law 226 = .ok (.iload_n 3, 1) := by decide +kernel
theorem dL_law_227 : decode cL_law 227 = .ok (.iconst 1, 1) := by decide +kernel
theorem dL_law_228 : decode cL_law 228 = .ok (.iadd, 1) := by decide +kernel
theorem dL_law_229 : decode cL_law 229 = .ok (.iaload, 1) := by decide +kernel
theorem dL_law_230 : decode cL_law 230 = .ok (.aload_n 0, 1) := by decide +kernel
theorem dL_law_231 : decode cL_law 231 = .ok (.iload_n 3, 1) := by decide +kernel
theorem dL_law_232 : decode cL_law 232 = .ok (.iconst 2, 1) := by decide +kernel
theorem dL_law_233 : decode cL_law 233 = .ok (.iadd, 1) := by decide +kernel
theorem dL_law_234 : decode cL_law 234 = .ok (.iaload, 1) := by decide +kernel
theorem dL_law_235 : decode cL_law 235 = .ok (.aload_n 0, 1) := by decide +kernel
theorem dL_law_236 : decode cL_law 236 = .ok (.iload_n 3, 1) := by decide +kernel
theorem dL_law_237 : decode cL_law 237 = .ok (.iconst 3, 1) := by decide +kernel
theorem dL_law_238 : decode cL_law 238 = .ok (.iadd, 1) := by decide +kernel
theorem dL_law_239 : decode cL_law 239 = .ok (.iaload, 1) := by decide +kernel
theorem dL_law_240 : decode cL_law 240 = .ok (.aload_n 0, 1) := by decide +kernel
theorem dL_law_241 : decode cL_law 241 = .ok (.iload_n 3, 1) := by decide +kernel
theorem dL_law_242 : decode cL_law 242 = .ok (.iconst 4, 1) := by decide +kernel
theorem dL_law_243 : decode cL_law 243 = .ok (.iadd, 1) := by decide +kernel
theorem dL_law_244 : decode cL_law 244 = .ok (.iaload, 1) := by decide +kernel
theorem dL_law_245 : decode cL_law 245 = .ok (.ifCond .eq 7, 3) := by decide +kernel
theorem dL_law_248 : decode cL_law 248 = .ok (.iconst 1, 1) := by decide +kernel
theorem dL_law_249 : decode cL_law 249 = .ok (.goto 4, 3) := by decide +kernel
theorem dL_law_252 : decode cL_law 252 = .ok (.iconst 0, 1) := by decide +kernel
theorem dL_law_253 : decode cL_law 253 = .ok (.invokevirtual 23, 3) := by decide +kernel
theorem dL_law_256 : decode cL_law 256 = .ok (.aload_n 2, 1) := by decide +kernel
theorem dL_law_257 : decode cL_law 257 = .ok (.aload_n 0, 1) := by decide +kernel
theorem dL_law_258 : decode cL_law 258 = .ok (.iload_n 3, 1) := by decide +kernel
theorem dL_law_259 : decode cL_law 259 = .ok (.iconst 1, 1) := by decide +kernel
theorem dL_law_260 : decode cL_law 260 = .ok (.iadd, 1) := by decide +kernel
theorem dL_law_261 : decode cL_law 261 = .ok (.iaload, 1) := by decide +kernel
theorem dL_law_262 : decode cL_law 262 = .ok (.aload_n 0, 1) := by decide +kernel
theorem dL_law_263 : decode cL_law 263 = .ok (.iload_n 3, 1) := by decide +kernel
theorem dL_law_264 : decode cL_law 264 = .ok (.iconst 2, 1) := by decide +kernel
theorem dL_law_265 : decode cL_law 265 = .ok (.iadd, 1) := by decide +kernel
theorem dL_law_266 : decode cL_law 266 = .ok (.iaload, 1) := by decide +kernel
theorem dL_law_267 : decode cL_law 267 = .ok (.aload_n 0, 1) := by decide +kernel
theorem dL_law_268 : decode cL_law 268 = .ok (.iload_n 3, 1) := by decide +kernel
theorem dL_law_269 : decode cL_law 269 = .ok (.iconst 3, 1) := by decide +kernel
theorem dL_law_270 : decode cL_law 270 = .ok (.iadd, 1) := by decide +kernel
theorem dL_law_271 : decode cL_law 271 = .ok (.iaload, 1) := by decide +kernel
theorem dL_law_272 : decode cL_law 272 = .ok (.aload_n 0, 1) := by decide +kernel
theorem dL_law_273 : decode cL_law 273 = .ok (.iload_n 3, 1) := by decide +kernel
theorem dL_law_274 : decode cL_law 274 = .ok (.iconst 4, 1) := by decide +kernel
theorem dL_law_275 : decode cL_law 275 = .ok (.iadd, 1) := by decide +kernel
theorem dL_law_276 : decode cL_law 276 = .ok (.iaload, 1) := by decide +kernel
theorem dL_law_277 : decode cL_law 277 = .ok (.ifCond .eq 7, 3) := by decide +kernel
theorem dL_law_280 : decode cL_law 280 = .ok (.iconst 1, 1) := by decide +kernel
theorem dL_law_281 : decode cL_law 281 = .ok (.goto 4, 3) := by decide +kernel
theorem dL_law_284 : decode cL_law 284 = .ok (.iconst 0, 1) := by decide +kernel
theorem dL_law_285 : decode cL_law 285 = .ok (.invokevirtual 27, 3) := by decide +kernel
theorem dL_law_288 : decode cL_law 288 = .ok (.if_icmp .eq 803, 3) := by decide +kernel
theorem dL_law_291 : decode cL_law 291 = .ok (.iconst 0, 1) := by decide +kernel
theorem dL_law_292 : decode cL_law 292 = .ok (.ireturn, 1) := by decide +kernel
theorem dL_law_293 : decode cL_law 293 = .ok (.aload_n 1, 1) := by decide +kernel
theorem dL_law_294 : decode cL_law 294 = .ok (.aload_n 0, 1) := by decide +kernel
theorem dL_law_295 : decode cL_law 295 = .ok (.iload_n 3, 1) := by decide +kernel
theorem dL_law_296 : decode cL_law 296 = .ok (.iconst 1, 1) := by decide +kernel
theorem dL_law_297 : decode cL_law 297 = .ok (.iadd, 1) := by decide +kernel
theorem dL_law_298 : decode cL_law 298 = .ok (.iaload, 1) := by decide +kernel
theorem dL_law_299 : decode cL_law 299 = .ok (.aload_n 0, 1) := by decide +kernel
theorem dL_law_300 : decode cL_law 300 = .ok (.iload_n 3, 1) := by decide +kernel
theorem dL_law_301 : decode cL_law 301 = .ok (.iconst 2, 1) := by decide +kernel
theorem dL_law_302 : decode cL_law 302 = .ok (.iadd, 1) := by decide +kernel
theorem dL_law_303 : decode cL_law 303 = .ok (.iaload, 1) := by decide +kernel
theorem dL_law_304 : decode cL_law 304 = .ok (.invokevirtual 28, 3) := by decide +kernel
theorem dL_law_307 : decode cL_law 307 = .ok (.aload_n 2, 1) := by decide +kernel
theorem dL_law_308 : decode cL_law 308 = .ok (.aload_n 0, 1) := by decide +kernel
theorem dL_law_309 : decode cL_law 309 = .ok (.iload_n 3, 1) := by decide +kernel
theorem dL_law_310 : decode cL_law 310 = .ok (.iconst 1, 1) := by decide +kernel
theorem dL_law_311 : decode cL_law 311 = .ok (.iadd, 1) := by decide +kernel
theorem dL_law_312 : decode cL_law 312 = .ok (.iaload, 1) := by decide +kernel
theorem dL_law_313 : decode cL_law 313 = .ok (.aload_n 0, 1) := by decide +kernel
theorem dL_law_314 : decode cL_law 314 = .ok (.iload_n 3, 1) := by decide +kernel
theorem dL_law_315 : decode cL_law 315 = .ok (.iconst 2, 1) := by decide +kernel
theorem dL_law_316 : decode cL_law 316 = .ok (.iadd, 1) := by decide +kernel
theorem dL_law_317 : decode cL_law 317 = .ok (.iaload, 1) := by decide +kernel
theorem dL_law_318 : decode cL_law 318 = .ok (.invokevirtual 31, 3) := by decide +kernel
theorem dL_law_321 : decode cL_law 321 = .ok (.if_icmp .eq 770, 3) := by decide +kernel
theorem dL_law_324 : decode cL_law 324 = .ok (.iconst 0, 1) := by decide +kernel
theorem dL_law_325 : decode cL_law 325 = .ok (.ireturn, 1) := by decide +kernel
theorem dL_law_326 : decode cL_law 326 = .ok (.aload_n 1, 1) := by decide +kernel
theorem dL_law_327 : decode cL_law 327 = .ok (.aload_n 0, 1) := by decide +kernel
theorem dL_law_328 : decode cL_law 328 = .ok (.iload_n 3, 1) := by decide +kernel
theorem dL_law_329 : decode cL_law 329 = .ok (.iconst 1, 1) := by decide +kernel
theorem dL_law_330 : decode cL_law 330 = .ok (.iadd, 1) := by decide +kernel
theorem dL_law_331 : decode cL_law 331 = .ok (.iaload, 1) := by decide +kernel
theorem dL_law_332 : decode cL_law 332 = .ok (.invokevirtual 32, 3) := by decide +kernel
theorem dL_law_335 : decode cL_law 335 = .ok (.aload_n 2, 1) := by decide +kernel
theorem dL_law_336 : decode cL_law 336 = .ok (.aload_n 0, 1) := by decide +kernel
theorem dL_law_337 : decode cL_law 337 = .ok (.iload_n 3, 1) := by decide +kernel
theorem dL_law_338 : decode cL_law 338 = .ok (.iconst 1, 1) := by decide +kernel
theorem dL_law_339 : decode cL_law 339 = .ok (.iadd, 1) := by decide +kernel
theorem dL_law_340 : decode cL_law 340 = .ok (.iaload, 1) := by decide +kernel
theorem dL_law_341 : decode cL_law 341 = .ok (.invokevirtual 36, 3) := by decide +kernel
theorem dL_law_344 : decode cL_law 344 = .ok (.if_icmp .eq 747, 3) := by decide +kernel
theorem dL_law_347 : decode cL_law 347 = .ok (.iconst 0, 1) := by decide +kernel
theorem dL_law_348 : decode cL_law 348 = .ok (.ireturn, 1) := by decide +kernel
theorem dL_law_349 : decode cL_law 349 = .ok (.aload_n 1, 1) := by decide +kernel
theorem dL_law_350 : decode cL_law 350 = .ok (.aload_n 0, 1) := by decide +kernel
theorem dL_law_351 : decode cL_law 351 = .ok (.iload_n 3, 1) := by decide +kernel
theorem dL_law_352 : decode cL_law 352 = .ok (.iconst 1, 1) := by decide +kernel
theorem dL_law_353 : decode cL_law 353 = .ok (.iadd, 1) := by decide +kernel
theorem dL_law_354 : decode cL_law 354 = .ok (.iaload, 1) := by decide +kernel
theorem dL_law_355 : decode cL_law 355 = .ok (.aload_n 0, 1) := by decide +kernel
theorem dL_law_356 : decode cL_law 356 = .ok (.iload_n 3, 1) := by decide +kernel
theorem dL_law_357 : decode cL_law 357 = .ok (.iconst 2, 1) := by decide +kernel
theorem dL_law_358 : decode cL_law 358 = .ok (.iadd, 1) := by decide +kernel
theorem dL_law_359 : decode cL_law 359 = .ok (.iaload, 1) := by decide +kernel
theorem dL_law_360 : decode cL_law 360 = .ok (.aload_n 0, 1) := by decide +kernel
theorem dL_law_361 : decode cL_law 361 = .ok (.iload_n 3, 1) := by decide +kernel
theorem dL_law_362 : decode cL_law 362 = .ok (.iconst 3, 1) := by decide +kernel
theorem dL_law_363 : decode cL_law 363 = .ok (.iadd, 1) := by decide +kernel
theorem dL_law_364 : decode cL_law 364 = .ok (.iaload, 1) := by decide +kernel
theorem dL_law_365 : decode cL_law 365 = .ok (.aload_n 0, 1) := by decide +kernel
theorem dL_law_366 : decode cL_law 366 = .ok (.iload_n 3, 1) := by decide +kernel
theorem dL_law_367 : decode cL_law 367 = .ok (.iconst 4, 1) := by decide +kernel
theorem dL_law_368 : decode cL_law 368 = .ok (.iadd, 1) := by decide +kernel
theorem dL_law_369 : decode cL_law 369 = .ok (.iaload, 1) := by decide +kernel
theorem dL_law_370 : decode cL_law 370 = .ok (.aload_n 0, 1) := by decide +kernel
theorem dL_law_371 : decode cL_law 371 = .ok (.iload_n 3, 1) := by decide +kernel
theorem dL_law_372 : decode cL_law 372 = .ok (.iconst 5, 1) := by decide +kernel
theorem dL_law_373 : decode cL_law 373 = .ok (.iadd, 1) := by decide +kernel
theorem dL_law_374 : decode cL_law 374 = .ok (.iaload, 1) := by decide +kernel
theorem dL_law_375 : decode cL_law 375 = .ok (.invokevirtual 37, 3) := by decide +kernel
theorem dL_law_378 : decode cL_law 378 = .ok (.aload_n 2, 1) := by decide +kernel
theorem dL_law_379 : decode cL_law 379 = .ok (.aload_n 0, 1) := by decide +kernel
theorem dL_law_380 : decode cL_law 380 = .ok (.iload_n 3, 1) := by decide +kernel
theorem dL_law_381 : decode cL_law 381 = .ok (.iconst 1, 1) := by decide +kernel
theorem dL_law_382 : decode cL_law 382 = .ok (.iadd, 1) := by decide +kernel
theorem dL_law_383 : decode cL_law 383 = .ok (.iaload, 1) := by decide +kernel
theorem dL_law_384 : decode cL_law 384 = .ok (.aload_n 0, 1) := by decide +kernel
theorem dL_law_385 : decode cL_law 385 = .ok (.iload_n 3, 1) := by decide +kernel
theorem dL_law_386 : decode cL_law 386 = .ok (.iconst 2, 1) := by decide +kernel
theorem dL_law_387 : decode cL_law 387 = .ok (.iadd, 1) := by decide +kernel
theorem dL_law_388 : decode cL_law 388 = .ok (.iaload, 1) := by decide +kernel
theorem dL_law_389 : decode cL_law 389 = .ok (.aload_n 0, 1) := by decide +kernel
theorem dL_law_390 : decode cL_law 390 = .ok (.iload_n 3, 1) := by decide +kernel
theorem dL_law_391 : decode cL_law 391 = .ok (.iconst 3, 1) := by decide +kernel
theorem dL_law_392 : decode cL_law 392 = .ok (.iadd, 1) := by decide +kernel
theorem dL_law_393 : decode cL_law 393 = .ok (.iaload, 1) := by decide +kernel
theorem dL_law_394 : decode cL_law 394 = .ok (.aload_n 0, 1) := by decide +kernel
theorem dL_law_395 : decode cL_law 395 = .ok (.iload_n 3, 1) := by decide +kernel
theorem dL_law_396 : decode cL_law 396 = .ok (.iconst 4, 1) := by decide +kernel
theorem dL_law_397 : decode cL_law 397 = .ok (.iadd, 1) := by decide +kernel
theorem dL_law_398 : decode cL_law 398 = .ok (.iaload, 1) := by decide +kernel
theorem dL_law_399 : decode cL_law 399 = .ok (.aload_n 0, 1) := by decide +kernel
theorem dL_law_400 : decode cL_law 400 = .ok (.iload_n 3, 1) := by decide +kernel
theorem dL_law_401 : decode cL_law 401 = .ok (.iconst 5, 1) := by decide +kernel
theorem dL_law_402 : decode cL_law 402 = .ok (.iadd, 1) := by decide +kernel
theorem dL_law_403 : decode cL_law 403 = .ok (.iaload, 1) := by decide +kernel
theorem dL_law_404 : decode cL_law 404 = .ok (.invokevirtual 41, 3) := by decide +kernel
theorem dL_law_407 : decode cL_law 407 = .ok (.if_icmp .eq 684, 3) := by decide +kernel
theorem dL_law_410 : decode cL_law 410 = .ok (.iconst 0, 1) := by decide +kernel
theorem dL_law_411 : decode cL_law 411 = .ok (.ireturn, 1) := by decide +kernel
theorem dL_law_412 : decode cL_law 412 = .ok (.aload_n 1, 1) := by decide +kernel
theorem dL_law_413 : decode cL_law 413 = .ok (.aload_n 0, 1) := by decide +kernel
theorem dL_law_414 : decode cL_law 414 = .ok (.iload_n 3, 1) := by decide +kernel
theorem dL_law_415 : decode cL_law 415 = .ok (.iconst 1, 1) := by decide +kernel
theorem dL_law_416 : decode cL_law 416 = .ok (.iadd, 1) := by decide +kernel
theorem dL_law_417 : decode cL_law 417 = .ok (.iaload, 1) := by decide +kernel
theorem dL_law_418 : decode cL_law 418 = .ok (.invokevirtual 42, 3) := by decide +kernel
theorem dL_law_421 : decode cL_law 421 = .ok (.aload_n 2, 1) := by decide +kernel
theorem dL_law_422 : decode cL_law 422 = .ok (.aload_n 0, 1) := by decide +kernel
theorem dL_law_423 : decode cL_law 423 = .ok (.iload_n 3, 1) := by decide +kernel
theorem dL_law_424 : decode cL_law 424 = .ok (.iconst 1, 1) := by decide +kernel
theorem dL_law_425 : decode cL_law 425 = .ok (.iadd, 1) := by decide +kernel
theorem dL_law_426 : decode cL_law 426 = .ok (.iaload, 1) := by decide +kernel
theorem dL_law_427 : decode cL_law 427 = .ok (.invokevirtual 45, 3) := by decide +kernel
theorem dL_law_430 : decode cL_law 430 = .ok (.if_icmp .eq 661, 3) := by decide +kernel
theorem dL_law_433 : decode cL_law 433 = .ok (.iconst 0, 1) := by decide +kernel
theorem dL_law_434 : decode cL_law 434 = .ok (.ireturn, 1) := by decide +kernel
theorem dL_law_435 : decode cL_law 435 = .ok (.aload_n 1, 1) := by decide +kernel
theorem dL_law_436 : decode cL_law 436 = .ok (.aload_n 0, 1) := by decide +kernel
theorem dL_law_437 : decode cL_law 437 = .ok (.iload_n 3, 1) := by decide +kernel
theorem dL_law_438 : decode cL_law 438 = .ok (.iconst 1, 1) := by decide +kernel
theorem dL_law_439 : decode cL_law 439 = .ok (.iadd, 1) := by decide +kernel
theorem dL_law_440 : decode cL_law 440 = .ok (.iaload, 1) := by decide +kernel
theorem dL_law_441 : decode cL_law 441 = .ok (.invokevirtual 46, 3) := by decide +kernel
theorem dL_law_444 : decode cL_law 444 = .ok (.aload_n 2, 1) := by decide +kernel
theorem dL_law_445 : decode cL_law 445 = .ok (.aload_n 0, 1) := by decide +kernel
theorem dL_law_446 : decode cL_law 446 = .ok (.iload_n 3, 1) := by decide +kernel
theorem dL_law_447 : decode cL_law 447 = .ok (.iconst 1, 1) := by decide +kernel
theorem dL_law_448 : decode cL_law 448 = .ok (.iadd, 1) := by decide +kernel
theorem dL_law_449 : decode cL_law 449 = .ok (.iaload, 1) := by decide +kernel
theorem dL_law_450 : decode cL_law 450 = .ok (.invokevirtual 50, 3) := by decide +kernel
theorem dL_law_453 : decode cL_law 453 = .ok (.if_icmp .eq 638, 3) := by decide +kernel
theorem dL_law_456 : decode cL_law 456 = .ok (.iconst 0, 1) := by decide +kernel
theorem dL_law_457 : decode cL_law 457 = .ok (.ireturn, 1) := by decide +kernel
theorem dL_law_458 : decode cL_law 458 = .ok (.aload_n 1, 1) := by decide +kernel
theorem dL_law_459 : decode cL_law 459 = .ok (.invokevirtual 51, 3) := by decide +kernel
theorem dL_law_462 : decode cL_law 462 = .ok (.aload_n 2, 1) := by decide +kernel
theorem dL_law_463 : decode cL_law 463 = .ok (.invokevirtual 55, 3) := by decide +kernel
theorem dL_law_466 : decode cL_law 466 = .ok (.if_icmp .eq 625, 3) := by decide +kernel
theorem dL_law_469 : decode cL_law 469 = .ok (.iconst 0, 1) := by decide +kernel
theorem dL_law_470 : decode cL_law 470 = .ok (.ireturn, 1) := by decide +kernel
theorem dL_law_471 : decode cL_law 471 = .ok (.aload_n 1, 1) := by decide +kernel
theorem dL_law_472 : decode cL_law 472 = .ok (.aload_n 0, 1) := by decide +kernel
theorem dL_law_473 : decode cL_law 473 = .ok (.iload_n 3, 1) := by decide +kernel
theorem dL_law_474 : decode cL_law 474 = .ok (.iconst 1, 1) := by decide +kernel
theorem dL_law_475 : decode cL_law 475 = .ok (.iadd, 1) := by decide +kernel
theorem dL_law_476 : decode cL_law 476 = .ok (.iaload, 1) := by decide +kernel
theorem dL_law_477 : decode cL_law 477 = .ok (.invokevirtual 56, 3) := by decide +kernel
theorem dL_law_480 : decode cL_law 480 = .ok (.aload_n 2, 1) := by decide +kernel
theorem dL_law_481 : decode cL_law 481 = .ok (.aload_n 0, 1) := by decide +kernel
theorem dL_law_482 : decode cL_law 482 = .ok (.iload_n 3, 1) := by decide +kernel
theorem dL_law_483 : decode cL_law 483 = .ok (.iconst 1, 1) := by decide +kernel
theorem dL_law_484 : decode cL_law 484 = .ok (.iadd, 1) := by decide +kernel
theorem dL_law_485 : decode cL_law 485 = .ok (.iaload, 1) := by decide +kernel
theorem dL_law_486 : decode cL_law 486 = .ok (.invokevirtual 59, 3) := by decide +kernel
theorem dL_law_489 : decode cL_law 489 = .ok (.if_icmp .eq 602, 3) := by decide +kernel
theorem dL_law_492 : decode cL_law 492 = .ok (.iconst 0, 1) := by decide +kernel
theorem dL_law_493 : decode cL_law 493 = .ok (.ireturn, 1) := by decide +kernel
theorem dL_law_494 : decode cL_law 494 = .ok (.aload_n 1, 1) := by decide +kernel
theorem dL_law_495 : decode cL_law 495 = .ok (.aload_n 0, 1) := by decide +kernel
theorem dL_law_496 : decode cL_law 496 = .ok (.iload_n 3, 1) := by decide +kernel
theorem dL_law_497 : decode cL_law 497 = .ok (.iconst 1, 1) := by decide +kernel
theorem dL_law_498 : decode cL_law 498 = .ok (.iadd, 1) := by decide +kernel
theorem dL_law_499 : decode cL_law 499 = .ok (.iaload, 1) := by decide +kernel
theorem dL_law_500 : decode cL_law 500 = .ok (.invokevirtual 60, 3) := by decide +kernel
theorem dL_law_503 : decode cL_law 503 = .ok (.aload_n 2, 1) := by decide +kernel
theorem dL_law_504 : decode cL_law 504 = .ok (.aload_n 0, 1) := by decide +kernel
theorem dL_law_505 : decode cL_law 505 = .ok (.iload_n 3, 1) := by decide +kernel
theorem dL_law_506 : decode cL_law 506 = .ok (.iconst 1, 1) := by decide +kernel
theorem dL_law_507 : decode cL_law 507 = .ok (.iadd, 1) := by decide +kernel
theorem dL_law_508 : decode cL_law 508 = .ok (.iaload, 1) := by decide +kernel
theorem dL_law_509 : decode cL_law 509 = .ok (.invokevirtual 63, 3) := by decide +kernel
theorem dL_law_512 : decode cL_law 512 = .ok (.if_icmp .eq 579, 3) := by decide +kernel
theorem dL_law_515 : decode cL_law 515 = .ok (.iconst 0, 1) := by decide +kernel
theorem dL_law_516 : decode cL_law 516 = .ok (.ireturn, 1) := by decide +kernel
theorem dL_law_517 : decode cL_law 517 = .ok (.aload_n 1, 1) := by decide +kernel
theorem dL_law_518 : decode cL_law 518 = .ok (.aload_n 0, 1) := by decide +kernel
theorem dL_law_519 : decode cL_law 519 = .ok (.iload_n 3, 1) := by decide +kernel
theorem dL_law_520 : decode cL_law 520 = .ok (.iconst 1, 1) := by decide +kernel
theorem dL_law_521 : decode cL_law 521 = .ok (.iadd, 1) := by decide +kernel
theorem dL_law_522 : decode cL_law 522 = .ok (.iaload, 1) := by decide +kernel
theorem dL_law_523 : decode cL_law 523 = .ok (.aload_n 0, 1) := by decide +kernel
theorem dL_law_524 : decode cL_law 524 = .ok (.iload_n 3, 1) := by decide +kernel
theorem dL_law_525 : decode cL_law 525 = .ok (.iconst 2, 1) := by decide +kernel
theorem dL_law_526 : decode cL_law 526 = .ok (.iadd, 1) := by decide +kernel
theorem dL_law_527 : decode cL_law 527 = .ok (.iaload, 1) := by decide +kernel
theorem dL_law_528 : decode cL_law 528 = .ok (.invokevirtual 64, 3) := by decide +kernel
theorem dL_law_531 : decode cL_law 531 = .ok (.aload_n 2, 1) := by decide +kernel
theorem dL_law_532 : decode cL_law 532 = .ok (.aload_n 0, 1) := by decide +kernel
theorem dL_law_533 : decode cL_law 533 = .ok (.iload_n 3, 1) := by decide +kernel
theorem dL_law_534 : decode cL_law 534 = .ok (.iconst 1, 1) := by decide +kernel
theorem dL_law_535 : decode cL_law 535 = .ok (.iadd, 1) := by decide +kernel
theorem dL_law_536 : decode cL_law 536 = .ok (.iaload, 1) := by decide +kernel
theorem dL_law_537 : decode cL_law 537 = .ok (.aload_n 0, 1) := by decide +kernel
theorem dL_law_538 : decode cL_law 538 = .ok (.iload_n 3, 1) := by decide +kernel
theorem dL_law_539 : decode cL_law 539 = .ok (.iconst 2, 1) := by decide +kernel
theorem dL_law_540 : decode cL_law 540 = .ok (.iadd, 1) := by decide +kernel
theorem dL_law_541 : decode cL_law 541 = .ok (.iaload, 1) := by decide +kernel
theorem dL_law_542 : decode cL_law 542 = .ok (.invokevirtual 68, 3) := by decide +kernel
theorem dL_law_545 : decode cL_law 545 = .ok (.if_icmp .eq 546, 3) := by decide +kernel
theorem dL_law_548 : decode cL_law 548 = .ok (.iconst 0, 1) := by decide +kernel
theorem dL_law_549 : decode cL_law 549 = .ok (.ireturn, 1) := by decide +kernel
theorem dL_law_550 : decode cL_law 550 = .ok (.aload_n 1, 1) := by decide +kernel
theorem dL_law_551 : decode cL_law 551 = .ok (.aload_n 0, 1) := by decide +kernel
theorem dL_law_552 : decode cL_law 552 = .ok (.iload_n 3, 1) := by decide +kernel
theorem dL_law_553 : decode cL_law 553 = .ok (.iconst 1, 1) := by decide +kernel
theorem dL_law_554 : decode cL_law 554 = .ok (.iadd, 1) := by decide +kernel
theorem dL_law_555 : decode cL_law 555 = .ok (.iaload, 1) := by decide +kernel
theorem dL_law_556 : decode cL_law 556 = .ok (.aload_n 0, 1) := by decide +kernel
theorem dL_law_557 : decode cL_law 557 = .ok (.iload_n 3, 1) := by decide +kernel
theorem dL_law_558 : decode cL_law 558 = .ok (.iconst 2, 1) := by decide +kernel
theorem dL_law_559 : decode cL_law 559 = .ok (.iadd, 1) := by decide +kernel
theorem dL_law_560 : decode cL_law 560 = .ok (.iaload, 1) := by decide +kernel
theorem dL_law_561 : decode cL_law 561 = .ok (.invokevirtual 69, 3) := by decide +kernel
theorem dL_law_564 : decode cL_law 564 = .ok (.aload_n 2, 1) := by decide +kernel
theorem dL_law_565 : decode cL_law 565 = .ok (.aload_n 0, 1) := by decide +kernel
theorem dL_law_566 : decode cL_law 566 = .ok (.iload_n 3, 1) := by decide +kernel
theorem dL_law_567 : decode cL_law 567 = .ok (.iconst 1, 1) := by decide +kernel
theorem dL_law_568 : decode cL_law 568 = .ok (.iadd, 1) := by decide +kernel
theorem dL_law_569 : decode cL_law 569 = .ok (.iaload, 1) := by decide +kernel
theorem dL_law_570 : decode cL_law 570 = .ok (.aload_n 0, 1) := by decide +kernel
theorem dL_law_571 : decode cL_law 571 = .ok (.iload_n 3, 1) := by decide +kernel
theorem dL_law_572 : decode cL_law 572 = .ok (.iconst 2, 1) := by decide +kernel
theorem dL_law_573 : decode cL_law 573 = .ok (.iadd, 1) := by decide +kernel
theorem dL_law_574 : decode cL_law 574 = .ok (.iaload, 1) := by decide +kernel
theorem dL_law_575 : decode cL_law 575 = .ok (.invokevirtual 72, 3) := by decide +kernel
theorem dL_law_578 : decode cL_law 578 = .ok (.if_icmp .eq 513, 3) := by decide +kernel
theorem dL_law_581 : decode cL_law 581 = .ok (.iconst 0, 1) := by decide +kernel
theorem dL_law_582 : decode cL_law 582 = .ok (.ireturn, 1) := by decide +kernel
theorem dL_law_583 : decode cL_law 583 = .ok (.aload_n 1, 1) := by decide +kernel
theorem dL_law_584 : decode cL_law 584 = .ok (.aload_n 0, 1) := by decide +kernel
theorem dL_law_585 : decode cL_law 585 = .ok (.iload_n 3, 1) := by decide +kernel
theorem dL_law_586 : decode cL_law 586 = .ok (.iconst 1, 1) := by decide +kernel
theorem dL_law_587 : decode cL_law 587 = .ok (.iadd, 1) := by decide +kernel
theorem dL_law_588 : decode cL_law 588 = .ok (.iaload, 1) := by decide +kernel
theorem dL_law_589 : decode cL_law 589 = .ok (.invokevirtual 73, 3) := by decide +kernel
theorem dL_law_592 : decode cL_law 592 = .ok (.aload_n 2, 1) := by decide +kernel
theorem dL_law_593 : decode cL_law 593 = .ok (.aload_n 0, 1) := by decide +kernel
theorem dL_law_594 : decode cL_law 594 = .ok (.iload_n 3, 1) := by decide +kernel
theorem dL_law_595 : decode cL_law 595 = .ok (.iconst 1, 1) := by decide +kernel
theorem dL_law_596 : decode cL_law 596 = .ok (.iadd, 1) := by decide +kernel
theorem dL_law_597 : decode cL_law 597 = .ok (.iaload, 1) := by decide +kernel
theorem dL_law_598 : decode cL_law 598 = .ok (.invokevirtual 76, 3) := by decide +kernel
theorem dL_law_601 : decode cL_law 601 = .ok (.if_icmp .eq 490, 3) := by decide +kernel
theorem dL_law_604 : decode cL_law 604 = .ok (.iconst 0, 1) := by decide +kernel
theorem dL_law_605 : decode cL_law 605 = .ok (.ireturn, 1) := by decide +kernel
theorem dL_law_606 : decode cL_law 606 = .ok (.aload_n 1, 1) := by decide +kernel
theorem dL_law_607 : decode cL_law 607 = .ok (.aload_n 0, 1) := by decide +kernel
theorem dL_law_608 : decode cL_law 608 = .ok (.iload_n 3, 1) := by decide +kernel
theorem dL_law_609 : decode cL_law 609 = .ok (.iconst 1, 1) := by decide +kernel
theorem dL_law_610 : decode cL_law 610 = .ok (.iadd, 1) := by decide +kernel
theorem dL_law_611 : decode cL_law 611 = .ok (.iaload, 1) := by decide +kernel
theorem dL_law_612 : decode cL_law 612 = .ok (.aload_n 0, 1) := by decide +kernel
theorem dL_law_613 : decode cL_law 613 = .ok (.iload_n 3, 1) := by decide +kernel
theorem dL_law_614 : decode cL_law 614 = .ok (.iconst 2, 1) := by decide +kernel
theorem dL_law_615 : decode cL_law 615 = .ok (.iadd, 1) := by decide +kernel
theorem dL_law_616 : decode cL_law 616 = .ok (.iaload, 1) := by decide +kernel
theorem dL_law_617 : decode cL_law 617 = .ok (.ifCond .eq 7, 3) := by decide +kernel
theorem dL_law_620 : decode cL_law 620 = .ok (.iconst 1, 1) := by decide +kernel
theorem dL_law_621 : decode cL_law 621 = .ok (.goto 4, 3) := by decide +kernel
theorem dL_law_624 : decode cL_law 624 = .ok (.iconst 0, 1) := by decide +kernel
theorem dL_law_625 : decode cL_law 625 = .ok (.invokevirtual 77, 3) := by decide +kernel
theorem dL_law_628 : decode cL_law 628 = .ok (.aload_n 2, 1) := by decide +kernel
theorem dL_law_629 : decode cL_law 629 = .ok (.aload_n 0, 1) := by decide +kernel
theorem dL_law_630 : decode cL_law 630 = .ok (.iload_n 3, 1) := by decide +kernel
theorem dL_law_631 : decode cL_law 631 = .ok (.iconst 1, 1) := by decide +kernel
theorem dL_law_632 : decode cL_law 632 = .ok (.iadd, 1) := by decide +kernel
theorem dL_law_633 : decode cL_law 633 = .ok (.iaload, 1) := by decide +kernel
theorem dL_law_634 : decode cL_law 634 = .ok (.aload_n 0, 1) := by decide +kernel
theorem dL_law_635 : decode cL_law 635 = .ok (.iload_n 3, 1) := by decide +kernel
theorem dL_law_636 : decode cL_law 636 = .ok (.iconst 2, 1) := by decide +kernel
theorem dL_law_637 : decode cL_law 637 = .ok (.iadd, 1) := by decide +kernel
theorem dL_law_638 : decode cL_law 638 = .ok (.iaload, 1) := by decide +kernel
theorem dL_law_639 : decode cL_law 639 = .ok (.ifCond .eq 7, 3) := by decide +kernel
theorem dL_law_642 : decode cL_law 642 = .ok (.iconst 1, 1) := by decide +kernel
theorem dL_law_643 : decode cL_law 643 = .ok (.goto 4, 3) := by decide +kernel
theorem dL_law_646 : decode cL_law 646 = .ok (.iconst 0, 1) := by decide +kernel
theorem dL_law_647 : decode cL_law 647 = .ok (.invokevirtual 81, 3) := by decide +kernel
theorem dL_law_650 : decode cL_law 650 = .ok (.if_icmp .eq 441, 3) := by decide +kernel
theorem dL_law_653 : decode cL_law 653 = .ok (.iconst 0, 1) := by decide +kernel
theorem dL_law_654 : decode cL_law 654 = .ok (.ireturn, 1) := by decide +kernel
theorem dL_law_655 : decode cL_law 655 = .ok (.aload_n 1, 1) := by decide +kernel
theorem dL_law_656 : decode cL_law 656 = .ok (.aload_n 0, 1) := by decide +kernel
theorem dL_law_657 : decode cL_law 657 = .ok (.iload_n 3, 1) := by decide +kernel
theorem dL_law_658 : decode cL_law 658 = .ok (.iconst 1, 1) := by decide +kernel
theorem dL_law_659 : decode cL_law 659 = .ok (.iadd, 1) := by decide +kernel
theorem dL_law_660 : decode cL_law 660 = .ok (.iaload, 1) := by decide +kernel
theorem dL_law_661 : decode cL_law 661 = .ok (.aload_n 0, 1) := by decide +kernel
theorem dL_law_662 : decode cL_law 662 = .ok (.iload_n 3, 1) := by decide +kernel
theorem dL_law_663 : decode cL_law 663 = .ok (.iconst 2, 1) := by decide +kernel
theorem dL_law_664 : decode cL_law 664 = .ok (.iadd, 1) := by decide +kernel
theorem dL_law_665 : decode cL_law 665 = .ok (.iaload, 1) := by decide +kernel
theorem dL_law_666 : decode cL_law 666 = .ok (.aload_n 0, 1) := by decide +kernel
theorem dL_law_667 : decode cL_law 667 = .ok (.iload_n 3, 1) := by decide +kernel
theorem dL_law_668 : decode cL_law 668 = .ok (.iconst 3, 1) := by decide +kernel
theorem dL_law_669 : decode cL_law 669 = .ok (.iadd, 1) := by decide +kernel
theorem dL_law_670 : decode cL_law 670 = .ok (.iaload, 1) := by decide +kernel
theorem dL_law_671 : decode cL_law 671 = .ok (.aload_n 0, 1) := by decide +kernel
theorem dL_law_672 : decode cL_law 672 = .ok (.iload_n 3, 1) := by decide +kernel
theorem dL_law_673 : decode cL_law 673 = .ok (.iconst 4, 1) := by decide +kernel
theorem dL_law_674 : decode cL_law 674 = .ok (.iadd, 1) := by decide +kernel
theorem dL_law_675 : decode cL_law 675 = .ok (.iaload, 1) := by decide +kernel
theorem dL_law_676 : decode cL_law 676 = .ok (.invokevirtual 82, 3) := by decide +kernel
theorem dL_law_679 : decode cL_law 679 = .ok (.aload_n 2, 1) := by decide +kernel
theorem dL_law_680 : decode cL_law 680 = .ok (.aload_n 0, 1) := by decide +kernel
theorem dL_law_681 : decode cL_law 681 = .ok (.iload_n 3, 1) := by decide +kernel
theorem dL_law_682 : decode cL_law 682 = .ok (.iconst 1, 1) := by decide +kernel
theorem dL_law_683 : decode cL_law 683 = .ok (.iadd, 1) := by decide +kernel
theorem dL_law_684 : decode cL_law 684 = .ok (.iaload, 1) := by decide +kernel
theorem dL_law_685 : decode cL_law 685 = .ok (.aload_n 0, 1) := by decide +kernel
theorem dL_law_686 : decode cL_law 686 = .ok (.iload_n 3, 1) := by decide +kernel
theorem dL_law_687 : decode cL_law 687 = .ok (.iconst 2, 1) := by decide +kernel
theorem dL_law_688 : decode cL_law 688 = .ok (.iadd, 1) := by decide +kernel
theorem dL_law_689 : decode cL_law 689 = .ok (.iaload, 1) := by decide +kernel
theorem dL_law_690 : decode cL_law 690 = .ok (.aload_n 0, 1) := by decide +kernel
theorem dL_law_691 : decode cL_law 691 = .ok (.iload_n 3, 1) := by decide +kernel
theorem dL_law_692 : decode cL_law 692 = .ok (.iconst 3, 1) := by decide +kernel
theorem dL_law_693 : decode cL_law 693 = .ok (.iadd, 1) := by decide +kernel
theorem dL_law_694 : decode cL_law 694 = .ok (.iaload, 1) := by decide +kernel
theorem dL_law_695 : decode cL_law 695 = .ok (.aload_n 0, 1) := by decide +kernel
theorem dL_law_696 : decode cL_law 696 = .ok (.iload_n 3, 1) := by decide +kernel
theorem dL_law_697 : decode cL_law 697 = .ok (.iconst 4, 1) := by decide +kernel
theorem dL_law_698 : decode cL_law 698 = .ok (.iadd, 1) := by decide +kernel
theorem dL_law_699 : decode cL_law 699 = .ok (.iaload, 1) := by decide +kernel
theorem dL_law_700 : decode cL_law 700 = .ok (.invokevirtual 86, 3) := by decide +kernel
theorem dL_law_703 : decode cL_law 703 = .ok (.if_icmp .eq 388, 3) := by decide +kernel
theorem dL_law_706 : decode cL_law 706 = .ok (.iconst 0, 1) := by decide +kernel
theorem dL_law_707 : decode cL_law 707 = .ok (.ireturn, 1) := by decide +kernel
theorem dL_law_708 : decode cL_law 708 = .ok (.aload_n 1, 1) := by decide +kernel
theorem dL_law_709 : decode cL_law 709 = .ok (.aload_n 0, 1) := by decide +kernel
theorem dL_law_710 : decode cL_law 710 = .ok (.iload_n 3, 1) := by decide +kernel
theorem dL_law_711 : decode cL_law 711 = .ok (.iconst 1, 1) := by decide +kernel
theorem dL_law_712 : decode cL_law 712 = .ok (.iadd, 1) := by decide +kernel
theorem dL_law_713 : decode cL_law 713 = .ok (.iaload, 1) := by decide +kernel
theorem dL_law_714 : decode cL_law 714 = .ok (.aload_n 0, 1) := by decide +kernel
theorem dL_law_715 : decode cL_law 715 = .ok (.iload_n 3, 1) := by decide +kernel
theorem dL_law_716 : decode cL_law 716 = .ok (.iconst 2, 1) := by decide +kernel
theorem dL_law_717 : decode cL_law 717 = .ok (.iadd, 1) := by decide +kernel
theorem dL_law_718 : decode cL_law 718 = .ok (.iaload, 1) := by decide +kernel
theorem dL_law_719 : decode cL_law 719 = .ok (.invokevirtual 87, 3) := by decide +kernel
theorem dL_law_722 : decode cL_law 722 = .ok (.aload_n 2, 1) := by decide +kernel
theorem dL_law_723 : decode cL_law 723 = .ok (.aload_n 0, 1) := by decide +kernel
theorem dL_law_724 : decode cL_law 724 = .ok (.iload_n 3, 1) := by decide +kernel
theorem dL_law_725 : decode cL_law 725 = .ok (.iconst 1, 1) := by decide +kernel
theorem dL_law_726 : decode cL_law 726 = .ok (.iadd, 1) := by decide +kernel
theorem dL_law_727 : decode cL_law 727 = .ok (.iaload, 1) := by decide +kernel
theorem dL_law_728 : decode cL_law 728 = .ok (.aload_n 0, 1) := by decide +kernel
theorem dL_law_729 : decode cL_law 729 = .ok (.iload_n 3, 1) := by decide +kernel
theorem dL_law_730 : decode cL_law 730 = .ok (.iconst 2, 1) := by decide +kernel
theorem dL_law_731 : decode cL_law 731 = .ok (.iadd, 1) := by decide +kernel
theorem dL_law_732 : decode cL_law 732 = .ok (.iaload, 1) := by decide +kernel
theorem dL_law_733 : decode cL_law 733 = .ok (.invokevirtual 90, 3) := by decide +kernel
theorem dL_law_736 : decode cL_law 736 = .ok (.if_icmp .eq 355, 3) := by decide +kernel
theorem dL_law_739 : decode cL_law 739 = .ok (.iconst 0, 1) := by decide +kernel
theorem dL_law_740 : decode cL_law 740 = .ok (.ireturn, 1) := by decide +kernel
theorem dL_law_741 : decode cL_law 741 = .ok (.aload_n 1, 1) := by decide +kernel
theorem dL_law_742 : decode cL_law 742 = .ok (.aload_n 0, 1) := by decide +kernel
theorem dL_law_743 : decode cL_law 743 = .ok (.iload_n 3, 1) := by decide +kernel
theorem dL_law_744 : decode cL_law 744 = .ok (.iconst 1, 1) := by decide +kernel
theorem dL_law_745 : decode cL_law 745 = .ok (.iadd, 1) := by decide +kernel
theorem dL_law_746 : decode cL_law 746 = .ok (.iaload, 1) := by decide +kernel
theorem dL_law_747 : decode cL_law 747 = .ok (.aload_n 0, 1) := by decide +kernel
theorem dL_law_748 : decode cL_law 748 = .ok (.iload_n 3, 1) := by decide +kernel
theorem dL_law_749 : decode cL_law 749 = .ok (.iconst 2, 1) := by decide +kernel
theorem dL_law_750 : decode cL_law 750 = .ok (.iadd, 1) := by decide +kernel
theorem dL_law_751 : decode cL_law 751 = .ok (.iaload, 1) := by decide +kernel
theorem dL_law_752 : decode cL_law 752 = .ok (.aload_n 0, 1) := by decide +kernel
theorem dL_law_753 : decode cL_law 753 = .ok (.iload_n 3, 1) := by decide +kernel
theorem dL_law_754 : decode cL_law 754 = .ok (.iconst 3, 1) := by decide +kernel
theorem dL_law_755 : decode cL_law 755 = .ok (.iadd, 1) := by decide +kernel
theorem dL_law_756 : decode cL_law 756 = .ok (.iaload, 1) := by decide +kernel
theorem dL_law_757 : decode cL_law 757 = .ok (.aload_n 0, 1) := by decide +kernel
theorem dL_law_758 : decode cL_law 758 = .ok (.iload_n 3, 1) := by decide +kernel
theorem dL_law_759 : decode cL_law 759 = .ok (.iconst 4, 1) := by decide +kernel
theorem dL_law_760 : decode cL_law 760 = .ok (.iadd, 1) := by decide +kernel
theorem dL_law_761 : decode cL_law 761 = .ok (.iaload, 1) := by decide +kernel
theorem dL_law_762 : decode cL_law 762 = .ok (.aload_n 0, 1) := by decide +kernel
theorem dL_law_763 : decode cL_law 763 = .ok (.iload_n 3, 1) := by decide +kernel
theorem dL_law_764 : decode cL_law 764 = .ok (.iconst 5, 1) := by decide +kernel
theorem dL_law_765 : decode cL_law 765 = .ok (.iadd, 1) := by decide +kernel
theorem dL_law_766 : decode cL_law 766 = .ok (.iaload, 1) := by decide +kernel
theorem dL_law_767 : decode cL_law 767 = .ok (.invokevirtual 91, 3) := by decide +kernel
theorem dL_law_770 : decode cL_law 770 = .ok (.aload_n 2, 1) := by decide +kernel
theorem dL_law_771 : decode cL_law 771 = .ok (.aload_n 0, 1) := by decide +kernel
theorem dL_law_772 : decode cL_law 772 = .ok (.iload_n 3, 1) := by decide +kernel
theorem dL_law_773 : decode cL_law 773 = .ok (.iconst 1, 1) := by decide +kernel
theorem dL_law_774 : decode cL_law 774 = .ok (.iadd, 1) := by decide +kernel
theorem dL_law_775 : decode cL_law 775 = .ok (.iaload, 1) := by decide +kernel
theorem dL_law_776 : decode cL_law 776 = .ok (.aload_n 0, 1) := by decide +kernel
theorem dL_law_777 : decode cL_law 777 = .ok (.iload_n 3, 1) := by decide +kernel
theorem dL_law_778 : decode cL_law 778 = .ok (.iconst 2, 1) := by decide +kernel
theorem dL_law_779 : decode cL_law 779 = .ok (.iadd, 1) := by decide +kernel
theorem dL_law_780 : decode cL_law 780 = .ok (.iaload, 1) := by decide +kernel
theorem dL_law_781 : decode cL_law 781 = .ok (.aload_n 0, 1) := by decide +kernel
theorem dL_law_782 : decode cL_law 782 = .ok (.iload_n 3, 1) := by decide +kernel
theorem dL_law_783 : decode cL_law 783 = .ok (.iconst 3, 1) := by decide +kernel
theorem dL_law_784 : decode cL_law 784 = .ok (.iadd, 1) := by decide +kernel
theorem dL_law_785 : decode cL_law 785 = .ok (.iaload, 1) := by decide +kernel
theorem dL_law_786 : decode cL_law 786 = .ok (.aload_n 0, 1) := by decide +kernel
theorem dL_law_787 : decode cL_law 787 = .ok (.iload_n 3, 1) := by decide +kernel
theorem dL_law_788 : decode cL_law 788 = .ok (.iconst 4, 1) := by decide +kernel
theorem dL_law_789 : decode cL_law 789 = .ok (.iadd, 1) := by decide +kernel
theorem dL_law_790 : decode cL_law 790 = .ok (.iaload, 1) := by decide +kernel
theorem dL_law_791 : decode cL_law 791 = .ok (.aload_n 0, 1) := by decide +kernel
theorem dL_law_792 : decode cL_law 792 = .ok (.iload_n 3, 1) := by decide +kernel
theorem dL_law_793 : decode cL_law 793 = .ok (.iconst 5, 1) := by decide +kernel
theorem dL_law_794 : decode cL_law 794 = .ok (.iadd, 1) := by decide +kernel
theorem dL_law_795 : decode cL_law 795 = .ok (.iaload, 1) := by decide +kernel
theorem dL_law_796 : decode cL_law 796 = .ok (.invokevirtual 94, 3) := by decide +kernel
theorem dL_law_799 : decode cL_law 799 = .ok (.if_icmp .eq 292, 3) := by decide +kernel
theorem dL_law_802 : decode cL_law 802 = .ok (.iconst 0, 1) := by decide +kernel
theorem dL_law_803 : decode cL_law 803 = .ok (.ireturn, 1) := by decide +kernel
theorem dL_law_804 : decode cL_law 804 = .ok (.aload_n 1, 1) := by decide +kernel
theorem dL_law_805 : decode cL_law 805 = .ok (.aload_n 0, 1) := by decide +kernel
theorem dL_law_806 : decode cL_law 806 = .ok (.iload_n 3, 1) := by decide +kernel
theorem dL_law_807 : decode cL_law 807 = .ok (.iconst 1, 1) := by decide +kernel
theorem dL_law_808 : decode cL_law 808 = .ok (.iadd, 1) := by decide +kernel
theorem dL_law_809 : decode cL_law 809 = .ok (.iaload, 1) := by decide +kernel
theorem dL_law_810 : decode cL_law 810 = .ok (.aload_n 0, 1) := by decide +kernel
theorem dL_law_811 : decode cL_law 811 = .ok (.iload_n 3, 1) := by decide +kernel
theorem dL_law_812 : decode cL_law 812 = .ok (.iconst 2, 1) := by decide +kernel
theorem dL_law_813 : decode cL_law 813 = .ok (.iadd, 1) := by decide +kernel
theorem dL_law_814 : decode cL_law 814 = .ok (.iaload, 1) := by decide +kernel
theorem dL_law_815 : decode cL_law 815 = .ok (.aload_n 0, 1) := by decide +kernel
theorem dL_law_816 : decode cL_law 816 = .ok (.iload_n 3, 1) := by decide +kernel
theorem dL_law_817 : decode cL_law 817 = .ok (.iconst 3, 1) := by decide +kernel
theorem dL_law_818 : decode cL_law 818 = .ok (.iadd, 1) := by decide +kernel
theorem dL_law_819 : decode cL_law 819 = .ok (.iaload, 1) := by decide +kernel
theorem dL_law_820 : decode cL_law 820 = .ok (.invokevirtual 95, 3) := by decide +kernel
theorem dL_law_823 : decode cL_law 823 = .ok (.aload_n 2, 1) := by decide +kernel
theorem dL_law_824 : decode cL_law 824 = .ok (.aload_n 0, 1) := by decide +kernel
theorem dL_law_825 : decode cL_law 825 = .ok (.iload_n 3, 1) := by decide +kernel
theorem dL_law_826 : decode cL_law 826 = .ok (.iconst 1, 1) := by decide +kernel
theorem dL_law_827 : decode cL_law 827 = .ok (.iadd, 1) := by decide +kernel
theorem dL_law_828 : decode cL_law 828 = .ok (.iaload, 1) := by decide +kernel
theorem dL_law_829 : decode cL_law 829 = .ok (.aload_n 0, 1) := by decide +kernel
theorem dL_law_830 : decode cL_law 830 = .ok (.iload_n 3, 1) := by decide +kernel
theorem dL_law_831 : decode cL_law 831 = .ok (.iconst 2, 1) := by decide +kernel
theorem dL_law_832 : decode cL_law 832 = .ok (.iadd, 1) := by decide +kernel
theorem dL_law_833 : decode cL_law 833 = .ok (.iaload, 1) := by decide +kernel
theorem dL_law_834 : decode cL_law 834 = .ok (.aload_n 0, 1) := by decide +kernel
theorem dL_law_835 : decode cL_law 835 = .ok (.iload_n 3, 1) := by decide +kernel
theorem dL_law_836 : decode cL_law 836 = .ok (.iconst 3, 1) := by decide +kernel
theorem dL_law_837 : decode cL_law 837 = .ok (.iadd, 1) := by decide +kernel
theorem dL_law_838 : decode cL_law 838 = .ok (.iaload, 1) := by decide +kernel
theorem dL_law_839 : decode cL_law 839 = .ok (.invokevirtual 99, 3) := by decide +kernel
theorem dL_law_842 : decode cL_law 842 = .ok (.if_icmp .eq 249, 3) := by decide +kernel
theorem dL_law_845 : decode cL_law 845 = .ok (.iconst 0, 1) := by decide +kernel
theorem dL_law_846 : decode cL_law 846 = .ok (.ireturn, 1) := by decide +kernel
theorem dL_law_847 : decode cL_law 847 = .ok (.aload_n 1, 1) := by decide +kernel
theorem dL_law_848 : decode cL_law 848 = .ok (.aload_n 0, 1) := by decide +kernel
theorem dL_law_849 : decode cL_law 849 = .ok (.iload_n 3, 1) := by decide +kernel
theorem dL_law_850 : decode cL_law 850 = .ok (.iconst 1, 1) := by decide +kernel
theorem dL_law_851 : decode cL_law 851 = .ok (.iadd, 1) := by decide +kernel
theorem dL_law_852 : decode cL_law 852 = .ok (.iaload, 1) := by decide +kernel
theorem dL_law_853 : decode cL_law 853 = .ok (.aload_n 0, 1) := by decide +kernel
theorem dL_law_854 : decode cL_law 854 = .ok (.iload_n 3, 1) := by decide +kernel
theorem dL_law_855 : decode cL_law 855 = .ok (.iconst 2, 1) := by decide +kernel
theorem dL_law_856 : decode cL_law 856 = .ok (.iadd, 1) := by decide +kernel
theorem dL_law_857 : decode cL_law 857 = .ok (.iaload, 1) := by decide +kernel
theorem dL_law_858 : decode cL_law 858 = .ok (.invokevirtual 100, 3) := by decide +kernel
theorem dL_law_861 : decode cL_law 861 = .ok (.aload_n 2, 1) := by decide +kernel
theorem dL_law_862 : decode cL_law 862 = .ok (.aload_n 0, 1) := by decide +kernel
theorem dL_law_863 : decode cL_law 863 = .ok (.iload_n 3, 1) := by decide +kernel
theorem dL_law_864 : decode cL_law 864 = .ok (.iconst 1, 1) := by decide +kernel
theorem dL_law_865 : decode cL_law 865 = .ok (.iadd, 1) := by decide +kernel
theorem dL_law_866 : decode cL_law 866 = .ok (.iaload, 1) := by decide +kernel
theorem dL_law_867 : decode cL_law 867 = .ok (.aload_n 0, 1) := by decide +kernel
theorem dL_law_868 : decode cL_law 868 = .ok (.iload_n 3, 1) := by decide +kernel
theorem dL_law_869 : decode cL_law 869 = .ok (.iconst 2, 1) := by decide +kernel
theorem dL_law_870 : decode cL_law 870 = .ok (.iadd, 1) := by decide +kernel
theorem dL_law_871 : decode cL_law 871 = .ok (.iaload, 1) := by decide +kernel
theorem dL_law_872 : decode cL_law 872 = .ok (.invokevirtual 103, 3) := by decide +kernel
theorem dL_law_875 : decode cL_law 875 = .ok (.if_icmp .eq 216, 3) := by decide +kernel
theorem dL_law_878 : decode cL_law 878 = .ok (.iconst 0, 1) := by decide +kernel
theorem dL_law_879 : decode cL_law 879 = .ok (.ireturn, 1) := by decide +kernel
theorem dL_law_880 : decode cL_law 880 = .ok (.aload_n 1, 1) := by decide +kernel
theorem dL_law_881 : decode cL_law 881 = .ok (.aload_n 0, 1) := by decide +kernel
theorem dL_law_882 : decode cL_law 882 = .ok (.iload_n 3, 1) := by decide +kernel
theorem dL_law_883 : decode cL_law 883 = .ok (.iconst 1, 1) := by decide +kernel
theorem dL_law_884 : decode cL_law 884 = .ok (.iadd, 1) := by decide +kernel
theorem dL_law_885 : decode cL_law 885 = .ok (.iaload, 1) := by decide +kernel
theorem dL_law_886 : decode cL_law 886 = .ok (.aload_n 0, 1) := by decide +kernel
theorem dL_law_887 : decode cL_law 887 = .ok (.iload_n 3, 1) := by decide +kernel
theorem dL_law_888 : decode cL_law 888 = .ok (.iconst 2, 1) := by decide +kernel
theorem dL_law_889 : decode cL_law 889 = .ok (.iadd, 1) := by decide +kernel
theorem dL_law_890 : decode cL_law 890 = .ok (.iaload, 1) := by decide +kernel
theorem dL_law_891 : decode cL_law 891 = .ok (.aload_n 0, 1) := by decide +kernel
theorem dL_law_892 : decode cL_law 892 = .ok (.iload_n 3, 1) := by decide +kernel
theorem dL_law_893 : decode cL_law 893 = .ok (.iconst 3, 1) := by decide +kernel
theorem dL_law_894 : decode cL_law 894 = .ok (.iadd, 1) := by decide +kernel
theorem dL_law_895 : decode cL_law 895 = .ok (.iaload, 1) := by decide +kernel
theorem dL_law_896 : decode cL_law 896 = .ok (.ifCond .eq 7, 3) := by decide +kernel
theorem dL_law_899 : decode cL_law 899 = .ok (.iconst 1, 1) := by decide +kernel
theorem dL_law_900 : decode cL_law 900 = .ok (.goto 4, 3) := by decide +kernel
theorem dL_law_903 : decode cL_law 903 = .ok (.iconst 0, 1) := by decide +kernel
theorem dL_law_904 : decode cL_law 904 = .ok (.invokevirtual 104, 3) := by decide +kernel
theorem dL_law_907 : decode cL_law 907 = .ok (.aload_n 2, 1) := by decide +kernel
theorem dL_law_908 : decode cL_law 908 = .ok (.aload_n 0, 1) := by decide +kernel
theorem dL_law_909 : decode cL_law 909 = .ok (.iload_n 3, 1) := by decide +kernel
theorem dL_law_910 : decode cL_law 910 = .ok (.iconst 1, 1) := by decide +kernel
theorem dL_law_911 : decode cL_law 911 = .ok (.iadd, 1) := by decide +kernel
theorem dL_law_912 : decode cL_law 912 = .ok (.iaload, 1) := by decide +kernel
theorem dL_law_913 : decode cL_law 913 = .ok (.aload_n 0, 1) := by decide +kernel
theorem dL_law_914 : decode cL_law 914 = .ok (.iload_n 3, 1) := by decide +kernel
theorem dL_law_915 : decode cL_law 915 = .ok (.iconst 2, 1) := by decide +kernel
theorem dL_law_916 : decode cL_law 916 = .ok (.iadd, 1) := by decide +kernel
theorem dL_law_917 : decode cL_law 917 = .ok (.iaload, 1) := by decide +kernel
theorem dL_law_918 : decode cL_law 918 = .ok (.aload_n 0, 1) := by decide +kernel
theorem dL_law_919 : decode cL_law 919 = .ok (.iload_n 3, 1) := by decide +kernel
theorem dL_law_920 : decode cL_law 920 = .ok (.iconst 3, 1) := by decide +kernel
theorem dL_law_921 : decode cL_law 921 = .ok (.iadd, 1) := by decide +kernel
theorem dL_law_922 : decode cL_law 922 = .ok (.iaload, 1) := by decide +kernel
theorem dL_law_923 : decode cL_law 923 = .ok (.ifCond .eq 7, 3) := by decide +kernel
theorem dL_law_926 : decode cL_law 926 = .ok (.iconst 1, 1) := by decide +kernel
theorem dL_law_927 : decode cL_law 927 = .ok (.goto 4, 3) := by decide +kernel
theorem dL_law_930 : decode cL_law 930 = .ok (.iconst 0, 1) := by decide +kernel
theorem dL_law_931 : decode cL_law 931 = .ok (.invokevirtual 108, 3) := by decide +kernel
theorem dL_law_934 : decode cL_law 934 = .ok (.if_icmp .eq 157, 3) := by decide +kernel
theorem dL_law_937 : decode cL_law 937 = .ok (.iconst 0, 1) := by decide +kernel
theorem dL_law_938 : decode cL_law 938 = .ok (.ireturn, 1) := by decide +kernel
theorem dL_law_939 : decode cL_law 939 = .ok (.aload_n 1, 1) := by decide +kernel
theorem dL_law_940 : decode cL_law 940 = .ok (.aload_n 0, 1) := by decide +kernel
theorem dL_law_941 : decode cL_law 941 = .ok (.iload_n 3, 1) := by decide +kernel
theorem dL_law_942 : decode cL_law 942 = .ok (.iconst 1, 1) := by decide +kernel
theorem dL_law_943 : decode cL_law 943 = .ok (.iadd, 1) := by decide +kernel
theorem dL_law_944 : decode cL_law 944 = .ok (.iaload, 1) := by decide +kernel
theorem dL_law_945 : decode cL_law 945 = .ok (.aload_n 0, 1) := by decide +kernel
theorem dL_law_946 : decode cL_law 946 = .ok (.iload_n 3, 1) := by decide +kernel
theorem dL_law_947 : decode cL_law 947 = .ok (.iconst 2, 1) := by decide +kernel
theorem dL_law_948 : decode cL_law 948 = .ok (.iadd, 1) := by decide +kernel
theorem dL_law_949 : decode cL_law 949 = .ok (.iaload, 1) := by decide +kernel
theorem dL_law_950 : decode cL_law 950 = .ok (.aload_n 0, 1) := by decide +kernel
theorem dL_law_951 : decode cL_law 951 = .ok (.iload_n 3, 1) := by decide +kernel
theorem dL_law_952 : decode cL_law 952 = .ok (.iconst 3, 1) := by decide +kernel
theorem dL_law_953 : decode cL_law 953 = .ok (.iadd, 1) := by decide +kernel
theorem dL_law_954 : decode cL_law 954 = .ok (.iaload, 1) := by decide +kernel
theorem dL_law_955 : decode cL_law 955 = .ok (.aload_n 0, 1) := by decide +kernel
theorem dL_law_956 : decode cL_law 956 = .ok (.iload_n 3, 1) := by decide +kernel
theorem dL_law_957 : decode cL_law 957 = .ok (.iconst 4, 1) := by decide +kernel
theorem dL_law_958 : decode cL_law 958 = .ok (.iadd, 1) := by decide +kernel
theorem dL_law_959 : decode cL_law 959 = .ok (.iaload, 1) := by decide +kernel
theorem dL_law_960 : decode cL_law 960 = .ok (.invokevirtual 109, 3) := by decide +kernel
theorem dL_law_963 : decode cL_law 963 = .ok (.aload_n 2, 1) := by decide +kernel
theorem dL_law_964 : decode cL_law 964 = .ok (.aload_n 0, 1) := by decide +kernel
theorem dL_law_965 : decode cL_law 965 = .ok (.iload_n 3, 1) := by decide +kernel
theorem dL_law_966 : decode cL_law 966 = .ok (.iconst 1, 1) := by decide +kernel
theorem dL_law_967 : decode cL_law 967 = .ok (.iadd, 1) := by decide +kernel
theorem dL_law_968 : decode cL_law 968 = .ok (.iaload, 1) := by decide +kernel
theorem dL_law_969 : decode cL_law 969 = .ok (.aload_n 0, 1) := by decide +kernel
theorem dL_law_970 : decode cL_law 970 = .ok (.iload_n 3, 1) := by decide +kernel
theorem dL_law_971 : decode cL_law 971 = .ok (.iconst 2, 1) := by decide +kernel
theorem dL_law_972 : decode cL_law 972 = .ok (.iadd, 1) := by decide +kernel
theorem dL_law_973 : decode cL_law 973 = .ok (.iaload, 1) := by decide +kernel
theorem dL_law_974 : decode cL_law 974 = .ok (.aload_n 0, 1) := by decide +kernel
theorem dL_law_975 : decode cL_law 975 = .ok (.iload_n 3, 1) := by decide +kernel
theorem dL_law_976 : decode cL_law 976 = .ok (.iconst 3, 1) := by decide +kernel
theorem dL_law_977 : decode cL_law 977 = .ok (.iadd, 1) := by decide +kernel
theorem dL_law_978 : decode cL_law 978 = .ok (.iaload, 1) := by decide +kernel
theorem dL_law_979 : decode cL_law 979 = .ok (.aload_n 0, 1) := by decide +kernel
theorem dL_law_980 : decode cL_law 980 = .ok (.iload_n 3, 1) := by decide +kernel
theorem dL_law_981 : decode cL_law 981 = .ok (.iconst 4, 1) := by decide +kernel
theorem dL_law_982 : decode cL_law 982 = .ok (.iadd, 1) := by decide +kernel
theorem dL_law_983 : decode cL_law 983 = .ok (.iaload, 1) := by decide +kernel
theorem dL_law_984 : decode cL_law 984 = .ok (.invokevirtual 112, 3) := by decide +kernel
theorem dL_law_987 : decode cL_law 987 = .ok (.if_icmp .eq 104, 3) := by decide +kernel
theorem dL_law_990 : decode cL_law 990 = .ok (.iconst 0, 1) := by decide +kernel
theorem dL_law_991 : decode cL_law 991 = .ok (.ireturn, 1) := by decide +kernel
theorem dL_law_992 : decode cL_law 992 = .ok (.aload_n 1, 1) := by decide +kernel
theorem dL_law_993 : decode cL_law 993 = .ok (.aload_n 0, 1) := by decide +kernel
theorem dL_law_994 : decode cL_law 994 = .ok (.iload_n 3, 1) := by decide +kernel
theorem dL_law_995 : decode cL_law 995 = .ok (.iconst 1, 1) := by decide +kernel
theorem dL_law_996 : decode cL_law 996 = .ok (.iadd, 1) := by decide +kernel
theorem dL_law_997 : decode cL_law 997 = .ok (.iaload, 1) := by decide +kernel
theorem dL_law_998 : decode cL_law 998 = .ok (.aload_n 0, 1) := by decide +kernel
theorem dL_law_999 : decode cL_law 999 = .ok (.iload_n 3, 1) := by decide +kernel
theorem dL_law_1000 : decode cL_law 1000 = .ok (.iconst 2, 1) := by decide +kernel
theorem dL_law_1001 : decode cL_law 1001 = .ok (.iadd, 1) := by decide +kernel
theorem dL_law_1002 : decode cL_law 1002 = .ok (.iaload, 1) := by decide +kernel
theorem dL_law_1003 : decode cL_law 1003 = .ok (.aload_n 0, 1) := by decide +kernel
theorem dL_law_1004 : decode cL_law 1004 = .ok (.iload_n 3, 1) := by decide +kernel
theorem dL_law_1005 : decode cL_law 1005 = .ok (.iconst 3, 1) := by decide +kernel
theorem dL_law_1006 : decode cL_law 1006 = .ok (.iadd, 1) := by decide +kernel
theorem dL_law_1007 : decode cL_law 1007 = .ok (.iaload, 1) := by decide +kernel
theorem dL_law_1008 : decode cL_law 1008 = .ok (.invokevirtual 113, 3) := by decide +kernel
theorem dL_law_1011 : decode cL_law 1011 = .ok (.aload_n 2, 1) := by decide +kernel
theorem dL_law_1012 : decode cL_law 1012 = .ok (.aload_n 0, 1) := by decide +kernel
theorem dL_law_1013 : decode cL_law 1013 = .ok (.iload_n 3, 1) := by decide +kernel
theorem dL_law_1014 : decode cL_law 1014 = .ok (.iconst 1, 1) := by decide +kernel
theorem dL_law_1015 : decode cL_law 1015 = .ok (.iadd, 1) := by decide +kernel
theorem dL_law_1016 : decode cL_law 1016 = .ok (.iaload, 1) := by decide +kernel
theorem dL_law_1017 : decode cL_law 1017 = .ok (.aload_n 0, 1) := by decide +kernel
theorem dL_law_1018 : decode cL_law 1018 = .ok (.iload_n 3, 1) := by decide +kernel
theorem dL_law_1019 : decode cL_law 1019 = .ok (.iconst 2, 1) := by decide +kernel
theorem dL_law_1020 : decode cL_law 1020 = .ok (.iadd, 1) := by decide +kernel
theorem dL_law_1021 : decode cL_law 1021 = .ok (.iaload, 1) := by decide +kernel
theorem dL_law_1022 : decode cL_law 1022 = .ok (.aload_n 0, 1) := by decide +kernel
theorem dL_law_1023 : decode cL_law 1023 = .ok (.iload_n 3, 1) := by decide +kernel
theorem dL_law_1024 : decode cL_law 1024 = .ok (.iconst 3, 1) := by decide +kernel
theorem dL_law_1025 : decode cL_law 1025 = .ok (.iadd, 1) := by decide +kernel
theorem dL_law_1026 : decode cL_law 1026 = .ok (.iaload, 1) := by decide +kernel
theorem dL_law_1027 : decode cL_law 1027 = .ok (.invokevirtual 116, 3) := by decide +kernel
theorem dL_law_1030 : decode cL_law 1030 = .ok (.if_icmp .eq 61, 3) := by decide +kernel
theorem dL_law_1033 : decode cL_law 1033 = .ok (.iconst 0, 1) := by decide +kernel
theorem dL_law_1034 : decode cL_law 1034 = .ok (.ireturn, 1) := by decide +kernel
theorem dL_law_1035 : decode cL_law 1035 = .ok (.aload_n 1, 1) := by decide +kernel
theorem dL_law_1036 : decode cL_law 1036 = .ok (.aload_n 0, 1) := by decide +kernel
theorem dL_law_1037 : decode cL_law 1037 = .ok (.iload_n 3, 1) := by decide +kernel
theorem dL_law_1038 : decode cL_law 1038 = .ok (.iconst 1, 1) := by decide +kernel
theorem dL_law_1039 : decode cL_law 1039 = .ok (.iadd, 1) := by decide +kernel
theorem dL_law_1040 : decode cL_law 1040 = .ok (.iaload, 1) := by decide +kernel
theorem dL_law_1041 : decode cL_law 1041 = .ok (.invokevirtual 117, 3) := by decide +kernel
theorem dL_law_1044 : decode cL_law 1044 = .ok (.aload_n 2, 1) := by decide +kernel
theorem dL_law_1045 : decode cL_law 1045 = .ok (.aload_n 0, 1) := by decide +kernel
theorem dL_law_1046 : decode cL_law 1046 = .ok (.iload_n 3, 1) := by decide +kernel
theorem dL_law_1047 : decode cL_law 1047 = .ok (.iconst 1, 1) := by decide +kernel
theorem dL_law_1048 : decode cL_law 1048 = .ok (.iadd, 1) := by decide +kernel
theorem dL_law_1049 : decode cL_law 1049 = .ok (.iaload, 1) := by decide +kernel
theorem dL_law_1050 : decode cL_law 1050 = .ok (.invokevirtual 120, 3) := by decide +kernel
theorem dL_law_1053 : decode cL_law 1053 = .ok (.if_icmp .eq 38, 3) := by decide +kernel
theorem dL_law_1056 : decode cL_law 1056 = .ok (.iconst 0, 1) := by decide +kernel
theorem dL_law_1057 : decode cL_law 1057 = .ok (.ireturn, 1) := by decide +kernel
theorem dL_law_1058 : decode cL_law 1058 = .ok (.aload_n 1, 1) := by decide +kernel
theorem dL_law_1059 : decode cL_law 1059 = .ok (.aload_n 0, 1) := by decide +kernel
theorem dL_law_1060 : decode cL_law 1060 = .ok (.iload_n 3, 1) := by decide +kernel
theorem dL_law_1061 : decode cL_law 1061 = .ok (.iconst 1, 1) := by decide +kernel
theorem dL_law_1062 : decode cL_law 1062 = .ok (.iadd, 1) := by decide +kernel
theorem dL_law_1063 : decode cL_law 1063 = .ok (.iaload, 1) := by decide +kernel
theorem dL_law_1064 : decode cL_law 1064 = .ok (.aload_n 0, 1) := by decide +kernel
theorem dL_law_1065 : decode cL_law 1065 = .ok (.iload_n 3, 1) := by decide +kernel
theorem dL_law_1066 : decode cL_law 1066 = .ok (.iconst 2, 1) := by decide +kernel
theorem dL_law_1067 : decode cL_law 1067 = .ok (.iadd, 1) := by decide +kernel
theorem dL_law_1068 : decode cL_law 1068 = .ok (.iaload, 1) := by decide +kernel
theorem dL_law_1069 : decode cL_law 1069 = .ok (.invokevirtual 121, 3) := by decide +kernel
theorem dL_law_1072 : decode cL_law 1072 = .ok (.aload_n 2, 1) := by decide +kernel
theorem dL_law_1073 : decode cL_law 1073 = .ok (.aload_n 0, 1) := by decide +kernel
theorem dL_law_1074 : decode cL_law 1074 = .ok (.iload_n 3, 1) := by decide +kernel
theorem dL_law_1075 : decode cL_law 1075 = .ok (.iconst 1, 1) := by decide +kernel
theorem dL_law_1076 : decode cL_law 1076 = .ok (.iadd, 1) := by decide +kernel
theorem dL_law_1077 : decode cL_law 1077 = .ok (.iaload, 1) := by decide +kernel
theorem dL_law_1078 : decode cL_law 1078 = .ok (.aload_n 0, 1) := by decide +kernel
theorem dL_law_1079 : decode cL_law 1079 = .ok (.iload_n 3, 1) := by decide +kernel
theorem dL_law_1080 : decode cL_law 1080 = .ok (.iconst 2, 1) := by decide +kernel
theorem dL_law_1081 : decode cL_law 1081 = .ok (.iadd, 1) := by decide +kernel
theorem dL_law_1082 : decode cL_law 1082 = .ok (.iaload, 1) := by decide +kernel
theorem dL_law_1083 : decode cL_law 1083 = .ok (.invokevirtual 124, 3) := by decide +kernel
theorem dL_law_1086 : decode cL_law 1086 = .ok (.if_icmp .eq 5, 3) := by decide +kernel
theorem dL_law_1089 : decode cL_law 1089 = .ok (.iconst 0, 1) := by decide +kernel
theorem dL_law_1090 : decode cL_law 1090 = .ok (.ireturn, 1) := by decide +kernel
theorem dL_law_1091 : decode cL_law 1091 = .ok (.iinc 3 6, 3) := by decide +kernel
theorem dL_law_1094 : decode cL_law 1094 = .ok (.goto (-1076), 3) := by decide +kernel
theorem dL_law_1097 : decode cL_law 1097 = .ok (.iconst 1, 1) := by decide +kernel
theorem dL_law_1098 : decode cL_law 1098 = .ok (.ireturn, 1) := by decide +kernel
set_option maxHeartbeats 8000000 in
set_option maxRecDepth 100000 in
theorem lo_coin {p : Program} {l : Launch} {e : Env} {s : State} {m : MethodId} {below : List Frame} {meth : Method} {c : Code} {D : va_G} {cy : Nat → ClassId} {tB tE b : Nat} {a a2 : Nat → Nat} {rw : Nat → Option Nat} {xs : Nat → Int32} (B0 : Bz p room_1 s m #[Value.ref b] meth c D cy s.heap.size tB tE (fun q => s.heap.size ≤ q) 4 cL_law RL meth.sig.returnType meth.name 2048 84000 600000 7302250) (hX : va_X b 6 xs s s.heap) (hbl : b < s.heap.size) (hrw : ∀ i, i < 6 → rw i = some (a (36 + 2 * i))) (w : Nat → Int64) (fin : ∀ S S9 : GS, Z p l e room_1 s m #[Value.ref b] below meth c D (fun q => s.heap.size ≤ q) 4 (lw_Z below #[Value.ref b] s) 200 60000 (cw cy tE a rw S ++ mw cy a2 S9) [(3, .int 0), (2, .ref (a2 0)), (1, .ref (a 0)), (0, .ref b)] 1091 []) : Z p l e room_1 s m #[Value.ref b] below meth c D (fun q => s.heap.size ≤ q) 4 (lw_Z below #[Value.ref b] s) 200 60000 (cw cy tE a rw (cS0 w) ++ mw cy a2 mS0) [(3, .int 0), (2, .ref (a2 0)), (1, .ref (a 0)), (0, .ref b)] 148 [] := by
  obtain ⟨x1, e1⟩ : ∃ x, x = xs 1 := ⟨_, rfl⟩
  obtain ⟨x2, e2⟩ : ∃ x, x = xs 2 := ⟨_, rfl⟩
  rcases (show ((-2147483648) ≤ x1.toInt ∧ x1.toInt ≤ (-1)) ∨ x1.toInt = 0 ∨ x1.toInt = 1 ∨ x1.toInt = 2 ∨ (3 ≤ x1.toInt ∧ x1.toInt ≤ 2147483647) by have g1 := Int32.le_toInt x1; have g2 := Int32.toInt_lt x1; omega) with h1 | h1 | h1 | h1 | h1
  · refine z_aload_n B0 dL_law_148 rfl rfl ?_
    refine z_aload_n B0 dL_law_149 rfl rfl ?_
    refine z_iload_n B0 dL_law_150 rfl rfl ?_
    refine z_iconst (v := 1) B0 dL_law_151 (by decide) ?_
    refine z_iadd (v := 1) B0 dL_law_152 (by decide) ?_
    refine y_sld (j := 1) (v := x1) B0 hX hbl (by decide) e1.symm dL_law_153 ?_
    refine z_aload_n B0 dL_law_154 rfl rfl ?_
    refine z_iload_n B0 dL_law_155 rfl rfl ?_
    refine z_iconst (v := 2) B0 dL_law_156 (by decide) ?_
    refine z_iadd (v := 2) B0 dL_law_157 (by decide) ?_
    refine y_sld (j := 2) (v := x2) B0 hX hbl (by decide) e2.symm dL_law_158 ?_
    refine z_callC B0 (z_runV (q0 := 0) (As := [.int x1, .int x2]) (st := []) B0 (c_X11_coin (a := a) (cS0 w) x1 x2 ⟨by omega, by omega⟩) cf_X11_coin (cw_0 cy tE a rw (cS0 w)) rfl wm_L_13 wi_X11_coin ws_X11_coin dL_law_159 rfl (Nat.le_of_ble_eq_true rfl) ⟨by decide, by decide, by decide, by decide⟩) (fun r1 u1 p1 => ?_)
    obtain ⟨rfl, -⟩ := p1
    refine z_aload_n B0 dL_law_162 rfl rfl ?_
    refine z_aload_n B0 dL_law_163 rfl rfl ?_
    refine z_iload_n B0 dL_law_164 rfl rfl ?_
    refine z_iconst (v := 1) B0 dL_law_165 (by decide) ?_
    refine z_iadd (v := 1) B0 dL_law_166 (by decide) ?_
    refine y_sld (j := 1) (v := x1) B0 hX hbl (by decide) e1.symm dL_law_167 ?_
    refine z_aload_n B0 dL_law_168 rfl rfl ?_
    refine z_iload_n B0 dL_law_169 rfl rfl ?_
    refine z_iconst (v := 2) B0 dL_law_170 (by decide) ?_
    refine z_iadd (v := 2) B0 dL_law_171 (by decide) ?_
    refine y_sld (j := 2) (v := x2) B0 hX hbl (by decide) e2.symm dL_law_172 ?_
    refine z_callM B0 (z_runV (q0 := 0) (As := [.int x1, .int x2]) (st := [.int 0]) B0 (c_X12_coin (a := a2) mS0 x1 x2 ⟨by omega, by omega⟩) cf_X12_coin (mw_0 cy a2 mS0) rfl wm_L_17 wi_X12_coin ws_X12_coin dL_law_173 rfl (Nat.le_of_ble_eq_true rfl) ⟨by decide, by decide, by decide, by decide⟩) (fun r2 u2 p2 => ?_)
    obtain ⟨rfl, -⟩ := p2
    refine z_icmp_eq_t (tgt := 1091) B0 dL_law_176 (by decide) rfl ?_
    exact fin u1 u2
  · obtain rfl : x1 = 0 := Int32.toInt_inj.mp (h1.trans (by decide))
    rcases (show ((-2147483648) ≤ x2.toInt ∧ x2.toInt ≤ (-1)) ∨ (0 ≤ x2.toInt ∧ x2.toInt ≤ 15) ∨ (16 ≤ x2.toInt ∧ x2.toInt ≤ 2147483647) by have g1 := Int32.le_toInt x2; have g2 := Int32.toInt_lt x2; omega) with h2 | h2 | h2
    · refine z_aload_n B0 dL_law_148 rfl rfl ?_
      refine z_aload_n B0 dL_law_149 rfl rfl ?_
      refine z_iload_n B0 dL_law_150 rfl rfl ?_
      refine z_iconst (v := 1) B0 dL_law_151 (by decide) ?_
      refine z_iadd (v := 1) B0 dL_law_152 (by decide) ?_
      refine y_sld (j := 1) (v := 0) B0 hX hbl (by decide) e1.symm dL_law_153 ?_
      refine z_aload_n B0 dL_law_154 rfl rfl ?_
      refine z_iload_n B0 dL_law_155 rfl rfl ?_
      refine z_iconst (v := 2) B0 dL_law_156 (by decide) ?_
      refine z_iadd (v := 2) B0 dL_law_157 (by decide) ?_
      refine y_sld (j := 2) (v := x2) B0 hX hbl (by decide) e2.symm dL_law_158 ?_
      refine z_callC B0 (z_runV (q0 := 0) (As := [.int 0, .int x2]) (st := []) B0 (c_X11_coin_3 (a := a) (cS0 w) x2 ⟨by omega, by omega⟩) cf_X11_coin (cw_0 cy tE a rw (cS0 w)) rfl wm_L_13 wi_X11_coin ws_X11_coin dL_law_159 rfl (Nat.le_of_ble_eq_true rfl) ⟨by decide, by decide, by decide, by decide⟩) (fun r1 u1 p1 => ?_)
      obtain ⟨rfl, -⟩ := p1
      refine z_aload_n B0 dL_law_162 rfl rfl ?_
      refine z_aload_n B0 dL_law_163 rfl rfl ?_
      refine z_iload_n B0 dL_law_164 rfl rfl ?_
      refine z_iconst (v := 1) B0 dL_law_165 (by decide) ?_
      refine z_iadd (v := 1) B0 dL_law_166 (by decide) ?_
      refine y_sld (j := 1) (v := 0) B0 hX hbl (by decide) e1.symm dL_law_167 ?_
      refine z_aload_n B0 dL_law_168 rfl rfl ?_
      refine z_iload_n B0 dL_law_169 rfl rfl ?_
      refine z_iconst (v := 2) B0 dL_law_170 (by decide) ?_
      refine z_iadd (v := 2) B0 dL_law_171 (by decide) ?_
      refine y_sld (j := 2) (v := x2) B0 hX hbl (by decide) e2.symm dL_law_172 ?_
      refine z_callM B0 (z_runV (q0 := 0) (As := [.int 0, .int x2]) (st := [.int 0]) B0 (c_X12_coin_3 (a := a2) mS0 x2 ⟨by omega, by omega⟩) cf_X12_coin (mw_0 cy a2 mS0) rfl wm_L_17 wi_X12_coin ws_X12_coin dL_law_173 rfl (Nat.le_of_ble_eq_true rfl) ⟨by decide, by decide, by decide, by decide⟩) (fun r2 u2 p2 => ?_)
      obtain ⟨rfl, -⟩ := p2
      refine z_icmp_eq_t (tgt := 1091) B0 dL_law_176 (by decide) rfl ?_
      exact fin u1 u2
    · refine z_aload_n B0 dL_law_148 rfl rfl ?_
      refine z_aload_n B0 dL_law_149 rfl rfl ?_
      refine z_iload_n B0 dL_law_150 rfl rfl ?_
      refine z_iconst (v := 1) B0 dL_law_151 (by decide) ?_
      refine z_iadd (v := 1) B0 dL_law_152 (by decide) ?_
      refine y_sld (j := 1) (v := 0) B0 hX hbl (by decide) e1.symm dL_law_153 ?_
      refine z_aload_n B0 dL_law_154 rfl rfl ?_
      refine z_iload_n B0 dL_law_155 rfl rfl ?_
      refine z_iconst (v := 2) B0 dL_law_156 (by decide) ?_
      refine z_iadd (v := 2) B0 dL_law_157 (by decide) ?_
      refine y_sld (j := 2) (v := x2) B0 hX hbl (by decide) e2.symm dL_law_158 ?_
      refine z_callC B0 (z_runV (q0 := 0) (As := [.int 0, .int x2]) (st := []) B0 (c_X11_coin_4 (a := a) (cS0 w) x2 rfl ⟨by omega, by omega⟩) cf_X11_coin (cw_0 cy tE a rw (cS0 w)) rfl wm_L_13 wi_X11_coin ws_X11_coin dL_law_159 rfl (Nat.le_of_ble_eq_true rfl) ⟨by decide, by decide, by decide, by decide⟩) (fun r1 u1 p1 => ?_)
      obtain ⟨rfl, -⟩ := p1
      refine z_aload_n B0 dL_law_162 rfl rfl ?_
      refine z_aload_n B0 dL_law_163 rfl rfl ?_
      refine z_iload_n B0 dL_law_164 rfl rfl ?_
      refine z_iconst (v := 1) B0 dL_law_165 (by decide) ?_
      refine z_iadd (v := 1) B0 dL_law_166 (by decide) ?_
      refine y_sld (j := 1) (v := 0) B0 hX hbl (by decide) e1.symm dL_law_167 ?_
      refine z_aload_n B0 dL_law_168 rfl rfl ?_
      refine z_iload_n B0 dL_law_169 rfl rfl ?_
      refine z_iconst (v := 2) B0 dL_law_170 (by decide) ?_
      refine z_iadd (v := 2) B0 dL_law_171 (by decide) ?_
      refine y_sld (j := 2) (v := x2) B0 hX hbl (by decide) e2.symm dL_law_172 ?_
      refine z_callM B0 (z_runV (q0 := 0) (As := [.int 0, .int x2]) (st := [.int 1]) B0 (c_X12_coin_4 (a := a2) mS0 x2 rfl rfl rfl rfl rfl rfl rfl rfl rfl rfl rfl rfl rfl rfl rfl rfl rfl rfl rfl rfl rfl rfl rfl rfl rfl rfl ⟨by omega, by omega⟩) cf_X12_coin (mw_0 cy a2 mS0) rfl wm_L_17 wi_X12_coin ws_X12_coin dL_law_173 rfl (Nat.le_of_ble_eq_true rfl) ⟨by decide, by decide, by decide, by decide⟩) (fun r2 u2 p2 => ?_)
      obtain ⟨rfl, -⟩ := p2
      refine z_icmp_eq_t (tgt := 1091) B0 dL_law_176 (by decide) rfl ?_
      exact fin u1 u2
    · refine z_aload_n B0 dL_law_148 rfl rfl ?_
      refine z_aload_n B0 dL_law_149 rfl rfl ?_
      refine z_iload_n B0 dL_law_150 rfl rfl ?_
      refine z_iconst (v := 1) B0 dL_law_151 (by decide) ?_
      refine z_iadd (v := 1) B0 dL_law_152 (by decide) ?_
      refine y_sld (j := 1) (v := 0) B0 hX hbl (by decide) e1.symm dL_law_153 ?_
      refine z_aload_n B0 dL_law_154 rfl rfl ?_
      refine z_iload_n B0 dL_law_155 rfl rfl ?_
      refine z_iconst (v := 2) B0 dL_law_156 (by decide) ?_
      refine z_iadd (v := 2) B0 dL_law_157 (by decide) ?_
      refine y_sld (j := 2) (v := x2) B0 hX hbl (by decide) e2.symm dL_law_158 ?_
      refine z_callC B0 (z_runV (q0 := 0) (As := [.int 0, .int x2]) (st := []) B0 (c_X11_coin_5 (a := a) (cS0 w) x2 ⟨by omega, by omega⟩) cf_X11_coin (cw_0 cy tE a rw (cS0 w)) rfl wm_L_13 wi_X11_coin ws_X11_coin dL_law_159 rfl (Nat.le_of_ble_eq_true rfl) ⟨by decide, by decide, by decide, by decide⟩) (fun r1 u1 p1 => ?_)
      obtain ⟨rfl, -⟩ := p1
      refine z_aload_n B0 dL_law_162 rfl rfl ?_
      refine z_aload_n B0 dL_law_163 rfl rfl ?_
      refine z_iload_n B0 dL_law_164 rfl rfl ?_
      refine z_iconst (v := 1) B0 dL_law_165 (by decide) ?_
      refine z_iadd (v := 1) B0 dL_law_166 (by decide) ?_
      refine y_sld (j := 1) (v := 0) B0 hX hbl (by decide) e1.symm dL_law_167 ?_
      refine z_aload_n B0 dL_law_168 rfl rfl ?_
      refine z_iload_n B0 dL_law_169 rfl rfl ?_
      refine z_iconst (v := 2) B0 dL_law_170 (by decide) ?_
      refine z_iadd (v := 2) B0 dL_law_171 (by decide) ?_
      refine y_sld (j := 2) (v := x2) B0 hX hbl (by decide) e2.symm dL_law_172 ?_
      refine z_callM B0 (z_runV (q0 := 0) (As := [.int 0, .int x2]) (st := [.int 0]) B0 (c_X12_coin_5 (a := a2) mS0 x2 ⟨by omega, by omega⟩) cf_X12_coin (mw_0 cy a2 mS0) rfl wm_L_17 wi_X12_coin ws_X12_coin dL_law_173 rfl (Nat.le_of_ble_eq_true rfl) ⟨by decide, by decide, by decide, by decide⟩) (fun r2 u2 p2 => ?_)
      obtain ⟨rfl, -⟩ := p2
      refine z_icmp_eq_t (tgt := 1091) B0 dL_law_176 (by decide) rfl ?_
      exact fin u1 u2
  · obtain rfl : x1 = 1 := Int32.toInt_inj.mp (h1.trans (by decide))
    rcases (show ((-2147483648) ≤ x2.toInt ∧ x2.toInt ≤ (-1)) ∨ (0 ≤ x2.toInt ∧ x2.toInt ≤ 15) ∨ (16 ≤ x2.toInt ∧ x2.toInt ≤ 2147483647) by have g1 := Int32.le_toInt x2; have g2 := Int32.toInt_lt x2; omega) with h2 | h2 | h2
    · refine z_aload_n B0 dL_law_148 rfl rfl ?_
      refine z_aload_n B0 dL_law_149 rfl rfl ?_
      refine z_iload_n B0 dL_law_150 rfl rfl ?_
      refine z_iconst (v := 1) B0 dL_law_151 (by decide) ?_
      refine z_iadd (v := 1) B0 dL_law_152 (by decide) ?_
      refine y_sld (j := 1) (v := 1) B0 hX hbl (by decide) e1.symm dL_law_153 ?_
      refine z_aload_n B0 dL_law_154 rfl rfl ?_
      refine z_iload_n B0 dL_law_155 rfl rfl ?_
      refine z_iconst (v := 2) B0 dL_law_156 (by decide) ?_
      refine z_iadd (v := 2) B0 dL_law_157 (by decide) ?_
      refine y_sld (j := 2) (v := x2) B0 hX hbl (by decide) e2.symm dL_law_158 ?_
      refine z_callC B0 (z_runV (q0 := 0) (As := [.int 1, .int x2]) (st := []) B0 (c_X11_coin_6 (a := a) (cS0 w) x2 ⟨by omega, by omega⟩) cf_X11_coin (cw_0 cy tE a rw (cS0 w)) rfl wm_L_13 wi_X11_coin ws_X11_coin dL_law_159 rfl (Nat.le_of_ble_eq_true rfl) ⟨by decide, by decide, by decide, by decide⟩) (fun r1 u1 p1 => ?_)
      obtain ⟨rfl, -⟩ := p1
      refine z_aload_n B0 dL_law_162 rfl rfl ?_
      refine z_aload_n B0 dL_law_163 rfl rfl ?_
      refine z_iload_n B0 dL_law_164 rfl rfl ?_
      refine z_iconst (v := 1) B0 dL_law_165 (by decide) ?_
      refine z_iadd (v := 1) B0 dL_law_166 (by decide) ?_
      refine y_sld (j := 1) (v := 1) B0 hX hbl (by decide) e1.symm dL_law_167 ?_
      refine z_aload_n B0 dL_law_168 rfl rfl ?_
      refine z_iload_n B0 dL_law_169 rfl rfl ?_
      refine z_iconst (v := 2) B0 dL_law_170 (by decide) ?_
      refine z_iadd (v := 2) B0 dL_law_171 (by decide) ?_
      refine y_sld (j := 2) (v := x2) B0 hX hbl (by decide) e2.symm dL_law_172 ?_
      refine z_callM B0 (z_runV (q0 := 0) (As := [.int 1, .int x2]) (st := [.int 0]) B0 (c_X12_coin_6 (a := a2) mS0 x2 ⟨by omega, by omega⟩) cf_X12_coin (mw_0 cy a2 mS0) rfl wm_L_17 wi_X12_coin ws_X12_coin dL_law_173 rfl (Nat.le_of_ble_eq_true rfl) ⟨by decide, by decide, by decide, by decide⟩) (fun r2 u2 p2 => ?_)
      obtain ⟨rfl, -⟩ := p2
      refine z_icmp_eq_t (tgt := 1091) B0 dL_law_176 (by decide) rfl ?_
      exact fin u1 u2
    · refine z_aload_n B0 dL_law_148 rfl rfl ?_
      refine z_aload_n B0 dL_law_149 rfl rfl ?_
      refine z_iload_n B0 dL_law_150 rfl rfl ?_
      refine z_iconst (v := 1) B0 dL_law_151 (by decide) ?_
      refine z_iadd (v := 1) B0 dL_law_152 (by decide) ?_
      refine y_sld (j := 1) (v := 1) B0 hX hbl (by decide) e1.symm dL_law_153 ?_
      refine z_aload_n B0 dL_law_154 rfl rfl ?_
      refine z_iload_n B0 dL_law_155 rfl rfl ?_
      refine z_iconst (v := 2) B0 dL_law_156 (by decide) ?_
      refine z_iadd (v := 2) B0 dL_law_157 (by decide) ?_
      refine y_sld (j := 2) (v := x2) B0 hX hbl (by decide) e2.symm dL_law_158 ?_
      refine z_callC B0 (z_runV (q0 := 0) (As := [.int 1, .int x2]) (st := []) B0 (c_X11_coin_7 (a := a) (cS0 w) x2 rfl ⟨by omega, by omega⟩) cf_X11_coin (cw_0 cy tE a rw (cS0 w)) rfl wm_L_13 wi_X11_coin ws_X11_coin dL_law_159 rfl (Nat.le_of_ble_eq_true rfl) ⟨by decide, by decide, by decide, by decide⟩) (fun r1 u1 p1 => ?_)
      obtain ⟨rfl, -⟩ := p1
      refine z_aload_n B0 dL_law_162 rfl rfl ?_
      refine z_aload_n B0 dL_law_163 rfl rfl ?_
      refine z_iload_n B0 dL_law_164 rfl rfl ?_
      refine z_iconst (v := 1) B0 dL_law_165 (by decide) ?_
      refine z_iadd (v := 1) B0 dL_law_166 (by decide) ?_
      refine y_sld (j := 1) (v := 1) B0 hX hbl (by decide) e1.symm dL_law_167 ?_
      refine z_aload_n B0 dL_law_168 rfl rfl ?_
      refine z_iload_n B0 dL_law_169 rfl rfl ?_
      refine z_iconst (v := 2) B0 dL_law_170 (by decide) ?_
      refine z_iadd (v := 2) B0 dL_law_171 (by decide) ?_
      refine y_sld (j := 2) (v := x2) B0 hX hbl (by decide) e2.symm dL_law_172 ?_
      refine z_callM B0 (z_runV (q0 := 0) (As := [.int 1, .int x2]) (st := [.int 1]) B0 (c_X12_coin_7 (a := a2) mS0 x2 rfl rfl rfl rfl rfl rfl rfl rfl rfl rfl rfl rfl rfl rfl rfl rfl rfl rfl rfl rfl rfl rfl rfl rfl rfl rfl ⟨by omega, by omega⟩) cf_X12_coin (mw_0 cy a2 mS0) rfl wm_L_17 wi_X12_coin ws_X12_coin dL_law_173 rfl (Nat.le_of_ble_eq_true rfl) ⟨by decide, by decide, by decide, by decide⟩) (fun r2 u2 p2 => ?_)
      obtain ⟨rfl, -⟩ := p2
      refine z_icmp_eq_t (tgt := 1091) B0 dL_law_176 (by decide) rfl ?_
      exact fin u1 u2
    · refine z_aload_n B0 dL_law_148 rfl rfl ?_
      refine z_aload_n B0 dL_law_149 rfl rfl ?_
      refine z_iload_n B0 dL_law_150 rfl rfl ?_
      refine z_iconst (v := 1) B0 dL_law_151 (by decide) ?_
      refine z_iadd (v := 1) B0 dL_law_152 (by decide) ?_
      refine y_sld (j := 1) (v := 1) B0 hX hbl (by decide) e1.symm dL_law_153 ?_
      refine z_aload_n B0 dL_law_154 rfl rfl ?_
      refine z_iload_n B0 dL_law_155 rfl rfl ?_
      refine z_iconst (v := 2) B0 dL_law_156 (by decide) ?_
      refine z_iadd (v := 2) B0 dL_law_157 (by decide) ?_
      refine y_sld (j := 2) (v := x2) B0 hX hbl (by decide) e2.symm dL_law_158 ?_
      refine z_callC B0 (z_runV (q0 := 0) (As := [.int 1, .int x2]) (st := []) B0 (c_X11_coin_8 (a := a) (cS0 w) x2 ⟨by omega, by omega⟩) cf_X11_coin (cw_0 cy tE a rw (cS0 w)) rfl wm_L_13 wi_X11_coin ws_X11_coin dL_law_159 rfl (Nat.le_of_ble_eq_true rfl) ⟨by decide, by decide, by decide, by decide⟩) (fun r1 u1 p1 => ?_)
      obtain ⟨rfl, -⟩ := p1
      refine z_aload_n B0 dL_law_162 rfl rfl ?_
      refine z_aload_n B0 dL_law_163 rfl rfl ?_
      refine z_iload_n B0 dL_law_164 rfl rfl ?_
      refine z_iconst (v := 1) B0 dL_law_165 (by decide) ?_
      refine z_iadd (v := 1) B0 dL_law_166 (by decide) ?_
      refine y_sld (j := 1) (v := 1) B0 hX hbl (by decide) e1.symm dL_law_167 ?_
      refine z_aload_n B0 dL_law_168 rfl rfl ?_
      refine z_iload_n B0 dL_law_169 rfl rfl ?_
      refine z_iconst (v := 2) B0 dL_law_170 (by decide) ?_
      refine z_iadd (v := 2) B0 dL_law_171 (by decide) ?_
      refine y_sld (j := 2) (v := x2) B0 hX hbl (by decide) e2.symm dL_law_172 ?_
      refine z_callM B0 (z_runV (q0 := 0) (As := [.int 1, .int x2]) (st := [.int 0]) B0 (c_X12_coin_8 (a := a2) mS0 x2 ⟨by omega, by omega⟩) cf_X12_coin (mw_0 cy a2 mS0) rfl wm_L_17 wi_X12_coin ws_X12_coin dL_law_173 rfl (Nat.le_of_ble_eq_true rfl) ⟨by decide, by decide, by decide, by decide⟩) (fun r2 u2 p2 => ?_)
      obtain ⟨rfl, -⟩ := p2
      refine z_icmp_eq_t (tgt := 1091) B0 dL_law_176 (by decide) rfl ?_
      exact fin u1 u2
  · obtain rfl : x1 = 2 := Int32.toInt_inj.mp (h1.trans (by decide))
    rcases (show ((-2147483648) ≤ x2.toInt ∧ x2.toInt ≤ (-1)) ∨ (0 ≤ x2.toInt ∧ x2.toInt ≤ 15) ∨ (16 ≤ x2.toInt ∧ x2.toInt ≤ 2147483647) by have g1 := Int32.le_toInt x2; have g2 := Int32.toInt_lt x2; omega) with h2 | h2 | h2
    · refine z_aload_n B0 dL_law_148 rfl rfl ?_
      refine z_aload_n B0 dL_law_149 rfl rfl ?_
      refine z_iload_n B0 dL_law_150 rfl rfl ?_
      refine z_iconst (v := 1) B0 dL_law_151 (by decide) ?_
      refine z_iadd (v := 1) B0 dL_law_152 (by decide) ?_
      refine y_sld (j := 1) (v := 2) B0 hX hbl (by decide) e1.symm dL_law_153 ?_
      refine z_aload_n B0 dL_law_154 rfl rfl ?_
      refine z_iload_n B0 dL_law_155 rfl rfl ?_
      refine z_iconst (v := 2) B0 dL_law_156 (by decide) ?_
      refine z_iadd (v := 2) B0 dL_law_157 (by decide) ?_
      refine y_sld (j := 2) (v := x2) B0 hX hbl (by decide) e2.symm dL_law_158 ?_
      refine z_callC B0 (z_runV (q0 := 0) (As := [.int 2, .int x2]) (st := []) B0 (c_X11_coin_9 (a := a) (cS0 w) x2 ⟨by omega, by omega⟩) cf_X11_coin (cw_0 cy tE a rw (cS0 w)) rfl wm_L_13 wi_X11_coin ws_X11_coin dL_law_159 rfl (Nat.le_of_ble_eq_true rfl) ⟨by decide, by decide, by decide, by decide⟩) (fun r1 u1 p1 => ?_)
      obtain ⟨rfl, -⟩ := p1
      refine z_aload_n B0 dL_law_162 rfl rfl ?_
      refine z_aload_n B0 dL_law_163 rfl rfl ?_
      refine z_iload_n B0 dL_law_164 rfl rfl ?_
      refine z_iconst (v := 1) B0 dL_law_165 (by decide) ?_
      refine z_iadd (v := 1) B0 dL_law_166 (by decide) ?_
      refine y_sld (j := 1) (v := 2) B0 hX hbl (by decide) e1.symm dL_law_167 ?_
      refine z_aload_n B0 dL_law_168 rfl rfl ?_
      refine z_iload_n B0 dL_law_169 rfl rfl ?_
      refine z_iconst (v := 2) B0 dL_law_170 (by decide) ?_
      refine z_iadd (v := 2) B0 dL_law_171 (by decide) ?_
      refine y_sld (j := 2) (v := x2) B0 hX hbl (by decide) e2.symm dL_law_172 ?_
      refine z_callM B0 (z_runV (q0 := 0) (As := [.int 2, .int x2]) (st := [.int 0]) B0 (c_X12_coin_9 (a := a2) mS0 x2 ⟨by omega, by omega⟩) cf_X12_coin (mw_0 cy a2 mS0) rfl wm_L_17 wi_X12_coin ws_X12_coin dL_law_173 rfl (Nat.le_of_ble_eq_true rfl) ⟨by decide, by decide, by decide, by decide⟩) (fun r2 u2 p2 => ?_)
      obtain ⟨rfl, -⟩ := p2
      refine z_icmp_eq_t (tgt := 1091) B0 dL_law_176 (by decide) rfl ?_
      exact fin u1 u2
    · refine z_aload_n B0 dL_law_148 rfl rfl ?_
      refine z_aload_n B0 dL_law_149 rfl rfl ?_
      refine z_iload_n B0 dL_law_150 rfl rfl ?_
      refine z_iconst (v := 1) B0 dL_law_151 (by decide) ?_
      refine z_iadd (v := 1) B0 dL_law_152 (by decide) ?_
      refine y_sld (j := 1) (v := 2) B0 hX hbl (by decide) e1.symm dL_law_153 ?_
      refine z_aload_n B0 dL_law_154 rfl rfl ?_
      refine z_iload_n B0 dL_law_155 rfl rfl ?_
      refine z_iconst (v := 2) B0 dL_law_156 (by decide) ?_
      refine z_iadd (v := 2) B0 dL_law_157 (by decide) ?_
      refine y_sld (j := 2) (v := x2) B0 hX hbl (by decide) e2.symm dL_law_158 ?_
      refine z_callC B0 (z_runV (q0 := 0) (As := [.int 2, .int x2]) (st := []) B0 (c_X11_coin_10 (a := a) (cS0 w) x2 rfl ⟨by omega, by omega⟩) cf_X11_coin (cw_0 cy tE a rw (cS0 w)) rfl wm_L_13 wi_X11_coin ws_X11_coin dL_law_159 rfl (Nat.le_of_ble_eq_true rfl) ⟨by decide, by decide, by decide, by decide⟩) (fun r1 u1 p1 => ?_)
      obtain ⟨rfl, -⟩ := p1
      refine z_aload_n B0 dL_law_162 rfl rfl ?_
      refine z_aload_n B0 dL_law_163 rfl rfl ?_
      refine z_iload_n B0 dL_law_164 rfl rfl ?_
      refine z_iconst (v := 1) B0 dL_law_165 (by decide) ?_
      refine z_iadd (v := 1) B0 dL_law_166 (by decide) ?_
      refine y_sld (j := 1) (v := 2) B0 hX hbl (by decide) e1.symm dL_law_167 ?_
      refine z_aload_n B0 dL_law_168 rfl rfl ?_
      refine z_iload_n B0 dL_law_169 rfl rfl ?_
      refine z_iconst (v := 2) B0 dL_law_170 (by decide) ?_
      refine z_iadd (v := 2) B0 dL_law_171 (by decide) ?_
      refine y_sld (j := 2) (v := x2) B0 hX hbl (by decide) e2.symm dL_law_172 ?_
      refine z_callM B0 (z_runV (q0 := 0) (As := [.int 2, .int x2]) (st := [.int 1]) B0 (c_X12_coin_10 (a := a2) mS0 x2 rfl rfl rfl rfl rfl rfl rfl rfl rfl rfl rfl rfl rfl rfl rfl rfl rfl rfl rfl rfl rfl rfl rfl rfl rfl rfl ⟨by omega, by omega⟩) cf_X12_coin (mw_0 cy a2 mS0) rfl wm_L_17 wi_X12_coin ws_X12_coin dL_law_173 rfl (Nat.le_of_ble_eq_true rfl) ⟨by decide, by decide, by decide, by decide⟩) (fun r2 u2 p2 => ?_)
      obtain ⟨rfl, -⟩ := p2
      refine z_icmp_eq_t (tgt := 1091) B0 dL_law_176 (by decide) rfl ?_
      exact fin u1 u2
    · refine z_aload_n B0 dL_law_148 rfl rfl ?_
      refine z_aload_n B0 dL_law_149 rfl rfl ?_
      refine z_iload_n B0 dL_law_150 rfl rfl ?_
      refine z_iconst (v := 1) B0 dL_law_151 (by decide) ?_
      refine z_iadd (v := 1) B0 dL_law_152 (by decide) ?_
      refine y_sld (j := 1) (v := 2) B0 hX hbl (by decide) e1.symm dL_law_153 ?_
      refine z_aload_n B0 dL_law_154 rfl rfl ?_
      refine z_iload_n B0 dL_law_155 rfl rfl ?_
      refine z_iconst (v := 2) B0 dL_law_156 (by decide) ?_
      refine z_iadd (v := 2) B0 dL_law_157 (by decide) ?_
      refine y_sld (j := 2) (v := x2) B0 hX hbl (by decide) e2.symm dL_law_158 ?_
      refine z_callC B0 (z_runV (q0 := 0) (As := [.int 2, .int x2]) (st := []) B0 (c_X11_coin_11 (a := a) (cS0 w) x2 ⟨by omega, by omega⟩) cf_X11_coin (cw_0 cy tE a rw (cS0 w)) rfl wm_L_13 wi_X11_coin ws_X11_coin dL_law_159 rfl (Nat.le_of_ble_eq_true rfl) ⟨by decide, by decide, by decide, by decide⟩) (fun r1 u1 p1 => ?_)
      obtain ⟨rfl, -⟩ := p1
      refine z_aload_n B0 dL_law_162 rfl rfl ?_
      refine z_aload_n B0 dL_law_163 rfl rfl ?_
      refine z_iload_n B0 dL_law_164 rfl rfl ?_
      refine z_iconst (v := 1) B0 dL_law_165 (by decide) ?_
      refine z_iadd (v := 1) B0 dL_law_166 (by decide) ?_
      refine y_sld (j := 1) (v := 2) B0 hX hbl (by decide) e1.symm dL_law_167 ?_
      refine z_aload_n B0 dL_law_168 rfl rfl ?_
      refine z_iload_n B0 dL_law_169 rfl rfl ?_
      refine z_iconst (v := 2) B0 dL_law_170 (by decide) ?_
      refine z_iadd (v := 2) B0 dL_law_171 (by decide) ?_
      refine y_sld (j := 2) (v := x2) B0 hX hbl (by decide) e2.symm dL_law_172 ?_
      refine z_callM B0 (z_runV (q0 := 0) (As := [.int 2, .int x2]) (st := [.int 0]) B0 (c_X12_coin_11 (a := a2) mS0 x2 ⟨by omega, by omega⟩) cf_X12_coin (mw_0 cy a2 mS0) rfl wm_L_17 wi_X12_coin ws_X12_coin dL_law_173 rfl (Nat.le_of_ble_eq_true rfl) ⟨by decide, by decide, by decide, by decide⟩) (fun r2 u2 p2 => ?_)
      obtain ⟨rfl, -⟩ := p2
      refine z_icmp_eq_t (tgt := 1091) B0 dL_law_176 (by decide) rfl ?_
      exact fin u1 u2
  · refine z_aload_n B0 dL_law_148 rfl rfl ?_
    refine z_aload_n B0 dL_law_149 rfl rfl ?_
    refine z_iload_n B0 dL_law_150 rfl rfl ?_
    refine z_iconst (v := 1) B0 dL_law_151 (by decide) ?_
    refine z_iadd (v := 1) B0 dL_law_152 (by decide) ?_
    refine y_sld (j := 1) (v := x1) B0 hX hbl (by decide) e1.symm dL_law_153 ?_
    refine z_aload_n B0 dL_law_154 rfl rfl ?_
    refine z_iload_n B0 dL_law_155 rfl rfl ?_
    refine z_iconst (v := 2) B0 dL_law_156 (by decide) ?_
    refine z_iadd (v := 2) B0 dL_law_157 (by decide) ?_
    refine y_sld (j := 2) (v := x2) B0 hX hbl (by decide) e2.symm dL_law_158 ?_
    refine z_callC B0 (z_runV (q0 := 0) (As := [.int x1, .int x2]) (st := []) B0 (c_X11_coin_2 (a := a) (cS0 w) x1 x2 ⟨by omega, by omega⟩) cf_X11_coin (cw_0 cy tE a rw (cS0 w)) rfl wm_L_13 wi_X11_coin ws_X11_coin dL_law_159 rfl (Nat.le_of_ble_eq_true rfl) ⟨by decide, by decide, by decide, by decide⟩) (fun r1 u1 p1 => ?_)
    obtain ⟨rfl, -⟩ := p1
    refine z_aload_n B0 dL_law_162 rfl rfl ?_
    refine z_aload_n B0 dL_law_163 rfl rfl ?_
    refine z_iload_n B0 dL_law_164 rfl rfl ?_
    refine z_iconst (v := 1) B0 dL_law_165 (by decide) ?_
    refine z_iadd (v := 1) B0 dL_law_166 (by decide) ?_
    refine y_sld (j := 1) (v := x1) B0 hX hbl (by decide) e1.symm dL_law_167 ?_
    refine z_aload_n B0 dL_law_168 rfl rfl ?_
    refine z_iload_n B0 dL_law_169 rfl rfl ?_
    refine z_iconst (v := 2) B0 dL_law_170 (by decide) ?_
    refine z_iadd (v := 2) B0 dL_law_171 (by decide) ?_
    refine y_sld (j := 2) (v := x2) B0 hX hbl (by decide) e2.symm dL_law_172 ?_
    refine z_callM B0 (z_runV (q0 := 0) (As := [.int x1, .int x2]) (st := [.int 0]) B0 (c_X12_coin_2 (a := a2) mS0 x1 x2 ⟨by omega, by omega⟩) cf_X12_coin (mw_0 cy a2 mS0) rfl wm_L_17 wi_X12_coin ws_X12_coin dL_law_173 rfl (Nat.le_of_ble_eq_true rfl) ⟨by decide, by decide, by decide, by decide⟩) (fun r2 u2 p2 => ?_)
    obtain ⟨rfl, -⟩ := p2
    refine z_icmp_eq_t (tgt := 1091) B0 dL_law_176 (by decide) rfl ?_
    exact fin u1 u2

set_option maxHeartbeats 8000000 in
set_option maxRecDepth 100000 in
theorem lo_debt {p : Program} {l : Launch} {e : Env} {s : State} {m : MethodId} {below : List Frame} {meth : Method} {c : Code} {D : va_G} {cy : Nat → ClassId} {tB tE b : Nat} {a a2 : Nat → Nat} {rw : Nat → Option Nat} {xs : Nat → Int32} (B0 : Bz p room_1 s m #[Value.ref b] meth c D cy s.heap.size tB tE (fun q => s.heap.size ≤ q) 4 cL_law RL meth.sig.returnType meth.name 2048 84000 600000 7302250) (hX : va_X b 6 xs s s.heap) (hbl : b < s.heap.size) (hrw : ∀ i, i < 6 → rw i = some (a (36 + 2 * i))) (w : Nat → Int64) (fin : ∀ S S9 : GS, Z p l e room_1 s m #[Value.ref b] below meth c D (fun q => s.heap.size ≤ q) 4 (lw_Z below #[Value.ref b] s) 200 60000 (cw cy tE a rw S ++ mw cy a2 S9) [(3, .int 0), (2, .ref (a2 0)), (1, .ref (a 0)), (0, .ref b)] 1091 []) : Z p l e room_1 s m #[Value.ref b] below meth c D (fun q => s.heap.size ≤ q) 4 (lw_Z below #[Value.ref b] s) 200 60000 (cw cy tE a rw (cS0 w) ++ mw cy a2 mS0) [(3, .int 0), (2, .ref (a2 0)), (1, .ref (a 0)), (0, .ref b)] 181 [] := by
  obtain ⟨x1, e1⟩ : ∃ x, x = xs 1 := ⟨_, rfl⟩
  obtain ⟨x2, e2⟩ : ∃ x, x = xs 2 := ⟨_, rfl⟩
  obtain ⟨x3, e3⟩ : ∃ x, x = xs 3 := ⟨_, rfl⟩
  rcases (show ((-2147483648) ≤ x1.toInt ∧ x1.toInt ≤ (-1)) ∨ x1.toInt = 0 ∨ x1.toInt = 1 ∨ x1.toInt = 2 ∨ (3 ≤ x1.toInt ∧ x1.toInt ≤ 2147483647) by have g1 := Int32.le_toInt x1; have g2 := Int32.toInt_lt x1; omega) with h1 | h1 | h1 | h1 | h1
  · refine z_aload_n B0 dL_law_181 rfl rfl ?_
    refine z_aload_n B0 dL_law_182 rfl rfl ?_
    refine z_iload_n B0 dL_law_183 rfl rfl ?_
    refine z_iconst (v := 1) B0 dL_law_184 (by decide) ?_
    refine z_iadd (v := 1) B0 dL_law_185 (by decide) ?_
    refine y_sld (j := 1) (v := x1) B0 hX hbl (by decide) e1.symm dL_law_186 ?_
    refine z_aload_n B0 dL_law_187 rfl rfl ?_
    refine z_iload_n B0 dL_law_188 rfl rfl ?_
    refine z_iconst (v := 2) B0 dL_law_189 (by decide) ?_
    refine z_iadd (v := 2) B0 dL_law_190 (by decide) ?_
    refine y_sld (j := 2) (v := x2) B0 hX hbl (by decide) e2.symm dL_law_191 ?_
    refine z_aload_n B0 dL_law_192 rfl rfl ?_
    refine z_iload_n B0 dL_law_193 rfl rfl ?_
    refine z_iconst (v := 3) B0 dL_law_194 (by decide) ?_
    refine z_iadd (v := 3) B0 dL_law_195 (by decide) ?_
    refine y_sld (j := 3) (v := x3) B0 hX hbl (by decide) e3.symm dL_law_196 ?_
    refine z_callC B0 (z_runV (q0 := 0) (As := [.int x1, .int x2, .int x3]) (st := []) B0 (c_X11_debt (a := a) (cS0 w) x1 x2 x3 ⟨by omega, by omega⟩) cf_X11_debt (cw_0 cy tE a rw (cS0 w)) rfl wm_L_18 wi_X11_debt ws_X11_debt dL_law_197 rfl (Nat.le_of_ble_eq_true rfl) ⟨by decide, by decide, by decide, by decide⟩) (fun r1 u1 p1 => ?_)
    obtain ⟨rfl, -⟩ := p1
    refine z_aload_n B0 dL_law_200 rfl rfl ?_
    refine z_aload_n B0 dL_law_201 rfl rfl ?_
    refine z_iload_n B0 dL_law_202 rfl rfl ?_
    refine z_iconst (v := 1) B0 dL_law_203 (by decide) ?_
    refine z_iadd (v := 1) B0 dL_law_204 (by decide) ?_
    refine y_sld (j := 1) (v := x1) B0 hX hbl (by decide) e1.symm dL_law_205 ?_
    refine z_aload_n B0 dL_law_206 rfl rfl ?_
    refine z_iload_n B0 dL_law_207 rfl rfl ?_
    refine z_iconst (v := 2) B0 dL_law_208 (by decide) ?_
    refine z_iadd (v := 2) B0 dL_law_209 (by decide) ?_
    refine y_sld (j := 2) (v := x2) B0 hX hbl (by decide) e2.symm dL_law_210 ?_
    refine z_aload_n B0 dL_law_211 rfl rfl ?_
    refine z_iload_n B0 dL_law_212 rfl rfl ?_
    refine z_iconst (v := 3) B0 dL_law_213 (by decide) ?_
    refine z_iadd (v := 3) B0 dL_law_214 (by decide) ?_
    refine y_sld (j := 3) (v := x3) B0 hX hbl (by decide) e3.symm dL_law_215 ?_
    refine z_callM B0 (z_runV (q0 := 0) (As := [.int x1, .int x2, .int x3]) (st := [.int 0]) B0 (c_X12_debt (a := a2) mS0 x1 x2 x3 ⟨by omega, by omega⟩) cf_X12_debt (mw_0 cy a2 mS0) rfl wm_L_22 wi_X12_debt ws_X12_debt dL_law_216 rfl (Nat.le_of_ble_eq_true rfl) ⟨by decide, by decide, by decide, by decide⟩) (fun r2 u2 p2 => ?_)
    obtain ⟨rfl, -⟩ := p2
    refine z_icmp_eq_t (tgt := 1091) B0 dL_law_219 (by decide) rfl ?_
    exact fin u1 u2
  · obtain rfl : x1 = 0 := Int32.toInt_inj.mp (h1.trans (by decide))
    rcases (show ((-2147483648) ≤ x2.toInt ∧ x2.toInt ≤ (-1)) ∨ x2.toInt = 0 ∨ x2.toInt = 1 ∨ x2.toInt = 2 ∨ (3 ≤ x2.toInt ∧ x2.toInt ≤ 2147483647) by have g1 := Int32.le_toInt x2; have g2 := Int32.toInt_lt x2; omega) with h2 | h2 | h2 | h2 | h2
    · refine z_aload_n B0 dL_law_181 rfl rfl ?_
      refine z_aload_n B0 dL_law_182 rfl rfl ?_
      refine z_iload_n B0 dL_law_183 rfl rfl ?_
      refine z_iconst (v := 1) B0 dL_law_184 (by decide) ?_
      refine z_iadd (v := 1) B0 dL_law_185 (by decide) ?_
      refine y_sld (j := 1) (v := 0) B0 hX hbl (by decide) e1.symm dL_law_186 ?_
      refine z_aload_n B0 dL_law_187 rfl rfl ?_
      refine z_iload_n B0 dL_law_188 rfl rfl ?_
      refine z_iconst (v := 2) B0 dL_law_189 (by decide) ?_
      refine z_iadd (v := 2) B0 dL_law_190 (by decide) ?_
      refine y_sld (j := 2) (v := x2) B0 hX hbl (by decide) e2.symm dL_law_191 ?_
      refine z_aload_n B0 dL_law_192 rfl rfl ?_
      refine z_iload_n B0 dL_law_193 rfl rfl ?_
      refine z_iconst (v := 3) B0 dL_law_194 (by decide) ?_
      refine z_iadd (v := 3) B0 dL_law_195 (by decide) ?_
      refine y_sld (j := 3) (v := x3) B0 hX hbl (by decide) e3.symm dL_law_196 ?_
      refine z_callC B0 (z_runV (q0 := 0) (As := [.int 0, .int x2, .int x3]) (st := []) B0 (c_X11_debt_3 (a := a) (cS0 w) x2 x3 ⟨by omega, by omega⟩) cf_X11_debt (cw_0 cy tE a rw (cS0 w)) rfl wm_L_18 wi_X11_debt ws_X11_debt dL_law_197 rfl (Nat.le_of_ble_eq_true rfl) ⟨by decide, by decide, by decide, by decide⟩) (fun r1 u1 p1 => ?_)
      obtain ⟨rfl, -⟩ := p1
      refine z_aload_n B0 dL_law_200 rfl rfl ?_
      refine z_aload_n B0 dL_law_201 rfl rfl ?_
      refine z_iload_n B0 dL_law_202 rfl rfl ?_
      refine z_iconst (v := 1) B0 dL_law_203 (by decide) ?_
      refine z_iadd (v := 1) B0 dL_law_204 (by decide) ?_
      refine y_sld (j := 1) (v := 0) B0 hX hbl (by decide) e1.symm dL_law_205 ?_
      refine z_aload_n B0 dL_law_206 rfl rfl ?_
      refine z_iload_n B0 dL_law_207 rfl rfl ?_
      refine z_iconst (v := 2) B0 dL_law_208 (by decide) ?_
      refine z_iadd (v := 2) B0 dL_law_209 (by decide) ?_
      refine y_sld (j := 2) (v := x2) B0 hX hbl (by decide) e2.symm dL_law_210 ?_
      refine z_aload_n B0 dL_law_211 rfl rfl ?_
      refine z_iload_n B0 dL_law_212 rfl rfl ?_
      refine z_iconst (v := 3) B0 dL_law_213 (by decide) ?_
      refine z_iadd (v := 3) B0 dL_law_214 (by decide) ?_
      refine y_sld (j := 3) (v := x3) B0 hX hbl (by decide) e3.symm dL_law_215 ?_
      refine z_callM B0 (z_runV (q0 := 0) (As := [.int 0, .int x2, .int x3]) (st := [.int 0]) B0 (c_X12_debt_3 (a := a2) mS0 x2 x3 ⟨by omega, by omega⟩) cf_X12_debt (mw_0 cy a2 mS0) rfl wm_L_22 wi_X12_debt ws_X12_debt dL_law_216 rfl (Nat.le_of_ble_eq_true rfl) ⟨by decide, by decide, by decide, by decide⟩) (fun r2 u2 p2 => ?_)
      obtain ⟨rfl, -⟩ := p2
      refine z_icmp_eq_t (tgt := 1091) B0 dL_law_219 (by decide) rfl ?_
      exact fin u1 u2
    · obtain rfl : x2 = 0 := Int32.toInt_inj.mp (h2.trans (by decide))
      refine z_aload_n B0 dL_law_181 rfl rfl ?_
      refine z_aload_n B0 dL_law_182 rfl rfl ?_
      refine z_iload_n B0 dL_law_183 rfl rfl ?_
      refine z_iconst (v := 1) B0 dL_law_184 (by decide) ?_
      refine z_iadd (v := 1) B0 dL_law_185 (by decide) ?_
      refine y_sld (j := 1) (v := 0) B0 hX hbl (by decide) e1.symm dL_law_186 ?_
      refine z_aload_n B0 dL_law_187 rfl rfl ?_
      refine z_iload_n B0 dL_law_188 rfl rfl ?_
      refine z_iconst (v := 2) B0 dL_law_189 (by decide) ?_
      refine z_iadd (v := 2) B0 dL_law_190 (by decide) ?_
      refine y_sld (j := 2) (v := 0) B0 hX hbl (by decide) e2.symm dL_law_191 ?_
      refine z_aload_n B0 dL_law_192 rfl rfl ?_
      refine z_iload_n B0 dL_law_193 rfl rfl ?_
      refine z_iconst (v := 3) B0 dL_law_194 (by decide) ?_
      refine z_iadd (v := 3) B0 dL_law_195 (by decide) ?_
      refine y_sld (j := 3) (v := x3) B0 hX hbl (by decide) e3.symm dL_law_196 ?_
      refine z_callC B0 (z_runV (q0 := 0) (As := [.int 0, .int 0, .int x3]) (st := []) B0 (c_X11_debt_9 (a := a) (cS0 w) x3 ) cf_X11_debt (cw_0 cy tE a rw (cS0 w)) rfl wm_L_18 wi_X11_debt ws_X11_debt dL_law_197 rfl (Nat.le_of_ble_eq_true rfl) ⟨by decide, by decide, by decide, by decide⟩) (fun r1 u1 p1 => ?_)
      obtain ⟨rfl, -⟩ := p1
      refine z_aload_n B0 dL_law_200 rfl rfl ?_
      refine z_aload_n B0 dL_law_201 rfl rfl ?_
      refine z_iload_n B0 dL_law_202 rfl rfl ?_
      refine z_iconst (v := 1) B0 dL_law_203 (by decide) ?_
      refine z_iadd (v := 1) B0 dL_law_204 (by decide) ?_
      refine y_sld (j := 1) (v := 0) B0 hX hbl (by decide) e1.symm dL_law_205 ?_
      refine z_aload_n B0 dL_law_206 rfl rfl ?_
      refine z_iload_n B0 dL_law_207 rfl rfl ?_
      refine z_iconst (v := 2) B0 dL_law_208 (by decide) ?_
      refine z_iadd (v := 2) B0 dL_law_209 (by decide) ?_
      refine y_sld (j := 2) (v := 0) B0 hX hbl (by decide) e2.symm dL_law_210 ?_
      refine z_aload_n B0 dL_law_211 rfl rfl ?_
      refine z_iload_n B0 dL_law_212 rfl rfl ?_
      refine z_iconst (v := 3) B0 dL_law_213 (by decide) ?_
      refine z_iadd (v := 3) B0 dL_law_214 (by decide) ?_
      refine y_sld (j := 3) (v := x3) B0 hX hbl (by decide) e3.symm dL_law_215 ?_
      refine z_callM B0 (z_runV (q0 := 0) (As := [.int 0, .int 0, .int x3]) (st := [.int 0]) B0 (c_X12_debt_9 (a := a2) mS0 x3 ) cf_X12_debt (mw_0 cy a2 mS0) rfl wm_L_22 wi_X12_debt ws_X12_debt dL_law_216 rfl (Nat.le_of_ble_eq_true rfl) ⟨by decide, by decide, by decide, by decide⟩) (fun r2 u2 p2 => ?_)
      obtain ⟨rfl, -⟩ := p2
      refine z_icmp_eq_t (tgt := 1091) B0 dL_law_219 (by decide) rfl ?_
      exact fin u1 u2
    · obtain rfl : x2 = 1 := Int32.toInt_inj.mp (h2.trans (by decide))
      rcases (show ((-2147483648) ≤ x3.toInt ∧ x3.toInt ≤ (-1)) ∨ (0 ≤ x3.toInt ∧ x3.toInt ≤ 7) ∨ (8 ≤ x3.toInt ∧ x3.toInt ≤ 2147483647) by have g1 := Int32.le_toInt x3; have g2 := Int32.toInt_lt x3; omega) with h3 | h3 | h3
      · refine z_aload_n B0 dL_law_181 rfl rfl ?_
        refine z_aload_n B0 dL_law_182 rfl rfl ?_
        refine z_iload_n B0 dL_law_183 rfl rfl ?_
        refine z_iconst (v := 1) B0 dL_law_184 (by decide) ?_
        refine z_iadd (v := 1) B0 dL_law_185 (by decide) ?_
        refine y_sld (j := 1) (v := 0) B0 hX hbl (by decide) e1.symm dL_law_186 ?_
        refine z_aload_n B0 dL_law_187 rfl rfl ?_
        refine z_iload_n B0 dL_law_188 rfl rfl ?_
        refine z_iconst (v := 2) B0 dL_law_189 (by decide) ?_
        refine z_iadd (v := 2) B0 dL_law_190 (by decide) ?_
        refine y_sld (j := 2) (v := 1) B0 hX hbl (by decide) e2.symm dL_law_191 ?_
        refine z_aload_n B0 dL_law_192 rfl rfl ?_
        refine z_iload_n B0 dL_law_193 rfl rfl ?_
        refine z_iconst (v := 3) B0 dL_law_194 (by decide) ?_
        refine z_iadd (v := 3) B0 dL_law_195 (by decide) ?_
        refine y_sld (j := 3) (v := x3) B0 hX hbl (by decide) e3.symm dL_law_196 ?_
        refine z_callC B0 (z_runV (q0 := 0) (As := [.int 0, .int 1, .int x3]) (st := []) B0 (c_X11_debt_12 (a := a) (cS0 w) x3 ⟨by omega, by omega⟩) cf_X11_debt (cw_0 cy tE a rw (cS0 w)) rfl wm_L_18 wi_X11_debt ws_X11_debt dL_law_197 rfl (Nat.le_of_ble_eq_true rfl) ⟨by decide, by decide, by decide, by decide⟩) (fun r1 u1 p1 => ?_)
        obtain ⟨rfl, -⟩ := p1
        refine z_aload_n B0 dL_law_200 rfl rfl ?_
        refine z_aload_n B0 dL_law_201 rfl rfl ?_
        refine z_iload_n B0 dL_law_202 rfl rfl ?_
        refine z_iconst (v := 1) B0 dL_law_203 (by decide) ?_
        refine z_iadd (v := 1) B0 dL_law_204 (by decide) ?_
        refine y_sld (j := 1) (v := 0) B0 hX hbl (by decide) e1.symm dL_law_205 ?_
        refine z_aload_n B0 dL_law_206 rfl rfl ?_
        refine z_iload_n B0 dL_law_207 rfl rfl ?_
        refine z_iconst (v := 2) B0 dL_law_208 (by decide) ?_
        refine z_iadd (v := 2) B0 dL_law_209 (by decide) ?_
        refine y_sld (j := 2) (v := 1) B0 hX hbl (by decide) e2.symm dL_law_210 ?_
        refine z_aload_n B0 dL_law_211 rfl rfl ?_
        refine z_iload_n B0 dL_law_212 rfl rfl ?_
        refine z_iconst (v := 3) B0 dL_law_213 (by decide) ?_
        refine z_iadd (v := 3) B0 dL_law_214 (by decide) ?_
        refine y_sld (j := 3) (v := x3) B0 hX hbl (by decide) e3.symm dL_law_215 ?_
        refine z_callM B0 (z_runV (q0 := 0) (As := [.int 0, .int 1, .int x3]) (st := [.int 0]) B0 (c_X12_debt_12 (a := a2) mS0 x3 ⟨by omega, by omega⟩) cf_X12_debt (mw_0 cy a2 mS0) rfl wm_L_22 wi_X12_debt ws_X12_debt dL_law_216 rfl (Nat.le_of_ble_eq_true rfl) ⟨by decide, by decide, by decide, by decide⟩) (fun r2 u2 p2 => ?_)
        obtain ⟨rfl, -⟩ := p2
        refine z_icmp_eq_t (tgt := 1091) B0 dL_law_219 (by decide) rfl ?_
        exact fin u1 u2
      · refine z_aload_n B0 dL_law_181 rfl rfl ?_
        refine z_aload_n B0 dL_law_182 rfl rfl ?_
        refine z_iload_n B0 dL_law_183 rfl rfl ?_
        refine z_iconst (v := 1) B0 dL_law_184 (by decide) ?_
        refine z_iadd (v := 1) B0 dL_law_185 (by decide) ?_
        refine y_sld (j := 1) (v := 0) B0 hX hbl (by decide) e1.symm dL_law_186 ?_
        refine z_aload_n B0 dL_law_187 rfl rfl ?_
        refine z_iload_n B0 dL_law_188 rfl rfl ?_
        refine z_iconst (v := 2) B0 dL_law_189 (by decide) ?_
        refine z_iadd (v := 2) B0 dL_law_190 (by decide) ?_
        refine y_sld (j := 2) (v := 1) B0 hX hbl (by decide) e2.symm dL_law_191 ?_
        refine z_aload_n B0 dL_law_192 rfl rfl ?_
        refine z_iload_n B0 dL_law_193 rfl rfl ?_
        refine z_iconst (v := 3) B0 dL_law_194 (by decide) ?_
        refine z_iadd (v := 3) B0 dL_law_195 (by decide) ?_
        refine y_sld (j := 3) (v := x3) B0 hX hbl (by decide) e3.symm dL_law_196 ?_
        refine z_callC B0 (z_runV (q0 := 0) (As := [.int 0, .int 1, .int x3]) (st := []) B0 (c_X11_debt_13 (a := a) (cS0 w) x3 rfl ⟨by omega, by omega⟩) cf_X11_debt (cw_0 cy tE a rw (cS0 w)) rfl wm_L_18 wi_X11_debt ws_X11_debt dL_law_197 rfl (Nat.le_of_ble_eq_true rfl) ⟨by decide, by decide, by decide, by decide⟩) (fun r1 u1 p1 => ?_)
        obtain ⟨rfl, -⟩ := p1
        refine z_aload_n B0 dL_law_200 rfl rfl ?_
        refine z_aload_n B0 dL_law_201 rfl rfl ?_
        refine z_iload_n B0 dL_law_202 rfl rfl ?_
        refine z_iconst (v := 1) B0 dL_law_203 (by decide) ?_
        refine z_iadd (v := 1) B0 dL_law_204 (by decide) ?_
        refine y_sld (j := 1) (v := 0) B0 hX hbl (by decide) e1.symm dL_law_205 ?_
        refine z_aload_n B0 dL_law_206 rfl rfl ?_
        refine z_iload_n B0 dL_law_207 rfl rfl ?_
        refine z_iconst (v := 2) B0 dL_law_208 (by decide) ?_
        refine z_iadd (v := 2) B0 dL_law_209 (by decide) ?_
        refine y_sld (j := 2) (v := 1) B0 hX hbl (by decide) e2.symm dL_law_210 ?_
        refine z_aload_n B0 dL_law_211 rfl rfl ?_
        refine z_iload_n B0 dL_law_212 rfl rfl ?_
        refine z_iconst (v := 3) B0 dL_law_213 (by decide) ?_
        refine z_iadd (v := 3) B0 dL_law_214 (by decide) ?_
        refine y_sld (j := 3) (v := x3) B0 hX hbl (by decide) e3.symm dL_law_215 ?_
        refine z_callM B0 (z_runV (q0 := 0) (As := [.int 0, .int 1, .int x3]) (st := [.int 1]) B0 (c_X12_debt_13 (a := a2) mS0 x3 rfl rfl rfl rfl rfl rfl rfl rfl rfl rfl rfl rfl rfl rfl rfl rfl rfl rfl rfl rfl rfl rfl rfl rfl rfl rfl ⟨by omega, by omega⟩) cf_X12_debt (mw_0 cy a2 mS0) rfl wm_L_22 wi_X12_debt ws_X12_debt dL_law_216 rfl (Nat.le_of_ble_eq_true rfl) ⟨by decide, by decide, by decide, by decide⟩) (fun r2 u2 p2 => ?_)
        obtain ⟨rfl, -⟩ := p2
        refine z_icmp_eq_t (tgt := 1091) B0 dL_law_219 (by decide) rfl ?_
        exact fin u1 u2
      · refine z_aload_n B0 dL_law_181 rfl rfl ?_
        refine z_aload_n B0 dL_law_182 rfl rfl ?_
        refine z_iload_n B0 dL_law_183 rfl rfl ?_
        refine z_iconst (v := 1) B0 dL_law_184 (by decide) ?_
        refine z_iadd (v := 1) B0 dL_law_185 (by decide) ?_
        refine y_sld (j := 1) (v := 0) B0 hX hbl (by decide) e1.symm dL_law_186 ?_
        refine z_aload_n B0 dL_law_187 rfl rfl ?_
        refine z_iload_n B0 dL_law_188 rfl rfl ?_
        refine z_iconst (v := 2) B0 dL_law_189 (by decide) ?_
        refine z_iadd (v := 2) B0 dL_law_190 (by decide) ?_
        refine y_sld (j := 2) (v := 1) B0 hX hbl (by decide) e2.symm dL_law_191 ?_
        refine z_aload_n B0 dL_law_192 rfl rfl ?_
        refine z_iload_n B0 dL_law_193 rfl rfl ?_
        refine z_iconst (v := 3) B0 dL_law_194 (by decide) ?_
        refine z_iadd (v := 3) B0 dL_law_195 (by decide) ?_
        refine y_sld (j := 3) (v := x3) B0 hX hbl (by decide) e3.symm dL_law_196 ?_
        refine z_callC B0 (z_runV (q0 := 0) (As := [.int 0, .int 1, .int x3]) (st := []) B0 (c_X11_debt_14 (a := a) (cS0 w) x3 ⟨by omega, by omega⟩) cf_X11_debt (cw_0 cy tE a rw (cS0 w)) rfl wm_L_18 wi_X11_debt ws_X11_debt dL_law_197 rfl (Nat.le_of_ble_eq_true rfl) ⟨by decide, by decide, by decide, by decide⟩) (fun r1 u1 p1 => ?_)
        obtain ⟨rfl, -⟩ := p1
        refine z_aload_n B0 dL_law_200 rfl rfl ?_
        refine z_aload_n B0 dL_law_201 rfl rfl ?_
        refine z_iload_n B0 dL_law_202 rfl rfl ?_
        refine z_iconst (v := 1) B0 dL_law_203 (by decide) ?_
        refine z_iadd (v := 1) B0 dL_law_204 (by decide) ?_
        refine y_sld (j := 1) (v := 0) B0 hX hbl (by decide) e1.symm dL_law_205 ?_
        refine z_aload_n B0 dL_law_206 rfl rfl ?_
        refine z_iload_n B0 dL_law_207 rfl rfl ?_
        refine z_iconst (v := 2) B0 dL_law_208 (by decide) ?_
        refine z_iadd (v := 2) B0 dL_law_209 (by decide) ?_
        refine y_sld (j := 2) (v := 1) B0 hX hbl (by decide) e2.symm dL_law_210 ?_
        refine z_aload_n B0 dL_law_211 rfl rfl ?_
        refine z_iload_n B0 dL_law_212 rfl rfl ?_
        refine z_iconst (v := 3) B0 dL_law_213 (by decide) ?_
        refine z_iadd (v := 3) B0 dL_law_214 (by decide) ?_
        refine y_sld (j := 3) (v := x3) B0 hX hbl (by decide) e3.symm dL_law_215 ?_
        refine z_callM B0 (z_runV (q0 := 0) (As := [.int 0, .int 1, .int x3]) (st := [.int 0]) B0 (c_X12_debt_14 (a := a2) mS0 x3 ⟨by omega, by omega⟩) cf_X12_debt (mw_0 cy a2 mS0) rfl wm_L_22 wi_X12_debt ws_X12_debt dL_law_216 rfl (Nat.le_of_ble_eq_true rfl) ⟨by decide, by decide, by decide, by decide⟩) (fun r2 u2 p2 => ?_)
        obtain ⟨rfl, -⟩ := p2
        refine z_icmp_eq_t (tgt := 1091) B0 dL_law_219 (by decide) rfl ?_
        exact fin u1 u2
    · obtain rfl : x2 = 2 := Int32.toInt_inj.mp (h2.trans (by decide))
      rcases (show ((-2147483648) ≤ x3.toInt ∧ x3.toInt ≤ (-1)) ∨ (0 ≤ x3.toInt ∧ x3.toInt ≤ 7) ∨ (8 ≤ x3.toInt ∧ x3.toInt ≤ 2147483647) by have g1 := Int32.le_toInt x3; have g2 := Int32.toInt_lt x3; omega) with h3 | h3 | h3
      · refine z_aload_n B0 dL_law_181 rfl rfl ?_
        refine z_aload_n B0 dL_law_182 rfl rfl ?_
        refine z_iload_n B0 dL_law_183 rfl rfl ?_
        refine z_iconst (v := 1) B0 dL_law_184 (by decide) ?_
        refine z_iadd (v := 1) B0 dL_law_185 (by decide) ?_
        refine y_sld (j := 1) (v := 0) B0 hX hbl (by decide) e1.symm dL_law_186 ?_
        refine z_aload_n B0 dL_law_187 rfl rfl ?_
        refine z_iload_n B0 dL_law_188 rfl rfl ?_
        refine z_iconst (v := 2) B0 dL_law_189 (by decide) ?_
        refine z_iadd (v := 2) B0 dL_law_190 (by decide) ?_
        refine y_sld (j := 2) (v := 2) B0 hX hbl (by decide) e2.symm dL_law_191 ?_
        refine z_aload_n B0 dL_law_192 rfl rfl ?_
        refine z_iload_n B0 dL_law_193 rfl rfl ?_
        refine z_iconst (v := 3) B0 dL_law_194 (by decide) ?_
        refine z_iadd (v := 3) B0 dL_law_195 (by decide) ?_
        refine y_sld (j := 3) (v := x3) B0 hX hbl (by decide) e3.symm dL_law_196 ?_
        refine z_callC B0 (z_runV (q0 := 0) (As := [.int 0, .int 2, .int x3]) (st := []) B0 (c_X11_debt_15 (a := a) (cS0 w) x3 ⟨by omega, by omega⟩) cf_X11_debt (cw_0 cy tE a rw (cS0 w)) rfl wm_L_18 wi_X11_debt ws_X11_debt dL_law_197 rfl (Nat.le_of_ble_eq_true rfl) ⟨by decide, by decide, by decide, by decide⟩) (fun r1 u1 p1 => ?_)
        obtain ⟨rfl, -⟩ := p1
        refine z_aload_n B0 dL_law_200 rfl rfl ?_
        refine z_aload_n B0 dL_law_201 rfl rfl ?_
        refine z_iload_n B0 dL_law_202 rfl rfl ?_
        refine z_iconst (v := 1) B0 dL_law_203 (by decide) ?_
        refine z_iadd (v := 1) B0 dL_law_204 (by decide) ?_
        refine y_sld (j := 1) (v := 0) B0 hX hbl (by decide) e1.symm dL_law_205 ?_
        refine z_aload_n B0 dL_law_206 rfl rfl ?_
        refine z_iload_n B0 dL_law_207 rfl rfl ?_
        refine z_iconst (v := 2) B0 dL_law_208 (by decide) ?_
        refine z_iadd (v := 2) B0 dL_law_209 (by decide) ?_
        refine y_sld (j := 2) (v := 2) B0 hX hbl (by decide) e2.symm dL_law_210 ?_
        refine z_aload_n B0 dL_law_211 rfl rfl ?_
        refine z_iload_n B0 dL_law_212 rfl rfl ?_
        refine z_iconst (v := 3) B0 dL_law_213 (by decide) ?_
        refine z_iadd (v := 3) B0 dL_law_214 (by decide) ?_
        refine y_sld (j := 3) (v := x3) B0 hX hbl (by decide) e3.symm dL_law_215 ?_
        refine z_callM B0 (z_runV (q0 := 0) (As := [.int 0, .int 2, .int x3]) (st := [.int 0]) B0 (c_X12_debt_15 (a := a2) mS0 x3 ⟨by omega, by omega⟩) cf_X12_debt (mw_0 cy a2 mS0) rfl wm_L_22 wi_X12_debt ws_X12_debt dL_law_216 rfl (Nat.le_of_ble_eq_true rfl) ⟨by decide, by decide, by decide, by decide⟩) (fun r2 u2 p2 => ?_)
        obtain ⟨rfl, -⟩ := p2
        refine z_icmp_eq_t (tgt := 1091) B0 dL_law_219 (by decide) rfl ?_
        exact fin u1 u2
      · refine z_aload_n B0 dL_law_181 rfl rfl ?_
        refine z_aload_n B0 dL_law_182 rfl rfl ?_
        refine z_iload_n B0 dL_law_183 rfl rfl ?_
        refine z_iconst (v := 1) B0 dL_law_184 (by decide) ?_
        refine z_iadd (v := 1) B0 dL_law_185 (by decide) ?_
        refine y_sld (j := 1) (v := 0) B0 hX hbl (by decide) e1.symm dL_law_186 ?_
        refine z_aload_n B0 dL_law_187 rfl rfl ?_
        refine z_iload_n B0 dL_law_188 rfl rfl ?_
        refine z_iconst (v := 2) B0 dL_law_189 (by decide) ?_
        refine z_iadd (v := 2) B0 dL_law_190 (by decide) ?_
        refine y_sld (j := 2) (v := 2) B0 hX hbl (by decide) e2.symm dL_law_191 ?_
        refine z_aload_n B0 dL_law_192 rfl rfl ?_
        refine z_iload_n B0 dL_law_193 rfl rfl ?_
        refine z_iconst (v := 3) B0 dL_law_194 (by decide) ?_
        refine z_iadd (v := 3) B0 dL_law_195 (by decide) ?_
        refine y_sld (j := 3) (v := x3) B0 hX hbl (by decide) e3.symm dL_law_196 ?_
        refine z_callC B0 (z_runV (q0 := 0) (As := [.int 0, .int 2, .int x3]) (st := []) B0 (c_X11_debt_16 (a := a) (cS0 w) x3 rfl ⟨by omega, by omega⟩) cf_X11_debt (cw_0 cy tE a rw (cS0 w)) rfl wm_L_18 wi_X11_debt ws_X11_debt dL_law_197 rfl (Nat.le_of_ble_eq_true rfl) ⟨by decide, by decide, by decide, by decide⟩) (fun r1 u1 p1 => ?_)
        obtain ⟨rfl, -⟩ := p1
        refine z_aload_n B0 dL_law_200 rfl rfl ?_
        refine z_aload_n B0 dL_law_201 rfl rfl ?_
        refine z_iload_n B0 dL_law_202 rfl rfl ?_
        refine z_iconst (v := 1) B0 dL_law_203 (by decide) ?_
        refine z_iadd (v := 1) B0 dL_law_204 (by decide) ?_
        refine y_sld (j := 1) (v := 0) B0 hX hbl (by decide) e1.symm dL_law_205 ?_
        refine z_aload_n B0 dL_law_206 rfl rfl ?_
        refine z_iload_n B0 dL_law_207 rfl rfl ?_
        refine z_iconst (v := 2) B0 dL_law_208 (by decide) ?_
        refine z_iadd (v := 2) B0 dL_law_209 (by decide) ?_
        refine y_sld (j := 2) (v := 2) B0 hX hbl (by decide) e2.symm dL_law_210 ?_
        refine z_aload_n B0 dL_law_211 rfl rfl ?_
        refine z_iload_n B0 dL_law_212 rfl rfl ?_
        refine z_iconst (v := 3) B0 dL_law_213 (by decide) ?_
        refine z_iadd (v := 3) B0 dL_law_214 (by decide) ?_
        refine y_sld (j := 3) (v := x3) B0 hX hbl (by decide) e3.symm dL_law_215 ?_
        refine z_callM B0 (z_runV (q0 := 0) (As := [.int 0, .int 2, .int x3]) (st := [.int 1]) B0 (c_X12_debt_16 (a := a2) mS0 x3 rfl rfl rfl rfl rfl rfl rfl rfl rfl rfl rfl rfl rfl rfl rfl rfl rfl rfl rfl rfl rfl rfl rfl rfl rfl rfl ⟨by omega, by omega⟩) cf_X12_debt (mw_0 cy a2 mS0) rfl wm_L_22 wi_X12_debt ws_X12_debt dL_law_216 rfl (Nat.le_of_ble_eq_true rfl) ⟨by decide, by decide, by decide, by decide⟩) (fun r2 u2 p2 => ?_)
        obtain ⟨rfl, -⟩ := p2
        refine z_icmp_eq_t (tgt := 1091) B0 dL_law_219 (by decide) rfl ?_
        exact fin u1 u2
      · refine z_aload_n B0 dL_law_181 rfl rfl ?_
        refine z_aload_n B0 dL_law_182 rfl rfl ?_
        refine z_iload_n B0 dL_law_183 rfl rfl ?_
        refine z_iconst (v := 1) B0 dL_law_184 (by decide) ?_
        refine z_iadd (v := 1) B0 dL_law_185 (by decide) ?_
        refine y_sld (j := 1) (v := 0) B0 hX hbl (by decide) e1.symm dL_law_186 ?_
        refine z_aload_n B0 dL_law_187 rfl rfl ?_
        refine z_iload_n B0 dL_law_188 rfl rfl ?_
        refine z_iconst (v := 2) B0 dL_law_189 (by decide) ?_
        refine z_iadd (v := 2) B0 dL_law_190 (by decide) ?_
        refine y_sld (j := 2) (v := 2) B0 hX hbl (by decide) e2.symm dL_law_191 ?_
        refine z_aload_n B0 dL_law_192 rfl rfl ?_
        refine z_iload_n B0 dL_law_193 rfl rfl ?_
        refine z_iconst (v := 3) B0 dL_law_194 (by decide) ?_
        refine z_iadd (v := 3) B0 dL_law_195 (by decide) ?_
        refine y_sld (j := 3) (v := x3) B0 hX hbl (by decide) e3.symm dL_law_196 ?_
        refine z_callC B0 (z_runV (q0 := 0) (As := [.int 0, .int 2, .int x3]) (st := []) B0 (c_X11_debt_17 (a := a) (cS0 w) x3 ⟨by omega, by omega⟩) cf_X11_debt (cw_0 cy tE a rw (cS0 w)) rfl wm_L_18 wi_X11_debt ws_X11_debt dL_law_197 rfl (Nat.le_of_ble_eq_true rfl) ⟨by decide, by decide, by decide, by decide⟩) (fun r1 u1 p1 => ?_)
        obtain ⟨rfl, -⟩ := p1
        refine z_aload_n B0 dL_law_200 rfl rfl ?_
        refine z_aload_n B0 dL_law_201 rfl rfl ?_
        refine z_iload_n B0 dL_law_202 rfl rfl ?_
        refine z_iconst (v := 1) B0 dL_law_203 (by decide) ?_
        refine z_iadd (v := 1) B0 dL_law_204 (by decide) ?_
        refine y_sld (j := 1) (v := 0) B0 hX hbl (by decide) e1.symm dL_law_205 ?_
        refine z_aload_n B0 dL_law_206 rfl rfl ?_
        refine z_iload_n B0 dL_law_207 rfl rfl ?_
        refine z_iconst (v := 2) B0 dL_law_208 (by decide) ?_
        refine z_iadd (v := 2) B0 dL_law_209 (by decide) ?_
        refine y_sld (j := 2) (v := 2) B0 hX hbl (by decide) e2.symm dL_law_210 ?_
        refine z_aload_n B0 dL_law_211 rfl rfl ?_
        refine z_iload_n B0 dL_law_212 rfl rfl ?_
        refine z_iconst (v := 3) B0 dL_law_213 (by decide) ?_
        refine z_iadd (v := 3) B0 dL_law_214 (by decide) ?_
        refine y_sld (j := 3) (v := x3) B0 hX hbl (by decide) e3.symm dL_law_215 ?_
        refine z_callM B0 (z_runV (q0 := 0) (As := [.int 0, .int 2, .int x3]) (st := [.int 0]) B0 (c_X12_debt_17 (a := a2) mS0 x3 ⟨by omega, by omega⟩) cf_X12_debt (mw_0 cy a2 mS0) rfl wm_L_22 wi_X12_debt ws_X12_debt dL_law_216 rfl (Nat.le_of_ble_eq_true rfl) ⟨by decide, by decide, by decide, by decide⟩) (fun r2 u2 p2 => ?_)
        obtain ⟨rfl, -⟩ := p2
        refine z_icmp_eq_t (tgt := 1091) B0 dL_law_219 (by decide) rfl ?_
        exact fin u1 u2
    · refine z_aload_n B0 dL_law_181 rfl rfl ?_
      refine z_aload_n B0 dL_law_182 rfl rfl ?_
      refine z_iload_n B0 dL_law_183 rfl rfl ?_
      refine z_iconst (v := 1) B0 dL_law_184 (by decide) ?_
      refine z_iadd (v := 1) B0 dL_law_185 (by decide) ?_
      refine y_sld (j := 1) (v := 0) B0 hX hbl (by decide) e1.symm dL_law_186 ?_
      refine z_aload_n B0 dL_law_187 rfl rfl ?_
      refine z_iload_n B0 dL_law_188 rfl rfl ?_
      refine z_iconst (v := 2) B0 dL_law_189 (by decide) ?_
      refine z_iadd (v := 2) B0 dL_law_190 (by decide) ?_
      refine y_sld (j := 2) (v := x2) B0 hX hbl (by decide) e2.symm dL_law_191 ?_
      refine z_aload_n B0 dL_law_192 rfl rfl ?_
      refine z_iload_n B0 dL_law_193 rfl rfl ?_
      refine z_iconst (v := 3) B0 dL_law_194 (by decide) ?_
      refine z_iadd (v := 3) B0 dL_law_195 (by decide) ?_
      refine y_sld (j := 3) (v := x3) B0 hX hbl (by decide) e3.symm dL_law_196 ?_
      refine z_callC B0 (z_runV (q0 := 0) (As := [.int 0, .int x2, .int x3]) (st := []) B0 (c_X11_debt_4 (a := a) (cS0 w) x2 x3 ⟨by omega, by omega⟩) cf_X11_debt (cw_0 cy tE a rw (cS0 w)) rfl wm_L_18 wi_X11_debt ws_X11_debt dL_law_197 rfl (Nat.le_of_ble_eq_true rfl) ⟨by decide, by decide, by decide, by decide⟩) (fun r1 u1 p1 => ?_)
      obtain ⟨rfl, -⟩ := p1
      refine z_aload_n B0 dL_law_200 rfl rfl ?_
      refine z_aload_n B0 dL_law_201 rfl rfl ?_
      refine z_iload_n B0 dL_law_202 rfl rfl ?_
      refine z_iconst (v := 1) B0 dL_law_203 (by decide) ?_
      refine z_iadd (v := 1) B0 dL_law_204 (by decide) ?_
      refine y_sld (j := 1) (v := 0) B0 hX hbl (by decide) e1.symm dL_law_205 ?_
      refine z_aload_n B0 dL_law_206 rfl rfl ?_
      refine z_iload_n B0 dL_law_207 rfl rfl ?_
      refine z_iconst (v := 2) B0 dL_law_208 (by decide) ?_
      refine z_iadd (v := 2) B0 dL_law_209 (by decide) ?_
      refine y_sld (j := 2) (v := x2) B0 hX hbl (by decide) e2.symm dL_law_210 ?_
      refine z_aload_n B0 dL_law_211 rfl rfl ?_
      refine z_iload_n B0 dL_law_212 rfl rfl ?_
      refine z_iconst (v := 3) B0 dL_law_213 (by decide) ?_
      refine z_iadd (v := 3) B0 dL_law_214 (by decide) ?_
      refine y_sld (j := 3) (v := x3) B0 hX hbl (by decide) e3.symm dL_law_215 ?_
      refine z_callM B0 (z_runV (q0 := 0) (As := [.int 0, .int x2, .int x3]) (st := [.int 0]) B0 (c_X12_debt_4 (a := a2) mS0 x2 x3 ⟨by omega, by omega⟩) cf_X12_debt (mw_0 cy a2 mS0) rfl wm_L_22 wi_X12_debt ws_X12_debt dL_law_216 rfl (Nat.le_of_ble_eq_true rfl) ⟨by decide, by decide, by decide, by decide⟩) (fun r2 u2 p2 => ?_)
      obtain ⟨rfl, -⟩ := p2
      refine z_icmp_eq_t (tgt := 1091) B0 dL_law_219 (by decide) rfl ?_
      exact fin u1 u2
  · obtain rfl : x1 = 1 := Int32.toInt_inj.mp (h1.trans (by decide))
    rcases (show ((-2147483648) ≤ x2.toInt ∧ x2.toInt ≤ (-1)) ∨ x2.toInt = 0 ∨ x2.toInt = 1 ∨ x2.toInt = 2 ∨ (3 ≤ x2.toInt ∧ x2.toInt ≤ 2147483647) by have g1 := Int32.le_toInt x2; have g2 := Int32.toInt_lt x2; omega) with h2 | h2 | h2 | h2 | h2
    · refine z_aload_n B0 dL_law_181 rfl rfl ?_
      refine z_aload_n B0 dL_law_182 rfl rfl ?_
      refine z_iload_n B0 dL_law_183 rfl rfl ?_
      refine z_iconst (v := 1) B0 dL_law_184 (by decide) ?_
      refine z_iadd (v := 1) B0 dL_law_185 (by decide) ?_
      refine y_sld (j := 1) (v := 1) B0 hX hbl (by decide) e1.symm dL_law_186 ?_
      refine z_aload_n B0 dL_law_187 rfl rfl ?_
      refine z_iload_n B0 dL_law_188 rfl rfl ?_
      refine z_iconst (v := 2) B0 dL_law_189 (by decide) ?_
      refine z_iadd (v := 2) B0 dL_law_190 (by decide) ?_
      refine y_sld (j := 2) (v := x2) B0 hX hbl (by decide) e2.symm dL_law_191 ?_
      refine z_aload_n B0 dL_law_192 rfl rfl ?_
      refine z_iload_n B0 dL_law_193 rfl rfl ?_
      refine z_iconst (v := 3) B0 dL_law_194 (by decide) ?_
      refine z_iadd (v := 3) B0 dL_law_195 (by decide) ?_
      refine y_sld (j := 3) (v := x3) B0 hX hbl (by decide) e3.symm dL_law_196 ?_
      refine z_callC B0 (z_runV (q0 := 0) (As := [.int 1, .int x2, .int x3]) (st := []) B0 (c_X11_debt_5 (a := a) (cS0 w) x2 x3 ⟨by omega, by omega⟩) cf_X11_debt (cw_0 cy tE a rw (cS0 w)) rfl wm_L_18 wi_X11_debt ws_X11_debt dL_law_197 rfl (Nat.le_of_ble_eq_true rfl) ⟨by decide, by decide, by decide, by decide⟩) (fun r1 u1 p1 => ?_)
      obtain ⟨rfl, -⟩ := p1
      refine z_aload_n B0 dL_law_200 rfl rfl ?_
      refine z_aload_n B0 dL_law_201 rfl rfl ?_
      refine z_iload_n B0 dL_law_202 rfl rfl ?_
      refine z_iconst (v := 1) B0 dL_law_203 (by decide) ?_
      refine z_iadd (v := 1) B0 dL_law_204 (by decide) ?_
      refine y_sld (j := 1) (v := 1) B0 hX hbl (by decide) e1.symm dL_law_205 ?_
      refine z_aload_n B0 dL_law_206 rfl rfl ?_
      refine z_iload_n B0 dL_law_207 rfl rfl ?_
      refine z_iconst (v := 2) B0 dL_law_208 (by decide) ?_
      refine z_iadd (v := 2) B0 dL_law_209 (by decide) ?_
      refine y_sld (j := 2) (v := x2) B0 hX hbl (by decide) e2.symm dL_law_210 ?_
      refine z_aload_n B0 dL_law_211 rfl rfl ?_
      refine z_iload_n B0 dL_law_212 rfl rfl ?_
      refine z_iconst (v := 3) B0 dL_law_213 (by decide) ?_
      refine z_iadd (v := 3) B0 dL_law_214 (by decide) ?_
      refine y_sld (j := 3) (v := x3) B0 hX hbl (by decide) e3.symm dL_law_215 ?_
      refine z_callM B0 (z_runV (q0 := 0) (As := [.int 1, .int x2, .int x3]) (st := [.int 0]) B0 (c_X12_debt_5 (a := a2) mS0 x2 x3 ⟨by omega, by omega⟩) cf_X12_debt (mw_0 cy a2 mS0) rfl wm_L_22 wi_X12_debt ws_X12_debt dL_law_216 rfl (Nat.le_of_ble_eq_true rfl) ⟨by decide, by decide, by decide, by decide⟩) (fun r2 u2 p2 => ?_)
      obtain ⟨rfl, -⟩ := p2
      refine z_icmp_eq_t (tgt := 1091) B0 dL_law_219 (by decide) rfl ?_
      exact fin u1 u2
    · obtain rfl : x2 = 0 := Int32.toInt_inj.mp (h2.trans (by decide))
      rcases (show ((-2147483648) ≤ x3.toInt ∧ x3.toInt ≤ (-1)) ∨ (0 ≤ x3.toInt ∧ x3.toInt ≤ 7) ∨ (8 ≤ x3.toInt ∧ x3.toInt ≤ 2147483647) by have g1 := Int32.le_toInt x3; have g2 := Int32.toInt_lt x3; omega) with h3 | h3 | h3
      · refine z_aload_n B0 dL_law_181 rfl rfl ?_
        refine z_aload_n B0 dL_law_182 rfl rfl ?_
        refine z_iload_n B0 dL_law_183 rfl rfl ?_
        refine z_iconst (v := 1) B0 dL_law_184 (by decide) ?_
        refine z_iadd (v := 1) B0 dL_law_185 (by decide) ?_
        refine y_sld (j := 1) (v := 1) B0 hX hbl (by decide) e1.symm dL_law_186 ?_
        refine z_aload_n B0 dL_law_187 rfl rfl ?_
        refine z_iload_n B0 dL_law_188 rfl rfl ?_
        refine z_iconst (v := 2) B0 dL_law_189 (by decide) ?_
        refine z_iadd (v := 2) B0 dL_law_190 (by decide) ?_
        refine y_sld (j := 2) (v := 0) B0 hX hbl (by decide) e2.symm dL_law_191 ?_
        refine z_aload_n B0 dL_law_192 rfl rfl ?_
        refine z_iload_n B0 dL_law_193 rfl rfl ?_
        refine z_iconst (v := 3) B0 dL_law_194 (by decide) ?_
        refine z_iadd (v := 3) B0 dL_law_195 (by decide) ?_
        refine y_sld (j := 3) (v := x3) B0 hX hbl (by decide) e3.symm dL_law_196 ?_
        refine z_callC B0 (z_runV (q0 := 0) (As := [.int 1, .int 0, .int x3]) (st := []) B0 (c_X11_debt_18 (a := a) (cS0 w) x3 ⟨by omega, by omega⟩) cf_X11_debt (cw_0 cy tE a rw (cS0 w)) rfl wm_L_18 wi_X11_debt ws_X11_debt dL_law_197 rfl (Nat.le_of_ble_eq_true rfl) ⟨by decide, by decide, by decide, by decide⟩) (fun r1 u1 p1 => ?_)
        obtain ⟨rfl, -⟩ := p1
        refine z_aload_n B0 dL_law_200 rfl rfl ?_
        refine z_aload_n B0 dL_law_201 rfl rfl ?_
        refine z_iload_n B0 dL_law_202 rfl rfl ?_
        refine z_iconst (v := 1) B0 dL_law_203 (by decide) ?_
        refine z_iadd (v := 1) B0 dL_law_204 (by decide) ?_
        refine y_sld (j := 1) (v := 1) B0 hX hbl (by decide) e1.symm dL_law_205 ?_
        refine z_aload_n B0 dL_law_206 rfl rfl ?_
        refine z_iload_n B0 dL_law_207 rfl rfl ?_
        refine z_iconst (v := 2) B0 dL_law_208 (by decide) ?_
        refine z_iadd (v := 2) B0 dL_law_209 (by decide) ?_
        refine y_sld (j := 2) (v := 0) B0 hX hbl (by decide) e2.symm dL_law_210 ?_
        refine z_aload_n B0 dL_law_211 rfl rfl ?_
        refine z_iload_n B0 dL_law_212 rfl rfl ?_
        refine z_iconst (v := 3) B0 dL_law_213 (by decide) ?_
        refine z_iadd (v := 3) B0 dL_law_214 (by decide) ?_
        refine y_sld (j := 3) (v := x3) B0 hX hbl (by decide) e3.symm dL_law_215 ?_
        refine z_callM B0 (z_runV (q0 := 0) (As := [.int 1, .int 0, .int x3]) (st := [.int 0]) B0 (c_X12_debt_18 (a := a2) mS0 x3 ⟨by omega, by omega⟩) cf_X12_debt (mw_0 cy a2 mS0) rfl wm_L_22 wi_X12_debt ws_X12_debt dL_law_216 rfl (Nat.le_of_ble_eq_true rfl) ⟨by decide, by decide, by decide, by decide⟩) (fun r2 u2 p2 => ?_)
        obtain ⟨rfl, -⟩ := p2
        refine z_icmp_eq_t (tgt := 1091) B0 dL_law_219 (by decide) rfl ?_
        exact fin u1 u2
      · refine z_aload_n B0 dL_law_181 rfl rfl ?_
        refine z_aload_n B0 dL_law_182 rfl rfl ?_
        refine z_iload_n B0 dL_law_183 rfl rfl ?_
        refine z_iconst (v := 1) B0 dL_law_184 (by decide) ?_
        refine z_iadd (v := 1) B0 dL_law_185 (by decide) ?_
        refine y_sld (j := 1) (v := 1) B0 hX hbl (by decide) e1.symm dL_law_186 ?_
        refine z_aload_n B0 dL_law_187 rfl rfl ?_
        refine z_iload_n B0 dL_law_188 rfl rfl ?_
        refine z_iconst (v := 2) B0 dL_law_189 (by decide) ?_
        refine z_iadd (v := 2) B0 dL_law_190 (by decide) ?_
        refine y_sld (j := 2) (v := 0) B0 hX hbl (by decide) e2.symm dL_law_191 ?_
        refine z_aload_n B0 dL_law_192 rfl rfl ?_
        refine z_iload_n B0 dL_law_193 rfl rfl ?_
        refine z_iconst (v := 3) B0 dL_law_194 (by decide) ?_
        refine z_iadd (v := 3) B0 dL_law_195 (by decide) ?_
        refine y_sld (j := 3) (v := x3) B0 hX hbl (by decide) e3.symm dL_law_196 ?_
        refine z_callC B0 (z_runV (q0 := 0) (As := [.int 1, .int 0, .int x3]) (st := []) B0 (c_X11_debt_19 (a := a) (cS0 w) x3 rfl ⟨by omega, by omega⟩) cf_X11_debt (cw_0 cy tE a rw (cS0 w)) rfl wm_L_18 wi_X11_debt ws_X11_debt dL_law_197 rfl (Nat.le_of_ble_eq_true rfl) ⟨by decide, by decide, by decide, by decide⟩) (fun r1 u1 p1 => ?_)
        obtain ⟨rfl, -⟩ := p1
        refine z_aload_n B0 dL_law_200 rfl rfl ?_
        refine z_aload_n B0 dL_law_201 rfl rfl ?_
        refine z_iload_n B0 dL_law_202 rfl rfl ?_
        refine z_iconst (v := 1) B0 dL_law_203 (by decide) ?_
        refine z_iadd (v := 1) B0 dL_law_204 (by decide) ?_
        refine y_sld (j := 1) (v := 1) B0 hX hbl (by decide) e1.symm dL_law_205 ?_
        refine z_aload_n B0 dL_law_206 rfl rfl ?_
        refine z_iload_n B0 dL_law_207 rfl rfl ?_
        refine z_iconst (v := 2) B0 dL_law_208 (by decide) ?_
        refine z_iadd (v := 2) B0 dL_law_209 (by decide) ?_
        refine y_sld (j := 2) (v := 0) B0 hX hbl (by decide) e2.symm dL_law_210 ?_
        refine z_aload_n B0 dL_law_211 rfl rfl ?_
        refine z_iload_n B0 dL_law_212 rfl rfl ?_
        refine z_iconst (v := 3) B0 dL_law_213 (by decide) ?_
        refine z_iadd (v := 3) B0 dL_law_214 (by decide) ?_
        refine y_sld (j := 3) (v := x3) B0 hX hbl (by decide) e3.symm dL_law_215 ?_
        refine z_callM B0 (z_runV (q0 := 0) (As := [.int 1, .int 0, .int x3]) (st := [.int 1]) B0 (c_X12_debt_19 (a := a2) mS0 x3 rfl rfl rfl rfl rfl rfl rfl rfl rfl rfl rfl rfl rfl rfl rfl rfl rfl rfl rfl rfl rfl rfl rfl rfl rfl rfl ⟨by omega, by omega⟩) cf_X12_debt (mw_0 cy a2 mS0) rfl wm_L_22 wi_X12_debt ws_X12_debt dL_law_216 rfl (Nat.le_of_ble_eq_true rfl) ⟨by decide, by decide, by decide, by decide⟩) (fun r2 u2 p2 => ?_)
        obtain ⟨rfl, -⟩ := p2
        refine z_icmp_eq_t (tgt := 1091) B0 dL_law_219 (by decide) rfl ?_
        exact fin u1 u2
      · refine z_aload_n B0 dL_law_181 rfl rfl ?_
        refine z_aload_n B0 dL_law_182 rfl rfl ?_
        refine z_iload_n B0 dL_law_183 rfl rfl ?_
        refine z_iconst (v := 1) B0 dL_law_184 (by decide) ?_
        refine z_iadd (v := 1) B0 dL_law_185 (by decide) ?_
        refine y_sld (j := 1) (v := 1) B0 hX hbl (by decide) e1.symm dL_law_186 ?_
        refine z_aload_n B0 dL_law_187 rfl rfl ?_
        refine z_iload_n B0 dL_law_188 rfl rfl ?_
        refine z_iconst (v := 2) B0 dL_law_189 (by decide) ?_
        refine z_iadd (v := 2) B0 dL_law_190 (by decide) ?_
        refine y_sld (j := 2) (v := 0) B0 hX hbl (by decide) e2.symm dL_law_191 ?_
        refine z_aload_n B0 dL_law_192 rfl rfl ?_
        refine z_iload_n B0 dL_law_193 rfl rfl ?_
        refine z_iconst (v := 3) B0 dL_law_194 (by decide) ?_
        refine z_iadd (v := 3) B0 dL_law_195 (by decide) ?_
        refine y_sld (j := 3) (v := x3) B0 hX hbl (by decide) e3.symm dL_law_196 ?_
        refine z_callC B0 (z_runV (q0 := 0) (As := [.int 1, .int 0, .int x3]) (st := []) B0 (c_X11_debt_20 (a := a) (cS0 w) x3 ⟨by omega, by omega⟩) cf_X11_debt (cw_0 cy tE a rw (cS0 w)) rfl wm_L_18 wi_X11_debt ws_X11_debt dL_law_197 rfl (Nat.le_of_ble_eq_true rfl) ⟨by decide, by decide, by decide, by decide⟩) (fun r1 u1 p1 => ?_)
        obtain ⟨rfl, -⟩ := p1
        refine z_aload_n B0 dL_law_200 rfl rfl ?_
        refine z_aload_n B0 dL_law_201 rfl rfl ?_
        refine z_iload_n B0 dL_law_202 rfl rfl ?_
        refine z_iconst (v := 1) B0 dL_law_203 (by decide) ?_
        refine z_iadd (v := 1) B0 dL_law_204 (by decide) ?_
        refine y_sld (j := 1) (v := 1) B0 hX hbl (by decide) e1.symm dL_law_205 ?_
        refine z_aload_n B0 dL_law_206 rfl rfl ?_
        refine z_iload_n B0 dL_law_207 rfl rfl ?_
        refine z_iconst (v := 2) B0 dL_law_208 (by decide) ?_
        refine z_iadd (v := 2) B0 dL_law_209 (by decide) ?_
        refine y_sld (j := 2) (v := 0) B0 hX hbl (by decide) e2.symm dL_law_210 ?_
        refine z_aload_n B0 dL_law_211 rfl rfl ?_
        refine z_iload_n B0 dL_law_212 rfl rfl ?_
        refine z_iconst (v := 3) B0 dL_law_213 (by decide) ?_
        refine z_iadd (v := 3) B0 dL_law_214 (by decide) ?_
        refine y_sld (j := 3) (v := x3) B0 hX hbl (by decide) e3.symm dL_law_215 ?_
        refine z_callM B0 (z_runV (q0 := 0) (As := [.int 1, .int 0, .int x3]) (st := [.int 0]) B0 (c_X12_debt_20 (a := a2) mS0 x3 ⟨by omega, by omega⟩) cf_X12_debt (mw_0 cy a2 mS0) rfl wm_L_22 wi_X12_debt ws_X12_debt dL_law_216 rfl (Nat.le_of_ble_eq_true rfl) ⟨by decide, by decide, by decide, by decide⟩) (fun r2 u2 p2 => ?_)
        obtain ⟨rfl, -⟩ := p2
        refine z_icmp_eq_t (tgt := 1091) B0 dL_law_219 (by decide) rfl ?_
        exact fin u1 u2
    · obtain rfl : x2 = 1 := Int32.toInt_inj.mp (h2.trans (by decide))
      refine z_aload_n B0 dL_law_181 rfl rfl ?_
      refine z_aload_n B0 dL_law_182 rfl rfl ?_
      refine z_iload_n B0 dL_law_183 rfl rfl ?_
      refine z_iconst (v := 1) B0 dL_law_184 (by decide) ?_
      refine z_iadd (v := 1) B0 dL_law_185 (by decide) ?_
      refine y_sld (j := 1) (v := 1) B0 hX hbl (by decide) e1.symm dL_law_186 ?_
      refine z_aload_n B0 dL_law_187 rfl rfl ?_
      refine z_iload_n B0 dL_law_188 rfl rfl ?_
      refine z_iconst (v := 2) B0 dL_law_189 (by decide) ?_
      refine z_iadd (v := 2) B0 dL_law_190 (by decide) ?_
      refine y_sld (j := 2) (v := 1) B0 hX hbl (by decide) e2.symm dL_law_191 ?_
      refine z_aload_n B0 dL_law_192 rfl rfl ?_
      refine z_iload_n B0 dL_law_193 rfl rfl ?_
      refine z_iconst (v := 3) B0 dL_law_194 (by decide) ?_
      refine z_iadd (v := 3) B0 dL_law_195 (by decide) ?_
      refine y_sld (j := 3) (v := x3) B0 hX hbl (by decide) e3.symm dL_law_196 ?_
      refine z_callC B0 (z_runV (q0 := 0) (As := [.int 1, .int 1, .int x3]) (st := []) B0 (c_X11_debt_10 (a := a) (cS0 w) x3 ) cf_X11_debt (cw_0 cy tE a rw (cS0 w)) rfl wm_L_18 wi_X11_debt ws_X11_debt dL_law_197 rfl (Nat.le_of_ble_eq_true rfl) ⟨by decide, by decide, by decide, by decide⟩) (fun r1 u1 p1 => ?_)
      obtain ⟨rfl, -⟩ := p1
      refine z_aload_n B0 dL_law_200 rfl rfl ?_
      refine z_aload_n B0 dL_law_201 rfl rfl ?_
      refine z_iload_n B0 dL_law_202 rfl rfl ?_
      refine z_iconst (v := 1) B0 dL_law_203 (by decide) ?_
      refine z_iadd (v := 1) B0 dL_law_204 (by decide) ?_
      refine y_sld (j := 1) (v := 1) B0 hX hbl (by decide) e1.symm dL_law_205 ?_
      refine z_aload_n B0 dL_law_206 rfl rfl ?_
      refine z_iload_n B0 dL_law_207 rfl rfl ?_
      refine z_iconst (v := 2) B0 dL_law_208 (by decide) ?_
      refine z_iadd (v := 2) B0 dL_law_209 (by decide) ?_
      refine y_sld (j := 2) (v := 1) B0 hX hbl (by decide) e2.symm dL_law_210 ?_
      refine z_aload_n B0 dL_law_211 rfl rfl ?_
      refine z_iload_n B0 dL_law_212 rfl rfl ?_
      refine z_iconst (v := 3) B0 dL_law_213 (by decide) ?_
      refine z_iadd (v := 3) B0 dL_law_214 (by decide) ?_
      refine y_sld (j := 3) (v := x3) B0 hX hbl (by decide) e3.symm dL_law_215 ?_
      refine z_callM B0 (z_runV (q0 := 0) (As := [.int 1, .int 1, .int x3]) (st := [.int 0]) B0 (c_X12_debt_10 (a := a2) mS0 x3 ) cf_X12_debt (mw_0 cy a2 mS0) rfl wm_L_22 wi_X12_debt ws_X12_debt dL_law_216 rfl (Nat.le_of_ble_eq_true rfl) ⟨by decide, by decide, by decide, by decide⟩) (fun r2 u2 p2 => ?_)
      obtain ⟨rfl, -⟩ := p2
      refine z_icmp_eq_t (tgt := 1091) B0 dL_law_219 (by decide) rfl ?_
      exact fin u1 u2
    · obtain rfl : x2 = 2 := Int32.toInt_inj.mp (h2.trans (by decide))
      rcases (show ((-2147483648) ≤ x3.toInt ∧ x3.toInt ≤ (-1)) ∨ (0 ≤ x3.toInt ∧ x3.toInt ≤ 7) ∨ (8 ≤ x3.toInt ∧ x3.toInt ≤ 2147483647) by have g1 := Int32.le_toInt x3; have g2 := Int32.toInt_lt x3; omega) with h3 | h3 | h3
      · refine z_aload_n B0 dL_law_181 rfl rfl ?_
        refine z_aload_n B0 dL_law_182 rfl rfl ?_
        refine z_iload_n B0 dL_law_183 rfl rfl ?_
        refine z_iconst (v := 1) B0 dL_law_184 (by decide) ?_
        refine z_iadd (v := 1) B0 dL_law_185 (by decide) ?_
        refine y_sld (j := 1) (v := 1) B0 hX hbl (by decide) e1.symm dL_law_186 ?_
        refine z_aload_n B0 dL_law_187 rfl rfl ?_
        refine z_iload_n B0 dL_law_188 rfl rfl ?_
        refine z_iconst (v := 2) B0 dL_law_189 (by decide) ?_
        refine z_iadd (v := 2) B0 dL_law_190 (by decide) ?_
        refine y_sld (j := 2) (v := 2) B0 hX hbl (by decide) e2.symm dL_law_191 ?_
        refine z_aload_n B0 dL_law_192 rfl rfl ?_
        refine z_iload_n B0 dL_law_193 rfl rfl ?_
        refine z_iconst (v := 3) B0 dL_law_194 (by decide) ?_
        refine z_iadd (v := 3) B0 dL_law_195 (by decide) ?_
        refine y_sld (j := 3) (v := x3) B0 hX hbl (by decide) e3.symm dL_law_196 ?_
        refine z_callC B0 (z_runV (q0 := 0) (As := [.int 1, .int 2, .int x3]) (st := []) B0 (c_X11_debt_21 (a := a) (cS0 w) x3 ⟨by omega, by omega⟩) cf_X11_debt (cw_0 cy tE a rw (cS0 w)) rfl wm_L_18 wi_X11_debt ws_X11_debt dL_law_197 rfl (Nat.le_of_ble_eq_true rfl) ⟨by decide, by decide, by decide, by decide⟩) (fun r1 u1 p1 => ?_)
        obtain ⟨rfl, -⟩ := p1
        refine z_aload_n B0 dL_law_200 rfl rfl ?_
        refine z_aload_n B0 dL_law_201 rfl rfl ?_
        refine z_iload_n B0 dL_law_202 rfl rfl ?_
        refine z_iconst (v := 1) B0 dL_law_203 (by decide) ?_
        refine z_iadd (v := 1) B0 dL_law_204 (by decide) ?_
        refine y_sld (j := 1) (v := 1) B0 hX hbl (by decide) e1.symm dL_law_205 ?_
        refine z_aload_n B0 dL_law_206 rfl rfl ?_
        refine z_iload_n B0 dL_law_207 rfl rfl ?_
        refine z_iconst (v := 2) B0 dL_law_208 (by decide) ?_
        refine z_iadd (v := 2) B0 dL_law_209 (by decide) ?_
        refine y_sld (j := 2) (v := 2) B0 hX hbl (by decide) e2.symm dL_law_210 ?_
        refine z_aload_n B0 dL_law_211 rfl rfl ?_
        refine z_iload_n B0 dL_law_212 rfl rfl ?_
        refine z_iconst (v := 3) B0 dL_law_213 (by decide) ?_
        refine z_iadd (v := 3) B0 dL_law_214 (by decide) ?_
        refine y_sld (j := 3) (v := x3) B0 hX hbl (by decide) e3.symm dL_law_215 ?_
        refine z_callM B0 (z_runV (q0 := 0) (As := [.int 1, .int 2, .int x3]) (st := [.int 0]) B0 (c_X12_debt_21 (a := a2) mS0 x3 ⟨by omega, by omega⟩) cf_X12_debt (mw_0 cy a2 mS0) rfl wm_L_22 wi_X12_debt ws_X12_debt dL_law_216 rfl (Nat.le_of_ble_eq_true rfl) ⟨by decide, by decide, by decide, by decide⟩) (fun r2 u2 p2 => ?_)
        obtain ⟨rfl, -⟩ := p2
        refine z_icmp_eq_t (tgt := 1091) B0 dL_law_219 (by decide) rfl ?_
        exact fin u1 u2
      · refine z_aload_n B0 dL_law_181 rfl rfl ?_
        refine z_aload_n B0 dL_law_182 rfl rfl ?_
        refine z_iload_n B0 dL_law_183 rfl rfl ?_
        refine z_iconst (v := 1) B0 dL_law_184 (by decide) ?_
        refine z_iadd (v := 1) B0 dL_law_185 (by decide) ?_
        refine y_sld (j := 1) (v := 1) B0 hX hbl (by decide) e1.symm dL_law_186 ?_
        refine z_aload_n B0 dL_law_187 rfl rfl ?_
        refine z_iload_n B0 dL_law_188 rfl rfl ?_
        refine z_iconst (v := 2) B0 dL_law_189 (by decide) ?_
        refine z_iadd (v := 2) B0 dL_law_190 (by decide) ?_
        refine y_sld (j := 2) (v := 2) B0 hX hbl (by decide) e2.symm dL_law_191 ?_
        refine z_aload_n B0 dL_law_192 rfl rfl ?_
        refine z_iload_n B0 dL_law_193 rfl rfl ?_
        refine z_iconst (v := 3) B0 dL_law_194 (by decide) ?_
        refine z_iadd (v := 3) B0 dL_law_195 (by decide) ?_
        refine y_sld (j := 3) (v := x3) B0 hX hbl (by decide) e3.symm dL_law_196 ?_
        refine z_callC B0 (z_runV (q0 := 0) (As := [.int 1, .int 2, .int x3]) (st := []) B0 (c_X11_debt_22 (a := a) (cS0 w) x3 rfl ⟨by omega, by omega⟩) cf_X11_debt (cw_0 cy tE a rw (cS0 w)) rfl wm_L_18 wi_X11_debt ws_X11_debt dL_law_197 rfl (Nat.le_of_ble_eq_true rfl) ⟨by decide, by decide, by decide, by decide⟩) (fun r1 u1 p1 => ?_)
        obtain ⟨rfl, -⟩ := p1
        refine z_aload_n B0 dL_law_200 rfl rfl ?_
        refine z_aload_n B0 dL_law_201 rfl rfl ?_
        refine z_iload_n B0 dL_law_202 rfl rfl ?_
        refine z_iconst (v := 1) B0 dL_law_203 (by decide) ?_
        refine z_iadd (v := 1) B0 dL_law_204 (by decide) ?_
        refine y_sld (j := 1) (v := 1) B0 hX hbl (by decide) e1.symm dL_law_205 ?_
        refine z_aload_n B0 dL_law_206 rfl rfl ?_
        refine z_iload_n B0 dL_law_207 rfl rfl ?_
        refine z_iconst (v := 2) B0 dL_law_208 (by decide) ?_
        refine z_iadd (v := 2) B0 dL_law_209 (by decide) ?_
        refine y_sld (j := 2) (v := 2) B0 hX hbl (by decide) e2.symm dL_law_210 ?_
        refine z_aload_n B0 dL_law_211 rfl rfl ?_
        refine z_iload_n B0 dL_law_212 rfl rfl ?_
        refine z_iconst (v := 3) B0 dL_law_213 (by decide) ?_
        refine z_iadd (v := 3) B0 dL_law_214 (by decide) ?_
        refine y_sld (j := 3) (v := x3) B0 hX hbl (by decide) e3.symm dL_law_215 ?_
        refine z_callM B0 (z_runV (q0 := 0) (As := [.int 1, .int 2, .int x3]) (st := [.int 1]) B0 (c_X12_debt_22 (a := a2) mS0 x3 rfl rfl rfl rfl rfl rfl rfl rfl rfl rfl rfl rfl rfl rfl rfl rfl rfl rfl rfl rfl rfl rfl rfl rfl rfl rfl ⟨by omega, by omega⟩) cf_X12_debt (mw_0 cy a2 mS0) rfl wm_L_22 wi_X12_debt ws_X12_debt dL_law_216 rfl (Nat.le_of_ble_eq_true rfl) ⟨by decide, by decide, by decide, by decide⟩) (fun r2 u2 p2 => ?_)
        obtain ⟨rfl, -⟩ := p2
        refine z_icmp_eq_t (tgt := 1091) B0 dL_law_219 (by decide) rfl ?_
        exact fin u1 u2
      · refine z_aload_n B0 dL_law_181 rfl rfl ?_
        refine z_aload_n B0 dL_law_182 rfl rfl ?_
        refine z_iload_n B0 dL_law_183 rfl rfl ?_
        refine z_iconst (v := 1) B0 dL_law_184 (by decide) ?_
        refine z_iadd (v := 1) B0 dL_law_185 (by decide) ?_
        refine y_sld (j := 1) (v := 1) B0 hX hbl (by decide) e1.symm dL_law_186 ?_
        refine z_aload_n B0 dL_law_187 rfl rfl ?_
        refine z_iload_n B0 dL_law_188 rfl rfl ?_
        refine z_iconst (v := 2) B0 dL_law_189 (by decide) ?_
        refine z_iadd (v := 2) B0 dL_law_190 (by decide) ?_
        refine y_sld (j := 2) (v := 2) B0 hX hbl (by decide) e2.symm dL_law_191 ?_
        refine z_aload_n B0 dL_law_192 rfl rfl ?_
        refine z_iload_n B0 dL_law_193 rfl rfl ?_
        refine z_iconst (v := 3) B0 dL_law_194 (by decide) ?_
        refine z_iadd (v := 3) B0 dL_law_195 (by decide) ?_
        refine y_sld (j := 3) (v := x3) B0 hX hbl (by decide) e3.symm dL_law_196 ?_
        refine z_callC B0 (z_runV (q0 := 0) (As := [.int 1, .int 2, .int x3]) (st := []) B0 (c_X11_debt_23 (a := a) (cS0 w) x3 ⟨by omega, by omega⟩) cf_X11_debt (cw_0 cy tE a rw (cS0 w)) rfl wm_L_18 wi_X11_debt ws_X11_debt dL_law_197 rfl (Nat.le_of_ble_eq_true rfl) ⟨by decide, by decide, by decide, by decide⟩) (fun r1 u1 p1 => ?_)
        obtain ⟨rfl, -⟩ := p1
        refine z_aload_n B0 dL_law_200 rfl rfl ?_
        refine z_aload_n B0 dL_law_201 rfl rfl ?_
        refine z_iload_n B0 dL_law_202 rfl rfl ?_
        refine z_iconst (v := 1) B0 dL_law_203 (by decide) ?_
        refine z_iadd (v := 1) B0 dL_law_204 (by decide) ?_
        refine y_sld (j := 1) (v := 1) B0 hX hbl (by decide) e1.symm dL_law_205 ?_
        refine z_aload_n B0 dL_law_206 rfl rfl ?_
        refine z_iload_n B0 dL_law_207 rfl rfl ?_
        refine z_iconst (v := 2) B0 dL_law_208 (by decide) ?_
        refine z_iadd (v := 2) B0 dL_law_209 (by decide) ?_
        refine y_sld (j := 2) (v := 2) B0 hX hbl (by decide) e2.symm dL_law_210 ?_
        refine z_aload_n B0 dL_law_211 rfl rfl ?_
        refine z_iload_n B0 dL_law_212 rfl rfl ?_
        refine z_iconst (v := 3) B0 dL_law_213 (by decide) ?_
        refine z_iadd (v := 3) B0 dL_law_214 (by decide) ?_
        refine y_sld (j := 3) (v := x3) B0 hX hbl (by decide) e3.symm dL_law_215 ?_
        refine z_callM B0 (z_runV (q0 := 0) (As := [.int 1, .int 2, .int x3]) (st := [.int 0]) B0 (c_X12_debt_23 (a := a2) mS0 x3 ⟨by omega, by omega⟩) cf_X12_debt (mw_0 cy a2 mS0) rfl wm_L_22 wi_X12_debt ws_X12_debt dL_law_216 rfl (Nat.le_of_ble_eq_true rfl) ⟨by decide, by decide, by decide, by decide⟩) (fun r2 u2 p2 => ?_)
        obtain ⟨rfl, -⟩ := p2
        refine z_icmp_eq_t (tgt := 1091) B0 dL_law_219 (by decide) rfl ?_
        exact fin u1 u2
    · refine z_aload_n B0 dL_law_181 rfl rfl ?_
      refine z_aload_n B0 dL_law_182 rfl rfl ?_
      refine z_iload_n B0 dL_law_183 rfl rfl ?_
      refine z_iconst (v := 1) B0 dL_law_184 (by decide) ?_
      refine z_iadd (v := 1) B0 dL_law_185 (by decide) ?_
      refine y_sld (j := 1) (v := 1) B0 hX hbl (by decide) e1.symm dL_law_186 ?_
      refine z_aload_n B0 dL_law_187 rfl rfl ?_
      refine z_iload_n B0 dL_law_188 rfl rfl ?_
      refine z_iconst (v := 2) B0 dL_law_189 (by decide) ?_
      refine z_iadd (v := 2) B0 dL_law_190 (by decide) ?_
      refine y_sld (j := 2) (v := x2) B0 hX hbl (by decide) e2.symm dL_law_191 ?_
      refine z_aload_n B0 dL_law_192 rfl rfl ?_
      refine z_iload_n B0 dL_law_193 rfl rfl ?_
      refine z_iconst (v := 3) B0 dL_law_194 (by decide) ?_
      refine z_iadd (v := 3) B0 dL_law_195 (by decide) ?_
      refine y_sld (j := 3) (v := x3) B0 hX hbl (by decide) e3.symm dL_law_196 ?_
      refine z_callC B0 (z_runV (q0 := 0) (As := [.int 1, .int x2, .int x3]) (st := []) B0 (c_X11_debt_6 (a := a) (cS0 w) x2 x3 ⟨by omega, by omega⟩) cf_X11_debt (cw_0 cy tE a rw (cS0 w)) rfl wm_L_18 wi_X11_debt ws_X11_debt dL_law_197 rfl (Nat.le_of_ble_eq_true rfl) ⟨by decide, by decide, by decide, by decide⟩) (fun r1 u1 p1 => ?_)
      obtain ⟨rfl, -⟩ := p1
      refine z_aload_n B0 dL_law_200 rfl rfl ?_
      refine z_aload_n B0 dL_law_201 rfl rfl ?_
      refine z_iload_n B0 dL_law_202 rfl rfl ?_
      refine z_iconst (v := 1) B0 dL_law_203 (by decide) ?_
      refine z_iadd (v := 1) B0 dL_law_204 (by decide) ?_
      refine y_sld (j := 1) (v := 1) B0 hX hbl (by decide) e1.symm dL_law_205 ?_
      refine z_aload_n B0 dL_law_206 rfl rfl ?_
      refine z_iload_n B0 dL_law_207 rfl rfl ?_
      refine z_iconst (v := 2) B0 dL_law_208 (by decide) ?_
      refine z_iadd (v := 2) B0 dL_law_209 (by decide) ?_
      refine y_sld (j := 2) (v := x2) B0 hX hbl (by decide) e2.symm dL_law_210 ?_
      refine z_aload_n B0 dL_law_211 rfl rfl ?_
      refine z_iload_n B0 dL_law_212 rfl rfl ?_
      refine z_iconst (v := 3) B0 dL_law_213 (by decide) ?_
      refine z_iadd (v := 3) B0 dL_law_214 (by decide) ?_
      refine y_sld (j := 3) (v := x3) B0 hX hbl (by decide) e3.symm dL_law_215 ?_
      refine z_callM B0 (z_runV (q0 := 0) (As := [.int 1, .int x2, .int x3]) (st := [.int 0]) B0 (c_X12_debt_6 (a := a2) mS0 x2 x3 ⟨by omega, by omega⟩) cf_X12_debt (mw_0 cy a2 mS0) rfl wm_L_22 wi_X12_debt ws_X12_debt dL_law_216 rfl (Nat.le_of_ble_eq_true rfl) ⟨by decide, by decide, by decide, by decide⟩) (fun r2 u2 p2 => ?_)
      obtain ⟨rfl, -⟩ := p2
      refine z_icmp_eq_t (tgt := 1091) B0 dL_law_219 (by decide) rfl ?_
      exact fin u1 u2
  · obtain rfl : x1 = 2 := Int32.toInt_inj.mp (h1.trans (by decide))
    rcases (show ((-2147483648) ≤ x2.toInt ∧ x2.toInt ≤ (-1)) ∨ x2.toInt = 0 ∨ x2.toInt = 1 ∨ x2.toInt = 2 ∨ (3 ≤ x2.toInt ∧ x2.toInt ≤ 2147483647) by have g1 := Int32.le_toInt x2; have g2 := Int32.toInt_lt x2; omega) with h2 | h2 | h2 | h2 | h2
    · refine z_aload_n B0 dL_law_181 rfl rfl ?_
      refine z_aload_n B0 dL_law_182 rfl rfl ?_
      refine z_iload_n B0 dL_law_183 rfl rfl ?_
      refine z_iconst (v := 1) B0 dL_law_184 (by decide) ?_
      refine z_iadd (v := 1) B0 dL_law_185 (by decide) ?_
      refine y_sld (j := 1) (v := 2) B0 hX hbl (by decide) e1.symm dL_law_186 ?_
      refine z_aload_n B0 dL_law_187 rfl rfl ?_
      refine z_iload_n B0 dL_law_188 rfl rfl ?_
      refine z_iconst (v := 2) B0 dL_law_189 (by decide) ?_
      refine z_iadd (v := 2) B0 dL_law_190 (by decide) ?_
      refine y_sld (j := 2) (v := x2) B0 hX hbl (by decide) e2.symm dL_law_191 ?_
      refine z_aload_n B0 dL_law_192 rfl rfl ?_
      refine z_iload_n B0 dL_law_193 rfl rfl ?_
      refine z_iconst (v := 3) B0 dL_law_194 (by decide) ?_
      refine z_iadd (v := 3) B0 dL_law_195 (by decide) ?_
      refine y_sld (j := 3) (v := x3) B0 hX hbl (by decide) e3.symm dL_law_196 ?_
      refine z_callC B0 (z_runV (q0 := 0) (As := [.int 2, .int x2, .int x3]) (st := []) B0 (c_X11_debt_7 (a := a) (cS0 w) x2 x3 ⟨by omega, by omega⟩) cf_X11_debt (cw_0 cy tE a rw (cS0 w)) rfl wm_L_18 wi_X11_debt ws_X11_debt dL_law_197 rfl (Nat.le_of_ble_eq_true rfl) ⟨by decide, by decide, by decide, by decide⟩) (fun r1 u1 p1 => ?_)
      obtain ⟨rfl, -⟩ := p1
      refine z_aload_n B0 dL_law_200 rfl rfl ?_
      refine z_aload_n B0 dL_law_201 rfl rfl ?_
      refine z_iload_n B0 dL_law_202 rfl rfl ?_
      refine z_iconst (v := 1) B0 dL_law_203 (by decide) ?_
      refine z_iadd (v := 1) B0 dL_law_204 (by decide) ?_
      refine y_sld (j := 1) (v := 2) B0 hX hbl (by decide) e1.symm dL_law_205 ?_
      refine z_aload_n B0 dL_law_206 rfl rfl ?_
      refine z_iload_n B0 dL_law_207 rfl rfl ?_
      refine z_iconst (v := 2) B0 dL_law_208 (by decide) ?_
      refine z_iadd (v := 2) B0 dL_law_209 (by decide) ?_
      refine y_sld (j := 2) (v := x2) B0 hX hbl (by decide) e2.symm dL_law_210 ?_
      refine z_aload_n B0 dL_law_211 rfl rfl ?_
      refine z_iload_n B0 dL_law_212 rfl rfl ?_
      refine z_iconst (v := 3) B0 dL_law_213 (by decide) ?_
      refine z_iadd (v := 3) B0 dL_law_214 (by decide) ?_
      refine y_sld (j := 3) (v := x3) B0 hX hbl (by decide) e3.symm dL_law_215 ?_
      refine z_callM B0 (z_runV (q0 := 0) (As := [.int 2, .int x2, .int x3]) (st := [.int 0]) B0 (c_X12_debt_7 (a := a2) mS0 x2 x3 ⟨by omega, by omega⟩) cf_X12_debt (mw_0 cy a2 mS0) rfl wm_L_22 wi_X12_debt ws_X12_debt dL_law_216 rfl (Nat.le_of_ble_eq_true rfl) ⟨by decide, by decide, by decide, by decide⟩) (fun r2 u2 p2 => ?_)
      obtain ⟨rfl, -⟩ := p2
      refine z_icmp_eq_t (tgt := 1091) B0 dL_law_219 (by decide) rfl ?_
      exact fin u1 u2
    · obtain rfl : x2 = 0 := Int32.toInt_inj.mp (h2.trans (by decide))
      rcases (show ((-2147483648) ≤ x3.toInt ∧ x3.toInt ≤ (-1)) ∨ (0 ≤ x3.toInt ∧ x3.toInt ≤ 7) ∨ (8 ≤ x3.toInt ∧ x3.toInt ≤ 2147483647) by have g1 := Int32.le_toInt x3; have g2 := Int32.toInt_lt x3; omega) with h3 | h3 | h3
      · refine z_aload_n B0 dL_law_181 rfl rfl ?_
        refine z_aload_n B0 dL_law_182 rfl rfl ?_
        refine z_iload_n B0 dL_law_183 rfl rfl ?_
        refine z_iconst (v := 1) B0 dL_law_184 (by decide) ?_
        refine z_iadd (v := 1) B0 dL_law_185 (by decide) ?_
        refine y_sld (j := 1) (v := 2) B0 hX hbl (by decide) e1.symm dL_law_186 ?_
        refine z_aload_n B0 dL_law_187 rfl rfl ?_
        refine z_iload_n B0 dL_law_188 rfl rfl ?_
        refine z_iconst (v := 2) B0 dL_law_189 (by decide) ?_
        refine z_iadd (v := 2) B0 dL_law_190 (by decide) ?_
        refine y_sld (j := 2) (v := 0) B0 hX hbl (by decide) e2.symm dL_law_191 ?_
        refine z_aload_n B0 dL_law_192 rfl rfl ?_
        refine z_iload_n B0 dL_law_193 rfl rfl ?_
        refine z_iconst (v := 3) B0 dL_law_194 (by decide) ?_
        refine z_iadd (v := 3) B0 dL_law_195 (by decide) ?_
        refine y_sld (j := 3) (v := x3) B0 hX hbl (by decide) e3.symm dL_law_196 ?_
        refine z_callC B0 (z_runV (q0 := 0) (As := [.int 2, .int 0, .int x3]) (st := []) B0 (c_X11_debt_24 (a := a) (cS0 w) x3 ⟨by omega, by omega⟩) cf_X11_debt (cw_0 cy tE a rw (cS0 w)) rfl wm_L_18 wi_X11_debt ws_X11_debt dL_law_197 rfl (Nat.le_of_ble_eq_true rfl) ⟨by decide, by decide, by decide, by decide⟩) (fun r1 u1 p1 => ?_)
        obtain ⟨rfl, -⟩ := p1
        refine z_aload_n B0 dL_law_200 rfl rfl ?_
        refine z_aload_n B0 dL_law_201 rfl rfl ?_
        refine z_iload_n B0 dL_law_202 rfl rfl ?_
        refine z_iconst (v := 1) B0 dL_law_203 (by decide) ?_
        refine z_iadd (v := 1) B0 dL_law_204 (by decide) ?_
        refine y_sld (j := 1) (v := 2) B0 hX hbl (by decide) e1.symm dL_law_205 ?_
        refine z_aload_n B0 dL_law_206 rfl rfl ?_
        refine z_iload_n B0 dL_law_207 rfl rfl ?_
        refine z_iconst (v := 2) B0 dL_law_208 (by decide) ?_
        refine z_iadd (v := 2) B0 dL_law_209 (by decide) ?_
        refine y_sld (j := 2) (v := 0) B0 hX hbl (by decide) e2.symm dL_law_210 ?_
        refine z_aload_n B0 dL_law_211 rfl rfl ?_
        refine z_iload_n B0 dL_law_212 rfl rfl ?_
        refine z_iconst (v := 3) B0 dL_law_213 (by decide) ?_
        refine z_iadd (v := 3) B0 dL_law_214 (by decide) ?_
        refine y_sld (j := 3) (v := x3) B0 hX hbl (by decide) e3.symm dL_law_215 ?_
        refine z_callM B0 (z_runV (q0 := 0) (As := [.int 2, .int 0, .int x3]) (st := [.int 0]) B0 (c_X12_debt_24 (a := a2) mS0 x3 ⟨by omega, by omega⟩) cf_X12_debt (mw_0 cy a2 mS0) rfl wm_L_22 wi_X12_debt ws_X12_debt dL_law_216 rfl (Nat.le_of_ble_eq_true rfl) ⟨by decide, by decide, by decide, by decide⟩) (fun r2 u2 p2 => ?_)
        obtain ⟨rfl, -⟩ := p2
        refine z_icmp_eq_t (tgt := 1091) B0 dL_law_219 (by decide) rfl ?_
        exact fin u1 u2
      · refine z_aload_n B0 dL_law_181 rfl rfl ?_
        refine z_aload_n B0 dL_law_182 rfl rfl ?_
        refine z_iload_n B0 dL_law_183 rfl rfl ?_
        refine z_iconst (v := 1) B0 dL_law_184 (by decide) ?_
        refine z_iadd (v := 1) B0 dL_law_185 (by decide) ?_
        refine y_sld (j := 1) (v := 2) B0 hX hbl (by decide) e1.symm dL_law_186 ?_
        refine z_aload_n B0 dL_law_187 rfl rfl ?_
        refine z_iload_n B0 dL_law_188 rfl rfl ?_
        refine z_iconst (v := 2) B0 dL_law_189 (by decide) ?_
        refine z_iadd (v := 2) B0 dL_law_190 (by decide) ?_
        refine y_sld (j := 2) (v := 0) B0 hX hbl (by decide) e2.symm dL_law_191 ?_
        refine z_aload_n B0 dL_law_192 rfl rfl ?_
        refine z_iload_n B0 dL_law_193 rfl rfl ?_
        refine z_iconst (v := 3) B0 dL_law_194 (by decide) ?_
        refine z_iadd (v := 3) B0 dL_law_195 (by decide) ?_
        refine y_sld (j := 3) (v := x3) B0 hX hbl (by decide) e3.symm dL_law_196 ?_
        refine z_callC B0 (z_runV (q0 := 0) (As := [.int 2, .int 0, .int x3]) (st := []) B0 (c_X11_debt_25 (a := a) (cS0 w) x3 rfl ⟨by omega, by omega⟩) cf_X11_debt (cw_0 cy tE a rw (cS0 w)) rfl wm_L_18 wi_X11_debt ws_X11_debt dL_law_197 rfl (Nat.le_of_ble_eq_true rfl) ⟨by decide, by decide, by decide, by decide⟩) (fun r1 u1 p1 => ?_)
        obtain ⟨rfl, -⟩ := p1
        refine z_aload_n B0 dL_law_200 rfl rfl ?_
        refine z_aload_n B0 dL_law_201 rfl rfl ?_
        refine z_iload_n B0 dL_law_202 rfl rfl ?_
        refine z_iconst (v := 1) B0 dL_law_203 (by decide) ?_
        refine z_iadd (v := 1) B0 dL_law_204 (by decide) ?_
        refine y_sld (j := 1) (v := 2) B0 hX hbl (by decide) e1.symm dL_law_205 ?_
        refine z_aload_n B0 dL_law_206 rfl rfl ?_
        refine z_iload_n B0 dL_law_207 rfl rfl ?_
        refine z_iconst (v := 2) B0 dL_law_208 (by decide) ?_
        refine z_iadd (v := 2) B0 dL_law_209 (by decide) ?_
        refine y_sld (j := 2) (v := 0) B0 hX hbl (by decide) e2.symm dL_law_210 ?_
        refine z_aload_n B0 dL_law_211 rfl rfl ?_
        refine z_iload_n B0 dL_law_212 rfl rfl ?_
        refine z_iconst (v := 3) B0 dL_law_213 (by decide) ?_
        refine z_iadd (v := 3) B0 dL_law_214 (by decide) ?_
        refine y_sld (j := 3) (v := x3) B0 hX hbl (by decide) e3.symm dL_law_215 ?_
        refine z_callM B0 (z_runV (q0 := 0) (As := [.int 2, .int 0, .int x3]) (st := [.int 1]) B0 (c_X12_debt_25 (a := a2) mS0 x3 rfl rfl rfl rfl rfl rfl rfl rfl rfl rfl rfl rfl rfl rfl rfl rfl rfl rfl rfl rfl rfl rfl rfl rfl rfl rfl ⟨by omega, by omega⟩) cf_X12_debt (mw_0 cy a2 mS0) rfl wm_L_22 wi_X12_debt ws_X12_debt dL_law_216 rfl (Nat.le_of_ble_eq_true rfl) ⟨by decide, by decide, by decide, by decide⟩) (fun r2 u2 p2 => ?_)
        obtain ⟨rfl, -⟩ := p2
        refine z_icmp_eq_t (tgt := 1091) B0 dL_law_219 (by decide) rfl ?_
        exact fin u1 u2
      · refine z_aload_n B0 dL_law_181 rfl rfl ?_
        refine z_aload_n B0 dL_law_182 rfl rfl ?_
        refine z_iload_n B0 dL_law_183 rfl rfl ?_
        refine z_iconst (v := 1) B0 dL_law_184 (by decide) ?_
        refine z_iadd (v := 1) B0 dL_law_185 (by decide) ?_
        refine y_sld (j := 1) (v := 2) B0 hX hbl (by decide) e1.symm dL_law_186 ?_
        refine z_aload_n B0 dL_law_187 rfl rfl ?_
        refine z_iload_n B0 dL_law_188 rfl rfl ?_
        refine z_iconst (v := 2) B0 dL_law_189 (by decide) ?_
        refine z_iadd (v := 2) B0 dL_law_190 (by decide) ?_
        refine y_sld (j := 2) (v := 0) B0 hX hbl (by decide) e2.symm dL_law_191 ?_
        refine z_aload_n B0 dL_law_192 rfl rfl ?_
        refine z_iload_n B0 dL_law_193 rfl rfl ?_
        refine z_iconst (v := 3) B0 dL_law_194 (by decide) ?_
        refine z_iadd (v := 3) B0 dL_law_195 (by decide) ?_
        refine y_sld (j := 3) (v := x3) B0 hX hbl (by decide) e3.symm dL_law_196 ?_
        refine z_callC B0 (z_runV (q0 := 0) (As := [.int 2, .int 0, .int x3]) (st := []) B0 (c_X11_debt_26 (a := a) (cS0 w) x3 ⟨by omega, by omega⟩) cf_X11_debt (cw_0 cy tE a rw (cS0 w)) rfl wm_L_18 wi_X11_debt ws_X11_debt dL_law_197 rfl (Nat.le_of_ble_eq_true rfl) ⟨by decide, by decide, by decide, by decide⟩) (fun r1 u1 p1 => ?_)
        obtain ⟨rfl, -⟩ := p1
        refine z_aload_n B0 dL_law_200 rfl rfl ?_
        refine z_aload_n B0 dL_law_201 rfl rfl ?_
        refine z_iload_n B0 dL_law_202 rfl rfl ?_
        refine z_iconst (v := 1) B0 dL_law_203 (by decide) ?_
        refine z_iadd (v := 1) B0 dL_law_204 (by decide) ?_
        refine y_sld (j := 1) (v := 2) B0 hX hbl (by decide) e1.symm dL_law_205 ?_
        refine z_aload_n B0 dL_law_206 rfl rfl ?_
        refine z_iload_n B0 dL_law_207 rfl rfl ?_
        refine z_iconst (v := 2) B0 dL_law_208 (by decide) ?_
        refine z_iadd (v := 2) B0 dL_law_209 (by decide) ?_
        refine y_sld (j := 2) (v := 0) B0 hX hbl (by decide) e2.symm dL_law_210 ?_
        refine z_aload_n B0 dL_law_211 rfl rfl ?_
        refine z_iload_n B0 dL_law_212 rfl rfl ?_
        refine z_iconst (v := 3) B0 dL_law_213 (by decide) ?_
        refine z_iadd (v := 3) B0 dL_law_214 (by decide) ?_
        refine y_sld (j := 3) (v := x3) B0 hX hbl (by decide) e3.symm dL_law_215 ?_
        refine z_callM B0 (z_runV (q0 := 0) (As := [.int 2, .int 0, .int x3]) (st := [.int 0]) B0 (c_X12_debt_26 (a := a2) mS0 x3 ⟨by omega, by omega⟩) cf_X12_debt (mw_0 cy a2 mS0) rfl wm_L_22 wi_X12_debt ws_X12_debt dL_law_216 rfl (Nat.le_of_ble_eq_true rfl) ⟨by decide, by decide, by decide, by decide⟩) (fun r2 u2 p2 => ?_)
        obtain ⟨rfl, -⟩ := p2
        refine z_icmp_eq_t (tgt := 1091) B0 dL_law_219 (by decide) rfl ?_
        exact fin u1 u2
    · obtain rfl : x2 = 1 := Int32.toInt_inj.mp (h2.trans (by decide))
      rcases (show ((-2147483648) ≤ x3.toInt ∧ x3.toInt ≤ (-1)) ∨ (0 ≤ x3.toInt ∧ x3.toInt ≤ 7) ∨ (8 ≤ x3.toInt ∧ x3.toInt ≤ 2147483647) by have g1 := Int32.le_toInt x3; have g2 := Int32.toInt_lt x3; omega) with h3 | h3 | h3
      · refine z_aload_n B0 dL_law_181 rfl rfl ?_
        refine z_aload_n B0 dL_law_182 rfl rfl ?_
        refine z_iload_n B0 dL_law_183 rfl rfl ?_
        refine z_iconst (v := 1) B0 dL_law_184 (by decide) ?_
        refine z_iadd (v := 1) B0 dL_law_185 (by decide) ?_
        refine y_sld (j := 1) (v := 2) B0 hX hbl (by decide) e1.symm dL_law_186 ?_
        refine z_aload_n B0 dL_law_187 rfl rfl ?_
        refine z_iload_n B0 dL_law_188 rfl rfl ?_
        refine z_iconst (v := 2) B0 dL_law_189 (by decide) ?_
        refine z_iadd (v := 2) B0 dL_law_190 (by decide) ?_
        refine y_sld (j := 2) (v := 1) B0 hX hbl (by decide) e2.symm dL_law_191 ?_
        refine z_aload_n B0 dL_law_192 rfl rfl ?_
        refine z_iload_n B0 dL_law_193 rfl rfl ?_
        refine z_iconst (v := 3) B0 dL_law_194 (by decide) ?_
        refine z_iadd (v := 3) B0 dL_law_195 (by decide) ?_
        refine y_sld (j := 3) (v := x3) B0 hX hbl (by decide) e3.symm dL_law_196 ?_
        refine z_callC B0 (z_runV (q0 := 0) (As := [.int 2, .int 1, .int x3]) (st := []) B0 (c_X11_debt_27 (a := a) (cS0 w) x3 ⟨by omega, by omega⟩) cf_X11_debt (cw_0 cy tE a rw (cS0 w)) rfl wm_L_18 wi_X11_debt ws_X11_debt dL_law_197 rfl (Nat.le_of_ble_eq_true rfl) ⟨by decide, by decide, by decide, by decide⟩) (fun r1 u1 p1 => ?_)
        obtain ⟨rfl, -⟩ := p1
        refine z_aload_n B0 dL_law_200 rfl rfl ?_
        refine z_aload_n B0 dL_law_201 rfl rfl ?_
        refine z_iload_n B0 dL_law_202 rfl rfl ?_
        refine z_iconst (v := 1) B0 dL_law_203 (by decide) ?_
        refine z_iadd (v := 1) B0 dL_law_204 (by decide) ?_
        refine y_sld (j := 1) (v := 2) B0 hX hbl (by decide) e1.symm dL_law_205 ?_
        refine z_aload_n B0 dL_law_206 rfl rfl ?_
        refine z_iload_n B0 dL_law_207 rfl rfl ?_
        refine z_iconst (v := 2) B0 dL_law_208 (by decide) ?_
        refine z_iadd (v := 2) B0 dL_law_209 (by decide) ?_
        refine y_sld (j := 2) (v := 1) B0 hX hbl (by decide) e2.symm dL_law_210 ?_
        refine z_aload_n B0 dL_law_211 rfl rfl ?_
        refine z_iload_n B0 dL_law_212 rfl rfl ?_
        refine z_iconst (v := 3) B0 dL_law_213 (by decide) ?_
        refine z_iadd (v := 3) B0 dL_law_214 (by decide) ?_
        refine y_sld (j := 3) (v := x3) B0 hX hbl (by decide) e3.symm dL_law_215 ?_
        refine z_callM B0 (z_runV (q0 := 0) (As := [.int 2, .int 1, .int x3]) (st := [.int 0]) B0 (c_X12_debt_27 (a := a2) mS0 x3 ⟨by omega, by omega⟩) cf_X12_debt (mw_0 cy a2 mS0) rfl wm_L_22 wi_X12_debt ws_X12_debt dL_law_216 rfl (Nat.le_of_ble_eq_true rfl) ⟨by decide, by decide, by decide, by decide⟩) (fun r2 u2 p2 => ?_)
        obtain ⟨rfl, -⟩ := p2
        refine z_icmp_eq_t (tgt := 1091) B0 dL_law_219 (by decide) rfl ?_
        exact fin u1 u2
      · refine z_aload_n B0 dL_law_181 rfl rfl ?_
        refine z_aload_n B0 dL_law_182 rfl rfl ?_
        refine z_iload_n B0 dL_law_183 rfl rfl ?_
        refine z_iconst (v := 1) B0 dL_law_184 (by decide) ?_
        refine z_iadd (v := 1) B0 dL_law_185 (by decide) ?_
        refine y_sld (j := 1) (v := 2) B0 hX hbl (by decide) e1.symm dL_law_186 ?_
        refine z_aload_n B0 dL_law_187 rfl rfl ?_
        refine z_iload_n B0 dL_law_188 rfl rfl ?_
        refine z_iconst (v := 2) B0 dL_law_189 (by decide) ?_
        refine z_iadd (v := 2) B0 dL_law_190 (by decide) ?_
        refine y_sld (j := 2) (v := 1) B0 hX hbl (by decide) e2.symm dL_law_191 ?_
        refine z_aload_n B0 dL_law_192 rfl rfl ?_
        refine z_iload_n B0 dL_law_193 rfl rfl ?_
        refine z_iconst (v := 3) B0 dL_law_194 (by decide) ?_
        refine z_iadd (v := 3) B0 dL_law_195 (by decide) ?_
        refine y_sld (j := 3) (v := x3) B0 hX hbl (by decide) e3.symm dL_law_196 ?_
        refine z_callC B0 (z_runV (q0 := 0) (As := [.int 2, .int 1, .int x3]) (st := []) B0 (c_X11_debt_28 (a := a) (cS0 w) x3 rfl ⟨by omega, by omega⟩) cf_X11_debt (cw_0 cy tE a rw (cS0 w)) rfl wm_L_18 wi_X11_debt ws_X11_debt dL_law_197 rfl (Nat.le_of_ble_eq_true rfl) ⟨by decide, by decide, by decide, by decide⟩) (fun r1 u1 p1 => ?_)
        obtain ⟨rfl, -⟩ := p1
        refine z_aload_n B0 dL_law_200 rfl rfl ?_
        refine z_aload_n B0 dL_law_201 rfl rfl ?_
        refine z_iload_n B0 dL_law_202 rfl rfl ?_
        refine z_iconst (v := 1) B0 dL_law_203 (by decide) ?_
        refine z_iadd (v := 1) B0 dL_law_204 (by decide) ?_
        refine y_sld (j := 1) (v := 2) B0 hX hbl (by decide) e1.symm dL_law_205 ?_
        refine z_aload_n B0 dL_law_206 rfl rfl ?_
        refine z_iload_n B0 dL_law_207 rfl rfl ?_
        refine z_iconst (v := 2) B0 dL_law_208 (by decide) ?_
        refine z_iadd (v := 2) B0 dL_law_209 (by decide) ?_
        refine y_sld (j := 2) (v := 1) B0 hX hbl (by decide) e2.symm dL_law_210 ?_
        refine z_aload_n B0 dL_law_211 rfl rfl ?_
        refine z_iload_n B0 dL_law_212 rfl rfl ?_
        refine z_iconst (v := 3) B0 dL_law_213 (by decide) ?_
        refine z_iadd (v := 3) B0 dL_law_214 (by decide) ?_
        refine y_sld (j := 3) (v := x3) B0 hX hbl (by decide) e3.symm dL_law_215 ?_
        refine z_callM B0 (z_runV (q0 := 0) (As := [.int 2, .int 1, .int x3]) (st := [.int 1]) B0 (c_X12_debt_28 (a := a2) mS0 x3 rfl rfl rfl rfl rfl rfl rfl rfl rfl rfl rfl rfl rfl rfl rfl rfl rfl rfl rfl rfl rfl rfl rfl rfl rfl rfl ⟨by omega, by omega⟩) cf_X12_debt (mw_0 cy a2 mS0) rfl wm_L_22 wi_X12_debt ws_X12_debt dL_law_216 rfl (Nat.le_of_ble_eq_true rfl) ⟨by decide, by decide, by decide, by decide⟩) (fun r2 u2 p2 => ?_)
        obtain ⟨rfl, -⟩ := p2
        refine z_icmp_eq_t (tgt := 1091) B0 dL_law_219 (by decide) rfl ?_
        exact fin u1 u2
      · refine z_aload_n B0 dL_law_181 rfl rfl ?_
        refine z_aload_n B0 dL_law_182 rfl rfl ?_
        refine z_iload_n B0 dL_law_183 rfl rfl ?_
        refine z_iconst (v := 1) B0 dL_law_184 (by decide) ?_
        refine z_iadd (v := 1) B0 dL_law_185 (by decide) ?_
        refine y_sld (j := 1) (v := 2) B0 hX hbl (by decide) e1.symm dL_law_186 ?_
        refine z_aload_n B0 dL_law_187 rfl rfl ?_
        refine z_iload_n B0 dL_law_188 rfl rfl ?_
        refine z_iconst (v := 2) B0 dL_law_189 (by decide) ?_
        refine z_iadd (v := 2) B0 dL_law_190 (by decide) ?_
        refine y_sld (j := 2) (v := 1) B0 hX hbl (by decide) e2.symm dL_law_191 ?_
        refine z_aload_n B0 dL_law_192 rfl rfl ?_
        refine z_iload_n B0 dL_law_193 rfl rfl ?_
        refine z_iconst (v := 3) B0 dL_law_194 (by decide) ?_
        refine z_iadd (v := 3) B0 dL_law_195 (by decide) ?_
        refine y_sld (j := 3) (v := x3) B0 hX hbl (by decide) e3.symm dL_law_196 ?_
        refine z_callC B0 (z_runV (q0 := 0) (As := [.int 2, .int 1, .int x3]) (st := []) B0 (c_X11_debt_29 (a := a) (cS0 w) x3 ⟨by omega, by omega⟩) cf_X11_debt (cw_0 cy tE a rw (cS0 w)) rfl wm_L_18 wi_X11_debt ws_X11_debt dL_law_197 rfl (Nat.le_of_ble_eq_true rfl) ⟨by decide, by decide, by decide, by decide⟩) (fun r1 u1 p1 => ?_)
        obtain ⟨rfl, -⟩ := p1
        refine z_aload_n B0 dL_law_200 rfl rfl ?_
        refine z_aload_n B0 dL_law_201 rfl rfl ?_
        refine z_iload_n B0 dL_law_202 rfl rfl ?_
        refine z_iconst (v := 1) B0 dL_law_203 (by decide) ?_
        refine z_iadd (v := 1) B0 dL_law_204 (by decide) ?_
        refine y_sld (j := 1) (v := 2) B0 hX hbl (by decide) e1.symm dL_law_205 ?_
        refine z_aload_n B0 dL_law_206 rfl rfl ?_
        refine z_iload_n B0 dL_law_207 rfl rfl ?_
        refine z_iconst (v := 2) B0 dL_law_208 (by decide) ?_
        refine z_iadd (v := 2) B0 dL_law_209 (by decide) ?_
        refine y_sld (j := 2) (v := 1) B0 hX hbl (by decide) e2.symm dL_law_210 ?_
        refine z_aload_n B0 dL_law_211 rfl rfl ?_
        refine z_iload_n B0 dL_law_212 rfl rfl ?_
        refine z_iconst (v := 3) B0 dL_law_213 (by decide) ?_
        refine z_iadd (v := 3) B0 dL_law_214 (by decide) ?_
        refine y_sld (j := 3) (v := x3) B0 hX hbl (by decide) e3.symm dL_law_215 ?_
        refine z_callM B0 (z_runV (q0 := 0) (As := [.int 2, .int 1, .int x3]) (st := [.int 0]) B0 (c_X12_debt_29 (a := a2) mS0 x3 ⟨by omega, by omega⟩) cf_X12_debt (mw_0 cy a2 mS0) rfl wm_L_22 wi_X12_debt ws_X12_debt dL_law_216 rfl (Nat.le_of_ble_eq_true rfl) ⟨by decide, by decide, by decide, by decide⟩) (fun r2 u2 p2 => ?_)
        obtain ⟨rfl, -⟩ := p2
        refine z_icmp_eq_t (tgt := 1091) B0 dL_law_219 (by decide) rfl ?_
        exact fin u1 u2
    · obtain rfl : x2 = 2 := Int32.toInt_inj.mp (h2.trans (by decide))
      refine z_aload_n B0 dL_law_181 rfl rfl ?_
      refine z_aload_n B0 dL_law_182 rfl rfl ?_
      refine z_iload_n B0 dL_law_183 rfl rfl ?_
      refine z_iconst (v := 1) B0 dL_law_184 (by decide) ?_
      refine z_iadd (v := 1) B0 dL_law_185 (by decide) ?_
      refine y_sld (j := 1) (v := 2) B0 hX hbl (by decide) e1.symm dL_law_186 ?_
      refine z_aload_n B0 dL_law_187 rfl rfl ?_
      refine z_iload_n B0 dL_law_188 rfl rfl ?_
      refine z_iconst (v := 2) B0 dL_law_189 (by decide) ?_
      refine z_iadd (v := 2) B0 dL_law_190 (by decide) ?_
      refine y_sld (j := 2) (v := 2) B0 hX hbl (by decide) e2.symm dL_law_191 ?_
      refine z_aload_n B0 dL_law_192 rfl rfl ?_
      refine z_iload_n B0 dL_law_193 rfl rfl ?_
      refine z_iconst (v := 3) B0 dL_law_194 (by decide) ?_
      refine z_iadd (v := 3) B0 dL_law_195 (by decide) ?_
      refine y_sld (j := 3) (v := x3) B0 hX hbl (by decide) e3.symm dL_law_196 ?_
      refine z_callC B0 (z_runV (q0 := 0) (As := [.int 2, .int 2, .int x3]) (st := []) B0 (c_X11_debt_11 (a := a) (cS0 w) x3 ) cf_X11_debt (cw_0 cy tE a rw (cS0 w)) rfl wm_L_18 wi_X11_debt ws_X11_debt dL_law_197 rfl (Nat.le_of_ble_eq_true rfl) ⟨by decide, by decide, by decide, by decide⟩) (fun r1 u1 p1 => ?_)
      obtain ⟨rfl, -⟩ := p1
      refine z_aload_n B0 dL_law_200 rfl rfl ?_
      refine z_aload_n B0 dL_law_201 rfl rfl ?_
      refine z_iload_n B0 dL_law_202 rfl rfl ?_
      refine z_iconst (v := 1) B0 dL_law_203 (by decide) ?_
      refine z_iadd (v := 1) B0 dL_law_204 (by decide) ?_
      refine y_sld (j := 1) (v := 2) B0 hX hbl (by decide) e1.symm dL_law_205 ?_
      refine z_aload_n B0 dL_law_206 rfl rfl ?_
      refine z_iload_n B0 dL_law_207 rfl rfl ?_
      refine z_iconst (v := 2) B0 dL_law_208 (by decide) ?_
      refine z_iadd (v := 2) B0 dL_law_209 (by decide) ?_
      refine y_sld (j := 2) (v := 2) B0 hX hbl (by decide) e2.symm dL_law_210 ?_
      refine z_aload_n B0 dL_law_211 rfl rfl ?_
      refine z_iload_n B0 dL_law_212 rfl rfl ?_
      refine z_iconst (v := 3) B0 dL_law_213 (by decide) ?_
      refine z_iadd (v := 3) B0 dL_law_214 (by decide) ?_
      refine y_sld (j := 3) (v := x3) B0 hX hbl (by decide) e3.symm dL_law_215 ?_
      refine z_callM B0 (z_runV (q0 := 0) (As := [.int 2, .int 2, .int x3]) (st := [.int 0]) B0 (c_X12_debt_11 (a := a2) mS0 x3 ) cf_X12_debt (mw_0 cy a2 mS0) rfl wm_L_22 wi_X12_debt ws_X12_debt dL_law_216 rfl (Nat.le_of_ble_eq_true rfl) ⟨by decide, by decide, by decide, by decide⟩) (fun r2 u2 p2 => ?_)
      obtain ⟨rfl, -⟩ := p2
      refine z_icmp_eq_t (tgt := 1091) B0 dL_law_219 (by decide) rfl ?_
      exact fin u1 u2
    · refine z_aload_n B0 dL_law_181 rfl rfl ?_
      refine z_aload_n B0 dL_law_182 rfl rfl ?_
      refine z_iload_n B0 dL_law_183 rfl rfl ?_
      refine z_iconst (v := 1) B0 dL_law_184 (by decide) ?_
      refine z_iadd (v := 1) B0 dL_law_185 (by decide) ?_
      refine y_sld (j := 1) (v := 2) B0 hX hbl (by decide) e1.symm dL_law_186 ?_
      refine z_aload_n B0 dL_law_187 rfl rfl ?_
      refine z_iload_n B0 dL_law_188 rfl rfl ?_
      refine z_iconst (v := 2) B0 dL_law_189 (by decide) ?_
      refine z_iadd (v := 2) B0 dL_law_190 (by decide) ?_
      refine y_sld (j := 2) (v := x2) B0 hX hbl (by decide) e2.symm dL_law_191 ?_
      refine z_aload_n B0 dL_law_192 rfl rfl ?_
      refine z_iload_n B0 dL_law_193 rfl rfl ?_
      refine z_iconst (v := 3) B0 dL_law_194 (by decide) ?_
      refine z_iadd (v := 3) B0 dL_law_195 (by decide) ?_
      refine y_sld (j := 3) (v := x3) B0 hX hbl (by decide) e3.symm dL_law_196 ?_
      refine z_callC B0 (z_runV (q0 := 0) (As := [.int 2, .int x2, .int x3]) (st := []) B0 (c_X11_debt_8 (a := a) (cS0 w) x2 x3 ⟨by omega, by omega⟩) cf_X11_debt (cw_0 cy tE a rw (cS0 w)) rfl wm_L_18 wi_X11_debt ws_X11_debt dL_law_197 rfl (Nat.le_of_ble_eq_true rfl) ⟨by decide, by decide, by decide, by decide⟩) (fun r1 u1 p1 => ?_)
      obtain ⟨rfl, -⟩ := p1
      refine z_aload_n B0 dL_law_200 rfl rfl ?_
      refine z_aload_n B0 dL_law_201 rfl rfl ?_
      refine z_iload_n B0 dL_law_202 rfl rfl ?_
      refine z_iconst (v := 1) B0 dL_law_203 (by decide) ?_
      refine z_iadd (v := 1) B0 dL_law_204 (by decide) ?_
      refine y_sld (j := 1) (v := 2) B0 hX hbl (by decide) e1.symm dL_law_205 ?_
      refine z_aload_n B0 dL_law_206 rfl rfl ?_
      refine z_iload_n B0 dL_law_207 rfl rfl ?_
      refine z_iconst (v := 2) B0 dL_law_208 (by decide) ?_
      refine z_iadd (v := 2) B0 dL_law_209 (by decide) ?_
      refine y_sld (j := 2) (v := x2) B0 hX hbl (by decide) e2.symm dL_law_210 ?_
      refine z_aload_n B0 dL_law_211 rfl rfl ?_
      refine z_iload_n B0 dL_law_212 rfl rfl ?_
      refine z_iconst (v := 3) B0 dL_law_213 (by decide) ?_
      refine z_iadd (v := 3) B0 dL_law_214 (by decide) ?_
      refine y_sld (j := 3) (v := x3) B0 hX hbl (by decide) e3.symm dL_law_215 ?_
      refine z_callM B0 (z_runV (q0 := 0) (As := [.int 2, .int x2, .int x3]) (st := [.int 0]) B0 (c_X12_debt_8 (a := a2) mS0 x2 x3 ⟨by omega, by omega⟩) cf_X12_debt (mw_0 cy a2 mS0) rfl wm_L_22 wi_X12_debt ws_X12_debt dL_law_216 rfl (Nat.le_of_ble_eq_true rfl) ⟨by decide, by decide, by decide, by decide⟩) (fun r2 u2 p2 => ?_)
      obtain ⟨rfl, -⟩ := p2
      refine z_icmp_eq_t (tgt := 1091) B0 dL_law_219 (by decide) rfl ?_
      exact fin u1 u2
  · refine z_aload_n B0 dL_law_181 rfl rfl ?_
    refine z_aload_n B0 dL_law_182 rfl rfl ?_
    refine z_iload_n B0 dL_law_183 rfl rfl ?_
    refine z_iconst (v := 1) B0 dL_law_184 (by decide) ?_
    refine z_iadd (v := 1) B0 dL_law_185 (by decide) ?_
    refine y_sld (j := 1) (v := x1) B0 hX hbl (by decide) e1.symm dL_law_186 ?_
    refine z_aload_n B0 dL_law_187 rfl rfl ?_
    refine z_iload_n B0 dL_law_188 rfl rfl ?_
    refine z_iconst (v := 2) B0 dL_law_189 (by decide) ?_
    refine z_iadd (v := 2) B0 dL_law_190 (by decide) ?_
    refine y_sld (j := 2) (v := x2) B0 hX hbl (by decide) e2.symm dL_law_191 ?_
    refine z_aload_n B0 dL_law_192 rfl rfl ?_
    refine z_iload_n B0 dL_law_193 rfl rfl ?_
    refine z_iconst (v := 3) B0 dL_law_194 (by decide) ?_
    refine z_iadd (v := 3) B0 dL_law_195 (by decide) ?_
    refine y_sld (j := 3) (v := x3) B0 hX hbl (by decide) e3.symm dL_law_196 ?_
    refine z_callC B0 (z_runV (q0 := 0) (As := [.int x1, .int x2, .int x3]) (st := []) B0 (c_X11_debt_2 (a := a) (cS0 w) x1 x2 x3 ⟨by omega, by omega⟩) cf_X11_debt (cw_0 cy tE a rw (cS0 w)) rfl wm_L_18 wi_X11_debt ws_X11_debt dL_law_197 rfl (Nat.le_of_ble_eq_true rfl) ⟨by decide, by decide, by decide, by decide⟩) (fun r1 u1 p1 => ?_)
    obtain ⟨rfl, -⟩ := p1
    refine z_aload_n B0 dL_law_200 rfl rfl ?_
    refine z_aload_n B0 dL_law_201 rfl rfl ?_
    refine z_iload_n B0 dL_law_202 rfl rfl ?_
    refine z_iconst (v := 1) B0 dL_law_203 (by decide) ?_
    refine z_iadd (v := 1) B0 dL_law_204 (by decide) ?_
    refine y_sld (j := 1) (v := x1) B0 hX hbl (by decide) e1.symm dL_law_205 ?_
    refine z_aload_n B0 dL_law_206 rfl rfl ?_
    refine z_iload_n B0 dL_law_207 rfl rfl ?_
    refine z_iconst (v := 2) B0 dL_law_208 (by decide) ?_
    refine z_iadd (v := 2) B0 dL_law_209 (by decide) ?_
    refine y_sld (j := 2) (v := x2) B0 hX hbl (by decide) e2.symm dL_law_210 ?_
    refine z_aload_n B0 dL_law_211 rfl rfl ?_
    refine z_iload_n B0 dL_law_212 rfl rfl ?_
    refine z_iconst (v := 3) B0 dL_law_213 (by decide) ?_
    refine z_iadd (v := 3) B0 dL_law_214 (by decide) ?_
    refine y_sld (j := 3) (v := x3) B0 hX hbl (by decide) e3.symm dL_law_215 ?_
    refine z_callM B0 (z_runV (q0 := 0) (As := [.int x1, .int x2, .int x3]) (st := [.int 0]) B0 (c_X12_debt_2 (a := a2) mS0 x1 x2 x3 ⟨by omega, by omega⟩) cf_X12_debt (mw_0 cy a2 mS0) rfl wm_L_22 wi_X12_debt ws_X12_debt dL_law_216 rfl (Nat.le_of_ble_eq_true rfl) ⟨by decide, by decide, by decide, by decide⟩) (fun r2 u2 p2 => ?_)
    obtain ⟨rfl, -⟩ := p2
    refine z_icmp_eq_t (tgt := 1091) B0 dL_law_219 (by decide) rfl ?_
    exact fin u1 u2

set_option maxHeartbeats 8000000 in
set_option maxRecDepth 100000 in
theorem lo_kin {p : Program} {l : Launch} {e : Env} {s : State} {m : MethodId} {below : List Frame} {meth : Method} {c : Code} {D : va_G} {cy : Nat → ClassId} {tB tE b : Nat} {a a2 : Nat → Nat} {rw : Nat → Option Nat} {xs : Nat → Int32} (B0 : Bz p room_1 s m #[Value.ref b] meth c D cy s.heap.size tB tE (fun q => s.heap.size ≤ q) 4 cL_law RL meth.sig.returnType meth.name 2048 84000 600000 7302250) (hX : va_X b 6 xs s s.heap) (hbl : b < s.heap.size) (hrw : ∀ i, i < 6 → rw i = some (a (36 + 2 * i))) (w : Nat → Int64) (fin : ∀ S S9 : GS, Z p l e room_1 s m #[Value.ref b] below meth c D (fun q => s.heap.size ≤ q) 4 (lw_Z below #[Value.ref b] s) 200 60000 (cw cy tE a rw S ++ mw cy a2 S9) [(3, .int 0), (2, .ref (a2 0)), (1, .ref (a 0)), (0, .ref b)] 1091 []) : Z p l e room_1 s m #[Value.ref b] below meth c D (fun q => s.heap.size ≤ q) 4 (lw_Z below #[Value.ref b] s) 200 60000 (cw cy tE a rw (cS0 w) ++ mw cy a2 mS0) [(3, .int 0), (2, .ref (a2 0)), (1, .ref (a 0)), (0, .ref b)] 224 [] := by
  obtain ⟨x1, e1⟩ : ∃ x, x = xs 1 := ⟨_, rfl⟩
  obtain ⟨x2, e2⟩ : ∃ x, x = xs 2 := ⟨_, rfl⟩
  obtain ⟨x3, e3⟩ : ∃ x, x = xs 3 := ⟨_, rfl⟩
  obtain ⟨x4, e4⟩ : ∃ x, x = xs 4 := ⟨_, rfl⟩
  rcases (show ((-2147483648) ≤ x1.toInt ∧ x1.toInt ≤ (-1)) ∨ x1.toInt = 0 ∨ x1.toInt = 1 ∨ x1.toInt = 2 ∨ (3 ≤ x1.toInt ∧ x1.toInt ≤ 2147483647) by have g1 := Int32.le_toInt x1; have g2 := Int32.toInt_lt x1; omega) with h1 | h1 | h1 | h1 | h1
  · by_cases hb4 : x4 = 0
    · refine z_aload_n B0 dL_law_224 rfl rfl ?_
      refine z_aload_n B0 dL_law_225 rfl rfl ?_
      refine z_iload_n B0 dL_law_226 rfl rfl ?_
      refine z_iconst (v := 1) B0 dL_law_227 (by decide) ?_
      refine z_iadd (v := 1) B0 dL_law_228 (by decide) ?_
      refine y_sld (j := 1) (v := x1) B0 hX hbl (by decide) e1.symm dL_law_229 ?_
      refine z_aload_n B0 dL_law_230 rfl rfl ?_
      refine z_iload_n B0 dL_law_231 rfl rfl ?_
      refine z_iconst (v := 2) B0 dL_law_232 (by decide) ?_
      refine z_iadd (v := 2) B0 dL_law_233 (by decide) ?_
      refine y_sld (j := 2) (v := x2) B0 hX hbl (by decide) e2.symm dL_law_234 ?_
      refine z_aload_n B0 dL_law_235 rfl rfl ?_
      refine z_iload_n B0 dL_law_236 rfl rfl ?_
      refine z_iconst (v := 3) B0 dL_law_237 (by decide) ?_
      refine z_iadd (v := 3) B0 dL_law_238 (by decide) ?_
      refine y_sld (j := 3) (v := x3) B0 hX hbl (by decide) e3.symm dL_law_239 ?_
      refine z_aload_n B0 dL_law_240 rfl rfl ?_
      refine z_iload_n B0 dL_law_241 rfl rfl ?_
      refine z_iconst (v := 4) B0 dL_law_242 (by decide) ?_
      refine z_iadd (v := 4) B0 dL_law_243 (by decide) ?_
      refine y_sld (j := 4) (v := x4) B0 hX hbl (by decide) e4.symm dL_law_244 ?_
      refine z_if_eq_t (tgt := 252) B0 dL_law_245 (by decide) hb4 ?_
      refine z_iconst (v := 0) B0 dL_law_252 (by decide) ?_
      refine z_callC B0 (z_runV (q0 := 0) (As := [.int x1, .int x2, .int x3, .int 0]) (st := []) B0 (c_X11_kin (a := a) (cS0 w) x1 x2 x3 ⟨by omega, by omega⟩) cf_X11_kin (cw_0 cy tE a rw (cS0 w)) rfl wm_L_23 wi_X11_kin ws_X11_kin dL_law_253 rfl (Nat.le_of_ble_eq_true rfl) ⟨by decide, by decide, by decide, by decide⟩) (fun r1 u1 p1 => ?_)
      obtain ⟨rfl, -⟩ := p1
      refine z_aload_n B0 dL_law_256 rfl rfl ?_
      refine z_aload_n B0 dL_law_257 rfl rfl ?_
      refine z_iload_n B0 dL_law_258 rfl rfl ?_
      refine z_iconst (v := 1) B0 dL_law_259 (by decide) ?_
      refine z_iadd (v := 1) B0 dL_law_260 (by decide) ?_
      refine y_sld (j := 1) (v := x1) B0 hX hbl (by decide) e1.symm dL_law_261 ?_
      refine z_aload_n B0 dL_law_262 rfl rfl ?_
      refine z_iload_n B0 dL_law_263 rfl rfl ?_
      refine z_iconst (v := 2) B0 dL_law_264 (by decide) ?_
      refine z_iadd (v := 2) B0 dL_law_265 (by decide) ?_
      refine y_sld (j := 2) (v := x2) B0 hX hbl (by decide) e2.symm dL_law_266 ?_
      refine z_aload_n B0 dL_law_267 rfl rfl ?_
      refine z_iload_n B0 dL_law_268 rfl rfl ?_
      refine z_iconst (v := 3) B0 dL_law_269 (by decide) ?_
      refine z_iadd (v := 3) B0 dL_law_270 (by decide) ?_
      refine y_sld (j := 3) (v := x3) B0 hX hbl (by decide) e3.symm dL_law_271 ?_
      refine z_aload_n B0 dL_law_272 rfl rfl ?_
      refine z_iload_n B0 dL_law_273 rfl rfl ?_
      refine z_iconst (v := 4) B0 dL_law_274 (by decide) ?_
      refine z_iadd (v := 4) B0 dL_law_275 (by decide) ?_
      refine y_sld (j := 4) (v := x4) B0 hX hbl (by decide) e4.symm dL_law_276 ?_
      refine z_if_eq_t (tgt := 284) B0 dL_law_277 (by decide) hb4 ?_
      refine z_iconst (v := 0) B0 dL_law_284 (by decide) ?_
      refine z_callM B0 (z_runV (q0 := 0) (As := [.int x1, .int x2, .int x3, .int 0]) (st := [.int 0]) B0 (c_X12_kin (a := a2) mS0 x1 x2 x3 ⟨by omega, by omega⟩) cf_X12_kin (mw_0 cy a2 mS0) rfl wm_L_27 wi_X12_kin ws_X12_kin dL_law_285 rfl (Nat.le_of_ble_eq_true rfl) ⟨by decide, by decide, by decide, by decide⟩) (fun r2 u2 p2 => ?_)
      obtain ⟨rfl, -⟩ := p2
      refine z_icmp_eq_t (tgt := 1091) B0 dL_law_288 (by decide) rfl ?_
      exact fin u1 u2
    · refine z_aload_n B0 dL_law_224 rfl rfl ?_
      refine z_aload_n B0 dL_law_225 rfl rfl ?_
      refine z_iload_n B0 dL_law_226 rfl rfl ?_
      refine z_iconst (v := 1) B0 dL_law_227 (by decide) ?_
      refine z_iadd (v := 1) B0 dL_law_228 (by decide) ?_
      refine y_sld (j := 1) (v := x1) B0 hX hbl (by decide) e1.symm dL_law_229 ?_
      refine z_aload_n B0 dL_law_230 rfl rfl ?_
      refine z_iload_n B0 dL_law_231 rfl rfl ?_
      refine z_iconst (v := 2) B0 dL_law_232 (by decide) ?_
      refine z_iadd (v := 2) B0 dL_law_233 (by decide) ?_
      refine y_sld (j := 2) (v := x2) B0 hX hbl (by decide) e2.symm dL_law_234 ?_
      refine z_aload_n B0 dL_law_235 rfl rfl ?_
      refine z_iload_n B0 dL_law_236 rfl rfl ?_
      refine z_iconst (v := 3) B0 dL_law_237 (by decide) ?_
      refine z_iadd (v := 3) B0 dL_law_238 (by decide) ?_
      refine y_sld (j := 3) (v := x3) B0 hX hbl (by decide) e3.symm dL_law_239 ?_
      refine z_aload_n B0 dL_law_240 rfl rfl ?_
      refine z_iload_n B0 dL_law_241 rfl rfl ?_
      refine z_iconst (v := 4) B0 dL_law_242 (by decide) ?_
      refine z_iadd (v := 4) B0 dL_law_243 (by decide) ?_
      refine y_sld (j := 4) (v := x4) B0 hX hbl (by decide) e4.symm dL_law_244 ?_
      refine z_if_eq_f (tgt := 252) B0 dL_law_245 (by decide) hb4 ?_
      refine z_iconst (v := 1) B0 dL_law_248 (by decide) ?_
      refine z_goto (tgt := 253) B0 dL_law_249 (by decide) ?_
      refine z_callC B0 (z_runV (q0 := 0) (As := [.int x1, .int x2, .int x3, .int 1]) (st := []) B0 (c_X11_kin_2 (a := a) (cS0 w) x1 x2 x3 ⟨by omega, by omega⟩) cf_X11_kin (cw_0 cy tE a rw (cS0 w)) rfl wm_L_23 wi_X11_kin ws_X11_kin dL_law_253 rfl (Nat.le_of_ble_eq_true rfl) ⟨by decide, by decide, by decide, by decide⟩) (fun r1 u1 p1 => ?_)
      obtain ⟨rfl, -⟩ := p1
      refine z_aload_n B0 dL_law_256 rfl rfl ?_
      refine z_aload_n B0 dL_law_257 rfl rfl ?_
      refine z_iload_n B0 dL_law_258 rfl rfl ?_
      refine z_iconst (v := 1) B0 dL_law_259 (by decide) ?_
      refine z_iadd (v := 1) B0 dL_law_260 (by decide) ?_
      refine y_sld (j := 1) (v := x1) B0 hX hbl (by decide) e1.symm dL_law_261 ?_
      refine z_aload_n B0 dL_law_262 rfl rfl ?_
      refine z_iload_n B0 dL_law_263 rfl rfl ?_
      refine z_iconst (v := 2) B0 dL_law_264 (by decide) ?_
      refine z_iadd (v := 2) B0 dL_law_265 (by decide) ?_
      refine y_sld (j := 2) (v := x2) B0 hX hbl (by decide) e2.symm dL_law_266 ?_
      refine z_aload_n B0 dL_law_267 rfl rfl ?_
      refine z_iload_n B0 dL_law_268 rfl rfl ?_
      refine z_iconst (v := 3) B0 dL_law_269 (by decide) ?_
      refine z_iadd (v := 3) B0 dL_law_270 (by decide) ?_
      refine y_sld (j := 3) (v := x3) B0 hX hbl (by decide) e3.symm dL_law_271 ?_
      refine z_aload_n B0 dL_law_272 rfl rfl ?_
      refine z_iload_n B0 dL_law_273 rfl rfl ?_
      refine z_iconst (v := 4) B0 dL_law_274 (by decide) ?_
      refine z_iadd (v := 4) B0 dL_law_275 (by decide) ?_
      refine y_sld (j := 4) (v := x4) B0 hX hbl (by decide) e4.symm dL_law_276 ?_
      refine z_if_eq_f (tgt := 284) B0 dL_law_277 (by decide) hb4 ?_
      refine z_iconst (v := 1) B0 dL_law_280 (by decide) ?_
      refine z_goto (tgt := 285) B0 dL_law_281 (by decide) ?_
      refine z_callM B0 (z_runV (q0 := 0) (As := [.int x1, .int x2, .int x3, .int 1]) (st := [.int 0]) B0 (c_X12_kin_2 (a := a2) mS0 x1 x2 x3 ⟨by omega, by omega⟩) cf_X12_kin (mw_0 cy a2 mS0) rfl wm_L_27 wi_X12_kin ws_X12_kin dL_law_285 rfl (Nat.le_of_ble_eq_true rfl) ⟨by decide, by decide, by decide, by decide⟩) (fun r2 u2 p2 => ?_)
      obtain ⟨rfl, -⟩ := p2
      refine z_icmp_eq_t (tgt := 1091) B0 dL_law_288 (by decide) rfl ?_
      exact fin u1 u2
  · obtain rfl : x1 = 0 := Int32.toInt_inj.mp (h1.trans (by decide))
    rcases (show ((-2147483648) ≤ x2.toInt ∧ x2.toInt ≤ (-1)) ∨ x2.toInt = 0 ∨ x2.toInt = 1 ∨ x2.toInt = 2 ∨ (3 ≤ x2.toInt ∧ x2.toInt ≤ 2147483647) by have g1 := Int32.le_toInt x2; have g2 := Int32.toInt_lt x2; omega) with h2 | h2 | h2 | h2 | h2
    · by_cases hb4 : x4 = 0
      · refine z_aload_n B0 dL_law_224 rfl rfl ?_
        refine z_aload_n B0 dL_law_225 rfl rfl ?_
        refine z_iload_n B0 dL_law_226 rfl rfl ?_
        refine z_iconst (v := 1) B0 dL_law_227 (by decide) ?_
        refine z_iadd (v := 1) B0 dL_law_228 (by decide) ?_
        refine y_sld (j := 1) (v := 0) B0 hX hbl (by decide) e1.symm dL_law_229 ?_
        refine z_aload_n B0 dL_law_230 rfl rfl ?_
        refine z_iload_n B0 dL_law_231 rfl rfl ?_
        refine z_iconst (v := 2) B0 dL_law_232 (by decide) ?_
        refine z_iadd (v := 2) B0 dL_law_233 (by decide) ?_
        refine y_sld (j := 2) (v := x2) B0 hX hbl (by decide) e2.symm dL_law_234 ?_
        refine z_aload_n B0 dL_law_235 rfl rfl ?_
        refine z_iload_n B0 dL_law_236 rfl rfl ?_
        refine z_iconst (v := 3) B0 dL_law_237 (by decide) ?_
        refine z_iadd (v := 3) B0 dL_law_238 (by decide) ?_
        refine y_sld (j := 3) (v := x3) B0 hX hbl (by decide) e3.symm dL_law_239 ?_
        refine z_aload_n B0 dL_law_240 rfl rfl ?_
        refine z_iload_n B0 dL_law_241 rfl rfl ?_
        refine z_iconst (v := 4) B0 dL_law_242 (by decide) ?_
        refine z_iadd (v := 4) B0 dL_law_243 (by decide) ?_
        refine y_sld (j := 4) (v := x4) B0 hX hbl (by decide) e4.symm dL_law_244 ?_
        refine z_if_eq_t (tgt := 252) B0 dL_law_245 (by decide) hb4 ?_
        refine z_iconst (v := 0) B0 dL_law_252 (by decide) ?_
        refine z_callC B0 (z_runV (q0 := 0) (As := [.int 0, .int x2, .int x3, .int 0]) (st := []) B0 (c_X11_kin_5 (a := a) (cS0 w) x2 x3 ⟨by omega, by omega⟩) cf_X11_kin (cw_0 cy tE a rw (cS0 w)) rfl wm_L_23 wi_X11_kin ws_X11_kin dL_law_253 rfl (Nat.le_of_ble_eq_true rfl) ⟨by decide, by decide, by decide, by decide⟩) (fun r1 u1 p1 => ?_)
        obtain ⟨rfl, -⟩ := p1
        refine z_aload_n B0 dL_law_256 rfl rfl ?_
        refine z_aload_n B0 dL_law_257 rfl rfl ?_
        refine z_iload_n B0 dL_law_258 rfl rfl ?_
        refine z_iconst (v := 1) B0 dL_law_259 (by decide) ?_
        refine z_iadd (v := 1) B0 dL_law_260 (by decide) ?_
        refine y_sld (j := 1) (v := 0) B0 hX hbl (by decide) e1.symm dL_law_261 ?_
        refine z_aload_n B0 dL_law_262 rfl rfl ?_
        refine z_iload_n B0 dL_law_263 rfl rfl ?_
        refine z_iconst (v := 2) B0 dL_law_264 (by decide) ?_
        refine z_iadd (v := 2) B0 dL_law_265 (by decide) ?_
        refine y_sld (j := 2) (v := x2) B0 hX hbl (by decide) e2.symm dL_law_266 ?_
        refine z_aload_n B0 dL_law_267 rfl rfl ?_
        refine z_iload_n B0 dL_law_268 rfl rfl ?_
        refine z_iconst (v := 3) B0 dL_law_269 (by decide) ?_
        refine z_iadd (v := 3) B0 dL_law_270 (by decide) ?_
        refine y_sld (j := 3) (v := x3) B0 hX hbl (by decide) e3.symm dL_law_271 ?_
        refine z_aload_n B0 dL_law_272 rfl rfl ?_
        refine z_iload_n B0 dL_law_273 rfl rfl ?_
        refine z_iconst (v := 4) B0 dL_law_274 (by decide) ?_
        refine z_iadd (v := 4) B0 dL_law_275 (by decide) ?_
        refine y_sld (j := 4) (v := x4) B0 hX hbl (by decide) e4.symm dL_law_276 ?_
        refine z_if_eq_t (tgt := 284) B0 dL_law_277 (by decide) hb4 ?_
        refine z_iconst (v := 0) B0 dL_law_284 (by decide) ?_
        refine z_callM B0 (z_runV (q0 := 0) (As := [.int 0, .int x2, .int x3, .int 0]) (st := [.int 0]) B0 (c_X12_kin_5 (a := a2) mS0 x2 x3 ⟨by omega, by omega⟩) cf_X12_kin (mw_0 cy a2 mS0) rfl wm_L_27 wi_X12_kin ws_X12_kin dL_law_285 rfl (Nat.le_of_ble_eq_true rfl) ⟨by decide, by decide, by decide, by decide⟩) (fun r2 u2 p2 => ?_)
        obtain ⟨rfl, -⟩ := p2
        refine z_icmp_eq_t (tgt := 1091) B0 dL_law_288 (by decide) rfl ?_
        exact fin u1 u2
      · refine z_aload_n B0 dL_law_224 rfl rfl ?_
        refine z_aload_n B0 dL_law_225 rfl rfl ?_
        refine z_iload_n B0 dL_law_226 rfl rfl ?_
        refine z_iconst (v := 1) B0 dL_law_227 (by decide) ?_
        refine z_iadd (v := 1) B0 dL_law_228 (by decide) ?_
        refine y_sld (j := 1) (v := 0) B0 hX hbl (by decide) e1.symm dL_law_229 ?_
        refine z_aload_n B0 dL_law_230 rfl rfl ?_
        refine z_iload_n B0 dL_law_231 rfl rfl ?_
        refine z_iconst (v := 2) B0 dL_law_232 (by decide) ?_
        refine z_iadd (v := 2) B0 dL_law_233 (by decide) ?_
        refine y_sld (j := 2) (v := x2) B0 hX hbl (by decide) e2.symm dL_law_234 ?_
        refine z_aload_n B0 dL_law_235 rfl rfl ?_
        refine z_iload_n B0 dL_law_236 rfl rfl ?_
        refine z_iconst (v := 3) B0 dL_law_237 (by decide) ?_
        refine z_iadd (v := 3) B0 dL_law_238 (by decide) ?_
        refine y_sld (j := 3) (v := x3) B0 hX hbl (by decide) e3.symm dL_law_239 ?_
        refine z_aload_n B0 dL_law_240 rfl rfl ?_
        refine z_iload_n B0 dL_law_241 rfl rfl ?_
        refine z_iconst (v := 4) B0 dL_law_242 (by decide) ?_
        refine z_iadd (v := 4) B0 dL_law_243 (by decide) ?_
        refine y_sld (j := 4) (v := x4) B0 hX hbl (by decide) e4.symm dL_law_244 ?_
        refine z_if_eq_f (tgt := 252) B0 dL_law_245 (by decide) hb4 ?_
        refine z_iconst (v := 1) B0 dL_law_248 (by decide) ?_
        refine z_goto (tgt := 253) B0 dL_law_249 (by decide) ?_
        refine z_callC B0 (z_runV (q0 := 0) (As := [.int 0, .int x2, .int x3, .int 1]) (st := []) B0 (c_X11_kin_6 (a := a) (cS0 w) x2 x3 ⟨by omega, by omega⟩) cf_X11_kin (cw_0 cy tE a rw (cS0 w)) rfl wm_L_23 wi_X11_kin ws_X11_kin dL_law_253 rfl (Nat.le_of_ble_eq_true rfl) ⟨by decide, by decide, by decide, by decide⟩) (fun r1 u1 p1 => ?_)
        obtain ⟨rfl, -⟩ := p1
        refine z_aload_n B0 dL_law_256 rfl rfl ?_
        refine z_aload_n B0 dL_law_257 rfl rfl ?_
        refine z_iload_n B0 dL_law_258 rfl rfl ?_
        refine z_iconst (v := 1) B0 dL_law_259 (by decide) ?_
        refine z_iadd (v := 1) B0 dL_law_260 (by decide) ?_
        refine y_sld (j := 1) (v := 0) B0 hX hbl (by decide) e1.symm dL_law_261 ?_
        refine z_aload_n B0 dL_law_262 rfl rfl ?_
        refine z_iload_n B0 dL_law_263 rfl rfl ?_
        refine z_iconst (v := 2) B0 dL_law_264 (by decide) ?_
        refine z_iadd (v := 2) B0 dL_law_265 (by decide) ?_
        refine y_sld (j := 2) (v := x2) B0 hX hbl (by decide) e2.symm dL_law_266 ?_
        refine z_aload_n B0 dL_law_267 rfl rfl ?_
        refine z_iload_n B0 dL_law_268 rfl rfl ?_
        refine z_iconst (v := 3) B0 dL_law_269 (by decide) ?_
        refine z_iadd (v := 3) B0 dL_law_270 (by decide) ?_
        refine y_sld (j := 3) (v := x3) B0 hX hbl (by decide) e3.symm dL_law_271 ?_
        refine z_aload_n B0 dL_law_272 rfl rfl ?_
        refine z_iload_n B0 dL_law_273 rfl rfl ?_
        refine z_iconst (v := 4) B0 dL_law_274 (by decide) ?_
        refine z_iadd (v := 4) B0 dL_law_275 (by decide) ?_
        refine y_sld (j := 4) (v := x4) B0 hX hbl (by decide) e4.symm dL_law_276 ?_
        refine z_if_eq_f (tgt := 284) B0 dL_law_277 (by decide) hb4 ?_
        refine z_iconst (v := 1) B0 dL_law_280 (by decide) ?_
        refine z_goto (tgt := 285) B0 dL_law_281 (by decide) ?_
        refine z_callM B0 (z_runV (q0 := 0) (As := [.int 0, .int x2, .int x3, .int 1]) (st := [.int 0]) B0 (c_X12_kin_6 (a := a2) mS0 x2 x3 ⟨by omega, by omega⟩) cf_X12_kin (mw_0 cy a2 mS0) rfl wm_L_27 wi_X12_kin ws_X12_kin dL_law_285 rfl (Nat.le_of_ble_eq_true rfl) ⟨by decide, by decide, by decide, by decide⟩) (fun r2 u2 p2 => ?_)
        obtain ⟨rfl, -⟩ := p2
        refine z_icmp_eq_t (tgt := 1091) B0 dL_law_288 (by decide) rfl ?_
        exact fin u1 u2
    · obtain rfl : x2 = 0 := Int32.toInt_inj.mp (h2.trans (by decide))
      by_cases hb4 : x4 = 0
      · refine z_aload_n B0 dL_law_224 rfl rfl ?_
        refine z_aload_n B0 dL_law_225 rfl rfl ?_
        refine z_iload_n B0 dL_law_226 rfl rfl ?_
        refine z_iconst (v := 1) B0 dL_law_227 (by decide) ?_
        refine z_iadd (v := 1) B0 dL_law_228 (by decide) ?_
        refine y_sld (j := 1) (v := 0) B0 hX hbl (by decide) e1.symm dL_law_229 ?_
        refine z_aload_n B0 dL_law_230 rfl rfl ?_
        refine z_iload_n B0 dL_law_231 rfl rfl ?_
        refine z_iconst (v := 2) B0 dL_law_232 (by decide) ?_
        refine z_iadd (v := 2) B0 dL_law_233 (by decide) ?_
        refine y_sld (j := 2) (v := 0) B0 hX hbl (by decide) e2.symm dL_law_234 ?_
        refine z_aload_n B0 dL_law_235 rfl rfl ?_
        refine z_iload_n B0 dL_law_236 rfl rfl ?_
        refine z_iconst (v := 3) B0 dL_law_237 (by decide) ?_
        refine z_iadd (v := 3) B0 dL_law_238 (by decide) ?_
        refine y_sld (j := 3) (v := x3) B0 hX hbl (by decide) e3.symm dL_law_239 ?_
        refine z_aload_n B0 dL_law_240 rfl rfl ?_
        refine z_iload_n B0 dL_law_241 rfl rfl ?_
        refine z_iconst (v := 4) B0 dL_law_242 (by decide) ?_
        refine z_iadd (v := 4) B0 dL_law_243 (by decide) ?_
        refine y_sld (j := 4) (v := x4) B0 hX hbl (by decide) e4.symm dL_law_244 ?_
        refine z_if_eq_t (tgt := 252) B0 dL_law_245 (by decide) hb4 ?_
        refine z_iconst (v := 0) B0 dL_law_252 (by decide) ?_
        refine z_callC B0 (z_runV (q0 := 0) (As := [.int 0, .int 0, .int x3, .int 0]) (st := []) B0 (c_X11_kin_9 (a := a) (cS0 w) x3 ) cf_X11_kin (cw_0 cy tE a rw (cS0 w)) rfl wm_L_23 wi_X11_kin ws_X11_kin dL_law_253 rfl (Nat.le_of_ble_eq_true rfl) ⟨by decide, by decide, by decide, by decide⟩) (fun r1 u1 p1 => ?_)
        obtain ⟨rfl, -⟩ := p1
        refine z_aload_n B0 dL_law_256 rfl rfl ?_
        refine z_aload_n B0 dL_law_257 rfl rfl ?_
        refine z_iload_n B0 dL_law_258 rfl rfl ?_
        refine z_iconst (v := 1) B0 dL_law_259 (by decide) ?_
        refine z_iadd (v := 1) B0 dL_law_260 (by decide) ?_
        refine y_sld (j := 1) (v := 0) B0 hX hbl (by decide) e1.symm dL_law_261 ?_
        refine z_aload_n B0 dL_law_262 rfl rfl ?_
        refine z_iload_n B0 dL_law_263 rfl rfl ?_
        refine z_iconst (v := 2) B0 dL_law_264 (by decide) ?_
        refine z_iadd (v := 2) B0 dL_law_265 (by decide) ?_
        refine y_sld (j := 2) (v := 0) B0 hX hbl (by decide) e2.symm dL_law_266 ?_
        refine z_aload_n B0 dL_law_267 rfl rfl ?_
        refine z_iload_n B0 dL_law_268 rfl rfl ?_
        refine z_iconst (v := 3) B0 dL_law_269 (by decide) ?_
        refine z_iadd (v := 3) B0 dL_law_270 (by decide) ?_
        refine y_sld (j := 3) (v := x3) B0 hX hbl (by decide) e3.symm dL_law_271 ?_
        refine z_aload_n B0 dL_law_272 rfl rfl ?_
        refine z_iload_n B0 dL_law_273 rfl rfl ?_
        refine z_iconst (v := 4) B0 dL_law_274 (by decide) ?_
        refine z_iadd (v := 4) B0 dL_law_275 (by decide) ?_
        refine y_sld (j := 4) (v := x4) B0 hX hbl (by decide) e4.symm dL_law_276 ?_
        refine z_if_eq_t (tgt := 284) B0 dL_law_277 (by decide) hb4 ?_
        refine z_iconst (v := 0) B0 dL_law_284 (by decide) ?_
        refine z_callM B0 (z_runV (q0 := 0) (As := [.int 0, .int 0, .int x3, .int 0]) (st := [.int 0]) B0 (c_X12_kin_9 (a := a2) mS0 x3 ) cf_X12_kin (mw_0 cy a2 mS0) rfl wm_L_27 wi_X12_kin ws_X12_kin dL_law_285 rfl (Nat.le_of_ble_eq_true rfl) ⟨by decide, by decide, by decide, by decide⟩) (fun r2 u2 p2 => ?_)
        obtain ⟨rfl, -⟩ := p2
        refine z_icmp_eq_t (tgt := 1091) B0 dL_law_288 (by decide) rfl ?_
        exact fin u1 u2
      · refine z_aload_n B0 dL_law_224 rfl rfl ?_
        refine z_aload_n B0 dL_law_225 rfl rfl ?_
        refine z_iload_n B0 dL_law_226 rfl rfl ?_
        refine z_iconst (v := 1) B0 dL_law_227 (by decide) ?_
        refine z_iadd (v := 1) B0 dL_law_228 (by decide) ?_
        refine y_sld (j := 1) (v := 0) B0 hX hbl (by decide) e1.symm dL_law_229 ?_
        refine z_aload_n B0 dL_law_230 rfl rfl ?_
        refine z_iload_n B0 dL_law_231 rfl rfl ?_
        refine z_iconst (v := 2) B0 dL_law_232 (by decide) ?_
        refine z_iadd (v := 2) B0 dL_law_233 (by decide) ?_
        refine y_sld (j := 2) (v := 0) B0 hX hbl (by decide) e2.symm dL_law_234 ?_
        refine z_aload_n B0 dL_law_235 rfl rfl ?_
        refine z_iload_n B0 dL_law_236 rfl rfl ?_
        refine z_iconst (v := 3) B0 dL_law_237 (by decide) ?_
        refine z_iadd (v := 3) B0 dL_law_238 (by decide) ?_
        refine y_sld (j := 3) (v := x3) B0 hX hbl (by decide) e3.symm dL_law_239 ?_
        refine z_aload_n B0 dL_law_240 rfl rfl ?_
        refine z_iload_n B0 dL_law_241 rfl rfl ?_
        refine z_iconst (v := 4) B0 dL_law_242 (by decide) ?_
        refine z_iadd (v := 4) B0 dL_law_243 (by decide) ?_
        refine y_sld (j := 4) (v := x4) B0 hX hbl (by decide) e4.symm dL_law_244 ?_
        refine z_if_eq_f (tgt := 252) B0 dL_law_245 (by decide) hb4 ?_
        refine z_iconst (v := 1) B0 dL_law_248 (by decide) ?_
        refine z_goto (tgt := 253) B0 dL_law_249 (by decide) ?_
        refine z_callC B0 (z_runV (q0 := 0) (As := [.int 0, .int 0, .int x3, .int 1]) (st := []) B0 (c_X11_kin_10 (a := a) (cS0 w) x3 ) cf_X11_kin (cw_0 cy tE a rw (cS0 w)) rfl wm_L_23 wi_X11_kin ws_X11_kin dL_law_253 rfl (Nat.le_of_ble_eq_true rfl) ⟨by decide, by decide, by decide, by decide⟩) (fun r1 u1 p1 => ?_)
        obtain ⟨rfl, -⟩ := p1
        refine z_aload_n B0 dL_law_256 rfl rfl ?_
        refine z_aload_n B0 dL_law_257 rfl rfl ?_
        refine z_iload_n B0 dL_law_258 rfl rfl ?_
        refine z_iconst (v := 1) B0 dL_law_259 (by decide) ?_
        refine z_iadd (v := 1) B0 dL_law_260 (by decide) ?_
        refine y_sld (j := 1) (v := 0) B0 hX hbl (by decide) e1.symm dL_law_261 ?_
        refine z_aload_n B0 dL_law_262 rfl rfl ?_
        refine z_iload_n B0 dL_law_263 rfl rfl ?_
        refine z_iconst (v := 2) B0 dL_law_264 (by decide) ?_
        refine z_iadd (v := 2) B0 dL_law_265 (by decide) ?_
        refine y_sld (j := 2) (v := 0) B0 hX hbl (by decide) e2.symm dL_law_266 ?_
        refine z_aload_n B0 dL_law_267 rfl rfl ?_
        refine z_iload_n B0 dL_law_268 rfl rfl ?_
        refine z_iconst (v := 3) B0 dL_law_269 (by decide) ?_
        refine z_iadd (v := 3) B0 dL_law_270 (by decide) ?_
        refine y_sld (j := 3) (v := x3) B0 hX hbl (by decide) e3.symm dL_law_271 ?_
        refine z_aload_n B0 dL_law_272 rfl rfl ?_
        refine z_iload_n B0 dL_law_273 rfl rfl ?_
        refine z_iconst (v := 4) B0 dL_law_274 (by decide) ?_
        refine z_iadd (v := 4) B0 dL_law_275 (by decide) ?_
        refine y_sld (j := 4) (v := x4) B0 hX hbl (by decide) e4.symm dL_law_276 ?_
        refine z_if_eq_f (tgt := 284) B0 dL_law_277 (by decide) hb4 ?_
        refine z_iconst (v := 1) B0 dL_law_280 (by decide) ?_
        refine z_goto (tgt := 285) B0 dL_law_281 (by decide) ?_
        refine z_callM B0 (z_runV (q0 := 0) (As := [.int 0, .int 0, .int x3, .int 1]) (st := [.int 0]) B0 (c_X12_kin_10 (a := a2) mS0 x3 ) cf_X12_kin (mw_0 cy a2 mS0) rfl wm_L_27 wi_X12_kin ws_X12_kin dL_law_285 rfl (Nat.le_of_ble_eq_true rfl) ⟨by decide, by decide, by decide, by decide⟩) (fun r2 u2 p2 => ?_)
        obtain ⟨rfl, -⟩ := p2
        refine z_icmp_eq_t (tgt := 1091) B0 dL_law_288 (by decide) rfl ?_
        exact fin u1 u2
    · obtain rfl : x2 = 1 := Int32.toInt_inj.mp (h2.trans (by decide))
      rcases (show ((-2147483648) ≤ x3.toInt ∧ x3.toInt ≤ (-1)) ∨ x3.toInt = 0 ∨ x3.toInt = 1 ∨ (2 ≤ x3.toInt ∧ x3.toInt ≤ 2147483647) by have g1 := Int32.le_toInt x3; have g2 := Int32.toInt_lt x3; omega) with h3 | h3 | h3 | h3
      · by_cases hb4 : x4 = 0
        · refine z_aload_n B0 dL_law_224 rfl rfl ?_
          refine z_aload_n B0 dL_law_225 rfl rfl ?_
          refine z_iload_n B0 dL_law_226 rfl rfl ?_
          refine z_iconst (v := 1) B0 dL_law_227 (by decide) ?_
          refine z_iadd (v := 1) B0 dL_law_228 (by decide) ?_
          refine y_sld (j := 1) (v := 0) B0 hX hbl (by decide) e1.symm dL_law_229 ?_
          refine z_aload_n B0 dL_law_230 rfl rfl ?_
          refine z_iload_n B0 dL_law_231 rfl rfl ?_
          refine z_iconst (v := 2) B0 dL_law_232 (by decide) ?_
          refine z_iadd (v := 2) B0 dL_law_233 (by decide) ?_
          refine y_sld (j := 2) (v := 1) B0 hX hbl (by decide) e2.symm dL_law_234 ?_
          refine z_aload_n B0 dL_law_235 rfl rfl ?_
          refine z_iload_n B0 dL_law_236 rfl rfl ?_
          refine z_iconst (v := 3) B0 dL_law_237 (by decide) ?_
          refine z_iadd (v := 3) B0 dL_law_238 (by decide) ?_
          refine y_sld (j := 3) (v := x3) B0 hX hbl (by decide) e3.symm dL_law_239 ?_
          refine z_aload_n B0 dL_law_240 rfl rfl ?_
          refine z_iload_n B0 dL_law_241 rfl rfl ?_
          refine z_iconst (v := 4) B0 dL_law_242 (by decide) ?_
          refine z_iadd (v := 4) B0 dL_law_243 (by decide) ?_
          refine y_sld (j := 4) (v := x4) B0 hX hbl (by decide) e4.symm dL_law_244 ?_
          refine z_if_eq_t (tgt := 252) B0 dL_law_245 (by decide) hb4 ?_
          refine z_iconst (v := 0) B0 dL_law_252 (by decide) ?_
          refine z_callC B0 (z_runV (q0 := 0) (As := [.int 0, .int 1, .int x3, .int 0]) (st := []) B0 (c_X11_kin_23 (a := a) (cS0 w) x3 ⟨by omega, by omega⟩) cf_X11_kin (cw_0 cy tE a rw (cS0 w)) rfl wm_L_23 wi_X11_kin ws_X11_kin dL_law_253 rfl (Nat.le_of_ble_eq_true rfl) ⟨by decide, by decide, by decide, by decide⟩) (fun r1 u1 p1 => ?_)
          obtain ⟨rfl, -⟩ := p1
          refine z_aload_n B0 dL_law_256 rfl rfl ?_
          refine z_aload_n B0 dL_law_257 rfl rfl ?_
          refine z_iload_n B0 dL_law_258 rfl rfl ?_
          refine z_iconst (v := 1) B0 dL_law_259 (by decide) ?_
          refine z_iadd (v := 1) B0 dL_law_260 (by decide) ?_
          refine y_sld (j := 1) (v := 0) B0 hX hbl (by decide) e1.symm dL_law_261 ?_
          refine z_aload_n B0 dL_law_262 rfl rfl ?_
          refine z_iload_n B0 dL_law_263 rfl rfl ?_
          refine z_iconst (v := 2) B0 dL_law_264 (by decide) ?_
          refine z_iadd (v := 2) B0 dL_law_265 (by decide) ?_
          refine y_sld (j := 2) (v := 1) B0 hX hbl (by decide) e2.symm dL_law_266 ?_
          refine z_aload_n B0 dL_law_267 rfl rfl ?_
          refine z_iload_n B0 dL_law_268 rfl rfl ?_
          refine z_iconst (v := 3) B0 dL_law_269 (by decide) ?_
          refine z_iadd (v := 3) B0 dL_law_270 (by decide) ?_
          refine y_sld (j := 3) (v := x3) B0 hX hbl (by decide) e3.symm dL_law_271 ?_
          refine z_aload_n B0 dL_law_272 rfl rfl ?_
          refine z_iload_n B0 dL_law_273 rfl rfl ?_
          refine z_iconst (v := 4) B0 dL_law_274 (by decide) ?_
          refine z_iadd (v := 4) B0 dL_law_275 (by decide) ?_
          refine y_sld (j := 4) (v := x4) B0 hX hbl (by decide) e4.symm dL_law_276 ?_
          refine z_if_eq_t (tgt := 284) B0 dL_law_277 (by decide) hb4 ?_
          refine z_iconst (v := 0) B0 dL_law_284 (by decide) ?_
          refine z_callM B0 (z_runV (q0 := 0) (As := [.int 0, .int 1, .int x3, .int 0]) (st := [.int 0]) B0 (c_X12_kin_23 (a := a2) mS0 x3 ⟨by omega, by omega⟩) cf_X12_kin (mw_0 cy a2 mS0) rfl wm_L_27 wi_X12_kin ws_X12_kin dL_law_285 rfl (Nat.le_of_ble_eq_true rfl) ⟨by decide, by decide, by decide, by decide⟩) (fun r2 u2 p2 => ?_)
          obtain ⟨rfl, -⟩ := p2
          refine z_icmp_eq_t (tgt := 1091) B0 dL_law_288 (by decide) rfl ?_
          exact fin u1 u2
        · refine z_aload_n B0 dL_law_224 rfl rfl ?_
          refine z_aload_n B0 dL_law_225 rfl rfl ?_
          refine z_iload_n B0 dL_law_226 rfl rfl ?_
          refine z_iconst (v := 1) B0 dL_law_227 (by decide) ?_
          refine z_iadd (v := 1) B0 dL_law_228 (by decide) ?_
          refine y_sld (j := 1) (v := 0) B0 hX hbl (by decide) e1.symm dL_law_229 ?_
          refine z_aload_n B0 dL_law_230 rfl rfl ?_
          refine z_iload_n B0 dL_law_231 rfl rfl ?_
          refine z_iconst (v := 2) B0 dL_law_232 (by decide) ?_
          refine z_iadd (v := 2) B0 dL_law_233 (by decide) ?_
          refine y_sld (j := 2) (v := 1) B0 hX hbl (by decide) e2.symm dL_law_234 ?_
          refine z_aload_n B0 dL_law_235 rfl rfl ?_
          refine z_iload_n B0 dL_law_236 rfl rfl ?_
          refine z_iconst (v := 3) B0 dL_law_237 (by decide) ?_
          refine z_iadd (v := 3) B0 dL_law_238 (by decide) ?_
          refine y_sld (j := 3) (v := x3) B0 hX hbl (by decide) e3.symm dL_law_239 ?_
          refine z_aload_n B0 dL_law_240 rfl rfl ?_
          refine z_iload_n B0 dL_law_241 rfl rfl ?_
          refine z_iconst (v := 4) B0 dL_law_242 (by decide) ?_
          refine z_iadd (v := 4) B0 dL_law_243 (by decide) ?_
          refine y_sld (j := 4) (v := x4) B0 hX hbl (by decide) e4.symm dL_law_244 ?_
          refine z_if_eq_f (tgt := 252) B0 dL_law_245 (by decide) hb4 ?_
          refine z_iconst (v := 1) B0 dL_law_248 (by decide) ?_
          refine z_goto (tgt := 253) B0 dL_law_249 (by decide) ?_
          refine z_callC B0 (z_runV (q0 := 0) (As := [.int 0, .int 1, .int x3, .int 1]) (st := []) B0 (c_X11_kin_24 (a := a) (cS0 w) x3 ⟨by omega, by omega⟩) cf_X11_kin (cw_0 cy tE a rw (cS0 w)) rfl wm_L_23 wi_X11_kin ws_X11_kin dL_law_253 rfl (Nat.le_of_ble_eq_true rfl) ⟨by decide, by decide, by decide, by decide⟩) (fun r1 u1 p1 => ?_)
          obtain ⟨rfl, -⟩ := p1
          refine z_aload_n B0 dL_law_256 rfl rfl ?_
          refine z_aload_n B0 dL_law_257 rfl rfl ?_
          refine z_iload_n B0 dL_law_258 rfl rfl ?_
          refine z_iconst (v := 1) B0 dL_law_259 (by decide) ?_
          refine z_iadd (v := 1) B0 dL_law_260 (by decide) ?_
          refine y_sld (j := 1) (v := 0) B0 hX hbl (by decide) e1.symm dL_law_261 ?_
          refine z_aload_n B0 dL_law_262 rfl rfl ?_
          refine z_iload_n B0 dL_law_263 rfl rfl ?_
          refine z_iconst (v := 2) B0 dL_law_264 (by decide) ?_
          refine z_iadd (v := 2) B0 dL_law_265 (by decide) ?_
          refine y_sld (j := 2) (v := 1) B0 hX hbl (by decide) e2.symm dL_law_266 ?_
          refine z_aload_n B0 dL_law_267 rfl rfl ?_
          refine z_iload_n B0 dL_law_268 rfl rfl ?_
          refine z_iconst (v := 3) B0 dL_law_269 (by decide) ?_
          refine z_iadd (v := 3) B0 dL_law_270 (by decide) ?_
          refine y_sld (j := 3) (v := x3) B0 hX hbl (by decide) e3.symm dL_law_271 ?_
          refine z_aload_n B0 dL_law_272 rfl rfl ?_
          refine z_iload_n B0 dL_law_273 rfl rfl ?_
          refine z_iconst (v := 4) B0 dL_law_274 (by decide) ?_
          refine z_iadd (v := 4) B0 dL_law_275 (by decide) ?_
          refine y_sld (j := 4) (v := x4) B0 hX hbl (by decide) e4.symm dL_law_276 ?_
          refine z_if_eq_f (tgt := 284) B0 dL_law_277 (by decide) hb4 ?_
          refine z_iconst (v := 1) B0 dL_law_280 (by decide) ?_
          refine z_goto (tgt := 285) B0 dL_law_281 (by decide) ?_
          refine z_callM B0 (z_runV (q0 := 0) (As := [.int 0, .int 1, .int x3, .int 1]) (st := [.int 0]) B0 (c_X12_kin_24 (a := a2) mS0 x3 ⟨by omega, by omega⟩) cf_X12_kin (mw_0 cy a2 mS0) rfl wm_L_27 wi_X12_kin ws_X12_kin dL_law_285 rfl (Nat.le_of_ble_eq_true rfl) ⟨by decide, by decide, by decide, by decide⟩) (fun r2 u2 p2 => ?_)
          obtain ⟨rfl, -⟩ := p2
          refine z_icmp_eq_t (tgt := 1091) B0 dL_law_288 (by decide) rfl ?_
          exact fin u1 u2
      · obtain rfl : x3 = 0 := Int32.toInt_inj.mp (h3.trans (by decide))
        by_cases hb4 : x4 = 0
        · refine z_aload_n B0 dL_law_224 rfl rfl ?_
          refine z_aload_n B0 dL_law_225 rfl rfl ?_
          refine z_iload_n B0 dL_law_226 rfl rfl ?_
          refine z_iconst (v := 1) B0 dL_law_227 (by decide) ?_
          refine z_iadd (v := 1) B0 dL_law_228 (by decide) ?_
          refine y_sld (j := 1) (v := 0) B0 hX hbl (by decide) e1.symm dL_law_229 ?_
          refine z_aload_n B0 dL_law_230 rfl rfl ?_
          refine z_iload_n B0 dL_law_231 rfl rfl ?_
          refine z_iconst (v := 2) B0 dL_law_232 (by decide) ?_
          refine z_iadd (v := 2) B0 dL_law_233 (by decide) ?_
          refine y_sld (j := 2) (v := 1) B0 hX hbl (by decide) e2.symm dL_law_234 ?_
          refine z_aload_n B0 dL_law_235 rfl rfl ?_
          refine z_iload_n B0 dL_law_236 rfl rfl ?_
          refine z_iconst (v := 3) B0 dL_law_237 (by decide) ?_
          refine z_iadd (v := 3) B0 dL_law_238 (by decide) ?_
          refine y_sld (j := 3) (v := 0) B0 hX hbl (by decide) e3.symm dL_law_239 ?_
          refine z_aload_n B0 dL_law_240 rfl rfl ?_
          refine z_iload_n B0 dL_law_241 rfl rfl ?_
          refine z_iconst (v := 4) B0 dL_law_242 (by decide) ?_
          refine z_iadd (v := 4) B0 dL_law_243 (by decide) ?_
          refine y_sld (j := 4) (v := x4) B0 hX hbl (by decide) e4.symm dL_law_244 ?_
          refine z_if_eq_t (tgt := 252) B0 dL_law_245 (by decide) hb4 ?_
          refine z_iconst (v := 0) B0 dL_law_252 (by decide) ?_
          refine z_callC B0 (z_runV (q0 := 0) (As := [.int 0, .int 1, .int 0, .int 0]) (st := []) B0 (c_X11_kin_25 (a := a) (cS0 w)  rfl rfl rfl) cf_X11_kin (cw_0 cy tE a rw (cS0 w)) rfl wm_L_23 wi_X11_kin ws_X11_kin dL_law_253 rfl (Nat.le_of_ble_eq_true rfl) ⟨by decide, by decide, by decide, by decide⟩) (fun r1 u1 p1 => ?_)
          obtain ⟨rfl, -⟩ := p1
          refine z_aload_n B0 dL_law_256 rfl rfl ?_
          refine z_aload_n B0 dL_law_257 rfl rfl ?_
          refine z_iload_n B0 dL_law_258 rfl rfl ?_
          refine z_iconst (v := 1) B0 dL_law_259 (by decide) ?_
          refine z_iadd (v := 1) B0 dL_law_260 (by decide) ?_
          refine y_sld (j := 1) (v := 0) B0 hX hbl (by decide) e1.symm dL_law_261 ?_
          refine z_aload_n B0 dL_law_262 rfl rfl ?_
          refine z_iload_n B0 dL_law_263 rfl rfl ?_
          refine z_iconst (v := 2) B0 dL_law_264 (by decide) ?_
          refine z_iadd (v := 2) B0 dL_law_265 (by decide) ?_
          refine y_sld (j := 2) (v := 1) B0 hX hbl (by decide) e2.symm dL_law_266 ?_
          refine z_aload_n B0 dL_law_267 rfl rfl ?_
          refine z_iload_n B0 dL_law_268 rfl rfl ?_
          refine z_iconst (v := 3) B0 dL_law_269 (by decide) ?_
          refine z_iadd (v := 3) B0 dL_law_270 (by decide) ?_
          refine y_sld (j := 3) (v := 0) B0 hX hbl (by decide) e3.symm dL_law_271 ?_
          refine z_aload_n B0 dL_law_272 rfl rfl ?_
          refine z_iload_n B0 dL_law_273 rfl rfl ?_
          refine z_iconst (v := 4) B0 dL_law_274 (by decide) ?_
          refine z_iadd (v := 4) B0 dL_law_275 (by decide) ?_
          refine y_sld (j := 4) (v := x4) B0 hX hbl (by decide) e4.symm dL_law_276 ?_
          refine z_if_eq_t (tgt := 284) B0 dL_law_277 (by decide) hb4 ?_
          refine z_iconst (v := 0) B0 dL_law_284 (by decide) ?_
          refine z_callM B0 (z_runV (q0 := 0) (As := [.int 0, .int 1, .int 0, .int 0]) (st := [.int 1]) B0 (c_X12_kin_25 (a := a2) mS0  rfl rfl rfl rfl rfl rfl rfl rfl rfl rfl rfl rfl rfl rfl rfl rfl rfl rfl rfl rfl rfl rfl rfl rfl rfl rfl) cf_X12_kin (mw_0 cy a2 mS0) rfl wm_L_27 wi_X12_kin ws_X12_kin dL_law_285 rfl (Nat.le_of_ble_eq_true rfl) ⟨by decide, by decide, by decide, by decide⟩) (fun r2 u2 p2 => ?_)
          obtain ⟨rfl, -⟩ := p2
          refine z_icmp_eq_t (tgt := 1091) B0 dL_law_288 (by decide) rfl ?_
          exact fin u1 u2
        · refine z_aload_n B0 dL_law_224 rfl rfl ?_
          refine z_aload_n B0 dL_law_225 rfl rfl ?_
          refine z_iload_n B0 dL_law_226 rfl rfl ?_
          refine z_iconst (v := 1) B0 dL_law_227 (by decide) ?_
          refine z_iadd (v := 1) B0 dL_law_228 (by decide) ?_
          refine y_sld (j := 1) (v := 0) B0 hX hbl (by decide) e1.symm dL_law_229 ?_
          refine z_aload_n B0 dL_law_230 rfl rfl ?_
          refine z_iload_n B0 dL_law_231 rfl rfl ?_
          refine z_iconst (v := 2) B0 dL_law_232 (by decide) ?_
          refine z_iadd (v := 2) B0 dL_law_233 (by decide) ?_
          refine y_sld (j := 2) (v := 1) B0 hX hbl (by decide) e2.symm dL_law_234 ?_
          refine z_aload_n B0 dL_law_235 rfl rfl ?_
          refine z_iload_n B0 dL_law_236 rfl rfl ?_
          refine z_iconst (v := 3) B0 dL_law_237 (by decide) ?_
          refine z_iadd (v := 3) B0 dL_law_238 (by decide) ?_
          refine y_sld (j := 3) (v := 0) B0 hX hbl (by decide) e3.symm dL_law_239 ?_
          refine z_aload_n B0 dL_law_240 rfl rfl ?_
          refine z_iload_n B0 dL_law_241 rfl rfl ?_
          refine z_iconst (v := 4) B0 dL_law_242 (by decide) ?_
          refine z_iadd (v := 4) B0 dL_law_243 (by decide) ?_
          refine y_sld (j := 4) (v := x4) B0 hX hbl (by decide) e4.symm dL_law_244 ?_
          refine z_if_eq_f (tgt := 252) B0 dL_law_245 (by decide) hb4 ?_
          refine z_iconst (v := 1) B0 dL_law_248 (by decide) ?_
          refine z_goto (tgt := 253) B0 dL_law_249 (by decide) ?_
          refine z_callC B0 (z_runV (q0 := 0) (As := [.int 0, .int 1, .int 0, .int 1]) (st := []) B0 (c_X11_kin_26 (a := a) (cS0 w)  rfl) cf_X11_kin (cw_0 cy tE a rw (cS0 w)) rfl wm_L_23 wi_X11_kin ws_X11_kin dL_law_253 rfl (Nat.le_of_ble_eq_true rfl) ⟨by decide, by decide, by decide, by decide⟩) (fun r1 u1 p1 => ?_)
          obtain ⟨rfl, -⟩ := p1
          refine z_aload_n B0 dL_law_256 rfl rfl ?_
          refine z_aload_n B0 dL_law_257 rfl rfl ?_
          refine z_iload_n B0 dL_law_258 rfl rfl ?_
          refine z_iconst (v := 1) B0 dL_law_259 (by decide) ?_
          refine z_iadd (v := 1) B0 dL_law_260 (by decide) ?_
          refine y_sld (j := 1) (v := 0) B0 hX hbl (by decide) e1.symm dL_law_261 ?_
          refine z_aload_n B0 dL_law_262 rfl rfl ?_
          refine z_iload_n B0 dL_law_263 rfl rfl ?_
          refine z_iconst (v := 2) B0 dL_law_264 (by decide) ?_
          refine z_iadd (v := 2) B0 dL_law_265 (by decide) ?_
          refine y_sld (j := 2) (v := 1) B0 hX hbl (by decide) e2.symm dL_law_266 ?_
          refine z_aload_n B0 dL_law_267 rfl rfl ?_
          refine z_iload_n B0 dL_law_268 rfl rfl ?_
          refine z_iconst (v := 3) B0 dL_law_269 (by decide) ?_
          refine z_iadd (v := 3) B0 dL_law_270 (by decide) ?_
          refine y_sld (j := 3) (v := 0) B0 hX hbl (by decide) e3.symm dL_law_271 ?_
          refine z_aload_n B0 dL_law_272 rfl rfl ?_
          refine z_iload_n B0 dL_law_273 rfl rfl ?_
          refine z_iconst (v := 4) B0 dL_law_274 (by decide) ?_
          refine z_iadd (v := 4) B0 dL_law_275 (by decide) ?_
          refine y_sld (j := 4) (v := x4) B0 hX hbl (by decide) e4.symm dL_law_276 ?_
          refine z_if_eq_f (tgt := 284) B0 dL_law_277 (by decide) hb4 ?_
          refine z_iconst (v := 1) B0 dL_law_280 (by decide) ?_
          refine z_goto (tgt := 285) B0 dL_law_281 (by decide) ?_
          refine z_callM B0 (z_runV (q0 := 0) (As := [.int 0, .int 1, .int 0, .int 1]) (st := [.int 1]) B0 (c_X12_kin_26 (a := a2) mS0  rfl rfl rfl rfl rfl rfl rfl rfl rfl rfl rfl rfl rfl rfl rfl rfl rfl rfl rfl rfl rfl rfl rfl rfl rfl rfl) cf_X12_kin (mw_0 cy a2 mS0) rfl wm_L_27 wi_X12_kin ws_X12_kin dL_law_285 rfl (Nat.le_of_ble_eq_true rfl) ⟨by decide, by decide, by decide, by decide⟩) (fun r2 u2 p2 => ?_)
          obtain ⟨rfl, -⟩ := p2
          refine z_icmp_eq_t (tgt := 1091) B0 dL_law_288 (by decide) rfl ?_
          exact fin u1 u2
      · obtain rfl : x3 = 1 := Int32.toInt_inj.mp (h3.trans (by decide))
        by_cases hb4 : x4 = 0
        · refine z_aload_n B0 dL_law_224 rfl rfl ?_
          refine z_aload_n B0 dL_law_225 rfl rfl ?_
          refine z_iload_n B0 dL_law_226 rfl rfl ?_
          refine z_iconst (v := 1) B0 dL_law_227 (by decide) ?_
          refine z_iadd (v := 1) B0 dL_law_228 (by decide) ?_
          refine y_sld (j := 1) (v := 0) B0 hX hbl (by decide) e1.symm dL_law_229 ?_
          refine z_aload_n B0 dL_law_230 rfl rfl ?_
          refine z_iload_n B0 dL_law_231 rfl rfl ?_
          refine z_iconst (v := 2) B0 dL_law_232 (by decide) ?_
          refine z_iadd (v := 2) B0 dL_law_233 (by decide) ?_
          refine y_sld (j := 2) (v := 1) B0 hX hbl (by decide) e2.symm dL_law_234 ?_
          refine z_aload_n B0 dL_law_235 rfl rfl ?_
          refine z_iload_n B0 dL_law_236 rfl rfl ?_
          refine z_iconst (v := 3) B0 dL_law_237 (by decide) ?_
          refine z_iadd (v := 3) B0 dL_law_238 (by decide) ?_
          refine y_sld (j := 3) (v := 1) B0 hX hbl (by decide) e3.symm dL_law_239 ?_
          refine z_aload_n B0 dL_law_240 rfl rfl ?_
          refine z_iload_n B0 dL_law_241 rfl rfl ?_
          refine z_iconst (v := 4) B0 dL_law_242 (by decide) ?_
          refine z_iadd (v := 4) B0 dL_law_243 (by decide) ?_
          refine y_sld (j := 4) (v := x4) B0 hX hbl (by decide) e4.symm dL_law_244 ?_
          refine z_if_eq_t (tgt := 252) B0 dL_law_245 (by decide) hb4 ?_
          refine z_iconst (v := 0) B0 dL_law_252 (by decide) ?_
          refine z_callC B0 (z_runV (q0 := 0) (As := [.int 0, .int 1, .int 1, .int 0]) (st := []) B0 (c_X11_kin_27 (a := a) (cS0 w)  rfl rfl) cf_X11_kin (cw_0 cy tE a rw (cS0 w)) rfl wm_L_23 wi_X11_kin ws_X11_kin dL_law_253 rfl (Nat.le_of_ble_eq_true rfl) ⟨by decide, by decide, by decide, by decide⟩) (fun r1 u1 p1 => ?_)
          obtain ⟨rfl, -⟩ := p1
          refine z_aload_n B0 dL_law_256 rfl rfl ?_
          refine z_aload_n B0 dL_law_257 rfl rfl ?_
          refine z_iload_n B0 dL_law_258 rfl rfl ?_
          refine z_iconst (v := 1) B0 dL_law_259 (by decide) ?_
          refine z_iadd (v := 1) B0 dL_law_260 (by decide) ?_
          refine y_sld (j := 1) (v := 0) B0 hX hbl (by decide) e1.symm dL_law_261 ?_
          refine z_aload_n B0 dL_law_262 rfl rfl ?_
          refine z_iload_n B0 dL_law_263 rfl rfl ?_
          refine z_iconst (v := 2) B0 dL_law_264 (by decide) ?_
          refine z_iadd (v := 2) B0 dL_law_265 (by decide) ?_
          refine y_sld (j := 2) (v := 1) B0 hX hbl (by decide) e2.symm dL_law_266 ?_
          refine z_aload_n B0 dL_law_267 rfl rfl ?_
          refine z_iload_n B0 dL_law_268 rfl rfl ?_
          refine z_iconst (v := 3) B0 dL_law_269 (by decide) ?_
          refine z_iadd (v := 3) B0 dL_law_270 (by decide) ?_
          refine y_sld (j := 3) (v := 1) B0 hX hbl (by decide) e3.symm dL_law_271 ?_
          refine z_aload_n B0 dL_law_272 rfl rfl ?_
          refine z_iload_n B0 dL_law_273 rfl rfl ?_
          refine z_iconst (v := 4) B0 dL_law_274 (by decide) ?_
          refine z_iadd (v := 4) B0 dL_law_275 (by decide) ?_
          refine y_sld (j := 4) (v := x4) B0 hX hbl (by decide) e4.symm dL_law_276 ?_
          refine z_if_eq_t (tgt := 284) B0 dL_law_277 (by decide) hb4 ?_
          refine z_iconst (v := 0) B0 dL_law_284 (by decide) ?_
          refine z_callM B0 (z_runV (q0 := 0) (As := [.int 0, .int 1, .int 1, .int 0]) (st := [.int 1]) B0 (c_X12_kin_27 (a := a2) mS0  rfl rfl rfl rfl rfl rfl rfl rfl rfl rfl rfl rfl rfl rfl rfl rfl rfl rfl rfl rfl rfl rfl rfl rfl rfl rfl) cf_X12_kin (mw_0 cy a2 mS0) rfl wm_L_27 wi_X12_kin ws_X12_kin dL_law_285 rfl (Nat.le_of_ble_eq_true rfl) ⟨by decide, by decide, by decide, by decide⟩) (fun r2 u2 p2 => ?_)
          obtain ⟨rfl, -⟩ := p2
          refine z_icmp_eq_t (tgt := 1091) B0 dL_law_288 (by decide) rfl ?_
          exact fin u1 u2
        · refine z_aload_n B0 dL_law_224 rfl rfl ?_
          refine z_aload_n B0 dL_law_225 rfl rfl ?_
          refine z_iload_n B0 dL_law_226 rfl rfl ?_
          refine z_iconst (v := 1) B0 dL_law_227 (by decide) ?_
          refine z_iadd (v := 1) B0 dL_law_228 (by decide) ?_
          refine y_sld (j := 1) (v := 0) B0 hX hbl (by decide) e1.symm dL_law_229 ?_
          refine z_aload_n B0 dL_law_230 rfl rfl ?_
          refine z_iload_n B0 dL_law_231 rfl rfl ?_
          refine z_iconst (v := 2) B0 dL_law_232 (by decide) ?_
          refine z_iadd (v := 2) B0 dL_law_233 (by decide) ?_
          refine y_sld (j := 2) (v := 1) B0 hX hbl (by decide) e2.symm dL_law_234 ?_
          refine z_aload_n B0 dL_law_235 rfl rfl ?_
          refine z_iload_n B0 dL_law_236 rfl rfl ?_
          refine z_iconst (v := 3) B0 dL_law_237 (by decide) ?_
          refine z_iadd (v := 3) B0 dL_law_238 (by decide) ?_
          refine y_sld (j := 3) (v := 1) B0 hX hbl (by decide) e3.symm dL_law_239 ?_
          refine z_aload_n B0 dL_law_240 rfl rfl ?_
          refine z_iload_n B0 dL_law_241 rfl rfl ?_
          refine z_iconst (v := 4) B0 dL_law_242 (by decide) ?_
          refine z_iadd (v := 4) B0 dL_law_243 (by decide) ?_
          refine y_sld (j := 4) (v := x4) B0 hX hbl (by decide) e4.symm dL_law_244 ?_
          refine z_if_eq_f (tgt := 252) B0 dL_law_245 (by decide) hb4 ?_
          refine z_iconst (v := 1) B0 dL_law_248 (by decide) ?_
          refine z_goto (tgt := 253) B0 dL_law_249 (by decide) ?_
          refine z_callC B0 (z_runV (q0 := 0) (As := [.int 0, .int 1, .int 1, .int 1]) (st := []) B0 (c_X11_kin_28 (a := a) (cS0 w)  rfl) cf_X11_kin (cw_0 cy tE a rw (cS0 w)) rfl wm_L_23 wi_X11_kin ws_X11_kin dL_law_253 rfl (Nat.le_of_ble_eq_true rfl) ⟨by decide, by decide, by decide, by decide⟩) (fun r1 u1 p1 => ?_)
          obtain ⟨rfl, -⟩ := p1
          refine z_aload_n B0 dL_law_256 rfl rfl ?_
          refine z_aload_n B0 dL_law_257 rfl rfl ?_
          refine z_iload_n B0 dL_law_258 rfl rfl ?_
          refine z_iconst (v := 1) B0 dL_law_259 (by decide) ?_
          refine z_iadd (v := 1) B0 dL_law_260 (by decide) ?_
          refine y_sld (j := 1) (v := 0) B0 hX hbl (by decide) e1.symm dL_law_261 ?_
          refine z_aload_n B0 dL_law_262 rfl rfl ?_
          refine z_iload_n B0 dL_law_263 rfl rfl ?_
          refine z_iconst (v := 2) B0 dL_law_264 (by decide) ?_
          refine z_iadd (v := 2) B0 dL_law_265 (by decide) ?_
          refine y_sld (j := 2) (v := 1) B0 hX hbl (by decide) e2.symm dL_law_266 ?_
          refine z_aload_n B0 dL_law_267 rfl rfl ?_
          refine z_iload_n B0 dL_law_268 rfl rfl ?_
          refine z_iconst (v := 3) B0 dL_law_269 (by decide) ?_
          refine z_iadd (v := 3) B0 dL_law_270 (by decide) ?_
          refine y_sld (j := 3) (v := 1) B0 hX hbl (by decide) e3.symm dL_law_271 ?_
          refine z_aload_n B0 dL_law_272 rfl rfl ?_
          refine z_iload_n B0 dL_law_273 rfl rfl ?_
          refine z_iconst (v := 4) B0 dL_law_274 (by decide) ?_
          refine z_iadd (v := 4) B0 dL_law_275 (by decide) ?_
          refine y_sld (j := 4) (v := x4) B0 hX hbl (by decide) e4.symm dL_law_276 ?_
          refine z_if_eq_f (tgt := 284) B0 dL_law_277 (by decide) hb4 ?_
          refine z_iconst (v := 1) B0 dL_law_280 (by decide) ?_
          refine z_goto (tgt := 285) B0 dL_law_281 (by decide) ?_
          refine z_callM B0 (z_runV (q0 := 0) (As := [.int 0, .int 1, .int 1, .int 1]) (st := [.int 1]) B0 (c_X12_kin_28 (a := a2) mS0  rfl rfl rfl rfl rfl rfl rfl rfl rfl rfl rfl rfl rfl rfl rfl rfl rfl rfl rfl rfl rfl rfl rfl rfl rfl rfl) cf_X12_kin (mw_0 cy a2 mS0) rfl wm_L_27 wi_X12_kin ws_X12_kin dL_law_285 rfl (Nat.le_of_ble_eq_true rfl) ⟨by decide, by decide, by decide, by decide⟩) (fun r2 u2 p2 => ?_)
          obtain ⟨rfl, -⟩ := p2
          refine z_icmp_eq_t (tgt := 1091) B0 dL_law_288 (by decide) rfl ?_
          exact fin u1 u2
      · by_cases hb4 : x4 = 0
        · refine z_aload_n B0 dL_law_224 rfl rfl ?_
          refine z_aload_n B0 dL_law_225 rfl rfl ?_
          refine z_iload_n B0 dL_law_226 rfl rfl ?_
          refine z_iconst (v := 1) B0 dL_law_227 (by decide) ?_
          refine z_iadd (v := 1) B0 dL_law_228 (by decide) ?_
          refine y_sld (j := 1) (v := 0) B0 hX hbl (by decide) e1.symm dL_law_229 ?_
          refine z_aload_n B0 dL_law_230 rfl rfl ?_
          refine z_iload_n B0 dL_law_231 rfl rfl ?_
          refine z_iconst (v := 2) B0 dL_law_232 (by decide) ?_
          refine z_iadd (v := 2) B0 dL_law_233 (by decide) ?_
          refine y_sld (j := 2) (v := 1) B0 hX hbl (by decide) e2.symm dL_law_234 ?_
          refine z_aload_n B0 dL_law_235 rfl rfl ?_
          refine z_iload_n B0 dL_law_236 rfl rfl ?_
          refine z_iconst (v := 3) B0 dL_law_237 (by decide) ?_
          refine z_iadd (v := 3) B0 dL_law_238 (by decide) ?_
          refine y_sld (j := 3) (v := x3) B0 hX hbl (by decide) e3.symm dL_law_239 ?_
          refine z_aload_n B0 dL_law_240 rfl rfl ?_
          refine z_iload_n B0 dL_law_241 rfl rfl ?_
          refine z_iconst (v := 4) B0 dL_law_242 (by decide) ?_
          refine z_iadd (v := 4) B0 dL_law_243 (by decide) ?_
          refine y_sld (j := 4) (v := x4) B0 hX hbl (by decide) e4.symm dL_law_244 ?_
          refine z_if_eq_t (tgt := 252) B0 dL_law_245 (by decide) hb4 ?_
          refine z_iconst (v := 0) B0 dL_law_252 (by decide) ?_
          refine z_callC B0 (z_runV (q0 := 0) (As := [.int 0, .int 1, .int x3, .int 0]) (st := []) B0 (c_X11_kin_29 (a := a) (cS0 w) x3 ⟨by omega, by omega⟩) cf_X11_kin (cw_0 cy tE a rw (cS0 w)) rfl wm_L_23 wi_X11_kin ws_X11_kin dL_law_253 rfl (Nat.le_of_ble_eq_true rfl) ⟨by decide, by decide, by decide, by decide⟩) (fun r1 u1 p1 => ?_)
          obtain ⟨rfl, -⟩ := p1
          refine z_aload_n B0 dL_law_256 rfl rfl ?_
          refine z_aload_n B0 dL_law_257 rfl rfl ?_
          refine z_iload_n B0 dL_law_258 rfl rfl ?_
          refine z_iconst (v := 1) B0 dL_law_259 (by decide) ?_
          refine z_iadd (v := 1) B0 dL_law_260 (by decide) ?_
          refine y_sld (j := 1) (v := 0) B0 hX hbl (by decide) e1.symm dL_law_261 ?_
          refine z_aload_n B0 dL_law_262 rfl rfl ?_
          refine z_iload_n B0 dL_law_263 rfl rfl ?_
          refine z_iconst (v := 2) B0 dL_law_264 (by decide) ?_
          refine z_iadd (v := 2) B0 dL_law_265 (by decide) ?_
          refine y_sld (j := 2) (v := 1) B0 hX hbl (by decide) e2.symm dL_law_266 ?_
          refine z_aload_n B0 dL_law_267 rfl rfl ?_
          refine z_iload_n B0 dL_law_268 rfl rfl ?_
          refine z_iconst (v := 3) B0 dL_law_269 (by decide) ?_
          refine z_iadd (v := 3) B0 dL_law_270 (by decide) ?_
          refine y_sld (j := 3) (v := x3) B0 hX hbl (by decide) e3.symm dL_law_271 ?_
          refine z_aload_n B0 dL_law_272 rfl rfl ?_
          refine z_iload_n B0 dL_law_273 rfl rfl ?_
          refine z_iconst (v := 4) B0 dL_law_274 (by decide) ?_
          refine z_iadd (v := 4) B0 dL_law_275 (by decide) ?_
          refine y_sld (j := 4) (v := x4) B0 hX hbl (by decide) e4.symm dL_law_276 ?_
          refine z_if_eq_t (tgt := 284) B0 dL_law_277 (by decide) hb4 ?_
          refine z_iconst (v := 0) B0 dL_law_284 (by decide) ?_
          refine z_callM B0 (z_runV (q0 := 0) (As := [.int 0, .int 1, .int x3, .int 0]) (st := [.int 0]) B0 (c_X12_kin_29 (a := a2) mS0 x3 ⟨by omega, by omega⟩) cf_X12_kin (mw_0 cy a2 mS0) rfl wm_L_27 wi_X12_kin ws_X12_kin dL_law_285 rfl (Nat.le_of_ble_eq_true rfl) ⟨by decide, by decide, by decide, by decide⟩) (fun r2 u2 p2 => ?_)
          obtain ⟨rfl, -⟩ := p2
          refine z_icmp_eq_t (tgt := 1091) B0 dL_law_288 (by decide) rfl ?_
          exact fin u1 u2
        · refine z_aload_n B0 dL_law_224 rfl rfl ?_
          refine z_aload_n B0 dL_law_225 rfl rfl ?_
          refine z_iload_n B0 dL_law_226 rfl rfl ?_
          refine z_iconst (v := 1) B0 dL_law_227 (by decide) ?_
          refine z_iadd (v := 1) B0 dL_law_228 (by decide) ?_
          refine y_sld (j := 1) (v := 0) B0 hX hbl (by decide) e1.symm dL_law_229 ?_
          refine z_aload_n B0 dL_law_230 rfl rfl ?_
          refine z_iload_n B0 dL_law_231 rfl rfl ?_
          refine z_iconst (v := 2) B0 dL_law_232 (by decide) ?_
          refine z_iadd (v := 2) B0 dL_law_233 (by decide) ?_
          refine y_sld (j := 2) (v := 1) B0 hX hbl (by decide) e2.symm dL_law_234 ?_
          refine z_aload_n B0 dL_law_235 rfl rfl ?_
          refine z_iload_n B0 dL_law_236 rfl rfl ?_
          refine z_iconst (v := 3) B0 dL_law_237 (by decide) ?_
          refine z_iadd (v := 3) B0 dL_law_238 (by decide) ?_
          refine y_sld (j := 3) (v := x3) B0 hX hbl (by decide) e3.symm dL_law_239 ?_
          refine z_aload_n B0 dL_law_240 rfl rfl ?_
          refine z_iload_n B0 dL_law_241 rfl rfl ?_
          refine z_iconst (v := 4) B0 dL_law_242 (by decide) ?_
          refine z_iadd (v := 4) B0 dL_law_243 (by decide) ?_
          refine y_sld (j := 4) (v := x4) B0 hX hbl (by decide) e4.symm dL_law_244 ?_
          refine z_if_eq_f (tgt := 252) B0 dL_law_245 (by decide) hb4 ?_
          refine z_iconst (v := 1) B0 dL_law_248 (by decide) ?_
          refine z_goto (tgt := 253) B0 dL_law_249 (by decide) ?_
          refine z_callC B0 (z_runV (q0 := 0) (As := [.int 0, .int 1, .int x3, .int 1]) (st := []) B0 (c_X11_kin_30 (a := a) (cS0 w) x3 ⟨by omega, by omega⟩) cf_X11_kin (cw_0 cy tE a rw (cS0 w)) rfl wm_L_23 wi_X11_kin ws_X11_kin dL_law_253 rfl (Nat.le_of_ble_eq_true rfl) ⟨by decide, by decide, by decide, by decide⟩) (fun r1 u1 p1 => ?_)
          obtain ⟨rfl, -⟩ := p1
          refine z_aload_n B0 dL_law_256 rfl rfl ?_
          refine z_aload_n B0 dL_law_257 rfl rfl ?_
          refine z_iload_n B0 dL_law_258 rfl rfl ?_
          refine z_iconst (v := 1) B0 dL_law_259 (by decide) ?_
          refine z_iadd (v := 1) B0 dL_law_260 (by decide) ?_
          refine y_sld (j := 1) (v := 0) B0 hX hbl (by decide) e1.symm dL_law_261 ?_
          refine z_aload_n B0 dL_law_262 rfl rfl ?_
          refine z_iload_n B0 dL_law_263 rfl rfl ?_
          refine z_iconst (v := 2) B0 dL_law_264 (by decide) ?_
          refine z_iadd (v := 2) B0 dL_law_265 (by decide) ?_
          refine y_sld (j := 2) (v := 1) B0 hX hbl (by decide) e2.symm dL_law_266 ?_
          refine z_aload_n B0 dL_law_267 rfl rfl ?_
          refine z_iload_n B0 dL_law_268 rfl rfl ?_
          refine z_iconst (v := 3) B0 dL_law_269 (by decide) ?_
          refine z_iadd (v := 3) B0 dL_law_270 (by decide) ?_
          refine y_sld (j := 3) (v := x3) B0 hX hbl (by decide) e3.symm dL_law_271 ?_
          refine z_aload_n B0 dL_law_272 rfl rfl ?_
          refine z_iload_n B0 dL_law_273 rfl rfl ?_
          refine z_iconst (v := 4) B0 dL_law_274 (by decide) ?_
          refine z_iadd (v := 4) B0 dL_law_275 (by decide) ?_
          refine y_sld (j := 4) (v := x4) B0 hX hbl (by decide) e4.symm dL_law_276 ?_
          refine z_if_eq_f (tgt := 284) B0 dL_law_277 (by decide) hb4 ?_
          refine z_iconst (v := 1) B0 dL_law_280 (by decide) ?_
          refine z_goto (tgt := 285) B0 dL_law_281 (by decide) ?_
          refine z_callM B0 (z_runV (q0 := 0) (As := [.int 0, .int 1, .int x3, .int 1]) (st := [.int 0]) B0 (c_X12_kin_30 (a := a2) mS0 x3 ⟨by omega, by omega⟩) cf_X12_kin (mw_0 cy a2 mS0) rfl wm_L_27 wi_X12_kin ws_X12_kin dL_law_285 rfl (Nat.le_of_ble_eq_true rfl) ⟨by decide, by decide, by decide, by decide⟩) (fun r2 u2 p2 => ?_)
          obtain ⟨rfl, -⟩ := p2
          refine z_icmp_eq_t (tgt := 1091) B0 dL_law_288 (by decide) rfl ?_
          exact fin u1 u2
    · obtain rfl : x2 = 2 := Int32.toInt_inj.mp (h2.trans (by decide))
      rcases (show ((-2147483648) ≤ x3.toInt ∧ x3.toInt ≤ (-1)) ∨ x3.toInt = 0 ∨ x3.toInt = 1 ∨ (2 ≤ x3.toInt ∧ x3.toInt ≤ 2147483647) by have g1 := Int32.le_toInt x3; have g2 := Int32.toInt_lt x3; omega) with h3 | h3 | h3 | h3
      · by_cases hb4 : x4 = 0
        · refine z_aload_n B0 dL_law_224 rfl rfl ?_
          refine z_aload_n B0 dL_law_225 rfl rfl ?_
          refine z_iload_n B0 dL_law_226 rfl rfl ?_
          refine z_iconst (v := 1) B0 dL_law_227 (by decide) ?_
          refine z_iadd (v := 1) B0 dL_law_228 (by decide) ?_
          refine y_sld (j := 1) (v := 0) B0 hX hbl (by decide) e1.symm dL_law_229 ?_
          refine z_aload_n B0 dL_law_230 rfl rfl ?_
          refine z_iload_n B0 dL_law_231 rfl rfl ?_
          refine z_iconst (v := 2) B0 dL_law_232 (by decide) ?_
          refine z_iadd (v := 2) B0 dL_law_233 (by decide) ?_
          refine y_sld (j := 2) (v := 2) B0 hX hbl (by decide) e2.symm dL_law_234 ?_
          refine z_aload_n B0 dL_law_235 rfl rfl ?_
          refine z_iload_n B0 dL_law_236 rfl rfl ?_
          refine z_iconst (v := 3) B0 dL_law_237 (by decide) ?_
          refine z_iadd (v := 3) B0 dL_law_238 (by decide) ?_
          refine y_sld (j := 3) (v := x3) B0 hX hbl (by decide) e3.symm dL_law_239 ?_
          refine z_aload_n B0 dL_law_240 rfl rfl ?_
          refine z_iload_n B0 dL_law_241 rfl rfl ?_
          refine z_iconst (v := 4) B0 dL_law_242 (by decide) ?_
          refine z_iadd (v := 4) B0 dL_law_243 (by decide) ?_
          refine y_sld (j := 4) (v := x4) B0 hX hbl (by decide) e4.symm dL_law_244 ?_
          refine z_if_eq_t (tgt := 252) B0 dL_law_245 (by decide) hb4 ?_
          refine z_iconst (v := 0) B0 dL_law_252 (by decide) ?_
          refine z_callC B0 (z_runV (q0 := 0) (As := [.int 0, .int 2, .int x3, .int 0]) (st := []) B0 (c_X11_kin_31 (a := a) (cS0 w) x3 ⟨by omega, by omega⟩) cf_X11_kin (cw_0 cy tE a rw (cS0 w)) rfl wm_L_23 wi_X11_kin ws_X11_kin dL_law_253 rfl (Nat.le_of_ble_eq_true rfl) ⟨by decide, by decide, by decide, by decide⟩) (fun r1 u1 p1 => ?_)
          obtain ⟨rfl, -⟩ := p1
          refine z_aload_n B0 dL_law_256 rfl rfl ?_
          refine z_aload_n B0 dL_law_257 rfl rfl ?_
          refine z_iload_n B0 dL_law_258 rfl rfl ?_
          refine z_iconst (v := 1) B0 dL_law_259 (by decide) ?_
          refine z_iadd (v := 1) B0 dL_law_260 (by decide) ?_
          refine y_sld (j := 1) (v := 0) B0 hX hbl (by decide) e1.symm dL_law_261 ?_
          refine z_aload_n B0 dL_law_262 rfl rfl ?_
          refine z_iload_n B0 dL_law_263 rfl rfl ?_
          refine z_iconst (v := 2) B0 dL_law_264 (by decide) ?_
          refine z_iadd (v := 2) B0 dL_law_265 (by decide) ?_
          refine y_sld (j := 2) (v := 2) B0 hX hbl (by decide) e2.symm dL_law_266 ?_
          refine z_aload_n B0 dL_law_267 rfl rfl ?_
          refine z_iload_n B0 dL_law_268 rfl rfl ?_
          refine z_iconst (v := 3) B0 dL_law_269 (by decide) ?_
          refine z_iadd (v := 3) B0 dL_law_270 (by decide) ?_
          refine y_sld (j := 3) (v := x3) B0 hX hbl (by decide) e3.symm dL_law_271 ?_
          refine z_aload_n B0 dL_law_272 rfl rfl ?_
          refine z_iload_n B0 dL_law_273 rfl rfl ?_
          refine z_iconst (v := 4) B0 dL_law_274 (by decide) ?_
          refine z_iadd (v := 4) B0 dL_law_275 (by decide) ?_
          refine y_sld (j := 4) (v := x4) B0 hX hbl (by decide) e4.symm dL_law_276 ?_
          refine z_if_eq_t (tgt := 284) B0 dL_law_277 (by decide) hb4 ?_
          refine z_iconst (v := 0) B0 dL_law_284 (by decide) ?_
          refine z_callM B0 (z_runV (q0 := 0) (As := [.int 0, .int 2, .int x3, .int 0]) (st := [.int 0]) B0 (c_X12_kin_31 (a := a2) mS0 x3 ⟨by omega, by omega⟩) cf_X12_kin (mw_0 cy a2 mS0) rfl wm_L_27 wi_X12_kin ws_X12_kin dL_law_285 rfl (Nat.le_of_ble_eq_true rfl) ⟨by decide, by decide, by decide, by decide⟩) (fun r2 u2 p2 => ?_)
          obtain ⟨rfl, -⟩ := p2
          refine z_icmp_eq_t (tgt := 1091) B0 dL_law_288 (by decide) rfl ?_
          exact fin u1 u2
        · refine z_aload_n B0 dL_law_224 rfl rfl ?_
          refine z_aload_n B0 dL_law_225 rfl rfl ?_
          refine z_iload_n B0 dL_law_226 rfl rfl ?_
          refine z_iconst (v := 1) B0 dL_law_227 (by decide) ?_
          refine z_iadd (v := 1) B0 dL_law_228 (by decide) ?_
          refine y_sld (j := 1) (v := 0) B0 hX hbl (by decide) e1.symm dL_law_229 ?_
          refine z_aload_n B0 dL_law_230 rfl rfl ?_
          refine z_iload_n B0 dL_law_231 rfl rfl ?_
          refine z_iconst (v := 2) B0 dL_law_232 (by decide) ?_
          refine z_iadd (v := 2) B0 dL_law_233 (by decide) ?_
          refine y_sld (j := 2) (v := 2) B0 hX hbl (by decide) e2.symm dL_law_234 ?_
          refine z_aload_n B0 dL_law_235 rfl rfl ?_
          refine z_iload_n B0 dL_law_236 rfl rfl ?_
          refine z_iconst (v := 3) B0 dL_law_237 (by decide) ?_
          refine z_iadd (v := 3) B0 dL_law_238 (by decide) ?_
          refine y_sld (j := 3) (v := x3) B0 hX hbl (by decide) e3.symm dL_law_239 ?_
          refine z_aload_n B0 dL_law_240 rfl rfl ?_
          refine z_iload_n B0 dL_law_241 rfl rfl ?_
          refine z_iconst (v := 4) B0 dL_law_242 (by decide) ?_
          refine z_iadd (v := 4) B0 dL_law_243 (by decide) ?_
          refine y_sld (j := 4) (v := x4) B0 hX hbl (by decide) e4.symm dL_law_244 ?_
          refine z_if_eq_f (tgt := 252) B0 dL_law_245 (by decide) hb4 ?_
          refine z_iconst (v := 1) B0 dL_law_248 (by decide) ?_
          refine z_goto (tgt := 253) B0 dL_law_249 (by decide) ?_
          refine z_callC B0 (z_runV (q0 := 0) (As := [.int 0, .int 2, .int x3, .int 1]) (st := []) B0 (c_X11_kin_32 (a := a) (cS0 w) x3 ⟨by omega, by omega⟩) cf_X11_kin (cw_0 cy tE a rw (cS0 w)) rfl wm_L_23 wi_X11_kin ws_X11_kin dL_law_253 rfl (Nat.le_of_ble_eq_true rfl) ⟨by decide, by decide, by decide, by decide⟩) (fun r1 u1 p1 => ?_)
          obtain ⟨rfl, -⟩ := p1
          refine z_aload_n B0 dL_law_256 rfl rfl ?_
          refine z_aload_n B0 dL_law_257 rfl rfl ?_
          refine z_iload_n B0 dL_law_258 rfl rfl ?_
          refine z_iconst (v := 1) B0 dL_law_259 (by decide) ?_
          refine z_iadd (v := 1) B0 dL_law_260 (by decide) ?_
          refine y_sld (j := 1) (v := 0) B0 hX hbl (by decide) e1.symm dL_law_261 ?_
          refine z_aload_n B0 dL_law_262 rfl rfl ?_
          refine z_iload_n B0 dL_law_263 rfl rfl ?_
          refine z_iconst (v := 2) B0 dL_law_264 (by decide) ?_
          refine z_iadd (v := 2) B0 dL_law_265 (by decide) ?_
          refine y_sld (j := 2) (v := 2) B0 hX hbl (by decide) e2.symm dL_law_266 ?_
          refine z_aload_n B0 dL_law_267 rfl rfl ?_
          refine z_iload_n B0 dL_law_268 rfl rfl ?_
          refine z_iconst (v := 3) B0 dL_law_269 (by decide) ?_
          refine z_iadd (v := 3) B0 dL_law_270 (by decide) ?_
          refine y_sld (j := 3) (v := x3) B0 hX hbl (by decide) e3.symm dL_law_271 ?_
          refine z_aload_n B0 dL_law_272 rfl rfl ?_
          refine z_iload_n B0 dL_law_273 rfl rfl ?_
          refine z_iconst (v := 4) B0 dL_law_274 (by decide) ?_
          refine z_iadd (v := 4) B0 dL_law_275 (by decide) ?_
          refine y_sld (j := 4) (v := x4) B0 hX hbl (by decide) e4.symm dL_law_276 ?_
          refine z_if_eq_f (tgt := 284) B0 dL_law_277 (by decide) hb4 ?_
          refine z_iconst (v := 1) B0 dL_law_280 (by decide) ?_
          refine z_goto (tgt := 285) B0 dL_law_281 (by decide) ?_
          refine z_callM B0 (z_runV (q0 := 0) (As := [.int 0, .int 2, .int x3, .int 1]) (st := [.int 0]) B0 (c_X12_kin_32 (a := a2) mS0 x3 ⟨by omega, by omega⟩) cf_X12_kin (mw_0 cy a2 mS0) rfl wm_L_27 wi_X12_kin ws_X12_kin dL_law_285 rfl (Nat.le_of_ble_eq_true rfl) ⟨by decide, by decide, by decide, by decide⟩) (fun r2 u2 p2 => ?_)
          obtain ⟨rfl, -⟩ := p2
          refine z_icmp_eq_t (tgt := 1091) B0 dL_law_288 (by decide) rfl ?_
          exact fin u1 u2
      · obtain rfl : x3 = 0 := Int32.toInt_inj.mp (h3.trans (by decide))
        by_cases hb4 : x4 = 0
        · refine z_aload_n B0 dL_law_224 rfl rfl ?_
          refine z_aload_n B0 dL_law_225 rfl rfl ?_
          refine z_iload_n B0 dL_law_226 rfl rfl ?_
          refine z_iconst (v := 1) B0 dL_law_227 (by decide) ?_
          refine z_iadd (v := 1) B0 dL_law_228 (by decide) ?_
          refine y_sld (j := 1) (v := 0) B0 hX hbl (by decide) e1.symm dL_law_229 ?_
          refine z_aload_n B0 dL_law_230 rfl rfl ?_
          refine z_iload_n B0 dL_law_231 rfl rfl ?_
          refine z_iconst (v := 2) B0 dL_law_232 (by decide) ?_
          refine z_iadd (v := 2) B0 dL_law_233 (by decide) ?_
          refine y_sld (j := 2) (v := 2) B0 hX hbl (by decide) e2.symm dL_law_234 ?_
          refine z_aload_n B0 dL_law_235 rfl rfl ?_
          refine z_iload_n B0 dL_law_236 rfl rfl ?_
          refine z_iconst (v := 3) B0 dL_law_237 (by decide) ?_
          refine z_iadd (v := 3) B0 dL_law_238 (by decide) ?_
          refine y_sld (j := 3) (v := 0) B0 hX hbl (by decide) e3.symm dL_law_239 ?_
          refine z_aload_n B0 dL_law_240 rfl rfl ?_
          refine z_iload_n B0 dL_law_241 rfl rfl ?_
          refine z_iconst (v := 4) B0 dL_law_242 (by decide) ?_
          refine z_iadd (v := 4) B0 dL_law_243 (by decide) ?_
          refine y_sld (j := 4) (v := x4) B0 hX hbl (by decide) e4.symm dL_law_244 ?_
          refine z_if_eq_t (tgt := 252) B0 dL_law_245 (by decide) hb4 ?_
          refine z_iconst (v := 0) B0 dL_law_252 (by decide) ?_
          refine z_callC B0 (z_runV (q0 := 0) (As := [.int 0, .int 2, .int 0, .int 0]) (st := []) B0 (c_X11_kin_33 (a := a) (cS0 w)  rfl rfl rfl) cf_X11_kin (cw_0 cy tE a rw (cS0 w)) rfl wm_L_23 wi_X11_kin ws_X11_kin dL_law_253 rfl (Nat.le_of_ble_eq_true rfl) ⟨by decide, by decide, by decide, by decide⟩) (fun r1 u1 p1 => ?_)
          obtain ⟨rfl, -⟩ := p1
          refine z_aload_n B0 dL_law_256 rfl rfl ?_
          refine z_aload_n B0 dL_law_257 rfl rfl ?_
          refine z_iload_n B0 dL_law_258 rfl rfl ?_
          refine z_iconst (v := 1) B0 dL_law_259 (by decide) ?_
          refine z_iadd (v := 1) B0 dL_law_260 (by decide) ?_
          refine y_sld (j := 1) (v := 0) B0 hX hbl (by decide) e1.symm dL_law_261 ?_
          refine z_aload_n B0 dL_law_262 rfl rfl ?_
          refine z_iload_n B0 dL_law_263 rfl rfl ?_
          refine z_iconst (v := 2) B0 dL_law_264 (by decide) ?_
          refine z_iadd (v := 2) B0 dL_law_265 (by decide) ?_
          refine y_sld (j := 2) (v := 2) B0 hX hbl (by decide) e2.symm dL_law_266 ?_
          refine z_aload_n B0 dL_law_267 rfl rfl ?_
          refine z_iload_n B0 dL_law_268 rfl rfl ?_
          refine z_iconst (v := 3) B0 dL_law_269 (by decide) ?_
          refine z_iadd (v := 3) B0 dL_law_270 (by decide) ?_
          refine y_sld (j := 3) (v := 0) B0 hX hbl (by decide) e3.symm dL_law_271 ?_
          refine z_aload_n B0 dL_law_272 rfl rfl ?_
          refine z_iload_n B0 dL_law_273 rfl rfl ?_
          refine z_iconst (v := 4) B0 dL_law_274 (by decide) ?_
          refine z_iadd (v := 4) B0 dL_law_275 (by decide) ?_
          refine y_sld (j := 4) (v := x4) B0 hX hbl (by decide) e4.symm dL_law_276 ?_
          refine z_if_eq_t (tgt := 284) B0 dL_law_277 (by decide) hb4 ?_
          refine z_iconst (v := 0) B0 dL_law_284 (by decide) ?_
          refine z_callM B0 (z_runV (q0 := 0) (As := [.int 0, .int 2, .int 0, .int 0]) (st := [.int 1]) B0 (c_X12_kin_33 (a := a2) mS0  rfl rfl rfl rfl rfl rfl rfl rfl rfl rfl rfl rfl rfl rfl rfl rfl rfl rfl rfl rfl rfl rfl rfl rfl rfl rfl) cf_X12_kin (mw_0 cy a2 mS0) rfl wm_L_27 wi_X12_kin ws_X12_kin dL_law_285 rfl (Nat.le_of_ble_eq_true rfl) ⟨by decide, by decide, by decide, by decide⟩) (fun r2 u2 p2 => ?_)
          obtain ⟨rfl, -⟩ := p2
          refine z_icmp_eq_t (tgt := 1091) B0 dL_law_288 (by decide) rfl ?_
          exact fin u1 u2
        · refine z_aload_n B0 dL_law_224 rfl rfl ?_
          refine z_aload_n B0 dL_law_225 rfl rfl ?_
          refine z_iload_n B0 dL_law_226 rfl rfl ?_
          refine z_iconst (v := 1) B0 dL_law_227 (by decide) ?_
          refine z_iadd (v := 1) B0 dL_law_228 (by decide) ?_
          refine y_sld (j := 1) (v := 0) B0 hX hbl (by decide) e1.symm dL_law_229 ?_
          refine z_aload_n B0 dL_law_230 rfl rfl ?_
          refine z_iload_n B0 dL_law_231 rfl rfl ?_
          refine z_iconst (v := 2) B0 dL_law_232 (by decide) ?_
          refine z_iadd (v := 2) B0 dL_law_233 (by decide) ?_
          refine y_sld (j := 2) (v := 2) B0 hX hbl (by decide) e2.symm dL_law_234 ?_
          refine z_aload_n B0 dL_law_235 rfl rfl ?_
          refine z_iload_n B0 dL_law_236 rfl rfl ?_
          refine z_iconst (v := 3) B0 dL_law_237 (by decide) ?_
          refine z_iadd (v := 3) B0 dL_law_238 (by decide) ?_
          refine y_sld (j := 3) (v := 0) B0 hX hbl (by decide) e3.symm dL_law_239 ?_
          refine z_aload_n B0 dL_law_240 rfl rfl ?_
          refine z_iload_n B0 dL_law_241 rfl rfl ?_
          refine z_iconst (v := 4) B0 dL_law_242 (by decide) ?_
          refine z_iadd (v := 4) B0 dL_law_243 (by decide) ?_
          refine y_sld (j := 4) (v := x4) B0 hX hbl (by decide) e4.symm dL_law_244 ?_
          refine z_if_eq_f (tgt := 252) B0 dL_law_245 (by decide) hb4 ?_
          refine z_iconst (v := 1) B0 dL_law_248 (by decide) ?_
          refine z_goto (tgt := 253) B0 dL_law_249 (by decide) ?_
          refine z_callC B0 (z_runV (q0 := 0) (As := [.int 0, .int 2, .int 0, .int 1]) (st := []) B0 (c_X11_kin_34 (a := a) (cS0 w)  rfl) cf_X11_kin (cw_0 cy tE a rw (cS0 w)) rfl wm_L_23 wi_X11_kin ws_X11_kin dL_law_253 rfl (Nat.le_of_ble_eq_true rfl) ⟨by decide, by decide, by decide, by decide⟩) (fun r1 u1 p1 => ?_)
          obtain ⟨rfl, -⟩ := p1
          refine z_aload_n B0 dL_law_256 rfl rfl ?_
          refine z_aload_n B0 dL_law_257 rfl rfl ?_
          refine z_iload_n B0 dL_law_258 rfl rfl ?_
          refine z_iconst (v := 1) B0 dL_law_259 (by decide) ?_
          refine z_iadd (v := 1) B0 dL_law_260 (by decide) ?_
          refine y_sld (j := 1) (v := 0) B0 hX hbl (by decide) e1.symm dL_law_261 ?_
          refine z_aload_n B0 dL_law_262 rfl rfl ?_
          refine z_iload_n B0 dL_law_263 rfl rfl ?_
          refine z_iconst (v := 2) B0 dL_law_264 (by decide) ?_
          refine z_iadd (v := 2) B0 dL_law_265 (by decide) ?_
          refine y_sld (j := 2) (v := 2) B0 hX hbl (by decide) e2.symm dL_law_266 ?_
          refine z_aload_n B0 dL_law_267 rfl rfl ?_
          refine z_iload_n B0 dL_law_268 rfl rfl ?_
          refine z_iconst (v := 3) B0 dL_law_269 (by decide) ?_
          refine z_iadd (v := 3) B0 dL_law_270 (by decide) ?_
          refine y_sld (j := 3) (v := 0) B0 hX hbl (by decide) e3.symm dL_law_271 ?_
          refine z_aload_n B0 dL_law_272 rfl rfl ?_
          refine z_iload_n B0 dL_law_273 rfl rfl ?_
          refine z_iconst (v := 4) B0 dL_law_274 (by decide) ?_
          refine z_iadd (v := 4) B0 dL_law_275 (by decide) ?_
          refine y_sld (j := 4) (v := x4) B0 hX hbl (by decide) e4.symm dL_law_276 ?_
          refine z_if_eq_f (tgt := 284) B0 dL_law_277 (by decide) hb4 ?_
          refine z_iconst (v := 1) B0 dL_law_280 (by decide) ?_
          refine z_goto (tgt := 285) B0 dL_law_281 (by decide) ?_
          refine z_callM B0 (z_runV (q0 := 0) (As := [.int 0, .int 2, .int 0, .int 1]) (st := [.int 1]) B0 (c_X12_kin_34 (a := a2) mS0  rfl rfl rfl rfl rfl rfl rfl rfl rfl rfl rfl rfl rfl rfl rfl rfl rfl rfl rfl rfl rfl rfl rfl rfl rfl rfl) cf_X12_kin (mw_0 cy a2 mS0) rfl wm_L_27 wi_X12_kin ws_X12_kin dL_law_285 rfl (Nat.le_of_ble_eq_true rfl) ⟨by decide, by decide, by decide, by decide⟩) (fun r2 u2 p2 => ?_)
          obtain ⟨rfl, -⟩ := p2
          refine z_icmp_eq_t (tgt := 1091) B0 dL_law_288 (by decide) rfl ?_
          exact fin u1 u2
      · obtain rfl : x3 = 1 := Int32.toInt_inj.mp (h3.trans (by decide))
        by_cases hb4 : x4 = 0
        · refine z_aload_n B0 dL_law_224 rfl rfl ?_
          refine z_aload_n B0 dL_law_225 rfl rfl ?_
          refine z_iload_n B0 dL_law_226 rfl rfl ?_
          refine z_iconst (v := 1) B0 dL_law_227 (by decide) ?_
          refine z_iadd (v := 1) B0 dL_law_228 (by decide) ?_
          refine y_sld (j := 1) (v := 0) B0 hX hbl (by decide) e1.symm dL_law_229 ?_
          refine z_aload_n B0 dL_law_230 rfl rfl ?_
          refine z_iload_n B0 dL_law_231 rfl rfl ?_
          refine z_iconst (v := 2) B0 dL_law_232 (by decide) ?_
          refine z_iadd (v := 2) B0 dL_law_233 (by decide) ?_
          refine y_sld (j := 2) (v := 2) B0 hX hbl (by decide) e2.symm dL_law_234 ?_
          refine z_aload_n B0 dL_law_235 rfl rfl ?_
          refine z_iload_n B0 dL_law_236 rfl rfl ?_
          refine z_iconst (v := 3) B0 dL_law_237 (by decide) ?_
          refine z_iadd (v := 3) B0 dL_law_238 (by decide) ?_
          refine y_sld (j := 3) (v := 1) B0 hX hbl (by decide) e3.symm dL_law_239 ?_
          refine z_aload_n B0 dL_law_240 rfl rfl ?_
          refine z_iload_n B0 dL_law_241 rfl rfl ?_
          refine z_iconst (v := 4) B0 dL_law_242 (by decide) ?_
          refine z_iadd (v := 4) B0 dL_law_243 (by decide) ?_
          refine y_sld (j := 4) (v := x4) B0 hX hbl (by decide) e4.symm dL_law_244 ?_
          refine z_if_eq_t (tgt := 252) B0 dL_law_245 (by decide) hb4 ?_
          refine z_iconst (v := 0) B0 dL_law_252 (by decide) ?_
          refine z_callC B0 (z_runV (q0 := 0) (As := [.int 0, .int 2, .int 1, .int 0]) (st := []) B0 (c_X11_kin_35 (a := a) (cS0 w)  rfl rfl) cf_X11_kin (cw_0 cy tE a rw (cS0 w)) rfl wm_L_23 wi_X11_kin ws_X11_kin dL_law_253 rfl (Nat.le_of_ble_eq_true rfl) ⟨by decide, by decide, by decide, by decide⟩) (fun r1 u1 p1 => ?_)
          obtain ⟨rfl, -⟩ := p1
          refine z_aload_n B0 dL_law_256 rfl rfl ?_
          refine z_aload_n B0 dL_law_257 rfl rfl ?_
          refine z_iload_n B0 dL_law_258 rfl rfl ?_
          refine z_iconst (v := 1) B0 dL_law_259 (by decide) ?_
          refine z_iadd (v := 1) B0 dL_law_260 (by decide) ?_
          refine y_sld (j := 1) (v := 0) B0 hX hbl (by decide) e1.symm dL_law_261 ?_
          refine z_aload_n B0 dL_law_262 rfl rfl ?_
          refine z_iload_n B0 dL_law_263 rfl rfl ?_
          refine z_iconst (v := 2) B0 dL_law_264 (by decide) ?_
          refine z_iadd (v := 2) B0 dL_law_265 (by decide) ?_
          refine y_sld (j := 2) (v := 2) B0 hX hbl (by decide) e2.symm dL_law_266 ?_
          refine z_aload_n B0 dL_law_267 rfl rfl ?_
          refine z_iload_n B0 dL_law_268 rfl rfl ?_
          refine z_iconst (v := 3) B0 dL_law_269 (by decide) ?_
          refine z_iadd (v := 3) B0 dL_law_270 (by decide) ?_
          refine y_sld (j := 3) (v := 1) B0 hX hbl (by decide) e3.symm dL_law_271 ?_
          refine z_aload_n B0 dL_law_272 rfl rfl ?_
          refine z_iload_n B0 dL_law_273 rfl rfl ?_
          refine z_iconst (v := 4) B0 dL_law_274 (by decide) ?_
          refine z_iadd (v := 4) B0 dL_law_275 (by decide) ?_
          refine y_sld (j := 4) (v := x4) B0 hX hbl (by decide) e4.symm dL_law_276 ?_
          refine z_if_eq_t (tgt := 284) B0 dL_law_277 (by decide) hb4 ?_
          refine z_iconst (v := 0) B0 dL_law_284 (by decide) ?_
          refine z_callM B0 (z_runV (q0 := 0) (As := [.int 0, .int 2, .int 1, .int 0]) (st := [.int 1]) B0 (c_X12_kin_35 (a := a2) mS0  rfl rfl rfl rfl rfl rfl rfl rfl rfl rfl rfl rfl rfl rfl rfl rfl rfl rfl rfl rfl rfl rfl rfl rfl rfl rfl) cf_X12_kin (mw_0 cy a2 mS0) rfl wm_L_27 wi_X12_kin ws_X12_kin dL_law_285 rfl (Nat.le_of_ble_eq_true rfl) ⟨by decide, by decide, by decide, by decide⟩) (fun r2 u2 p2 => ?_)
          obtain ⟨rfl, -⟩ := p2
          refine z_icmp_eq_t (tgt := 1091) B0 dL_law_288 (by decide) rfl ?_
          exact fin u1 u2
        · refine z_aload_n B0 dL_law_224 rfl rfl ?_
          refine z_aload_n B0 dL_law_225 rfl rfl ?_
          refine z_iload_n B0 dL_law_226 rfl rfl ?_
          refine z_iconst (v := 1) B0 dL_law_227 (by decide) ?_
          refine z_iadd (v := 1) B0 dL_law_228 (by decide) ?_
          refine y_sld (j := 1) (v := 0) B0 hX hbl (by decide) e1.symm dL_law_229 ?_
          refine z_aload_n B0 dL_law_230 rfl rfl ?_
          refine z_iload_n B0 dL_law_231 rfl rfl ?_
          refine z_iconst (v := 2) B0 dL_law_232 (by decide) ?_
          refine z_iadd (v := 2) B0 dL_law_233 (by decide) ?_
          refine y_sld (j := 2) (v := 2) B0 hX hbl (by decide) e2.symm dL_law_234 ?_
          refine z_aload_n B0 dL_law_235 rfl rfl ?_
          refine z_iload_n B0 dL_law_236 rfl rfl ?_
          refine z_iconst (v := 3) B0 dL_law_237 (by decide) ?_
          refine z_iadd (v := 3) B0 dL_law_238 (by decide) ?_
          refine y_sld (j := 3) (v := 1) B0 hX hbl (by decide) e3.symm dL_law_239 ?_
          refine z_aload_n B0 dL_law_240 rfl rfl ?_
          refine z_iload_n B0 dL_law_241 rfl rfl ?_
          refine z_iconst (v := 4) B0 dL_law_242 (by decide) ?_
          refine z_iadd (v := 4) B0 dL_law_243 (by decide) ?_
          refine y_sld (j := 4) (v := x4) B0 hX hbl (by decide) e4.symm dL_law_244 ?_
          refine z_if_eq_f (tgt := 252) B0 dL_law_245 (by decide) hb4 ?_
          refine z_iconst (v := 1) B0 dL_law_248 (by decide) ?_
          refine z_goto (tgt := 253) B0 dL_law_249 (by decide) ?_
          refine z_callC B0 (z_runV (q0 := 0) (As := [.int 0, .int 2, .int 1, .int 1]) (st := []) B0 (c_X11_kin_36 (a := a) (cS0 w)  rfl) cf_X11_kin (cw_0 cy tE a rw (cS0 w)) rfl wm_L_23 wi_X11_kin ws_X11_kin dL_law_253 rfl (Nat.le_of_ble_eq_true rfl) ⟨by decide, by decide, by decide, by decide⟩) (fun r1 u1 p1 => ?_)
          obtain ⟨rfl, -⟩ := p1
          refine z_aload_n B0 dL_law_256 rfl rfl ?_
          refine z_aload_n B0 dL_law_257 rfl rfl ?_
          refine z_iload_n B0 dL_law_258 rfl rfl ?_
          refine z_iconst (v := 1) B0 dL_law_259 (by decide) ?_
          refine z_iadd (v := 1) B0 dL_law_260 (by decide) ?_
          refine y_sld (j := 1) (v := 0) B0 hX hbl (by decide) e1.symm dL_law_261 ?_
          refine z_aload_n B0 dL_law_262 rfl rfl ?_
          refine z_iload_n B0 dL_law_263 rfl rfl ?_
          refine z_iconst (v := 2) B0 dL_law_264 (by decide) ?_
          refine z_iadd (v := 2) B0 dL_law_265 (by decide) ?_
          refine y_sld (j := 2) (v := 2) B0 hX hbl (by decide) e2.symm dL_law_266 ?_
          refine z_aload_n B0 dL_law_267 rfl rfl ?_
          refine z_iload_n B0 dL_law_268 rfl rfl ?_
          refine z_iconst (v := 3) B0 dL_law_269 (by decide) ?_
          refine z_iadd (v := 3) B0 dL_law_270 (by decide) ?_
          refine y_sld (j := 3) (v := 1) B0 hX hbl (by decide) e3.symm dL_law_271 ?_
          refine z_aload_n B0 dL_law_272 rfl rfl ?_
          refine z_iload_n B0 dL_law_273 rfl rfl ?_
          refine z_iconst (v := 4) B0 dL_law_274 (by decide) ?_
          refine z_iadd (v := 4) B0 dL_law_275 (by decide) ?_
          refine y_sld (j := 4) (v := x4) B0 hX hbl (by decide) e4.symm dL_law_276 ?_
          refine z_if_eq_f (tgt := 284) B0 dL_law_277 (by decide) hb4 ?_
          refine z_iconst (v := 1) B0 dL_law_280 (by decide) ?_
          refine z_goto (tgt := 285) B0 dL_law_281 (by decide) ?_
          refine z_callM B0 (z_runV (q0 := 0) (As := [.int 0, .int 2, .int 1, .int 1]) (st := [.int 1]) B0 (c_X12_kin_36 (a := a2) mS0  rfl rfl rfl rfl rfl rfl rfl rfl rfl rfl rfl rfl rfl rfl rfl rfl rfl rfl rfl rfl rfl rfl rfl rfl rfl rfl) cf_X12_kin (mw_0 cy a2 mS0) rfl wm_L_27 wi_X12_kin ws_X12_kin dL_law_285 rfl (Nat.le_of_ble_eq_true rfl) ⟨by decide, by decide, by decide, by decide⟩) (fun r2 u2 p2 => ?_)
          obtain ⟨rfl, -⟩ := p2
          refine z_icmp_eq_t (tgt := 1091) B0 dL_law_288 (by decide) rfl ?_
          exact fin u1 u2
      · by_cases hb4 : x4 = 0
        · refine z_aload_n B0 dL_law_224 rfl rfl ?_
          refine z_aload_n B0 dL_law_225 rfl rfl ?_
          refine z_iload_n B0 dL_law_226 rfl rfl ?_
          refine z_iconst (v := 1) B0 dL_law_227 (by decide) ?_
          refine z_iadd (v := 1) B0 dL_law_228 (by decide) ?_
          refine y_sld (j := 1) (v := 0) B0 hX hbl (by decide) e1.symm dL_law_229 ?_
          refine z_aload_n B0 dL_law_230 rfl rfl ?_
          refine z_iload_n B0 dL_law_231 rfl rfl ?_
          refine z_iconst (v := 2) B0 dL_law_232 (by decide) ?_
          refine z_iadd (v := 2) B0 dL_law_233 (by decide) ?_
          refine y_sld (j := 2) (v := 2) B0 hX hbl (by decide) e2.symm dL_law_234 ?_
          refine z_aload_n B0 dL_law_235 rfl rfl ?_
          refine z_iload_n B0 dL_law_236 rfl rfl ?_
          refine z_iconst (v := 3) B0 dL_law_237 (by decide) ?_
          refine z_iadd (v := 3) B0 dL_law_238 (by decide) ?_
          refine y_sld (j := 3) (v := x3) B0 hX hbl (by decide) e3.symm dL_law_239 ?_
          refine z_aload_n B0 dL_law_240 rfl rfl ?_
          refine z_iload_n B0 dL_law_241 rfl rfl ?_
          refine z_iconst (v := 4) B0 dL_law_242 (by decide) ?_
          refine z_iadd (v := 4) B0 dL_law_243 (by decide) ?_
          refine y_sld (j := 4) (v := x4) B0 hX hbl (by decide) e4.symm dL_law_244 ?_
          refine z_if_eq_t (tgt := 252) B0 dL_law_245 (by decide) hb4 ?_
          refine z_iconst (v := 0) B0 dL_law_252 (by decide) ?_
          refine z_callC B0 (z_runV (q0 := 0) (As := [.int 0, .int 2, .int x3, .int 0]) (st := []) B0 (c_X11_kin_37 (a := a) (cS0 w) x3 ⟨by omega, by omega⟩) cf_X11_kin (cw_0 cy tE a rw (cS0 w)) rfl wm_L_23 wi_X11_kin ws_X11_kin dL_law_253 rfl (Nat.le_of_ble_eq_true rfl) ⟨by decide, by decide, by decide, by decide⟩) (fun r1 u1 p1 => ?_)
          obtain ⟨rfl, -⟩ := p1
          refine z_aload_n B0 dL_law_256 rfl rfl ?_
          refine z_aload_n B0 dL_law_257 rfl rfl ?_
          refine z_iload_n B0 dL_law_258 rfl rfl ?_
          refine z_iconst (v := 1) B0 dL_law_259 (by decide) ?_
          refine z_iadd (v := 1) B0 dL_law_260 (by decide) ?_
          refine y_sld (j := 1) (v := 0) B0 hX hbl (by decide) e1.symm dL_law_261 ?_
          refine z_aload_n B0 dL_law_262 rfl rfl ?_
          refine z_iload_n B0 dL_law_263 rfl rfl ?_
          refine z_iconst (v := 2) B0 dL_law_264 (by decide) ?_
          refine z_iadd (v := 2) B0 dL_law_265 (by decide) ?_
          refine y_sld (j := 2) (v := 2) B0 hX hbl (by decide) e2.symm dL_law_266 ?_
          refine z_aload_n B0 dL_law_267 rfl rfl ?_
          refine z_iload_n B0 dL_law_268 rfl rfl ?_
          refine z_iconst (v := 3) B0 dL_law_269 (by decide) ?_
          refine z_iadd (v := 3) B0 dL_law_270 (by decide) ?_
          refine y_sld (j := 3) (v := x3) B0 hX hbl (by decide) e3.symm dL_law_271 ?_
          refine z_aload_n B0 dL_law_272 rfl rfl ?_
          refine z_iload_n B0 dL_law_273 rfl rfl ?_
          refine z_iconst (v := 4) B0 dL_law_274 (by decide) ?_
          refine z_iadd (v := 4) B0 dL_law_275 (by decide) ?_
          refine y_sld (j := 4) (v := x4) B0 hX hbl (by decide) e4.symm dL_law_276 ?_
          refine z_if_eq_t (tgt := 284) B0 dL_law_277 (by decide) hb4 ?_
          refine z_iconst (v := 0) B0 dL_law_284 (by decide) ?_
          refine z_callM B0 (z_runV (q0 := 0) (As := [.int 0, .int 2, .int x3, .int 0]) (st := [.int 0]) B0 (c_X12_kin_37 (a := a2) mS0 x3 ⟨by omega, by omega⟩) cf_X12_kin (mw_0 cy a2 mS0) rfl wm_L_27 wi_X12_kin ws_X12_kin dL_law_285 rfl (Nat.le_of_ble_eq_true rfl) ⟨by decide, by decide, by decide, by decide⟩) (fun r2 u2 p2 => ?_)
          obtain ⟨rfl, -⟩ := p2
          refine z_icmp_eq_t (tgt := 1091) B0 dL_law_288 (by decide) rfl ?_
          exact fin u1 u2
        · refine z_aload_n B0 dL_law_224 rfl rfl ?_
          refine z_aload_n B0 dL_law_225 rfl rfl ?_
          refine z_iload_n B0 dL_law_226 rfl rfl ?_
          refine z_iconst (v := 1) B0 dL_law_227 (by decide) ?_
          refine z_iadd (v := 1) B0 dL_law_228 (by decide) ?_
          refine y_sld (j := 1) (v := 0) B0 hX hbl (by decide) e1.symm dL_law_229 ?_
          refine z_aload_n B0 dL_law_230 rfl rfl ?_
          refine z_iload_n B0 dL_law_231 rfl rfl ?_
          refine z_iconst (v := 2) B0 dL_law_232 (by decide) ?_
          refine z_iadd (v := 2) B0 dL_law_233 (by decide) ?_
          refine y_sld (j := 2) (v := 2) B0 hX hbl (by decide) e2.symm dL_law_234 ?_
          refine z_aload_n B0 dL_law_235 rfl rfl ?_
          refine z_iload_n B0 dL_law_236 rfl rfl ?_
          refine z_iconst (v := 3) B0 dL_law_237 (by decide) ?_
          refine z_iadd (v := 3) B0 dL_law_238 (by decide) ?_
          refine y_sld (j := 3) (v := x3) B0 hX hbl (by decide) e3.symm dL_law_239 ?_
          refine z_aload_n B0 dL_law_240 rfl rfl ?_
          refine z_iload_n B0 dL_law_241 rfl rfl ?_
          refine z_iconst (v := 4) B0 dL_law_242 (by decide) ?_
          refine z_iadd (v := 4) B0 dL_law_243 (by decide) ?_
          refine y_sld (j := 4) (v := x4) B0 hX hbl (by decide) e4.symm dL_law_244 ?_
          refine z_if_eq_f (tgt := 252) B0 dL_law_245 (by decide) hb4 ?_
          refine z_iconst (v := 1) B0 dL_law_248 (by decide) ?_
          refine z_goto (tgt := 253) B0 dL_law_249 (by decide) ?_
          refine z_callC B0 (z_runV (q0 := 0) (As := [.int 0, .int 2, .int x3, .int 1]) (st := []) B0 (c_X11_kin_38 (a := a) (cS0 w) x3 ⟨by omega, by omega⟩) cf_X11_kin (cw_0 cy tE a rw (cS0 w)) rfl wm_L_23 wi_X11_kin ws_X11_kin dL_law_253 rfl (Nat.le_of_ble_eq_true rfl) ⟨by decide, by decide, by decide, by decide⟩) (fun r1 u1 p1 => ?_)
          obtain ⟨rfl, -⟩ := p1
          refine z_aload_n B0 dL_law_256 rfl rfl ?_
          refine z_aload_n B0 dL_law_257 rfl rfl ?_
          refine z_iload_n B0 dL_law_258 rfl rfl ?_
          refine z_iconst (v := 1) B0 dL_law_259 (by decide) ?_
          refine z_iadd (v := 1) B0 dL_law_260 (by decide) ?_
          refine y_sld (j := 1) (v := 0) B0 hX hbl (by decide) e1.symm dL_law_261 ?_
          refine z_aload_n B0 dL_law_262 rfl rfl ?_
          refine z_iload_n B0 dL_law_263 rfl rfl ?_
          refine z_iconst (v := 2) B0 dL_law_264 (by decide) ?_
          refine z_iadd (v := 2) B0 dL_law_265 (by decide) ?_
          refine y_sld (j := 2) (v := 2) B0 hX hbl (by decide) e2.symm dL_law_266 ?_
          refine z_aload_n B0 dL_law_267 rfl rfl ?_
          refine z_iload_n B0 dL_law_268 rfl rfl ?_
          refine z_iconst (v := 3) B0 dL_law_269 (by decide) ?_
          refine z_iadd (v := 3) B0 dL_law_270 (by decide) ?_
          refine y_sld (j := 3) (v := x3) B0 hX hbl (by decide) e3.symm dL_law_271 ?_
          refine z_aload_n B0 dL_law_272 rfl rfl ?_
          refine z_iload_n B0 dL_law_273 rfl rfl ?_
          refine z_iconst (v := 4) B0 dL_law_274 (by decide) ?_
          refine z_iadd (v := 4) B0 dL_law_275 (by decide) ?_
          refine y_sld (j := 4) (v := x4) B0 hX hbl (by decide) e4.symm dL_law_276 ?_
          refine z_if_eq_f (tgt := 284) B0 dL_law_277 (by decide) hb4 ?_
          refine z_iconst (v := 1) B0 dL_law_280 (by decide) ?_
          refine z_goto (tgt := 285) B0 dL_law_281 (by decide) ?_
          refine z_callM B0 (z_runV (q0 := 0) (As := [.int 0, .int 2, .int x3, .int 1]) (st := [.int 0]) B0 (c_X12_kin_38 (a := a2) mS0 x3 ⟨by omega, by omega⟩) cf_X12_kin (mw_0 cy a2 mS0) rfl wm_L_27 wi_X12_kin ws_X12_kin dL_law_285 rfl (Nat.le_of_ble_eq_true rfl) ⟨by decide, by decide, by decide, by decide⟩) (fun r2 u2 p2 => ?_)
          obtain ⟨rfl, -⟩ := p2
          refine z_icmp_eq_t (tgt := 1091) B0 dL_law_288 (by decide) rfl ?_
          exact fin u1 u2
    · by_cases hb4 : x4 = 0
      · refine z_aload_n B0 dL_law_224 rfl rfl ?_
        refine z_aload_n B0 dL_law_225 rfl rfl ?_
        refine z_iload_n B0 dL_law_226 rfl rfl ?_
        refine z_iconst (v := 1) B0 dL_law_227 (by decide) ?_
        refine z_iadd (v := 1) B0 dL_law_228 (by decide) ?_
        refine y_sld (j := 1) (v := 0) B0 hX hbl (by decide) e1.symm dL_law_229 ?_
        refine z_aload_n B0 dL_law_230 rfl rfl ?_
        refine z_iload_n B0 dL_law_231 rfl rfl ?_
        refine z_iconst (v := 2) B0 dL_law_232 (by decide) ?_
        refine z_iadd (v := 2) B0 dL_law_233 (by decide) ?_
        refine y_sld (j := 2) (v := x2) B0 hX hbl (by decide) e2.symm dL_law_234 ?_
        refine z_aload_n B0 dL_law_235 rfl rfl ?_
        refine z_iload_n B0 dL_law_236 rfl rfl ?_
        refine z_iconst (v := 3) B0 dL_law_237 (by decide) ?_
        refine z_iadd (v := 3) B0 dL_law_238 (by decide) ?_
        refine y_sld (j := 3) (v := x3) B0 hX hbl (by decide) e3.symm dL_law_239 ?_
        refine z_aload_n B0 dL_law_240 rfl rfl ?_
        refine z_iload_n B0 dL_law_241 rfl rfl ?_
        refine z_iconst (v := 4) B0 dL_law_242 (by decide) ?_
        refine z_iadd (v := 4) B0 dL_law_243 (by decide) ?_
        refine y_sld (j := 4) (v := x4) B0 hX hbl (by decide) e4.symm dL_law_244 ?_
        refine z_if_eq_t (tgt := 252) B0 dL_law_245 (by decide) hb4 ?_
        refine z_iconst (v := 0) B0 dL_law_252 (by decide) ?_
        refine z_callC B0 (z_runV (q0 := 0) (As := [.int 0, .int x2, .int x3, .int 0]) (st := []) B0 (c_X11_kin_7 (a := a) (cS0 w) x2 x3 ⟨by omega, by omega⟩) cf_X11_kin (cw_0 cy tE a rw (cS0 w)) rfl wm_L_23 wi_X11_kin ws_X11_kin dL_law_253 rfl (Nat.le_of_ble_eq_true rfl) ⟨by decide, by decide, by decide, by decide⟩) (fun r1 u1 p1 => ?_)
        obtain ⟨rfl, -⟩ := p1
        refine z_aload_n B0 dL_law_256 rfl rfl ?_
        refine z_aload_n B0 dL_law_257 rfl rfl ?_
        refine z_iload_n B0 dL_law_258 rfl rfl ?_
        refine z_iconst (v := 1) B0 dL_law_259 (by decide) ?_
        refine z_iadd (v := 1) B0 dL_law_260 (by decide) ?_
        refine y_sld (j := 1) (v := 0) B0 hX hbl (by decide) e1.symm dL_law_261 ?_
        refine z_aload_n B0 dL_law_262 rfl rfl ?_
        refine z_iload_n B0 dL_law_263 rfl rfl ?_
        refine z_iconst (v := 2) B0 dL_law_264 (by decide) ?_
        refine z_iadd (v := 2) B0 dL_law_265 (by decide) ?_
        refine y_sld (j := 2) (v := x2) B0 hX hbl (by decide) e2.symm dL_law_266 ?_
        refine z_aload_n B0 dL_law_267 rfl rfl ?_
        refine z_iload_n B0 dL_law_268 rfl rfl ?_
        refine z_iconst (v := 3) B0 dL_law_269 (by decide) ?_
        refine z_iadd (v := 3) B0 dL_law_270 (by decide) ?_
        refine y_sld (j := 3) (v := x3) B0 hX hbl (by decide) e3.symm dL_law_271 ?_
        refine z_aload_n B0 dL_law_272 rfl rfl ?_
        refine z_iload_n B0 dL_law_273 rfl rfl ?_
        refine z_iconst (v := 4) B0 dL_law_274 (by decide) ?_
        refine z_iadd (v := 4) B0 dL_law_275 (by decide) ?_
        refine y_sld (j := 4) (v := x4) B0 hX hbl (by decide) e4.symm dL_law_276 ?_
        refine z_if_eq_t (tgt := 284) B0 dL_law_277 (by decide) hb4 ?_
        refine z_iconst (v := 0) B0 dL_law_284 (by decide) ?_
        refine z_callM B0 (z_runV (q0 := 0) (As := [.int 0, .int x2, .int x3, .int 0]) (st := [.int 0]) B0 (c_X12_kin_7 (a := a2) mS0 x2 x3 ⟨by omega, by omega⟩) cf_X12_kin (mw_0 cy a2 mS0) rfl wm_L_27 wi_X12_kin ws_X12_kin dL_law_285 rfl (Nat.le_of_ble_eq_true rfl) ⟨by decide, by decide, by decide, by decide⟩) (fun r2 u2 p2 => ?_)
        obtain ⟨rfl, -⟩ := p2
        refine z_icmp_eq_t (tgt := 1091) B0 dL_law_288 (by decide) rfl ?_
        exact fin u1 u2
      · refine z_aload_n B0 dL_law_224 rfl rfl ?_
        refine z_aload_n B0 dL_law_225 rfl rfl ?_
        refine z_iload_n B0 dL_law_226 rfl rfl ?_
        refine z_iconst (v := 1) B0 dL_law_227 (by decide) ?_
        refine z_iadd (v := 1) B0 dL_law_228 (by decide) ?_
        refine y_sld (j := 1) (v := 0) B0 hX hbl (by decide) e1.symm dL_law_229 ?_
        refine z_aload_n B0 dL_law_230 rfl rfl ?_
        refine z_iload_n B0 dL_law_231 rfl rfl ?_
        refine z_iconst (v := 2) B0 dL_law_232 (by decide) ?_
        refine z_iadd (v := 2) B0 dL_law_233 (by decide) ?_
        refine y_sld (j := 2) (v := x2) B0 hX hbl (by decide) e2.symm dL_law_234 ?_
        refine z_aload_n B0 dL_law_235 rfl rfl ?_
        refine z_iload_n B0 dL_law_236 rfl rfl ?_
        refine z_iconst (v := 3) B0 dL_law_237 (by decide) ?_
        refine z_iadd (v := 3) B0 dL_law_238 (by decide) ?_
        refine y_sld (j := 3) (v := x3) B0 hX hbl (by decide) e3.symm dL_law_239 ?_
        refine z_aload_n B0 dL_law_240 rfl rfl ?_
        refine z_iload_n B0 dL_law_241 rfl rfl ?_
        refine z_iconst (v := 4) B0 dL_law_242 (by decide) ?_
        refine z_iadd (v := 4) B0 dL_law_243 (by decide) ?_
        refine y_sld (j := 4) (v := x4) B0 hX hbl (by decide) e4.symm dL_law_244 ?_
        refine z_if_eq_f (tgt := 252) B0 dL_law_245 (by decide) hb4 ?_
        refine z_iconst (v := 1) B0 dL_law_248 (by decide) ?_
        refine z_goto (tgt := 253) B0 dL_law_249 (by decide) ?_
        refine z_callC B0 (z_runV (q0 := 0) (As := [.int 0, .int x2, .int x3, .int 1]) (st := []) B0 (c_X11_kin_8 (a := a) (cS0 w) x2 x3 ⟨by omega, by omega⟩) cf_X11_kin (cw_0 cy tE a rw (cS0 w)) rfl wm_L_23 wi_X11_kin ws_X11_kin dL_law_253 rfl (Nat.le_of_ble_eq_true rfl) ⟨by decide, by decide, by decide, by decide⟩) (fun r1 u1 p1 => ?_)
        obtain ⟨rfl, -⟩ := p1
        refine z_aload_n B0 dL_law_256 rfl rfl ?_
        refine z_aload_n B0 dL_law_257 rfl rfl ?_
        refine z_iload_n B0 dL_law_258 rfl rfl ?_
        refine z_iconst (v := 1) B0 dL_law_259 (by decide) ?_
        refine z_iadd (v := 1) B0 dL_law_260 (by decide) ?_
        refine y_sld (j := 1) (v := 0) B0 hX hbl (by decide) e1.symm dL_law_261 ?_
        refine z_aload_n B0 dL_law_262 rfl rfl ?_
        refine z_iload_n B0 dL_law_263 rfl rfl ?_
        refine z_iconst (v := 2) B0 dL_law_264 (by decide) ?_
        refine z_iadd (v := 2) B0 dL_law_265 (by decide) ?_
        refine y_sld (j := 2) (v := x2) B0 hX hbl (by decide) e2.symm dL_law_266 ?_
        refine z_aload_n B0 dL_law_267 rfl rfl ?_
        refine z_iload_n B0 dL_law_268 rfl rfl ?_
        refine z_iconst (v := 3) B0 dL_law_269 (by decide) ?_
        refine z_iadd (v := 3) B0 dL_law_270 (by decide) ?_
        refine y_sld (j := 3) (v := x3) B0 hX hbl (by decide) e3.symm dL_law_271 ?_
        refine z_aload_n B0 dL_law_272 rfl rfl ?_
        refine z_iload_n B0 dL_law_273 rfl rfl ?_
        refine z_iconst (v := 4) B0 dL_law_274 (by decide) ?_
        refine z_iadd (v := 4) B0 dL_law_275 (by decide) ?_
        refine y_sld (j := 4) (v := x4) B0 hX hbl (by decide) e4.symm dL_law_276 ?_
        refine z_if_eq_f (tgt := 284) B0 dL_law_277 (by decide) hb4 ?_
        refine z_iconst (v := 1) B0 dL_law_280 (by decide) ?_
        refine z_goto (tgt := 285) B0 dL_law_281 (by decide) ?_
        refine z_callM B0 (z_runV (q0 := 0) (As := [.int 0, .int x2, .int x3, .int 1]) (st := [.int 0]) B0 (c_X12_kin_8 (a := a2) mS0 x2 x3 ⟨by omega, by omega⟩) cf_X12_kin (mw_0 cy a2 mS0) rfl wm_L_27 wi_X12_kin ws_X12_kin dL_law_285 rfl (Nat.le_of_ble_eq_true rfl) ⟨by decide, by decide, by decide, by decide⟩) (fun r2 u2 p2 => ?_)
        obtain ⟨rfl, -⟩ := p2
        refine z_icmp_eq_t (tgt := 1091) B0 dL_law_288 (by decide) rfl ?_
        exact fin u1 u2
  · obtain rfl : x1 = 1 := Int32.toInt_inj.mp (h1.trans (by decide))
    rcases (show ((-2147483648) ≤ x2.toInt ∧ x2.toInt ≤ (-1)) ∨ x2.toInt = 0 ∨ x2.toInt = 1 ∨ x2.toInt = 2 ∨ (3 ≤ x2.toInt ∧ x2.toInt ≤ 2147483647) by have g1 := Int32.le_toInt x2; have g2 := Int32.toInt_lt x2; omega) with h2 | h2 | h2 | h2 | h2
    · by_cases hb4 : x4 = 0
      · refine z_aload_n B0 dL_law_224 rfl rfl ?_
        refine z_aload_n B0 dL_law_225 rfl rfl ?_
        refine z_iload_n B0 dL_law_226 rfl rfl ?_
        refine z_iconst (v := 1) B0 dL_law_227 (by decide) ?_
        refine z_iadd (v := 1) B0 dL_law_228 (by decide) ?_
        refine y_sld (j := 1) (v := 1) B0 hX hbl (by decide) e1.symm dL_law_229 ?_
        refine z_aload_n B0 dL_law_230 rfl rfl ?_
        refine z_iload_n B0 dL_law_231 rfl rfl ?_
        refine z_iconst (v := 2) B0 dL_law_232 (by decide) ?_
        refine z_iadd (v := 2) B0 dL_law_233 (by decide) ?_
        refine y_sld (j := 2) (v := x2) B0 hX hbl (by decide) e2.symm dL_law_234 ?_
        refine z_aload_n B0 dL_law_235 rfl rfl ?_
        refine z_iload_n B0 dL_law_236 rfl rfl ?_
        refine z_iconst (v := 3) B0 dL_law_237 (by decide) ?_
        refine z_iadd (v := 3) B0 dL_law_238 (by decide) ?_
        refine y_sld (j := 3) (v := x3) B0 hX hbl (by decide) e3.symm dL_law_239 ?_
        refine z_aload_n B0 dL_law_240 rfl rfl ?_
        refine z_iload_n B0 dL_law_241 rfl rfl ?_
        refine z_iconst (v := 4) B0 dL_law_242 (by decide) ?_
        refine z_iadd (v := 4) B0 dL_law_243 (by decide) ?_
        refine y_sld (j := 4) (v := x4) B0 hX hbl (by decide) e4.symm dL_law_244 ?_
        refine z_if_eq_t (tgt := 252) B0 dL_law_245 (by decide) hb4 ?_
        refine z_iconst (v := 0) B0 dL_law_252 (by decide) ?_
        refine z_callC B0 (z_runV (q0 := 0) (As := [.int 1, .int x2, .int x3, .int 0]) (st := []) B0 (c_X11_kin_11 (a := a) (cS0 w) x2 x3 ⟨by omega, by omega⟩) cf_X11_kin (cw_0 cy tE a rw (cS0 w)) rfl wm_L_23 wi_X11_kin ws_X11_kin dL_law_253 rfl (Nat.le_of_ble_eq_true rfl) ⟨by decide, by decide, by decide, by decide⟩) (fun r1 u1 p1 => ?_)
        obtain ⟨rfl, -⟩ := p1
        refine z_aload_n B0 dL_law_256 rfl rfl ?_
        refine z_aload_n B0 dL_law_257 rfl rfl ?_
        refine z_iload_n B0 dL_law_258 rfl rfl ?_
        refine z_iconst (v := 1) B0 dL_law_259 (by decide) ?_
        refine z_iadd (v := 1) B0 dL_law_260 (by decide) ?_
        refine y_sld (j := 1) (v := 1) B0 hX hbl (by decide) e1.symm dL_law_261 ?_
        refine z_aload_n B0 dL_law_262 rfl rfl ?_
        refine z_iload_n B0 dL_law_263 rfl rfl ?_
        refine z_iconst (v := 2) B0 dL_law_264 (by decide) ?_
        refine z_iadd (v := 2) B0 dL_law_265 (by decide) ?_
        refine y_sld (j := 2) (v := x2) B0 hX hbl (by decide) e2.symm dL_law_266 ?_
        refine z_aload_n B0 dL_law_267 rfl rfl ?_
        refine z_iload_n B0 dL_law_268 rfl rfl ?_
        refine z_iconst (v := 3) B0 dL_law_269 (by decide) ?_
        refine z_iadd (v := 3) B0 dL_law_270 (by decide) ?_
        refine y_sld (j := 3) (v := x3) B0 hX hbl (by decide) e3.symm dL_law_271 ?_
        refine z_aload_n B0 dL_law_272 rfl rfl ?_
        refine z_iload_n B0 dL_law_273 rfl rfl ?_
        refine z_iconst (v := 4) B0 dL_law_274 (by decide) ?_
        refine z_iadd (v := 4) B0 dL_law_275 (by decide) ?_
        refine y_sld (j := 4) (v := x4) B0 hX hbl (by decide) e4.symm dL_law_276 ?_
        refine z_if_eq_t (tgt := 284) B0 dL_law_277 (by decide) hb4 ?_
        refine z_iconst (v := 0) B0 dL_law_284 (by decide) ?_
        refine z_callM B0 (z_runV (q0 := 0) (As := [.int 1, .int x2, .int x3, .int 0]) (st := [.int 0]) B0 (c_X12_kin_11 (a := a2) mS0 x2 x3 ⟨by omega, by omega⟩) cf_X12_kin (mw_0 cy a2 mS0) rfl wm_L_27 wi_X12_kin ws_X12_kin dL_law_285 rfl (Nat.le_of_ble_eq_true rfl) ⟨by decide, by decide, by decide, by decide⟩) (fun r2 u2 p2 => ?_)
        obtain ⟨rfl, -⟩ := p2
        refine z_icmp_eq_t (tgt := 1091) B0 dL_law_288 (by decide) rfl ?_
        exact fin u1 u2
      · refine z_aload_n B0 dL_law_224 rfl rfl ?_
        refine z_aload_n B0 dL_law_225 rfl rfl ?_
        refine z_iload_n B0 dL_law_226 rfl rfl ?_
        refine z_iconst (v := 1) B0 dL_law_227 (by decide) ?_
        refine z_iadd (v := 1) B0 dL_law_228 (by decide) ?_
        refine y_sld (j := 1) (v := 1) B0 hX hbl (by decide) e1.symm dL_law_229 ?_
        refine z_aload_n B0 dL_law_230 rfl rfl ?_
        refine z_iload_n B0 dL_law_231 rfl rfl ?_
        refine z_iconst (v := 2) B0 dL_law_232 (by decide) ?_
        refine z_iadd (v := 2) B0 dL_law_233 (by decide) ?_
        refine y_sld (j := 2) (v := x2) B0 hX hbl (by decide) e2.symm dL_law_234 ?_
        refine z_aload_n B0 dL_law_235 rfl rfl ?_
        refine z_iload_n B0 dL_law_236 rfl rfl ?_
        refine z_iconst (v := 3) B0 dL_law_237 (by decide) ?_
        refine z_iadd (v := 3) B0 dL_law_238 (by decide) ?_
        refine y_sld (j := 3) (v := x3) B0 hX hbl (by decide) e3.symm dL_law_239 ?_
        refine z_aload_n B0 dL_law_240 rfl rfl ?_
        refine z_iload_n B0 dL_law_241 rfl rfl ?_
        refine z_iconst (v := 4) B0 dL_law_242 (by decide) ?_
        refine z_iadd (v := 4) B0 dL_law_243 (by decide) ?_
        refine y_sld (j := 4) (v := x4) B0 hX hbl (by decide) e4.symm dL_law_244 ?_
        refine z_if_eq_f (tgt := 252) B0 dL_law_245 (by decide) hb4 ?_
        refine z_iconst (v := 1) B0 dL_law_248 (by decide) ?_
        refine z_goto (tgt := 253) B0 dL_law_249 (by decide) ?_
        refine z_callC B0 (z_runV (q0 := 0) (As := [.int 1, .int x2, .int x3, .int 1]) (st := []) B0 (c_X11_kin_12 (a := a) (cS0 w) x2 x3 ⟨by omega, by omega⟩) cf_X11_kin (cw_0 cy tE a rw (cS0 w)) rfl wm_L_23 wi_X11_kin ws_X11_kin dL_law_253 rfl (Nat.le_of_ble_eq_true rfl) ⟨by decide, by decide, by decide, by decide⟩) (fun r1 u1 p1 => ?_)
        obtain ⟨rfl, -⟩ := p1
        refine z_aload_n B0 dL_law_256 rfl rfl ?_
        refine z_aload_n B0 dL_law_257 rfl rfl ?_
        refine z_iload_n B0 dL_law_258 rfl rfl ?_
        refine z_iconst (v := 1) B0 dL_law_259 (by decide) ?_
        refine z_iadd (v := 1) B0 dL_law_260 (by decide) ?_
        refine y_sld (j := 1) (v := 1) B0 hX hbl (by decide) e1.symm dL_law_261 ?_
        refine z_aload_n B0 dL_law_262 rfl rfl ?_
        refine z_iload_n B0 dL_law_263 rfl rfl ?_
        refine z_iconst (v := 2) B0 dL_law_264 (by decide) ?_
        refine z_iadd (v := 2) B0 dL_law_265 (by decide) ?_
        refine y_sld (j := 2) (v := x2) B0 hX hbl (by decide) e2.symm dL_law_266 ?_
        refine z_aload_n B0 dL_law_267 rfl rfl ?_
        refine z_iload_n B0 dL_law_268 rfl rfl ?_
        refine z_iconst (v := 3) B0 dL_law_269 (by decide) ?_
        refine z_iadd (v := 3) B0 dL_law_270 (by decide) ?_
        refine y_sld (j := 3) (v := x3) B0 hX hbl (by decide) e3.symm dL_law_271 ?_
        refine z_aload_n B0 dL_law_272 rfl rfl ?_
        refine z_iload_n B0 dL_law_273 rfl rfl ?_
        refine z_iconst (v := 4) B0 dL_law_274 (by decide) ?_
        refine z_iadd (v := 4) B0 dL_law_275 (by decide) ?_
        refine y_sld (j := 4) (v := x4) B0 hX hbl (by decide) e4.symm dL_law_276 ?_
        refine z_if_eq_f (tgt := 284) B0 dL_law_277 (by decide) hb4 ?_
        refine z_iconst (v := 1) B0 dL_law_280 (by decide) ?_
        refine z_goto (tgt := 285) B0 dL_law_281 (by decide) ?_
        refine z_callM B0 (z_runV (q0 := 0) (As := [.int 1, .int x2, .int x3, .int 1]) (st := [.int 0]) B0 (c_X12_kin_12 (a := a2) mS0 x2 x3 ⟨by omega, by omega⟩) cf_X12_kin (mw_0 cy a2 mS0) rfl wm_L_27 wi_X12_kin ws_X12_kin dL_law_285 rfl (Nat.le_of_ble_eq_true rfl) ⟨by decide, by decide, by decide, by decide⟩) (fun r2 u2 p2 => ?_)
        obtain ⟨rfl, -⟩ := p2
        refine z_icmp_eq_t (tgt := 1091) B0 dL_law_288 (by decide) rfl ?_
        exact fin u1 u2
    · obtain rfl : x2 = 0 := Int32.toInt_inj.mp (h2.trans (by decide))
      rcases (show ((-2147483648) ≤ x3.toInt ∧ x3.toInt ≤ (-1)) ∨ x3.toInt = 0 ∨ x3.toInt = 1 ∨ (2 ≤ x3.toInt ∧ x3.toInt ≤ 2147483647) by have g1 := Int32.le_toInt x3; have g2 := Int32.toInt_lt x3; omega) with h3 | h3 | h3 | h3
      · by_cases hb4 : x4 = 0
        · refine z_aload_n B0 dL_law_224 rfl rfl ?_
          refine z_aload_n B0 dL_law_225 rfl rfl ?_
          refine z_iload_n B0 dL_law_226 rfl rfl ?_
          refine z_iconst (v := 1) B0 dL_law_227 (by decide) ?_
          refine z_iadd (v := 1) B0 dL_law_228 (by decide) ?_
          refine y_sld (j := 1) (v := 1) B0 hX hbl (by decide) e1.symm dL_law_229 ?_
          refine z_aload_n B0 dL_law_230 rfl rfl ?_
          refine z_iload_n B0 dL_law_231 rfl rfl ?_
          refine z_iconst (v := 2) B0 dL_law_232 (by decide) ?_
          refine z_iadd (v := 2) B0 dL_law_233 (by decide) ?_
          refine y_sld (j := 2) (v := 0) B0 hX hbl (by decide) e2.symm dL_law_234 ?_
          refine z_aload_n B0 dL_law_235 rfl rfl ?_
          refine z_iload_n B0 dL_law_236 rfl rfl ?_
          refine z_iconst (v := 3) B0 dL_law_237 (by decide) ?_
          refine z_iadd (v := 3) B0 dL_law_238 (by decide) ?_
          refine y_sld (j := 3) (v := x3) B0 hX hbl (by decide) e3.symm dL_law_239 ?_
          refine z_aload_n B0 dL_law_240 rfl rfl ?_
          refine z_iload_n B0 dL_law_241 rfl rfl ?_
          refine z_iconst (v := 4) B0 dL_law_242 (by decide) ?_
          refine z_iadd (v := 4) B0 dL_law_243 (by decide) ?_
          refine y_sld (j := 4) (v := x4) B0 hX hbl (by decide) e4.symm dL_law_244 ?_
          refine z_if_eq_t (tgt := 252) B0 dL_law_245 (by decide) hb4 ?_
          refine z_iconst (v := 0) B0 dL_law_252 (by decide) ?_
          refine z_callC B0 (z_runV (q0 := 0) (As := [.int 1, .int 0, .int x3, .int 0]) (st := []) B0 (c_X11_kin_39 (a := a) (cS0 w) x3 ⟨by omega, by omega⟩) cf_X11_kin (cw_0 cy tE a rw (cS0 w)) rfl wm_L_23 wi_X11_kin ws_X11_kin dL_law_253 rfl (Nat.le_of_ble_eq_true rfl) ⟨by decide, by decide, by decide, by decide⟩) (fun r1 u1 p1 => ?_)
          obtain ⟨rfl, -⟩ := p1
          refine z_aload_n B0 dL_law_256 rfl rfl ?_
          refine z_aload_n B0 dL_law_257 rfl rfl ?_
          refine z_iload_n B0 dL_law_258 rfl rfl ?_
          refine z_iconst (v := 1) B0 dL_law_259 (by decide) ?_
          refine z_iadd (v := 1) B0 dL_law_260 (by decide) ?_
          refine y_sld (j := 1) (v := 1) B0 hX hbl (by decide) e1.symm dL_law_261 ?_
          refine z_aload_n B0 dL_law_262 rfl rfl ?_
          refine z_iload_n B0 dL_law_263 rfl rfl ?_
          refine z_iconst (v := 2) B0 dL_law_264 (by decide) ?_
          refine z_iadd (v := 2) B0 dL_law_265 (by decide) ?_
          refine y_sld (j := 2) (v := 0) B0 hX hbl (by decide) e2.symm dL_law_266 ?_
          refine z_aload_n B0 dL_law_267 rfl rfl ?_
          refine z_iload_n B0 dL_law_268 rfl rfl ?_
          refine z_iconst (v := 3) B0 dL_law_269 (by decide) ?_
          refine z_iadd (v := 3) B0 dL_law_270 (by decide) ?_
          refine y_sld (j := 3) (v := x3) B0 hX hbl (by decide) e3.symm dL_law_271 ?_
          refine z_aload_n B0 dL_law_272 rfl rfl ?_
          refine z_iload_n B0 dL_law_273 rfl rfl ?_
          refine z_iconst (v := 4) B0 dL_law_274 (by decide) ?_
          refine z_iadd (v := 4) B0 dL_law_275 (by decide) ?_
          refine y_sld (j := 4) (v := x4) B0 hX hbl (by decide) e4.symm dL_law_276 ?_
          refine z_if_eq_t (tgt := 284) B0 dL_law_277 (by decide) hb4 ?_
          refine z_iconst (v := 0) B0 dL_law_284 (by decide) ?_
          refine z_callM B0 (z_runV (q0 := 0) (As := [.int 1, .int 0, .int x3, .int 0]) (st := [.int 0]) B0 (c_X12_kin_39 (a := a2) mS0 x3 ⟨by omega, by omega⟩) cf_X12_kin (mw_0 cy a2 mS0) rfl wm_L_27 wi_X12_kin ws_X12_kin dL_law_285 rfl (Nat.le_of_ble_eq_true rfl) ⟨by decide, by decide, by decide, by decide⟩) (fun r2 u2 p2 => ?_)
          obtain ⟨rfl, -⟩ := p2
          refine z_icmp_eq_t (tgt := 1091) B0 dL_law_288 (by decide) rfl ?_
          exact fin u1 u2
        · refine z_aload_n B0 dL_law_224 rfl rfl ?_
          refine z_aload_n B0 dL_law_225 rfl rfl ?_
          refine z_iload_n B0 dL_law_226 rfl rfl ?_
          refine z_iconst (v := 1) B0 dL_law_227 (by decide) ?_
          refine z_iadd (v := 1) B0 dL_law_228 (by decide) ?_
          refine y_sld (j := 1) (v := 1) B0 hX hbl (by decide) e1.symm dL_law_229 ?_
          refine z_aload_n B0 dL_law_230 rfl rfl ?_
          refine z_iload_n B0 dL_law_231 rfl rfl ?_
          refine z_iconst (v := 2) B0 dL_law_232 (by decide) ?_
          refine z_iadd (v := 2) B0 dL_law_233 (by decide) ?_
          refine y_sld (j := 2) (v := 0) B0 hX hbl (by decide) e2.symm dL_law_234 ?_
          refine z_aload_n B0 dL_law_235 rfl rfl ?_
          refine z_iload_n B0 dL_law_236 rfl rfl ?_
          refine z_iconst (v := 3) B0 dL_law_237 (by decide) ?_
          refine z_iadd (v := 3) B0 dL_law_238 (by decide) ?_
          refine y_sld (j := 3) (v := x3) B0 hX hbl (by decide) e3.symm dL_law_239 ?_
          refine z_aload_n B0 dL_law_240 rfl rfl ?_
          refine z_iload_n B0 dL_law_241 rfl rfl ?_
          refine z_iconst (v := 4) B0 dL_law_242 (by decide) ?_
          refine z_iadd (v := 4) B0 dL_law_243 (by decide) ?_
          refine y_sld (j := 4) (v := x4) B0 hX hbl (by decide) e4.symm dL_law_244 ?_
          refine z_if_eq_f (tgt := 252) B0 dL_law_245 (by decide) hb4 ?_
          refine z_iconst (v := 1) B0 dL_law_248 (by decide) ?_
          refine z_goto (tgt := 253) B0 dL_law_249 (by decide) ?_
          refine z_callC B0 (z_runV (q0 := 0) (As := [.int 1, .int 0, .int x3, .int 1]) (st := []) B0 (c_X11_kin_40 (a := a) (cS0 w) x3 ⟨by omega, by omega⟩) cf_X11_kin (cw_0 cy tE a rw (cS0 w)) rfl wm_L_23 wi_X11_kin ws_X11_kin dL_law_253 rfl (Nat.le_of_ble_eq_true rfl) ⟨by decide, by decide, by decide, by decide⟩) (fun r1 u1 p1 => ?_)
          obtain ⟨rfl, -⟩ := p1
          refine z_aload_n B0 dL_law_256 rfl rfl ?_
          refine z_aload_n B0 dL_law_257 rfl rfl ?_
          refine z_iload_n B0 dL_law_258 rfl rfl ?_
          refine z_iconst (v := 1) B0 dL_law_259 (by decide) ?_
          refine z_iadd (v := 1) B0 dL_law_260 (by decide) ?_
          refine y_sld (j := 1) (v := 1) B0 hX hbl (by decide) e1.symm dL_law_261 ?_
          refine z_aload_n B0 dL_law_262 rfl rfl ?_
          refine z_iload_n B0 dL_law_263 rfl rfl ?_
          refine z_iconst (v := 2) B0 dL_law_264 (by decide) ?_
          refine z_iadd (v := 2) B0 dL_law_265 (by decide) ?_
          refine y_sld (j := 2) (v := 0) B0 hX hbl (by decide) e2.symm dL_law_266 ?_
          refine z_aload_n B0 dL_law_267 rfl rfl ?_
          refine z_iload_n B0 dL_law_268 rfl rfl ?_
          refine z_iconst (v := 3) B0 dL_law_269 (by decide) ?_
          refine z_iadd (v := 3) B0 dL_law_270 (by decide) ?_
          refine y_sld (j := 3) (v := x3) B0 hX hbl (by decide) e3.symm dL_law_271 ?_
          refine z_aload_n B0 dL_law_272 rfl rfl ?_
          refine z_iload_n B0 dL_law_273 rfl rfl ?_
          refine z_iconst (v := 4) B0 dL_law_274 (by decide) ?_
          refine z_iadd (v := 4) B0 dL_law_275 (by decide) ?_
          refine y_sld (j := 4) (v := x4) B0 hX hbl (by decide) e4.symm dL_law_276 ?_
          refine z_if_eq_f (tgt := 284) B0 dL_law_277 (by decide) hb4 ?_
          refine z_iconst (v := 1) B0 dL_law_280 (by decide) ?_
          refine z_goto (tgt := 285) B0 dL_law_281 (by decide) ?_
          refine z_callM B0 (z_runV (q0 := 0) (As := [.int 1, .int 0, .int x3, .int 1]) (st := [.int 0]) B0 (c_X12_kin_40 (a := a2) mS0 x3 ⟨by omega, by omega⟩) cf_X12_kin (mw_0 cy a2 mS0) rfl wm_L_27 wi_X12_kin ws_X12_kin dL_law_285 rfl (Nat.le_of_ble_eq_true rfl) ⟨by decide, by decide, by decide, by decide⟩) (fun r2 u2 p2 => ?_)
          obtain ⟨rfl, -⟩ := p2
          refine z_icmp_eq_t (tgt := 1091) B0 dL_law_288 (by decide) rfl ?_
          exact fin u1 u2
      · obtain rfl : x3 = 0 := Int32.toInt_inj.mp (h3.trans (by decide))
        by_cases hb4 : x4 = 0
        · refine z_aload_n B0 dL_law_224 rfl rfl ?_
          refine z_aload_n B0 dL_law_225 rfl rfl ?_
          refine z_iload_n B0 dL_law_226 rfl rfl ?_
          refine z_iconst (v := 1) B0 dL_law_227 (by decide) ?_
          refine z_iadd (v := 1) B0 dL_law_228 (by decide) ?_
          refine y_sld (j := 1) (v := 1) B0 hX hbl (by decide) e1.symm dL_law_229 ?_
          refine z_aload_n B0 dL_law_230 rfl rfl ?_
          refine z_iload_n B0 dL_law_231 rfl rfl ?_
          refine z_iconst (v := 2) B0 dL_law_232 (by decide) ?_
          refine z_iadd (v := 2) B0 dL_law_233 (by decide) ?_
          refine y_sld (j := 2) (v := 0) B0 hX hbl (by decide) e2.symm dL_law_234 ?_
          refine z_aload_n B0 dL_law_235 rfl rfl ?_
          refine z_iload_n B0 dL_law_236 rfl rfl ?_
          refine z_iconst (v := 3) B0 dL_law_237 (by decide) ?_
          refine z_iadd (v := 3) B0 dL_law_238 (by decide) ?_
          refine y_sld (j := 3) (v := 0) B0 hX hbl (by decide) e3.symm dL_law_239 ?_
          refine z_aload_n B0 dL_law_240 rfl rfl ?_
          refine z_iload_n B0 dL_law_241 rfl rfl ?_
          refine z_iconst (v := 4) B0 dL_law_242 (by decide) ?_
          refine z_iadd (v := 4) B0 dL_law_243 (by decide) ?_
          refine y_sld (j := 4) (v := x4) B0 hX hbl (by decide) e4.symm dL_law_244 ?_
          refine z_if_eq_t (tgt := 252) B0 dL_law_245 (by decide) hb4 ?_
          refine z_iconst (v := 0) B0 dL_law_252 (by decide) ?_
          refine z_callC B0 (z_runV (q0 := 0) (As := [.int 1, .int 0, .int 0, .int 0]) (st := []) B0 (c_X11_kin_41 (a := a) (cS0 w)  rfl rfl rfl) cf_X11_kin (cw_0 cy tE a rw (cS0 w)) rfl wm_L_23 wi_X11_kin ws_X11_kin dL_law_253 rfl (Nat.le_of_ble_eq_true rfl) ⟨by decide, by decide, by decide, by decide⟩) (fun r1 u1 p1 => ?_)
          obtain ⟨rfl, -⟩ := p1
          refine z_aload_n B0 dL_law_256 rfl rfl ?_
          refine z_aload_n B0 dL_law_257 rfl rfl ?_
          refine z_iload_n B0 dL_law_258 rfl rfl ?_
          refine z_iconst (v := 1) B0 dL_law_259 (by decide) ?_
          refine z_iadd (v := 1) B0 dL_law_260 (by decide) ?_
          refine y_sld (j := 1) (v := 1) B0 hX hbl (by decide) e1.symm dL_law_261 ?_
          refine z_aload_n B0 dL_law_262 rfl rfl ?_
          refine z_iload_n B0 dL_law_263 rfl rfl ?_
          refine z_iconst (v := 2) B0 dL_law_264 (by decide) ?_
          refine z_iadd (v := 2) B0 dL_law_265 (by decide) ?_
          refine y_sld (j := 2) (v := 0) B0 hX hbl (by decide) e2.symm dL_law_266 ?_
          refine z_aload_n B0 dL_law_267 rfl rfl ?_
          refine z_iload_n B0 dL_law_268 rfl rfl ?_
          refine z_iconst (v := 3) B0 dL_law_269 (by decide) ?_
          refine z_iadd (v := 3) B0 dL_law_270 (by decide) ?_
          refine y_sld (j := 3) (v := 0) B0 hX hbl (by decide) e3.symm dL_law_271 ?_
          refine z_aload_n B0 dL_law_272 rfl rfl ?_
          refine z_iload_n B0 dL_law_273 rfl rfl ?_
          refine z_iconst (v := 4) B0 dL_law_274 (by decide) ?_
          refine z_iadd (v := 4) B0 dL_law_275 (by decide) ?_
          refine y_sld (j := 4) (v := x4) B0 hX hbl (by decide) e4.symm dL_law_276 ?_
          refine z_if_eq_t (tgt := 284) B0 dL_law_277 (by decide) hb4 ?_
          refine z_iconst (v := 0) B0 dL_law_284 (by decide) ?_
          refine z_callM B0 (z_runV (q0 := 0) (As := [.int 1, .int 0, .int 0, .int 0]) (st := [.int 1]) B0 (c_X12_kin_41 (a := a2) mS0  rfl rfl rfl rfl rfl rfl rfl rfl rfl rfl rfl rfl rfl rfl rfl rfl rfl rfl rfl rfl rfl rfl rfl rfl rfl rfl) cf_X12_kin (mw_0 cy a2 mS0) rfl wm_L_27 wi_X12_kin ws_X12_kin dL_law_285 rfl (Nat.le_of_ble_eq_true rfl) ⟨by decide, by decide, by decide, by decide⟩) (fun r2 u2 p2 => ?_)
          obtain ⟨rfl, -⟩ := p2
          refine z_icmp_eq_t (tgt := 1091) B0 dL_law_288 (by decide) rfl ?_
          exact fin u1 u2
        · refine z_aload_n B0 dL_law_224 rfl rfl ?_
          refine z_aload_n B0 dL_law_225 rfl rfl ?_
          refine z_iload_n B0 dL_law_226 rfl rfl ?_
          refine z_iconst (v := 1) B0 dL_law_227 (by decide) ?_
          refine z_iadd (v := 1) B0 dL_law_228 (by decide) ?_
          refine y_sld (j := 1) (v := 1) B0 hX hbl (by decide) e1.symm dL_law_229 ?_
          refine z_aload_n B0 dL_law_230 rfl rfl ?_
          refine z_iload_n B0 dL_law_231 rfl rfl ?_
          refine z_iconst (v := 2) B0 dL_law_232 (by decide) ?_
          refine z_iadd (v := 2) B0 dL_law_233 (by decide) ?_
          refine y_sld (j := 2) (v := 0) B0 hX hbl (by decide) e2.symm dL_law_234 ?_
          refine z_aload_n B0 dL_law_235 rfl rfl ?_
          refine z_iload_n B0 dL_law_236 rfl rfl ?_
          refine z_iconst (v := 3) B0 dL_law_237 (by decide) ?_
          refine z_iadd (v := 3) B0 dL_law_238 (by decide) ?_
          refine y_sld (j := 3) (v := 0) B0 hX hbl (by decide) e3.symm dL_law_239 ?_
          refine z_aload_n B0 dL_law_240 rfl rfl ?_
          refine z_iload_n B0 dL_law_241 rfl rfl ?_
          refine z_iconst (v := 4) B0 dL_law_242 (by decide) ?_
          refine z_iadd (v := 4) B0 dL_law_243 (by decide) ?_
          refine y_sld (j := 4) (v := x4) B0 hX hbl (by decide) e4.symm dL_law_244 ?_
          refine z_if_eq_f (tgt := 252) B0 dL_law_245 (by decide) hb4 ?_
          refine z_iconst (v := 1) B0 dL_law_248 (by decide) ?_
          refine z_goto (tgt := 253) B0 dL_law_249 (by decide) ?_
          refine z_callC B0 (z_runV (q0 := 0) (As := [.int 1, .int 0, .int 0, .int 1]) (st := []) B0 (c_X11_kin_42 (a := a) (cS0 w)  rfl) cf_X11_kin (cw_0 cy tE a rw (cS0 w)) rfl wm_L_23 wi_X11_kin ws_X11_kin dL_law_253 rfl (Nat.le_of_ble_eq_true rfl) ⟨by decide, by decide, by decide, by decide⟩) (fun r1 u1 p1 => ?_)
          obtain ⟨rfl, -⟩ := p1
          refine z_aload_n B0 dL_law_256 rfl rfl ?_
          refine z_aload_n B0 dL_law_257 rfl rfl ?_
          refine z_iload_n B0 dL_law_258 rfl rfl ?_
          refine z_iconst (v := 1) B0 dL_law_259 (by decide) ?_
          refine z_iadd (v := 1) B0 dL_law_260 (by decide) ?_
          refine y_sld (j := 1) (v := 1) B0 hX hbl (by decide) e1.symm dL_law_261 ?_
          refine z_aload_n B0 dL_law_262 rfl rfl ?_
          refine z_iload_n B0 dL_law_263 rfl rfl ?_
          refine z_iconst (v := 2) B0 dL_law_264 (by decide) ?_
          refine z_iadd (v := 2) B0 dL_law_265 (by decide) ?_
          refine y_sld (j := 2) (v := 0) B0 hX hbl (by decide) e2.symm dL_law_266 ?_
          refine z_aload_n B0 dL_law_267 rfl rfl ?_
          refine z_iload_n B0 dL_law_268 rfl rfl ?_
          refine z_iconst (v := 3) B0 dL_law_269 (by decide) ?_
          refine z_iadd (v := 3) B0 dL_law_270 (by decide) ?_
          refine y_sld (j := 3) (v := 0) B0 hX hbl (by decide) e3.symm dL_law_271 ?_
          refine z_aload_n B0 dL_law_272 rfl rfl ?_
          refine z_iload_n B0 dL_law_273 rfl rfl ?_
          refine z_iconst (v := 4) B0 dL_law_274 (by decide) ?_
          refine z_iadd (v := 4) B0 dL_law_275 (by decide) ?_
          refine y_sld (j := 4) (v := x4) B0 hX hbl (by decide) e4.symm dL_law_276 ?_
          refine z_if_eq_f (tgt := 284) B0 dL_law_277 (by decide) hb4 ?_
          refine z_iconst (v := 1) B0 dL_law_280 (by decide) ?_
          refine z_goto (tgt := 285) B0 dL_law_281 (by decide) ?_
          refine z_callM B0 (z_runV (q0 := 0) (As := [.int 1, .int 0, .int 0, .int 1]) (st := [.int 1]) B0 (c_X12_kin_42 (a := a2) mS0  rfl rfl rfl rfl rfl rfl rfl rfl rfl rfl rfl rfl rfl rfl rfl rfl rfl rfl rfl rfl rfl rfl rfl rfl rfl rfl) cf_X12_kin (mw_0 cy a2 mS0) rfl wm_L_27 wi_X12_kin ws_X12_kin dL_law_285 rfl (Nat.le_of_ble_eq_true rfl) ⟨by decide, by decide, by decide, by decide⟩) (fun r2 u2 p2 => ?_)
          obtain ⟨rfl, -⟩ := p2
          refine z_icmp_eq_t (tgt := 1091) B0 dL_law_288 (by decide) rfl ?_
          exact fin u1 u2
      · obtain rfl : x3 = 1 := Int32.toInt_inj.mp (h3.trans (by decide))
        by_cases hb4 : x4 = 0
        · refine z_aload_n B0 dL_law_224 rfl rfl ?_
          refine z_aload_n B0 dL_law_225 rfl rfl ?_
          refine z_iload_n B0 dL_law_226 rfl rfl ?_
          refine z_iconst (v := 1) B0 dL_law_227 (by decide) ?_
          refine z_iadd (v := 1) B0 dL_law_228 (by decide) ?_
          refine y_sld (j := 1) (v := 1) B0 hX hbl (by decide) e1.symm dL_law_229 ?_
          refine z_aload_n B0 dL_law_230 rfl rfl ?_
          refine z_iload_n B0 dL_law_231 rfl rfl ?_
          refine z_iconst (v := 2) B0 dL_law_232 (by decide) ?_
          refine z_iadd (v := 2) B0 dL_law_233 (by decide) ?_
          refine y_sld (j := 2) (v := 0) B0 hX hbl (by decide) e2.symm dL_law_234 ?_
          refine z_aload_n B0 dL_law_235 rfl rfl ?_
          refine z_iload_n B0 dL_law_236 rfl rfl ?_
          refine z_iconst (v := 3) B0 dL_law_237 (by decide) ?_
          refine z_iadd (v := 3) B0 dL_law_238 (by decide) ?_
          refine y_sld (j := 3) (v := 1) B0 hX hbl (by decide) e3.symm dL_law_239 ?_
          refine z_aload_n B0 dL_law_240 rfl rfl ?_
          refine z_iload_n B0 dL_law_241 rfl rfl ?_
          refine z_iconst (v := 4) B0 dL_law_242 (by decide) ?_
          refine z_iadd (v := 4) B0 dL_law_243 (by decide) ?_
          refine y_sld (j := 4) (v := x4) B0 hX hbl (by decide) e4.symm dL_law_244 ?_
          refine z_if_eq_t (tgt := 252) B0 dL_law_245 (by decide) hb4 ?_
          refine z_iconst (v := 0) B0 dL_law_252 (by decide) ?_
          refine z_callC B0 (z_runV (q0 := 0) (As := [.int 1, .int 0, .int 1, .int 0]) (st := []) B0 (c_X11_kin_43 (a := a) (cS0 w)  rfl rfl) cf_X11_kin (cw_0 cy tE a rw (cS0 w)) rfl wm_L_23 wi_X11_kin ws_X11_kin dL_law_253 rfl (Nat.le_of_ble_eq_true rfl) ⟨by decide, by decide, by decide, by decide⟩) (fun r1 u1 p1 => ?_)
          obtain ⟨rfl, -⟩ := p1
          refine z_aload_n B0 dL_law_256 rfl rfl ?_
          refine z_aload_n B0 dL_law_257 rfl rfl ?_
          refine z_iload_n B0 dL_law_258 rfl rfl ?_
          refine z_iconst (v := 1) B0 dL_law_259 (by decide) ?_
          refine z_iadd (v := 1) B0 dL_law_260 (by decide) ?_
          refine y_sld (j := 1) (v := 1) B0 hX hbl (by decide) e1.symm dL_law_261 ?_
          refine z_aload_n B0 dL_law_262 rfl rfl ?_
          refine z_iload_n B0 dL_law_263 rfl rfl ?_
          refine z_iconst (v := 2) B0 dL_law_264 (by decide) ?_
          refine z_iadd (v := 2) B0 dL_law_265 (by decide) ?_
          refine y_sld (j := 2) (v := 0) B0 hX hbl (by decide) e2.symm dL_law_266 ?_
          refine z_aload_n B0 dL_law_267 rfl rfl ?_
          refine z_iload_n B0 dL_law_268 rfl rfl ?_
          refine z_iconst (v := 3) B0 dL_law_269 (by decide) ?_
          refine z_iadd (v := 3) B0 dL_law_270 (by decide) ?_
          refine y_sld (j := 3) (v := 1) B0 hX hbl (by decide) e3.symm dL_law_271 ?_
          refine z_aload_n B0 dL_law_272 rfl rfl ?_
          refine z_iload_n B0 dL_law_273 rfl rfl ?_
          refine z_iconst (v := 4) B0 dL_law_274 (by decide) ?_
          refine z_iadd (v := 4) B0 dL_law_275 (by decide) ?_
          refine y_sld (j := 4) (v := x4) B0 hX hbl (by decide) e4.symm dL_law_276 ?_
          refine z_if_eq_t (tgt := 284) B0 dL_law_277 (by decide) hb4 ?_
          refine z_iconst (v := 0) B0 dL_law_284 (by decide) ?_
          refine z_callM B0 (z_runV (q0 := 0) (As := [.int 1, .int 0, .int 1, .int 0]) (st := [.int 1]) B0 (c_X12_kin_43 (a := a2) mS0  rfl rfl rfl rfl rfl rfl rfl rfl rfl rfl rfl rfl rfl rfl rfl rfl rfl rfl rfl rfl rfl rfl rfl rfl rfl rfl) cf_X12_kin (mw_0 cy a2 mS0) rfl wm_L_27 wi_X12_kin ws_X12_kin dL_law_285 rfl (Nat.le_of_ble_eq_true rfl) ⟨by decide, by decide, by decide, by decide⟩) (fun r2 u2 p2 => ?_)
          obtain ⟨rfl, -⟩ := p2
          refine z_icmp_eq_t (tgt := 1091) B0 dL_law_288 (by decide) rfl ?_
          exact fin u1 u2
        · refine z_aload_n B0 dL_law_224 rfl rfl ?_
          refine z_aload_n B0 dL_law_225 rfl rfl ?_
          refine z_iload_n B0 dL_law_226 rfl rfl ?_
          refine z_iconst (v := 1) B0 dL_law_227 (by decide) ?_
          refine z_iadd (v := 1) B0 dL_law_228 (by decide) ?_
          refine y_sld (j := 1) (v := 1) B0 hX hbl (by decide) e1.symm dL_law_229 ?_
          refine z_aload_n B0 dL_law_230 rfl rfl ?_
          refine z_iload_n B0 dL_law_231 rfl rfl ?_
          refine z_iconst (v := 2) B0 dL_law_232 (by decide) ?_
          refine z_iadd (v := 2) B0 dL_law_233 (by decide) ?_
          refine y_sld (j := 2) (v := 0) B0 hX hbl (by decide) e2.symm dL_law_234 ?_
          refine z_aload_n B0 dL_law_235 rfl rfl ?_
          refine z_iload_n B0 dL_law_236 rfl rfl ?_
          refine z_iconst (v := 3) B0 dL_law_237 (by decide) ?_
          refine z_iadd (v := 3) B0 dL_law_238 (by decide) ?_
          refine y_sld (j := 3) (v := 1) B0 hX hbl (by decide) e3.symm dL_law_239 ?_
          refine z_aload_n B0 dL_law_240 rfl rfl ?_
          refine z_iload_n B0 dL_law_241 rfl rfl ?_
          refine z_iconst (v := 4) B0 dL_law_242 (by decide) ?_
          refine z_iadd (v := 4) B0 dL_law_243 (by decide) ?_
          refine y_sld (j := 4) (v := x4) B0 hX hbl (by decide) e4.symm dL_law_244 ?_
          refine z_if_eq_f (tgt := 252) B0 dL_law_245 (by decide) hb4 ?_
          refine z_iconst (v := 1) B0 dL_law_248 (by decide) ?_
          refine z_goto (tgt := 253) B0 dL_law_249 (by decide) ?_
          refine z_callC B0 (z_runV (q0 := 0) (As := [.int 1, .int 0, .int 1, .int 1]) (st := []) B0 (c_X11_kin_44 (a := a) (cS0 w)  rfl) cf_X11_kin (cw_0 cy tE a rw (cS0 w)) rfl wm_L_23 wi_X11_kin ws_X11_kin dL_law_253 rfl (Nat.le_of_ble_eq_true rfl) ⟨by decide, by decide, by decide, by decide⟩) (fun r1 u1 p1 => ?_)
          obtain ⟨rfl, -⟩ := p1
          refine z_aload_n B0 dL_law_256 rfl rfl ?_
          refine z_aload_n B0 dL_law_257 rfl rfl ?_
          refine z_iload_n B0 dL_law_258 rfl rfl ?_
          refine z_iconst (v := 1) B0 dL_law_259 (by decide) ?_
          refine z_iadd (v := 1) B0 dL_law_260 (by decide) ?_
          refine y_sld (j := 1) (v := 1) B0 hX hbl (by decide) e1.symm dL_law_261 ?_
          refine z_aload_n B0 dL_law_262 rfl rfl ?_
          refine z_iload_n B0 dL_law_263 rfl rfl ?_
          refine z_iconst (v := 2) B0 dL_law_264 (by decide) ?_
          refine z_iadd (v := 2) B0 dL_law_265 (by decide) ?_
          refine y_sld (j := 2) (v := 0) B0 hX hbl (by decide) e2.symm dL_law_266 ?_
          refine z_aload_n B0 dL_law_267 rfl rfl ?_
          refine z_iload_n B0 dL_law_268 rfl rfl ?_
          refine z_iconst (v := 3) B0 dL_law_269 (by decide) ?_
          refine z_iadd (v := 3) B0 dL_law_270 (by decide) ?_
          refine y_sld (j := 3) (v := 1) B0 hX hbl (by decide) e3.symm dL_law_271 ?_
          refine z_aload_n B0 dL_law_272 rfl rfl ?_
          refine z_iload_n B0 dL_law_273 rfl rfl ?_
          refine z_iconst (v := 4) B0 dL_law_274 (by decide) ?_
          refine z_iadd (v := 4) B0 dL_law_275 (by decide) ?_
          refine y_sld (j := 4) (v := x4) B0 hX hbl (by decide) e4.symm dL_law_276 ?_
          refine z_if_eq_f (tgt := 284) B0 dL_law_277 (by decide) hb4 ?_
          refine z_iconst (v := 1) B0 dL_law_280 (by decide) ?_
          refine z_goto (tgt := 285) B0 dL_law_281 (by decide) ?_
          refine z_callM B0 (z_runV (q0 := 0) (As := [.int 1, .int 0, .int 1, .int 1]) (st := [.int 1]) B0 (c_X12_kin_44 (a := a2) mS0  rfl rfl rfl rfl rfl rfl rfl rfl rfl rfl rfl rfl rfl rfl rfl rfl rfl rfl rfl rfl rfl rfl rfl rfl rfl rfl) cf_X12_kin (mw_0 cy a2 mS0) rfl wm_L_27 wi_X12_kin ws_X12_kin dL_law_285 rfl (Nat.le_of_ble_eq_true rfl) ⟨by decide, by decide, by decide, by decide⟩) (fun r2 u2 p2 => ?_)
          obtain ⟨rfl, -⟩ := p2
          refine z_icmp_eq_t (tgt := 1091) B0 dL_law_288 (by decide) rfl ?_
          exact fin u1 u2
      · by_cases hb4 : x4 = 0
        · refine z_aload_n B0 dL_law_224 rfl rfl ?_
          refine z_aload_n B0 dL_law_225 rfl rfl ?_
          refine z_iload_n B0 dL_law_226 rfl rfl ?_
          refine z_iconst (v := 1) B0 dL_law_227 (by decide) ?_
          refine z_iadd (v := 1) B0 dL_law_228 (by decide) ?_
          refine y_sld (j := 1) (v := 1) B0 hX hbl (by decide) e1.symm dL_law_229 ?_
          refine z_aload_n B0 dL_law_230 rfl rfl ?_
          refine z_iload_n B0 dL_law_231 rfl rfl ?_
          refine z_iconst (v := 2) B0 dL_law_232 (by decide) ?_
          refine z_iadd (v := 2) B0 dL_law_233 (by decide) ?_
          refine y_sld (j := 2) (v := 0) B0 hX hbl (by decide) e2.symm dL_law_234 ?_
          refine z_aload_n B0 dL_law_235 rfl rfl ?_
          refine z_iload_n B0 dL_law_236 rfl rfl ?_
          refine z_iconst (v := 3) B0 dL_law_237 (by decide) ?_
          refine z_iadd (v := 3) B0 dL_law_238 (by decide) ?_
          refine y_sld (j := 3) (v := x3) B0 hX hbl (by decide) e3.symm dL_law_239 ?_
          refine z_aload_n B0 dL_law_240 rfl rfl ?_
          refine z_iload_n B0 dL_law_241 rfl rfl ?_
          refine z_iconst (v := 4) B0 dL_law_242 (by decide) ?_
          refine z_iadd (v := 4) B0 dL_law_243 (by decide) ?_
          refine y_sld (j := 4) (v := x4) B0 hX hbl (by decide) e4.symm dL_law_244 ?_
          refine z_if_eq_t (tgt := 252) B0 dL_law_245 (by decide) hb4 ?_
          refine z_iconst (v := 0) B0 dL_law_252 (by decide) ?_
          refine z_callC B0 (z_runV (q0 := 0) (As := [.int 1, .int 0, .int x3, .int 0]) (st := []) B0 (c_X11_kin_45 (a := a) (cS0 w) x3 ⟨by omega, by omega⟩) cf_X11_kin (cw_0 cy tE a rw (cS0 w)) rfl wm_L_23 wi_X11_kin ws_X11_kin dL_law_253 rfl (Nat.le_of_ble_eq_true rfl) ⟨by decide, by decide, by decide, by decide⟩) (fun r1 u1 p1 => ?_)
          obtain ⟨rfl, -⟩ := p1
          refine z_aload_n B0 dL_law_256 rfl rfl ?_
          refine z_aload_n B0 dL_law_257 rfl rfl ?_
          refine z_iload_n B0 dL_law_258 rfl rfl ?_
          refine z_iconst (v := 1) B0 dL_law_259 (by decide) ?_
          refine z_iadd (v := 1) B0 dL_law_260 (by decide) ?_
          refine y_sld (j := 1) (v := 1) B0 hX hbl (by decide) e1.symm dL_law_261 ?_
          refine z_aload_n B0 dL_law_262 rfl rfl ?_
          refine z_iload_n B0 dL_law_263 rfl rfl ?_
          refine z_iconst (v := 2) B0 dL_law_264 (by decide) ?_
          refine z_iadd (v := 2) B0 dL_law_265 (by decide) ?_
          refine y_sld (j := 2) (v := 0) B0 hX hbl (by decide) e2.symm dL_law_266 ?_
          refine z_aload_n B0 dL_law_267 rfl rfl ?_
          refine z_iload_n B0 dL_law_268 rfl rfl ?_
          refine z_iconst (v := 3) B0 dL_law_269 (by decide) ?_
          refine z_iadd (v := 3) B0 dL_law_270 (by decide) ?_
          refine y_sld (j := 3) (v := x3) B0 hX hbl (by decide) e3.symm dL_law_271 ?_
          refine z_aload_n B0 dL_law_272 rfl rfl ?_
          refine z_iload_n B0 dL_law_273 rfl rfl ?_
          refine z_iconst (v := 4) B0 dL_law_274 (by decide) ?_
          refine z_iadd (v := 4) B0 dL_law_275 (by decide) ?_
          refine y_sld (j := 4) (v := x4) B0 hX hbl (by decide) e4.symm dL_law_276 ?_
          refine z_if_eq_t (tgt := 284) B0 dL_law_277 (by decide) hb4 ?_
          refine z_iconst (v := 0) B0 dL_law_284 (by decide) ?_
          refine z_callM B0 (z_runV (q0 := 0) (As := [.int 1, .int 0, .int x3, .int 0]) (st := [.int 0]) B0 (c_X12_kin_45 (a := a2) mS0 x3 ⟨by omega, by omega⟩) cf_X12_kin (mw_0 cy a2 mS0) rfl wm_L_27 wi_X12_kin ws_X12_kin dL_law_285 rfl (Nat.le_of_ble_eq_true rfl) ⟨by decide, by decide, by decide, by decide⟩) (fun r2 u2 p2 => ?_)
          obtain ⟨rfl, -⟩ := p2
          refine z_icmp_eq_t (tgt := 1091) B0 dL_law_288 (by decide) rfl ?_
          exact fin u1 u2
        · refine z_aload_n B0 dL_law_224 rfl rfl ?_
          refine z_aload_n B0 dL_law_225 rfl rfl ?_
          refine z_iload_n B0 dL_law_226 rfl rfl ?_
          refine z_iconst (v := 1) B0 dL_law_227 (by decide) ?_
          refine z_iadd (v := 1) B0 dL_law_228 (by decide) ?_
          refine y_sld (j := 1) (v := 1) B0 hX hbl (by decide) e1.symm dL_law_229 ?_
          refine z_aload_n B0 dL_law_230 rfl rfl ?_
          refine z_iload_n B0 dL_law_231 rfl rfl ?_
          refine z_iconst (v := 2) B0 dL_law_232 (by decide) ?_
          refine z_iadd (v := 2) B0 dL_law_233 (by decide) ?_
          refine y_sld (j := 2) (v := 0) B0 hX hbl (by decide) e2.symm dL_law_234 ?_
          refine z_aload_n B0 dL_law_235 rfl rfl ?_
          refine z_iload_n B0 dL_law_236 rfl rfl ?_
          refine z_iconst (v := 3) B0 dL_law_237 (by decide) ?_
          refine z_iadd (v := 3) B0 dL_law_238 (by decide) ?_
          refine y_sld (j := 3) (v := x3) B0 hX hbl (by decide) e3.symm dL_law_239 ?_
          refine z_aload_n B0 dL_law_240 rfl rfl ?_
          refine z_iload_n B0 dL_law_241 rfl rfl ?_
          refine z_iconst (v := 4) B0 dL_law_242 (by decide) ?_
          refine z_iadd (v := 4) B0 dL_law_243 (by decide) ?_
          refine y_sld (j := 4) (v := x4) B0 hX hbl (by decide) e4.symm dL_law_244 ?_
          refine z_if_eq_f (tgt := 252) B0 dL_law_245 (by decide) hb4 ?_
          refine z_iconst (v := 1) B0 dL_law_248 (by decide) ?_
          refine z_goto (tgt := 253) B0 dL_law_249 (by decide) ?_
          refine z_callC B0 (z_runV (q0 := 0) (As := [.int 1, .int 0, .int x3, .int 1]) (st := []) B0 (c_X11_kin_46 (a := a) (cS0 w) x3 ⟨by omega, by omega⟩) cf_X11_kin (cw_0 cy tE a rw (cS0 w)) rfl wm_L_23 wi_X11_kin ws_X11_kin dL_law_253 rfl (Nat.le_of_ble_eq_true rfl) ⟨by decide, by decide, by decide, by decide⟩) (fun r1 u1 p1 => ?_)
          obtain ⟨rfl, -⟩ := p1
          refine z_aload_n B0 dL_law_256 rfl rfl ?_
          refine z_aload_n B0 dL_law_257 rfl rfl ?_
          refine z_iload_n B0 dL_law_258 rfl rfl ?_
          refine z_iconst (v := 1) B0 dL_law_259 (by decide) ?_
          refine z_iadd (v := 1) B0 dL_law_260 (by decide) ?_
          refine y_sld (j := 1) (v := 1) B0 hX hbl (by decide) e1.symm dL_law_261 ?_
          refine z_aload_n B0 dL_law_262 rfl rfl ?_
          refine z_iload_n B0 dL_law_263 rfl rfl ?_
          refine z_iconst (v := 2) B0 dL_law_264 (by decide) ?_
          refine z_iadd (v := 2) B0 dL_law_265 (by decide) ?_
          refine y_sld (j := 2) (v := 0) B0 hX hbl (by decide) e2.symm dL_law_266 ?_
          refine z_aload_n B0 dL_law_267 rfl rfl ?_
          refine z_iload_n B0 dL_law_268 rfl rfl ?_
          refine z_iconst (v := 3) B0 dL_law_269 (by decide) ?_
          refine z_iadd (v := 3) B0 dL_law_270 (by decide) ?_
          refine y_sld (j := 3) (v := x3) B0 hX hbl (by decide) e3.symm dL_law_271 ?_
          refine z_aload_n B0 dL_law_272 rfl rfl ?_
          refine z_iload_n B0 dL_law_273 rfl rfl ?_
          refine z_iconst (v := 4) B0 dL_law_274 (by decide) ?_
          refine z_iadd (v := 4) B0 dL_law_275 (by decide) ?_
          refine y_sld (j := 4) (v := x4) B0 hX hbl (by decide) e4.symm dL_law_276 ?_
          refine z_if_eq_f (tgt := 284) B0 dL_law_277 (by decide) hb4 ?_
          refine z_iconst (v := 1) B0 dL_law_280 (by decide) ?_
          refine z_goto (tgt := 285) B0 dL_law_281 (by decide) ?_
          refine z_callM B0 (z_runV (q0 := 0) (As := [.int 1, .int 0, .int x3, .int 1]) (st := [.int 0]) B0 (c_X12_kin_46 (a := a2) mS0 x3 ⟨by omega, by omega⟩) cf_X12_kin (mw_0 cy a2 mS0) rfl wm_L_27 wi_X12_kin ws_X12_kin dL_law_285 rfl (Nat.le_of_ble_eq_true rfl) ⟨by decide, by decide, by decide, by decide⟩) (fun r2 u2 p2 => ?_)
          obtain ⟨rfl, -⟩ := p2
          refine z_icmp_eq_t (tgt := 1091) B0 dL_law_288 (by decide) rfl ?_
          exact fin u1 u2
    · obtain rfl : x2 = 1 := Int32.toInt_inj.mp (h2.trans (by decide))
      by_cases hb4 : x4 = 0
      · refine z_aload_n B0 dL_law_224 rfl rfl ?_
        refine z_aload_n B0 dL_law_225 rfl rfl ?_
        refine z_iload_n B0 dL_law_226 rfl rfl ?_
        refine z_iconst (v := 1) B0 dL_law_227 (by decide) ?_
        refine z_iadd (v := 1) B0 dL_law_228 (by decide) ?_
        refine y_sld (j := 1) (v := 1) B0 hX hbl (by decide) e1.symm dL_law_229 ?_
        refine z_aload_n B0 dL_law_230 rfl rfl ?_
        refine z_iload_n B0 dL_law_231 rfl rfl ?_
        refine z_iconst (v := 2) B0 dL_law_232 (by decide) ?_
        refine z_iadd (v := 2) B0 dL_law_233 (by decide) ?_
        refine y_sld (j := 2) (v := 1) B0 hX hbl (by decide) e2.symm dL_law_234 ?_
        refine z_aload_n B0 dL_law_235 rfl rfl ?_
        refine z_iload_n B0 dL_law_236 rfl rfl ?_
        refine z_iconst (v := 3) B0 dL_law_237 (by decide) ?_
        refine z_iadd (v := 3) B0 dL_law_238 (by decide) ?_
        refine y_sld (j := 3) (v := x3) B0 hX hbl (by decide) e3.symm dL_law_239 ?_
        refine z_aload_n B0 dL_law_240 rfl rfl ?_
        refine z_iload_n B0 dL_law_241 rfl rfl ?_
        refine z_iconst (v := 4) B0 dL_law_242 (by decide) ?_
        refine z_iadd (v := 4) B0 dL_law_243 (by decide) ?_
        refine y_sld (j := 4) (v := x4) B0 hX hbl (by decide) e4.symm dL_law_244 ?_
        refine z_if_eq_t (tgt := 252) B0 dL_law_245 (by decide) hb4 ?_
        refine z_iconst (v := 0) B0 dL_law_252 (by decide) ?_
        refine z_callC B0 (z_runV (q0 := 0) (As := [.int 1, .int 1, .int x3, .int 0]) (st := []) B0 (c_X11_kin_15 (a := a) (cS0 w) x3 ) cf_X11_kin (cw_0 cy tE a rw (cS0 w)) rfl wm_L_23 wi_X11_kin ws_X11_kin dL_law_253 rfl (Nat.le_of_ble_eq_true rfl) ⟨by decide, by decide, by decide, by decide⟩) (fun r1 u1 p1 => ?_)
        obtain ⟨rfl, -⟩ := p1
        refine z_aload_n B0 dL_law_256 rfl rfl ?_
        refine z_aload_n B0 dL_law_257 rfl rfl ?_
        refine z_iload_n B0 dL_law_258 rfl rfl ?_
        refine z_iconst (v := 1) B0 dL_law_259 (by decide) ?_
        refine z_iadd (v := 1) B0 dL_law_260 (by decide) ?_
        refine y_sld (j := 1) (v := 1) B0 hX hbl (by decide) e1.symm dL_law_261 ?_
        refine z_aload_n B0 dL_law_262 rfl rfl ?_
        refine z_iload_n B0 dL_law_263 rfl rfl ?_
        refine z_iconst (v := 2) B0 dL_law_264 (by decide) ?_
        refine z_iadd (v := 2) B0 dL_law_265 (by decide) ?_
        refine y_sld (j := 2) (v := 1) B0 hX hbl (by decide) e2.symm dL_law_266 ?_
        refine z_aload_n B0 dL_law_267 rfl rfl ?_
        refine z_iload_n B0 dL_law_268 rfl rfl ?_
        refine z_iconst (v := 3) B0 dL_law_269 (by decide) ?_
        refine z_iadd (v := 3) B0 dL_law_270 (by decide) ?_
        refine y_sld (j := 3) (v := x3) B0 hX hbl (by decide) e3.symm dL_law_271 ?_
        refine z_aload_n B0 dL_law_272 rfl rfl ?_
        refine z_iload_n B0 dL_law_273 rfl rfl ?_
        refine z_iconst (v := 4) B0 dL_law_274 (by decide) ?_
        refine z_iadd (v := 4) B0 dL_law_275 (by decide) ?_
        refine y_sld (j := 4) (v := x4) B0 hX hbl (by decide) e4.symm dL_law_276 ?_
        refine z_if_eq_t (tgt := 284) B0 dL_law_277 (by decide) hb4 ?_
        refine z_iconst (v := 0) B0 dL_law_284 (by decide) ?_
        refine z_callM B0 (z_runV (q0 := 0) (As := [.int 1, .int 1, .int x3, .int 0]) (st := [.int 0]) B0 (c_X12_kin_15 (a := a2) mS0 x3 ) cf_X12_kin (mw_0 cy a2 mS0) rfl wm_L_27 wi_X12_kin ws_X12_kin dL_law_285 rfl (Nat.le_of_ble_eq_true rfl) ⟨by decide, by decide, by decide, by decide⟩) (fun r2 u2 p2 => ?_)
        obtain ⟨rfl, -⟩ := p2
        refine z_icmp_eq_t (tgt := 1091) B0 dL_law_288 (by decide) rfl ?_
        exact fin u1 u2
      · refine z_aload_n B0 dL_law_224 rfl rfl ?_
        refine z_aload_n B0 dL_law_225 rfl rfl ?_
        refine z_iload_n B0 dL_law_226 rfl rfl ?_
        refine z_iconst (v := 1) B0 dL_law_227 (by decide) ?_
        refine z_iadd (v := 1) B0 dL_law_228 (by decide) ?_
        refine y_sld (j := 1) (v := 1) B0 hX hbl (by decide) e1.symm dL_law_229 ?_
        refine z_aload_n B0 dL_law_230 rfl rfl ?_
        refine z_iload_n B0 dL_law_231 rfl rfl ?_
        refine z_iconst (v := 2) B0 dL_law_232 (by decide) ?_
        refine z_iadd (v := 2) B0 dL_law_233 (by decide) ?_
        refine y_sld (j := 2) (v := 1) B0 hX hbl (by decide) e2.symm dL_law_234 ?_
        refine z_aload_n B0 dL_law_235 rfl rfl ?_
        refine z_iload_n B0 dL_law_236 rfl rfl ?_
        refine z_iconst (v := 3) B0 dL_law_237 (by decide) ?_
        refine z_iadd (v := 3) B0 dL_law_238 (by decide) ?_
        refine y_sld (j := 3) (v := x3) B0 hX hbl (by decide) e3.symm dL_law_239 ?_
        refine z_aload_n B0 dL_law_240 rfl rfl ?_
        refine z_iload_n B0 dL_law_241 rfl rfl ?_
        refine z_iconst (v := 4) B0 dL_law_242 (by decide) ?_
        refine z_iadd (v := 4) B0 dL_law_243 (by decide) ?_
        refine y_sld (j := 4) (v := x4) B0 hX hbl (by decide) e4.symm dL_law_244 ?_
        refine z_if_eq_f (tgt := 252) B0 dL_law_245 (by decide) hb4 ?_
        refine z_iconst (v := 1) B0 dL_law_248 (by decide) ?_
        refine z_goto (tgt := 253) B0 dL_law_249 (by decide) ?_
        refine z_callC B0 (z_runV (q0 := 0) (As := [.int 1, .int 1, .int x3, .int 1]) (st := []) B0 (c_X11_kin_16 (a := a) (cS0 w) x3 ) cf_X11_kin (cw_0 cy tE a rw (cS0 w)) rfl wm_L_23 wi_X11_kin ws_X11_kin dL_law_253 rfl (Nat.le_of_ble_eq_true rfl) ⟨by decide, by decide, by decide, by decide⟩) (fun r1 u1 p1 => ?_)
        obtain ⟨rfl, -⟩ := p1
        refine z_aload_n B0 dL_law_256 rfl rfl ?_
        refine z_aload_n B0 dL_law_257 rfl rfl ?_
        refine z_iload_n B0 dL_law_258 rfl rfl ?_
        refine z_iconst (v := 1) B0 dL_law_259 (by decide) ?_
        refine z_iadd (v := 1) B0 dL_law_260 (by decide) ?_
        refine y_sld (j := 1) (v := 1) B0 hX hbl (by decide) e1.symm dL_law_261 ?_
        refine z_aload_n B0 dL_law_262 rfl rfl ?_
        refine z_iload_n B0 dL_law_263 rfl rfl ?_
        refine z_iconst (v := 2) B0 dL_law_264 (by decide) ?_
        refine z_iadd (v := 2) B0 dL_law_265 (by decide) ?_
        refine y_sld (j := 2) (v := 1) B0 hX hbl (by decide) e2.symm dL_law_266 ?_
        refine z_aload_n B0 dL_law_267 rfl rfl ?_
        refine z_iload_n B0 dL_law_268 rfl rfl ?_
        refine z_iconst (v := 3) B0 dL_law_269 (by decide) ?_
        refine z_iadd (v := 3) B0 dL_law_270 (by decide) ?_
        refine y_sld (j := 3) (v := x3) B0 hX hbl (by decide) e3.symm dL_law_271 ?_
        refine z_aload_n B0 dL_law_272 rfl rfl ?_
        refine z_iload_n B0 dL_law_273 rfl rfl ?_
        refine z_iconst (v := 4) B0 dL_law_274 (by decide) ?_
        refine z_iadd (v := 4) B0 dL_law_275 (by decide) ?_
        refine y_sld (j := 4) (v := x4) B0 hX hbl (by decide) e4.symm dL_law_276 ?_
        refine z_if_eq_f (tgt := 284) B0 dL_law_277 (by decide) hb4 ?_
        refine z_iconst (v := 1) B0 dL_law_280 (by decide) ?_
        refine z_goto (tgt := 285) B0 dL_law_281 (by decide) ?_
        refine z_callM B0 (z_runV (q0 := 0) (As := [.int 1, .int 1, .int x3, .int 1]) (st := [.int 0]) B0 (c_X12_kin_16 (a := a2) mS0 x3 ) cf_X12_kin (mw_0 cy a2 mS0) rfl wm_L_27 wi_X12_kin ws_X12_kin dL_law_285 rfl (Nat.le_of_ble_eq_true rfl) ⟨by decide, by decide, by decide, by decide⟩) (fun r2 u2 p2 => ?_)
        obtain ⟨rfl, -⟩ := p2
        refine z_icmp_eq_t (tgt := 1091) B0 dL_law_288 (by decide) rfl ?_
        exact fin u1 u2
    · obtain rfl : x2 = 2 := Int32.toInt_inj.mp (h2.trans (by decide))
      rcases (show ((-2147483648) ≤ x3.toInt ∧ x3.toInt ≤ (-1)) ∨ x3.toInt = 0 ∨ x3.toInt = 1 ∨ (2 ≤ x3.toInt ∧ x3.toInt ≤ 2147483647) by have g1 := Int32.le_toInt x3; have g2 := Int32.toInt_lt x3; omega) with h3 | h3 | h3 | h3
      · by_cases hb4 : x4 = 0
        · refine z_aload_n B0 dL_law_224 rfl rfl ?_
          refine z_aload_n B0 dL_law_225 rfl rfl ?_
          refine z_iload_n B0 dL_law_226 rfl rfl ?_
          refine z_iconst (v := 1) B0 dL_law_227 (by decide) ?_
          refine z_iadd (v := 1) B0 dL_law_228 (by decide) ?_
          refine y_sld (j := 1) (v := 1) B0 hX hbl (by decide) e1.symm dL_law_229 ?_
          refine z_aload_n B0 dL_law_230 rfl rfl ?_
          refine z_iload_n B0 dL_law_231 rfl rfl ?_
          refine z_iconst (v := 2) B0 dL_law_232 (by decide) ?_
          refine z_iadd (v := 2) B0 dL_law_233 (by decide) ?_
          refine y_sld (j := 2) (v := 2) B0 hX hbl (by decide) e2.symm dL_law_234 ?_
          refine z_aload_n B0 dL_law_235 rfl rfl ?_
          refine z_iload_n B0 dL_law_236 rfl rfl ?_
          refine z_iconst (v := 3) B0 dL_law_237 (by decide) ?_
          refine z_iadd (v := 3) B0 dL_law_238 (by decide) ?_
          refine y_sld (j := 3) (v := x3) B0 hX hbl (by decide) e3.symm dL_law_239 ?_
          refine z_aload_n B0 dL_law_240 rfl rfl ?_
          refine z_iload_n B0 dL_law_241 rfl rfl ?_
          refine z_iconst (v := 4) B0 dL_law_242 (by decide) ?_
          refine z_iadd (v := 4) B0 dL_law_243 (by decide) ?_
          refine y_sld (j := 4) (v := x4) B0 hX hbl (by decide) e4.symm dL_law_244 ?_
          refine z_if_eq_t (tgt := 252) B0 dL_law_245 (by decide) hb4 ?_
          refine z_iconst (v := 0) B0 dL_law_252 (by decide) ?_
          refine z_callC B0 (z_runV (q0 := 0) (As := [.int 1, .int 2, .int x3, .int 0]) (st := []) B0 (c_X11_kin_47 (a := a) (cS0 w) x3 ⟨by omega, by omega⟩) cf_X11_kin (cw_0 cy tE a rw (cS0 w)) rfl wm_L_23 wi_X11_kin ws_X11_kin dL_law_253 rfl (Nat.le_of_ble_eq_true rfl) ⟨by decide, by decide, by decide, by decide⟩) (fun r1 u1 p1 => ?_)
          obtain ⟨rfl, -⟩ := p1
          refine z_aload_n B0 dL_law_256 rfl rfl ?_
          refine z_aload_n B0 dL_law_257 rfl rfl ?_
          refine z_iload_n B0 dL_law_258 rfl rfl ?_
          refine z_iconst (v := 1) B0 dL_law_259 (by decide) ?_
          refine z_iadd (v := 1) B0 dL_law_260 (by decide) ?_
          refine y_sld (j := 1) (v := 1) B0 hX hbl (by decide) e1.symm dL_law_261 ?_
          refine z_aload_n B0 dL_law_262 rfl rfl ?_
          refine z_iload_n B0 dL_law_263 rfl rfl ?_
          refine z_iconst (v := 2) B0 dL_law_264 (by decide) ?_
          refine z_iadd (v := 2) B0 dL_law_265 (by decide) ?_
          refine y_sld (j := 2) (v := 2) B0 hX hbl (by decide) e2.symm dL_law_266 ?_
          refine z_aload_n B0 dL_law_267 rfl rfl ?_
          refine z_iload_n B0 dL_law_268 rfl rfl ?_
          refine z_iconst (v := 3) B0 dL_law_269 (by decide) ?_
          refine z_iadd (v := 3) B0 dL_law_270 (by decide) ?_
          refine y_sld (j := 3) (v := x3) B0 hX hbl (by decide) e3.symm dL_law_271 ?_
          refine z_aload_n B0 dL_law_272 rfl rfl ?_
          refine z_iload_n B0 dL_law_273 rfl rfl ?_
          refine z_iconst (v := 4) B0 dL_law_274 (by decide) ?_
          refine z_iadd (v := 4) B0 dL_law_275 (by decide) ?_
          refine y_sld (j := 4) (v := x4) B0 hX hbl (by decide) e4.symm dL_law_276 ?_
          refine z_if_eq_t (tgt := 284) B0 dL_law_277 (by decide) hb4 ?_
          refine z_iconst (v := 0) B0 dL_law_284 (by decide) ?_
          refine z_callM B0 (z_runV (q0 := 0) (As := [.int 1, .int 2, .int x3, .int 0]) (st := [.int 0]) B0 (c_X12_kin_47 (a := a2) mS0 x3 ⟨by omega, by omega⟩) cf_X12_kin (mw_0 cy a2 mS0) rfl wm_L_27 wi_X12_kin ws_X12_kin dL_law_285 rfl (Nat.le_of_ble_eq_true rfl) ⟨by decide, by decide, by decide, by decide⟩) (fun r2 u2 p2 => ?_)
          obtain ⟨rfl, -⟩ := p2
          refine z_icmp_eq_t (tgt := 1091) B0 dL_law_288 (by decide) rfl ?_
          exact fin u1 u2
        · refine z_aload_n B0 dL_law_224 rfl rfl ?_
          refine z_aload_n B0 dL_law_225 rfl rfl ?_
          refine z_iload_n B0 dL_law_226 rfl rfl ?_
          refine z_iconst (v := 1) B0 dL_law_227 (by decide) ?_
          refine z_iadd (v := 1) B0 dL_law_228 (by decide) ?_
          refine y_sld (j := 1) (v := 1) B0 hX hbl (by decide) e1.symm dL_law_229 ?_
          refine z_aload_n B0 dL_law_230 rfl rfl ?_
          refine z_iload_n B0 dL_law_231 rfl rfl ?_
          refine z_iconst (v := 2) B0 dL_law_232 (by decide) ?_
          refine z_iadd (v := 2) B0 dL_law_233 (by decide) ?_
          refine y_sld (j := 2) (v := 2) B0 hX hbl (by decide) e2.symm dL_law_234 ?_
          refine z_aload_n B0 dL_law_235 rfl rfl ?_
          refine z_iload_n B0 dL_law_236 rfl rfl ?_
          refine z_iconst (v := 3) B0 dL_law_237 (by decide) ?_
          refine z_iadd (v := 3) B0 dL_law_238 (by decide) ?_
          refine y_sld (j := 3) (v := x3) B0 hX hbl (by decide) e3.symm dL_law_239 ?_
          refine z_aload_n B0 dL_law_240 rfl rfl ?_
          refine z_iload_n B0 dL_law_241 rfl rfl ?_
          refine z_iconst (v := 4) B0 dL_law_242 (by decide) ?_
          refine z_iadd (v := 4) B0 dL_law_243 (by decide) ?_
          refine y_sld (j := 4) (v := x4) B0 hX hbl (by decide) e4.symm dL_law_244 ?_
          refine z_if_eq_f (tgt := 252) B0 dL_law_245 (by decide) hb4 ?_
          refine z_iconst (v := 1) B0 dL_law_248 (by decide) ?_
          refine z_goto (tgt := 253) B0 dL_law_249 (by decide) ?_
          refine z_callC B0 (z_runV (q0 := 0) (As := [.int 1, .int 2, .int x3, .int 1]) (st := []) B0 (c_X11_kin_48 (a := a) (cS0 w) x3 ⟨by omega, by omega⟩) cf_X11_kin (cw_0 cy tE a rw (cS0 w)) rfl wm_L_23 wi_X11_kin ws_X11_kin dL_law_253 rfl (Nat.le_of_ble_eq_true rfl) ⟨by decide, by decide, by decide, by decide⟩) (fun r1 u1 p1 => ?_)
          obtain ⟨rfl, -⟩ := p1
          refine z_aload_n B0 dL_law_256 rfl rfl ?_
          refine z_aload_n B0 dL_law_257 rfl rfl ?_
          refine z_iload_n B0 dL_law_258 rfl rfl ?_
          refine z_iconst (v := 1) B0 dL_law_259 (by decide) ?_
          refine z_iadd (v := 1) B0 dL_law_260 (by decide) ?_
          refine y_sld (j := 1) (v := 1) B0 hX hbl (by decide) e1.symm dL_law_261 ?_
          refine z_aload_n B0 dL_law_262 rfl rfl ?_
          refine z_iload_n B0 dL_law_263 rfl rfl ?_
          refine z_iconst (v := 2) B0 dL_law_264 (by decide) ?_
          refine z_iadd (v := 2) B0 dL_law_265 (by decide) ?_
          refine y_sld (j := 2) (v := 2) B0 hX hbl (by decide) e2.symm dL_law_266 ?_
          refine z_aload_n B0 dL_law_267 rfl rfl ?_
          refine z_iload_n B0 dL_law_268 rfl rfl ?_
          refine z_iconst (v := 3) B0 dL_law_269 (by decide) ?_
          refine z_iadd (v := 3) B0 dL_law_270 (by decide) ?_
          refine y_sld (j := 3) (v := x3) B0 hX hbl (by decide) e3.symm dL_law_271 ?_
          refine z_aload_n B0 dL_law_272 rfl rfl ?_
          refine z_iload_n B0 dL_law_273 rfl rfl ?_
          refine z_iconst (v := 4) B0 dL_law_274 (by decide) ?_
          refine z_iadd (v := 4) B0 dL_law_275 (by decide) ?_
          refine y_sld (j := 4) (v := x4) B0 hX hbl (by decide) e4.symm dL_law_276 ?_
          refine z_if_eq_f (tgt := 284) B0 dL_law_277 (by decide) hb4 ?_
          refine z_iconst (v := 1) B0 dL_law_280 (by decide) ?_
          refine z_goto (tgt := 285) B0 dL_law_281 (by decide) ?_
          refine z_callM B0 (z_runV (q0 := 0) (As := [.int 1, .int 2, .int x3, .int 1]) (st := [.int 0]) B0 (c_X12_kin_48 (a := a2) mS0 x3 ⟨by omega, by omega⟩) cf_X12_kin (mw_0 cy a2 mS0) rfl wm_L_27 wi_X12_kin ws_X12_kin dL_law_285 rfl (Nat.le_of_ble_eq_true rfl) ⟨by decide, by decide, by decide, by decide⟩) (fun r2 u2 p2 => ?_)
          obtain ⟨rfl, -⟩ := p2
          refine z_icmp_eq_t (tgt := 1091) B0 dL_law_288 (by decide) rfl ?_
          exact fin u1 u2
      · obtain rfl : x3 = 0 := Int32.toInt_inj.mp (h3.trans (by decide))
        by_cases hb4 : x4 = 0
        · refine z_aload_n B0 dL_law_224 rfl rfl ?_
          refine z_aload_n B0 dL_law_225 rfl rfl ?_
          refine z_iload_n B0 dL_law_226 rfl rfl ?_
          refine z_iconst (v := 1) B0 dL_law_227 (by decide) ?_
          refine z_iadd (v := 1) B0 dL_law_228 (by decide) ?_
          refine y_sld (j := 1) (v := 1) B0 hX hbl (by decide) e1.symm dL_law_229 ?_
          refine z_aload_n B0 dL_law_230 rfl rfl ?_
          refine z_iload_n B0 dL_law_231 rfl rfl ?_
          refine z_iconst (v := 2) B0 dL_law_232 (by decide) ?_
          refine z_iadd (v := 2) B0 dL_law_233 (by decide) ?_
          refine y_sld (j := 2) (v := 2) B0 hX hbl (by decide) e2.symm dL_law_234 ?_
          refine z_aload_n B0 dL_law_235 rfl rfl ?_
          refine z_iload_n B0 dL_law_236 rfl rfl ?_
          refine z_iconst (v := 3) B0 dL_law_237 (by decide) ?_
          refine z_iadd (v := 3) B0 dL_law_238 (by decide) ?_
          refine y_sld (j := 3) (v := 0) B0 hX hbl (by decide) e3.symm dL_law_239 ?_
          refine z_aload_n B0 dL_law_240 rfl rfl ?_
          refine z_iload_n B0 dL_law_241 rfl rfl ?_
          refine z_iconst (v := 4) B0 dL_law_242 (by decide) ?_
          refine z_iadd (v := 4) B0 dL_law_243 (by decide) ?_
          refine y_sld (j := 4) (v := x4) B0 hX hbl (by decide) e4.symm dL_law_244 ?_
          refine z_if_eq_t (tgt := 252) B0 dL_law_245 (by decide) hb4 ?_
          refine z_iconst (v := 0) B0 dL_law_252 (by decide) ?_
          refine z_callC B0 (z_runV (q0 := 0) (As := [.int 1, .int 2, .int 0, .int 0]) (st := []) B0 (c_X11_kin_49 (a := a) (cS0 w)  rfl rfl rfl) cf_X11_kin (cw_0 cy tE a rw (cS0 w)) rfl wm_L_23 wi_X11_kin ws_X11_kin dL_law_253 rfl (Nat.le_of_ble_eq_true rfl) ⟨by decide, by decide, by decide, by decide⟩) (fun r1 u1 p1 => ?_)
          obtain ⟨rfl, -⟩ := p1
          refine z_aload_n B0 dL_law_256 rfl rfl ?_
          refine z_aload_n B0 dL_law_257 rfl rfl ?_
          refine z_iload_n B0 dL_law_258 rfl rfl ?_
          refine z_iconst (v := 1) B0 dL_law_259 (by decide) ?_
          refine z_iadd (v := 1) B0 dL_law_260 (by decide) ?_
          refine y_sld (j := 1) (v := 1) B0 hX hbl (by decide) e1.symm dL_law_261 ?_
          refine z_aload_n B0 dL_law_262 rfl rfl ?_
          refine z_iload_n B0 dL_law_263 rfl rfl ?_
          refine z_iconst (v := 2) B0 dL_law_264 (by decide) ?_
          refine z_iadd (v := 2) B0 dL_law_265 (by decide) ?_
          refine y_sld (j := 2) (v := 2) B0 hX hbl (by decide) e2.symm dL_law_266 ?_
          refine z_aload_n B0 dL_law_267 rfl rfl ?_
          refine z_iload_n B0 dL_law_268 rfl rfl ?_
          refine z_iconst (v := 3) B0 dL_law_269 (by decide) ?_
          refine z_iadd (v := 3) B0 dL_law_270 (by decide) ?_
          refine y_sld (j := 3) (v := 0) B0 hX hbl (by decide) e3.symm dL_law_271 ?_
          refine z_aload_n B0 dL_law_272 rfl rfl ?_
          refine z_iload_n B0 dL_law_273 rfl rfl ?_
          refine z_iconst (v := 4) B0 dL_law_274 (by decide) ?_
          refine z_iadd (v := 4) B0 dL_law_275 (by decide) ?_
          refine y_sld (j := 4) (v := x4) B0 hX hbl (by decide) e4.symm dL_law_276 ?_
          refine z_if_eq_t (tgt := 284) B0 dL_law_277 (by decide) hb4 ?_
          refine z_iconst (v := 0) B0 dL_law_284 (by decide) ?_
          refine z_callM B0 (z_runV (q0 := 0) (As := [.int 1, .int 2, .int 0, .int 0]) (st := [.int 1]) B0 (c_X12_kin_49 (a := a2) mS0  rfl rfl rfl rfl rfl rfl rfl rfl rfl rfl rfl rfl rfl rfl rfl rfl rfl rfl rfl rfl rfl rfl rfl rfl rfl rfl) cf_X12_kin (mw_0 cy a2 mS0) rfl wm_L_27 wi_X12_kin ws_X12_kin dL_law_285 rfl (Nat.le_of_ble_eq_true rfl) ⟨by decide, by decide, by decide, by decide⟩) (fun r2 u2 p2 => ?_)
          obtain ⟨rfl, -⟩ := p2
          refine z_icmp_eq_t (tgt := 1091) B0 dL_law_288 (by decide) rfl ?_
          exact fin u1 u2
        · refine z_aload_n B0 dL_law_224 rfl rfl ?_
          refine z_aload_n B0 dL_law_225 rfl rfl ?_
          refine z_iload_n B0 dL_law_226 rfl rfl ?_
          refine z_iconst (v := 1) B0 dL_law_227 (by decide) ?_
          refine z_iadd (v := 1) B0 dL_law_228 (by decide) ?_
          refine y_sld (j := 1) (v := 1) B0 hX hbl (by decide) e1.symm dL_law_229 ?_
          refine z_aload_n B0 dL_law_230 rfl rfl ?_
          refine z_iload_n B0 dL_law_231 rfl rfl ?_
          refine z_iconst (v := 2) B0 dL_law_232 (by decide) ?_
          refine z_iadd (v := 2) B0 dL_law_233 (by decide) ?_
          refine y_sld (j := 2) (v := 2) B0 hX hbl (by decide) e2.symm dL_law_234 ?_
          refine z_aload_n B0 dL_law_235 rfl rfl ?_
          refine z_iload_n B0 dL_law_236 rfl rfl ?_
          refine z_iconst (v := 3) B0 dL_law_237 (by decide) ?_
          refine z_iadd (v := 3) B0 dL_law_238 (by decide) ?_
          refine y_sld (j := 3) (v := 0) B0 hX hbl (by decide) e3.symm dL_law_239 ?_
          refine z_aload_n B0 dL_law_240 rfl rfl ?_
          refine z_iload_n B0 dL_law_241 rfl rfl ?_
          refine z_iconst (v := 4) B0 dL_law_242 (by decide) ?_
          refine z_iadd (v := 4) B0 dL_law_243 (by decide) ?_
          refine y_sld (j := 4) (v := x4) B0 hX hbl (by decide) e4.symm dL_law_244 ?_
          refine z_if_eq_f (tgt := 252) B0 dL_law_245 (by decide) hb4 ?_
          refine z_iconst (v := 1) B0 dL_law_248 (by decide) ?_
          refine z_goto (tgt := 253) B0 dL_law_249 (by decide) ?_
          refine z_callC B0 (z_runV (q0 := 0) (As := [.int 1, .int 2, .int 0, .int 1]) (st := []) B0 (c_X11_kin_50 (a := a) (cS0 w)  rfl) cf_X11_kin (cw_0 cy tE a rw (cS0 w)) rfl wm_L_23 wi_X11_kin ws_X11_kin dL_law_253 rfl (Nat.le_of_ble_eq_true rfl) ⟨by decide, by decide, by decide, by decide⟩) (fun r1 u1 p1 => ?_)
          obtain ⟨rfl, -⟩ := p1
          refine z_aload_n B0 dL_law_256 rfl rfl ?_
          refine z_aload_n B0 dL_law_257 rfl rfl ?_
          refine z_iload_n B0 dL_law_258 rfl rfl ?_
          refine z_iconst (v := 1) B0 dL_law_259 (by decide) ?_
          refine z_iadd (v := 1) B0 dL_law_260 (by decide) ?_
          refine y_sld (j := 1) (v := 1) B0 hX hbl (by decide) e1.symm dL_law_261 ?_
          refine z_aload_n B0 dL_law_262 rfl rfl ?_
          refine z_iload_n B0 dL_law_263 rfl rfl ?_
          refine z_iconst (v := 2) B0 dL_law_264 (by decide) ?_
          refine z_iadd (v := 2) B0 dL_law_265 (by decide) ?_
          refine y_sld (j := 2) (v := 2) B0 hX hbl (by decide) e2.symm dL_law_266 ?_
          refine z_aload_n B0 dL_law_267 rfl rfl ?_
          refine z_iload_n B0 dL_law_268 rfl rfl ?_
          refine z_iconst (v := 3) B0 dL_law_269 (by decide) ?_
          refine z_iadd (v := 3) B0 dL_law_270 (by decide) ?_
          refine y_sld (j := 3) (v := 0) B0 hX hbl (by decide) e3.symm dL_law_271 ?_
          refine z_aload_n B0 dL_law_272 rfl rfl ?_
          refine z_iload_n B0 dL_law_273 rfl rfl ?_
          refine z_iconst (v := 4) B0 dL_law_274 (by decide) ?_
          refine z_iadd (v := 4) B0 dL_law_275 (by decide) ?_
          refine y_sld (j := 4) (v := x4) B0 hX hbl (by decide) e4.symm dL_law_276 ?_
          refine z_if_eq_f (tgt := 284) B0 dL_law_277 (by decide) hb4 ?_
          refine z_iconst (v := 1) B0 dL_law_280 (by decide) ?_
          refine z_goto (tgt := 285) B0 dL_law_281 (by decide) ?_
          refine z_callM B0 (z_runV (q0 := 0) (As := [.int 1, .int 2, .int 0, .int 1]) (st := [.int 1]) B0 (c_X12_kin_50 (a := a2) mS0  rfl rfl rfl rfl rfl rfl rfl rfl rfl rfl rfl rfl rfl rfl rfl rfl rfl rfl rfl rfl rfl rfl rfl rfl rfl rfl) cf_X12_kin (mw_0 cy a2 mS0) rfl wm_L_27 wi_X12_kin ws_X12_kin dL_law_285 rfl (Nat.le_of_ble_eq_true rfl) ⟨by decide, by decide, by decide, by decide⟩) (fun r2 u2 p2 => ?_)
          obtain ⟨rfl, -⟩ := p2
          refine z_icmp_eq_t (tgt := 1091) B0 dL_law_288 (by decide) rfl ?_
          exact fin u1 u2
      · obtain rfl : x3 = 1 := Int32.toInt_inj.mp (h3.trans (by decide))
        by_cases hb4 : x4 = 0
        · refine z_aload_n B0 dL_law_224 rfl rfl ?_
          refine z_aload_n B0 dL_law_225 rfl rfl ?_
          refine z_iload_n B0 dL_law_226 rfl rfl ?_
          refine z_iconst (v := 1) B0 dL_law_227 (by decide) ?_
          refine z_iadd (v := 1) B0 dL_law_228 (by decide) ?_
          refine y_sld (j := 1) (v := 1) B0 hX hbl (by decide) e1.symm dL_law_229 ?_
          refine z_aload_n B0 dL_law_230 rfl rfl ?_
          refine z_iload_n B0 dL_law_231 rfl rfl ?_
          refine z_iconst (v := 2) B0 dL_law_232 (by decide) ?_
          refine z_iadd (v := 2) B0 dL_law_233 (by decide) ?_
          refine y_sld (j := 2) (v := 2) B0 hX hbl (by decide) e2.symm dL_law_234 ?_
          refine z_aload_n B0 dL_law_235 rfl rfl ?_
          refine z_iload_n B0 dL_law_236 rfl rfl ?_
          refine z_iconst (v := 3) B0 dL_law_237 (by decide) ?_
          refine z_iadd (v := 3) B0 dL_law_238 (by decide) ?_
          refine y_sld (j := 3) (v := 1) B0 hX hbl (by decide) e3.symm dL_law_239 ?_
          refine z_aload_n B0 dL_law_240 rfl rfl ?_
          refine z_iload_n B0 dL_law_241 rfl rfl ?_
          refine z_iconst (v := 4) B0 dL_law_242 (by decide) ?_
          refine z_iadd (v := 4) B0 dL_law_243 (by decide) ?_
          refine y_sld (j := 4) (v := x4) B0 hX hbl (by decide) e4.symm dL_law_244 ?_
          refine z_if_eq_t (tgt := 252) B0 dL_law_245 (by decide) hb4 ?_
          refine z_iconst (v := 0) B0 dL_law_252 (by decide) ?_
          refine z_callC B0 (z_runV (q0 := 0) (As := [.int 1, .int 2, .int 1, .int 0]) (st := []) B0 (c_X11_kin_51 (a := a) (cS0 w)  rfl rfl) cf_X11_kin (cw_0 cy tE a rw (cS0 w)) rfl wm_L_23 wi_X11_kin ws_X11_kin dL_law_253 rfl (Nat.le_of_ble_eq_true rfl) ⟨by decide, by decide, by decide, by decide⟩) (fun r1 u1 p1 => ?_)
          obtain ⟨rfl, -⟩ := p1
          refine z_aload_n B0 dL_law_256 rfl rfl ?_
          refine z_aload_n B0 dL_law_257 rfl rfl ?_
          refine z_iload_n B0 dL_law_258 rfl rfl ?_
          refine z_iconst (v := 1) B0 dL_law_259 (by decide) ?_
          refine z_iadd (v := 1) B0 dL_law_260 (by decide) ?_
          refine y_sld (j := 1) (v := 1) B0 hX hbl (by decide) e1.symm dL_law_261 ?_
          refine z_aload_n B0 dL_law_262 rfl rfl ?_
          refine z_iload_n B0 dL_law_263 rfl rfl ?_
          refine z_iconst (v := 2) B0 dL_law_264 (by decide) ?_
          refine z_iadd (v := 2) B0 dL_law_265 (by decide) ?_
          refine y_sld (j := 2) (v := 2) B0 hX hbl (by decide) e2.symm dL_law_266 ?_
          refine z_aload_n B0 dL_law_267 rfl rfl ?_
          refine z_iload_n B0 dL_law_268 rfl rfl ?_
          refine z_iconst (v := 3) B0 dL_law_269 (by decide) ?_
          refine z_iadd (v := 3) B0 dL_law_270 (by decide) ?_
          refine y_sld (j := 3) (v := 1) B0 hX hbl (by decide) e3.symm dL_law_271 ?_
          refine z_aload_n B0 dL_law_272 rfl rfl ?_
          refine z_iload_n B0 dL_law_273 rfl rfl ?_
          refine z_iconst (v := 4) B0 dL_law_274 (by decide) ?_
          refine z_iadd (v := 4) B0 dL_law_275 (by decide) ?_
          refine y_sld (j := 4) (v := x4) B0 hX hbl (by decide) e4.symm dL_law_276 ?_
          refine z_if_eq_t (tgt := 284) B0 dL_law_277 (by decide) hb4 ?_
          refine z_iconst (v := 0) B0 dL_law_284 (by decide) ?_
          refine z_callM B0 (z_runV (q0 := 0) (As := [.int 1, .int 2, .int 1, .int 0]) (st := [.int 1]) B0 (c_X12_kin_51 (a := a2) mS0  rfl rfl rfl rfl rfl rfl rfl rfl rfl rfl rfl rfl rfl rfl rfl rfl rfl rfl rfl rfl rfl rfl rfl rfl rfl rfl) cf_X12_kin (mw_0 cy a2 mS0) rfl wm_L_27 wi_X12_kin ws_X12_kin dL_law_285 rfl (Nat.le_of_ble_eq_true rfl) ⟨by decide, by decide, by decide, by decide⟩) (fun r2 u2 p2 => ?_)
          obtain ⟨rfl, -⟩ := p2
          refine z_icmp_eq_t (tgt := 1091) B0 dL_law_288 (by decide) rfl ?_
          exact fin u1 u2
        · refine z_aload_n B0 dL_law_224 rfl rfl ?_
          refine z_aload_n B0 dL_law_225 rfl rfl ?_
          refine z_iload_n B0 dL_law_226 rfl rfl ?_
          refine z_iconst (v := 1) B0 dL_law_227 (by decide) ?_
          refine z_iadd (v := 1) B0 dL_law_228 (by decide) ?_
          refine y_sld (j := 1) (v := 1) B0 hX hbl (by decide) e1.symm dL_law_229 ?_
          refine z_aload_n B0 dL_law_230 rfl rfl ?_
          refine z_iload_n B0 dL_law_231 rfl rfl ?_
          refine z_iconst (v := 2) B0 dL_law_232 (by decide) ?_
          refine z_iadd (v := 2) B0 dL_law_233 (by decide) ?_
          refine y_sld (j := 2) (v := 2) B0 hX hbl (by decide) e2.symm dL_law_234 ?_
          refine z_aload_n B0 dL_law_235 rfl rfl ?_
          refine z_iload_n B0 dL_law_236 rfl rfl ?_
          refine z_iconst (v := 3) B0 dL_law_237 (by decide) ?_
          refine z_iadd (v := 3) B0 dL_law_238 (by decide) ?_
          refine y_sld (j := 3) (v := 1) B0 hX hbl (by decide) e3.symm dL_law_239 ?_
          refine z_aload_n B0 dL_law_240 rfl rfl ?_
          refine z_iload_n B0 dL_law_241 rfl rfl ?_
          refine z_iconst (v := 4) B0 dL_law_242 (by decide) ?_
          refine z_iadd (v := 4) B0 dL_law_243 (by decide) ?_
          refine y_sld (j := 4) (v := x4) B0 hX hbl (by decide) e4.symm dL_law_244 ?_
          refine z_if_eq_f (tgt := 252) B0 dL_law_245 (by decide) hb4 ?_
          refine z_iconst (v := 1) B0 dL_law_248 (by decide) ?_
          refine z_goto (tgt := 253) B0 dL_law_249 (by decide) ?_
          refine z_callC B0 (z_runV (q0 := 0) (As := [.int 1, .int 2, .int 1, .int 1]) (st := []) B0 (c_X11_kin_52 (a := a) (cS0 w)  rfl) cf_X11_kin (cw_0 cy tE a rw (cS0 w)) rfl wm_L_23 wi_X11_kin ws_X11_kin dL_law_253 rfl (Nat.le_of_ble_eq_true rfl) ⟨by decide, by decide, by decide, by decide⟩) (fun r1 u1 p1 => ?_)
          obtain ⟨rfl, -⟩ := p1
          refine z_aload_n B0 dL_law_256 rfl rfl ?_
          refine z_aload_n B0 dL_law_257 rfl rfl ?_
          refine z_iload_n B0 dL_law_258 rfl rfl ?_
          refine z_iconst (v := 1) B0 dL_law_259 (by decide) ?_
          refine z_iadd (v := 1) B0 dL_law_260 (by decide) ?_
          refine y_sld (j := 1) (v := 1) B0 hX hbl (by decide) e1.symm dL_law_261 ?_
          refine z_aload_n B0 dL_law_262 rfl rfl ?_
          refine z_iload_n B0 dL_law_263 rfl rfl ?_
          refine z_iconst (v := 2) B0 dL_law_264 (by decide) ?_
          refine z_iadd (v := 2) B0 dL_law_265 (by decide) ?_
          refine y_sld (j := 2) (v := 2) B0 hX hbl (by decide) e2.symm dL_law_266 ?_
          refine z_aload_n B0 dL_law_267 rfl rfl ?_
          refine z_iload_n B0 dL_law_268 rfl rfl ?_
          refine z_iconst (v := 3) B0 dL_law_269 (by decide) ?_
          refine z_iadd (v := 3) B0 dL_law_270 (by decide) ?_
          refine y_sld (j := 3) (v := 1) B0 hX hbl (by decide) e3.symm dL_law_271 ?_
          refine z_aload_n B0 dL_law_272 rfl rfl ?_
          refine z_iload_n B0 dL_law_273 rfl rfl ?_
          refine z_iconst (v := 4) B0 dL_law_274 (by decide) ?_
          refine z_iadd (v := 4) B0 dL_law_275 (by decide) ?_
          refine y_sld (j := 4) (v := x4) B0 hX hbl (by decide) e4.symm dL_law_276 ?_
          refine z_if_eq_f (tgt := 284) B0 dL_law_277 (by decide) hb4 ?_
          refine z_iconst (v := 1) B0 dL_law_280 (by decide) ?_
          refine z_goto (tgt := 285) B0 dL_law_281 (by decide) ?_
          refine z_callM B0 (z_runV (q0 := 0) (As := [.int 1, .int 2, .int 1, .int 1]) (st := [.int 1]) B0 (c_X12_kin_52 (a := a2) mS0  rfl rfl rfl rfl rfl rfl rfl rfl rfl rfl rfl rfl rfl rfl rfl rfl rfl rfl rfl rfl rfl rfl rfl rfl rfl rfl) cf_X12_kin (mw_0 cy a2 mS0) rfl wm_L_27 wi_X12_kin ws_X12_kin dL_law_285 rfl (Nat.le_of_ble_eq_true rfl) ⟨by decide, by decide, by decide, by decide⟩) (fun r2 u2 p2 => ?_)
          obtain ⟨rfl, -⟩ := p2
          refine z_icmp_eq_t (tgt := 1091) B0 dL_law_288 (by decide) rfl ?_
          exact fin u1 u2
      · by_cases hb4 : x4 = 0
        · refine z_aload_n B0 dL_law_224 rfl rfl ?_
          refine z_aload_n B0 dL_law_225 rfl rfl ?_
          refine z_iload_n B0 dL_law_226 rfl rfl ?_
          refine z_iconst (v := 1) B0 dL_law_227 (by decide) ?_
          refine z_iadd (v := 1) B0 dL_law_228 (by decide) ?_
          refine y_sld (j := 1) (v := 1) B0 hX hbl (by decide) e1.symm dL_law_229 ?_
          refine z_aload_n B0 dL_law_230 rfl rfl ?_
          refine z_iload_n B0 dL_law_231 rfl rfl ?_
          refine z_iconst (v := 2) B0 dL_law_232 (by decide) ?_
          refine z_iadd (v := 2) B0 dL_law_233 (by decide) ?_
          refine y_sld (j := 2) (v := 2) B0 hX hbl (by decide) e2.symm dL_law_234 ?_
          refine z_aload_n B0 dL_law_235 rfl rfl ?_
          refine z_iload_n B0 dL_law_236 rfl rfl ?_
          refine z_iconst (v := 3) B0 dL_law_237 (by decide) ?_
          refine z_iadd (v := 3) B0 dL_law_238 (by decide) ?_
          refine y_sld (j := 3) (v := x3) B0 hX hbl (by decide) e3.symm dL_law_239 ?_
          refine z_aload_n B0 dL_law_240 rfl rfl ?_
          refine z_iload_n B0 dL_law_241 rfl rfl ?_
          refine z_iconst (v := 4) B0 dL_law_242 (by decide) ?_
          refine z_iadd (v := 4) B0 dL_law_243 (by decide) ?_
          refine y_sld (j := 4) (v := x4) B0 hX hbl (by decide) e4.symm dL_law_244 ?_
          refine z_if_eq_t (tgt := 252) B0 dL_law_245 (by decide) hb4 ?_
          refine z_iconst (v := 0) B0 dL_law_252 (by decide) ?_
          refine z_callC B0 (z_runV (q0 := 0) (As := [.int 1, .int 2, .int x3, .int 0]) (st := []) B0 (c_X11_kin_53 (a := a) (cS0 w) x3 ⟨by omega, by omega⟩) cf_X11_kin (cw_0 cy tE a rw (cS0 w)) rfl wm_L_23 wi_X11_kin ws_X11_kin dL_law_253 rfl (Nat.le_of_ble_eq_true rfl) ⟨by decide, by decide, by decide, by decide⟩) (fun r1 u1 p1 => ?_)
          obtain ⟨rfl, -⟩ := p1
          refine z_aload_n B0 dL_law_256 rfl rfl ?_
          refine z_aload_n B0 dL_law_257 rfl rfl ?_
          refine z_iload_n B0 dL_law_258 rfl rfl ?_
          refine z_iconst (v := 1) B0 dL_law_259 (by decide) ?_
          refine z_iadd (v := 1) B0 dL_law_260 (by decide) ?_
          refine y_sld (j := 1) (v := 1) B0 hX hbl (by decide) e1.symm dL_law_261 ?_
          refine z_aload_n B0 dL_law_262 rfl rfl ?_
          refine z_iload_n B0 dL_law_263 rfl rfl ?_
          refine z_iconst (v := 2) B0 dL_law_264 (by decide) ?_
          refine z_iadd (v := 2) B0 dL_law_265 (by decide) ?_
          refine y_sld (j := 2) (v := 2) B0 hX hbl (by decide) e2.symm dL_law_266 ?_
          refine z_aload_n B0 dL_law_267 rfl rfl ?_
          refine z_iload_n B0 dL_law_268 rfl rfl ?_
          refine z_iconst (v := 3) B0 dL_law_269 (by decide) ?_
          refine z_iadd (v := 3) B0 dL_law_270 (by decide) ?_
          refine y_sld (j := 3) (v := x3) B0 hX hbl (by decide) e3.symm dL_law_271 ?_
          refine z_aload_n B0 dL_law_272 rfl rfl ?_
          refine z_iload_n B0 dL_law_273 rfl rfl ?_
          refine z_iconst (v := 4) B0 dL_law_274 (by decide) ?_
          refine z_iadd (v := 4) B0 dL_law_275 (by decide) ?_
          refine y_sld (j := 4) (v := x4) B0 hX hbl (by decide) e4.symm dL_law_276 ?_
          refine z_if_eq_t (tgt := 284) B0 dL_law_277 (by decide) hb4 ?_
          refine z_iconst (v := 0) B0 dL_law_284 (by decide) ?_
          refine z_callM B0 (z_runV (q0 := 0) (As := [.int 1, .int 2, .int x3, .int 0]) (st := [.int 0]) B0 (c_X12_kin_53 (a := a2) mS0 x3 ⟨by omega, by omega⟩) cf_X12_kin (mw_0 cy a2 mS0) rfl wm_L_27 wi_X12_kin ws_X12_kin dL_law_285 rfl (Nat.le_of_ble_eq_true rfl) ⟨by decide, by decide, by decide, by decide⟩) (fun r2 u2 p2 => ?_)
          obtain ⟨rfl, -⟩ := p2
          refine z_icmp_eq_t (tgt := 1091) B0 dL_law_288 (by decide) rfl ?_
          exact fin u1 u2
        · refine z_aload_n B0 dL_law_224 rfl rfl ?_
          refine z_aload_n B0 dL_law_225 rfl rfl ?_
          refine z_iload_n B0 dL_law_226 rfl rfl ?_
          refine z_iconst (v := 1) B0 dL_law_227 (by decide) ?_
          refine z_iadd (v := 1) B0 dL_law_228 (by decide) ?_
          refine y_sld (j := 1) (v := 1) B0 hX hbl (by decide) e1.symm dL_law_229 ?_
          refine z_aload_n B0 dL_law_230 rfl rfl ?_
          refine z_iload_n B0 dL_law_231 rfl rfl ?_
          refine z_iconst (v := 2) B0 dL_law_232 (by decide) ?_
          refine z_iadd (v := 2) B0 dL_law_233 (by decide) ?_
          refine y_sld (j := 2) (v := 2) B0 hX hbl (by decide) e2.symm dL_law_234 ?_
          refine z_aload_n B0 dL_law_235 rfl rfl ?_
          refine z_iload_n B0 dL_law_236 rfl rfl ?_
          refine z_iconst (v := 3) B0 dL_law_237 (by decide) ?_
          refine z_iadd (v := 3) B0 dL_law_238 (by decide) ?_
          refine y_sld (j := 3) (v := x3) B0 hX hbl (by decide) e3.symm dL_law_239 ?_
          refine z_aload_n B0 dL_law_240 rfl rfl ?_
          refine z_iload_n B0 dL_law_241 rfl rfl ?_
          refine z_iconst (v := 4) B0 dL_law_242 (by decide) ?_
          refine z_iadd (v := 4) B0 dL_law_243 (by decide) ?_
          refine y_sld (j := 4) (v := x4) B0 hX hbl (by decide) e4.symm dL_law_244 ?_
          refine z_if_eq_f (tgt := 252) B0 dL_law_245 (by decide) hb4 ?_
          refine z_iconst (v := 1) B0 dL_law_248 (by decide) ?_
          refine z_goto (tgt := 253) B0 dL_law_249 (by decide) ?_
          refine z_callC B0 (z_runV (q0 := 0) (As := [.int 1, .int 2, .int x3, .int 1]) (st := []) B0 (c_X11_kin_54 (a := a) (cS0 w) x3 ⟨by omega, by omega⟩) cf_X11_kin (cw_0 cy tE a rw (cS0 w)) rfl wm_L_23 wi_X11_kin ws_X11_kin dL_law_253 rfl (Nat.le_of_ble_eq_true rfl) ⟨by decide, by decide, by decide, by decide⟩) (fun r1 u1 p1 => ?_)
          obtain ⟨rfl, -⟩ := p1
          refine z_aload_n B0 dL_law_256 rfl rfl ?_
          refine z_aload_n B0 dL_law_257 rfl rfl ?_
          refine z_iload_n B0 dL_law_258 rfl rfl ?_
          refine z_iconst (v := 1) B0 dL_law_259 (by decide) ?_
          refine z_iadd (v := 1) B0 dL_law_260 (by decide) ?_
          refine y_sld (j := 1) (v := 1) B0 hX hbl (by decide) e1.symm dL_law_261 ?_
          refine z_aload_n B0 dL_law_262 rfl rfl ?_
          refine z_iload_n B0 dL_law_263 rfl rfl ?_
          refine z_iconst (v := 2) B0 dL_law_264 (by decide) ?_
          refine z_iadd (v := 2) B0 dL_law_265 (by decide) ?_
          refine y_sld (j := 2) (v := 2) B0 hX hbl (by decide) e2.symm dL_law_266 ?_
          refine z_aload_n B0 dL_law_267 rfl rfl ?_
          refine z_iload_n B0 dL_law_268 rfl rfl ?_
          refine z_iconst (v := 3) B0 dL_law_269 (by decide) ?_
          refine z_iadd (v := 3) B0 dL_law_270 (by decide) ?_
          refine y_sld (j := 3) (v := x3) B0 hX hbl (by decide) e3.symm dL_law_271 ?_
          refine z_aload_n B0 dL_law_272 rfl rfl ?_
          refine z_iload_n B0 dL_law_273 rfl rfl ?_
          refine z_iconst (v := 4) B0 dL_law_274 (by decide) ?_
          refine z_iadd (v := 4) B0 dL_law_275 (by decide) ?_
          refine y_sld (j := 4) (v := x4) B0 hX hbl (by decide) e4.symm dL_law_276 ?_
          refine z_if_eq_f (tgt := 284) B0 dL_law_277 (by decide) hb4 ?_
          refine z_iconst (v := 1) B0 dL_law_280 (by decide) ?_
          refine z_goto (tgt := 285) B0 dL_law_281 (by decide) ?_
          refine z_callM B0 (z_runV (q0 := 0) (As := [.int 1, .int 2, .int x3, .int 1]) (st := [.int 0]) B0 (c_X12_kin_54 (a := a2) mS0 x3 ⟨by omega, by omega⟩) cf_X12_kin (mw_0 cy a2 mS0) rfl wm_L_27 wi_X12_kin ws_X12_kin dL_law_285 rfl (Nat.le_of_ble_eq_true rfl) ⟨by decide, by decide, by decide, by decide⟩) (fun r2 u2 p2 => ?_)
          obtain ⟨rfl, -⟩ := p2
          refine z_icmp_eq_t (tgt := 1091) B0 dL_law_288 (by decide) rfl ?_
          exact fin u1 u2
    · by_cases hb4 : x4 = 0
      · refine z_aload_n B0 dL_law_224 rfl rfl ?_
        refine z_aload_n B0 dL_law_225 rfl rfl ?_
        refine z_iload_n B0 dL_law_226 rfl rfl ?_
        refine z_iconst (v := 1) B0 dL_law_227 (by decide) ?_
        refine z_iadd (v := 1) B0 dL_law_228 (by decide) ?_
        refine y_sld (j := 1) (v := 1) B0 hX hbl (by decide) e1.symm dL_law_229 ?_
        refine z_aload_n B0 dL_law_230 rfl rfl ?_
        refine z_iload_n B0 dL_law_231 rfl rfl ?_
        refine z_iconst (v := 2) B0 dL_law_232 (by decide) ?_
        refine z_iadd (v := 2) B0 dL_law_233 (by decide) ?_
        refine y_sld (j := 2) (v := x2) B0 hX hbl (by decide) e2.symm dL_law_234 ?_
        refine z_aload_n B0 dL_law_235 rfl rfl ?_
        refine z_iload_n B0 dL_law_236 rfl rfl ?_
        refine z_iconst (v := 3) B0 dL_law_237 (by decide) ?_
        refine z_iadd (v := 3) B0 dL_law_238 (by decide) ?_
        refine y_sld (j := 3) (v := x3) B0 hX hbl (by decide) e3.symm dL_law_239 ?_
        refine z_aload_n B0 dL_law_240 rfl rfl ?_
        refine z_iload_n B0 dL_law_241 rfl rfl ?_
        refine z_iconst (v := 4) B0 dL_law_242 (by decide) ?_
        refine z_iadd (v := 4) B0 dL_law_243 (by decide) ?_
        refine y_sld (j := 4) (v := x4) B0 hX hbl (by decide) e4.symm dL_law_244 ?_
        refine z_if_eq_t (tgt := 252) B0 dL_law_245 (by decide) hb4 ?_
        refine z_iconst (v := 0) B0 dL_law_252 (by decide) ?_
        refine z_callC B0 (z_runV (q0 := 0) (As := [.int 1, .int x2, .int x3, .int 0]) (st := []) B0 (c_X11_kin_13 (a := a) (cS0 w) x2 x3 ⟨by omega, by omega⟩) cf_X11_kin (cw_0 cy tE a rw (cS0 w)) rfl wm_L_23 wi_X11_kin ws_X11_kin dL_law_253 rfl (Nat.le_of_ble_eq_true rfl) ⟨by decide, by decide, by decide, by decide⟩) (fun r1 u1 p1 => ?_)
        obtain ⟨rfl, -⟩ := p1
        refine z_aload_n B0 dL_law_256 rfl rfl ?_
        refine z_aload_n B0 dL_law_257 rfl rfl ?_
        refine z_iload_n B0 dL_law_258 rfl rfl ?_
        refine z_iconst (v := 1) B0 dL_law_259 (by decide) ?_
        refine z_iadd (v := 1) B0 dL_law_260 (by decide) ?_
        refine y_sld (j := 1) (v := 1) B0 hX hbl (by decide) e1.symm dL_law_261 ?_
        refine z_aload_n B0 dL_law_262 rfl rfl ?_
        refine z_iload_n B0 dL_law_263 rfl rfl ?_
        refine z_iconst (v := 2) B0 dL_law_264 (by decide) ?_
        refine z_iadd (v := 2) B0 dL_law_265 (by decide) ?_
        refine y_sld (j := 2) (v := x2) B0 hX hbl (by decide) e2.symm dL_law_266 ?_
        refine z_aload_n B0 dL_law_267 rfl rfl ?_
        refine z_iload_n B0 dL_law_268 rfl rfl ?_
        refine z_iconst (v := 3) B0 dL_law_269 (by decide) ?_
        refine z_iadd (v := 3) B0 dL_law_270 (by decide) ?_
        refine y_sld (j := 3) (v := x3) B0 hX hbl (by decide) e3.symm dL_law_271 ?_
        refine z_aload_n B0 dL_law_272 rfl rfl ?_
        refine z_iload_n B0 dL_law_273 rfl rfl ?_
        refine z_iconst (v := 4) B0 dL_law_274 (by decide) ?_
        refine z_iadd (v := 4) B0 dL_law_275 (by decide) ?_
        refine y_sld (j := 4) (v := x4) B0 hX hbl (by decide) e4.symm dL_law_276 ?_
        refine z_if_eq_t (tgt := 284) B0 dL_law_277 (by decide) hb4 ?_
        refine z_iconst (v := 0) B0 dL_law_284 (by decide) ?_
        refine z_callM B0 (z_runV (q0 := 0) (As := [.int 1, .int x2, .int x3, .int 0]) (st := [.int 0]) B0 (c_X12_kin_13 (a := a2) mS0 x2 x3 ⟨by omega, by omega⟩) cf_X12_kin (mw_0 cy a2 mS0) rfl wm_L_27 wi_X12_kin ws_X12_kin dL_law_285 rfl (Nat.le_of_ble_eq_true rfl) ⟨by decide, by decide, by decide, by decide⟩) (fun r2 u2 p2 => ?_)
        obtain ⟨rfl, -⟩ := p2
        refine z_icmp_eq_t (tgt := 1091) B0 dL_law_288 (by decide) rfl ?_
        exact fin u1 u2
      · refine z_aload_n B0 dL_law_224 rfl rfl ?_
        refine z_aload_n B0 dL_law_225 rfl rfl ?_
        refine z_iload_n B0 dL_law_226 rfl rfl ?_
        refine z_iconst (v := 1) B0 dL_law_227 (by decide) ?_
        refine z_iadd (v := 1) B0 dL_law_228 (by decide) ?_
        refine y_sld (j := 1) (v := 1) B0 hX hbl (by decide) e1.symm dL_law_229 ?_
        refine z_aload_n B0 dL_law_230 rfl rfl ?_
        refine z_iload_n B0 dL_law_231 rfl rfl ?_
        refine z_iconst (v := 2) B0 dL_law_232 (by decide) ?_
        refine z_iadd (v := 2) B0 dL_law_233 (by decide) ?_
        refine y_sld (j := 2) (v := x2) B0 hX hbl (by decide) e2.symm dL_law_234 ?_
        refine z_aload_n B0 dL_law_235 rfl rfl ?_
        refine z_iload_n B0 dL_law_236 rfl rfl ?_
        refine z_iconst (v := 3) B0 dL_law_237 (by decide) ?_
        refine z_iadd (v := 3) B0 dL_law_238 (by decide) ?_
        refine y_sld (j := 3) (v := x3) B0 hX hbl (by decide) e3.symm dL_law_239 ?_
        refine z_aload_n B0 dL_law_240 rfl rfl ?_
        refine z_iload_n B0 dL_law_241 rfl rfl ?_
        refine z_iconst (v := 4) B0 dL_law_242 (by decide) ?_
        refine z_iadd (v := 4) B0 dL_law_243 (by decide) ?_
        refine y_sld (j := 4) (v := x4) B0 hX hbl (by decide) e4.symm dL_law_244 ?_
        refine z_if_eq_f (tgt := 252) B0 dL_law_245 (by decide) hb4 ?_
        refine z_iconst (v := 1) B0 dL_law_248 (by decide) ?_
        refine z_goto (tgt := 253) B0 dL_law_249 (by decide) ?_
        refine z_callC B0 (z_runV (q0 := 0) (As := [.int 1, .int x2, .int x3, .int 1]) (st := []) B0 (c_X11_kin_14 (a := a) (cS0 w) x2 x3 ⟨by omega, by omega⟩) cf_X11_kin (cw_0 cy tE a rw (cS0 w)) rfl wm_L_23 wi_X11_kin ws_X11_kin dL_law_253 rfl (Nat.le_of_ble_eq_true rfl) ⟨by decide, by decide, by decide, by decide⟩) (fun r1 u1 p1 => ?_)
        obtain ⟨rfl, -⟩ := p1
        refine z_aload_n B0 dL_law_256 rfl rfl ?_
        refine z_aload_n B0 dL_law_257 rfl rfl ?_
        refine z_iload_n B0 dL_law_258 rfl rfl ?_
        refine z_iconst (v := 1) B0 dL_law_259 (by decide) ?_
        refine z_iadd (v := 1) B0 dL_law_260 (by decide) ?_
        refine y_sld (j := 1) (v := 1) B0 hX hbl (by decide) e1.symm dL_law_261 ?_
        refine z_aload_n B0 dL_law_262 rfl rfl ?_
        refine z_iload_n B0 dL_law_263 rfl rfl ?_
        refine z_iconst (v := 2) B0 dL_law_264 (by decide) ?_
        refine z_iadd (v := 2) B0 dL_law_265 (by decide) ?_
        refine y_sld (j := 2) (v := x2) B0 hX hbl (by decide) e2.symm dL_law_266 ?_
        refine z_aload_n B0 dL_law_267 rfl rfl ?_
        refine z_iload_n B0 dL_law_268 rfl rfl ?_
        refine z_iconst (v := 3) B0 dL_law_269 (by decide) ?_
        refine z_iadd (v := 3) B0 dL_law_270 (by decide) ?_
        refine y_sld (j := 3) (v := x3) B0 hX hbl (by decide) e3.symm dL_law_271 ?_
        refine z_aload_n B0 dL_law_272 rfl rfl ?_
        refine z_iload_n B0 dL_law_273 rfl rfl ?_
        refine z_iconst (v := 4) B0 dL_law_274 (by decide) ?_
        refine z_iadd (v := 4) B0 dL_law_275 (by decide) ?_
        refine y_sld (j := 4) (v := x4) B0 hX hbl (by decide) e4.symm dL_law_276 ?_
        refine z_if_eq_f (tgt := 284) B0 dL_law_277 (by decide) hb4 ?_
        refine z_iconst (v := 1) B0 dL_law_280 (by decide) ?_
        refine z_goto (tgt := 285) B0 dL_law_281 (by decide) ?_
        refine z_callM B0 (z_runV (q0 := 0) (As := [.int 1, .int x2, .int x3, .int 1]) (st := [.int 0]) B0 (c_X12_kin_14 (a := a2) mS0 x2 x3 ⟨by omega, by omega⟩) cf_X12_kin (mw_0 cy a2 mS0) rfl wm_L_27 wi_X12_kin ws_X12_kin dL_law_285 rfl (Nat.le_of_ble_eq_true rfl) ⟨by decide, by decide, by decide, by decide⟩) (fun r2 u2 p2 => ?_)
        obtain ⟨rfl, -⟩ := p2
        refine z_icmp_eq_t (tgt := 1091) B0 dL_law_288 (by decide) rfl ?_
        exact fin u1 u2
  · obtain rfl : x1 = 2 := Int32.toInt_inj.mp (h1.trans (by decide))
    rcases (show ((-2147483648) ≤ x2.toInt ∧ x2.toInt ≤ (-1)) ∨ x2.toInt = 0 ∨ x2.toInt = 1 ∨ x2.toInt = 2 ∨ (3 ≤ x2.toInt ∧ x2.toInt ≤ 2147483647) by have g1 := Int32.le_toInt x2; have g2 := Int32.toInt_lt x2; omega) with h2 | h2 | h2 | h2 | h2
    · by_cases hb4 : x4 = 0
      · refine z_aload_n B0 dL_law_224 rfl rfl ?_
        refine z_aload_n B0 dL_law_225 rfl rfl ?_
        refine z_iload_n B0 dL_law_226 rfl rfl ?_
        refine z_iconst (v := 1) B0 dL_law_227 (by decide) ?_
        refine z_iadd (v := 1) B0 dL_law_228 (by decide) ?_
        refine y_sld (j := 1) (v := 2) B0 hX hbl (by decide) e1.symm dL_law_229 ?_
        refine z_aload_n B0 dL_law_230 rfl rfl ?_
        refine z_iload_n B0 dL_law_231 rfl rfl ?_
        refine z_iconst (v := 2) B0 dL_law_232 (by decide) ?_
        refine z_iadd (v := 2) B0 dL_law_233 (by decide) ?_
        refine y_sld (j := 2) (v := x2) B0 hX hbl (by decide) e2.symm dL_law_234 ?_
        refine z_aload_n B0 dL_law_235 rfl rfl ?_
        refine z_iload_n B0 dL_law_236 rfl rfl ?_
        refine z_iconst (v := 3) B0 dL_law_237 (by decide) ?_
        refine z_iadd (v := 3) B0 dL_law_238 (by decide) ?_
        refine y_sld (j := 3) (v := x3) B0 hX hbl (by decide) e3.symm dL_law_239 ?_
        refine z_aload_n B0 dL_law_240 rfl rfl ?_
        refine z_iload_n B0 dL_law_241 rfl rfl ?_
        refine z_iconst (v := 4) B0 dL_law_242 (by decide) ?_
        refine z_iadd (v := 4) B0 dL_law_243 (by decide) ?_
        refine y_sld (j := 4) (v := x4) B0 hX hbl (by decide) e4.symm dL_law_244 ?_
        refine z_if_eq_t (tgt := 252) B0 dL_law_245 (by decide) hb4 ?_
        refine z_iconst (v := 0) B0 dL_law_252 (by decide) ?_
        refine z_callC B0 (z_runV (q0 := 0) (As := [.int 2, .int x2, .int x3, .int 0]) (st := []) B0 (c_X11_kin_17 (a := a) (cS0 w) x2 x3 ⟨by omega, by omega⟩) cf_X11_kin (cw_0 cy tE a rw (cS0 w)) rfl wm_L_23 wi_X11_kin ws_X11_kin dL_law_253 rfl (Nat.le_of_ble_eq_true rfl) ⟨by decide, by decide, by decide, by decide⟩) (fun r1 u1 p1 => ?_)
        obtain ⟨rfl, -⟩ := p1
        refine z_aload_n B0 dL_law_256 rfl rfl ?_
        refine z_aload_n B0 dL_law_257 rfl rfl ?_
        refine z_iload_n B0 dL_law_258 rfl rfl ?_
        refine z_iconst (v := 1) B0 dL_law_259 (by decide) ?_
        refine z_iadd (v := 1) B0 dL_law_260 (by decide) ?_
        refine y_sld (j := 1) (v := 2) B0 hX hbl (by decide) e1.symm dL_law_261 ?_
        refine z_aload_n B0 dL_law_262 rfl rfl ?_
        refine z_iload_n B0 dL_law_263 rfl rfl ?_
        refine z_iconst (v := 2) B0 dL_law_264 (by decide) ?_
        refine z_iadd (v := 2) B0 dL_law_265 (by decide) ?_
        refine y_sld (j := 2) (v := x2) B0 hX hbl (by decide) e2.symm dL_law_266 ?_
        refine z_aload_n B0 dL_law_267 rfl rfl ?_
        refine z_iload_n B0 dL_law_268 rfl rfl ?_
        refine z_iconst (v := 3) B0 dL_law_269 (by decide) ?_
        refine z_iadd (v := 3) B0 dL_law_270 (by decide) ?_
        refine y_sld (j := 3) (v := x3) B0 hX hbl (by decide) e3.symm dL_law_271 ?_
        refine z_aload_n B0 dL_law_272 rfl rfl ?_
        refine z_iload_n B0 dL_law_273 rfl rfl ?_
        refine z_iconst (v := 4) B0 dL_law_274 (by decide) ?_
        refine z_iadd (v := 4) B0 dL_law_275 (by decide) ?_
        refine y_sld (j := 4) (v := x4) B0 hX hbl (by decide) e4.symm dL_law_276 ?_
        refine z_if_eq_t (tgt := 284) B0 dL_law_277 (by decide) hb4 ?_
        refine z_iconst (v := 0) B0 dL_law_284 (by decide) ?_
        refine z_callM B0 (z_runV (q0 := 0) (As := [.int 2, .int x2, .int x3, .int 0]) (st := [.int 0]) B0 (c_X12_kin_17 (a := a2) mS0 x2 x3 ⟨by omega, by omega⟩) cf_X12_kin (mw_0 cy a2 mS0) rfl wm_L_27 wi_X12_kin ws_X12_kin dL_law_285 rfl (Nat.le_of_ble_eq_true rfl) ⟨by decide, by decide, by decide, by decide⟩) (fun r2 u2 p2 => ?_)
        obtain ⟨rfl, -⟩ := p2
        refine z_icmp_eq_t (tgt := 1091) B0 dL_law_288 (by decide) rfl ?_
        exact fin u1 u2
      · refine z_aload_n B0 dL_law_224 rfl rfl ?_
        refine z_aload_n B0 dL_law_225 rfl rfl ?_
        refine z_iload_n B0 dL_law_226 rfl rfl ?_
        refine z_iconst (v := 1) B0 dL_law_227 (by decide) ?_
        refine z_iadd (v := 1) B0 dL_law_228 (by decide) ?_
        refine y_sld (j := 1) (v := 2) B0 hX hbl (by decide) e1.symm dL_law_229 ?_
        refine z_aload_n B0 dL_law_230 rfl rfl ?_
        refine z_iload_n B0 dL_law_231 rfl rfl ?_
        refine z_iconst (v := 2) B0 dL_law_232 (by decide) ?_
        refine z_iadd (v := 2) B0 dL_law_233 (by decide) ?_
        refine y_sld (j := 2) (v := x2) B0 hX hbl (by decide) e2.symm dL_law_234 ?_
        refine z_aload_n B0 dL_law_235 rfl rfl ?_
        refine z_iload_n B0 dL_law_236 rfl rfl ?_
        refine z_iconst (v := 3) B0 dL_law_237 (by decide) ?_
        refine z_iadd (v := 3) B0 dL_law_238 (by decide) ?_
        refine y_sld (j := 3) (v := x3) B0 hX hbl (by decide) e3.symm dL_law_239 ?_
        refine z_aload_n B0 dL_law_240 rfl rfl ?_
        refine z_iload_n B0 dL_law_241 rfl rfl ?_
        refine z_iconst (v := 4) B0 dL_law_242 (by decide) ?_
        refine z_iadd (v := 4) B0 dL_law_243 (by decide) ?_
        refine y_sld (j := 4) (v := x4) B0 hX hbl (by decide) e4.symm dL_law_244 ?_
        refine z_if_eq_f (tgt := 252) B0 dL_law_245 (by decide) hb4 ?_
        refine z_iconst (v := 1) B0 dL_law_248 (by decide) ?_
        refine z_goto (tgt := 253) B0 dL_law_249 (by decide) ?_
        refine z_callC B0 (z_runV (q0 := 0) (As := [.int 2, .int x2, .int x3, .int 1]) (st := []) B0 (c_X11_kin_18 (a := a) (cS0 w) x2 x3 ⟨by omega, by omega⟩) cf_X11_kin (cw_0 cy tE a rw (cS0 w)) rfl wm_L_23 wi_X11_kin ws_X11_kin dL_law_253 rfl (Nat.le_of_ble_eq_true rfl) ⟨by decide, by decide, by decide, by decide⟩) (fun r1 u1 p1 => ?_)
        obtain ⟨rfl, -⟩ := p1
        refine z_aload_n B0 dL_law_256 rfl rfl ?_
        refine z_aload_n B0 dL_law_257 rfl rfl ?_
        refine z_iload_n B0 dL_law_258 rfl rfl ?_
        refine z_iconst (v := 1) B0 dL_law_259 (by decide) ?_
        refine z_iadd (v := 1) B0 dL_law_260 (by decide) ?_
        refine y_sld (j := 1) (v := 2) B0 hX hbl (by decide) e1.symm dL_law_261 ?_
        refine z_aload_n B0 dL_law_262 rfl rfl ?_
        refine z_iload_n B0 dL_law_263 rfl rfl ?_
        refine z_iconst (v := 2) B0 dL_law_264 (by decide) ?_
        refine z_iadd (v := 2) B0 dL_law_265 (by decide) ?_
        refine y_sld (j := 2) (v := x2) B0 hX hbl (by decide) e2.symm dL_law_266 ?_
        refine z_aload_n B0 dL_law_267 rfl rfl ?_
        refine z_iload_n B0 dL_law_268 rfl rfl ?_
        refine z_iconst (v := 3) B0 dL_law_269 (by decide) ?_
        refine z_iadd (v := 3) B0 dL_law_270 (by decide) ?_
        refine y_sld (j := 3) (v := x3) B0 hX hbl (by decide) e3.symm dL_law_271 ?_
        refine z_aload_n B0 dL_law_272 rfl rfl ?_
        refine z_iload_n B0 dL_law_273 rfl rfl ?_
        refine z_iconst (v := 4) B0 dL_law_274 (by decide) ?_
        refine z_iadd (v := 4) B0 dL_law_275 (by decide) ?_
        refine y_sld (j := 4) (v := x4) B0 hX hbl (by decide) e4.symm dL_law_276 ?_
        refine z_if_eq_f (tgt := 284) B0 dL_law_277 (by decide) hb4 ?_
        refine z_iconst (v := 1) B0 dL_law_280 (by decide) ?_
        refine z_goto (tgt := 285) B0 dL_law_281 (by decide) ?_
        refine z_callM B0 (z_runV (q0 := 0) (As := [.int 2, .int x2, .int x3, .int 1]) (st := [.int 0]) B0 (c_X12_kin_18 (a := a2) mS0 x2 x3 ⟨by omega, by omega⟩) cf_X12_kin (mw_0 cy a2 mS0) rfl wm_L_27 wi_X12_kin ws_X12_kin dL_law_285 rfl (Nat.le_of_ble_eq_true rfl) ⟨by decide, by decide, by decide, by decide⟩) (fun r2 u2 p2 => ?_)
        obtain ⟨rfl, -⟩ := p2
        refine z_icmp_eq_t (tgt := 1091) B0 dL_law_288 (by decide) rfl ?_
        exact fin u1 u2
    · obtain rfl : x2 = 0 := Int32.toInt_inj.mp (h2.trans (by decide))
      rcases (show ((-2147483648) ≤ x3.toInt ∧ x3.toInt ≤ (-1)) ∨ x3.toInt = 0 ∨ x3.toInt = 1 ∨ (2 ≤ x3.toInt ∧ x3.toInt ≤ 2147483647) by have g1 := Int32.le_toInt x3; have g2 := Int32.toInt_lt x3; omega) with h3 | h3 | h3 | h3
      · by_cases hb4 : x4 = 0
        · refine z_aload_n B0 dL_law_224 rfl rfl ?_
          refine z_aload_n B0 dL_law_225 rfl rfl ?_
          refine z_iload_n B0 dL_law_226 rfl rfl ?_
          refine z_iconst (v := 1) B0 dL_law_227 (by decide) ?_
          refine z_iadd (v := 1) B0 dL_law_228 (by decide) ?_
          refine y_sld (j := 1) (v := 2) B0 hX hbl (by decide) e1.symm dL_law_229 ?_
          refine z_aload_n B0 dL_law_230 rfl rfl ?_
          refine z_iload_n B0 dL_law_231 rfl rfl ?_
          refine z_iconst (v := 2) B0 dL_law_232 (by decide) ?_
          refine z_iadd (v := 2) B0 dL_law_233 (by decide) ?_
          refine y_sld (j := 2) (v := 0) B0 hX hbl (by decide) e2.symm dL_law_234 ?_
          refine z_aload_n B0 dL_law_235 rfl rfl ?_
          refine z_iload_n B0 dL_law_236 rfl rfl ?_
          refine z_iconst (v := 3) B0 dL_law_237 (by decide) ?_
          refine z_iadd (v := 3) B0 dL_law_238 (by decide) ?_
          refine y_sld (j := 3) (v := x3) B0 hX hbl (by decide) e3.symm dL_law_239 ?_
          refine z_aload_n B0 dL_law_240 rfl rfl ?_
          refine z_iload_n B0 dL_law_241 rfl rfl ?_
          refine z_iconst (v := 4) B0 dL_law_242 (by decide) ?_
          refine z_iadd (v := 4) B0 dL_law_243 (by decide) ?_
          refine y_sld (j := 4) (v := x4) B0 hX hbl (by decide) e4.symm dL_law_244 ?_
          refine z_if_eq_t (tgt := 252) B0 dL_law_245 (by decide) hb4 ?_
          refine z_iconst (v := 0) B0 dL_law_252 (by decide) ?_
          refine z_callC B0 (z_runV (q0 := 0) (As := [.int 2, .int 0, .int x3, .int 0]) (st := []) B0 (c_X11_kin_55 (a := a) (cS0 w) x3 ⟨by omega, by omega⟩) cf_X11_kin (cw_0 cy tE a rw (cS0 w)) rfl wm_L_23 wi_X11_kin ws_X11_kin dL_law_253 rfl (Nat.le_of_ble_eq_true rfl) ⟨by decide, by decide, by decide, by decide⟩) (fun r1 u1 p1 => ?_)
          obtain ⟨rfl, -⟩ := p1
          refine z_aload_n B0 dL_law_256 rfl rfl ?_
          refine z_aload_n B0 dL_law_257 rfl rfl ?_
          refine z_iload_n B0 dL_law_258 rfl rfl ?_
          refine z_iconst (v := 1) B0 dL_law_259 (by decide) ?_
          refine z_iadd (v := 1) B0 dL_law_260 (by decide) ?_
          refine y_sld (j := 1) (v := 2) B0 hX hbl (by decide) e1.symm dL_law_261 ?_
          refine z_aload_n B0 dL_law_262 rfl rfl ?_
          refine z_iload_n B0 dL_law_263 rfl rfl ?_
          refine z_iconst (v := 2) B0 dL_law_264 (by decide) ?_
          refine z_iadd (v := 2) B0 dL_law_265 (by decide) ?_
          refine y_sld (j := 2) (v := 0) B0 hX hbl (by decide) e2.symm dL_law_266 ?_
          refine z_aload_n B0 dL_law_267 rfl rfl ?_
          refine z_iload_n B0 dL_law_268 rfl rfl ?_
          refine z_iconst (v := 3) B0 dL_law_269 (by decide) ?_
          refine z_iadd (v := 3) B0 dL_law_270 (by decide) ?_
          refine y_sld (j := 3) (v := x3) B0 hX hbl (by decide) e3.symm dL_law_271 ?_
          refine z_aload_n B0 dL_law_272 rfl rfl ?_
          refine z_iload_n B0 dL_law_273 rfl rfl ?_
          refine z_iconst (v := 4) B0 dL_law_274 (by decide) ?_
          refine z_iadd (v := 4) B0 dL_law_275 (by decide) ?_
          refine y_sld (j := 4) (v := x4) B0 hX hbl (by decide) e4.symm dL_law_276 ?_
          refine z_if_eq_t (tgt := 284) B0 dL_law_277 (by decide) hb4 ?_
          refine z_iconst (v := 0) B0 dL_law_284 (by decide) ?_
          refine z_callM B0 (z_runV (q0 := 0) (As := [.int 2, .int 0, .int x3, .int 0]) (st := [.int 0]) B0 (c_X12_kin_55 (a := a2) mS0 x3 ⟨by omega, by omega⟩) cf_X12_kin (mw_0 cy a2 mS0) rfl wm_L_27 wi_X12_kin ws_X12_kin dL_law_285 rfl (Nat.le_of_ble_eq_true rfl) ⟨by decide, by decide, by decide, by decide⟩) (fun r2 u2 p2 => ?_)
          obtain ⟨rfl, -⟩ := p2
          refine z_icmp_eq_t (tgt := 1091) B0 dL_law_288 (by decide) rfl ?_
          exact fin u1 u2
        · refine z_aload_n B0 dL_law_224 rfl rfl ?_
          refine z_aload_n B0 dL_law_225 rfl rfl ?_
          refine z_iload_n B0 dL_law_226 rfl rfl ?_
          refine z_iconst (v := 1) B0 dL_law_227 (by decide) ?_
          refine z_iadd (v := 1) B0 dL_law_228 (by decide) ?_
          refine y_sld (j := 1) (v := 2) B0 hX hbl (by decide) e1.symm dL_law_229 ?_
          refine z_aload_n B0 dL_law_230 rfl rfl ?_
          refine z_iload_n B0 dL_law_231 rfl rfl ?_
          refine z_iconst (v := 2) B0 dL_law_232 (by decide) ?_
          refine z_iadd (v := 2) B0 dL_law_233 (by decide) ?_
          refine y_sld (j := 2) (v := 0) B0 hX hbl (by decide) e2.symm dL_law_234 ?_
          refine z_aload_n B0 dL_law_235 rfl rfl ?_
          refine z_iload_n B0 dL_law_236 rfl rfl ?_
          refine z_iconst (v := 3) B0 dL_law_237 (by decide) ?_
          refine z_iadd (v := 3) B0 dL_law_238 (by decide) ?_
          refine y_sld (j := 3) (v := x3) B0 hX hbl (by decide) e3.symm dL_law_239 ?_
          refine z_aload_n B0 dL_law_240 rfl rfl ?_
          refine z_iload_n B0 dL_law_241 rfl rfl ?_
          refine z_iconst (v := 4) B0 dL_law_242 (by decide) ?_
          refine z_iadd (v := 4) B0 dL_law_243 (by decide) ?_
          refine y_sld (j := 4) (v := x4) B0 hX hbl (by decide) e4.symm dL_law_244 ?_
          refine z_if_eq_f (tgt := 252) B0 dL_law_245 (by decide) hb4 ?_
          refine z_iconst (v := 1) B0 dL_law_248 (by decide) ?_
          refine z_goto (tgt := 253) B0 dL_law_249 (by decide) ?_
          refine z_callC B0 (z_runV (q0 := 0) (As := [.int 2, .int 0, .int x3, .int 1]) (st := []) B0 (c_X11_kin_56 (a := a) (cS0 w) x3 ⟨by omega, by omega⟩) cf_X11_kin (cw_0 cy tE a rw (cS0 w)) rfl wm_L_23 wi_X11_kin ws_X11_kin dL_law_253 rfl (Nat.le_of_ble_eq_true rfl) ⟨by decide, by decide, by decide, by decide⟩) (fun r1 u1 p1 => ?_)
          obtain ⟨rfl, -⟩ := p1
          refine z_aload_n B0 dL_law_256 rfl rfl ?_
          refine z_aload_n B0 dL_law_257 rfl rfl ?_
          refine z_iload_n B0 dL_law_258 rfl rfl ?_
          refine z_iconst (v := 1) B0 dL_law_259 (by decide) ?_
          refine z_iadd (v := 1) B0 dL_law_260 (by decide) ?_
          refine y_sld (j := 1) (v := 2) B0 hX hbl (by decide) e1.symm dL_law_261 ?_
          refine z_aload_n B0 dL_law_262 rfl rfl ?_
          refine z_iload_n B0 dL_law_263 rfl rfl ?_
          refine z_iconst (v := 2) B0 dL_law_264 (by decide) ?_
          refine z_iadd (v := 2) B0 dL_law_265 (by decide) ?_
          refine y_sld (j := 2) (v := 0) B0 hX hbl (by decide) e2.symm dL_law_266 ?_
          refine z_aload_n B0 dL_law_267 rfl rfl ?_
          refine z_iload_n B0 dL_law_268 rfl rfl ?_
          refine z_iconst (v := 3) B0 dL_law_269 (by decide) ?_
          refine z_iadd (v := 3) B0 dL_law_270 (by decide) ?_
          refine y_sld (j := 3) (v := x3) B0 hX hbl (by decide) e3.symm dL_law_271 ?_
          refine z_aload_n B0 dL_law_272 rfl rfl ?_
          refine z_iload_n B0 dL_law_273 rfl rfl ?_
          refine z_iconst (v := 4) B0 dL_law_274 (by decide) ?_
          refine z_iadd (v := 4) B0 dL_law_275 (by decide) ?_
          refine y_sld (j := 4) (v := x4) B0 hX hbl (by decide) e4.symm dL_law_276 ?_
          refine z_if_eq_f (tgt := 284) B0 dL_law_277 (by decide) hb4 ?_
          refine z_iconst (v := 1) B0 dL_law_280 (by decide) ?_
          refine z_goto (tgt := 285) B0 dL_law_281 (by decide) ?_
          refine z_callM B0 (z_runV (q0 := 0) (As := [.int 2, .int 0, .int x3, .int 1]) (st := [.int 0]) B0 (c_X12_kin_56 (a := a2) mS0 x3 ⟨by omega, by omega⟩) cf_X12_kin (mw_0 cy a2 mS0) rfl wm_L_27 wi_X12_kin ws_X12_kin dL_law_285 rfl (Nat.le_of_ble_eq_true rfl) ⟨by decide, by decide, by decide, by decide⟩) (fun r2 u2 p2 => ?_)
          obtain ⟨rfl, -⟩ := p2
          refine z_icmp_eq_t (tgt := 1091) B0 dL_law_288 (by decide) rfl ?_
          exact fin u1 u2
      · obtain rfl : x3 = 0 := Int32.toInt_inj.mp (h3.trans (by decide))
        by_cases hb4 : x4 = 0
        · refine z_aload_n B0 dL_law_224 rfl rfl ?_
          refine z_aload_n B0 dL_law_225 rfl rfl ?_
          refine z_iload_n B0 dL_law_226 rfl rfl ?_
          refine z_iconst (v := 1) B0 dL_law_227 (by decide) ?_
          refine z_iadd (v := 1) B0 dL_law_228 (by decide) ?_
          refine y_sld (j := 1) (v := 2) B0 hX hbl (by decide) e1.symm dL_law_229 ?_
          refine z_aload_n B0 dL_law_230 rfl rfl ?_
          refine z_iload_n B0 dL_law_231 rfl rfl ?_
          refine z_iconst (v := 2) B0 dL_law_232 (by decide) ?_
          refine z_iadd (v := 2) B0 dL_law_233 (by decide) ?_
          refine y_sld (j := 2) (v := 0) B0 hX hbl (by decide) e2.symm dL_law_234 ?_
          refine z_aload_n B0 dL_law_235 rfl rfl ?_
          refine z_iload_n B0 dL_law_236 rfl rfl ?_
          refine z_iconst (v := 3) B0 dL_law_237 (by decide) ?_
          refine z_iadd (v := 3) B0 dL_law_238 (by decide) ?_
          refine y_sld (j := 3) (v := 0) B0 hX hbl (by decide) e3.symm dL_law_239 ?_
          refine z_aload_n B0 dL_law_240 rfl rfl ?_
          refine z_iload_n B0 dL_law_241 rfl rfl ?_
          refine z_iconst (v := 4) B0 dL_law_242 (by decide) ?_
          refine z_iadd (v := 4) B0 dL_law_243 (by decide) ?_
          refine y_sld (j := 4) (v := x4) B0 hX hbl (by decide) e4.symm dL_law_244 ?_
          refine z_if_eq_t (tgt := 252) B0 dL_law_245 (by decide) hb4 ?_
          refine z_iconst (v := 0) B0 dL_law_252 (by decide) ?_
          refine z_callC B0 (z_runV (q0 := 0) (As := [.int 2, .int 0, .int 0, .int 0]) (st := []) B0 (c_X11_kin_57 (a := a) (cS0 w)  rfl rfl rfl) cf_X11_kin (cw_0 cy tE a rw (cS0 w)) rfl wm_L_23 wi_X11_kin ws_X11_kin dL_law_253 rfl (Nat.le_of_ble_eq_true rfl) ⟨by decide, by decide, by decide, by decide⟩) (fun r1 u1 p1 => ?_)
          obtain ⟨rfl, -⟩ := p1
          refine z_aload_n B0 dL_law_256 rfl rfl ?_
          refine z_aload_n B0 dL_law_257 rfl rfl ?_
          refine z_iload_n B0 dL_law_258 rfl rfl ?_
          refine z_iconst (v := 1) B0 dL_law_259 (by decide) ?_
          refine z_iadd (v := 1) B0 dL_law_260 (by decide) ?_
          refine y_sld (j := 1) (v := 2) B0 hX hbl (by decide) e1.symm dL_law_261 ?_
          refine z_aload_n B0 dL_law_262 rfl rfl ?_
          refine z_iload_n B0 dL_law_263 rfl rfl ?_
          refine z_iconst (v := 2) B0 dL_law_264 (by decide) ?_
          refine z_iadd (v := 2) B0 dL_law_265 (by decide) ?_
          refine y_sld (j := 2) (v := 0) B0 hX hbl (by decide) e2.symm dL_law_266 ?_
          refine z_aload_n B0 dL_law_267 rfl rfl ?_
          refine z_iload_n B0 dL_law_268 rfl rfl ?_
          refine z_iconst (v := 3) B0 dL_law_269 (by decide) ?_
          refine z_iadd (v := 3) B0 dL_law_270 (by decide) ?_
          refine y_sld (j := 3) (v := 0) B0 hX hbl (by decide) e3.symm dL_law_271 ?_
          refine z_aload_n B0 dL_law_272 rfl rfl ?_
          refine z_iload_n B0 dL_law_273 rfl rfl ?_
          refine z_iconst (v := 4) B0 dL_law_274 (by decide) ?_
          refine z_iadd (v := 4) B0 dL_law_275 (by decide) ?_
          refine y_sld (j := 4) (v := x4) B0 hX hbl (by decide) e4.symm dL_law_276 ?_
          refine z_if_eq_t (tgt := 284) B0 dL_law_277 (by decide) hb4 ?_
          refine z_iconst (v := 0) B0 dL_law_284 (by decide) ?_
          refine z_callM B0 (z_runV (q0 := 0) (As := [.int 2, .int 0, .int 0, .int 0]) (st := [.int 1]) B0 (c_X12_kin_57 (a := a2) mS0  rfl rfl rfl rfl rfl rfl rfl rfl rfl rfl rfl rfl rfl rfl rfl rfl rfl rfl rfl rfl rfl rfl rfl rfl rfl rfl) cf_X12_kin (mw_0 cy a2 mS0) rfl wm_L_27 wi_X12_kin ws_X12_kin dL_law_285 rfl (Nat.le_of_ble_eq_true rfl) ⟨by decide, by decide, by decide, by decide⟩) (fun r2 u2 p2 => ?_)
          obtain ⟨rfl, -⟩ := p2
          refine z_icmp_eq_t (tgt := 1091) B0 dL_law_288 (by decide) rfl ?_
          exact fin u1 u2
        · refine z_aload_n B0 dL_law_224 rfl rfl ?_
          refine z_aload_n B0 dL_law_225 rfl rfl ?_
          refine z_iload_n B0 dL_law_226 rfl rfl ?_
          refine z_iconst (v := 1) B0 dL_law_227 (by decide) ?_
          refine z_iadd (v := 1) B0 dL_law_228 (by decide) ?_
          refine y_sld (j := 1) (v := 2) B0 hX hbl (by decide) e1.symm dL_law_229 ?_
          refine z_aload_n B0 dL_law_230 rfl rfl ?_
          refine z_iload_n B0 dL_law_231 rfl rfl ?_
          refine z_iconst (v := 2) B0 dL_law_232 (by decide) ?_
          refine z_iadd (v := 2) B0 dL_law_233 (by decide) ?_
          refine y_sld (j := 2) (v := 0) B0 hX hbl (by decide) e2.symm dL_law_234 ?_
          refine z_aload_n B0 dL_law_235 rfl rfl ?_
          refine z_iload_n B0 dL_law_236 rfl rfl ?_
          refine z_iconst (v := 3) B0 dL_law_237 (by decide) ?_
          refine z_iadd (v := 3) B0 dL_law_238 (by decide) ?_
          refine y_sld (j := 3) (v := 0) B0 hX hbl (by decide) e3.symm dL_law_239 ?_
          refine z_aload_n B0 dL_law_240 rfl rfl ?_
          refine z_iload_n B0 dL_law_241 rfl rfl ?_
          refine z_iconst (v := 4) B0 dL_law_242 (by decide) ?_
          refine z_iadd (v := 4) B0 dL_law_243 (by decide) ?_
          refine y_sld (j := 4) (v := x4) B0 hX hbl (by decide) e4.symm dL_law_244 ?_
          refine z_if_eq_f (tgt := 252) B0 dL_law_245 (by decide) hb4 ?_
          refine z_iconst (v := 1) B0 dL_law_248 (by decide) ?_
          refine z_goto (tgt := 253) B0 dL_law_249 (by decide) ?_
          refine z_callC B0 (z_runV (q0 := 0) (As := [.int 2, .int 0, .int 0, .int 1]) (st := []) B0 (c_X11_kin_58 (a := a) (cS0 w)  rfl) cf_X11_kin (cw_0 cy tE a rw (cS0 w)) rfl wm_L_23 wi_X11_kin ws_X11_kin dL_law_253 rfl (Nat.le_of_ble_eq_true rfl) ⟨by decide, by decide, by decide, by decide⟩) (fun r1 u1 p1 => ?_)
          obtain ⟨rfl, -⟩ := p1
          refine z_aload_n B0 dL_law_256 rfl rfl ?_
          refine z_aload_n B0 dL_law_257 rfl rfl ?_
          refine z_iload_n B0 dL_law_258 rfl rfl ?_
          refine z_iconst (v := 1) B0 dL_law_259 (by decide) ?_
          refine z_iadd (v := 1) B0 dL_law_260 (by decide) ?_
          refine y_sld (j := 1) (v := 2) B0 hX hbl (by decide) e1.symm dL_law_261 ?_
          refine z_aload_n B0 dL_law_262 rfl rfl ?_
          refine z_iload_n B0 dL_law_263 rfl rfl ?_
          refine z_iconst (v := 2) B0 dL_law_264 (by decide) ?_
          refine z_iadd (v := 2) B0 dL_law_265 (by decide) ?_
          refine y_sld (j := 2) (v := 0) B0 hX hbl (by decide) e2.symm dL_law_266 ?_
          refine z_aload_n B0 dL_law_267 rfl rfl ?_
          refine z_iload_n B0 dL_law_268 rfl rfl ?_
          refine z_iconst (v := 3) B0 dL_law_269 (by decide) ?_
          refine z_iadd (v := 3) B0 dL_law_270 (by decide) ?_
          refine y_sld (j := 3) (v := 0) B0 hX hbl (by decide) e3.symm dL_law_271 ?_
          refine z_aload_n B0 dL_law_272 rfl rfl ?_
          refine z_iload_n B0 dL_law_273 rfl rfl ?_
          refine z_iconst (v := 4) B0 dL_law_274 (by decide) ?_
          refine z_iadd (v := 4) B0 dL_law_275 (by decide) ?_
          refine y_sld (j := 4) (v := x4) B0 hX hbl (by decide) e4.symm dL_law_276 ?_
          refine z_if_eq_f (tgt := 284) B0 dL_law_277 (by decide) hb4 ?_
          refine z_iconst (v := 1) B0 dL_law_280 (by decide) ?_
          refine z_goto (tgt := 285) B0 dL_law_281 (by decide) ?_
          refine z_callM B0 (z_runV (q0 := 0) (As := [.int 2, .int 0, .int 0, .int 1]) (st := [.int 1]) B0 (c_X12_kin_58 (a := a2) mS0  rfl rfl rfl rfl rfl rfl rfl rfl rfl rfl rfl rfl rfl rfl rfl rfl rfl rfl rfl rfl rfl rfl rfl rfl rfl rfl) cf_X12_kin (mw_0 cy a2 mS0) rfl wm_L_27 wi_X12_kin ws_X12_kin dL_law_285 rfl (Nat.le_of_ble_eq_true rfl) ⟨by decide, by decide, by decide, by decide⟩) (fun r2 u2 p2 => ?_)
          obtain ⟨rfl, -⟩ := p2
          refine z_icmp_eq_t (tgt := 1091) B0 dL_law_288 (by decide) rfl ?_
          exact fin u1 u2
      · obtain rfl : x3 = 1 := Int32.toInt_inj.mp (h3.trans (by decide))
        by_cases hb4 : x4 = 0
        · refine z_aload_n B0 dL_law_224 rfl rfl ?_
          refine z_aload_n B0 dL_law_225 rfl rfl ?_
          refine z_iload_n B0 dL_law_226 rfl rfl ?_
          refine z_iconst (v := 1) B0 dL_law_227 (by decide) ?_
          refine z_iadd (v := 1) B0 dL_law_228 (by decide) ?_
          refine y_sld (j := 1) (v := 2) B0 hX hbl (by decide) e1.symm dL_law_229 ?_
          refine z_aload_n B0 dL_law_230 rfl rfl ?_
          refine z_iload_n B0 dL_law_231 rfl rfl ?_
          refine z_iconst (v := 2) B0 dL_law_232 (by decide) ?_
          refine z_iadd (v := 2) B0 dL_law_233 (by decide) ?_
          refine y_sld (j := 2) (v := 0) B0 hX hbl (by decide) e2.symm dL_law_234 ?_
          refine z_aload_n B0 dL_law_235 rfl rfl ?_
          refine z_iload_n B0 dL_law_236 rfl rfl ?_
          refine z_iconst (v := 3) B0 dL_law_237 (by decide) ?_
          refine z_iadd (v := 3) B0 dL_law_238 (by decide) ?_
          refine y_sld (j := 3) (v := 1) B0 hX hbl (by decide) e3.symm dL_law_239 ?_
          refine z_aload_n B0 dL_law_240 rfl rfl ?_
          refine z_iload_n B0 dL_law_241 rfl rfl ?_
          refine z_iconst (v := 4) B0 dL_law_242 (by decide) ?_
          refine z_iadd (v := 4) B0 dL_law_243 (by decide) ?_
          refine y_sld (j := 4) (v := x4) B0 hX hbl (by decide) e4.symm dL_law_244 ?_
          refine z_if_eq_t (tgt := 252) B0 dL_law_245 (by decide) hb4 ?_
          refine z_iconst (v := 0) B0 dL_law_252 (by decide) ?_
          refine z_callC B0 (z_runV (q0 := 0) (As := [.int 2, .int 0, .int 1, .int 0]) (st := []) B0 (c_X11_kin_59 (a := a) (cS0 w)  rfl rfl) cf_X11_kin (cw_0 cy tE a rw (cS0 w)) rfl wm_L_23 wi_X11_kin ws_X11_kin dL_law_253 rfl (Nat.le_of_ble_eq_true rfl) ⟨by decide, by decide, by decide, by decide⟩) (fun r1 u1 p1 => ?_)
          obtain ⟨rfl, -⟩ := p1
          refine z_aload_n B0 dL_law_256 rfl rfl ?_
          refine z_aload_n B0 dL_law_257 rfl rfl ?_
          refine z_iload_n B0 dL_law_258 rfl rfl ?_
          refine z_iconst (v := 1) B0 dL_law_259 (by decide) ?_
          refine z_iadd (v := 1) B0 dL_law_260 (by decide) ?_
          refine y_sld (j := 1) (v := 2) B0 hX hbl (by decide) e1.symm dL_law_261 ?_
          refine z_aload_n B0 dL_law_262 rfl rfl ?_
          refine z_iload_n B0 dL_law_263 rfl rfl ?_
          refine z_iconst (v := 2) B0 dL_law_264 (by decide) ?_
          refine z_iadd (v := 2) B0 dL_law_265 (by decide) ?_
          refine y_sld (j := 2) (v := 0) B0 hX hbl (by decide) e2.symm dL_law_266 ?_
          refine z_aload_n B0 dL_law_267 rfl rfl ?_
          refine z_iload_n B0 dL_law_268 rfl rfl ?_
          refine z_iconst (v := 3) B0 dL_law_269 (by decide) ?_
          refine z_iadd (v := 3) B0 dL_law_270 (by decide) ?_
          refine y_sld (j := 3) (v := 1) B0 hX hbl (by decide) e3.symm dL_law_271 ?_
          refine z_aload_n B0 dL_law_272 rfl rfl ?_
          refine z_iload_n B0 dL_law_273 rfl rfl ?_
          refine z_iconst (v := 4) B0 dL_law_274 (by decide) ?_
          refine z_iadd (v := 4) B0 dL_law_275 (by decide) ?_
          refine y_sld (j := 4) (v := x4) B0 hX hbl (by decide) e4.symm dL_law_276 ?_
          refine z_if_eq_t (tgt := 284) B0 dL_law_277 (by decide) hb4 ?_
          refine z_iconst (v := 0) B0 dL_law_284 (by decide) ?_
          refine z_callM B0 (z_runV (q0 := 0) (As := [.int 2, .int 0, .int 1, .int 0]) (st := [.int 1]) B0 (c_X12_kin_59 (a := a2) mS0  rfl rfl rfl rfl rfl rfl rfl rfl rfl rfl rfl rfl rfl rfl rfl rfl rfl rfl rfl rfl rfl rfl rfl rfl rfl rfl) cf_X12_kin (mw_0 cy a2 mS0) rfl wm_L_27 wi_X12_kin ws_X12_kin dL_law_285 rfl (Nat.le_of_ble_eq_true rfl) ⟨by decide, by decide, by decide, by decide⟩) (fun r2 u2 p2 => ?_)
          obtain ⟨rfl, -⟩ := p2
          refine z_icmp_eq_t (tgt := 1091) B0 dL_law_288 (by decide) rfl ?_
          exact fin u1 u2
        · refine z_aload_n B0 dL_law_224 rfl rfl ?_
          refine z_aload_n B0 dL_law_225 rfl rfl ?_
          refine z_iload_n B0 dL_law_226 rfl rfl ?_
          refine z_iconst (v := 1) B0 dL_law_227 (by decide) ?_
          refine z_iadd (v := 1) B0 dL_law_228 (by decide) ?_
          refine y_sld (j := 1) (v := 2) B0 hX hbl (by decide) e1.symm dL_law_229 ?_
          refine z_aload_n B0 dL_law_230 rfl rfl ?_
          refine z_iload_n B0 dL_law_231 rfl rfl ?_
          refine z_iconst (v := 2) B0 dL_law_232 (by decide) ?_
          refine z_iadd (v := 2) B0 dL_law_233 (by decide) ?_
          refine y_sld (j := 2) (v := 0) B0 hX hbl (by decide) e2.symm dL_law_234 ?_
          refine z_aload_n B0 dL_law_235 rfl rfl ?_
          refine z_iload_n B0 dL_law_236 rfl rfl ?_
          refine z_iconst (v := 3) B0 dL_law_237 (by decide) ?_
          refine z_iadd (v := 3) B0 dL_law_238 (by decide) ?_
          refine y_sld (j := 3) (v := 1) B0 hX hbl (by decide) e3.symm dL_law_239 ?_
          refine z_aload_n B0 dL_law_240 rfl rfl ?_
          refine z_iload_n B0 dL_law_241 rfl rfl ?_
          refine z_iconst (v := 4) B0 dL_law_242 (by decide) ?_
          refine z_iadd (v := 4) B0 dL_law_243 (by decide) ?_
          refine y_sld (j := 4) (v := x4) B0 hX hbl (by decide) e4.symm dL_law_244 ?_
          refine z_if_eq_f (tgt := 252) B0 dL_law_245 (by decide) hb4 ?_
          refine z_iconst (v := 1) B0 dL_law_248 (by decide) ?_
          refine z_goto (tgt := 253) B0 dL_law_249 (by decide) ?_
          refine z_callC B0 (z_runV (q0 := 0) (As := [.int 2, .int 0, .int 1, .int 1]) (st := []) B0 (c_X11_kin_60 (a := a) (cS0 w)  rfl) cf_X11_kin (cw_0 cy tE a rw (cS0 w)) rfl wm_L_23 wi_X11_kin ws_X11_kin dL_law_253 rfl (Nat.le_of_ble_eq_true rfl) ⟨by decide, by decide, by decide, by decide⟩) (fun r1 u1 p1 => ?_)
          obtain ⟨rfl, -⟩ := p1
          refine z_aload_n B0 dL_law_256 rfl rfl ?_
          refine z_aload_n B0 dL_law_257 rfl rfl ?_
          refine z_iload_n B0 dL_law_258 rfl rfl ?_
          refine z_iconst (v := 1) B0 dL_law_259 (by decide) ?_
          refine z_iadd (v := 1) B0 dL_law_260 (by decide) ?_
          refine y_sld (j := 1) (v := 2) B0 hX hbl (by decide) e1.symm dL_law_261 ?_
          refine z_aload_n B0 dL_law_262 rfl rfl ?_
          refine z_iload_n B0 dL_law_263 rfl rfl ?_
          refine z_iconst (v := 2) B0 dL_law_264 (by decide) ?_
          refine z_iadd (v := 2) B0 dL_law_265 (by decide) ?_
          refine y_sld (j := 2) (v := 0) B0 hX hbl (by decide) e2.symm dL_law_266 ?_
          refine z_aload_n B0 dL_law_267 rfl rfl ?_
          refine z_iload_n B0 dL_law_268 rfl rfl ?_
          refine z_iconst (v := 3) B0 dL_law_269 (by decide) ?_
          refine z_iadd (v := 3) B0 dL_law_270 (by decide) ?_
          refine y_sld (j := 3) (v := 1) B0 hX hbl (by decide) e3.symm dL_law_271 ?_
          refine z_aload_n B0 dL_law_272 rfl rfl ?_
          refine z_iload_n B0 dL_law_273 rfl rfl ?_
          refine z_iconst (v := 4) B0 dL_law_274 (by decide) ?_
          refine z_iadd (v := 4) B0 dL_law_275 (by decide) ?_
          refine y_sld (j := 4) (v := x4) B0 hX hbl (by decide) e4.symm dL_law_276 ?_
          refine z_if_eq_f (tgt := 284) B0 dL_law_277 (by decide) hb4 ?_
          refine z_iconst (v := 1) B0 dL_law_280 (by decide) ?_
          refine z_goto (tgt := 285) B0 dL_law_281 (by decide) ?_
          refine z_callM B0 (z_runV (q0 := 0) (As := [.int 2, .int 0, .int 1, .int 1]) (st := [.int 1]) B0 (c_X12_kin_60 (a := a2) mS0  rfl rfl rfl rfl rfl rfl rfl rfl rfl rfl rfl rfl rfl rfl rfl rfl rfl rfl rfl rfl rfl rfl rfl rfl rfl rfl) cf_X12_kin (mw_0 cy a2 mS0) rfl wm_L_27 wi_X12_kin ws_X12_kin dL_law_285 rfl (Nat.le_of_ble_eq_true rfl) ⟨by decide, by decide, by decide, by decide⟩) (fun r2 u2 p2 => ?_)
          obtain ⟨rfl, -⟩ := p2
          refine z_icmp_eq_t (tgt := 1091) B0 dL_law_288 (by decide) rfl ?_
          exact fin u1 u2
      · by_cases hb4 : x4 = 0
        · refine z_aload_n B0 dL_law_224 rfl rfl ?_
          refine z_aload_n B0 dL_law_225 rfl rfl ?_
          refine z_iload_n B0 dL_law_226 rfl rfl ?_
          refine z_iconst (v := 1) B0 dL_law_227 (by decide) ?_
          refine z_iadd (v := 1) B0 dL_law_228 (by decide) ?_
          refine y_sld (j := 1) (v := 2) B0 hX hbl (by decide) e1.symm dL_law_229 ?_
          refine z_aload_n B0 dL_law_230 rfl rfl ?_
          refine z_iload_n B0 dL_law_231 rfl rfl ?_
          refine z_iconst (v := 2) B0 dL_law_232 (by decide) ?_
          refine z_iadd (v := 2) B0 dL_law_233 (by decide) ?_
          refine y_sld (j := 2) (v := 0) B0 hX hbl (by decide) e2.symm dL_law_234 ?_
          refine z_aload_n B0 dL_law_235 rfl rfl ?_
          refine z_iload_n B0 dL_law_236 rfl rfl ?_
          refine z_iconst (v := 3) B0 dL_law_237 (by decide) ?_
          refine z_iadd (v := 3) B0 dL_law_238 (by decide) ?_
          refine y_sld (j := 3) (v := x3) B0 hX hbl (by decide) e3.symm dL_law_239 ?_
          refine z_aload_n B0 dL_law_240 rfl rfl ?_
          refine z_iload_n B0 dL_law_241 rfl rfl ?_
          refine z_iconst (v := 4) B0 dL_law_242 (by decide) ?_
          refine z_iadd (v := 4) B0 dL_law_243 (by decide) ?_
          refine y_sld (j := 4) (v := x4) B0 hX hbl (by decide) e4.symm dL_law_244 ?_
          refine z_if_eq_t (tgt := 252) B0 dL_law_245 (by decide) hb4 ?_
          refine z_iconst (v := 0) B0 dL_law_252 (by decide) ?_
          refine z_callC B0 (z_runV (q0 := 0) (As := [.int 2, .int 0, .int x3, .int 0]) (st := []) B0 (c_X11_kin_61 (a := a) (cS0 w) x3 ⟨by omega, by omega⟩) cf_X11_kin (cw_0 cy tE a rw (cS0 w)) rfl wm_L_23 wi_X11_kin ws_X11_kin dL_law_253 rfl (Nat.le_of_ble_eq_true rfl) ⟨by decide, by decide, by decide, by decide⟩) (fun r1 u1 p1 => ?_)
          obtain ⟨rfl, -⟩ := p1
          refine z_aload_n B0 dL_law_256 rfl rfl ?_
          refine z_aload_n B0 dL_law_257 rfl rfl ?_
          refine z_iload_n B0 dL_law_258 rfl rfl ?_
          refine z_iconst (v := 1) B0 dL_law_259 (by decide) ?_
          refine z_iadd (v := 1) B0 dL_law_260 (by decide) ?_
          refine y_sld (j := 1) (v := 2) B0 hX hbl (by decide) e1.symm dL_law_261 ?_
          refine z_aload_n B0 dL_law_262 rfl rfl ?_
          refine z_iload_n B0 dL_law_263 rfl rfl ?_
          refine z_iconst (v := 2) B0 dL_law_264 (by decide) ?_
          refine z_iadd (v := 2) B0 dL_law_265 (by decide) ?_
          refine y_sld (j := 2) (v := 0) B0 hX hbl (by decide) e2.symm dL_law_266 ?_
          refine z_aload_n B0 dL_law_267 rfl rfl ?_
          refine z_iload_n B0 dL_law_268 rfl rfl ?_
          refine z_iconst (v := 3) B0 dL_law_269 (by decide) ?_
          refine z_iadd (v := 3) B0 dL_law_270 (by decide) ?_
          refine y_sld (j := 3) (v := x3) B0 hX hbl (by decide) e3.symm dL_law_271 ?_
          refine z_aload_n B0 dL_law_272 rfl rfl ?_
          refine z_iload_n B0 dL_law_273 rfl rfl ?_
          refine z_iconst (v := 4) B0 dL_law_274 (by decide) ?_
          refine z_iadd (v := 4) B0 dL_law_275 (by decide) ?_
          refine y_sld (j := 4) (v := x4) B0 hX hbl (by decide) e4.symm dL_law_276 ?_
          refine z_if_eq_t (tgt := 284) B0 dL_law_277 (by decide) hb4 ?_
          refine z_iconst (v := 0) B0 dL_law_284 (by decide) ?_
          refine z_callM B0 (z_runV (q0 := 0) (As := [.int 2, .int 0, .int x3, .int 0]) (st := [.int 0]) B0 (c_X12_kin_61 (a := a2) mS0 x3 ⟨by omega, by omega⟩) cf_X12_kin (mw_0 cy a2 mS0) rfl wm_L_27 wi_X12_kin ws_X12_kin dL_law_285 rfl (Nat.le_of_ble_eq_true rfl) ⟨by decide, by decide, by decide, by decide⟩) (fun r2 u2 p2 => ?_)
          obtain ⟨rfl, -⟩ := p2
          refine z_icmp_eq_t (tgt := 1091) B0 dL_law_288 (by decide) rfl ?_
          exact fin u1 u2
        · refine z_aload_n B0 dL_law_224 rfl rfl ?_
          refine z_aload_n B0 dL_law_225 rfl rfl ?_
          refine z_iload_n B0 dL_law_226 rfl rfl ?_
          refine z_iconst (v := 1) B0 dL_law_227 (by decide) ?_
          refine z_iadd (v := 1) B0 dL_law_228 (by decide) ?_
          refine y_sld (j := 1) (v := 2) B0 hX hbl (by decide) e1.symm dL_law_229 ?_
          refine z_aload_n B0 dL_law_230 rfl rfl ?_
          refine z_iload_n B0 dL_law_231 rfl rfl ?_
          refine z_iconst (v := 2) B0 dL_law_232 (by decide) ?_
          refine z_iadd (v := 2) B0 dL_law_233 (by decide) ?_
          refine y_sld (j := 2) (v := 0) B0 hX hbl (by decide) e2.symm dL_law_234 ?_
          refine z_aload_n B0 dL_law_235 rfl rfl ?_
          refine z_iload_n B0 dL_law_236 rfl rfl ?_
          refine z_iconst (v := 3) B0 dL_law_237 (by decide) ?_
          refine z_iadd (v := 3) B0 dL_law_238 (by decide) ?_
          refine y_sld (j := 3) (v := x3) B0 hX hbl (by decide) e3.symm dL_law_239 ?_
          refine z_aload_n B0 dL_law_240 rfl rfl ?_
          refine z_iload_n B0 dL_law_241 rfl rfl ?_
          refine z_iconst (v := 4) B0 dL_law_242 (by decide) ?_
          refine z_iadd (v := 4) B0 dL_law_243 (by decide) ?_
          refine y_sld (j := 4) (v := x4) B0 hX hbl (by decide) e4.symm dL_law_244 ?_
          refine z_if_eq_f (tgt := 252) B0 dL_law_245 (by decide) hb4 ?_
          refine z_iconst (v := 1) B0 dL_law_248 (by decide) ?_
          refine z_goto (tgt := 253) B0 dL_law_249 (by decide) ?_
          refine z_callC B0 (z_runV (q0 := 0) (As := [.int 2, .int 0, .int x3, .int 1]) (st := []) B0 (c_X11_kin_62 (a := a) (cS0 w) x3 ⟨by omega, by omega⟩) cf_X11_kin (cw_0 cy tE a rw (cS0 w)) rfl wm_L_23 wi_X11_kin ws_X11_kin dL_law_253 rfl (Nat.le_of_ble_eq_true rfl) ⟨by decide, by decide, by decide, by decide⟩) (fun r1 u1 p1 => ?_)
          obtain ⟨rfl, -⟩ := p1
          refine z_aload_n B0 dL_law_256 rfl rfl ?_
          refine z_aload_n B0 dL_law_257 rfl rfl ?_
          refine z_iload_n B0 dL_law_258 rfl rfl ?_
          refine z_iconst (v := 1) B0 dL_law_259 (by decide) ?_
          refine z_iadd (v := 1) B0 dL_law_260 (by decide) ?_
          refine y_sld (j := 1) (v := 2) B0 hX hbl (by decide) e1.symm dL_law_261 ?_
          refine z_aload_n B0 dL_law_262 rfl rfl ?_
          refine z_iload_n B0 dL_law_263 rfl rfl ?_
          refine z_iconst (v := 2) B0 dL_law_264 (by decide) ?_
          refine z_iadd (v := 2) B0 dL_law_265 (by decide) ?_
          refine y_sld (j := 2) (v := 0) B0 hX hbl (by decide) e2.symm dL_law_266 ?_
          refine z_aload_n B0 dL_law_267 rfl rfl ?_
          refine z_iload_n B0 dL_law_268 rfl rfl ?_
          refine z_iconst (v := 3) B0 dL_law_269 (by decide) ?_
          refine z_iadd (v := 3) B0 dL_law_270 (by decide) ?_
          refine y_sld (j := 3) (v := x3) B0 hX hbl (by decide) e3.symm dL_law_271 ?_
          refine z_aload_n B0 dL_law_272 rfl rfl ?_
          refine z_iload_n B0 dL_law_273 rfl rfl ?_
          refine z_iconst (v := 4) B0 dL_law_274 (by decide) ?_
          refine z_iadd (v := 4) B0 dL_law_275 (by decide) ?_
          refine y_sld (j := 4) (v := x4) B0 hX hbl (by decide) e4.symm dL_law_276 ?_
          refine z_if_eq_f (tgt := 284) B0 dL_law_277 (by decide) hb4 ?_
          refine z_iconst (v := 1) B0 dL_law_280 (by decide) ?_
          refine z_goto (tgt := 285) B0 dL_law_281 (by decide) ?_
          refine z_callM B0 (z_runV (q0 := 0) (As := [.int 2, .int 0, .int x3, .int 1]) (st := [.int 0]) B0 (c_X12_kin_62 (a := a2) mS0 x3 ⟨by omega, by omega⟩) cf_X12_kin (mw_0 cy a2 mS0) rfl wm_L_27 wi_X12_kin ws_X12_kin dL_law_285 rfl (Nat.le_of_ble_eq_true rfl) ⟨by decide, by decide, by decide, by decide⟩) (fun r2 u2 p2 => ?_)
          obtain ⟨rfl, -⟩ := p2
          refine z_icmp_eq_t (tgt := 1091) B0 dL_law_288 (by decide) rfl ?_
          exact fin u1 u2
    · obtain rfl : x2 = 1 := Int32.toInt_inj.mp (h2.trans (by decide))
      rcases (show ((-2147483648) ≤ x3.toInt ∧ x3.toInt ≤ (-1)) ∨ x3.toInt = 0 ∨ x3.toInt = 1 ∨ (2 ≤ x3.toInt ∧ x3.toInt ≤ 2147483647) by have g1 := Int32.le_toInt x3; have g2 := Int32.toInt_lt x3; omega) with h3 | h3 | h3 | h3
      · by_cases hb4 : x4 = 0
        · refine z_aload_n B0 dL_law_224 rfl rfl ?_
          refine z_aload_n B0 dL_law_225 rfl rfl ?_
          refine z_iload_n B0 dL_law_226 rfl rfl ?_
          refine z_iconst (v := 1) B0 dL_law_227 (by decide) ?_
          refine z_iadd (v := 1) B0 dL_law_228 (by decide) ?_
          refine y_sld (j := 1) (v := 2) B0 hX hbl (by decide) e1.symm dL_law_229 ?_
          refine z_aload_n B0 dL_law_230 rfl rfl ?_
          refine z_iload_n B0 dL_law_231 rfl rfl ?_
          refine z_iconst (v := 2) B0 dL_law_232 (by decide) ?_
          refine z_iadd (v := 2) B0 dL_law_233 (by decide) ?_
          refine y_sld (j := 2) (v := 1) B0 hX hbl (by decide) e2.symm dL_law_234 ?_
          refine z_aload_n B0 dL_law_235 rfl rfl ?_
          refine z_iload_n B0 dL_law_236 rfl rfl ?_
          refine z_iconst (v := 3) B0 dL_law_237 (by decide) ?_
          refine z_iadd (v := 3) B0 dL_law_238 (by decide) ?_
          refine y_sld (j := 3) (v := x3) B0 hX hbl (by decide) e3.symm dL_law_239 ?_
          refine z_aload_n B0 dL_law_240 rfl rfl ?_
          refine z_iload_n B0 dL_law_241 rfl rfl ?_
          refine z_iconst (v := 4) B0 dL_law_242 (by decide) ?_
          refine z_iadd (v := 4) B0 dL_law_243 (by decide) ?_
          refine y_sld (j := 4) (v := x4) B0 hX hbl (by decide) e4.symm dL_law_244 ?_
          refine z_if_eq_t (tgt := 252) B0 dL_law_245 (by decide) hb4 ?_
          refine z_iconst (v := 0) B0 dL_law_252 (by decide) ?_
          refine z_callC B0 (z_runV (q0 := 0) (As := [.int 2, .int 1, .int x3, .int 0]) (st := []) B0 (c_X11_kin_63 (a := a) (cS0 w) x3 ⟨by omega, by omega⟩) cf_X11_kin (cw_0 cy tE a rw (cS0 w)) rfl wm_L_23 wi_X11_kin ws_X11_kin dL_law_253 rfl (Nat.le_of_ble_eq_true rfl) ⟨by decide, by decide, by decide, by decide⟩) (fun r1 u1 p1 => ?_)
          obtain ⟨rfl, -⟩ := p1
          refine z_aload_n B0 dL_law_256 rfl rfl ?_
          refine z_aload_n B0 dL_law_257 rfl rfl ?_
          refine z_iload_n B0 dL_law_258 rfl rfl ?_
          refine z_iconst (v := 1) B0 dL_law_259 (by decide) ?_
          refine z_iadd (v := 1) B0 dL_law_260 (by decide) ?_
          refine y_sld (j := 1) (v := 2) B0 hX hbl (by decide) e1.symm dL_law_261 ?_
          refine z_aload_n B0 dL_law_262 rfl rfl ?_
          refine z_iload_n B0 dL_law_263 rfl rfl ?_
          refine z_iconst (v := 2) B0 dL_law_264 (by decide) ?_
          refine z_iadd (v := 2) B0 dL_law_265 (by decide) ?_
          refine y_sld (j := 2) (v := 1) B0 hX hbl (by decide) e2.symm dL_law_266 ?_
          refine z_aload_n B0 dL_law_267 rfl rfl ?_
          refine z_iload_n B0 dL_law_268 rfl rfl ?_
          refine z_iconst (v := 3) B0 dL_law_269 (by decide) ?_
          refine z_iadd (v := 3) B0 dL_law_270 (by decide) ?_
          refine y_sld (j := 3) (v := x3) B0 hX hbl (by decide) e3.symm dL_law_271 ?_
          refine z_aload_n B0 dL_law_272 rfl rfl ?_
          refine z_iload_n B0 dL_law_273 rfl rfl ?_
          refine z_iconst (v := 4) B0 dL_law_274 (by decide) ?_
          refine z_iadd (v := 4) B0 dL_law_275 (by decide) ?_
          refine y_sld (j := 4) (v := x4) B0 hX hbl (by decide) e4.symm dL_law_276 ?_
          refine z_if_eq_t (tgt := 284) B0 dL_law_277 (by decide) hb4 ?_
          refine z_iconst (v := 0) B0 dL_law_284 (by decide) ?_
          refine z_callM B0 (z_runV (q0 := 0) (As := [.int 2, .int 1, .int x3, .int 0]) (st := [.int 0]) B0 (c_X12_kin_63 (a := a2) mS0 x3 ⟨by omega, by omega⟩) cf_X12_kin (mw_0 cy a2 mS0) rfl wm_L_27 wi_X12_kin ws_X12_kin dL_law_285 rfl (Nat.le_of_ble_eq_true rfl) ⟨by decide, by decide, by decide, by decide⟩) (fun r2 u2 p2 => ?_)
          obtain ⟨rfl, -⟩ := p2
          refine z_icmp_eq_t (tgt := 1091) B0 dL_law_288 (by decide) rfl ?_
          exact fin u1 u2
        · refine z_aload_n B0 dL_law_224 rfl rfl ?_
          refine z_aload_n B0 dL_law_225 rfl rfl ?_
          refine z_iload_n B0 dL_law_226 rfl rfl ?_
          refine z_iconst (v := 1) B0 dL_law_227 (by decide) ?_
          refine z_iadd (v := 1) B0 dL_law_228 (by decide) ?_
          refine y_sld (j := 1) (v := 2) B0 hX hbl (by decide) e1.symm dL_law_229 ?_
          refine z_aload_n B0 dL_law_230 rfl rfl ?_
          refine z_iload_n B0 dL_law_231 rfl rfl ?_
          refine z_iconst (v := 2) B0 dL_law_232 (by decide) ?_
          refine z_iadd (v := 2) B0 dL_law_233 (by decide) ?_
          refine y_sld (j := 2) (v := 1) B0 hX hbl (by decide) e2.symm dL_law_234 ?_
          refine z_aload_n B0 dL_law_235 rfl rfl ?_
          refine z_iload_n B0 dL_law_236 rfl rfl ?_
          refine z_iconst (v := 3) B0 dL_law_237 (by decide) ?_
          refine z_iadd (v := 3) B0 dL_law_238 (by decide) ?_
          refine y_sld (j := 3) (v := x3) B0 hX hbl (by decide) e3.symm dL_law_239 ?_
          refine z_aload_n B0 dL_law_240 rfl rfl ?_
          refine z_iload_n B0 dL_law_241 rfl rfl ?_
          refine z_iconst (v := 4) B0 dL_law_242 (by decide) ?_
          refine z_iadd (v := 4) B0 dL_law_243 (by decide) ?_
          refine y_sld (j := 4) (v := x4) B0 hX hbl (by decide) e4.symm dL_law_244 ?_
          refine z_if_eq_f (tgt := 252) B0 dL_law_245 (by decide) hb4 ?_
          refine z_iconst (v := 1) B0 dL_law_248 (by decide) ?_
          refine z_goto (tgt := 253) B0 dL_law_249 (by decide) ?_
          refine z_callC B0 (z_runV (q0 := 0) (As := [.int 2, .int 1, .int x3, .int 1]) (st := []) B0 (c_X11_kin_64 (a := a) (cS0 w) x3 ⟨by omega, by omega⟩) cf_X11_kin (cw_0 cy tE a rw (cS0 w)) rfl wm_L_23 wi_X11_kin ws_X11_kin dL_law_253 rfl (Nat.le_of_ble_eq_true rfl) ⟨by decide, by decide, by decide, by decide⟩) (fun r1 u1 p1 => ?_)
          obtain ⟨rfl, -⟩ := p1
          refine z_aload_n B0 dL_law_256 rfl rfl ?_
          refine z_aload_n B0 dL_law_257 rfl rfl ?_
          refine z_iload_n B0 dL_law_258 rfl rfl ?_
          refine z_iconst (v := 1) B0 dL_law_259 (by decide) ?_
          refine z_iadd (v := 1) B0 dL_law_260 (by decide) ?_
          refine y_sld (j := 1) (v := 2) B0 hX hbl (by decide) e1.symm dL_law_261 ?_
          refine z_aload_n B0 dL_law_262 rfl rfl ?_
          refine z_iload_n B0 dL_law_263 rfl rfl ?_
          refine z_iconst (v := 2) B0 dL_law_264 (by decide) ?_
          refine z_iadd (v := 2) B0 dL_law_265 (by decide) ?_
          refine y_sld (j := 2) (v := 1) B0 hX hbl (by decide) e2.symm dL_law_266 ?_
          refine z_aload_n B0 dL_law_267 rfl rfl ?_
          refine z_iload_n B0 dL_law_268 rfl rfl ?_
          refine z_iconst (v := 3) B0 dL_law_269 (by decide) ?_
          refine z_iadd (v := 3) B0 dL_law_270 (by decide) ?_
          refine y_sld (j := 3) (v := x3) B0 hX hbl (by decide) e3.symm dL_law_271 ?_
          refine z_aload_n B0 dL_law_272 rfl rfl ?_
          refine z_iload_n B0 dL_law_273 rfl rfl ?_
          refine z_iconst (v := 4) B0 dL_law_274 (by decide) ?_
          refine z_iadd (v := 4) B0 dL_law_275 (by decide) ?_
          refine y_sld (j := 4) (v := x4) B0 hX hbl (by decide) e4.symm dL_law_276 ?_
          refine z_if_eq_f (tgt := 284) B0 dL_law_277 (by decide) hb4 ?_
          refine z_iconst (v := 1) B0 dL_law_280 (by decide) ?_
          refine z_goto (tgt := 285) B0 dL_law_281 (by decide) ?_
          refine z_callM B0 (z_runV (q0 := 0) (As := [.int 2, .int 1, .int x3, .int 1]) (st := [.int 0]) B0 (c_X12_kin_64 (a := a2) mS0 x3 ⟨by omega, by omega⟩) cf_X12_kin (mw_0 cy a2 mS0) rfl wm_L_27 wi_X12_kin ws_X12_kin dL_law_285 rfl (Nat.le_of_ble_eq_true rfl) ⟨by decide, by decide, by decide, by decide⟩) (fun r2 u2 p2 => ?_)
          obtain ⟨rfl, -⟩ := p2
          refine z_icmp_eq_t (tgt := 1091) B0 dL_law_288 (by decide) rfl ?_
          exact fin u1 u2
      · obtain rfl : x3 = 0 := Int32.toInt_inj.mp (h3.trans (by decide))
        by_cases hb4 : x4 = 0
        · refine z_aload_n B0 dL_law_224 rfl rfl ?_
          refine z_aload_n B0 dL_law_225 rfl rfl ?_
          refine z_iload_n B0 dL_law_226 rfl rfl ?_
          refine z_iconst (v := 1) B0 dL_law_227 (by decide) ?_
          refine z_iadd (v := 1) B0 dL_law_228 (by decide) ?_
          refine y_sld (j := 1) (v := 2) B0 hX hbl (by decide) e1.symm dL_law_229 ?_
          refine z_aload_n B0 dL_law_230 rfl rfl ?_
          refine z_iload_n B0 dL_law_231 rfl rfl ?_
          refine z_iconst (v := 2) B0 dL_law_232 (by decide) ?_
          refine z_iadd (v := 2) B0 dL_law_233 (by decide) ?_
          refine y_sld (j := 2) (v := 1) B0 hX hbl (by decide) e2.symm dL_law_234 ?_
          refine z_aload_n B0 dL_law_235 rfl rfl ?_
          refine z_iload_n B0 dL_law_236 rfl rfl ?_
          refine z_iconst (v := 3) B0 dL_law_237 (by decide) ?_
          refine z_iadd (v := 3) B0 dL_law_238 (by decide) ?_
          refine y_sld (j := 3) (v := 0) B0 hX hbl (by decide) e3.symm dL_law_239 ?_
          refine z_aload_n B0 dL_law_240 rfl rfl ?_
          refine z_iload_n B0 dL_law_241 rfl rfl ?_
          refine z_iconst (v := 4) B0 dL_law_242 (by decide) ?_
          refine z_iadd (v := 4) B0 dL_law_243 (by decide) ?_
          refine y_sld (j := 4) (v := x4) B0 hX hbl (by decide) e4.symm dL_law_244 ?_
          refine z_if_eq_t (tgt := 252) B0 dL_law_245 (by decide) hb4 ?_
          refine z_iconst (v := 0) B0 dL_law_252 (by decide) ?_
          refine z_callC B0 (z_runV (q0 := 0) (As := [.int 2, .int 1, .int 0, .int 0]) (st := []) B0 (c_X11_kin_65 (a := a) (cS0 w)  rfl rfl rfl) cf_X11_kin (cw_0 cy tE a rw (cS0 w)) rfl wm_L_23 wi_X11_kin ws_X11_kin dL_law_253 rfl (Nat.le_of_ble_eq_true rfl) ⟨by decide, by decide, by decide, by decide⟩) (fun r1 u1 p1 => ?_)
          obtain ⟨rfl, -⟩ := p1
          refine z_aload_n B0 dL_law_256 rfl rfl ?_
          refine z_aload_n B0 dL_law_257 rfl rfl ?_
          refine z_iload_n B0 dL_law_258 rfl rfl ?_
          refine z_iconst (v := 1) B0 dL_law_259 (by decide) ?_
          refine z_iadd (v := 1) B0 dL_law_260 (by decide) ?_
          refine y_sld (j := 1) (v := 2) B0 hX hbl (by decide) e1.symm dL_law_261 ?_
          refine z_aload_n B0 dL_law_262 rfl rfl ?_
          refine z_iload_n B0 dL_law_263 rfl rfl ?_
          refine z_iconst (v := 2) B0 dL_law_264 (by decide) ?_
          refine z_iadd (v := 2) B0 dL_law_265 (by decide) ?_
          refine y_sld (j := 2) (v := 1) B0 hX hbl (by decide) e2.symm dL_law_266 ?_
          refine z_aload_n B0 dL_law_267 rfl rfl ?_
          refine z_iload_n B0 dL_law_268 rfl rfl ?_
          refine z_iconst (v := 3) B0 dL_law_269 (by decide) ?_
          refine z_iadd (v := 3) B0 dL_law_270 (by decide) ?_
          refine y_sld (j := 3) (v := 0) B0 hX hbl (by decide) e3.symm dL_law_271 ?_
          refine z_aload_n B0 dL_law_272 rfl rfl ?_
          refine z_iload_n B0 dL_law_273 rfl rfl ?_
          refine z_iconst (v := 4) B0 dL_law_274 (by decide) ?_
          refine z_iadd (v := 4) B0 dL_law_275 (by decide) ?_
          refine y_sld (j := 4) (v := x4) B0 hX hbl (by decide) e4.symm dL_law_276 ?_
          refine z_if_eq_t (tgt := 284) B0 dL_law_277 (by decide) hb4 ?_
          refine z_iconst (v := 0) B0 dL_law_284 (by decide) ?_
          refine z_callM B0 (z_runV (q0 := 0) (As := [.int 2, .int 1, .int 0, .int 0]) (st := [.int 1]) B0 (c_X12_kin_65 (a := a2) mS0  rfl rfl rfl rfl rfl rfl rfl rfl rfl rfl rfl rfl rfl rfl rfl rfl rfl rfl rfl rfl rfl rfl rfl rfl rfl rfl) cf_X12_kin (mw_0 cy a2 mS0) rfl wm_L_27 wi_X12_kin ws_X12_kin dL_law_285 rfl (Nat.le_of_ble_eq_true rfl) ⟨by decide, by decide, by decide, by decide⟩) (fun r2 u2 p2 => ?_)
          obtain ⟨rfl, -⟩ := p2
          refine z_icmp_eq_t (tgt := 1091) B0 dL_law_288 (by decide) rfl ?_
          exact fin u1 u2
        · refine z_aload_n B0 dL_law_224 rfl rfl ?_
          refine z_aload_n B0 dL_law_225 rfl rfl ?_
          refine z_iload_n B0 dL_law_226 rfl rfl ?_
          refine z_iconst (v := 1) B0 dL_law_227 (by decide) ?_
          refine z_iadd (v := 1) B0 dL_law_228 (by decide) ?_
          refine y_sld (j := 1) (v := 2) B0 hX hbl (by decide) e1.symm dL_law_229 ?_
          refine z_aload_n B0 dL_law_230 rfl rfl ?_
          refine z_iload_n B0 dL_law_231 rfl rfl ?_
          refine z_iconst (v := 2) B0 dL_law_232 (by decide) ?_
          refine z_iadd (v := 2) B0 dL_law_233 (by decide) ?_
          refine y_sld (j := 2) (v := 1) B0 hX hbl (by decide) e2.symm dL_law_234 ?_
          refine z_aload_n B0 dL_law_235 rfl rfl ?_
          refine z_iload_n B0 dL_law_236 rfl rfl ?_
          refine z_iconst (v := 3) B0 dL_law_237 (by decide) ?_
          refine z_iadd (v := 3) B0 dL_law_238 (by decide) ?_
          refine y_sld (j := 3) (v := 0) B0 hX hbl (by decide) e3.symm dL_law_239 ?_
          refine z_aload_n B0 dL_law_240 rfl rfl ?_
          refine z_iload_n B0 dL_law_241 rfl rfl ?_
          refine z_iconst (v := 4) B0 dL_law_242 (by decide) ?_
          refine z_iadd (v := 4) B0 dL_law_243 (by decide) ?_
          refine y_sld (j := 4) (v := x4) B0 hX hbl (by decide) e4.symm dL_law_244 ?_
          refine z_if_eq_f (tgt := 252) B0 dL_law_245 (by decide) hb4 ?_
          refine z_iconst (v := 1) B0 dL_law_248 (by decide) ?_
          refine z_goto (tgt := 253) B0 dL_law_249 (by decide) ?_
          refine z_callC B0 (z_runV (q0 := 0) (As := [.int 2, .int 1, .int 0, .int 1]) (st := []) B0 (c_X11_kin_66 (a := a) (cS0 w)  rfl) cf_X11_kin (cw_0 cy tE a rw (cS0 w)) rfl wm_L_23 wi_X11_kin ws_X11_kin dL_law_253 rfl (Nat.le_of_ble_eq_true rfl) ⟨by decide, by decide, by decide, by decide⟩) (fun r1 u1 p1 => ?_)
          obtain ⟨rfl, -⟩ := p1
          refine z_aload_n B0 dL_law_256 rfl rfl ?_
          refine z_aload_n B0 dL_law_257 rfl rfl ?_
          refine z_iload_n B0 dL_law_258 rfl rfl ?_
          refine z_iconst (v := 1) B0 dL_law_259 (by decide) ?_
          refine z_iadd (v := 1) B0 dL_law_260 (by decide) ?_
          refine y_sld (j := 1) (v := 2) B0 hX hbl (by decide) e1.symm dL_law_261 ?_
          refine z_aload_n B0 dL_law_262 rfl rfl ?_
          refine z_iload_n B0 dL_law_263 rfl rfl ?_
          refine z_iconst (v := 2) B0 dL_law_264 (by decide) ?_
          refine z_iadd (v := 2) B0 dL_law_265 (by decide) ?_
          refine y_sld (j := 2) (v := 1) B0 hX hbl (by decide) e2.symm dL_law_266 ?_
          refine z_aload_n B0 dL_law_267 rfl rfl ?_
          refine z_iload_n B0 dL_law_268 rfl rfl ?_
          refine z_iconst (v := 3) B0 dL_law_269 (by decide) ?_
          refine z_iadd (v := 3) B0 dL_law_270 (by decide) ?_
          refine y_sld (j := 3) (v := 0) B0 hX hbl (by decide) e3.symm dL_law_271 ?_
          refine z_aload_n B0 dL_law_272 rfl rfl ?_
          refine z_iload_n B0 dL_law_273 rfl rfl ?_
          refine z_iconst (v := 4) B0 dL_law_274 (by decide) ?_
          refine z_iadd (v := 4) B0 dL_law_275 (by decide) ?_
          refine y_sld (j := 4) (v := x4) B0 hX hbl (by decide) e4.symm dL_law_276 ?_
          refine z_if_eq_f (tgt := 284) B0 dL_law_277 (by decide) hb4 ?_
          refine z_iconst (v := 1) B0 dL_law_280 (by decide) ?_
          refine z_goto (tgt := 285) B0 dL_law_281 (by decide) ?_
          refine z_callM B0 (z_runV (q0 := 0) (As := [.int 2, .int 1, .int 0, .int 1]) (st := [.int 1]) B0 (c_X12_kin_66 (a := a2) mS0  rfl rfl rfl rfl rfl rfl rfl rfl rfl rfl rfl rfl rfl rfl rfl rfl rfl rfl rfl rfl rfl rfl rfl rfl rfl rfl) cf_X12_kin (mw_0 cy a2 mS0) rfl wm_L_27 wi_X12_kin ws_X12_kin dL_law_285 rfl (Nat.le_of_ble_eq_true rfl) ⟨by decide, by decide, by decide, by decide⟩) (fun r2 u2 p2 => ?_)
          obtain ⟨rfl, -⟩ := p2
          refine z_icmp_eq_t (tgt := 1091) B0 dL_law_288 (by decide) rfl ?_
          exact fin u1 u2
      · obtain rfl : x3 = 1 := Int32.toInt_inj.mp (h3.trans (by decide))
        by_cases hb4 : x4 = 0
        · refine z_aload_n B0 dL_law_224 rfl rfl ?_
          refine z_aload_n B0 dL_law_225 rfl rfl ?_
          refine z_iload_n B0 dL_law_226 rfl rfl ?_
          refine z_iconst (v := 1) B0 dL_law_227 (by decide) ?_
          refine z_iadd (v := 1) B0 dL_law_228 (by decide) ?_
          refine y_sld (j := 1) (v := 2) B0 hX hbl (by decide) e1.symm dL_law_229 ?_
          refine z_aload_n B0 dL_law_230 rfl rfl ?_
          refine z_iload_n B0 dL_law_231 rfl rfl ?_
          refine z_iconst (v := 2) B0 dL_law_232 (by decide) ?_
          refine z_iadd (v := 2) B0 dL_law_233 (by decide) ?_
          refine y_sld (j := 2) (v := 1) B0 hX hbl (by decide) e2.symm dL_law_234 ?_
          refine z_aload_n B0 dL_law_235 rfl rfl ?_
          refine z_iload_n B0 dL_law_236 rfl rfl ?_
          refine z_iconst (v := 3) B0 dL_law_237 (by decide) ?_
          refine z_iadd (v := 3) B0 dL_law_238 (by decide) ?_
          refine y_sld (j := 3) (v := 1) B0 hX hbl (by decide) e3.symm dL_law_239 ?_
          refine z_aload_n B0 dL_law_240 rfl rfl ?_
          refine z_iload_n B0 dL_law_241 rfl rfl ?_
          refine z_iconst (v := 4) B0 dL_law_242 (by decide) ?_
          refine z_iadd (v := 4) B0 dL_law_243 (by decide) ?_
          refine y_sld (j := 4) (v := x4) B0 hX hbl (by decide) e4.symm dL_law_244 ?_
          refine z_if_eq_t (tgt := 252) B0 dL_law_245 (by decide) hb4 ?_
          refine z_iconst (v := 0) B0 dL_law_252 (by decide) ?_
          refine z_callC B0 (z_runV (q0 := 0) (As := [.int 2, .int 1, .int 1, .int 0]) (st := []) B0 (c_X11_kin_67 (a := a) (cS0 w)  rfl rfl) cf_X11_kin (cw_0 cy tE a rw (cS0 w)) rfl wm_L_23 wi_X11_kin ws_X11_kin dL_law_253 rfl (Nat.le_of_ble_eq_true rfl) ⟨by decide, by decide, by decide, by decide⟩) (fun r1 u1 p1 => ?_)
          obtain ⟨rfl, -⟩ := p1
          refine z_aload_n B0 dL_law_256 rfl rfl ?_
          refine z_aload_n B0 dL_law_257 rfl rfl ?_
          refine z_iload_n B0 dL_law_258 rfl rfl ?_
          refine z_iconst (v := 1) B0 dL_law_259 (by decide) ?_
          refine z_iadd (v := 1) B0 dL_law_260 (by decide) ?_
          refine y_sld (j := 1) (v := 2) B0 hX hbl (by decide) e1.symm dL_law_261 ?_
          refine z_aload_n B0 dL_law_262 rfl rfl ?_
          refine z_iload_n B0 dL_law_263 rfl rfl ?_
          refine z_iconst (v := 2) B0 dL_law_264 (by decide) ?_
          refine z_iadd (v := 2) B0 dL_law_265 (by decide) ?_
          refine y_sld (j := 2) (v := 1) B0 hX hbl (by decide) e2.symm dL_law_266 ?_
          refine z_aload_n B0 dL_law_267 rfl rfl ?_
          refine z_iload_n B0 dL_law_268 rfl rfl ?_
          refine z_iconst (v := 3) B0 dL_law_269 (by decide) ?_
          refine z_iadd (v := 3) B0 dL_law_270 (by decide) ?_
          refine y_sld (j := 3) (v := 1) B0 hX hbl (by decide) e3.symm dL_law_271 ?_
          refine z_aload_n B0 dL_law_272 rfl rfl ?_
          refine z_iload_n B0 dL_law_273 rfl rfl ?_
          refine z_iconst (v := 4) B0 dL_law_274 (by decide) ?_
          refine z_iadd (v := 4) B0 dL_law_275 (by decide) ?_
          refine y_sld (j := 4) (v := x4) B0 hX hbl (by decide) e4.symm dL_law_276 ?_
          refine z_if_eq_t (tgt := 284) B0 dL_law_277 (by decide) hb4 ?_
          refine z_iconst (v := 0) B0 dL_law_284 (by decide) ?_
          refine z_callM B0 (z_runV (q0 := 0) (As := [.int 2, .int 1, .int 1, .int 0]) (st := [.int 1]) B0 (c_X12_kin_67 (a := a2) mS0  rfl rfl rfl rfl rfl rfl rfl rfl rfl rfl rfl rfl rfl rfl rfl rfl rfl rfl rfl rfl rfl rfl rfl rfl rfl rfl) cf_X12_kin (mw_0 cy a2 mS0) rfl wm_L_27 wi_X12_kin ws_X12_kin dL_law_285 rfl (Nat.le_of_ble_eq_true rfl) ⟨by decide, by decide, by decide, by decide⟩) (fun r2 u2 p2 => ?_)
          obtain ⟨rfl, -⟩ := p2
          refine z_icmp_eq_t (tgt := 1091) B0 dL_law_288 (by decide) rfl ?_
          exact fin u1 u2
        · refine z_aload_n B0 dL_law_224 rfl rfl ?_
          refine z_aload_n B0 dL_law_225 rfl rfl ?_
          refine z_iload_n B0 dL_law_226 rfl rfl ?_
          refine z_iconst (v := 1) B0 dL_law_227 (by decide) ?_
          refine z_iadd (v := 1) B0 dL_law_228 (by decide) ?_
          refine y_sld (j := 1) (v := 2) B0 hX hbl (by decide) e1.symm dL_law_229 ?_
          refine z_aload_n B0 dL_law_230 rfl rfl ?_
          refine z_iload_n B0 dL_law_231 rfl rfl ?_
          refine z_iconst (v := 2) B0 dL_law_232 (by decide) ?_
          refine z_iadd (v := 2) B0 dL_law_233 (by decide) ?_
          refine y_sld (j := 2) (v := 1) B0 hX hbl (by decide) e2.symm dL_law_234 ?_
          refine z_aload_n B0 dL_law_235 rfl rfl ?_
          refine z_iload_n B0 dL_law_236 rfl rfl ?_
          refine z_iconst (v := 3) B0 dL_law_237 (by decide) ?_
          refine z_iadd (v := 3) B0 dL_law_238 (by decide) ?_
          refine y_sld (j := 3) (v := 1) B0 hX hbl (by decide) e3.symm dL_law_239 ?_
          refine z_aload_n B0 dL_law_240 rfl rfl ?_
          refine z_iload_n B0 dL_law_241 rfl rfl ?_
          refine z_iconst (v := 4) B0 dL_law_242 (by decide) ?_
          refine z_iadd (v := 4) B0 dL_law_243 (by decide) ?_
          refine y_sld (j := 4) (v := x4) B0 hX hbl (by decide) e4.symm dL_law_244 ?_
          refine z_if_eq_f (tgt := 252) B0 dL_law_245 (by decide) hb4 ?_
          refine z_iconst (v := 1) B0 dL_law_248 (by decide) ?_
          refine z_goto (tgt := 253) B0 dL_law_249 (by decide) ?_
          refine z_callC B0 (z_runV (q0 := 0) (As := [.int 2, .int 1, .int 1, .int 1]) (st := []) B0 (c_X11_kin_68 (a := a) (cS0 w)  rfl) cf_X11_kin (cw_0 cy tE a rw (cS0 w)) rfl wm_L_23 wi_X11_kin ws_X11_kin dL_law_253 rfl (Nat.le_of_ble_eq_true rfl) ⟨by decide, by decide, by decide, by decide⟩) (fun r1 u1 p1 => ?_)
          obtain ⟨rfl, -⟩ := p1
          refine z_aload_n B0 dL_law_256 rfl rfl ?_
          refine z_aload_n B0 dL_law_257 rfl rfl ?_
          refine z_iload_n B0 dL_law_258 rfl rfl ?_
          refine z_iconst (v := 1) B0 dL_law_259 (by decide) ?_
          refine z_iadd (v := 1) B0 dL_law_260 (by decide) ?_
          refine y_sld (j := 1) (v := 2) B0 hX hbl (by decide) e1.symm dL_law_261 ?_
          refine z_aload_n B0 dL_law_262 rfl rfl ?_
          refine z_iload_n B0 dL_law_263 rfl rfl ?_
          refine z_iconst (v := 2) B0 dL_law_264 (by decide) ?_
          refine z_iadd (v := 2) B0 dL_law_265 (by decide) ?_
          refine y_sld (j := 2) (v := 1) B0 hX hbl (by decide) e2.symm dL_law_266 ?_
          refine z_aload_n B0 dL_law_267 rfl rfl ?_
          refine z_iload_n B0 dL_law_268 rfl rfl ?_
          refine z_iconst (v := 3) B0 dL_law_269 (by decide) ?_
          refine z_iadd (v := 3) B0 dL_law_270 (by decide) ?_
          refine y_sld (j := 3) (v := 1) B0 hX hbl (by decide) e3.symm dL_law_271 ?_
          refine z_aload_n B0 dL_law_272 rfl rfl ?_
          refine z_iload_n B0 dL_law_273 rfl rfl ?_
          refine z_iconst (v := 4) B0 dL_law_274 (by decide) ?_
          refine z_iadd (v := 4) B0 dL_law_275 (by decide) ?_
          refine y_sld (j := 4) (v := x4) B0 hX hbl (by decide) e4.symm dL_law_276 ?_
          refine z_if_eq_f (tgt := 284) B0 dL_law_277 (by decide) hb4 ?_
          refine z_iconst (v := 1) B0 dL_law_280 (by decide) ?_
          refine z_goto (tgt := 285) B0 dL_law_281 (by decide) ?_
          refine z_callM B0 (z_runV (q0 := 0) (As := [.int 2, .int 1, .int 1, .int 1]) (st := [.int 1]) B0 (c_X12_kin_68 (a := a2) mS0  rfl rfl rfl rfl rfl rfl rfl rfl rfl rfl rfl rfl rfl rfl rfl rfl rfl rfl rfl rfl rfl rfl rfl rfl rfl rfl) cf_X12_kin (mw_0 cy a2 mS0) rfl wm_L_27 wi_X12_kin ws_X12_kin dL_law_285 rfl (Nat.le_of_ble_eq_true rfl) ⟨by decide, by decide, by decide, by decide⟩) (fun r2 u2 p2 => ?_)
          obtain ⟨rfl, -⟩ := p2
          refine z_icmp_eq_t (tgt := 1091) B0 dL_law_288 (by decide) rfl ?_
          exact fin u1 u2
      · by_cases hb4 : x4 = 0
        · refine z_aload_n B0 dL_law_224 rfl rfl ?_
          refine z_aload_n B0 dL_law_225 rfl rfl ?_
          refine z_iload_n B0 dL_law_226 rfl rfl ?_
          refine z_iconst (v := 1) B0 dL_law_227 (by decide) ?_
          refine z_iadd (v := 1) B0 dL_law_228 (by decide) ?_
          refine y_sld (j := 1) (v := 2) B0 hX hbl (by decide) e1.symm dL_law_229 ?_
          refine z_aload_n B0 dL_law_230 rfl rfl ?_
          refine z_iload_n B0 dL_law_231 rfl rfl ?_
          refine z_iconst (v := 2) B0 dL_law_232 (by decide) ?_
          refine z_iadd (v := 2) B0 dL_law_233 (by decide) ?_
          refine y_sld (j := 2) (v := 1) B0 hX hbl (by decide) e2.symm dL_law_234 ?_
          refine z_aload_n B0 dL_law_235 rfl rfl ?_
          refine z_iload_n B0 dL_law_236 rfl rfl ?_
          refine z_iconst (v := 3) B0 dL_law_237 (by decide) ?_
          refine z_iadd (v := 3) B0 dL_law_238 (by decide) ?_
          refine y_sld (j := 3) (v := x3) B0 hX hbl (by decide) e3.symm dL_law_239 ?_
          refine z_aload_n B0 dL_law_240 rfl rfl ?_
          refine z_iload_n B0 dL_law_241 rfl rfl ?_
          refine z_iconst (v := 4) B0 dL_law_242 (by decide) ?_
          refine z_iadd (v := 4) B0 dL_law_243 (by decide) ?_
          refine y_sld (j := 4) (v := x4) B0 hX hbl (by decide) e4.symm dL_law_244 ?_
          refine z_if_eq_t (tgt := 252) B0 dL_law_245 (by decide) hb4 ?_
          refine z_iconst (v := 0) B0 dL_law_252 (by decide) ?_
          refine z_callC B0 (z_runV (q0 := 0) (As := [.int 2, .int 1, .int x3, .int 0]) (st := []) B0 (c_X11_kin_69 (a := a) (cS0 w) x3 ⟨by omega, by omega⟩) cf_X11_kin (cw_0 cy tE a rw (cS0 w)) rfl wm_L_23 wi_X11_kin ws_X11_kin dL_law_253 rfl (Nat.le_of_ble_eq_true rfl) ⟨by decide, by decide, by decide, by decide⟩) (fun r1 u1 p1 => ?_)
          obtain ⟨rfl, -⟩ := p1
          refine z_aload_n B0 dL_law_256 rfl rfl ?_
          refine z_aload_n B0 dL_law_257 rfl rfl ?_
          refine z_iload_n B0 dL_law_258 rfl rfl ?_
          refine z_iconst (v := 1) B0 dL_law_259 (by decide) ?_
          refine z_iadd (v := 1) B0 dL_law_260 (by decide) ?_
          refine y_sld (j := 1) (v := 2) B0 hX hbl (by decide) e1.symm dL_law_261 ?_
          refine z_aload_n B0 dL_law_262 rfl rfl ?_
          refine z_iload_n B0 dL_law_263 rfl rfl ?_
          refine z_iconst (v := 2) B0 dL_law_264 (by decide) ?_
          refine z_iadd (v := 2) B0 dL_law_265 (by decide) ?_
          refine y_sld (j := 2) (v := 1) B0 hX hbl (by decide) e2.symm dL_law_266 ?_
          refine z_aload_n B0 dL_law_267 rfl rfl ?_
          refine z_iload_n B0 dL_law_268 rfl rfl ?_
          refine z_iconst (v := 3) B0 dL_law_269 (by decide) ?_
          refine z_iadd (v := 3) B0 dL_law_270 (by decide) ?_
          refine y_sld (j := 3) (v := x3) B0 hX hbl (by decide) e3.symm dL_law_271 ?_
          refine z_aload_n B0 dL_law_272 rfl rfl ?_
          refine z_iload_n B0 dL_law_273 rfl rfl ?_
          refine z_iconst (v := 4) B0 dL_law_274 (by decide) ?_
          refine z_iadd (v := 4) B0 dL_law_275 (by decide) ?_
          refine y_sld (j := 4) (v := x4) B0 hX hbl (by decide) e4.symm dL_law_276 ?_
          refine z_if_eq_t (tgt := 284) B0 dL_law_277 (by decide) hb4 ?_
          refine z_iconst (v := 0) B0 dL_law_284 (by decide) ?_
          refine z_callM B0 (z_runV (q0 := 0) (As := [.int 2, .int 1, .int x3, .int 0]) (st := [.int 0]) B0 (c_X12_kin_69 (a := a2) mS0 x3 ⟨by omega, by omega⟩) cf_X12_kin (mw_0 cy a2 mS0) rfl wm_L_27 wi_X12_kin ws_X12_kin dL_law_285 rfl (Nat.le_of_ble_eq_true rfl) ⟨by decide, by decide, by decide, by decide⟩) (fun r2 u2 p2 => ?_)
          obtain ⟨rfl, -⟩ := p2
          refine z_icmp_eq_t (tgt := 1091) B0 dL_law_288 (by decide) rfl ?_
          exact fin u1 u2
        · refine z_aload_n B0 dL_law_224 rfl rfl ?_
          refine z_aload_n B0 dL_law_225 rfl rfl ?_
          refine z_iload_n B0 dL_law_226 rfl rfl ?_
          refine z_iconst (v := 1) B0 dL_law_227 (by decide) ?_
          refine z_iadd (v := 1) B0 dL_law_228 (by decide) ?_
          refine y_sld (j := 1) (v := 2) B0 hX hbl (by decide) e1.symm dL_law_229 ?_
          refine z_aload_n B0 dL_law_230 rfl rfl ?_
          refine z_iload_n B0 dL_law_231 rfl rfl ?_
          refine z_iconst (v := 2) B0 dL_law_232 (by decide) ?_
          refine z_iadd (v := 2) B0 dL_law_233 (by decide) ?_
          refine y_sld (j := 2) (v := 1) B0 hX hbl (by decide) e2.symm dL_law_234 ?_
          refine z_aload_n B0 dL_law_235 rfl rfl ?_
          refine z_iload_n B0 dL_law_236 rfl rfl ?_
          refine z_iconst (v := 3) B0 dL_law_237 (by decide) ?_
          refine z_iadd (v := 3) B0 dL_law_238 (by decide) ?_
          refine y_sld (j := 3) (v := x3) B0 hX hbl (by decide) e3.symm dL_law_239 ?_
          refine z_aload_n B0 dL_law_240 rfl rfl ?_
          refine z_iload_n B0 dL_law_241 rfl rfl ?_
          refine z_iconst (v := 4) B0 dL_law_242 (by decide) ?_
          refine z_iadd (v := 4) B0 dL_law_243 (by decide) ?_
          refine y_sld (j := 4) (v := x4) B0 hX hbl (by decide) e4.symm dL_law_244 ?_
          refine z_if_eq_f (tgt := 252) B0 dL_law_245 (by decide) hb4 ?_
          refine z_iconst (v := 1) B0 dL_law_248 (by decide) ?_
          refine z_goto (tgt := 253) B0 dL_law_249 (by decide) ?_
          refine z_callC B0 (z_runV (q0 := 0) (As := [.int 2, .int 1, .int x3, .int 1]) (st := []) B0 (c_X11_kin_70 (a := a) (cS0 w) x3 ⟨by omega, by omega⟩) cf_X11_kin (cw_0 cy tE a rw (cS0 w)) rfl wm_L_23 wi_X11_kin ws_X11_kin dL_law_253 rfl (Nat.le_of_ble_eq_true rfl) ⟨by decide, by decide, by decide, by decide⟩) (fun r1 u1 p1 => ?_)
          obtain ⟨rfl, -⟩ := p1
          refine z_aload_n B0 dL_law_256 rfl rfl ?_
          refine z_aload_n B0 dL_law_257 rfl rfl ?_
          refine z_iload_n B0 dL_law_258 rfl rfl ?_
          refine z_iconst (v := 1) B0 dL_law_259 (by decide) ?_
          refine z_iadd (v := 1) B0 dL_law_260 (by decide) ?_
          refine y_sld (j := 1) (v := 2) B0 hX hbl (by decide) e1.symm dL_law_261 ?_
          refine z_aload_n B0 dL_law_262 rfl rfl ?_
          refine z_iload_n B0 dL_law_263 rfl rfl ?_
          refine z_iconst (v := 2) B0 dL_law_264 (by decide) ?_
          refine z_iadd (v := 2) B0 dL_law_265 (by decide) ?_
          refine y_sld (j := 2) (v := 1) B0 hX hbl (by decide) e2.symm dL_law_266 ?_
          refine z_aload_n B0 dL_law_267 rfl rfl ?_
          refine z_iload_n B0 dL_law_268 rfl rfl ?_
          refine z_iconst (v := 3) B0 dL_law_269 (by decide) ?_
          refine z_iadd (v := 3) B0 dL_law_270 (by decide) ?_
          refine y_sld (j := 3) (v := x3) B0 hX hbl (by decide) e3.symm dL_law_271 ?_
          refine z_aload_n B0 dL_law_272 rfl rfl ?_
          refine z_iload_n B0 dL_law_273 rfl rfl ?_
          refine z_iconst (v := 4) B0 dL_law_274 (by decide) ?_
          refine z_iadd (v := 4) B0 dL_law_275 (by decide) ?_
          refine y_sld (j := 4) (v := x4) B0 hX hbl (by decide) e4.symm dL_law_276 ?_
          refine z_if_eq_f (tgt := 284) B0 dL_law_277 (by decide) hb4 ?_
          refine z_iconst (v := 1) B0 dL_law_280 (by decide) ?_
          refine z_goto (tgt := 285) B0 dL_law_281 (by decide) ?_
          refine z_callM B0 (z_runV (q0 := 0) (As := [.int 2, .int 1, .int x3, .int 1]) (st := [.int 0]) B0 (c_X12_kin_70 (a := a2) mS0 x3 ⟨by omega, by omega⟩) cf_X12_kin (mw_0 cy a2 mS0) rfl wm_L_27 wi_X12_kin ws_X12_kin dL_law_285 rfl (Nat.le_of_ble_eq_true rfl) ⟨by decide, by decide, by decide, by decide⟩) (fun r2 u2 p2 => ?_)
          obtain ⟨rfl, -⟩ := p2
          refine z_icmp_eq_t (tgt := 1091) B0 dL_law_288 (by decide) rfl ?_
          exact fin u1 u2
    · obtain rfl : x2 = 2 := Int32.toInt_inj.mp (h2.trans (by decide))
      by_cases hb4 : x4 = 0
      · refine z_aload_n B0 dL_law_224 rfl rfl ?_
        refine z_aload_n B0 dL_law_225 rfl rfl ?_
        refine z_iload_n B0 dL_law_226 rfl rfl ?_
        refine z_iconst (v := 1) B0 dL_law_227 (by decide) ?_
        refine z_iadd (v := 1) B0 dL_law_228 (by decide) ?_
        refine y_sld (j := 1) (v := 2) B0 hX hbl (by decide) e1.symm dL_law_229 ?_
        refine z_aload_n B0 dL_law_230 rfl rfl ?_
        refine z_iload_n B0 dL_law_231 rfl rfl ?_
        refine z_iconst (v := 2) B0 dL_law_232 (by decide) ?_
        refine z_iadd (v := 2) B0 dL_law_233 (by decide) ?_
        refine y_sld (j := 2) (v := 2) B0 hX hbl (by decide) e2.symm dL_law_234 ?_
        refine z_aload_n B0 dL_law_235 rfl rfl ?_
        refine z_iload_n B0 dL_law_236 rfl rfl ?_
        refine z_iconst (v := 3) B0 dL_law_237 (by decide) ?_
        refine z_iadd (v := 3) B0 dL_law_238 (by decide) ?_
        refine y_sld (j := 3) (v := x3) B0 hX hbl (by decide) e3.symm dL_law_239 ?_
        refine z_aload_n B0 dL_law_240 rfl rfl ?_
        refine z_iload_n B0 dL_law_241 rfl rfl ?_
        refine z_iconst (v := 4) B0 dL_law_242 (by decide) ?_
        refine z_iadd (v := 4) B0 dL_law_243 (by decide) ?_
        refine y_sld (j := 4) (v := x4) B0 hX hbl (by decide) e4.symm dL_law_244 ?_
        refine z_if_eq_t (tgt := 252) B0 dL_law_245 (by decide) hb4 ?_
        refine z_iconst (v := 0) B0 dL_law_252 (by decide) ?_
        refine z_callC B0 (z_runV (q0 := 0) (As := [.int 2, .int 2, .int x3, .int 0]) (st := []) B0 (c_X11_kin_21 (a := a) (cS0 w) x3 ) cf_X11_kin (cw_0 cy tE a rw (cS0 w)) rfl wm_L_23 wi_X11_kin ws_X11_kin dL_law_253 rfl (Nat.le_of_ble_eq_true rfl) ⟨by decide, by decide, by decide, by decide⟩) (fun r1 u1 p1 => ?_)
        obtain ⟨rfl, -⟩ := p1
        refine z_aload_n B0 dL_law_256 rfl rfl ?_
        refine z_aload_n B0 dL_law_257 rfl rfl ?_
        refine z_iload_n B0 dL_law_258 rfl rfl ?_
        refine z_iconst (v := 1) B0 dL_law_259 (by decide) ?_
        refine z_iadd (v := 1) B0 dL_law_260 (by decide) ?_
        refine y_sld (j := 1) (v := 2) B0 hX hbl (by decide) e1.symm dL_law_261 ?_
        refine z_aload_n B0 dL_law_262 rfl rfl ?_
        refine z_iload_n B0 dL_law_263 rfl rfl ?_
        refine z_iconst (v := 2) B0 dL_law_264 (by decide) ?_
        refine z_iadd (v := 2) B0 dL_law_265 (by decide) ?_
        refine y_sld (j := 2) (v := 2) B0 hX hbl (by decide) e2.symm dL_law_266 ?_
        refine z_aload_n B0 dL_law_267 rfl rfl ?_
        refine z_iload_n B0 dL_law_268 rfl rfl ?_
        refine z_iconst (v := 3) B0 dL_law_269 (by decide) ?_
        refine z_iadd (v := 3) B0 dL_law_270 (by decide) ?_
        refine y_sld (j := 3) (v := x3) B0 hX hbl (by decide) e3.symm dL_law_271 ?_
        refine z_aload_n B0 dL_law_272 rfl rfl ?_
        refine z_iload_n B0 dL_law_273 rfl rfl ?_
        refine z_iconst (v := 4) B0 dL_law_274 (by decide) ?_
        refine z_iadd (v := 4) B0 dL_law_275 (by decide) ?_
        refine y_sld (j := 4) (v := x4) B0 hX hbl (by decide) e4.symm dL_law_276 ?_
        refine z_if_eq_t (tgt := 284) B0 dL_law_277 (by decide) hb4 ?_
        refine z_iconst (v := 0) B0 dL_law_284 (by decide) ?_
        refine z_callM B0 (z_runV (q0 := 0) (As := [.int 2, .int 2, .int x3, .int 0]) (st := [.int 0]) B0 (c_X12_kin_21 (a := a2) mS0 x3 ) cf_X12_kin (mw_0 cy a2 mS0) rfl wm_L_27 wi_X12_kin ws_X12_kin dL_law_285 rfl (Nat.le_of_ble_eq_true rfl) ⟨by decide, by decide, by decide, by decide⟩) (fun r2 u2 p2 => ?_)
        obtain ⟨rfl, -⟩ := p2
        refine z_icmp_eq_t (tgt := 1091) B0 dL_law_288 (by decide) rfl ?_
        exact fin u1 u2
      · refine z_aload_n B0 dL_law_224 rfl rfl ?_
        refine z_aload_n B0 dL_law_225 rfl rfl ?_
        refine z_iload_n B0 dL_law_226 rfl rfl ?_
        refine z_iconst (v := 1) B0 dL_law_227 (by decide) ?_
        refine z_iadd (v := 1) B0 dL_law_228 (by decide) ?_
        refine y_sld (j := 1) (v := 2) B0 hX hbl (by decide) e1.symm dL_law_229 ?_
        refine z_aload_n B0 dL_law_230 rfl rfl ?_
        refine z_iload_n B0 dL_law_231 rfl rfl ?_
        refine z_iconst (v := 2) B0 dL_law_232 (by decide) ?_
        refine z_iadd (v := 2) B0 dL_law_233 (by decide) ?_
        refine y_sld (j := 2) (v := 2) B0 hX hbl (by decide) e2.symm dL_law_234 ?_
        refine z_aload_n B0 dL_law_235 rfl rfl ?_
        refine z_iload_n B0 dL_law_236 rfl rfl ?_
        refine z_iconst (v := 3) B0 dL_law_237 (by decide) ?_
        refine z_iadd (v := 3) B0 dL_law_238 (by decide) ?_
        refine y_sld (j := 3) (v := x3) B0 hX hbl (by decide) e3.symm dL_law_239 ?_
        refine z_aload_n B0 dL_law_240 rfl rfl ?_
        refine z_iload_n B0 dL_law_241 rfl rfl ?_
        refine z_iconst (v := 4) B0 dL_law_242 (by decide) ?_
        refine z_iadd (v := 4) B0 dL_law_243 (by decide) ?_
        refine y_sld (j := 4) (v := x4) B0 hX hbl (by decide) e4.symm dL_law_244 ?_
        refine z_if_eq_f (tgt := 252) B0 dL_law_245 (by decide) hb4 ?_
        refine z_iconst (v := 1) B0 dL_law_248 (by decide) ?_
        refine z_goto (tgt := 253) B0 dL_law_249 (by decide) ?_
        refine z_callC B0 (z_runV (q0 := 0) (As := [.int 2, .int 2, .int x3, .int 1]) (st := []) B0 (c_X11_kin_22 (a := a) (cS0 w) x3 ) cf_X11_kin (cw_0 cy tE a rw (cS0 w)) rfl wm_L_23 wi_X11_kin ws_X11_kin dL_law_253 rfl (Nat.le_of_ble_eq_true rfl) ⟨by decide, by decide, by decide, by decide⟩) (fun r1 u1 p1 => ?_)
        obtain ⟨rfl, -⟩ := p1
        refine z_aload_n B0 dL_law_256 rfl rfl ?_
        refine z_aload_n B0 dL_law_257 rfl rfl ?_
        refine z_iload_n B0 dL_law_258 rfl rfl ?_
        refine z_iconst (v := 1) B0 dL_law_259 (by decide) ?_
        refine z_iadd (v := 1) B0 dL_law_260 (by decide) ?_
        refine y_sld (j := 1) (v := 2) B0 hX hbl (by decide) e1.symm dL_law_261 ?_
        refine z_aload_n B0 dL_law_262 rfl rfl ?_
        refine z_iload_n B0 dL_law_263 rfl rfl ?_
        refine z_iconst (v := 2) B0 dL_law_264 (by decide) ?_
        refine z_iadd (v := 2) B0 dL_law_265 (by decide) ?_
        refine y_sld (j := 2) (v := 2) B0 hX hbl (by decide) e2.symm dL_law_266 ?_
        refine z_aload_n B0 dL_law_267 rfl rfl ?_
        refine z_iload_n B0 dL_law_268 rfl rfl ?_
        refine z_iconst (v := 3) B0 dL_law_269 (by decide) ?_
        refine z_iadd (v := 3) B0 dL_law_270 (by decide) ?_
        refine y_sld (j := 3) (v := x3) B0 hX hbl (by decide) e3.symm dL_law_271 ?_
        refine z_aload_n B0 dL_law_272 rfl rfl ?_
        refine z_iload_n B0 dL_law_273 rfl rfl ?_
        refine z_iconst (v := 4) B0 dL_law_274 (by decide) ?_
        refine z_iadd (v := 4) B0 dL_law_275 (by decide) ?_
        refine y_sld (j := 4) (v := x4) B0 hX hbl (by decide) e4.symm dL_law_276 ?_
        refine z_if_eq_f (tgt := 284) B0 dL_law_277 (by decide) hb4 ?_
        refine z_iconst (v := 1) B0 dL_law_280 (by decide) ?_
        refine z_goto (tgt := 285) B0 dL_law_281 (by decide) ?_
        refine z_callM B0 (z_runV (q0 := 0) (As := [.int 2, .int 2, .int x3, .int 1]) (st := [.int 0]) B0 (c_X12_kin_22 (a := a2) mS0 x3 ) cf_X12_kin (mw_0 cy a2 mS0) rfl wm_L_27 wi_X12_kin ws_X12_kin dL_law_285 rfl (Nat.le_of_ble_eq_true rfl) ⟨by decide, by decide, by decide, by decide⟩) (fun r2 u2 p2 => ?_)
        obtain ⟨rfl, -⟩ := p2
        refine z_icmp_eq_t (tgt := 1091) B0 dL_law_288 (by decide) rfl ?_
        exact fin u1 u2
    · by_cases hb4 : x4 = 0
      · refine z_aload_n B0 dL_law_224 rfl rfl ?_
        refine z_aload_n B0 dL_law_225 rfl rfl ?_
        refine z_iload_n B0 dL_law_226 rfl rfl ?_
        refine z_iconst (v := 1) B0 dL_law_227 (by decide) ?_
        refine z_iadd (v := 1) B0 dL_law_228 (by decide) ?_
        refine y_sld (j := 1) (v := 2) B0 hX hbl (by decide) e1.symm dL_law_229 ?_
        refine z_aload_n B0 dL_law_230 rfl rfl ?_
        refine z_iload_n B0 dL_law_231 rfl rfl ?_
        refine z_iconst (v := 2) B0 dL_law_232 (by decide) ?_
        refine z_iadd (v := 2) B0 dL_law_233 (by decide) ?_
        refine y_sld (j := 2) (v := x2) B0 hX hbl (by decide) e2.symm dL_law_234 ?_
        refine z_aload_n B0 dL_law_235 rfl rfl ?_
        refine z_iload_n B0 dL_law_236 rfl rfl ?_
        refine z_iconst (v := 3) B0 dL_law_237 (by decide) ?_
        refine z_iadd (v := 3) B0 dL_law_238 (by decide) ?_
        refine y_sld (j := 3) (v := x3) B0 hX hbl (by decide) e3.symm dL_law_239 ?_
        refine z_aload_n B0 dL_law_240 rfl rfl ?_
        refine z_iload_n B0 dL_law_241 rfl rfl ?_
        refine z_iconst (v := 4) B0 dL_law_242 (by decide) ?_
        refine z_iadd (v := 4) B0 dL_law_243 (by decide) ?_
        refine y_sld (j := 4) (v := x4) B0 hX hbl (by decide) e4.symm dL_law_244 ?_
        refine z_if_eq_t (tgt := 252) B0 dL_law_245 (by decide) hb4 ?_
        refine z_iconst (v := 0) B0 dL_law_252 (by decide) ?_
        refine z_callC B0 (z_runV (q0 := 0) (As := [.int 2, .int x2, .int x3, .int 0]) (st := []) B0 (c_X11_kin_19 (a := a) (cS0 w) x2 x3 ⟨by omega, by omega⟩) cf_X11_kin (cw_0 cy tE a rw (cS0 w)) rfl wm_L_23 wi_X11_kin ws_X11_kin dL_law_253 rfl (Nat.le_of_ble_eq_true rfl) ⟨by decide, by decide, by decide, by decide⟩) (fun r1 u1 p1 => ?_)
        obtain ⟨rfl, -⟩ := p1
        refine z_aload_n B0 dL_law_256 rfl rfl ?_
        refine z_aload_n B0 dL_law_257 rfl rfl ?_
        refine z_iload_n B0 dL_law_258 rfl rfl ?_
        refine z_iconst (v := 1) B0 dL_law_259 (by decide) ?_
        refine z_iadd (v := 1) B0 dL_law_260 (by decide) ?_
        refine y_sld (j := 1) (v := 2) B0 hX hbl (by decide) e1.symm dL_law_261 ?_
        refine z_aload_n B0 dL_law_262 rfl rfl ?_
        refine z_iload_n B0 dL_law_263 rfl rfl ?_
        refine z_iconst (v := 2) B0 dL_law_264 (by decide) ?_
        refine z_iadd (v := 2) B0 dL_law_265 (by decide) ?_
        refine y_sld (j := 2) (v := x2) B0 hX hbl (by decide) e2.symm dL_law_266 ?_
        refine z_aload_n B0 dL_law_267 rfl rfl ?_
        refine z_iload_n B0 dL_law_268 rfl rfl ?_
        refine z_iconst (v := 3) B0 dL_law_269 (by decide) ?_
        refine z_iadd (v := 3) B0 dL_law_270 (by decide) ?_
        refine y_sld (j := 3) (v := x3) B0 hX hbl (by decide) e3.symm dL_law_271 ?_
        refine z_aload_n B0 dL_law_272 rfl rfl ?_
        refine z_iload_n B0 dL_law_273 rfl rfl ?_
        refine z_iconst (v := 4) B0 dL_law_274 (by decide) ?_
        refine z_iadd (v := 4) B0 dL_law_275 (by decide) ?_
        refine y_sld (j := 4) (v := x4) B0 hX hbl (by decide) e4.symm dL_law_276 ?_
        refine z_if_eq_t (tgt := 284) B0 dL_law_277 (by decide) hb4 ?_
        refine z_iconst (v := 0) B0 dL_law_284 (by decide) ?_
        refine z_callM B0 (z_runV (q0 := 0) (As := [.int 2, .int x2, .int x3, .int 0]) (st := [.int 0]) B0 (c_X12_kin_19 (a := a2) mS0 x2 x3 ⟨by omega, by omega⟩) cf_X12_kin (mw_0 cy a2 mS0) rfl wm_L_27 wi_X12_kin ws_X12_kin dL_law_285 rfl (Nat.le_of_ble_eq_true rfl) ⟨by decide, by decide, by decide, by decide⟩) (fun r2 u2 p2 => ?_)
        obtain ⟨rfl, -⟩ := p2
        refine z_icmp_eq_t (tgt := 1091) B0 dL_law_288 (by decide) rfl ?_
        exact fin u1 u2
      · refine z_aload_n B0 dL_law_224 rfl rfl ?_
        refine z_aload_n B0 dL_law_225 rfl rfl ?_
        refine z_iload_n B0 dL_law_226 rfl rfl ?_
        refine z_iconst (v := 1) B0 dL_law_227 (by decide) ?_
        refine z_iadd (v := 1) B0 dL_law_228 (by decide) ?_
        refine y_sld (j := 1) (v := 2) B0 hX hbl (by decide) e1.symm dL_law_229 ?_
        refine z_aload_n B0 dL_law_230 rfl rfl ?_
        refine z_iload_n B0 dL_law_231 rfl rfl ?_
        refine z_iconst (v := 2) B0 dL_law_232 (by decide) ?_
        refine z_iadd (v := 2) B0 dL_law_233 (by decide) ?_
        refine y_sld (j := 2) (v := x2) B0 hX hbl (by decide) e2.symm dL_law_234 ?_
        refine z_aload_n B0 dL_law_235 rfl rfl ?_
        refine z_iload_n B0 dL_law_236 rfl rfl ?_
        refine z_iconst (v := 3) B0 dL_law_237 (by decide) ?_
        refine z_iadd (v := 3) B0 dL_law_238 (by decide) ?_
        refine y_sld (j := 3) (v := x3) B0 hX hbl (by decide) e3.symm dL_law_239 ?_
        refine z_aload_n B0 dL_law_240 rfl rfl ?_
        refine z_iload_n B0 dL_law_241 rfl rfl ?_
        refine z_iconst (v := 4) B0 dL_law_242 (by decide) ?_
        refine z_iadd (v := 4) B0 dL_law_243 (by decide) ?_
        refine y_sld (j := 4) (v := x4) B0 hX hbl (by decide) e4.symm dL_law_244 ?_
        refine z_if_eq_f (tgt := 252) B0 dL_law_245 (by decide) hb4 ?_
        refine z_iconst (v := 1) B0 dL_law_248 (by decide) ?_
        refine z_goto (tgt := 253) B0 dL_law_249 (by decide) ?_
        refine z_callC B0 (z_runV (q0 := 0) (As := [.int 2, .int x2, .int x3, .int 1]) (st := []) B0 (c_X11_kin_20 (a := a) (cS0 w) x2 x3 ⟨by omega, by omega⟩) cf_X11_kin (cw_0 cy tE a rw (cS0 w)) rfl wm_L_23 wi_X11_kin ws_X11_kin dL_law_253 rfl (Nat.le_of_ble_eq_true rfl) ⟨by decide, by decide, by decide, by decide⟩) (fun r1 u1 p1 => ?_)
        obtain ⟨rfl, -⟩ := p1
        refine z_aload_n B0 dL_law_256 rfl rfl ?_
        refine z_aload_n B0 dL_law_257 rfl rfl ?_
        refine z_iload_n B0 dL_law_258 rfl rfl ?_
        refine z_iconst (v := 1) B0 dL_law_259 (by decide) ?_
        refine z_iadd (v := 1) B0 dL_law_260 (by decide) ?_
        refine y_sld (j := 1) (v := 2) B0 hX hbl (by decide) e1.symm dL_law_261 ?_
        refine z_aload_n B0 dL_law_262 rfl rfl ?_
        refine z_iload_n B0 dL_law_263 rfl rfl ?_
        refine z_iconst (v := 2) B0 dL_law_264 (by decide) ?_
        refine z_iadd (v := 2) B0 dL_law_265 (by decide) ?_
        refine y_sld (j := 2) (v := x2) B0 hX hbl (by decide) e2.symm dL_law_266 ?_
        refine z_aload_n B0 dL_law_267 rfl rfl ?_
        refine z_iload_n B0 dL_law_268 rfl rfl ?_
        refine z_iconst (v := 3) B0 dL_law_269 (by decide) ?_
        refine z_iadd (v := 3) B0 dL_law_270 (by decide) ?_
        refine y_sld (j := 3) (v := x3) B0 hX hbl (by decide) e3.symm dL_law_271 ?_
        refine z_aload_n B0 dL_law_272 rfl rfl ?_
        refine z_iload_n B0 dL_law_273 rfl rfl ?_
        refine z_iconst (v := 4) B0 dL_law_274 (by decide) ?_
        refine z_iadd (v := 4) B0 dL_law_275 (by decide) ?_
        refine y_sld (j := 4) (v := x4) B0 hX hbl (by decide) e4.symm dL_law_276 ?_
        refine z_if_eq_f (tgt := 284) B0 dL_law_277 (by decide) hb4 ?_
        refine z_iconst (v := 1) B0 dL_law_280 (by decide) ?_
        refine z_goto (tgt := 285) B0 dL_law_281 (by decide) ?_
        refine z_callM B0 (z_runV (q0 := 0) (As := [.int 2, .int x2, .int x3, .int 1]) (st := [.int 0]) B0 (c_X12_kin_20 (a := a2) mS0 x2 x3 ⟨by omega, by omega⟩) cf_X12_kin (mw_0 cy a2 mS0) rfl wm_L_27 wi_X12_kin ws_X12_kin dL_law_285 rfl (Nat.le_of_ble_eq_true rfl) ⟨by decide, by decide, by decide, by decide⟩) (fun r2 u2 p2 => ?_)
        obtain ⟨rfl, -⟩ := p2
        refine z_icmp_eq_t (tgt := 1091) B0 dL_law_288 (by decide) rfl ?_
        exact fin u1 u2
  · by_cases hb4 : x4 = 0
    · refine z_aload_n B0 dL_law_224 rfl rfl ?_
      refine z_aload_n B0 dL_law_225 rfl rfl ?_
      refine z_iload_n B0 dL_law_226 rfl rfl ?_
      refine z_iconst (v := 1) B0 dL_law_227 (by decide) ?_
      refine z_iadd (v := 1) B0 dL_law_228 (by decide) ?_
      refine y_sld (j := 1) (v := x1) B0 hX hbl (by decide) e1.symm dL_law_229 ?_
      refine z_aload_n B0 dL_law_230 rfl rfl ?_
      refine z_iload_n B0 dL_law_231 rfl rfl ?_
      refine z_iconst (v := 2) B0 dL_law_232 (by decide) ?_
      refine z_iadd (v := 2) B0 dL_law_233 (by decide) ?_
      refine y_sld (j := 2) (v := x2) B0 hX hbl (by decide) e2.symm dL_law_234 ?_
      refine z_aload_n B0 dL_law_235 rfl rfl ?_
      refine z_iload_n B0 dL_law_236 rfl rfl ?_
      refine z_iconst (v := 3) B0 dL_law_237 (by decide) ?_
      refine z_iadd (v := 3) B0 dL_law_238 (by decide) ?_
      refine y_sld (j := 3) (v := x3) B0 hX hbl (by decide) e3.symm dL_law_239 ?_
      refine z_aload_n B0 dL_law_240 rfl rfl ?_
      refine z_iload_n B0 dL_law_241 rfl rfl ?_
      refine z_iconst (v := 4) B0 dL_law_242 (by decide) ?_
      refine z_iadd (v := 4) B0 dL_law_243 (by decide) ?_
      refine y_sld (j := 4) (v := x4) B0 hX hbl (by decide) e4.symm dL_law_244 ?_
      refine z_if_eq_t (tgt := 252) B0 dL_law_245 (by decide) hb4 ?_
      refine z_iconst (v := 0) B0 dL_law_252 (by decide) ?_
      refine z_callC B0 (z_runV (q0 := 0) (As := [.int x1, .int x2, .int x3, .int 0]) (st := []) B0 (c_X11_kin_3 (a := a) (cS0 w) x1 x2 x3 ⟨by omega, by omega⟩) cf_X11_kin (cw_0 cy tE a rw (cS0 w)) rfl wm_L_23 wi_X11_kin ws_X11_kin dL_law_253 rfl (Nat.le_of_ble_eq_true rfl) ⟨by decide, by decide, by decide, by decide⟩) (fun r1 u1 p1 => ?_)
      obtain ⟨rfl, -⟩ := p1
      refine z_aload_n B0 dL_law_256 rfl rfl ?_
      refine z_aload_n B0 dL_law_257 rfl rfl ?_
      refine z_iload_n B0 dL_law_258 rfl rfl ?_
      refine z_iconst (v := 1) B0 dL_law_259 (by decide) ?_
      refine z_iadd (v := 1) B0 dL_law_260 (by decide) ?_
      refine y_sld (j := 1) (v := x1) B0 hX hbl (by decide) e1.symm dL_law_261 ?_
      refine z_aload_n B0 dL_law_262 rfl rfl ?_
      refine z_iload_n B0 dL_law_263 rfl rfl ?_
      refine z_iconst (v := 2) B0 dL_law_264 (by decide) ?_
      refine z_iadd (v := 2) B0 dL_law_265 (by decide) ?_
      refine y_sld (j := 2) (v := x2) B0 hX hbl (by decide) e2.symm dL_law_266 ?_
      refine z_aload_n B0 dL_law_267 rfl rfl ?_
      refine z_iload_n B0 dL_law_268 rfl rfl ?_
      refine z_iconst (v := 3) B0 dL_law_269 (by decide) ?_
      refine z_iadd (v := 3) B0 dL_law_270 (by decide) ?_
      refine y_sld (j := 3) (v := x3) B0 hX hbl (by decide) e3.symm dL_law_271 ?_
      refine z_aload_n B0 dL_law_272 rfl rfl ?_
      refine z_iload_n B0 dL_law_273 rfl rfl ?_
      refine z_iconst (v := 4) B0 dL_law_274 (by decide) ?_
      refine z_iadd (v := 4) B0 dL_law_275 (by decide) ?_
      refine y_sld (j := 4) (v := x4) B0 hX hbl (by decide) e4.symm dL_law_276 ?_
      refine z_if_eq_t (tgt := 284) B0 dL_law_277 (by decide) hb4 ?_
      refine z_iconst (v := 0) B0 dL_law_284 (by decide) ?_
      refine z_callM B0 (z_runV (q0 := 0) (As := [.int x1, .int x2, .int x3, .int 0]) (st := [.int 0]) B0 (c_X12_kin_3 (a := a2) mS0 x1 x2 x3 ⟨by omega, by omega⟩) cf_X12_kin (mw_0 cy a2 mS0) rfl wm_L_27 wi_X12_kin ws_X12_kin dL_law_285 rfl (Nat.le_of_ble_eq_true rfl) ⟨by decide, by decide, by decide, by decide⟩) (fun r2 u2 p2 => ?_)
      obtain ⟨rfl, -⟩ := p2
      refine z_icmp_eq_t (tgt := 1091) B0 dL_law_288 (by decide) rfl ?_
      exact fin u1 u2
    · refine z_aload_n B0 dL_law_224 rfl rfl ?_
      refine z_aload_n B0 dL_law_225 rfl rfl ?_
      refine z_iload_n B0 dL_law_226 rfl rfl ?_
      refine z_iconst (v := 1) B0 dL_law_227 (by decide) ?_
      refine z_iadd (v := 1) B0 dL_law_228 (by decide) ?_
      refine y_sld (j := 1) (v := x1) B0 hX hbl (by decide) e1.symm dL_law_229 ?_
      refine z_aload_n B0 dL_law_230 rfl rfl ?_
      refine z_iload_n B0 dL_law_231 rfl rfl ?_
      refine z_iconst (v := 2) B0 dL_law_232 (by decide) ?_
      refine z_iadd (v := 2) B0 dL_law_233 (by decide) ?_
      refine y_sld (j := 2) (v := x2) B0 hX hbl (by decide) e2.symm dL_law_234 ?_
      refine z_aload_n B0 dL_law_235 rfl rfl ?_
      refine z_iload_n B0 dL_law_236 rfl rfl ?_
      refine z_iconst (v := 3) B0 dL_law_237 (by decide) ?_
      refine z_iadd (v := 3) B0 dL_law_238 (by decide) ?_
      refine y_sld (j := 3) (v := x3) B0 hX hbl (by decide) e3.symm dL_law_239 ?_
      refine z_aload_n B0 dL_law_240 rfl rfl ?_
      refine z_iload_n B0 dL_law_241 rfl rfl ?_
      refine z_iconst (v := 4) B0 dL_law_242 (by decide) ?_
      refine z_iadd (v := 4) B0 dL_law_243 (by decide) ?_
      refine y_sld (j := 4) (v := x4) B0 hX hbl (by decide) e4.symm dL_law_244 ?_
      refine z_if_eq_f (tgt := 252) B0 dL_law_245 (by decide) hb4 ?_
      refine z_iconst (v := 1) B0 dL_law_248 (by decide) ?_
      refine z_goto (tgt := 253) B0 dL_law_249 (by decide) ?_
      refine z_callC B0 (z_runV (q0 := 0) (As := [.int x1, .int x2, .int x3, .int 1]) (st := []) B0 (c_X11_kin_4 (a := a) (cS0 w) x1 x2 x3 ⟨by omega, by omega⟩) cf_X11_kin (cw_0 cy tE a rw (cS0 w)) rfl wm_L_23 wi_X11_kin ws_X11_kin dL_law_253 rfl (Nat.le_of_ble_eq_true rfl) ⟨by decide, by decide, by decide, by decide⟩) (fun r1 u1 p1 => ?_)
      obtain ⟨rfl, -⟩ := p1
      refine z_aload_n B0 dL_law_256 rfl rfl ?_
      refine z_aload_n B0 dL_law_257 rfl rfl ?_
      refine z_iload_n B0 dL_law_258 rfl rfl ?_
      refine z_iconst (v := 1) B0 dL_law_259 (by decide) ?_
      refine z_iadd (v := 1) B0 dL_law_260 (by decide) ?_
      refine y_sld (j := 1) (v := x1) B0 hX hbl (by decide) e1.symm dL_law_261 ?_
      refine z_aload_n B0 dL_law_262 rfl rfl ?_
      refine z_iload_n B0 dL_law_263 rfl rfl ?_
      refine z_iconst (v := 2) B0 dL_law_264 (by decide) ?_
      refine z_iadd (v := 2) B0 dL_law_265 (by decide) ?_
      refine y_sld (j := 2) (v := x2) B0 hX hbl (by decide) e2.symm dL_law_266 ?_
      refine z_aload_n B0 dL_law_267 rfl rfl ?_
      refine z_iload_n B0 dL_law_268 rfl rfl ?_
      refine z_iconst (v := 3) B0 dL_law_269 (by decide) ?_
      refine z_iadd (v := 3) B0 dL_law_270 (by decide) ?_
      refine y_sld (j := 3) (v := x3) B0 hX hbl (by decide) e3.symm dL_law_271 ?_
      refine z_aload_n B0 dL_law_272 rfl rfl ?_
      refine z_iload_n B0 dL_law_273 rfl rfl ?_
      refine z_iconst (v := 4) B0 dL_law_274 (by decide) ?_
      refine z_iadd (v := 4) B0 dL_law_275 (by decide) ?_
      refine y_sld (j := 4) (v := x4) B0 hX hbl (by decide) e4.symm dL_law_276 ?_
      refine z_if_eq_f (tgt := 284) B0 dL_law_277 (by decide) hb4 ?_
      refine z_iconst (v := 1) B0 dL_law_280 (by decide) ?_
      refine z_goto (tgt := 285) B0 dL_law_281 (by decide) ?_
      refine z_callM B0 (z_runV (q0 := 0) (As := [.int x1, .int x2, .int x3, .int 1]) (st := [.int 0]) B0 (c_X12_kin_4 (a := a2) mS0 x1 x2 x3 ⟨by omega, by omega⟩) cf_X12_kin (mw_0 cy a2 mS0) rfl wm_L_27 wi_X12_kin ws_X12_kin dL_law_285 rfl (Nat.le_of_ble_eq_true rfl) ⟨by decide, by decide, by decide, by decide⟩) (fun r2 u2 p2 => ?_)
      obtain ⟨rfl, -⟩ := p2
      refine z_icmp_eq_t (tgt := 1091) B0 dL_law_288 (by decide) rfl ?_
      exact fin u1 u2

set_option maxHeartbeats 8000000 in
set_option maxRecDepth 100000 in
theorem lo_owner {p : Program} {l : Launch} {e : Env} {s : State} {m : MethodId} {below : List Frame} {meth : Method} {c : Code} {D : va_G} {cy : Nat → ClassId} {tB tE b : Nat} {a a2 : Nat → Nat} {rw : Nat → Option Nat} {xs : Nat → Int32} (B0 : Bz p room_1 s m #[Value.ref b] meth c D cy s.heap.size tB tE (fun q => s.heap.size ≤ q) 4 cL_law RL meth.sig.returnType meth.name 2048 84000 600000 7302250) (hX : va_X b 6 xs s s.heap) (hbl : b < s.heap.size) (hrw : ∀ i, i < 6 → rw i = some (a (36 + 2 * i))) (w : Nat → Int64) (fin : ∀ S S9 : GS, Z p l e room_1 s m #[Value.ref b] below meth c D (fun q => s.heap.size ≤ q) 4 (lw_Z below #[Value.ref b] s) 200 60000 (cw cy tE a rw S ++ mw cy a2 S9) [(3, .int 0), (2, .ref (a2 0)), (1, .ref (a 0)), (0, .ref b)] 1091 []) : Z p l e room_1 s m #[Value.ref b] below meth c D (fun q => s.heap.size ≤ q) 4 (lw_Z below #[Value.ref b] s) 200 60000 (cw cy tE a rw (cS0 w) ++ mw cy a2 mS0) [(3, .int 0), (2, .ref (a2 0)), (1, .ref (a 0)), (0, .ref b)] 293 [] := by
  obtain ⟨x1, e1⟩ : ∃ x, x = xs 1 := ⟨_, rfl⟩
  obtain ⟨x2, e2⟩ : ∃ x, x = xs 2 := ⟨_, rfl⟩
  rcases (show ((-2147483648) ≤ x1.toInt ∧ x1.toInt ≤ (-1)) ∨ x1.toInt = 0 ∨ x1.toInt = 1 ∨ x1.toInt = 2 ∨ (3 ≤ x1.toInt ∧ x1.toInt ≤ 2147483647) by have g1 := Int32.le_toInt x1; have g2 := Int32.toInt_lt x1; omega) with h1 | h1 | h1 | h1 | h1
  · refine z_aload_n B0 dL_law_293 rfl rfl ?_
    refine z_aload_n B0 dL_law_294 rfl rfl ?_
    refine z_iload_n B0 dL_law_295 rfl rfl ?_
    refine z_iconst (v := 1) B0 dL_law_296 (by decide) ?_
    refine z_iadd (v := 1) B0 dL_law_297 (by decide) ?_
    refine y_sld (j := 1) (v := x1) B0 hX hbl (by decide) e1.symm dL_law_298 ?_
    refine z_aload_n B0 dL_law_299 rfl rfl ?_
    refine z_iload_n B0 dL_law_300 rfl rfl ?_
    refine z_iconst (v := 2) B0 dL_law_301 (by decide) ?_
    refine z_iadd (v := 2) B0 dL_law_302 (by decide) ?_
    refine y_sld (j := 2) (v := x2) B0 hX hbl (by decide) e2.symm dL_law_303 ?_
    refine z_callC B0 (z_runV (q0 := 0) (As := [.int x1, .int x2]) (st := []) B0 (c_X11_owner (a := a) (cS0 w) x1 x2 ⟨by omega, by omega⟩) cf_X11_owner (cw_0 cy tE a rw (cS0 w)) rfl wm_L_28 wi_X11_owner ws_X11_owner dL_law_304 rfl (Nat.le_of_ble_eq_true rfl) ⟨by decide, by decide, by decide, by decide⟩) (fun r1 u1 p1 => ?_)
    obtain ⟨rfl, -⟩ := p1
    refine z_aload_n B0 dL_law_307 rfl rfl ?_
    refine z_aload_n B0 dL_law_308 rfl rfl ?_
    refine z_iload_n B0 dL_law_309 rfl rfl ?_
    refine z_iconst (v := 1) B0 dL_law_310 (by decide) ?_
    refine z_iadd (v := 1) B0 dL_law_311 (by decide) ?_
    refine y_sld (j := 1) (v := x1) B0 hX hbl (by decide) e1.symm dL_law_312 ?_
    refine z_aload_n B0 dL_law_313 rfl rfl ?_
    refine z_iload_n B0 dL_law_314 rfl rfl ?_
    refine z_iconst (v := 2) B0 dL_law_315 (by decide) ?_
    refine z_iadd (v := 2) B0 dL_law_316 (by decide) ?_
    refine y_sld (j := 2) (v := x2) B0 hX hbl (by decide) e2.symm dL_law_317 ?_
    refine z_callM B0 (z_runV (q0 := 0) (As := [.int x1, .int x2]) (st := [.int 0]) B0 (c_X12_owner (a := a2) mS0 x1 x2 ⟨by omega, by omega⟩) cf_X12_owner (mw_0 cy a2 mS0) rfl wm_L_31 wi_X12_owner ws_X12_owner dL_law_318 rfl (Nat.le_of_ble_eq_true rfl) ⟨by decide, by decide, by decide, by decide⟩) (fun r2 u2 p2 => ?_)
    obtain ⟨rfl, -⟩ := p2
    refine z_icmp_eq_t (tgt := 1091) B0 dL_law_321 (by decide) rfl ?_
    exact fin u1 u2
  · obtain rfl : x1 = 0 := Int32.toInt_inj.mp (h1.trans (by decide))
    rcases (show ((-2147483648) ≤ x2.toInt ∧ x2.toInt ≤ (-1)) ∨ (0 ≤ x2.toInt ∧ x2.toInt ≤ 3) ∨ (4 ≤ x2.toInt ∧ x2.toInt ≤ 2147483647) by have g1 := Int32.le_toInt x2; have g2 := Int32.toInt_lt x2; omega) with h2 | h2 | h2
    · refine z_aload_n B0 dL_law_293 rfl rfl ?_
      refine z_aload_n B0 dL_law_294 rfl rfl ?_
      refine z_iload_n B0 dL_law_295 rfl rfl ?_
      refine z_iconst (v := 1) B0 dL_law_296 (by decide) ?_
      refine z_iadd (v := 1) B0 dL_law_297 (by decide) ?_
      refine y_sld (j := 1) (v := 0) B0 hX hbl (by decide) e1.symm dL_law_298 ?_
      refine z_aload_n B0 dL_law_299 rfl rfl ?_
      refine z_iload_n B0 dL_law_300 rfl rfl ?_
      refine z_iconst (v := 2) B0 dL_law_301 (by decide) ?_
      refine z_iadd (v := 2) B0 dL_law_302 (by decide) ?_
      refine y_sld (j := 2) (v := x2) B0 hX hbl (by decide) e2.symm dL_law_303 ?_
      refine z_callC B0 (z_runV (q0 := 0) (As := [.int 0, .int x2]) (st := []) B0 (c_X11_owner_3 (a := a) (cS0 w) x2 ⟨by omega, by omega⟩) cf_X11_owner (cw_0 cy tE a rw (cS0 w)) rfl wm_L_28 wi_X11_owner ws_X11_owner dL_law_304 rfl (Nat.le_of_ble_eq_true rfl) ⟨by decide, by decide, by decide, by decide⟩) (fun r1 u1 p1 => ?_)
      obtain ⟨rfl, -⟩ := p1
      refine z_aload_n B0 dL_law_307 rfl rfl ?_
      refine z_aload_n B0 dL_law_308 rfl rfl ?_
      refine z_iload_n B0 dL_law_309 rfl rfl ?_
      refine z_iconst (v := 1) B0 dL_law_310 (by decide) ?_
      refine z_iadd (v := 1) B0 dL_law_311 (by decide) ?_
      refine y_sld (j := 1) (v := 0) B0 hX hbl (by decide) e1.symm dL_law_312 ?_
      refine z_aload_n B0 dL_law_313 rfl rfl ?_
      refine z_iload_n B0 dL_law_314 rfl rfl ?_
      refine z_iconst (v := 2) B0 dL_law_315 (by decide) ?_
      refine z_iadd (v := 2) B0 dL_law_316 (by decide) ?_
      refine y_sld (j := 2) (v := x2) B0 hX hbl (by decide) e2.symm dL_law_317 ?_
      refine z_callM B0 (z_runV (q0 := 0) (As := [.int 0, .int x2]) (st := [.int 0]) B0 (c_X12_owner_3 (a := a2) mS0 x2 ⟨by omega, by omega⟩) cf_X12_owner (mw_0 cy a2 mS0) rfl wm_L_31 wi_X12_owner ws_X12_owner dL_law_318 rfl (Nat.le_of_ble_eq_true rfl) ⟨by decide, by decide, by decide, by decide⟩) (fun r2 u2 p2 => ?_)
      obtain ⟨rfl, -⟩ := p2
      refine z_icmp_eq_t (tgt := 1091) B0 dL_law_321 (by decide) rfl ?_
      exact fin u1 u2
    · refine z_aload_n B0 dL_law_293 rfl rfl ?_
      refine z_aload_n B0 dL_law_294 rfl rfl ?_
      refine z_iload_n B0 dL_law_295 rfl rfl ?_
      refine z_iconst (v := 1) B0 dL_law_296 (by decide) ?_
      refine z_iadd (v := 1) B0 dL_law_297 (by decide) ?_
      refine y_sld (j := 1) (v := 0) B0 hX hbl (by decide) e1.symm dL_law_298 ?_
      refine z_aload_n B0 dL_law_299 rfl rfl ?_
      refine z_iload_n B0 dL_law_300 rfl rfl ?_
      refine z_iconst (v := 2) B0 dL_law_301 (by decide) ?_
      refine z_iadd (v := 2) B0 dL_law_302 (by decide) ?_
      refine y_sld (j := 2) (v := x2) B0 hX hbl (by decide) e2.symm dL_law_303 ?_
      refine z_callC B0 (z_runV (q0 := 0) (As := [.int 0, .int x2]) (st := []) B0 (c_X11_owner_4 (a := a) (cS0 w) x2 rfl ⟨by omega, by omega⟩) cf_X11_owner (cw_0 cy tE a rw (cS0 w)) rfl wm_L_28 wi_X11_owner ws_X11_owner dL_law_304 rfl (Nat.le_of_ble_eq_true rfl) ⟨by decide, by decide, by decide, by decide⟩) (fun r1 u1 p1 => ?_)
      obtain ⟨rfl, -⟩ := p1
      refine z_aload_n B0 dL_law_307 rfl rfl ?_
      refine z_aload_n B0 dL_law_308 rfl rfl ?_
      refine z_iload_n B0 dL_law_309 rfl rfl ?_
      refine z_iconst (v := 1) B0 dL_law_310 (by decide) ?_
      refine z_iadd (v := 1) B0 dL_law_311 (by decide) ?_
      refine y_sld (j := 1) (v := 0) B0 hX hbl (by decide) e1.symm dL_law_312 ?_
      refine z_aload_n B0 dL_law_313 rfl rfl ?_
      refine z_iload_n B0 dL_law_314 rfl rfl ?_
      refine z_iconst (v := 2) B0 dL_law_315 (by decide) ?_
      refine z_iadd (v := 2) B0 dL_law_316 (by decide) ?_
      refine y_sld (j := 2) (v := x2) B0 hX hbl (by decide) e2.symm dL_law_317 ?_
      refine z_callM B0 (z_runV (q0 := 0) (As := [.int 0, .int x2]) (st := [.int 1]) B0 (c_X12_owner_4 (a := a2) mS0 x2 rfl rfl rfl rfl rfl rfl rfl rfl rfl rfl rfl rfl rfl rfl rfl rfl rfl rfl rfl rfl rfl rfl rfl rfl rfl rfl ⟨by omega, by omega⟩) cf_X12_owner (mw_0 cy a2 mS0) rfl wm_L_31 wi_X12_owner ws_X12_owner dL_law_318 rfl (Nat.le_of_ble_eq_true rfl) ⟨by decide, by decide, by decide, by decide⟩) (fun r2 u2 p2 => ?_)
      obtain ⟨rfl, -⟩ := p2
      refine z_icmp_eq_t (tgt := 1091) B0 dL_law_321 (by decide) rfl ?_
      exact fin u1 u2
    · refine z_aload_n B0 dL_law_293 rfl rfl ?_
      refine z_aload_n B0 dL_law_294 rfl rfl ?_
      refine z_iload_n B0 dL_law_295 rfl rfl ?_
      refine z_iconst (v := 1) B0 dL_law_296 (by decide) ?_
      refine z_iadd (v := 1) B0 dL_law_297 (by decide) ?_
      refine y_sld (j := 1) (v := 0) B0 hX hbl (by decide) e1.symm dL_law_298 ?_
      refine z_aload_n B0 dL_law_299 rfl rfl ?_
      refine z_iload_n B0 dL_law_300 rfl rfl ?_
      refine z_iconst (v := 2) B0 dL_law_301 (by decide) ?_
      refine z_iadd (v := 2) B0 dL_law_302 (by decide) ?_
      refine y_sld (j := 2) (v := x2) B0 hX hbl (by decide) e2.symm dL_law_303 ?_
      refine z_callC B0 (z_runV (q0 := 0) (As := [.int 0, .int x2]) (st := []) B0 (c_X11_owner_5 (a := a) (cS0 w) x2 ⟨by omega, by omega⟩) cf_X11_owner (cw_0 cy tE a rw (cS0 w)) rfl wm_L_28 wi_X11_owner ws_X11_owner dL_law_304 rfl (Nat.le_of_ble_eq_true rfl) ⟨by decide, by decide, by decide, by decide⟩) (fun r1 u1 p1 => ?_)
      obtain ⟨rfl, -⟩ := p1
      refine z_aload_n B0 dL_law_307 rfl rfl ?_
      refine z_aload_n B0 dL_law_308 rfl rfl ?_
      refine z_iload_n B0 dL_law_309 rfl rfl ?_
      refine z_iconst (v := 1) B0 dL_law_310 (by decide) ?_
      refine z_iadd (v := 1) B0 dL_law_311 (by decide) ?_
      refine y_sld (j := 1) (v := 0) B0 hX hbl (by decide) e1.symm dL_law_312 ?_
      refine z_aload_n B0 dL_law_313 rfl rfl ?_
      refine z_iload_n B0 dL_law_314 rfl rfl ?_
      refine z_iconst (v := 2) B0 dL_law_315 (by decide) ?_
      refine z_iadd (v := 2) B0 dL_law_316 (by decide) ?_
      refine y_sld (j := 2) (v := x2) B0 hX hbl (by decide) e2.symm dL_law_317 ?_
      refine z_callM B0 (z_runV (q0 := 0) (As := [.int 0, .int x2]) (st := [.int 0]) B0 (c_X12_owner_5 (a := a2) mS0 x2 ⟨by omega, by omega⟩) cf_X12_owner (mw_0 cy a2 mS0) rfl wm_L_31 wi_X12_owner ws_X12_owner dL_law_318 rfl (Nat.le_of_ble_eq_true rfl) ⟨by decide, by decide, by decide, by decide⟩) (fun r2 u2 p2 => ?_)
      obtain ⟨rfl, -⟩ := p2
      refine z_icmp_eq_t (tgt := 1091) B0 dL_law_321 (by decide) rfl ?_
      exact fin u1 u2
  · obtain rfl : x1 = 1 := Int32.toInt_inj.mp (h1.trans (by decide))
    rcases (show ((-2147483648) ≤ x2.toInt ∧ x2.toInt ≤ (-1)) ∨ (0 ≤ x2.toInt ∧ x2.toInt ≤ 3) ∨ (4 ≤ x2.toInt ∧ x2.toInt ≤ 2147483647) by have g1 := Int32.le_toInt x2; have g2 := Int32.toInt_lt x2; omega) with h2 | h2 | h2
    · refine z_aload_n B0 dL_law_293 rfl rfl ?_
      refine z_aload_n B0 dL_law_294 rfl rfl ?_
      refine z_iload_n B0 dL_law_295 rfl rfl ?_
      refine z_iconst (v := 1) B0 dL_law_296 (by decide) ?_
      refine z_iadd (v := 1) B0 dL_law_297 (by decide) ?_
      refine y_sld (j := 1) (v := 1) B0 hX hbl (by decide) e1.symm dL_law_298 ?_
      refine z_aload_n B0 dL_law_299 rfl rfl ?_
      refine z_iload_n B0 dL_law_300 rfl rfl ?_
      refine z_iconst (v := 2) B0 dL_law_301 (by decide) ?_
      refine z_iadd (v := 2) B0 dL_law_302 (by decide) ?_
      refine y_sld (j := 2) (v := x2) B0 hX hbl (by decide) e2.symm dL_law_303 ?_
      refine z_callC B0 (z_runV (q0 := 0) (As := [.int 1, .int x2]) (st := []) B0 (c_X11_owner_6 (a := a) (cS0 w) x2 ⟨by omega, by omega⟩) cf_X11_owner (cw_0 cy tE a rw (cS0 w)) rfl wm_L_28 wi_X11_owner ws_X11_owner dL_law_304 rfl (Nat.le_of_ble_eq_true rfl) ⟨by decide, by decide, by decide, by decide⟩) (fun r1 u1 p1 => ?_)
      obtain ⟨rfl, -⟩ := p1
      refine z_aload_n B0 dL_law_307 rfl rfl ?_
      refine z_aload_n B0 dL_law_308 rfl rfl ?_
      refine z_iload_n B0 dL_law_309 rfl rfl ?_
      refine z_iconst (v := 1) B0 dL_law_310 (by decide) ?_
      refine z_iadd (v := 1) B0 dL_law_311 (by decide) ?_
      refine y_sld (j := 1) (v := 1) B0 hX hbl (by decide) e1.symm dL_law_312 ?_
      refine z_aload_n B0 dL_law_313 rfl rfl ?_
      refine z_iload_n B0 dL_law_314 rfl rfl ?_
      refine z_iconst (v := 2) B0 dL_law_315 (by decide) ?_
      refine z_iadd (v := 2) B0 dL_law_316 (by decide) ?_
      refine y_sld (j := 2) (v := x2) B0 hX hbl (by decide) e2.symm dL_law_317 ?_
      refine z_callM B0 (z_runV (q0 := 0) (As := [.int 1, .int x2]) (st := [.int 0]) B0 (c_X12_owner_6 (a := a2) mS0 x2 ⟨by omega, by omega⟩) cf_X12_owner (mw_0 cy a2 mS0) rfl wm_L_31 wi_X12_owner ws_X12_owner dL_law_318 rfl (Nat.le_of_ble_eq_true rfl) ⟨by decide, by decide, by decide, by decide⟩) (fun r2 u2 p2 => ?_)
      obtain ⟨rfl, -⟩ := p2
      refine z_icmp_eq_t (tgt := 1091) B0 dL_law_321 (by decide) rfl ?_
      exact fin u1 u2
    · refine z_aload_n B0 dL_law_293 rfl rfl ?_
      refine z_aload_n B0 dL_law_294 rfl rfl ?_
      refine z_iload_n B0 dL_law_295 rfl rfl ?_
      refine z_iconst (v := 1) B0 dL_law_296 (by decide) ?_
      refine z_iadd (v := 1) B0 dL_law_297 (by decide) ?_
      refine y_sld (j := 1) (v := 1) B0 hX hbl (by decide) e1.symm dL_law_298 ?_
      refine z_aload_n B0 dL_law_299 rfl rfl ?_
      refine z_iload_n B0 dL_law_300 rfl rfl ?_
      refine z_iconst (v := 2) B0 dL_law_301 (by decide) ?_
      refine z_iadd (v := 2) B0 dL_law_302 (by decide) ?_
      refine y_sld (j := 2) (v := x2) B0 hX hbl (by decide) e2.symm dL_law_303 ?_
      refine z_callC B0 (z_runV (q0 := 0) (As := [.int 1, .int x2]) (st := []) B0 (c_X11_owner_7 (a := a) (cS0 w) x2 rfl ⟨by omega, by omega⟩) cf_X11_owner (cw_0 cy tE a rw (cS0 w)) rfl wm_L_28 wi_X11_owner ws_X11_owner dL_law_304 rfl (Nat.le_of_ble_eq_true rfl) ⟨by decide, by decide, by decide, by decide⟩) (fun r1 u1 p1 => ?_)
      obtain ⟨rfl, -⟩ := p1
      refine z_aload_n B0 dL_law_307 rfl rfl ?_
      refine z_aload_n B0 dL_law_308 rfl rfl ?_
      refine z_iload_n B0 dL_law_309 rfl rfl ?_
      refine z_iconst (v := 1) B0 dL_law_310 (by decide) ?_
      refine z_iadd (v := 1) B0 dL_law_311 (by decide) ?_
      refine y_sld (j := 1) (v := 1) B0 hX hbl (by decide) e1.symm dL_law_312 ?_
      refine z_aload_n B0 dL_law_313 rfl rfl ?_
      refine z_iload_n B0 dL_law_314 rfl rfl ?_
      refine z_iconst (v := 2) B0 dL_law_315 (by decide) ?_
      refine z_iadd (v := 2) B0 dL_law_316 (by decide) ?_
      refine y_sld (j := 2) (v := x2) B0 hX hbl (by decide) e2.symm dL_law_317 ?_
      refine z_callM B0 (z_runV (q0 := 0) (As := [.int 1, .int x2]) (st := [.int 1]) B0 (c_X12_owner_7 (a := a2) mS0 x2 rfl rfl rfl rfl rfl rfl rfl rfl rfl rfl rfl rfl rfl rfl rfl rfl rfl rfl rfl rfl rfl rfl rfl rfl rfl rfl ⟨by omega, by omega⟩) cf_X12_owner (mw_0 cy a2 mS0) rfl wm_L_31 wi_X12_owner ws_X12_owner dL_law_318 rfl (Nat.le_of_ble_eq_true rfl) ⟨by decide, by decide, by decide, by decide⟩) (fun r2 u2 p2 => ?_)
      obtain ⟨rfl, -⟩ := p2
      refine z_icmp_eq_t (tgt := 1091) B0 dL_law_321 (by decide) rfl ?_
      exact fin u1 u2
    · refine z_aload_n B0 dL_law_293 rfl rfl ?_
      refine z_aload_n B0 dL_law_294 rfl rfl ?_
      refine z_iload_n B0 dL_law_295 rfl rfl ?_
      refine z_iconst (v := 1) B0 dL_law_296 (by decide) ?_
      refine z_iadd (v := 1) B0 dL_law_297 (by decide) ?_
      refine y_sld (j := 1) (v := 1) B0 hX hbl (by decide) e1.symm dL_law_298 ?_
      refine z_aload_n B0 dL_law_299 rfl rfl ?_
      refine z_iload_n B0 dL_law_300 rfl rfl ?_
      refine z_iconst (v := 2) B0 dL_law_301 (by decide) ?_
      refine z_iadd (v := 2) B0 dL_law_302 (by decide) ?_
      refine y_sld (j := 2) (v := x2) B0 hX hbl (by decide) e2.symm dL_law_303 ?_
      refine z_callC B0 (z_runV (q0 := 0) (As := [.int 1, .int x2]) (st := []) B0 (c_X11_owner_8 (a := a) (cS0 w) x2 ⟨by omega, by omega⟩) cf_X11_owner (cw_0 cy tE a rw (cS0 w)) rfl wm_L_28 wi_X11_owner ws_X11_owner dL_law_304 rfl (Nat.le_of_ble_eq_true rfl) ⟨by decide, by decide, by decide, by decide⟩) (fun r1 u1 p1 => ?_)
      obtain ⟨rfl, -⟩ := p1
      refine z_aload_n B0 dL_law_307 rfl rfl ?_
      refine z_aload_n B0 dL_law_308 rfl rfl ?_
      refine z_iload_n B0 dL_law_309 rfl rfl ?_
      refine z_iconst (v := 1) B0 dL_law_310 (by decide) ?_
      refine z_iadd (v := 1) B0 dL_law_311 (by decide) ?_
      refine y_sld (j := 1) (v := 1) B0 hX hbl (by decide) e1.symm dL_law_312 ?_
      refine z_aload_n B0 dL_law_313 rfl rfl ?_
      refine z_iload_n B0 dL_law_314 rfl rfl ?_
      refine z_iconst (v := 2) B0 dL_law_315 (by decide) ?_
      refine z_iadd (v := 2) B0 dL_law_316 (by decide) ?_
      refine y_sld (j := 2) (v := x2) B0 hX hbl (by decide) e2.symm dL_law_317 ?_
      refine z_callM B0 (z_runV (q0 := 0) (As := [.int 1, .int x2]) (st := [.int 0]) B0 (c_X12_owner_8 (a := a2) mS0 x2 ⟨by omega, by omega⟩) cf_X12_owner (mw_0 cy a2 mS0) rfl wm_L_31 wi_X12_owner ws_X12_owner dL_law_318 rfl (Nat.le_of_ble_eq_true rfl) ⟨by decide, by decide, by decide, by decide⟩) (fun r2 u2 p2 => ?_)
      obtain ⟨rfl, -⟩ := p2
      refine z_icmp_eq_t (tgt := 1091) B0 dL_law_321 (by decide) rfl ?_
      exact fin u1 u2
  · obtain rfl : x1 = 2 := Int32.toInt_inj.mp (h1.trans (by decide))
    rcases (show ((-2147483648) ≤ x2.toInt ∧ x2.toInt ≤ (-1)) ∨ (0 ≤ x2.toInt ∧ x2.toInt ≤ 3) ∨ (4 ≤ x2.toInt ∧ x2.toInt ≤ 2147483647) by have g1 := Int32.le_toInt x2; have g2 := Int32.toInt_lt x2; omega) with h2 | h2 | h2
    · refine z_aload_n B0 dL_law_293 rfl rfl ?_
      refine z_aload_n B0 dL_law_294 rfl rfl ?_
      refine z_iload_n B0 dL_law_295 rfl rfl ?_
      refine z_iconst (v := 1) B0 dL_law_296 (by decide) ?_
      refine z_iadd (v := 1) B0 dL_law_297 (by decide) ?_
      refine y_sld (j := 1) (v := 2) B0 hX hbl (by decide) e1.symm dL_law_298 ?_
      refine z_aload_n B0 dL_law_299 rfl rfl ?_
      refine z_iload_n B0 dL_law_300 rfl rfl ?_
      refine z_iconst (v := 2) B0 dL_law_301 (by decide) ?_
      refine z_iadd (v := 2) B0 dL_law_302 (by decide) ?_
      refine y_sld (j := 2) (v := x2) B0 hX hbl (by decide) e2.symm dL_law_303 ?_
      refine z_callC B0 (z_runV (q0 := 0) (As := [.int 2, .int x2]) (st := []) B0 (c_X11_owner_9 (a := a) (cS0 w) x2 ⟨by omega, by omega⟩) cf_X11_owner (cw_0 cy tE a rw (cS0 w)) rfl wm_L_28 wi_X11_owner ws_X11_owner dL_law_304 rfl (Nat.le_of_ble_eq_true rfl) ⟨by decide, by decide, by decide, by decide⟩) (fun r1 u1 p1 => ?_)
      obtain ⟨rfl, -⟩ := p1
      refine z_aload_n B0 dL_law_307 rfl rfl ?_
      refine z_aload_n B0 dL_law_308 rfl rfl ?_
      refine z_iload_n B0 dL_law_309 rfl rfl ?_
      refine z_iconst (v := 1) B0 dL_law_310 (by decide) ?_
      refine z_iadd (v := 1) B0 dL_law_311 (by decide) ?_
      refine y_sld (j := 1) (v := 2) B0 hX hbl (by decide) e1.symm dL_law_312 ?_
      refine z_aload_n B0 dL_law_313 rfl rfl ?_
      refine z_iload_n B0 dL_law_314 rfl rfl ?_
      refine z_iconst (v := 2) B0 dL_law_315 (by decide) ?_
      refine z_iadd (v := 2) B0 dL_law_316 (by decide) ?_
      refine y_sld (j := 2) (v := x2) B0 hX hbl (by decide) e2.symm dL_law_317 ?_
      refine z_callM B0 (z_runV (q0 := 0) (As := [.int 2, .int x2]) (st := [.int 0]) B0 (c_X12_owner_9 (a := a2) mS0 x2 ⟨by omega, by omega⟩) cf_X12_owner (mw_0 cy a2 mS0) rfl wm_L_31 wi_X12_owner ws_X12_owner dL_law_318 rfl (Nat.le_of_ble_eq_true rfl) ⟨by decide, by decide, by decide, by decide⟩) (fun r2 u2 p2 => ?_)
      obtain ⟨rfl, -⟩ := p2
      refine z_icmp_eq_t (tgt := 1091) B0 dL_law_321 (by decide) rfl ?_
      exact fin u1 u2
    · refine z_aload_n B0 dL_law_293 rfl rfl ?_
      refine z_aload_n B0 dL_law_294 rfl rfl ?_
      refine z_iload_n B0 dL_law_295 rfl rfl ?_
      refine z_iconst (v := 1) B0 dL_law_296 (by decide) ?_
      refine z_iadd (v := 1) B0 dL_law_297 (by decide) ?_
      refine y_sld (j := 1) (v := 2) B0 hX hbl (by decide) e1.symm dL_law_298 ?_
      refine z_aload_n B0 dL_law_299 rfl rfl ?_
      refine z_iload_n B0 dL_law_300 rfl rfl ?_
      refine z_iconst (v := 2) B0 dL_law_301 (by decide) ?_
      refine z_iadd (v := 2) B0 dL_law_302 (by decide) ?_
      refine y_sld (j := 2) (v := x2) B0 hX hbl (by decide) e2.symm dL_law_303 ?_
      refine z_callC B0 (z_runV (q0 := 0) (As := [.int 2, .int x2]) (st := []) B0 (c_X11_owner_10 (a := a) (cS0 w) x2 rfl ⟨by omega, by omega⟩) cf_X11_owner (cw_0 cy tE a rw (cS0 w)) rfl wm_L_28 wi_X11_owner ws_X11_owner dL_law_304 rfl (Nat.le_of_ble_eq_true rfl) ⟨by decide, by decide, by decide, by decide⟩) (fun r1 u1 p1 => ?_)
      obtain ⟨rfl, -⟩ := p1
      refine z_aload_n B0 dL_law_307 rfl rfl ?_
      refine z_aload_n B0 dL_law_308 rfl rfl ?_
      refine z_iload_n B0 dL_law_309 rfl rfl ?_
      refine z_iconst (v := 1) B0 dL_law_310 (by decide) ?_
      refine z_iadd (v := 1) B0 dL_law_311 (by decide) ?_
      refine y_sld (j := 1) (v := 2) B0 hX hbl (by decide) e1.symm dL_law_312 ?_
      refine z_aload_n B0 dL_law_313 rfl rfl ?_
      refine z_iload_n B0 dL_law_314 rfl rfl ?_
      refine z_iconst (v := 2) B0 dL_law_315 (by decide) ?_
      refine z_iadd (v := 2) B0 dL_law_316 (by decide) ?_
      refine y_sld (j := 2) (v := x2) B0 hX hbl (by decide) e2.symm dL_law_317 ?_
      refine z_callM B0 (z_runV (q0 := 0) (As := [.int 2, .int x2]) (st := [.int 1]) B0 (c_X12_owner_10 (a := a2) mS0 x2 rfl rfl rfl rfl rfl rfl rfl rfl rfl rfl rfl rfl rfl rfl rfl rfl rfl rfl rfl rfl rfl rfl rfl rfl rfl rfl ⟨by omega, by omega⟩) cf_X12_owner (mw_0 cy a2 mS0) rfl wm_L_31 wi_X12_owner ws_X12_owner dL_law_318 rfl (Nat.le_of_ble_eq_true rfl) ⟨by decide, by decide, by decide, by decide⟩) (fun r2 u2 p2 => ?_)
      obtain ⟨rfl, -⟩ := p2
      refine z_icmp_eq_t (tgt := 1091) B0 dL_law_321 (by decide) rfl ?_
      exact fin u1 u2
    · refine z_aload_n B0 dL_law_293 rfl rfl ?_
      refine z_aload_n B0 dL_law_294 rfl rfl ?_
      refine z_iload_n B0 dL_law_295 rfl rfl ?_
      refine z_iconst (v := 1) B0 dL_law_296 (by decide) ?_
      refine z_iadd (v := 1) B0 dL_law_297 (by decide) ?_
      refine y_sld (j := 1) (v := 2) B0 hX hbl (by decide) e1.symm dL_law_298 ?_
      refine z_aload_n B0 dL_law_299 rfl rfl ?_
      refine z_iload_n B0 dL_law_300 rfl rfl ?_
      refine z_iconst (v := 2) B0 dL_law_301 (by decide) ?_
      refine z_iadd (v := 2) B0 dL_law_302 (by decide) ?_
      refine y_sld (j := 2) (v := x2) B0 hX hbl (by decide) e2.symm dL_law_303 ?_
      refine z_callC B0 (z_runV (q0 := 0) (As := [.int 2, .int x2]) (st := []) B0 (c_X11_owner_11 (a := a) (cS0 w) x2 ⟨by omega, by omega⟩) cf_X11_owner (cw_0 cy tE a rw (cS0 w)) rfl wm_L_28 wi_X11_owner ws_X11_owner dL_law_304 rfl (Nat.le_of_ble_eq_true rfl) ⟨by decide, by decide, by decide, by decide⟩) (fun r1 u1 p1 => ?_)
      obtain ⟨rfl, -⟩ := p1
      refine z_aload_n B0 dL_law_307 rfl rfl ?_
      refine z_aload_n B0 dL_law_308 rfl rfl ?_
      refine z_iload_n B0 dL_law_309 rfl rfl ?_
      refine z_iconst (v := 1) B0 dL_law_310 (by decide) ?_
      refine z_iadd (v := 1) B0 dL_law_311 (by decide) ?_
      refine y_sld (j := 1) (v := 2) B0 hX hbl (by decide) e1.symm dL_law_312 ?_
      refine z_aload_n B0 dL_law_313 rfl rfl ?_
      refine z_iload_n B0 dL_law_314 rfl rfl ?_
      refine z_iconst (v := 2) B0 dL_law_315 (by decide) ?_
      refine z_iadd (v := 2) B0 dL_law_316 (by decide) ?_
      refine y_sld (j := 2) (v := x2) B0 hX hbl (by decide) e2.symm dL_law_317 ?_
      refine z_callM B0 (z_runV (q0 := 0) (As := [.int 2, .int x2]) (st := [.int 0]) B0 (c_X12_owner_11 (a := a2) mS0 x2 ⟨by omega, by omega⟩) cf_X12_owner (mw_0 cy a2 mS0) rfl wm_L_31 wi_X12_owner ws_X12_owner dL_law_318 rfl (Nat.le_of_ble_eq_true rfl) ⟨by decide, by decide, by decide, by decide⟩) (fun r2 u2 p2 => ?_)
      obtain ⟨rfl, -⟩ := p2
      refine z_icmp_eq_t (tgt := 1091) B0 dL_law_321 (by decide) rfl ?_
      exact fin u1 u2
  · refine z_aload_n B0 dL_law_293 rfl rfl ?_
    refine z_aload_n B0 dL_law_294 rfl rfl ?_
    refine z_iload_n B0 dL_law_295 rfl rfl ?_
    refine z_iconst (v := 1) B0 dL_law_296 (by decide) ?_
    refine z_iadd (v := 1) B0 dL_law_297 (by decide) ?_
    refine y_sld (j := 1) (v := x1) B0 hX hbl (by decide) e1.symm dL_law_298 ?_
    refine z_aload_n B0 dL_law_299 rfl rfl ?_
    refine z_iload_n B0 dL_law_300 rfl rfl ?_
    refine z_iconst (v := 2) B0 dL_law_301 (by decide) ?_
    refine z_iadd (v := 2) B0 dL_law_302 (by decide) ?_
    refine y_sld (j := 2) (v := x2) B0 hX hbl (by decide) e2.symm dL_law_303 ?_
    refine z_callC B0 (z_runV (q0 := 0) (As := [.int x1, .int x2]) (st := []) B0 (c_X11_owner_2 (a := a) (cS0 w) x1 x2 ⟨by omega, by omega⟩) cf_X11_owner (cw_0 cy tE a rw (cS0 w)) rfl wm_L_28 wi_X11_owner ws_X11_owner dL_law_304 rfl (Nat.le_of_ble_eq_true rfl) ⟨by decide, by decide, by decide, by decide⟩) (fun r1 u1 p1 => ?_)
    obtain ⟨rfl, -⟩ := p1
    refine z_aload_n B0 dL_law_307 rfl rfl ?_
    refine z_aload_n B0 dL_law_308 rfl rfl ?_
    refine z_iload_n B0 dL_law_309 rfl rfl ?_
    refine z_iconst (v := 1) B0 dL_law_310 (by decide) ?_
    refine z_iadd (v := 1) B0 dL_law_311 (by decide) ?_
    refine y_sld (j := 1) (v := x1) B0 hX hbl (by decide) e1.symm dL_law_312 ?_
    refine z_aload_n B0 dL_law_313 rfl rfl ?_
    refine z_iload_n B0 dL_law_314 rfl rfl ?_
    refine z_iconst (v := 2) B0 dL_law_315 (by decide) ?_
    refine z_iadd (v := 2) B0 dL_law_316 (by decide) ?_
    refine y_sld (j := 2) (v := x2) B0 hX hbl (by decide) e2.symm dL_law_317 ?_
    refine z_callM B0 (z_runV (q0 := 0) (As := [.int x1, .int x2]) (st := [.int 0]) B0 (c_X12_owner_2 (a := a2) mS0 x1 x2 ⟨by omega, by omega⟩) cf_X12_owner (mw_0 cy a2 mS0) rfl wm_L_31 wi_X12_owner ws_X12_owner dL_law_318 rfl (Nat.le_of_ble_eq_true rfl) ⟨by decide, by decide, by decide, by decide⟩) (fun r2 u2 p2 => ?_)
    obtain ⟨rfl, -⟩ := p2
    refine z_icmp_eq_t (tgt := 1091) B0 dL_law_321 (by decide) rfl ?_
    exact fin u1 u2

set_option maxHeartbeats 8000000 in
set_option maxRecDepth 100000 in
theorem lo_day {p : Program} {l : Launch} {e : Env} {s : State} {m : MethodId} {below : List Frame} {meth : Method} {c : Code} {D : va_G} {cy : Nat → ClassId} {tB tE b : Nat} {a a2 : Nat → Nat} {rw : Nat → Option Nat} {xs : Nat → Int32} (B0 : Bz p room_1 s m #[Value.ref b] meth c D cy s.heap.size tB tE (fun q => s.heap.size ≤ q) 4 cL_law RL meth.sig.returnType meth.name 2048 84000 600000 7302250) (hX : va_X b 6 xs s s.heap) (hbl : b < s.heap.size) (hrw : ∀ i, i < 6 → rw i = some (a (36 + 2 * i))) (w : Nat → Int64) (fin : ∀ S S9 : GS, Z p l e room_1 s m #[Value.ref b] below meth c D (fun q => s.heap.size ≤ q) 4 (lw_Z below #[Value.ref b] s) 200 60000 (cw cy tE a rw S ++ mw cy a2 S9) [(3, .int 0), (2, .ref (a2 0)), (1, .ref (a 0)), (0, .ref b)] 1091 []) : Z p l e room_1 s m #[Value.ref b] below meth c D (fun q => s.heap.size ≤ q) 4 (lw_Z below #[Value.ref b] s) 200 60000 (cw cy tE a rw (cS0 w) ++ mw cy a2 mS0) [(3, .int 0), (2, .ref (a2 0)), (1, .ref (a 0)), (0, .ref b)] 326 [] := by
  obtain ⟨x1, e1⟩ : ∃ x, x = xs 1 := ⟨_, rfl⟩
  rcases (show ((-2147483648) ≤ x1.toInt ∧ x1.toInt ≤ (-1)) ∨ (0 ≤ x1.toInt ∧ x1.toInt ≤ 15) ∨ (16 ≤ x1.toInt ∧ x1.toInt ≤ 2147483647) by have g1 := Int32.le_toInt x1; have g2 := Int32.toInt_lt x1; omega) with h1 | h1 | h1
  · refine z_aload_n B0 dL_law_326 rfl rfl ?_
    refine z_aload_n B0 dL_law_327 rfl rfl ?_
    refine z_iload_n B0 dL_law_328 rfl rfl ?_
    refine z_iconst (v := 1) B0 dL_law_329 (by decide) ?_
    refine z_iadd (v := 1) B0 dL_law_330 (by decide) ?_
    refine y_sld (j := 1) (v := x1) B0 hX hbl (by decide) e1.symm dL_law_331 ?_
    refine z_callC B0 (z_runV (q0 := 0) (As := [.int x1]) (st := []) B0 (c_X11_day (a := a) (cS0 w) x1 ⟨by omega, by omega⟩) cf_X11_day (cw_0 cy tE a rw (cS0 w)) rfl wm_L_32 wi_X11_day ws_X11_day dL_law_332 rfl (Nat.le_of_ble_eq_true rfl) ⟨by decide, by decide, by decide, by decide⟩) (fun r1 u1 p1 => ?_)
    obtain ⟨rfl, -⟩ := p1
    refine z_aload_n B0 dL_law_335 rfl rfl ?_
    refine z_aload_n B0 dL_law_336 rfl rfl ?_
    refine z_iload_n B0 dL_law_337 rfl rfl ?_
    refine z_iconst (v := 1) B0 dL_law_338 (by decide) ?_
    refine z_iadd (v := 1) B0 dL_law_339 (by decide) ?_
    refine y_sld (j := 1) (v := x1) B0 hX hbl (by decide) e1.symm dL_law_340 ?_
    refine z_callM B0 (z_runV (q0 := 0) (As := [.int x1]) (st := [.int 0]) B0 (c_X12_day (a := a2) mS0 x1 ⟨by omega, by omega⟩) cf_X12_day (mw_0 cy a2 mS0) rfl wm_L_36 wi_X12_day ws_X12_day dL_law_341 rfl (Nat.le_of_ble_eq_true rfl) ⟨by decide, by decide, by decide, by decide⟩) (fun r2 u2 p2 => ?_)
    obtain ⟨rfl, -⟩ := p2
    refine z_icmp_eq_t (tgt := 1091) B0 dL_law_344 (by decide) rfl ?_
    exact fin u1 u2
  · refine z_aload_n B0 dL_law_326 rfl rfl ?_
    refine z_aload_n B0 dL_law_327 rfl rfl ?_
    refine z_iload_n B0 dL_law_328 rfl rfl ?_
    refine z_iconst (v := 1) B0 dL_law_329 (by decide) ?_
    refine z_iadd (v := 1) B0 dL_law_330 (by decide) ?_
    refine y_sld (j := 1) (v := x1) B0 hX hbl (by decide) e1.symm dL_law_331 ?_
    refine z_callC B0 (z_runV (q0 := 0) (As := [.int x1]) (st := []) B0 (c_X11_day_2 (a := a) (cS0 w) x1 rfl ⟨by omega, by omega⟩) cf_X11_day (cw_0 cy tE a rw (cS0 w)) rfl wm_L_32 wi_X11_day ws_X11_day dL_law_332 rfl (Nat.le_of_ble_eq_true rfl) ⟨by decide, by decide, by decide, by decide⟩) (fun r1 u1 p1 => ?_)
    obtain ⟨rfl, -⟩ := p1
    refine z_aload_n B0 dL_law_335 rfl rfl ?_
    refine z_aload_n B0 dL_law_336 rfl rfl ?_
    refine z_iload_n B0 dL_law_337 rfl rfl ?_
    refine z_iconst (v := 1) B0 dL_law_338 (by decide) ?_
    refine z_iadd (v := 1) B0 dL_law_339 (by decide) ?_
    refine y_sld (j := 1) (v := x1) B0 hX hbl (by decide) e1.symm dL_law_340 ?_
    refine z_callM B0 (z_runV (q0 := 0) (As := [.int x1]) (st := [.int 1]) B0 (c_X12_day_2 (a := a2) mS0 x1 rfl rfl rfl rfl rfl rfl rfl rfl rfl rfl rfl rfl rfl rfl rfl rfl rfl rfl rfl rfl rfl rfl rfl rfl rfl rfl ⟨by omega, by omega⟩) cf_X12_day (mw_0 cy a2 mS0) rfl wm_L_36 wi_X12_day ws_X12_day dL_law_341 rfl (Nat.le_of_ble_eq_true rfl) ⟨by decide, by decide, by decide, by decide⟩) (fun r2 u2 p2 => ?_)
    obtain ⟨rfl, -⟩ := p2
    refine z_icmp_eq_t (tgt := 1091) B0 dL_law_344 (by decide) rfl ?_
    exact fin u1 u2
  · refine z_aload_n B0 dL_law_326 rfl rfl ?_
    refine z_aload_n B0 dL_law_327 rfl rfl ?_
    refine z_iload_n B0 dL_law_328 rfl rfl ?_
    refine z_iconst (v := 1) B0 dL_law_329 (by decide) ?_
    refine z_iadd (v := 1) B0 dL_law_330 (by decide) ?_
    refine y_sld (j := 1) (v := x1) B0 hX hbl (by decide) e1.symm dL_law_331 ?_
    refine z_callC B0 (z_runV (q0 := 0) (As := [.int x1]) (st := []) B0 (c_X11_day_3 (a := a) (cS0 w) x1 ⟨by omega, by omega⟩) cf_X11_day (cw_0 cy tE a rw (cS0 w)) rfl wm_L_32 wi_X11_day ws_X11_day dL_law_332 rfl (Nat.le_of_ble_eq_true rfl) ⟨by decide, by decide, by decide, by decide⟩) (fun r1 u1 p1 => ?_)
    obtain ⟨rfl, -⟩ := p1
    refine z_aload_n B0 dL_law_335 rfl rfl ?_
    refine z_aload_n B0 dL_law_336 rfl rfl ?_
    refine z_iload_n B0 dL_law_337 rfl rfl ?_
    refine z_iconst (v := 1) B0 dL_law_338 (by decide) ?_
    refine z_iadd (v := 1) B0 dL_law_339 (by decide) ?_
    refine y_sld (j := 1) (v := x1) B0 hX hbl (by decide) e1.symm dL_law_340 ?_
    refine z_callM B0 (z_runV (q0 := 0) (As := [.int x1]) (st := [.int 0]) B0 (c_X12_day_3 (a := a2) mS0 x1 ⟨by omega, by omega⟩) cf_X12_day (mw_0 cy a2 mS0) rfl wm_L_36 wi_X12_day ws_X12_day dL_law_341 rfl (Nat.le_of_ble_eq_true rfl) ⟨by decide, by decide, by decide, by decide⟩) (fun r2 u2 p2 => ?_)
    obtain ⟨rfl, -⟩ := p2
    refine z_icmp_eq_t (tgt := 1091) B0 dL_law_344 (by decide) rfl ?_
    exact fin u1 u2

set_option maxHeartbeats 8000000 in
set_option maxRecDepth 100000 in
theorem lo_feed {p : Program} {l : Launch} {e : Env} {s : State} {m : MethodId} {below : List Frame} {meth : Method} {c : Code} {D : va_G} {cy : Nat → ClassId} {tB tE b : Nat} {a a2 : Nat → Nat} {rw : Nat → Option Nat} {xs : Nat → Int32} (B0 : Bz p room_1 s m #[Value.ref b] meth c D cy s.heap.size tB tE (fun q => s.heap.size ≤ q) 4 cL_law RL meth.sig.returnType meth.name 2048 84000 600000 7302250) (hX : va_X b 6 xs s s.heap) (hbl : b < s.heap.size) (hrw : ∀ i, i < 6 → rw i = some (a (36 + 2 * i))) (w : Nat → Int64) (fin : ∀ S S9 : GS, Z p l e room_1 s m #[Value.ref b] below meth c D (fun q => s.heap.size ≤ q) 4 (lw_Z below #[Value.ref b] s) 200 60000 (cw cy tE a rw S ++ mw cy a2 S9) [(3, .int 0), (2, .ref (a2 0)), (1, .ref (a 0)), (0, .ref b)] 1091 []) : Z p l e room_1 s m #[Value.ref b] below meth c D (fun q => s.heap.size ≤ q) 4 (lw_Z below #[Value.ref b] s) 200 60000 (cw cy tE a rw (cS0 w) ++ mw cy a2 mS0) [(3, .int 0), (2, .ref (a2 0)), (1, .ref (a 0)), (0, .ref b)] 349 [] := by
  obtain ⟨x1, e1⟩ : ∃ x, x = xs 1 := ⟨_, rfl⟩
  obtain ⟨x2, e2⟩ : ∃ x, x = xs 2 := ⟨_, rfl⟩
  obtain ⟨x3, e3⟩ : ∃ x, x = xs 3 := ⟨_, rfl⟩
  obtain ⟨x4, e4⟩ : ∃ x, x = xs 4 := ⟨_, rfl⟩
  obtain ⟨x5, e5⟩ : ∃ x, x = xs 5 := ⟨_, rfl⟩
  refine z_aload_n B0 dL_law_349 rfl rfl ?_
  refine z_aload_n B0 dL_law_350 rfl rfl ?_
  refine z_iload_n B0 dL_law_351 rfl rfl ?_
  refine z_iconst (v := 1) B0 dL_law_352 (by decide) ?_
  refine z_iadd (v := 1) B0 dL_law_353 (by decide) ?_
  refine y_sld (j := 1) (v := x1) B0 hX hbl (by decide) e1.symm dL_law_354 ?_
  refine z_aload_n B0 dL_law_355 rfl rfl ?_
  refine z_iload_n B0 dL_law_356 rfl rfl ?_
  refine z_iconst (v := 2) B0 dL_law_357 (by decide) ?_
  refine z_iadd (v := 2) B0 dL_law_358 (by decide) ?_
  refine y_sld (j := 2) (v := x2) B0 hX hbl (by decide) e2.symm dL_law_359 ?_
  refine z_aload_n B0 dL_law_360 rfl rfl ?_
  refine z_iload_n B0 dL_law_361 rfl rfl ?_
  refine z_iconst (v := 3) B0 dL_law_362 (by decide) ?_
  refine z_iadd (v := 3) B0 dL_law_363 (by decide) ?_
  refine y_sld (j := 3) (v := x3) B0 hX hbl (by decide) e3.symm dL_law_364 ?_
  refine z_aload_n B0 dL_law_365 rfl rfl ?_
  refine z_iload_n B0 dL_law_366 rfl rfl ?_
  refine z_iconst (v := 4) B0 dL_law_367 (by decide) ?_
  refine z_iadd (v := 4) B0 dL_law_368 (by decide) ?_
  refine y_sld (j := 4) (v := x4) B0 hX hbl (by decide) e4.symm dL_law_369 ?_
  refine z_aload_n B0 dL_law_370 rfl rfl ?_
  refine z_iload_n B0 dL_law_371 rfl rfl ?_
  refine z_iconst (v := 5) B0 dL_law_372 (by decide) ?_
  refine z_iadd (v := 5) B0 dL_law_373 (by decide) ?_
  refine y_sld (j := 5) (v := x5) B0 hX hbl (by decide) e5.symm dL_law_374 ?_
  refine z_callC B0 (z_runV (q0 := 0) (As := [.int x1, .int x2, .int x3, .int x4, .int x5]) (st := []) B0 (c_X11_feed (a := a) (cS0 w) x1 x2 x3 x4 x5 rfl) cf_X11_feed (cw_0 cy tE a rw (cS0 w)) rfl wm_L_37 wi_X11_feed ws_X11_feed dL_law_375 rfl (Nat.le_of_ble_eq_true rfl) ⟨by decide, by decide, by decide, by decide⟩) (fun r1 u1 p1 => ?_)
  obtain ⟨rfl, -⟩ := p1
  refine z_aload_n B0 dL_law_378 rfl rfl ?_
  refine z_aload_n B0 dL_law_379 rfl rfl ?_
  refine z_iload_n B0 dL_law_380 rfl rfl ?_
  refine z_iconst (v := 1) B0 dL_law_381 (by decide) ?_
  refine z_iadd (v := 1) B0 dL_law_382 (by decide) ?_
  refine y_sld (j := 1) (v := x1) B0 hX hbl (by decide) e1.symm dL_law_383 ?_
  refine z_aload_n B0 dL_law_384 rfl rfl ?_
  refine z_iload_n B0 dL_law_385 rfl rfl ?_
  refine z_iconst (v := 2) B0 dL_law_386 (by decide) ?_
  refine z_iadd (v := 2) B0 dL_law_387 (by decide) ?_
  refine y_sld (j := 2) (v := x2) B0 hX hbl (by decide) e2.symm dL_law_388 ?_
  refine z_aload_n B0 dL_law_389 rfl rfl ?_
  refine z_iload_n B0 dL_law_390 rfl rfl ?_
  refine z_iconst (v := 3) B0 dL_law_391 (by decide) ?_
  refine z_iadd (v := 3) B0 dL_law_392 (by decide) ?_
  refine y_sld (j := 3) (v := x3) B0 hX hbl (by decide) e3.symm dL_law_393 ?_
  refine z_aload_n B0 dL_law_394 rfl rfl ?_
  refine z_iload_n B0 dL_law_395 rfl rfl ?_
  refine z_iconst (v := 4) B0 dL_law_396 (by decide) ?_
  refine z_iadd (v := 4) B0 dL_law_397 (by decide) ?_
  refine y_sld (j := 4) (v := x4) B0 hX hbl (by decide) e4.symm dL_law_398 ?_
  refine z_aload_n B0 dL_law_399 rfl rfl ?_
  refine z_iload_n B0 dL_law_400 rfl rfl ?_
  refine z_iconst (v := 5) B0 dL_law_401 (by decide) ?_
  refine z_iadd (v := 5) B0 dL_law_402 (by decide) ?_
  refine y_sld (j := 5) (v := x5) B0 hX hbl (by decide) e5.symm dL_law_403 ?_
  refine z_callM B0 (z_runV (q0 := 0) (As := [.int x1, .int x2, .int x3, .int x4, .int x5]) (st := [.int 20]) B0 (c_X12_feed (a := a2) mS0 x1 x2 x3 x4 x5 rfl) cf_X12_feed (mw_0 cy a2 mS0) rfl wm_L_41 wi_X12_feed ws_X12_feed dL_law_404 rfl (Nat.le_of_ble_eq_true rfl) ⟨by decide, by decide, by decide, by decide⟩) (fun r2 u2 p2 => ?_)
  obtain ⟨rfl, -⟩ := p2
  refine z_icmp_eq_t (tgt := 1091) B0 dL_law_407 (by decide) rfl ?_
  exact fin u1 u2

set_option maxHeartbeats 8000000 in
set_option maxRecDepth 100000 in
theorem lo_end {p : Program} {l : Launch} {e : Env} {s : State} {m : MethodId} {below : List Frame} {meth : Method} {c : Code} {D : va_G} {cy : Nat → ClassId} {tB tE b : Nat} {a a2 : Nat → Nat} {rw : Nat → Option Nat} {xs : Nat → Int32} (B0 : Bz p room_1 s m #[Value.ref b] meth c D cy s.heap.size tB tE (fun q => s.heap.size ≤ q) 4 cL_law RL meth.sig.returnType meth.name 2048 84000 600000 7302250) (hX : va_X b 6 xs s s.heap) (hbl : b < s.heap.size) (hrw : ∀ i, i < 6 → rw i = some (a (36 + 2 * i))) (w : Nat → Int64) (fin : ∀ S S9 : GS, Z p l e room_1 s m #[Value.ref b] below meth c D (fun q => s.heap.size ≤ q) 4 (lw_Z below #[Value.ref b] s) 200 60000 (cw cy tE a rw S ++ mw cy a2 S9) [(3, .int 0), (2, .ref (a2 0)), (1, .ref (a 0)), (0, .ref b)] 1091 []) : Z p l e room_1 s m #[Value.ref b] below meth c D (fun q => s.heap.size ≤ q) 4 (lw_Z below #[Value.ref b] s) 200 60000 (cw cy tE a rw (cS0 w) ++ mw cy a2 mS0) [(3, .int 0), (2, .ref (a2 0)), (1, .ref (a 0)), (0, .ref b)] 412 [] := by
  obtain ⟨x1, e1⟩ : ∃ x, x = xs 1 := ⟨_, rfl⟩
  rcases (show ((-2147483648) ≤ x1.toInt ∧ x1.toInt ≤ (-1)) ∨ x1.toInt = 0 ∨ (1 ≤ x1.toInt ∧ x1.toInt ≤ 2147483647) by have g1 := Int32.le_toInt x1; have g2 := Int32.toInt_lt x1; omega) with h1 | h1 | h1
  · refine z_aload_n B0 dL_law_412 rfl rfl ?_
    refine z_aload_n B0 dL_law_413 rfl rfl ?_
    refine z_iload_n B0 dL_law_414 rfl rfl ?_
    refine z_iconst (v := 1) B0 dL_law_415 (by decide) ?_
    refine z_iadd (v := 1) B0 dL_law_416 (by decide) ?_
    refine y_sld (j := 1) (v := x1) B0 hX hbl (by decide) e1.symm dL_law_417 ?_
    refine z_callC B0 (z_runV (q0 := 0) (As := [.int x1]) (st := []) B0 (c_X11_end (a := a) (cS0 w) x1 rfl ⟨by omega, by omega⟩) cf_X11_end (cw_0 cy tE a rw (cS0 w)) rfl wm_L_42 wi_X11_end ws_X11_end dL_law_418 rfl (Nat.le_of_ble_eq_true rfl) ⟨by decide, by decide, by decide, by decide⟩) (fun r1 u1 p1 => ?_)
    obtain ⟨rfl, -⟩ := p1
    refine z_aload_n B0 dL_law_421 rfl rfl ?_
    refine z_aload_n B0 dL_law_422 rfl rfl ?_
    refine z_iload_n B0 dL_law_423 rfl rfl ?_
    refine z_iconst (v := 1) B0 dL_law_424 (by decide) ?_
    refine z_iadd (v := 1) B0 dL_law_425 (by decide) ?_
    refine y_sld (j := 1) (v := x1) B0 hX hbl (by decide) e1.symm dL_law_426 ?_
    refine z_callM B0 (z_runV (q0 := 0) (As := [.int x1]) (st := [.int 0]) B0 (c_X12_end (a := a2) mS0 x1 rfl ⟨by omega, by omega⟩) cf_X12_end (mw_0 cy a2 mS0) rfl wm_L_45 wi_X12_end ws_X12_end dL_law_427 rfl (Nat.le_of_ble_eq_true rfl) ⟨by decide, by decide, by decide, by decide⟩) (fun r2 u2 p2 => ?_)
    obtain ⟨rfl, -⟩ := p2
    refine z_icmp_eq_t (tgt := 1091) B0 dL_law_430 (by decide) rfl ?_
    exact fin u1 u2
  · obtain rfl : x1 = 0 := Int32.toInt_inj.mp (h1.trans (by decide))
    refine z_aload_n B0 dL_law_412 rfl rfl ?_
    refine z_aload_n B0 dL_law_413 rfl rfl ?_
    refine z_iload_n B0 dL_law_414 rfl rfl ?_
    refine z_iconst (v := 1) B0 dL_law_415 (by decide) ?_
    refine z_iadd (v := 1) B0 dL_law_416 (by decide) ?_
    refine y_sld (j := 1) (v := 0) B0 hX hbl (by decide) e1.symm dL_law_417 ?_
    refine z_callC B0 (z_runV (q0 := 0) (As := [.int 0]) (st := []) B0 (c_X11_end_2 (a := a) (cS0 w)  rfl) cf_X11_end (cw_0 cy tE a rw (cS0 w)) rfl wm_L_42 wi_X11_end ws_X11_end dL_law_418 rfl (Nat.le_of_ble_eq_true rfl) ⟨by decide, by decide, by decide, by decide⟩) (fun r1 u1 p1 => ?_)
    obtain ⟨rfl, -⟩ := p1
    refine z_aload_n B0 dL_law_421 rfl rfl ?_
    refine z_aload_n B0 dL_law_422 rfl rfl ?_
    refine z_iload_n B0 dL_law_423 rfl rfl ?_
    refine z_iconst (v := 1) B0 dL_law_424 (by decide) ?_
    refine z_iadd (v := 1) B0 dL_law_425 (by decide) ?_
    refine y_sld (j := 1) (v := 0) B0 hX hbl (by decide) e1.symm dL_law_426 ?_
    refine z_callM B0 (z_runV (q0 := 0) (As := [.int 0]) (st := [.int 1]) B0 (c_X12_end_2 (a := a2) mS0  rfl) cf_X12_end (mw_0 cy a2 mS0) rfl wm_L_45 wi_X12_end ws_X12_end dL_law_427 rfl (Nat.le_of_ble_eq_true rfl) ⟨by decide, by decide, by decide, by decide⟩) (fun r2 u2 p2 => ?_)
    obtain ⟨rfl, -⟩ := p2
    refine z_icmp_eq_t (tgt := 1091) B0 dL_law_430 (by decide) rfl ?_
    exact fin u1 u2
  · refine z_aload_n B0 dL_law_412 rfl rfl ?_
    refine z_aload_n B0 dL_law_413 rfl rfl ?_
    refine z_iload_n B0 dL_law_414 rfl rfl ?_
    refine z_iconst (v := 1) B0 dL_law_415 (by decide) ?_
    refine z_iadd (v := 1) B0 dL_law_416 (by decide) ?_
    refine y_sld (j := 1) (v := x1) B0 hX hbl (by decide) e1.symm dL_law_417 ?_
    refine z_callC B0 (z_runV (q0 := 0) (As := [.int x1]) (st := []) B0 (c_X11_end_3 (a := a) (cS0 w) x1 rfl ⟨by omega, by omega⟩) cf_X11_end (cw_0 cy tE a rw (cS0 w)) rfl wm_L_42 wi_X11_end ws_X11_end dL_law_418 rfl (Nat.le_of_ble_eq_true rfl) ⟨by decide, by decide, by decide, by decide⟩) (fun r1 u1 p1 => ?_)
    obtain ⟨rfl, -⟩ := p1
    refine z_aload_n B0 dL_law_421 rfl rfl ?_
    refine z_aload_n B0 dL_law_422 rfl rfl ?_
    refine z_iload_n B0 dL_law_423 rfl rfl ?_
    refine z_iconst (v := 1) B0 dL_law_424 (by decide) ?_
    refine z_iadd (v := 1) B0 dL_law_425 (by decide) ?_
    refine y_sld (j := 1) (v := x1) B0 hX hbl (by decide) e1.symm dL_law_426 ?_
    refine z_callM B0 (z_runV (q0 := 0) (As := [.int x1]) (st := [.int 0]) B0 (c_X12_end_3 (a := a2) mS0 x1 rfl ⟨by omega, by omega⟩) cf_X12_end (mw_0 cy a2 mS0) rfl wm_L_45 wi_X12_end ws_X12_end dL_law_427 rfl (Nat.le_of_ble_eq_true rfl) ⟨by decide, by decide, by decide, by decide⟩) (fun r2 u2 p2 => ?_)
    obtain ⟨rfl, -⟩ := p2
    refine z_icmp_eq_t (tgt := 1091) B0 dL_law_430 (by decide) rfl ?_
    exact fin u1 u2

